/-! decode rows, by program -/
theorem d_rm_lies_18 : decode rm_lies.2.1 18 = .ok (.iand, 1) := by decide +kernel
theorem d_rm_lies_19 : decode rm_lies.2.1 19 = .ok (.aload_n 0, 1) := by decide +kernel
theorem d_rm_lies_20 : decode rm_lies.2.1 20 = .ok (.getfield 13, 3) := by decide +kernel
theorem d_rm_lies_23 : decode rm_lies.2.1 23 = .ok (.iload_n 1, 1) := by decide +kernel
theorem d_rm_lies_24 : decode rm_lies.2.1 24 = .ok (.iaload, 1) := by decide +kernel
theorem d_rm_lies_25 : decode rm_lies.2.1 25 = .ok (.irem, 1) := by decide +kernel
theorem d_rm_lies_26 : decode rm_lies.2.1 26 = .ok (.iadd, 1) := by decide +kernel
theorem d_rm_lies_27 : decode rm_lies.2.1 27 = .ok (.ireturn, 1) := by decide +kernel
theorem d_rm_thenMove_0 : decode rm_thenMove.2.1 0 = .ok (.iload_n 0, 1) := by decide +kernel
theorem d_rm_thenMove_1 : decode rm_thenMove.2.1 1 = .ok (.iload_n 1, 1) := by decide +kernel
theorem d_rm_thenMove_2 : decode rm_thenMove.2.1 2 = .ok (.ixor, 1) := by decide +kernel
theorem d_rm_thenMove_3 : decode rm_thenMove.2.1 3 = .ok (.iconst 4, 1) := by decide +kernel
theorem d_rm_thenMove_4 : decode rm_thenMove.2.1 4 = .ok (.iand, 1) := by decide +kernel
theorem d_rm_thenMove_5 : decode rm_thenMove.2.1 5 = .ok (.iload_n 1, 1) := by decide +kernel
theorem d_rm_thenMove_6 : decode rm_thenMove.2.1 6 = .ok (.iload_n 1, 1) := by decide +kernel
theorem d_rm_thenMove_7 : decode rm_thenMove.2.1 7 = .ok (.iconst 4, 1) := by decide +kernel
theorem d_rm_thenMove_8 : decode rm_thenMove.2.1 8 = .ok (.iand, 1) := by decide +kernel
theorem d_rm_thenMove_9 : decode rm_thenMove.2.1 9 = .ok (.ifCond .ne 7, 3) := by decide +kernel
theorem d_rm_thenMove_12 : decode rm_thenMove.2.1 12 = .ok (.iload_n 0, 1) := by decide +kernel
theorem d_rm_thenMove_13 : decode rm_thenMove.2.1 13 = .ok (.goto 5, 3) := by decide +kernel
theorem d_rm_thenMove_16 : decode rm_thenMove.2.1 16 = .ok (.iload_n 0, 1) := by decide +kernel
theorem d_rm_thenMove_17 : decode rm_thenMove.2.1 17 = .ok (.ineg, 1) := by decide +kernel
theorem d_rm_thenMove_18 : decode rm_thenMove.2.1 18 = .ok (.iadd, 1) := by decide +kernel
theorem d_rm_thenMove_19 : decode rm_thenMove.2.1 19 = .ok (.iconst 3, 1) := by decide +kernel
theorem d_rm_thenMove_20 : decode rm_thenMove.2.1 20 = .ok (.iand, 1) := by decide +kernel
theorem d_rm_thenMove_21 : decode rm_thenMove.2.1 21 = .ok (.ior, 1) := by decide +kernel
theorem d_rm_thenMove_22 : decode rm_thenMove.2.1 22 = .ok (.ireturn, 1) := by decide +kernel
theorem d_rm_then_0 : decode rm_then.2.1 0 = .ok (.iload_n 1, 1) := by decide +kernel
theorem d_rm_then_1 : decode rm_then.2.1 1 = .ok (.invokestatic 137, 3) := by decide +kernel
theorem d_rm_then_4 : decode rm_then.2.1 4 = .ok (.ifCond .eq 18, 3) := by decide +kernel
theorem d_rm_then_7 : decode rm_then.2.1 7 = .ok (.iload_n 2, 1) := by decide +kernel
theorem d_rm_then_8 : decode rm_then.2.1 8 = .ok (.invokestatic 137, 3) := by decide +kernel
theorem d_rm_then_11 : decode rm_then.2.1 11 = .ok (.ifCond .eq 11, 3) := by decide +kernel
theorem d_rm_then_14 : decode rm_then.2.1 14 = .ok (.iload_n 1, 1) := by decide +kernel
theorem d_rm_then_15 : decode rm_then.2.1 15 = .ok (.iload_n 2, 1) := by decide +kernel
theorem d_rm_then_16 : decode rm_then.2.1 16 = .ok (.invokestatic 141, 3) := by decide +kernel
theorem d_rm_then_19 : decode rm_then.2.1 19 = .ok (.goto 4, 3) := by decide +kernel
theorem d_rm_then_22 : decode rm_then.2.1 22 = .ok (.iconst (-1), 1) := by decide +kernel
theorem d_rm_then_23 : decode rm_then.2.1 23 = .ok (.ireturn, 1) := by decide +kernel
theorem d_rm_colour_0 : decode rm_colour.2.1 0 = .ok (.iload_n 3, 1) := by decide +kernel
theorem d_rm_colour_1 : decode rm_colour.2.1 1 = .ok (.iload_n 2, 1) := by decide +kernel
theorem d_rm_colour_2 : decode rm_colour.2.1 2 = .ok (.isub, 1) := by decide +kernel
theorem d_rm_colour_3 : decode rm_colour.2.1 3 = .ok (.iconst 3, 1) := by decide +kernel
theorem d_rm_colour_4 : decode rm_colour.2.1 4 = .ok (.iand, 1) := by decide +kernel
theorem d_rm_colour_5 : decode rm_colour.2.1 5 = .ok (.istore 4, 2) := by decide +kernel
theorem d_rm_colour_7 : decode rm_colour.2.1 7 = .ok (.iload_n 2, 1) := by decide +kernel
theorem d_rm_colour_8 : decode rm_colour.2.1 8 = .ok (.iconst 4, 1) := by decide +kernel
theorem d_rm_colour_9 : decode rm_colour.2.1 9 = .ok (.iand, 1) := by decide +kernel
theorem d_rm_colour_10 : decode rm_colour.2.1 10 = .ok (.ifCond .eq 17, 3) := by decide +kernel
theorem d_rm_colour_13 : decode rm_colour.2.1 13 = .ok (.iload 4, 2) := by decide +kernel
theorem d_rm_colour_15 : decode rm_colour.2.1 15 = .ok (.iconst 1, 1) := by decide +kernel
theorem d_rm_colour_16 : decode rm_colour.2.1 16 = .ok (.iand, 1) := by decide +kernel
theorem d_rm_colour_17 : decode rm_colour.2.1 17 = .ok (.iconst 1, 1) := by decide +kernel
theorem d_rm_colour_18 : decode rm_colour.2.1 18 = .ok (.if_icmp .ne 9, 3) := by decide +kernel
theorem d_rm_colour_21 : decode rm_colour.2.1 21 = .ok (.iconst 4, 1) := by decide +kernel
theorem d_rm_colour_22 : decode rm_colour.2.1 22 = .ok (.iload 4, 2) := by decide +kernel
theorem d_rm_colour_24 : decode rm_colour.2.1 24 = .ok (.isub, 1) := by decide +kernel
theorem d_rm_colour_25 : decode rm_colour.2.1 25 = .ok (.istore 4, 2) := by decide +kernel
theorem d_rm_colour_27 : decode rm_colour.2.1 27 = .ok (.aload_n 0, 1) := by decide +kernel
theorem d_rm_colour_28 : decode rm_colour.2.1 28 = .ok (.getfield 7, 3) := by decide +kernel
theorem d_rm_colour_31 : decode rm_colour.2.1 31 = .ok (.iload_n 1, 1) := by decide +kernel
theorem d_rm_colour_32 : decode rm_colour.2.1 32 = .ok (.iaload, 1) := by decide +kernel
theorem d_rm_colour_33 : decode rm_colour.2.1 33 = .ok (.iconst 4, 1) := by decide +kernel
theorem d_rm_colour_34 : decode rm_colour.2.1 34 = .ok (.iload 4, 2) := by decide +kernel
theorem d_rm_colour_36 : decode rm_colour.2.1 36 = .ok (.imul, 1) := by decide +kernel
theorem d_rm_colour_37 : decode rm_colour.2.1 37 = .ok (.ishr, 1) := by decide +kernel
theorem d_rm_colour_38 : decode rm_colour.2.1 38 = .ok (.bipush 15, 2) := by decide +kernel
theorem d_rm_colour_40 : decode rm_colour.2.1 40 = .ok (.iand, 1) := by decide +kernel
theorem d_rm_colour_41 : decode rm_colour.2.1 41 = .ok (.ireturn, 1) := by decide +kernel
theorem d_rm_edge_0 : decode rm_edge.2.1 0 = .ok (.aload_n 0, 1) := by decide +kernel
theorem d_rm_edge_1 : decode rm_edge.2.1 1 = .ok (.iload_n 1, 1) := by decide +kernel
theorem d_rm_edge_2 : decode rm_edge.2.1 2 = .ok (.invokevirtual 145, 3) := by decide +kernel
theorem d_rm_edge_5 : decode rm_edge.2.1 5 = .ok (.ifCond .eq 19, 3) := by decide +kernel
theorem d_rm_edge_8 : decode rm_edge.2.1 8 = .ok (.iload_n 2, 1) := by decide +kernel
theorem d_rm_edge_9 : decode rm_edge.2.1 9 = .ok (.invokestatic 137, 3) := by decide +kernel
theorem d_rm_edge_12 : decode rm_edge.2.1 12 = .ok (.ifCond .eq 12, 3) := by decide +kernel
theorem d_rm_edge_15 : decode rm_edge.2.1 15 = .ok (.iload_n 3, 1) := by decide +kernel
theorem d_rm_edge_16 : decode rm_edge.2.1 16 = .ok (.ifCond .lt 8, 3) := by decide +kernel
theorem d_rm_edge_19 : decode rm_edge.2.1 19 = .ok (.iload_n 3, 1) := by decide +kernel
theorem d_rm_edge_20 : decode rm_edge.2.1 20 = .ok (.iconst 4, 1) := by decide +kernel
theorem d_rm_edge_21 : decode rm_edge.2.1 21 = .ok (.if_icmp .le 5, 3) := by decide +kernel
theorem d_rm_edge_24 : decode rm_edge.2.1 24 = .ok (.iconst (-1), 1) := by decide +kernel
theorem d_rm_edge_25 : decode rm_edge.2.1 25 = .ok (.ireturn, 1) := by decide +kernel
theorem d_rm_edge_26 : decode rm_edge.2.1 26 = .ok (.aload_n 0, 1) := by decide +kernel
theorem d_rm_edge_27 : decode rm_edge.2.1 27 = .ok (.iload_n 1, 1) := by decide +kernel
theorem d_rm_edge_28 : decode rm_edge.2.1 28 = .ok (.iload_n 2, 1) := by decide +kernel
theorem d_rm_edge_29 : decode rm_edge.2.1 29 = .ok (.invokevirtual 148, 3) := by decide +kernel
theorem d_rm_edge_32 : decode rm_edge.2.1 32 = .ok (.istore 4, 2) := by decide +kernel
theorem d_rm_edge_34 : decode rm_edge.2.1 34 = .ok (.iload_n 3, 1) := by decide +kernel
theorem d_rm_edge_35 : decode rm_edge.2.1 35 = .ok (.iconst 4, 1) := by decide +kernel
theorem d_rm_edge_36 : decode rm_edge.2.1 36 = .ok (.if_icmp .ne 8, 3) := by decide +kernel
theorem d_rm_edge_39 : decode rm_edge.2.1 39 = .ok (.iload 4, 2) := by decide +kernel
theorem d_rm_edge_41 : decode rm_edge.2.1 41 = .ok (.goto 11, 3) := by decide +kernel
theorem d_rm_edge_44 : decode rm_edge.2.1 44 = .ok (.aload_n 0, 1) := by decide +kernel
theorem d_rm_edge_45 : decode rm_edge.2.1 45 = .ok (.iload_n 1, 1) := by decide +kernel
theorem d_rm_edge_46 : decode rm_edge.2.1 46 = .ok (.iload 4, 2) := by decide +kernel
theorem d_rm_edge_48 : decode rm_edge.2.1 48 = .ok (.iload_n 3, 1) := by decide +kernel
theorem d_rm_edge_49 : decode rm_edge.2.1 49 = .ok (.invokevirtual 151, 3) := by decide +kernel
theorem d_rm_edge_52 : decode rm_edge.2.1 52 = .ok (.ireturn, 1) := by decide +kernel
theorem d_rm_cell_0 : decode rm_cell.2.1 0 = .ok (.iload_n 2, 1) := by decide +kernel
theorem d_rm_cell_1 : decode rm_cell.2.1 1 = .ok (.bipush 16, 2) := by decide +kernel
theorem d_rm_cell_3 : decode rm_cell.2.1 3 = .ok (.ishl, 1) := by decide +kernel
theorem d_rm_cell_4 : decode rm_cell.2.1 4 = .ok (.bipush 8, 2) := by decide +kernel
theorem d_rm_cell_6 : decode rm_cell.2.1 6 = .ok (.iload_n 0, 1) := by decide +kernel
theorem d_rm_cell_7 : decode rm_cell.2.1 7 = .ok (.imul, 1) := by decide +kernel
theorem d_rm_cell_8 : decode rm_cell.2.1 8 = .ok (.iload_n 1, 1) := by decide +kernel
theorem d_rm_cell_9 : decode rm_cell.2.1 9 = .ok (.iadd, 1) := by decide +kernel
theorem d_rm_cell_10 : decode rm_cell.2.1 10 = .ok (.iconst 1, 1) := by decide +kernel
theorem d_rm_cell_11 : decode rm_cell.2.1 11 = .ok (.iadd, 1) := by decide +kernel
theorem d_rm_cell_12 : decode rm_cell.2.1 12 = .ok (.ior, 1) := by decide +kernel
theorem d_rm_cell_13 : decode rm_cell.2.1 13 = .ok (.ireturn, 1) := by decide +kernel
theorem d_rm_kindOf_0 : decode rm_kindOf.2.1 0 = .ok (.iload_n 0, 1) := by decide +kernel
theorem d_rm_kindOf_1 : decode rm_kindOf.2.1 1 = .ok (.ldc 155, 2) := by decide +kernel
theorem d_rm_kindOf_3 : decode rm_kindOf.2.1 3 = .ok (.iand, 1) := by decide +kernel
theorem d_rm_kindOf_4 : decode rm_kindOf.2.1 4 = .ok (.iconst 1, 1) := by decide +kernel
theorem d_rm_kindOf_5 : decode rm_kindOf.2.1 5 = .ok (.isub, 1) := by decide +kernel
theorem d_rm_kindOf_6 : decode rm_kindOf.2.1 6 = .ok (.iconst 3, 1) := by decide +kernel
theorem d_rm_kindOf_7 : decode rm_kindOf.2.1 7 = .ok (.ishr, 1) := by decide +kernel
theorem d_rm_kindOf_8 : decode rm_kindOf.2.1 8 = .ok (.ireturn, 1) := by decide +kernel
theorem d_rm_moveOf_0 : decode rm_moveOf.2.1 0 = .ok (.iload_n 0, 1) := by decide +kernel
theorem d_rm_moveOf_1 : decode rm_moveOf.2.1 1 = .ok (.ldc 155, 2) := by decide +kernel
theorem d_rm_moveOf_3 : decode rm_moveOf.2.1 3 = .ok (.iand, 1) := by decide +kernel
theorem d_rm_moveOf_4 : decode rm_moveOf.2.1 4 = .ok (.iconst 1, 1) := by decide +kernel
theorem d_rm_moveOf_5 : decode rm_moveOf.2.1 5 = .ok (.isub, 1) := by decide +kernel
theorem d_rm_moveOf_6 : decode rm_moveOf.2.1 6 = .ok (.bipush 7, 2) := by decide +kernel
theorem d_rm_moveOf_8 : decode rm_moveOf.2.1 8 = .ok (.iand, 1) := by decide +kernel
theorem d_rm_moveOf_9 : decode rm_moveOf.2.1 9 = .ok (.ireturn, 1) := by decide +kernel
theorem d_rm_shadeOf_0 : decode rm_shadeOf.2.1 0 = .ok (.iload_n 0, 1) := by decide +kernel
theorem d_rm_shadeOf_1 : decode rm_shadeOf.2.1 1 = .ok (.bipush 16, 2) := by decide +kernel
theorem d_rm_shadeOf_3 : decode rm_shadeOf.2.1 3 = .ok (.ishr, 1) := by decide +kernel
theorem d_rm_shadeOf_4 : decode rm_shadeOf.2.1 4 = .ok (.ireturn, 1) := by decide +kernel
theorem d_rm_moved_0 : decode rm_moved.2.1 0 = .ok (.iload_n 1, 1) := by decide +kernel
theorem d_rm_moved_1 : decode rm_moved.2.1 1 = .ok (.ifCond .ne 7, 3) := by decide +kernel
theorem d_rm_moved_4 : decode rm_moved.2.1 4 = .ok (.iconst 0, 1) := by decide +kernel
theorem d_rm_moved_5 : decode rm_moved.2.1 5 = .ok (.goto 30, 3) := by decide +kernel
theorem d_rm_moved_8 : decode rm_moved.2.1 8 = .ok (.iload_n 1, 1) := by decide +kernel
theorem d_rm_moved_9 : decode rm_moved.2.1 9 = .ok (.invokestatic 156, 3) := by decide +kernel
theorem d_rm_moved_12 : decode rm_moved.2.1 12 = .ok (.aload_n 0, 1) := by decide +kernel
theorem d_rm_moved_13 : decode rm_moved.2.1 13 = .ok (.iload_n 1, 1) := by decide +kernel
theorem d_rm_moved_14 : decode rm_moved.2.1 14 = .ok (.invokestatic 156, 3) := by decide +kernel
theorem d_rm_moved_17 : decode rm_moved.2.1 17 = .ok (.iload_n 1, 1) := by decide +kernel
theorem d_rm_moved_18 : decode rm_moved.2.1 18 = .ok (.invokestatic 160, 3) := by decide +kernel
theorem d_rm_moved_21 : decode rm_moved.2.1 21 = .ok (.iload_n 2, 1) := by decide +kernel
theorem d_rm_moved_22 : decode rm_moved.2.1 22 = .ok (.invokestatic 141, 3) := by decide +kernel
theorem d_rm_moved_25 : decode rm_moved.2.1 25 = .ok (.invokevirtual 148, 3) := by decide +kernel
theorem d_rm_moved_28 : decode rm_moved.2.1 28 = .ok (.iload_n 1, 1) := by decide +kernel
theorem d_rm_moved_29 : decode rm_moved.2.1 29 = .ok (.invokestatic 163, 3) := by decide +kernel
theorem d_rm_moved_32 : decode rm_moved.2.1 32 = .ok (.invokestatic 166, 3) := by decide +kernel
theorem d_rm_moved_35 : decode rm_moved.2.1 35 = .ok (.ireturn, 1) := by decide +kernel
theorem d_rm_fit_0 : decode rm_fit.2.1 0 = .ok (.iload_n 1, 1) := by decide +kernel
theorem d_rm_fit_1 : decode rm_fit.2.1 1 = .ok (.ifCond .eq 40, 3) := by decide +kernel
theorem d_rm_fit_4 : decode rm_fit.2.1 4 = .ok (.iload_n 2, 1) := by decide +kernel
theorem d_rm_fit_5 : decode rm_fit.2.1 5 = .ok (.ifCond .eq 36, 3) := by decide +kernel
theorem d_rm_fit_8 : decode rm_fit.2.1 8 = .ok (.aload_n 0, 1) := by decide +kernel
theorem d_rm_fit_9 : decode rm_fit.2.1 9 = .ok (.iload_n 1, 1) := by decide +kernel
theorem d_rm_fit_10 : decode rm_fit.2.1 10 = .ok (.invokestatic 156, 3) := by decide +kernel
theorem d_rm_fit_13 : decode rm_fit.2.1 13 = .ok (.iload_n 1, 1) := by decide +kernel
theorem d_rm_fit_14 : decode rm_fit.2.1 14 = .ok (.invokestatic 160, 3) := by decide +kernel
theorem d_rm_fit_17 : decode rm_fit.2.1 17 = .ok (.iload_n 3, 1) := by decide +kernel
theorem d_rm_fit_18 : decode rm_fit.2.1 18 = .ok (.invokevirtual 151, 3) := by decide +kernel
theorem d_rm_fit_21 : decode rm_fit.2.1 21 = .ok (.aload_n 0, 1) := by decide +kernel
theorem d_rm_fit_22 : decode rm_fit.2.1 22 = .ok (.iload_n 2, 1) := by decide +kernel
theorem d_rm_fit_23 : decode rm_fit.2.1 23 = .ok (.invokestatic 156, 3) := by decide +kernel
theorem d_rm_fit_26 : decode rm_fit.2.1 26 = .ok (.iload_n 2, 1) := by decide +kernel
theorem d_rm_fit_27 : decode rm_fit.2.1 27 = .ok (.invokestatic 160, 3) := by decide +kernel
theorem d_rm_fit_30 : decode rm_fit.2.1 30 = .ok (.iload_n 3, 1) := by decide +kernel
theorem d_rm_fit_31 : decode rm_fit.2.1 31 = .ok (.iconst 2, 1) := by decide +kernel
theorem d_rm_fit_32 : decode rm_fit.2.1 32 = .ok (.iadd, 1) := by decide +kernel
theorem d_rm_fit_33 : decode rm_fit.2.1 33 = .ok (.iconst 3, 1) := by decide +kernel
theorem d_rm_fit_34 : decode rm_fit.2.1 34 = .ok (.iand, 1) := by decide +kernel
theorem d_rm_fit_35 : decode rm_fit.2.1 35 = .ok (.invokevirtual 151, 3) := by decide +kernel
theorem d_rm_fit_38 : decode rm_fit.2.1 38 = .ok (.if_icmp .ne 7, 3) := by decide +kernel
theorem d_rm_fit_41 : decode rm_fit.2.1 41 = .ok (.iconst 1, 1) := by decide +kernel
theorem d_rm_fit_42 : decode rm_fit.2.1 42 = .ok (.goto 4, 3) := by decide +kernel
theorem d_rm_fit_45 : decode rm_fit.2.1 45 = .ok (.iconst 0, 1) := by decide +kernel
theorem d_rm_fit_46 : decode rm_fit.2.1 46 = .ok (.ireturn, 1) := by decide +kernel
theorem d_rm_isPattern_0 : decode rm_isPattern.2.1 0 = .ok (.iload_n 1, 1) := by decide +kernel
theorem d_rm_isPattern_1 : decode rm_isPattern.2.1 1 = .ok (.ifCond .lt 15, 3) := by decide +kernel
theorem d_rm_isPattern_4 : decode rm_isPattern.2.1 4 = .ok (.iload_n 1, 1) := by decide +kernel
theorem d_rm_isPattern_5 : decode rm_isPattern.2.1 5 = .ok (.aload_n 0, 1) := by decide +kernel
theorem d_rm_isPattern_6 : decode rm_isPattern.2.1 6 = .ok (.getfield 169, 3) := by decide +kernel
theorem d_rm_isPattern_9 : decode rm_isPattern.2.1 9 = .ok (.if_icmp .ge 7, 3) := by decide +kernel
theorem d_rm_isPattern_12 : decode rm_isPattern.2.1 12 = .ok (.iconst 1, 1) := by decide +kernel
theorem d_rm_isPattern_13 : decode rm_isPattern.2.1 13 = .ok (.goto 4, 3) := by decide +kernel
theorem d_rm_isPattern_16 : decode rm_isPattern.2.1 16 = .ok (.iconst 0, 1) := by decide +kernel
theorem d_rm_isPattern_17 : decode rm_isPattern.2.1 17 = .ok (.ireturn, 1) := by decide +kernel
theorem d_rm_rowOf_0 : decode rm_rowOf.2.1 0 = .ok (.aload_n 0, 1) := by decide +kernel
theorem d_rm_rowOf_1 : decode rm_rowOf.2.1 1 = .ok (.getfield 37, 3) := by decide +kernel
theorem d_rm_rowOf_4 : decode rm_rowOf.2.1 4 = .ok (.bipush 60, 2) := by decide +kernel
theorem d_rm_rowOf_6 : decode rm_rowOf.2.1 6 = .ok (.iload_n 1, 1) := by decide +kernel
theorem d_rm_rowOf_7 : decode rm_rowOf.2.1 7 = .ok (.imul, 1) := by decide +kernel
theorem d_rm_rowOf_8 : decode rm_rowOf.2.1 8 = .ok (.iload_n 2, 1) := by decide +kernel
theorem d_rm_rowOf_9 : decode rm_rowOf.2.1 9 = .ok (.iadd, 1) := by decide +kernel
theorem d_rm_rowOf_10 : decode rm_rowOf.2.1 10 = .ok (.iaload, 1) := by decide +kernel
theorem d_rm_rowOf_11 : decode rm_rowOf.2.1 11 = .ok (.ireturn, 1) := by decide +kernel
theorem d_rm_newRow_0 : decode rm_newRow.2.1 0 = .ok (.aload_n 0, 1) := by decide +kernel
theorem d_rm_newRow_1 : decode rm_newRow.2.1 1 = .ok (.getfield 27, 3) := by decide +kernel
theorem d_rm_newRow_4 : decode rm_newRow.2.1 4 = .ok (.aload_n 0, 1) := by decide +kernel
theorem d_rm_newRow_5 : decode rm_newRow.2.1 5 = .ok (.getfield 172, 3) := by decide +kernel
theorem d_rm_newRow_8 : decode rm_newRow.2.1 8 = .ok (.iload_n 1, 1) := by decide +kernel
theorem d_rm_newRow_9 : decode rm_newRow.2.1 9 = .ok (.iastore, 1) := by decide +kernel
theorem d_rm_newRow_10 : decode rm_newRow.2.1 10 = .ok (.aload_n 0, 1) := by decide +kernel
theorem d_rm_newRow_11 : decode rm_newRow.2.1 11 = .ok (.getfield 30, 3) := by decide +kernel
theorem d_rm_newRow_14 : decode rm_newRow.2.1 14 = .ok (.aload_n 0, 1) := by decide +kernel
theorem d_rm_newRow_15 : decode rm_newRow.2.1 15 = .ok (.getfield 172, 3) := by decide +kernel
theorem d_rm_newRow_18 : decode rm_newRow.2.1 18 = .ok (.iload_n 2, 1) := by decide +kernel
theorem d_rm_newRow_19 : decode rm_newRow.2.1 19 = .ok (.iastore, 1) := by decide +kernel
theorem d_rm_newRow_20 : decode rm_newRow.2.1 20 = .ok (.iconst 0, 1) := by decide +kernel
theorem d_rm_newRow_21 : decode rm_newRow.2.1 21 = .ok (.istore_n 3, 1) := by decide +kernel
theorem d_rm_newRow_22 : decode rm_newRow.2.1 22 = .ok (.iload_n 3, 1) := by decide +kernel
theorem d_rm_newRow_23 : decode rm_newRow.2.1 23 = .ok (.iload_n 1, 1) := by decide +kernel
theorem d_rm_newRow_24 : decode rm_newRow.2.1 24 = .ok (.if_icmp .ge 24, 3) := by decide +kernel
theorem d_rm_newRow_27 : decode rm_newRow.2.1 27 = .ok (.aload_n 0, 1) := by decide +kernel
theorem d_rm_newRow_28 : decode rm_newRow.2.1 28 = .ok (.getfield 34, 3) := by decide +kernel
theorem d_rm_newRow_31 : decode rm_newRow.2.1 31 = .ok (.bipush 60, 2) := by decide +kernel
theorem d_rm_newRow_33 : decode rm_newRow.2.1 33 = .ok (.aload_n 0, 1) := by decide +kernel
theorem d_rm_newRow_34 : decode rm_newRow.2.1 34 = .ok (.getfield 172, 3) := by decide +kernel
theorem d_rm_newRow_37 : decode rm_newRow.2.1 37 = .ok (.imul, 1) := by decide +kernel
theorem d_rm_newRow_38 : decode rm_newRow.2.1 38 = .ok (.iload_n 3, 1) := by decide +kernel
theorem d_rm_newRow_39 : decode rm_newRow.2.1 39 = .ok (.iadd, 1) := by decide +kernel
theorem d_rm_newRow_40 : decode rm_newRow.2.1 40 = .ok (.iconst 0, 1) := by decide +kernel
theorem d_rm_newRow_41 : decode rm_newRow.2.1 41 = .ok (.iastore, 1) := by decide +kernel
theorem d_rm_newRow_42 : decode rm_newRow.2.1 42 = .ok (.iinc 3 1, 3) := by decide +kernel
theorem d_rm_newRow_45 : decode rm_newRow.2.1 45 = .ok (.goto (-23), 3) := by decide +kernel
theorem d_rm_newRow_48 : decode rm_newRow.2.1 48 = .ok (.aload_n 0, 1) := by decide +kernel
theorem d_rm_newRow_49 : decode rm_newRow.2.1 49 = .ok (.dup, 1) := by decide +kernel
theorem d_rm_newRow_50 : decode rm_newRow.2.1 50 = .ok (.getfield 172, 3) := by decide +kernel
theorem d_rm_newRow_53 : decode rm_newRow.2.1 53 = .ok (.iconst 1, 1) := by decide +kernel
theorem d_rm_newRow_54 : decode rm_newRow.2.1 54 = .ok (.iadd, 1) := by decide +kernel
theorem d_rm_newRow_55 : decode rm_newRow.2.1 55 = .ok (.putfield 172, 3) := by decide +kernel
theorem d_rm_newRow_58 : decode rm_newRow.2.1 58 = .ok (.aload_n 0, 1) := by decide +kernel
theorem d_rm_newRow_59 : decode rm_newRow.2.1 59 = .ok (.getfield 172, 3) := by decide +kernel
theorem d_rm_newRow_62 : decode rm_newRow.2.1 62 = .ok (.iconst 1, 1) := by decide +kernel
theorem d_rm_newRow_63 : decode rm_newRow.2.1 63 = .ok (.isub, 1) := by decide +kernel
theorem d_rm_newRow_64 : decode rm_newRow.2.1 64 = .ok (.ireturn, 1) := by decide +kernel
theorem d_rm_has_0 : decode rm_has.2.1 0 = .ok (.lload_n 2, 1) := by decide +kernel
theorem d_rm_has_1 : decode rm_has.2.1 1 = .ok (.lconst 0, 1) := by decide +kernel
theorem d_rm_has_2 : decode rm_has.2.1 2 = .ok (.lcmp, 1) := by decide +kernel
theorem d_rm_has_3 : decode rm_has.2.1 3 = .ok (.ifCond .lt 15, 3) := by decide +kernel
theorem d_rm_has_6 : decode rm_has.2.1 6 = .ok (.lload_n 2, 1) := by decide +kernel
theorem d_rm_has_7 : decode rm_has.2.1 7 = .ok (.aload_n 0, 1) := by decide +kernel
theorem d_rm_has_8 : decode rm_has.2.1 8 = .ok (.getfield 40, 3) := by decide +kernel
theorem d_rm_has_11 : decode rm_has.2.1 11 = .ok (.iload_n 1, 1) := by decide +kernel
theorem d_rm_has_12 : decode rm_has.2.1 12 = .ok (.iaload, 1) := by decide +kernel
theorem d_rm_has_13 : decode rm_has.2.1 13 = .ok (.i2l, 1) := by decide +kernel
theorem d_rm_has_14 : decode rm_has.2.1 14 = .ok (.lcmp, 1) := by decide +kernel
theorem d_rm_has_15 : decode rm_has.2.1 15 = .ok (.ifCond .lt 5, 3) := by decide +kernel
theorem d_rm_has_18 : decode rm_has.2.1 18 = .ok (.iconst 0, 1) := by decide +kernel
theorem d_rm_has_19 : decode rm_has.2.1 19 = .ok (.ireturn, 1) := by decide +kernel
theorem d_rm_has_20 : decode rm_has.2.1 20 = .ok (.aload_n 0, 1) := by decide +kernel
theorem d_rm_has_21 : decode rm_has.2.1 21 = .ok (.iload_n 1, 1) := by decide +kernel
theorem d_rm_has_22 : decode rm_has.2.1 22 = .ok (.lload_n 2, 1) := by decide +kernel
theorem d_rm_has_23 : decode rm_has.2.1 23 = .ok (.l2i, 1) := by decide +kernel
theorem d_rm_has_24 : decode rm_has.2.1 24 = .ok (.invokevirtual 175, 3) := by decide +kernel
theorem d_rm_has_27 : decode rm_has.2.1 27 = .ok (.istore 6, 2) := by decide +kernel
theorem d_rm_has_29 : decode rm_has.2.1 29 = .ok (.lload 4, 2) := by decide +kernel
theorem d_rm_has_31 : decode rm_has.2.1 31 = .ok (.aload_n 0, 1) := by decide +kernel
theorem d_rm_has_32 : decode rm_has.2.1 32 = .ok (.getfield 30, 3) := by decide +kernel
theorem d_rm_has_35 : decode rm_has.2.1 35 = .ok (.iload 6, 2) := by decide +kernel
theorem d_rm_has_37 : decode rm_has.2.1 37 = .ok (.iaload, 1) := by decide +kernel
theorem d_rm_has_38 : decode rm_has.2.1 38 = .ok (.i2l, 1) := by decide +kernel
theorem d_rm_has_39 : decode rm_has.2.1 39 = .ok (.lcmp, 1) := by decide +kernel
theorem d_rm_has_40 : decode rm_has.2.1 40 = .ok (.ifCond .lt 30, 3) := by decide +kernel
theorem d_rm_has_43 : decode rm_has.2.1 43 = .ok (.lload 4, 2) := by decide +kernel
theorem d_rm_has_45 : decode rm_has.2.1 45 = .ok (.aload_n 0, 1) := by decide +kernel
theorem d_rm_has_46 : decode rm_has.2.1 46 = .ok (.getfield 30, 3) := by decide +kernel
theorem d_rm_has_49 : decode rm_has.2.1 49 = .ok (.iload 6, 2) := by decide +kernel
theorem d_rm_has_51 : decode rm_has.2.1 51 = .ok (.iaload, 1) := by decide +kernel
theorem d_rm_has_52 : decode rm_has.2.1 52 = .ok (.i2l, 1) := by decide +kernel
theorem d_rm_has_53 : decode rm_has.2.1 53 = .ok (.aload_n 0, 1) := by decide +kernel
theorem d_rm_has_54 : decode rm_has.2.1 54 = .ok (.getfield 27, 3) := by decide +kernel
theorem d_rm_has_57 : decode rm_has.2.1 57 = .ok (.iload 6, 2) := by decide +kernel
theorem d_rm_has_59 : decode rm_has.2.1 59 = .ok (.iaload, 1) := by decide +kernel
theorem d_rm_has_60 : decode rm_has.2.1 60 = .ok (.i2l, 1) := by decide +kernel
theorem d_rm_has_61 : decode rm_has.2.1 61 = .ok (.ladd, 1) := by decide +kernel
theorem d_rm_has_62 : decode rm_has.2.1 62 = .ok (.lcmp, 1) := by decide +kernel
theorem d_rm_has_63 : decode rm_has.2.1 63 = .ok (.ifCond .ge 7, 3) := by decide +kernel
theorem d_rm_has_66 : decode rm_has.2.1 66 = .ok (.iconst 1, 1) := by decide +kernel
theorem d_rm_has_67 : decode rm_has.2.1 67 = .ok (.goto 4, 3) := by decide +kernel
theorem d_rm_has_70 : decode rm_has.2.1 70 = .ok (.iconst 0, 1) := by decide +kernel
theorem d_rm_has_71 : decode rm_has.2.1 71 = .ok (.ireturn, 1) := by decide +kernel
theorem d_rm_placeOf_0 : decode rm_placeOf.2.1 0 = .ok (.bipush 60, 2) := by decide +kernel
theorem d_rm_placeOf_2 : decode rm_placeOf.2.1 2 = .ok (.aload_n 0, 1) := by decide +kernel
theorem d_rm_placeOf_3 : decode rm_placeOf.2.1 3 = .ok (.iload_n 1, 1) := by decide +kernel
theorem d_rm_placeOf_4 : decode rm_placeOf.2.1 4 = .ok (.iload_n 2, 1) := by decide +kernel
theorem d_rm_placeOf_5 : decode rm_placeOf.2.1 5 = .ok (.invokevirtual 175, 3) := by decide +kernel
theorem d_rm_placeOf_8 : decode rm_placeOf.2.1 8 = .ok (.imul, 1) := by decide +kernel
theorem d_rm_placeOf_9 : decode rm_placeOf.2.1 9 = .ok (.iload_n 3, 1) := by decide +kernel
theorem d_rm_placeOf_10 : decode rm_placeOf.2.1 10 = .ok (.iadd, 1) := by decide +kernel
theorem d_rm_placeOf_11 : decode rm_placeOf.2.1 11 = .ok (.aload_n 0, 1) := by decide +kernel
theorem d_rm_placeOf_12 : decode rm_placeOf.2.1 12 = .ok (.getfield 30, 3) := by decide +kernel
theorem d_rm_placeOf_15 : decode rm_placeOf.2.1 15 = .ok (.aload_n 0, 1) := by decide +kernel
theorem d_rm_placeOf_16 : decode rm_placeOf.2.1 16 = .ok (.iload_n 1, 1) := by decide +kernel
theorem d_rm_placeOf_17 : decode rm_placeOf.2.1 17 = .ok (.iload_n 2, 1) := by decide +kernel
theorem d_rm_placeOf_18 : decode rm_placeOf.2.1 18 = .ok (.invokevirtual 175, 3) := by decide +kernel
theorem d_rm_placeOf_21 : decode rm_placeOf.2.1 21 = .ok (.iaload, 1) := by decide +kernel
theorem d_rm_placeOf_22 : decode rm_placeOf.2.1 22 = .ok (.isub, 1) := by decide +kernel
theorem d_rm_placeOf_23 : decode rm_placeOf.2.1 23 = .ok (.ireturn, 1) := by decide +kernel
theorem d_rm_cellAt_0 : decode rm_cellAt.2.1 0 = .ok (.aload_n 0, 1) := by decide +kernel
theorem d_rm_cellAt_1 : decode rm_cellAt.2.1 1 = .ok (.getfield 34, 3) := by decide +kernel
theorem d_rm_cellAt_4 : decode rm_cellAt.2.1 4 = .ok (.aload_n 0, 1) := by decide +kernel
theorem d_rm_cellAt_5 : decode rm_cellAt.2.1 5 = .ok (.iload_n 1, 1) := by decide +kernel
theorem d_rm_cellAt_6 : decode rm_cellAt.2.1 6 = .ok (.iload_n 2, 1) := by decide +kernel
theorem d_rm_cellAt_7 : decode rm_cellAt.2.1 7 = .ok (.iload_n 3, 1) := by decide +kernel
theorem d_rm_cellAt_8 : decode rm_cellAt.2.1 8 = .ok (.invokevirtual 178, 3) := by decide +kernel
theorem d_rm_cellAt_11 : decode rm_cellAt.2.1 11 = .ok (.iaload, 1) := by decide +kernel
theorem d_rm_cellAt_12 : decode rm_cellAt.2.1 12 = .ok (.ireturn, 1) := by decide +kernel
theorem d_rm_keep_0 : decode rm_keep.2.1 0 = .ok (.aload_n 0, 1) := by decide +kernel
theorem d_rm_keep_1 : decode rm_keep.2.1 1 = .ok (.getfield 43, 3) := by decide +kernel
theorem d_rm_keep_4 : decode rm_keep.2.1 4 = .ok (.aload_n 0, 1) := by decide +kernel
theorem d_rm_keep_5 : decode rm_keep.2.1 5 = .ok (.getfield 181, 3) := by decide +kernel
theorem d_rm_keep_8 : decode rm_keep.2.1 8 = .ok (.iload_n 1, 1) := by decide +kernel
theorem d_rm_keep_9 : decode rm_keep.2.1 9 = .ok (.iastore, 1) := by decide +kernel
theorem d_rm_keep_10 : decode rm_keep.2.1 10 = .ok (.aload_n 0, 1) := by decide +kernel
theorem d_rm_keep_11 : decode rm_keep.2.1 11 = .ok (.getfield 46, 3) := by decide +kernel
theorem d_rm_keep_14 : decode rm_keep.2.1 14 = .ok (.aload_n 0, 1) := by decide +kernel
theorem d_rm_keep_15 : decode rm_keep.2.1 15 = .ok (.getfield 181, 3) := by decide +kernel
theorem d_rm_keep_18 : decode rm_keep.2.1 18 = .ok (.aload_n 0, 1) := by decide +kernel
theorem d_rm_keep_19 : decode rm_keep.2.1 19 = .ok (.getfield 40, 3) := by decide +kernel
theorem d_rm_keep_22 : decode rm_keep.2.1 22 = .ok (.iload_n 1, 1) := by decide +kernel
theorem d_rm_keep_23 : decode rm_keep.2.1 23 = .ok (.iaload, 1) := by decide +kernel
theorem d_rm_keep_24 : decode rm_keep.2.1 24 = .ok (.iastore, 1) := by decide +kernel
theorem d_rm_keep_25 : decode rm_keep.2.1 25 = .ok (.iconst 0, 1) := by decide +kernel
theorem d_rm_keep_26 : decode rm_keep.2.1 26 = .ok (.istore_n 2, 1) := by decide +kernel
theorem d_rm_keep_27 : decode rm_keep.2.1 27 = .ok (.iload_n 2, 1) := by decide +kernel
theorem d_rm_keep_28 : decode rm_keep.2.1 28 = .ok (.aload_n 0, 1) := by decide +kernel
theorem d_rm_keep_29 : decode rm_keep.2.1 29 = .ok (.getfield 40, 3) := by decide +kernel
theorem d_rm_keep_32 : decode rm_keep.2.1 32 = .ok (.iload_n 1, 1) := by decide +kernel
theorem d_rm_keep_33 : decode rm_keep.2.1 33 = .ok (.iaload, 1) := by decide +kernel
theorem d_rm_keep_34 : decode rm_keep.2.1 34 = .ok (.if_icmp .ge 29, 3) := by decide +kernel
theorem d_rm_keep_37 : decode rm_keep.2.1 37 = .ok (.aload_n 0, 1) := by decide +kernel
theorem d_rm_keep_38 : decode rm_keep.2.1 38 = .ok (.getfield 49, 3) := by decide +kernel
theorem d_rm_keep_41 : decode rm_keep.2.1 41 = .ok (.bipush 60, 2) := by decide +kernel
theorem d_rm_keep_43 : decode rm_keep.2.1 43 = .ok (.aload_n 0, 1) := by decide +kernel
theorem d_rm_keep_44 : decode rm_keep.2.1 44 = .ok (.getfield 181, 3) := by decide +kernel
theorem d_rm_keep_47 : decode rm_keep.2.1 47 = .ok (.imul, 1) := by decide +kernel
theorem d_rm_keep_48 : decode rm_keep.2.1 48 = .ok (.iload_n 2, 1) := by decide +kernel
theorem d_rm_keep_49 : decode rm_keep.2.1 49 = .ok (.iadd, 1) := by decide +kernel
theorem d_rm_keep_50 : decode rm_keep.2.1 50 = .ok (.aload_n 0, 1) := by decide +kernel
theorem d_rm_keep_51 : decode rm_keep.2.1 51 = .ok (.iload_n 1, 1) := by decide +kernel
theorem d_rm_keep_52 : decode rm_keep.2.1 52 = .ok (.iload_n 2, 1) := by decide +kernel
theorem d_rm_keep_53 : decode rm_keep.2.1 53 = .ok (.invokevirtual 175, 3) := by decide +kernel
theorem d_rm_keep_56 : decode rm_keep.2.1 56 = .ok (.iastore, 1) := by decide +kernel
theorem d_rm_keep_57 : decode rm_keep.2.1 57 = .ok (.iinc 2 1, 3) := by decide +kernel
theorem d_rm_keep_60 : decode rm_keep.2.1 60 = .ok (.goto (-33), 3) := by decide +kernel
theorem d_rm_keep_63 : decode rm_keep.2.1 63 = .ok (.aload_n 0, 1) := by decide +kernel
theorem d_rm_keep_64 : decode rm_keep.2.1 64 = .ok (.aload_n 0, 1) := by decide +kernel
theorem d_rm_keep_65 : decode rm_keep.2.1 65 = .ok (.getfield 181, 3) := by decide +kernel
theorem d_rm_keep_68 : decode rm_keep.2.1 68 = .ok (.iconst 1, 1) := by decide +kernel
theorem d_rm_keep_69 : decode rm_keep.2.1 69 = .ok (.iadd, 1) := by decide +kernel
theorem d_rm_keep_70 : decode rm_keep.2.1 70 = .ok (.bipush 40, 2) := by decide +kernel
theorem d_rm_keep_72 : decode rm_keep.2.1 72 = .ok (.irem, 1) := by decide +kernel
theorem d_rm_keep_73 : decode rm_keep.2.1 73 = .ok (.putfield 181, 3) := by decide +kernel
theorem d_rm_keep_76 : decode rm_keep.2.1 76 = .ok (.aload_n 0, 1) := by decide +kernel
theorem d_rm_keep_77 : decode rm_keep.2.1 77 = .ok (.aload_n 0, 1) := by decide +kernel
theorem d_rm_keep_78 : decode rm_keep.2.1 78 = .ok (.getfield 184, 3) := by decide +kernel
theorem d_rm_keep_81 : decode rm_keep.2.1 81 = .ok (.bipush 40, 2) := by decide +kernel
theorem d_rm_keep_83 : decode rm_keep.2.1 83 = .ok (.if_icmp .ge 12, 3) := by decide +kernel
theorem d_rm_keep_86 : decode rm_keep.2.1 86 = .ok (.aload_n 0, 1) := by decide +kernel
theorem d_rm_keep_87 : decode rm_keep.2.1 87 = .ok (.getfield 184, 3) := by decide +kernel
theorem d_rm_keep_90 : decode rm_keep.2.1 90 = .ok (.iconst 1, 1) := by decide +kernel
theorem d_rm_keep_91 : decode rm_keep.2.1 91 = .ok (.iadd, 1) := by decide +kernel
theorem d_rm_keep_92 : decode rm_keep.2.1 92 = .ok (.goto 5, 3) := by decide +kernel
theorem d_rm_keep_95 : decode rm_keep.2.1 95 = .ok (.bipush 40, 2) := by decide +kernel
theorem d_rm_keep_97 : decode rm_keep.2.1 97 = .ok (.putfield 184, 3) := by decide +kernel
theorem d_rm_keep_100 : decode rm_keep.2.1 100 = .ok (.return_, 1) := by decide +kernel
theorem d_rm_undo_0 : decode rm_undo.2.1 0 = .ok (.aload_n 0, 1) := by decide +kernel
theorem d_rm_undo_1 : decode rm_undo.2.1 1 = .ok (.getfield 184, 3) := by decide +kernel
theorem d_rm_undo_4 : decode rm_undo.2.1 4 = .ok (.ifCond .ne 5, 3) := by decide +kernel
theorem d_rm_undo_7 : decode rm_undo.2.1 7 = .ok (.iconst (-1), 1) := by decide +kernel
theorem d_rm_undo_8 : decode rm_undo.2.1 8 = .ok (.ireturn, 1) := by decide +kernel
theorem d_rm_undo_9 : decode rm_undo.2.1 9 = .ok (.aload_n 0, 1) := by decide +kernel
theorem d_rm_undo_10 : decode rm_undo.2.1 10 = .ok (.dup, 1) := by decide +kernel
theorem d_rm_undo_11 : decode rm_undo.2.1 11 = .ok (.getfield 184, 3) := by decide +kernel
theorem d_rm_undo_14 : decode rm_undo.2.1 14 = .ok (.iconst 1, 1) := by decide +kernel
theorem d_rm_undo_15 : decode rm_undo.2.1 15 = .ok (.isub, 1) := by decide +kernel
theorem d_rm_undo_16 : decode rm_undo.2.1 16 = .ok (.putfield 184, 3) := by decide +kernel
theorem d_rm_undo_19 : decode rm_undo.2.1 19 = .ok (.aload_n 0, 1) := by decide +kernel
theorem d_rm_undo_20 : decode rm_undo.2.1 20 = .ok (.aload_n 0, 1) := by decide +kernel
theorem d_rm_undo_21 : decode rm_undo.2.1 21 = .ok (.getfield 181, 3) := by decide +kernel
theorem d_rm_undo_24 : decode rm_undo.2.1 24 = .ok (.bipush 40, 2) := by decide +kernel
theorem d_rm_undo_26 : decode rm_undo.2.1 26 = .ok (.iadd, 1) := by decide +kernel
theorem d_rm_undo_27 : decode rm_undo.2.1 27 = .ok (.iconst 1, 1) := by decide +kernel
theorem d_rm_undo_28 : decode rm_undo.2.1 28 = .ok (.isub, 1) := by decide +kernel
theorem d_rm_undo_29 : decode rm_undo.2.1 29 = .ok (.bipush 40, 2) := by decide +kernel
theorem d_rm_undo_31 : decode rm_undo.2.1 31 = .ok (.irem, 1) := by decide +kernel
theorem d_rm_undo_32 : decode rm_undo.2.1 32 = .ok (.putfield 181, 3) := by decide +kernel
theorem d_rm_undo_35 : decode rm_undo.2.1 35 = .ok (.aload_n 0, 1) := by decide +kernel
theorem d_rm_undo_36 : decode rm_undo.2.1 36 = .ok (.getfield 43, 3) := by decide +kernel
theorem d_rm_undo_39 : decode rm_undo.2.1 39 = .ok (.aload_n 0, 1) := by decide +kernel
theorem d_rm_undo_40 : decode rm_undo.2.1 40 = .ok (.getfield 181, 3) := by decide +kernel
theorem d_rm_undo_43 : decode rm_undo.2.1 43 = .ok (.iaload, 1) := by decide +kernel
theorem d_rm_undo_44 : decode rm_undo.2.1 44 = .ok (.istore_n 1, 1) := by decide +kernel
theorem d_rm_undo_45 : decode rm_undo.2.1 45 = .ok (.aload_n 0, 1) := by decide +kernel
theorem d_rm_undo_46 : decode rm_undo.2.1 46 = .ok (.getfield 40, 3) := by decide +kernel
theorem d_rm_undo_49 : decode rm_undo.2.1 49 = .ok (.iload_n 1, 1) := by decide +kernel
theorem d_rm_undo_50 : decode rm_undo.2.1 50 = .ok (.aload_n 0, 1) := by decide +kernel
theorem d_rm_undo_51 : decode rm_undo.2.1 51 = .ok (.getfield 46, 3) := by decide +kernel
theorem d_rm_undo_54 : decode rm_undo.2.1 54 = .ok (.aload_n 0, 1) := by decide +kernel
theorem d_rm_undo_55 : decode rm_undo.2.1 55 = .ok (.getfield 181, 3) := by decide +kernel
theorem d_rm_undo_58 : decode rm_undo.2.1 58 = .ok (.iaload, 1) := by decide +kernel
theorem d_rm_undo_59 : decode rm_undo.2.1 59 = .ok (.iastore, 1) := by decide +kernel
theorem d_rm_undo_60 : decode rm_undo.2.1 60 = .ok (.iconst 0, 1) := by decide +kernel
theorem d_rm_undo_61 : decode rm_undo.2.1 61 = .ok (.istore_n 2, 1) := by decide +kernel
theorem d_rm_undo_62 : decode rm_undo.2.1 62 = .ok (.iload_n 2, 1) := by decide +kernel
theorem d_rm_undo_63 : decode rm_undo.2.1 63 = .ok (.aload_n 0, 1) := by decide +kernel
theorem d_rm_undo_64 : decode rm_undo.2.1 64 = .ok (.getfield 40, 3) := by decide +kernel
theorem d_rm_undo_67 : decode rm_undo.2.1 67 = .ok (.iload_n 1, 1) := by decide +kernel
theorem d_rm_undo_68 : decode rm_undo.2.1 68 = .ok (.iaload, 1) := by decide +kernel
theorem d_rm_undo_69 : decode rm_undo.2.1 69 = .ok (.if_icmp .ge 34, 3) := by decide +kernel
theorem d_rm_undo_72 : decode rm_undo.2.1 72 = .ok (.aload_n 0, 1) := by decide +kernel
theorem d_rm_undo_73 : decode rm_undo.2.1 73 = .ok (.getfield 37, 3) := by decide +kernel
theorem d_rm_undo_76 : decode rm_undo.2.1 76 = .ok (.bipush 60, 2) := by decide +kernel
theorem d_rm_undo_78 : decode rm_undo.2.1 78 = .ok (.iload_n 1, 1) := by decide +kernel
theorem d_rm_undo_79 : decode rm_undo.2.1 79 = .ok (.imul, 1) := by decide +kernel
theorem d_rm_undo_80 : decode rm_undo.2.1 80 = .ok (.iload_n 2, 1) := by decide +kernel
theorem d_rm_undo_81 : decode rm_undo.2.1 81 = .ok (.iadd, 1) := by decide +kernel
theorem d_rm_undo_82 : decode rm_undo.2.1 82 = .ok (.aload_n 0, 1) := by decide +kernel
theorem d_rm_undo_83 : decode rm_undo.2.1 83 = .ok (.getfield 49, 3) := by decide +kernel
theorem d_rm_undo_86 : decode rm_undo.2.1 86 = .ok (.bipush 60, 2) := by decide +kernel
theorem d_rm_undo_88 : decode rm_undo.2.1 88 = .ok (.aload_n 0, 1) := by decide +kernel
theorem d_rm_undo_89 : decode rm_undo.2.1 89 = .ok (.getfield 181, 3) := by decide +kernel
theorem d_rm_undo_92 : decode rm_undo.2.1 92 = .ok (.imul, 1) := by decide +kernel
theorem d_rm_undo_93 : decode rm_undo.2.1 93 = .ok (.iload_n 2, 1) := by decide +kernel
theorem d_rm_undo_94 : decode rm_undo.2.1 94 = .ok (.iadd, 1) := by decide +kernel
theorem d_rm_undo_95 : decode rm_undo.2.1 95 = .ok (.iaload, 1) := by decide +kernel
theorem d_rm_undo_96 : decode rm_undo.2.1 96 = .ok (.iastore, 1) := by decide +kernel
theorem d_rm_undo_97 : decode rm_undo.2.1 97 = .ok (.iinc 2 1, 3) := by decide +kernel
theorem d_rm_undo_100 : decode rm_undo.2.1 100 = .ok (.goto (-38), 3) := by decide +kernel
theorem d_rm_undo_103 : decode rm_undo.2.1 103 = .ok (.aload_n 0, 1) := by decide +kernel
theorem d_rm_undo_104 : decode rm_undo.2.1 104 = .ok (.getfield 184, 3) := by decide +kernel
theorem d_rm_undo_107 : decode rm_undo.2.1 107 = .ok (.ireturn, 1) := by decide +kernel
theorem d_rm_pattern_0 : decode rm_pattern.2.1 0 = .ok (.aload_n 0, 1) := by decide +kernel
theorem d_rm_pattern_1 : decode rm_pattern.2.1 1 = .ok (.getfield 169, 3) := by decide +kernel
theorem d_rm_pattern_4 : decode rm_pattern.2.1 4 = .ok (.bipush 16, 2) := by decide +kernel
theorem d_rm_pattern_6 : decode rm_pattern.2.1 6 = .ok (.if_icmp .ne 5, 3) := by decide +kernel
theorem d_rm_pattern_9 : decode rm_pattern.2.1 9 = .ok (.iconst (-1), 1) := by decide +kernel
theorem d_rm_pattern_10 : decode rm_pattern.2.1 10 = .ok (.ireturn, 1) := by decide +kernel
theorem d_rm_pattern_11 : decode rm_pattern.2.1 11 = .ok (.aload_n 0, 1) := by decide +kernel
theorem d_rm_pattern_12 : decode rm_pattern.2.1 12 = .ok (.getfield 40, 3) := by decide +kernel
theorem d_rm_pattern_15 : decode rm_pattern.2.1 15 = .ok (.aload_n 0, 1) := by decide +kernel
theorem d_rm_pattern_16 : decode rm_pattern.2.1 16 = .ok (.getfield 169, 3) := by decide +kernel
theorem d_rm_pattern_19 : decode rm_pattern.2.1 19 = .ok (.iconst 0, 1) := by decide +kernel
theorem d_rm_pattern_20 : decode rm_pattern.2.1 20 = .ok (.iastore, 1) := by decide +kernel
theorem d_rm_pattern_21 : decode rm_pattern.2.1 21 = .ok (.aload_n 0, 1) := by decide +kernel
theorem d_rm_pattern_22 : decode rm_pattern.2.1 22 = .ok (.dup, 1) := by decide +kernel
theorem d_rm_pattern_23 : decode rm_pattern.2.1 23 = .ok (.getfield 169, 3) := by decide +kernel
theorem d_rm_pattern_26 : decode rm_pattern.2.1 26 = .ok (.iconst 1, 1) := by decide +kernel
theorem d_rm_pattern_27 : decode rm_pattern.2.1 27 = .ok (.iadd, 1) := by decide +kernel
theorem d_rm_pattern_28 : decode rm_pattern.2.1 28 = .ok (.putfield 169, 3) := by decide +kernel
theorem d_rm_pattern_31 : decode rm_pattern.2.1 31 = .ok (.aload_n 0, 1) := by decide +kernel
theorem d_rm_pattern_32 : decode rm_pattern.2.1 32 = .ok (.getfield 169, 3) := by decide +kernel
theorem d_rm_pattern_35 : decode rm_pattern.2.1 35 = .ok (.iconst 1, 1) := by decide +kernel
theorem d_rm_pattern_36 : decode rm_pattern.2.1 36 = .ok (.isub, 1) := by decide +kernel
theorem d_rm_pattern_37 : decode rm_pattern.2.1 37 = .ok (.ireturn, 1) := by decide +kernel
theorem d_rm_insert_0 : decode rm_insert.2.1 0 = .ok (.aload_n 0, 1) := by decide +kernel
theorem d_rm_insert_1 : decode rm_insert.2.1 1 = .ok (.iload_n 1, 1) := by decide +kernel
theorem d_rm_insert_2 : decode rm_insert.2.1 2 = .ok (.invokevirtual 187, 3) := by decide +kernel
theorem d_rm_insert_5 : decode rm_insert.2.1 5 = .ok (.ifCond .eq 62, 3) := by decide +kernel
theorem d_rm_insert_8 : decode rm_insert.2.1 8 = .ok (.iload_n 2, 1) := by decide +kernel
theorem d_rm_insert_9 : decode rm_insert.2.1 9 = .ok (.ifCond .lt 58, 3) := by decide +kernel
theorem d_rm_insert_12 : decode rm_insert.2.1 12 = .ok (.iload_n 2, 1) := by decide +kernel
theorem d_rm_insert_13 : decode rm_insert.2.1 13 = .ok (.aload_n 0, 1) := by decide +kernel
theorem d_rm_insert_14 : decode rm_insert.2.1 14 = .ok (.getfield 40, 3) := by decide +kernel
theorem d_rm_insert_17 : decode rm_insert.2.1 17 = .ok (.iload_n 1, 1) := by decide +kernel
theorem d_rm_insert_18 : decode rm_insert.2.1 18 = .ok (.iaload, 1) := by decide +kernel
theorem d_rm_insert_19 : decode rm_insert.2.1 19 = .ok (.if_icmp .gt 48, 3) := by decide +kernel
theorem d_rm_insert_22 : decode rm_insert.2.1 22 = .ok (.aload_n 0, 1) := by decide +kernel
theorem d_rm_insert_23 : decode rm_insert.2.1 23 = .ok (.getfield 40, 3) := by decide +kernel
theorem d_rm_insert_26 : decode rm_insert.2.1 26 = .ok (.iload_n 1, 1) := by decide +kernel
theorem d_rm_insert_27 : decode rm_insert.2.1 27 = .ok (.iaload, 1) := by decide +kernel
theorem d_rm_insert_28 : decode rm_insert.2.1 28 = .ok (.bipush 60, 2) := by decide +kernel
theorem d_rm_insert_30 : decode rm_insert.2.1 30 = .ok (.if_icmp .eq 37, 3) := by decide +kernel
theorem d_rm_insert_33 : decode rm_insert.2.1 33 = .ok (.iload_n 3, 1) := by decide +kernel
theorem d_rm_insert_34 : decode rm_insert.2.1 34 = .ok (.ifCond .lt 33, 3) := by decide +kernel
theorem d_rm_insert_37 : decode rm_insert.2.1 37 = .ok (.iload_n 3, 1) := by decide +kernel
theorem d_rm_insert_38 : decode rm_insert.2.1 38 = .ok (.bipush 60, 2) := by decide +kernel
theorem d_rm_insert_40 : decode rm_insert.2.1 40 = .ok (.if_icmp .gt 27, 3) := by decide +kernel
theorem d_rm_insert_43 : decode rm_insert.2.1 43 = .ok (.iload 4, 2) := by decide +kernel
theorem d_rm_insert_45 : decode rm_insert.2.1 45 = .ok (.bipush (-30), 2) := by decide +kernel
theorem d_rm_insert_47 : decode rm_insert.2.1 47 = .ok (.if_icmp .lt 20, 3) := by decide +kernel
theorem d_rm_insert_50 : decode rm_insert.2.1 50 = .ok (.iload 4, 2) := by decide +kernel
theorem d_rm_insert_52 : decode rm_insert.2.1 52 = .ok (.bipush 30, 2) := by decide +kernel
theorem d_rm_insert_54 : decode rm_insert.2.1 54 = .ok (.if_icmp .gt 13, 3) := by decide +kernel
theorem d_rm_insert_57 : decode rm_insert.2.1 57 = .ok (.aload_n 0, 1) := by decide +kernel
theorem d_rm_insert_58 : decode rm_insert.2.1 58 = .ok (.getfield 172, 3) := by decide +kernel
theorem d_rm_insert_61 : decode rm_insert.2.1 61 = .ok (.sipush 6000, 3) := by decide +kernel
theorem d_rm_insert_64 : decode rm_insert.2.1 64 = .ok (.if_icmp .ne 5, 3) := by decide +kernel
theorem d_rm_insert_67 : decode rm_insert.2.1 67 = .ok (.iconst 0, 1) := by decide +kernel
theorem d_rm_insert_68 : decode rm_insert.2.1 68 = .ok (.ireturn, 1) := by decide +kernel
theorem d_rm_insert_69 : decode rm_insert.2.1 69 = .ok (.aload_n 0, 1) := by decide +kernel
theorem d_rm_insert_70 : decode rm_insert.2.1 70 = .ok (.iload_n 1, 1) := by decide +kernel
theorem d_rm_insert_71 : decode rm_insert.2.1 71 = .ok (.invokevirtual 190, 3) := by decide +kernel
theorem d_rm_insert_74 : decode rm_insert.2.1 74 = .ok (.aload_n 0, 1) := by decide +kernel
theorem d_rm_insert_75 : decode rm_insert.2.1 75 = .ok (.getfield 40, 3) := by decide +kernel
theorem d_rm_insert_78 : decode rm_insert.2.1 78 = .ok (.iload_n 1, 1) := by decide +kernel
theorem d_rm_insert_79 : decode rm_insert.2.1 79 = .ok (.iaload, 1) := by decide +kernel
theorem d_rm_insert_80 : decode rm_insert.2.1 80 = .ok (.istore 5, 2) := by decide +kernel
theorem d_rm_insert_82 : decode rm_insert.2.1 82 = .ok (.iload 5, 2) := by decide +kernel
theorem d_rm_insert_84 : decode rm_insert.2.1 84 = .ok (.iload_n 2, 1) := by decide +kernel
theorem d_rm_insert_85 : decode rm_insert.2.1 85 = .ok (.if_icmp .le 30, 3) := by decide +kernel
theorem d_rm_insert_88 : decode rm_insert.2.1 88 = .ok (.aload_n 0, 1) := by decide +kernel
theorem d_rm_insert_89 : decode rm_insert.2.1 89 = .ok (.getfield 37, 3) := by decide +kernel
theorem d_rm_insert_92 : decode rm_insert.2.1 92 = .ok (.bipush 60, 2) := by decide +kernel
theorem d_rm_insert_94 : decode rm_insert.2.1 94 = .ok (.iload_n 1, 1) := by decide +kernel
theorem d_rm_insert_95 : decode rm_insert.2.1 95 = .ok (.imul, 1) := by decide +kernel
theorem d_rm_insert_96 : decode rm_insert.2.1 96 = .ok (.iload 5, 2) := by decide +kernel
theorem d_rm_insert_98 : decode rm_insert.2.1 98 = .ok (.iadd, 1) := by decide +kernel
theorem d_rm_insert_99 : decode rm_insert.2.1 99 = .ok (.aload_n 0, 1) := by decide +kernel
theorem d_rm_insert_100 : decode rm_insert.2.1 100 = .ok (.iload_n 1, 1) := by decide +kernel
theorem d_rm_insert_101 : decode rm_insert.2.1 101 = .ok (.iload 5, 2) := by decide +kernel
theorem d_rm_insert_103 : decode rm_insert.2.1 103 = .ok (.iconst 1, 1) := by decide +kernel
theorem d_rm_insert_104 : decode rm_insert.2.1 104 = .ok (.isub, 1) := by decide +kernel
theorem d_rm_insert_105 : decode rm_insert.2.1 105 = .ok (.invokevirtual 175, 3) := by decide +kernel
theorem d_rm_insert_108 : decode rm_insert.2.1 108 = .ok (.iastore, 1) := by decide +kernel
theorem d_rm_insert_109 : decode rm_insert.2.1 109 = .ok (.iinc 5 (-1), 3) := by decide +kernel
theorem d_rm_insert_112 : decode rm_insert.2.1 112 = .ok (.goto (-30), 3) := by decide +kernel
theorem d_rm_insert_115 : decode rm_insert.2.1 115 = .ok (.aload_n 0, 1) := by decide +kernel
theorem d_rm_insert_116 : decode rm_insert.2.1 116 = .ok (.getfield 37, 3) := by decide +kernel
theorem d_rm_insert_119 : decode rm_insert.2.1 119 = .ok (.bipush 60, 2) := by decide +kernel
theorem d_rm_insert_121 : decode rm_insert.2.1 121 = .ok (.iload_n 1, 1) := by decide +kernel
theorem d_rm_insert_122 : decode rm_insert.2.1 122 = .ok (.imul, 1) := by decide +kernel
theorem d_rm_insert_123 : decode rm_insert.2.1 123 = .ok (.iload_n 2, 1) := by decide +kernel
theorem d_rm_insert_124 : decode rm_insert.2.1 124 = .ok (.iadd, 1) := by decide +kernel
theorem d_rm_insert_125 : decode rm_insert.2.1 125 = .ok (.aload_n 0, 1) := by decide +kernel
theorem d_rm_insert_126 : decode rm_insert.2.1 126 = .ok (.iload_n 3, 1) := by decide +kernel
theorem d_rm_insert_127 : decode rm_insert.2.1 127 = .ok (.iload 4, 2) := by decide +kernel
theorem d_rm_insert_129 : decode rm_insert.2.1 129 = .ok (.invokevirtual 194, 3) := by decide +kernel
theorem d_rm_insert_132 : decode rm_insert.2.1 132 = .ok (.iastore, 1) := by decide +kernel
theorem d_rm_insert_133 : decode rm_insert.2.1 133 = .ok (.aload_n 0, 1) := by decide +kernel
theorem d_rm_insert_134 : decode rm_insert.2.1 134 = .ok (.getfield 40, 3) := by decide +kernel
theorem d_rm_insert_137 : decode rm_insert.2.1 137 = .ok (.iload_n 1, 1) := by decide +kernel
theorem d_rm_insert_138 : decode rm_insert.2.1 138 = .ok (.dup2, 1) := by decide +kernel
theorem d_rm_insert_139 : decode rm_insert.2.1 139 = .ok (.iaload, 1) := by decide +kernel
theorem d_rm_insert_140 : decode rm_insert.2.1 140 = .ok (.iconst 1, 1) := by decide +kernel
theorem d_rm_insert_141 : decode rm_insert.2.1 141 = .ok (.iadd, 1) := by decide +kernel
theorem d_rm_insert_142 : decode rm_insert.2.1 142 = .ok (.iastore, 1) := by decide +kernel
theorem d_rm_insert_143 : decode rm_insert.2.1 143 = .ok (.iconst 1, 1) := by decide +kernel
theorem d_rm_insert_144 : decode rm_insert.2.1 144 = .ok (.ireturn, 1) := by decide +kernel
theorem d_rm_takeRow_0 : decode rm_takeRow.2.1 0 = .ok (.iload_n 2, 1) := by decide +kernel
theorem d_rm_takeRow_1 : decode rm_takeRow.2.1 1 = .ok (.istore_n 3, 1) := by decide +kernel
theorem d_rm_takeRow_2 : decode rm_takeRow.2.1 2 = .ok (.iload_n 3, 1) := by decide +kernel
theorem d_rm_takeRow_3 : decode rm_takeRow.2.1 3 = .ok (.iconst 1, 1) := by decide +kernel
theorem d_rm_takeRow_4 : decode rm_takeRow.2.1 4 = .ok (.iadd, 1) := by decide +kernel
theorem d_rm_takeRow_5 : decode rm_takeRow.2.1 5 = .ok (.aload_n 0, 1) := by decide +kernel
theorem d_rm_takeRow_6 : decode rm_takeRow.2.1 6 = .ok (.getfield 40, 3) := by decide +kernel
theorem d_rm_takeRow_9 : decode rm_takeRow.2.1 9 = .ok (.iload_n 1, 1) := by decide +kernel
theorem d_rm_takeRow_10 : decode rm_takeRow.2.1 10 = .ok (.iaload, 1) := by decide +kernel
theorem d_rm_takeRow_11 : decode rm_takeRow.2.1 11 = .ok (.if_icmp .ge 28, 3) := by decide +kernel
theorem d_rm_takeRow_14 : decode rm_takeRow.2.1 14 = .ok (.aload_n 0, 1) := by decide +kernel
theorem d_rm_takeRow_15 : decode rm_takeRow.2.1 15 = .ok (.getfield 37, 3) := by decide +kernel
theorem d_rm_takeRow_18 : decode rm_takeRow.2.1 18 = .ok (.bipush 60, 2) := by decide +kernel
theorem d_rm_takeRow_20 : decode rm_takeRow.2.1 20 = .ok (.iload_n 1, 1) := by decide +kernel
theorem d_rm_takeRow_21 : decode rm_takeRow.2.1 21 = .ok (.imul, 1) := by decide +kernel
theorem d_rm_takeRow_22 : decode rm_takeRow.2.1 22 = .ok (.iload_n 3, 1) := by decide +kernel
theorem d_rm_takeRow_23 : decode rm_takeRow.2.1 23 = .ok (.iadd, 1) := by decide +kernel
theorem d_rm_takeRow_24 : decode rm_takeRow.2.1 24 = .ok (.aload_n 0, 1) := by decide +kernel
theorem d_rm_takeRow_25 : decode rm_takeRow.2.1 25 = .ok (.iload_n 1, 1) := by decide +kernel
theorem d_rm_takeRow_26 : decode rm_takeRow.2.1 26 = .ok (.iload_n 3, 1) := by decide +kernel
theorem d_rm_takeRow_27 : decode rm_takeRow.2.1 27 = .ok (.iconst 1, 1) := by decide +kernel
theorem d_rm_takeRow_28 : decode rm_takeRow.2.1 28 = .ok (.iadd, 1) := by decide +kernel
theorem d_rm_takeRow_29 : decode rm_takeRow.2.1 29 = .ok (.invokevirtual 175, 3) := by decide +kernel
theorem d_rm_takeRow_32 : decode rm_takeRow.2.1 32 = .ok (.iastore, 1) := by decide +kernel
theorem d_rm_takeRow_33 : decode rm_takeRow.2.1 33 = .ok (.iinc 3 1, 3) := by decide +kernel
theorem d_rm_takeRow_36 : decode rm_takeRow.2.1 36 = .ok (.goto (-34), 3) := by decide +kernel
theorem d_rm_takeRow_39 : decode rm_takeRow.2.1 39 = .ok (.aload_n 0, 1) := by decide +kernel
theorem d_rm_takeRow_40 : decode rm_takeRow.2.1 40 = .ok (.getfield 40, 3) := by decide +kernel
theorem d_rm_takeRow_43 : decode rm_takeRow.2.1 43 = .ok (.iload_n 1, 1) := by decide +kernel
theorem d_rm_takeRow_44 : decode rm_takeRow.2.1 44 = .ok (.dup2, 1) := by decide +kernel
theorem d_rm_takeRow_45 : decode rm_takeRow.2.1 45 = .ok (.iaload, 1) := by decide +kernel
theorem d_rm_takeRow_46 : decode rm_takeRow.2.1 46 = .ok (.iconst 1, 1) := by decide +kernel
theorem d_rm_takeRow_47 : decode rm_takeRow.2.1 47 = .ok (.isub, 1) := by decide +kernel
theorem d_rm_takeRow_48 : decode rm_takeRow.2.1 48 = .ok (.iastore, 1) := by decide +kernel
theorem d_rm_takeRow_49 : decode rm_takeRow.2.1 49 = .ok (.return_, 1) := by decide +kernel
theorem d_rm_remove_0 : decode rm_remove.2.1 0 = .ok (.aload_n 0, 1) := by decide +kernel
theorem d_rm_remove_1 : decode rm_remove.2.1 1 = .ok (.iload_n 1, 1) := by decide +kernel
theorem d_rm_remove_2 : decode rm_remove.2.1 2 = .ok (.invokevirtual 187, 3) := by decide +kernel
theorem d_rm_remove_5 : decode rm_remove.2.1 5 = .ok (.ifCond .eq 17, 3) := by decide +kernel
theorem d_rm_remove_8 : decode rm_remove.2.1 8 = .ok (.iload_n 2, 1) := by decide +kernel
theorem d_rm_remove_9 : decode rm_remove.2.1 9 = .ok (.ifCond .lt 13, 3) := by decide +kernel
theorem d_rm_remove_12 : decode rm_remove.2.1 12 = .ok (.iload_n 2, 1) := by decide +kernel
theorem d_rm_remove_13 : decode rm_remove.2.1 13 = .ok (.aload_n 0, 1) := by decide +kernel
theorem d_rm_remove_14 : decode rm_remove.2.1 14 = .ok (.getfield 40, 3) := by decide +kernel
theorem d_rm_remove_17 : decode rm_remove.2.1 17 = .ok (.iload_n 1, 1) := by decide +kernel
theorem d_rm_remove_18 : decode rm_remove.2.1 18 = .ok (.iaload, 1) := by decide +kernel
theorem d_rm_remove_19 : decode rm_remove.2.1 19 = .ok (.if_icmp .lt 5, 3) := by decide +kernel
theorem d_rm_remove_22 : decode rm_remove.2.1 22 = .ok (.iconst 0, 1) := by decide +kernel
theorem d_rm_remove_23 : decode rm_remove.2.1 23 = .ok (.ireturn, 1) := by decide +kernel
theorem d_rm_remove_24 : decode rm_remove.2.1 24 = .ok (.aload_n 0, 1) := by decide +kernel
theorem d_rm_remove_25 : decode rm_remove.2.1 25 = .ok (.iload_n 1, 1) := by decide +kernel
theorem d_rm_remove_26 : decode rm_remove.2.1 26 = .ok (.invokevirtual 190, 3) := by decide +kernel
theorem d_rm_remove_29 : decode rm_remove.2.1 29 = .ok (.aload_n 0, 1) := by decide +kernel
theorem d_rm_remove_30 : decode rm_remove.2.1 30 = .ok (.iload_n 1, 1) := by decide +kernel
theorem d_rm_remove_31 : decode rm_remove.2.1 31 = .ok (.iload_n 2, 1) := by decide +kernel
theorem d_rm_remove_32 : decode rm_remove.2.1 32 = .ok (.invokevirtual 197, 3) := by decide +kernel
theorem d_rm_remove_35 : decode rm_remove.2.1 35 = .ok (.iconst 1, 1) := by decide +kernel
theorem d_rm_remove_36 : decode rm_remove.2.1 36 = .ok (.ireturn, 1) := by decide +kernel
theorem d_rm_move_0 : decode rm_move.2.1 0 = .ok (.aload_n 0, 1) := by decide +kernel
theorem d_rm_move_1 : decode rm_move.2.1 1 = .ok (.iload_n 1, 1) := by decide +kernel
theorem d_rm_move_2 : decode rm_move.2.1 2 = .ok (.invokevirtual 187, 3) := by decide +kernel
theorem d_rm_move_5 : decode rm_move.2.1 5 = .ok (.ifCond .eq 31, 3) := by decide +kernel
theorem d_rm_move_8 : decode rm_move.2.1 8 = .ok (.iload_n 2, 1) := by decide +kernel
theorem d_rm_move_9 : decode rm_move.2.1 9 = .ok (.ifCond .lt 27, 3) := by decide +kernel
theorem d_rm_move_12 : decode rm_move.2.1 12 = .ok (.iload_n 2, 1) := by decide +kernel
theorem d_rm_move_13 : decode rm_move.2.1 13 = .ok (.aload_n 0, 1) := by decide +kernel
theorem d_rm_move_14 : decode rm_move.2.1 14 = .ok (.getfield 40, 3) := by decide +kernel
theorem d_rm_move_17 : decode rm_move.2.1 17 = .ok (.iload_n 1, 1) := by decide +kernel
theorem d_rm_move_18 : decode rm_move.2.1 18 = .ok (.iaload, 1) := by decide +kernel
theorem d_rm_move_19 : decode rm_move.2.1 19 = .ok (.if_icmp .ge 17, 3) := by decide +kernel
theorem d_rm_move_22 : decode rm_move.2.1 22 = .ok (.iload_n 3, 1) := by decide +kernel
theorem d_rm_move_23 : decode rm_move.2.1 23 = .ok (.ifCond .lt 13, 3) := by decide +kernel
theorem d_rm_move_26 : decode rm_move.2.1 26 = .ok (.iload_n 3, 1) := by decide +kernel
theorem d_rm_move_27 : decode rm_move.2.1 27 = .ok (.aload_n 0, 1) := by decide +kernel
theorem d_rm_move_28 : decode rm_move.2.1 28 = .ok (.getfield 40, 3) := by decide +kernel
theorem d_rm_move_31 : decode rm_move.2.1 31 = .ok (.iload_n 1, 1) := by decide +kernel
theorem d_rm_move_32 : decode rm_move.2.1 32 = .ok (.iaload, 1) := by decide +kernel
theorem d_rm_move_33 : decode rm_move.2.1 33 = .ok (.if_icmp .lt 5, 3) := by decide +kernel
theorem d_rm_move_36 : decode rm_move.2.1 36 = .ok (.iconst 0, 1) := by decide +kernel
theorem d_rm_move_37 : decode rm_move.2.1 37 = .ok (.ireturn, 1) := by decide +kernel
theorem d_rm_move_38 : decode rm_move.2.1 38 = .ok (.aload_n 0, 1) := by decide +kernel
theorem d_rm_move_39 : decode rm_move.2.1 39 = .ok (.iload_n 1, 1) := by decide +kernel
theorem d_rm_move_40 : decode rm_move.2.1 40 = .ok (.invokevirtual 190, 3) := by decide +kernel
theorem d_rm_move_43 : decode rm_move.2.1 43 = .ok (.aload_n 0, 1) := by decide +kernel
theorem d_rm_move_44 : decode rm_move.2.1 44 = .ok (.iload_n 1, 1) := by decide +kernel
theorem d_rm_move_45 : decode rm_move.2.1 45 = .ok (.iload_n 2, 1) := by decide +kernel
theorem d_rm_move_46 : decode rm_move.2.1 46 = .ok (.invokevirtual 175, 3) := by decide +kernel
theorem d_rm_move_49 : decode rm_move.2.1 49 = .ok (.istore 4, 2) := by decide +kernel
theorem d_rm_move_51 : decode rm_move.2.1 51 = .ok (.aload_n 0, 1) := by decide +kernel
theorem d_rm_move_52 : decode rm_move.2.1 52 = .ok (.iload_n 1, 1) := by decide +kernel
theorem d_rm_move_53 : decode rm_move.2.1 53 = .ok (.iload_n 2, 1) := by decide +kernel
theorem d_rm_move_54 : decode rm_move.2.1 54 = .ok (.invokevirtual 197, 3) := by decide +kernel
theorem d_rm_move_57 : decode rm_move.2.1 57 = .ok (.aload_n 0, 1) := by decide +kernel
theorem d_rm_move_58 : decode rm_move.2.1 58 = .ok (.getfield 40, 3) := by decide +kernel
theorem d_rm_move_61 : decode rm_move.2.1 61 = .ok (.iload_n 1, 1) := by decide +kernel
theorem d_rm_move_62 : decode rm_move.2.1 62 = .ok (.iaload, 1) := by decide +kernel
theorem d_rm_move_63 : decode rm_move.2.1 63 = .ok (.istore 5, 2) := by decide +kernel
theorem d_rm_move_65 : decode rm_move.2.1 65 = .ok (.iload 5, 2) := by decide +kernel
theorem d_rm_move_67 : decode rm_move.2.1 67 = .ok (.iload_n 3, 1) := by decide +kernel
theorem d_rm_move_68 : decode rm_move.2.1 68 = .ok (.if_icmp .le 30, 3) := by decide +kernel
theorem d_rm_move_71 : decode rm_move.2.1 71 = .ok (.aload_n 0, 1) := by decide +kernel
theorem d_rm_move_72 : decode rm_move.2.1 72 = .ok (.getfield 37, 3) := by decide +kernel
theorem d_rm_move_75 : decode rm_move.2.1 75 = .ok (.bipush 60, 2) := by decide +kernel
theorem d_rm_move_77 : decode rm_move.2.1 77 = .ok (.iload_n 1, 1) := by decide +kernel
theorem d_rm_move_78 : decode rm_move.2.1 78 = .ok (.imul, 1) := by decide +kernel
theorem d_rm_move_79 : decode rm_move.2.1 79 = .ok (.iload 5, 2) := by decide +kernel
theorem d_rm_move_81 : decode rm_move.2.1 81 = .ok (.iadd, 1) := by decide +kernel
theorem d_rm_move_82 : decode rm_move.2.1 82 = .ok (.aload_n 0, 1) := by decide +kernel
theorem d_rm_move_83 : decode rm_move.2.1 83 = .ok (.iload_n 1, 1) := by decide +kernel
theorem d_rm_move_84 : decode rm_move.2.1 84 = .ok (.iload 5, 2) := by decide +kernel
theorem d_rm_move_86 : decode rm_move.2.1 86 = .ok (.iconst 1, 1) := by decide +kernel
theorem d_rm_move_87 : decode rm_move.2.1 87 = .ok (.isub, 1) := by decide +kernel
theorem d_rm_move_88 : decode rm_move.2.1 88 = .ok (.invokevirtual 175, 3) := by decide +kernel
theorem d_rm_move_91 : decode rm_move.2.1 91 = .ok (.iastore, 1) := by decide +kernel
theorem d_rm_move_92 : decode rm_move.2.1 92 = .ok (.iinc 5 (-1), 3) := by decide +kernel
theorem d_rm_move_95 : decode rm_move.2.1 95 = .ok (.goto (-30), 3) := by decide +kernel
theorem d_rm_move_98 : decode rm_move.2.1 98 = .ok (.aload_n 0, 1) := by decide +kernel
theorem d_rm_move_99 : decode rm_move.2.1 99 = .ok (.getfield 37, 3) := by decide +kernel
theorem d_rm_move_102 : decode rm_move.2.1 102 = .ok (.bipush 60, 2) := by decide +kernel
theorem d_rm_move_104 : decode rm_move.2.1 104 = .ok (.iload_n 1, 1) := by decide +kernel
theorem d_rm_move_105 : decode rm_move.2.1 105 = .ok (.imul, 1) := by decide +kernel
theorem d_rm_move_106 : decode rm_move.2.1 106 = .ok (.iload_n 3, 1) := by decide +kernel
theorem d_rm_move_107 : decode rm_move.2.1 107 = .ok (.iadd, 1) := by decide +kernel
theorem d_rm_move_108 : decode rm_move.2.1 108 = .ok (.iload 4, 2) := by decide +kernel
theorem d_rm_move_110 : decode rm_move.2.1 110 = .ok (.iastore, 1) := by decide +kernel
theorem d_rm_move_111 : decode rm_move.2.1 111 = .ok (.aload_n 0, 1) := by decide +kernel
theorem d_rm_move_112 : decode rm_move.2.1 112 = .ok (.getfield 40, 3) := by decide +kernel
theorem d_rm_move_115 : decode rm_move.2.1 115 = .ok (.iload_n 1, 1) := by decide +kernel
theorem d_rm_move_116 : decode rm_move.2.1 116 = .ok (.dup2, 1) := by decide +kernel
theorem d_rm_move_117 : decode rm_move.2.1 117 = .ok (.iaload, 1) := by decide +kernel
theorem d_rm_move_118 : decode rm_move.2.1 118 = .ok (.iconst 1, 1) := by decide +kernel
theorem d_rm_move_119 : decode rm_move.2.1 119 = .ok (.iadd, 1) := by decide +kernel
theorem d_rm_move_120 : decode rm_move.2.1 120 = .ok (.iastore, 1) := by decide +kernel
theorem d_rm_move_121 : decode rm_move.2.1 121 = .ok (.iconst 1, 1) := by decide +kernel
theorem d_rm_move_122 : decode rm_move.2.1 122 = .ok (.ireturn, 1) := by decide +kernel
theorem d_rm_own_0 : decode rm_own.2.1 0 = .ok (.aload_n 0, 1) := by decide +kernel
theorem d_rm_own_1 : decode rm_own.2.1 1 = .ok (.iload_n 1, 1) := by decide +kernel
theorem d_rm_own_2 : decode rm_own.2.1 2 = .ok (.iload_n 2, 1) := by decide +kernel
theorem d_rm_own_3 : decode rm_own.2.1 3 = .ok (.invokevirtual 175, 3) := by decide +kernel
theorem d_rm_own_6 : decode rm_own.2.1 6 = .ok (.istore_n 3, 1) := by decide +kernel
theorem d_rm_own_7 : decode rm_own.2.1 7 = .ok (.aload_n 0, 1) := by decide +kernel
theorem d_rm_own_8 : decode rm_own.2.1 8 = .ok (.aload_n 0, 1) := by decide +kernel
theorem d_rm_own_9 : decode rm_own.2.1 9 = .ok (.getfield 27, 3) := by decide +kernel
theorem d_rm_own_12 : decode rm_own.2.1 12 = .ok (.iload_n 3, 1) := by decide +kernel
theorem d_rm_own_13 : decode rm_own.2.1 13 = .ok (.iaload, 1) := by decide +kernel
theorem d_rm_own_14 : decode rm_own.2.1 14 = .ok (.aload_n 0, 1) := by decide +kernel
theorem d_rm_own_15 : decode rm_own.2.1 15 = .ok (.getfield 30, 3) := by decide +kernel
theorem d_rm_own_18 : decode rm_own.2.1 18 = .ok (.iload_n 3, 1) := by decide +kernel
theorem d_rm_own_19 : decode rm_own.2.1 19 = .ok (.iaload, 1) := by decide +kernel
theorem d_rm_own_20 : decode rm_own.2.1 20 = .ok (.invokevirtual 194, 3) := by decide +kernel
theorem d_rm_own_23 : decode rm_own.2.1 23 = .ok (.istore 4, 2) := by decide +kernel
theorem d_rm_own_25 : decode rm_own.2.1 25 = .ok (.iconst 0, 1) := by decide +kernel
theorem d_rm_own_26 : decode rm_own.2.1 26 = .ok (.istore 5, 2) := by decide +kernel
theorem d_rm_own_28 : decode rm_own.2.1 28 = .ok (.iload 5, 2) := by decide +kernel
theorem d_rm_own_30 : decode rm_own.2.1 30 = .ok (.aload_n 0, 1) := by decide +kernel
theorem d_rm_own_31 : decode rm_own.2.1 31 = .ok (.getfield 27, 3) := by decide +kernel
theorem d_rm_own_34 : decode rm_own.2.1 34 = .ok (.iload_n 3, 1) := by decide +kernel
theorem d_rm_own_35 : decode rm_own.2.1 35 = .ok (.iaload, 1) := by decide +kernel
theorem d_rm_own_36 : decode rm_own.2.1 36 = .ok (.if_icmp .ge 34, 3) := by decide +kernel
theorem d_rm_own_39 : decode rm_own.2.1 39 = .ok (.aload_n 0, 1) := by decide +kernel
theorem d_rm_own_40 : decode rm_own.2.1 40 = .ok (.getfield 34, 3) := by decide +kernel
theorem d_rm_own_43 : decode rm_own.2.1 43 = .ok (.bipush 60, 2) := by decide +kernel
theorem d_rm_own_45 : decode rm_own.2.1 45 = .ok (.iload 4, 2) := by decide +kernel
theorem d_rm_own_47 : decode rm_own.2.1 47 = .ok (.imul, 1) := by decide +kernel
theorem d_rm_own_48 : decode rm_own.2.1 48 = .ok (.iload 5, 2) := by decide +kernel
theorem d_rm_own_50 : decode rm_own.2.1 50 = .ok (.iadd, 1) := by decide +kernel
theorem d_rm_own_51 : decode rm_own.2.1 51 = .ok (.aload_n 0, 1) := by decide +kernel
theorem d_rm_own_52 : decode rm_own.2.1 52 = .ok (.getfield 34, 3) := by decide +kernel
theorem d_rm_own_55 : decode rm_own.2.1 55 = .ok (.bipush 60, 2) := by decide +kernel
theorem d_rm_own_57 : decode rm_own.2.1 57 = .ok (.iload_n 3, 1) := by decide +kernel
theorem d_rm_own_58 : decode rm_own.2.1 58 = .ok (.imul, 1) := by decide +kernel
theorem d_rm_own_59 : decode rm_own.2.1 59 = .ok (.iload 5, 2) := by decide +kernel
theorem d_rm_own_61 : decode rm_own.2.1 61 = .ok (.iadd, 1) := by decide +kernel
theorem d_rm_own_62 : decode rm_own.2.1 62 = .ok (.iaload, 1) := by decide +kernel
theorem d_rm_own_63 : decode rm_own.2.1 63 = .ok (.iastore, 1) := by decide +kernel
theorem d_rm_own_64 : decode rm_own.2.1 64 = .ok (.iinc 5 1, 3) := by decide +kernel
theorem d_rm_own_67 : decode rm_own.2.1 67 = .ok (.goto (-39), 3) := by decide +kernel
theorem d_rm_own_70 : decode rm_own.2.1 70 = .ok (.aload_n 0, 1) := by decide +kernel
theorem d_rm_own_71 : decode rm_own.2.1 71 = .ok (.getfield 37, 3) := by decide +kernel
theorem d_rm_own_74 : decode rm_own.2.1 74 = .ok (.bipush 60, 2) := by decide +kernel
theorem d_rm_own_76 : decode rm_own.2.1 76 = .ok (.iload_n 1, 1) := by decide +kernel
theorem d_rm_own_77 : decode rm_own.2.1 77 = .ok (.imul, 1) := by decide +kernel
theorem d_rm_own_78 : decode rm_own.2.1 78 = .ok (.iload_n 2, 1) := by decide +kernel
theorem d_rm_own_79 : decode rm_own.2.1 79 = .ok (.iadd, 1) := by decide +kernel
theorem d_rm_own_80 : decode rm_own.2.1 80 = .ok (.iload 4, 2) := by decide +kernel
theorem d_rm_own_82 : decode rm_own.2.1 82 = .ok (.iastore, 1) := by decide +kernel
theorem d_rm_own_83 : decode rm_own.2.1 83 = .ok (.return_, 1) := by decide +kernel
theorem d_rm_sets_0 : decode rm_sets.2.1 0 = .ok (.aload_n 0, 1) := by decide +kernel
theorem d_rm_sets_1 : decode rm_sets.2.1 1 = .ok (.getfield 172, 3) := by decide +kernel
theorem d_rm_sets_4 : decode rm_sets.2.1 4 = .ok (.sipush 6000, 3) := by decide +kernel
theorem d_rm_sets_7 : decode rm_sets.2.1 7 = .ok (.if_icmp .ne 5, 3) := by decide +kernel
theorem d_rm_sets_10 : decode rm_sets.2.1 10 = .ok (.iconst 0, 1) := by decide +kernel
theorem d_rm_sets_11 : decode rm_sets.2.1 11 = .ok (.ireturn, 1) := by decide +kernel
theorem d_rm_sets_12 : decode rm_sets.2.1 12 = .ok (.aload_n 0, 1) := by decide +kernel
theorem d_rm_sets_13 : decode rm_sets.2.1 13 = .ok (.iload_n 1, 1) := by decide +kernel
theorem d_rm_sets_14 : decode rm_sets.2.1 14 = .ok (.invokevirtual 190, 3) := by decide +kernel
theorem d_rm_sets_17 : decode rm_sets.2.1 17 = .ok (.aload_n 0, 1) := by decide +kernel
theorem d_rm_sets_18 : decode rm_sets.2.1 18 = .ok (.iload_n 1, 1) := by decide +kernel
theorem d_rm_sets_19 : decode rm_sets.2.1 19 = .ok (.iload_n 2, 1) := by decide +kernel
theorem d_rm_sets_20 : decode rm_sets.2.1 20 = .ok (.invokevirtual 201, 3) := by decide +kernel
theorem d_rm_sets_23 : decode rm_sets.2.1 23 = .ok (.aload_n 0, 1) := by decide +kernel
theorem d_rm_sets_24 : decode rm_sets.2.1 24 = .ok (.getfield 34, 3) := by decide +kernel
theorem d_rm_sets_27 : decode rm_sets.2.1 27 = .ok (.aload_n 0, 1) := by decide +kernel
theorem d_rm_sets_28 : decode rm_sets.2.1 28 = .ok (.iload_n 1, 1) := by decide +kernel
theorem d_rm_sets_29 : decode rm_sets.2.1 29 = .ok (.iload_n 2, 1) := by decide +kernel
theorem d_rm_sets_30 : decode rm_sets.2.1 30 = .ok (.iload_n 3, 1) := by decide +kernel
theorem d_rm_sets_31 : decode rm_sets.2.1 31 = .ok (.invokevirtual 178, 3) := by decide +kernel
theorem d_rm_sets_34 : decode rm_sets.2.1 34 = .ok (.iload 4, 2) := by decide +kernel
theorem d_rm_sets_36 : decode rm_sets.2.1 36 = .ok (.iastore, 1) := by decide +kernel
theorem d_rm_sets_37 : decode rm_sets.2.1 37 = .ok (.iconst 1, 1) := by decide +kernel
theorem d_rm_sets_38 : decode rm_sets.2.1 38 = .ok (.ireturn, 1) := by decide +kernel
theorem d_rm_put_0 : decode rm_put.2.1 0 = .ok (.aload_n 0, 1) := by decide +kernel
theorem d_rm_put_1 : decode rm_put.2.1 1 = .ok (.iload_n 1, 1) := by decide +kernel
theorem d_rm_put_2 : decode rm_put.2.1 2 = .ok (.invokevirtual 187, 3) := by decide +kernel
theorem d_rm_put_5 : decode rm_put.2.1 5 = .ok (.ifCond .eq 38, 3) := by decide +kernel
theorem d_rm_put_8 : decode rm_put.2.1 8 = .ok (.aload_n 0, 1) := by decide +kernel
theorem d_rm_put_9 : decode rm_put.2.1 9 = .ok (.iload_n 1, 1) := by decide +kernel
theorem d_rm_put_10 : decode rm_put.2.1 10 = .ok (.iload_n 2, 1) := by decide +kernel
theorem d_rm_put_11 : decode rm_put.2.1 11 = .ok (.i2l, 1) := by decide +kernel
theorem d_rm_put_12 : decode rm_put.2.1 12 = .ok (.iload_n 3, 1) := by decide +kernel
theorem d_rm_put_13 : decode rm_put.2.1 13 = .ok (.i2l, 1) := by decide +kernel
theorem d_rm_put_14 : decode rm_put.2.1 14 = .ok (.invokevirtual 204, 3) := by decide +kernel
theorem d_rm_put_17 : decode rm_put.2.1 17 = .ok (.ifCond .eq 26, 3) := by decide +kernel
theorem d_rm_put_20 : decode rm_put.2.1 20 = .ok (.iload 4, 2) := by decide +kernel
theorem d_rm_put_22 : decode rm_put.2.1 22 = .ok (.iconst (-1), 1) := by decide +kernel
theorem d_rm_put_23 : decode rm_put.2.1 23 = .ok (.if_icmp .eq 22, 3) := by decide +kernel
theorem d_rm_put_26 : decode rm_put.2.1 26 = .ok (.aload_n 0, 1) := by decide +kernel
theorem d_rm_put_27 : decode rm_put.2.1 27 = .ok (.iload 4, 2) := by decide +kernel
theorem d_rm_put_29 : decode rm_put.2.1 29 = .ok (.invokevirtual 145, 3) := by decide +kernel
theorem d_rm_put_32 : decode rm_put.2.1 32 = .ok (.ifCond .eq 11, 3) := by decide +kernel
theorem d_rm_put_35 : decode rm_put.2.1 35 = .ok (.iload 5, 2) := by decide +kernel
theorem d_rm_put_37 : decode rm_put.2.1 37 = .ok (.invokestatic 137, 3) := by decide +kernel
theorem d_rm_put_40 : decode rm_put.2.1 40 = .ok (.ifCond .ne 5, 3) := by decide +kernel
theorem d_rm_put_43 : decode rm_put.2.1 43 = .ok (.iconst 0, 1) := by decide +kernel
theorem d_rm_put_44 : decode rm_put.2.1 44 = .ok (.ireturn, 1) := by decide +kernel
theorem d_rm_put_45 : decode rm_put.2.1 45 = .ok (.aload_n 0, 1) := by decide +kernel
theorem d_rm_put_46 : decode rm_put.2.1 46 = .ok (.iload_n 1, 1) := by decide +kernel
theorem d_rm_put_47 : decode rm_put.2.1 47 = .ok (.iload_n 2, 1) := by decide +kernel
theorem d_rm_put_48 : decode rm_put.2.1 48 = .ok (.iload_n 3, 1) := by decide +kernel
theorem d_rm_put_49 : decode rm_put.2.1 49 = .ok (.iload 4, 2) := by decide +kernel
theorem d_rm_put_51 : decode rm_put.2.1 51 = .ok (.iconst (-1), 1) := by decide +kernel
theorem d_rm_put_52 : decode rm_put.2.1 52 = .ok (.if_icmp .ne 7, 3) := by decide +kernel
theorem d_rm_put_55 : decode rm_put.2.1 55 = .ok (.iconst 0, 1) := by decide +kernel
theorem d_rm_put_56 : decode rm_put.2.1 56 = .ok (.goto 17, 3) := by decide +kernel
theorem d_rm_put_59 : decode rm_put.2.1 59 = .ok (.iload 4, 2) := by decide +kernel
theorem d_rm_put_61 : decode rm_put.2.1 61 = .ok (.aload_n 0, 1) := by decide +kernel
theorem d_rm_put_62 : decode rm_put.2.1 62 = .ok (.iload 4, 2) := by decide +kernel
theorem d_rm_put_64 : decode rm_put.2.1 64 = .ok (.iload 5, 2) := by decide +kernel
theorem d_rm_put_66 : decode rm_put.2.1 66 = .ok (.invokevirtual 148, 3) := by decide +kernel
theorem d_rm_put_69 : decode rm_put.2.1 69 = .ok (.iconst 0, 1) := by decide +kernel
theorem d_rm_put_70 : decode rm_put.2.1 70 = .ok (.invokestatic 166, 3) := by decide +kernel
theorem d_rm_put_73 : decode rm_put.2.1 73 = .ok (.invokevirtual 208, 3) := by decide +kernel
theorem d_rm_put_76 : decode rm_put.2.1 76 = .ok (.ireturn, 1) := by decide +kernel
theorem d_rm_shade_0 : decode rm_shade.2.1 0 = .ok (.aload_n 0, 1) := by decide +kernel
theorem d_rm_shade_1 : decode rm_shade.2.1 1 = .ok (.iload_n 1, 1) := by decide +kernel
theorem d_rm_shade_2 : decode rm_shade.2.1 2 = .ok (.invokevirtual 187, 3) := by decide +kernel
theorem d_rm_shade_5 : decode rm_shade.2.1 5 = .ok (.ifCond .eq 25, 3) := by decide +kernel
theorem d_rm_shade_8 : decode rm_shade.2.1 8 = .ok (.aload_n 0, 1) := by decide +kernel
theorem d_rm_shade_9 : decode rm_shade.2.1 9 = .ok (.iload_n 1, 1) := by decide +kernel
theorem d_rm_shade_10 : decode rm_shade.2.1 10 = .ok (.iload_n 2, 1) := by decide +kernel
theorem d_rm_shade_11 : decode rm_shade.2.1 11 = .ok (.i2l, 1) := by decide +kernel
theorem d_rm_shade_12 : decode rm_shade.2.1 12 = .ok (.iload_n 3, 1) := by decide +kernel
theorem d_rm_shade_13 : decode rm_shade.2.1 13 = .ok (.i2l, 1) := by decide +kernel
theorem d_rm_shade_14 : decode rm_shade.2.1 14 = .ok (.invokevirtual 204, 3) := by decide +kernel
theorem d_rm_shade_17 : decode rm_shade.2.1 17 = .ok (.ifCond .eq 13, 3) := by decide +kernel
theorem d_rm_shade_20 : decode rm_shade.2.1 20 = .ok (.aload_n 0, 1) := by decide +kernel
theorem d_rm_shade_21 : decode rm_shade.2.1 21 = .ok (.iload_n 1, 1) := by decide +kernel
theorem d_rm_shade_22 : decode rm_shade.2.1 22 = .ok (.iload_n 2, 1) := by decide +kernel
theorem d_rm_shade_23 : decode rm_shade.2.1 23 = .ok (.iload_n 3, 1) := by decide +kernel
theorem d_rm_shade_24 : decode rm_shade.2.1 24 = .ok (.invokevirtual 212, 3) := by decide +kernel
theorem d_rm_shade_27 : decode rm_shade.2.1 27 = .ok (.ifCond .ne 5, 3) := by decide +kernel
theorem d_rm_shade_30 : decode rm_shade.2.1 30 = .ok (.iconst 0, 1) := by decide +kernel
theorem d_rm_shade_31 : decode rm_shade.2.1 31 = .ok (.ireturn, 1) := by decide +kernel
theorem d_rm_shade_32 : decode rm_shade.2.1 32 = .ok (.aload_n 0, 1) := by decide +kernel
theorem d_rm_shade_33 : decode rm_shade.2.1 33 = .ok (.iload_n 1, 1) := by decide +kernel
theorem d_rm_shade_34 : decode rm_shade.2.1 34 = .ok (.iload_n 2, 1) := by decide +kernel
theorem d_rm_shade_35 : decode rm_shade.2.1 35 = .ok (.iload_n 3, 1) := by decide +kernel
theorem d_rm_shade_36 : decode rm_shade.2.1 36 = .ok (.invokevirtual 212, 3) := by decide +kernel
theorem d_rm_shade_39 : decode rm_shade.2.1 39 = .ok (.istore 5, 2) := by decide +kernel
theorem d_rm_shade_41 : decode rm_shade.2.1 41 = .ok (.aload_n 0, 1) := by decide +kernel
theorem d_rm_shade_42 : decode rm_shade.2.1 42 = .ok (.iload_n 1, 1) := by decide +kernel
theorem d_rm_shade_43 : decode rm_shade.2.1 43 = .ok (.iload_n 2, 1) := by decide +kernel
theorem d_rm_shade_44 : decode rm_shade.2.1 44 = .ok (.iload_n 3, 1) := by decide +kernel
theorem d_rm_shade_45 : decode rm_shade.2.1 45 = .ok (.iload 5, 2) := by decide +kernel
theorem d_rm_shade_47 : decode rm_shade.2.1 47 = .ok (.invokestatic 156, 3) := by decide +kernel
theorem d_rm_shade_50 : decode rm_shade.2.1 50 = .ok (.iload 5, 2) := by decide +kernel
theorem d_rm_shade_52 : decode rm_shade.2.1 52 = .ok (.invokestatic 160, 3) := by decide +kernel
theorem d_rm_shade_55 : decode rm_shade.2.1 55 = .ok (.iload 4, 2) := by decide +kernel
theorem d_rm_shade_57 : decode rm_shade.2.1 57 = .ok (.i2s, 1) := by decide +kernel
theorem d_rm_shade_58 : decode rm_shade.2.1 58 = .ok (.invokestatic 166, 3) := by decide +kernel
theorem d_rm_shade_61 : decode rm_shade.2.1 61 = .ok (.invokevirtual 208, 3) := by decide +kernel
theorem d_rm_shade_64 : decode rm_shade.2.1 64 = .ok (.ireturn, 1) := by decide +kernel
theorem d_rm_at_0 : decode rm_at.2.1 0 = .ok (.aload_n 0, 1) := by decide +kernel
theorem d_rm_at_1 : decode rm_at.2.1 1 = .ok (.iload_n 1, 1) := by decide +kernel
theorem d_rm_at_2 : decode rm_at.2.1 2 = .ok (.invokevirtual 187, 3) := by decide +kernel
theorem d_rm_at_5 : decode rm_at.2.1 5 = .ok (.ifCond .eq 14, 3) := by decide +kernel
theorem d_rm_at_8 : decode rm_at.2.1 8 = .ok (.iload 4, 2) := by decide +kernel
theorem d_rm_at_10 : decode rm_at.2.1 10 = .ok (.ifCond .lt 9, 3) := by decide +kernel
theorem d_rm_at_13 : decode rm_at.2.1 13 = .ok (.iload 4, 2) := by decide +kernel
theorem d_rm_at_15 : decode rm_at.2.1 15 = .ok (.iconst 2, 1) := by decide +kernel
theorem d_rm_at_16 : decode rm_at.2.1 16 = .ok (.if_icmp .le 5, 3) := by decide +kernel
theorem d_rm_at_19 : decode rm_at.2.1 19 = .ok (.iconst (-1), 1) := by decide +kernel
theorem d_rm_at_20 : decode rm_at.2.1 20 = .ok (.ireturn, 1) := by decide +kernel
theorem d_rm_at_21 : decode rm_at.2.1 21 = .ok (.aload_n 0, 1) := by decide +kernel
theorem d_rm_at_22 : decode rm_at.2.1 22 = .ok (.iload_n 1, 1) := by decide +kernel
theorem d_rm_at_23 : decode rm_at.2.1 23 = .ok (.iload_n 2, 1) := by decide +kernel
theorem d_rm_at_24 : decode rm_at.2.1 24 = .ok (.i2l, 1) := by decide +kernel
theorem d_rm_at_25 : decode rm_at.2.1 25 = .ok (.iload_n 3, 1) := by decide +kernel
theorem d_rm_at_26 : decode rm_at.2.1 26 = .ok (.i2l, 1) := by decide +kernel
theorem d_rm_at_27 : decode rm_at.2.1 27 = .ok (.invokevirtual 204, 3) := by decide +kernel
theorem d_rm_at_30 : decode rm_at.2.1 30 = .ok (.istore 5, 2) := by decide +kernel
theorem d_rm_at_32 : decode rm_at.2.1 32 = .ok (.iload 5, 2) := by decide +kernel
theorem d_rm_at_34 : decode rm_at.2.1 34 = .ok (.ifCond .eq 13, 3) := by decide +kernel
theorem d_rm_at_37 : decode rm_at.2.1 37 = .ok (.aload_n 0, 1) := by decide +kernel
theorem d_rm_at_38 : decode rm_at.2.1 38 = .ok (.iload_n 1, 1) := by decide +kernel
theorem d_rm_at_39 : decode rm_at.2.1 39 = .ok (.iload_n 2, 1) := by decide +kernel
theorem d_rm_at_40 : decode rm_at.2.1 40 = .ok (.iload_n 3, 1) := by decide +kernel
theorem d_rm_at_41 : decode rm_at.2.1 41 = .ok (.invokevirtual 212, 3) := by decide +kernel
theorem d_rm_at_44 : decode rm_at.2.1 44 = .ok (.goto 4, 3) := by decide +kernel
theorem d_rm_at_47 : decode rm_at.2.1 47 = .ok (.iconst 0, 1) := by decide +kernel
theorem d_rm_at_48 : decode rm_at.2.1 48 = .ok (.istore 6, 2) := by decide +kernel
theorem d_rm_at_50 : decode rm_at.2.1 50 = .ok (.iload 4, 2) := by decide +kernel
theorem d_rm_at_52 : decode rm_at.2.1 52 = .ok (.ifCond .ne 28, 3) := by decide +kernel
theorem d_rm_at_55 : decode rm_at.2.1 55 = .ok (.iload 5, 2) := by decide +kernel
theorem d_rm_at_57 : decode rm_at.2.1 57 = .ok (.ifCond .ne 8, 3) := by decide +kernel
theorem d_rm_at_60 : decode rm_at.2.1 60 = .ok (.bipush (-2), 2) := by decide +kernel
theorem d_rm_at_62 : decode rm_at.2.1 62 = .ok (.goto 17, 3) := by decide +kernel
theorem d_rm_at_65 : decode rm_at.2.1 65 = .ok (.iload 6, 2) := by decide +kernel
theorem d_rm_at_67 : decode rm_at.2.1 67 = .ok (.ifCond .ne 7, 3) := by decide +kernel
theorem d_rm_at_70 : decode rm_at.2.1 70 = .ok (.iconst (-1), 1) := by decide +kernel
theorem d_rm_at_71 : decode rm_at.2.1 71 = .ok (.goto 8, 3) := by decide +kernel
theorem d_rm_at_74 : decode rm_at.2.1 74 = .ok (.iload 6, 2) := by decide +kernel
theorem d_rm_at_76 : decode rm_at.2.1 76 = .ok (.invokestatic 156, 3) := by decide +kernel
theorem d_rm_at_79 : decode rm_at.2.1 79 = .ok (.ireturn, 1) := by decide +kernel
theorem d_rm_at_80 : decode rm_at.2.1 80 = .ok (.iload 6, 2) := by decide +kernel
theorem d_rm_at_82 : decode rm_at.2.1 82 = .ok (.ifCond .ne 7, 3) := by decide +kernel
theorem d_rm_at_85 : decode rm_at.2.1 85 = .ok (.iconst 0, 1) := by decide +kernel
theorem d_rm_at_86 : decode rm_at.2.1 86 = .ok (.goto 22, 3) := by decide +kernel
theorem d_rm_at_89 : decode rm_at.2.1 89 = .ok (.iload 4, 2) := by decide +kernel
theorem d_rm_at_91 : decode rm_at.2.1 91 = .ok (.iconst 1, 1) := by decide +kernel
theorem d_rm_at_92 : decode rm_at.2.1 92 = .ok (.if_icmp .ne 11, 3) := by decide +kernel
theorem d_rm_at_95 : decode rm_at.2.1 95 = .ok (.iload 6, 2) := by decide +kernel
theorem d_rm_at_97 : decode rm_at.2.1 97 = .ok (.invokestatic 160, 3) := by decide +kernel
theorem d_rm_at_100 : decode rm_at.2.1 100 = .ok (.goto 8, 3) := by decide +kernel
theorem d_rm_at_103 : decode rm_at.2.1 103 = .ok (.iload 6, 2) := by decide +kernel
theorem d_rm_at_105 : decode rm_at.2.1 105 = .ok (.invokestatic 163, 3) := by decide +kernel
theorem d_rm_at_108 : decode rm_at.2.1 108 = .ok (.ireturn, 1) := by decide +kernel
theorem d_rm_row_0 : decode rm_row.2.1 0 = .ok (.aload_n 0, 1) := by decide +kernel
theorem d_rm_row_1 : decode rm_row.2.1 1 = .ok (.iload_n 1, 1) := by decide +kernel
theorem d_rm_row_2 : decode rm_row.2.1 2 = .ok (.invokevirtual 187, 3) := by decide +kernel
theorem d_rm_row_5 : decode rm_row.2.1 5 = .ok (.ifCond .eq 26, 3) := by decide +kernel
theorem d_rm_row_8 : decode rm_row.2.1 8 = .ok (.iload_n 2, 1) := by decide +kernel
theorem d_rm_row_9 : decode rm_row.2.1 9 = .ok (.ifCond .lt 22, 3) := by decide +kernel
theorem d_rm_row_12 : decode rm_row.2.1 12 = .ok (.iload_n 2, 1) := by decide +kernel
theorem d_rm_row_13 : decode rm_row.2.1 13 = .ok (.aload_n 0, 1) := by decide +kernel
theorem d_rm_row_14 : decode rm_row.2.1 14 = .ok (.getfield 40, 3) := by decide +kernel
theorem d_rm_row_17 : decode rm_row.2.1 17 = .ok (.iload_n 1, 1) := by decide +kernel
theorem d_rm_row_18 : decode rm_row.2.1 18 = .ok (.iaload, 1) := by decide +kernel
theorem d_rm_row_19 : decode rm_row.2.1 19 = .ok (.if_icmp .ge 12, 3) := by decide +kernel
theorem d_rm_row_22 : decode rm_row.2.1 22 = .ok (.iload_n 3, 1) := by decide +kernel
theorem d_rm_row_23 : decode rm_row.2.1 23 = .ok (.ifCond .lt 8, 3) := by decide +kernel
theorem d_rm_row_26 : decode rm_row.2.1 26 = .ok (.iload_n 3, 1) := by decide +kernel
theorem d_rm_row_27 : decode rm_row.2.1 27 = .ok (.iconst 2, 1) := by decide +kernel
theorem d_rm_row_28 : decode rm_row.2.1 28 = .ok (.if_icmp .le 5, 3) := by decide +kernel
theorem d_rm_row_31 : decode rm_row.2.1 31 = .ok (.iconst (-1), 1) := by decide +kernel
theorem d_rm_row_32 : decode rm_row.2.1 32 = .ok (.ireturn, 1) := by decide +kernel
theorem d_rm_row_33 : decode rm_row.2.1 33 = .ok (.aload_n 0, 1) := by decide +kernel
theorem d_rm_row_34 : decode rm_row.2.1 34 = .ok (.iload_n 1, 1) := by decide +kernel
theorem d_rm_row_35 : decode rm_row.2.1 35 = .ok (.iload_n 2, 1) := by decide +kernel
theorem d_rm_row_36 : decode rm_row.2.1 36 = .ok (.invokevirtual 175, 3) := by decide +kernel
theorem d_rm_row_39 : decode rm_row.2.1 39 = .ok (.istore 4, 2) := by decide +kernel
theorem d_rm_row_41 : decode rm_row.2.1 41 = .ok (.iload_n 3, 1) := by decide +kernel
theorem d_rm_row_42 : decode rm_row.2.1 42 = .ok (.iconst 2, 1) := by decide +kernel
theorem d_rm_row_43 : decode rm_row.2.1 43 = .ok (.if_icmp .ge 25, 3) := by decide +kernel
theorem d_rm_row_46 : decode rm_row.2.1 46 = .ok (.iload_n 3, 1) := by decide +kernel
theorem d_rm_row_47 : decode rm_row.2.1 47 = .ok (.ifCond .ne 13, 3) := by decide +kernel
theorem d_rm_row_50 : decode rm_row.2.1 50 = .ok (.aload_n 0, 1) := by decide +kernel
theorem d_rm_row_51 : decode rm_row.2.1 51 = .ok (.getfield 27, 3) := by decide +kernel
theorem d_rm_row_54 : decode rm_row.2.1 54 = .ok (.iload 4, 2) := by decide +kernel
theorem d_rm_row_56 : decode rm_row.2.1 56 = .ok (.iaload, 1) := by decide +kernel
theorem d_rm_row_57 : decode rm_row.2.1 57 = .ok (.goto 10, 3) := by decide +kernel
theorem d_rm_row_60 : decode rm_row.2.1 60 = .ok (.aload_n 0, 1) := by decide +kernel
theorem d_rm_row_61 : decode rm_row.2.1 61 = .ok (.getfield 30, 3) := by decide +kernel
theorem d_rm_row_64 : decode rm_row.2.1 64 = .ok (.iload 4, 2) := by decide +kernel
theorem d_rm_row_66 : decode rm_row.2.1 66 = .ok (.iaload, 1) := by decide +kernel
theorem d_rm_row_67 : decode rm_row.2.1 67 = .ok (.ireturn, 1) := by decide +kernel
theorem d_rm_row_68 : decode rm_row.2.1 68 = .ok (.iconst 0, 1) := by decide +kernel
theorem d_rm_row_69 : decode rm_row.2.1 69 = .ok (.istore 5, 2) := by decide +kernel
theorem d_rm_row_71 : decode rm_row.2.1 71 = .ok (.iconst 0, 1) := by decide +kernel
theorem d_rm_row_72 : decode rm_row.2.1 72 = .ok (.istore 6, 2) := by decide +kernel
theorem d_rm_row_74 : decode rm_row.2.1 74 = .ok (.iload 6, 2) := by decide +kernel
theorem d_rm_row_76 : decode rm_row.2.1 76 = .ok (.aload_n 0, 1) := by decide +kernel
theorem d_rm_row_77 : decode rm_row.2.1 77 = .ok (.getfield 169, 3) := by decide +kernel
theorem d_rm_row_80 : decode rm_row.2.1 80 = .ok (.if_icmp .ge 53, 3) := by decide +kernel
theorem d_rm_row_83 : decode rm_row.2.1 83 = .ok (.iconst 0, 1) := by decide +kernel
theorem d_rm_row_84 : decode rm_row.2.1 84 = .ok (.istore 7, 2) := by decide +kernel
theorem d_rm_row_86 : decode rm_row.2.1 86 = .ok (.iload 7, 2) := by decide +kernel
theorem d_rm_row_88 : decode rm_row.2.1 88 = .ok (.aload_n 0, 1) := by decide +kernel
theorem d_rm_row_89 : decode rm_row.2.1 89 = .ok (.getfield 40, 3) := by decide +kernel
theorem d_rm_row_92 : decode rm_row.2.1 92 = .ok (.iload 6, 2) := by decide +kernel
theorem d_rm_row_94 : decode rm_row.2.1 94 = .ok (.iaload, 1) := by decide +kernel
theorem d_rm_row_95 : decode rm_row.2.1 95 = .ok (.if_icmp .ge 32, 3) := by decide +kernel
theorem d_rm_row_98 : decode rm_row.2.1 98 = .ok (.iload 5, 2) := by decide +kernel
theorem d_rm_row_100 : decode rm_row.2.1 100 = .ok (.aload_n 0, 1) := by decide +kernel
theorem d_rm_row_101 : decode rm_row.2.1 101 = .ok (.iload 6, 2) := by decide +kernel
theorem d_rm_row_103 : decode rm_row.2.1 103 = .ok (.iload 7, 2) := by decide +kernel
theorem d_rm_row_105 : decode rm_row.2.1 105 = .ok (.invokevirtual 175, 3) := by decide +kernel
theorem d_rm_row_108 : decode rm_row.2.1 108 = .ok (.iload 4, 2) := by decide +kernel
theorem d_rm_row_110 : decode rm_row.2.1 110 = .ok (.if_icmp .ne 7, 3) := by decide +kernel
theorem d_rm_row_113 : decode rm_row.2.1 113 = .ok (.iconst 1, 1) := by decide +kernel
theorem d_rm_row_114 : decode rm_row.2.1 114 = .ok (.goto 4, 3) := by decide +kernel
theorem d_rm_row_117 : decode rm_row.2.1 117 = .ok (.iconst 0, 1) := by decide +kernel
theorem d_rm_row_118 : decode rm_row.2.1 118 = .ok (.iadd, 1) := by decide +kernel
theorem d_rm_row_119 : decode rm_row.2.1 119 = .ok (.istore 5, 2) := by decide +kernel
theorem d_rm_row_121 : decode rm_row.2.1 121 = .ok (.iinc 7 1, 3) := by decide +kernel
theorem d_rm_row_124 : decode rm_row.2.1 124 = .ok (.goto (-38), 3) := by decide +kernel
theorem d_rm_row_127 : decode rm_row.2.1 127 = .ok (.iinc 6 1, 3) := by decide +kernel
theorem d_rm_row_130 : decode rm_row.2.1 130 = .ok (.goto (-56), 3) := by decide +kernel
theorem d_rm_row_133 : decode rm_row.2.1 133 = .ok (.iload 5, 2) := by decide +kernel
theorem d_rm_row_135 : decode rm_row.2.1 135 = .ok (.ireturn, 1) := by decide +kernel
theorem d_rm_shares_0 : decode rm_shares.2.1 0 = .ok (.aload_n 0, 1) := by decide +kernel
theorem d_rm_shares_1 : decode rm_shares.2.1 1 = .ok (.iload_n 1, 1) := by decide +kernel
theorem d_rm_shares_2 : decode rm_shares.2.1 2 = .ok (.invokevirtual 187, 3) := by decide +kernel
theorem d_rm_shares_5 : decode rm_shares.2.1 5 = .ok (.ifCond .eq 61, 3) := by decide +kernel
theorem d_rm_shares_8 : decode rm_shares.2.1 8 = .ok (.aload_n 0, 1) := by decide +kernel
theorem d_rm_shares_9 : decode rm_shares.2.1 9 = .ok (.iload_n 3, 1) := by decide +kernel
theorem d_rm_shares_10 : decode rm_shares.2.1 10 = .ok (.invokevirtual 187, 3) := by decide +kernel
theorem d_rm_shares_13 : decode rm_shares.2.1 13 = .ok (.ifCond .eq 53, 3) := by decide +kernel
theorem d_rm_shares_16 : decode rm_shares.2.1 16 = .ok (.iload_n 2, 1) := by decide +kernel
theorem d_rm_shares_17 : decode rm_shares.2.1 17 = .ok (.ifCond .lt 49, 3) := by decide +kernel
theorem d_rm_shares_20 : decode rm_shares.2.1 20 = .ok (.iload_n 2, 1) := by decide +kernel
theorem d_rm_shares_21 : decode rm_shares.2.1 21 = .ok (.aload_n 0, 1) := by decide +kernel
theorem d_rm_shares_22 : decode rm_shares.2.1 22 = .ok (.getfield 40, 3) := by decide +kernel
theorem d_rm_shares_25 : decode rm_shares.2.1 25 = .ok (.iload_n 1, 1) := by decide +kernel
theorem d_rm_shares_26 : decode rm_shares.2.1 26 = .ok (.iaload, 1) := by decide +kernel
theorem d_rm_shares_27 : decode rm_shares.2.1 27 = .ok (.if_icmp .ge 39, 3) := by decide +kernel
theorem d_rm_shares_30 : decode rm_shares.2.1 30 = .ok (.iload 4, 2) := by decide +kernel
theorem d_rm_shares_32 : decode rm_shares.2.1 32 = .ok (.ifCond .lt 34, 3) := by decide +kernel
theorem d_rm_shares_35 : decode rm_shares.2.1 35 = .ok (.iload 4, 2) := by decide +kernel
theorem d_rm_shares_37 : decode rm_shares.2.1 37 = .ok (.aload_n 0, 1) := by decide +kernel
theorem d_rm_shares_38 : decode rm_shares.2.1 38 = .ok (.getfield 40, 3) := by decide +kernel
theorem d_rm_shares_41 : decode rm_shares.2.1 41 = .ok (.iload_n 3, 1) := by decide +kernel
theorem d_rm_shares_42 : decode rm_shares.2.1 42 = .ok (.iaload, 1) := by decide +kernel
theorem d_rm_shares_43 : decode rm_shares.2.1 43 = .ok (.if_icmp .ge 23, 3) := by decide +kernel
theorem d_rm_shares_46 : decode rm_shares.2.1 46 = .ok (.aload_n 0, 1) := by decide +kernel
theorem d_rm_shares_47 : decode rm_shares.2.1 47 = .ok (.iload_n 1, 1) := by decide +kernel
theorem d_rm_shares_48 : decode rm_shares.2.1 48 = .ok (.iload_n 2, 1) := by decide +kernel
theorem d_rm_shares_49 : decode rm_shares.2.1 49 = .ok (.invokevirtual 175, 3) := by decide +kernel
theorem d_rm_shares_52 : decode rm_shares.2.1 52 = .ok (.aload_n 0, 1) := by decide +kernel
theorem d_rm_shares_53 : decode rm_shares.2.1 53 = .ok (.iload_n 3, 1) := by decide +kernel
theorem d_rm_shares_54 : decode rm_shares.2.1 54 = .ok (.iload 4, 2) := by decide +kernel
theorem d_rm_shares_56 : decode rm_shares.2.1 56 = .ok (.invokevirtual 175, 3) := by decide +kernel
theorem d_rm_shares_59 : decode rm_shares.2.1 59 = .ok (.if_icmp .ne 7, 3) := by decide +kernel
theorem d_rm_shares_62 : decode rm_shares.2.1 62 = .ok (.iconst 1, 1) := by decide +kernel
theorem d_rm_shares_63 : decode rm_shares.2.1 63 = .ok (.goto 4, 3) := by decide +kernel
theorem d_rm_shares_66 : decode rm_shares.2.1 66 = .ok (.iconst 0, 1) := by decide +kernel
theorem d_rm_shares_67 : decode rm_shares.2.1 67 = .ok (.ireturn, 1) := by decide +kernel
theorem d_rm_copy_0 : decode rm_copy.2.1 0 = .ok (.aload_n 0, 1) := by decide +kernel
theorem d_rm_copy_1 : decode rm_copy.2.1 1 = .ok (.iload_n 1, 1) := by decide +kernel
theorem d_rm_copy_2 : decode rm_copy.2.1 2 = .ok (.invokevirtual 187, 3) := by decide +kernel
theorem d_rm_copy_5 : decode rm_copy.2.1 5 = .ok (.ifCond .eq 12, 3) := by decide +kernel
theorem d_rm_copy_8 : decode rm_copy.2.1 8 = .ok (.aload_n 0, 1) := by decide +kernel
theorem d_rm_copy_9 : decode rm_copy.2.1 9 = .ok (.getfield 169, 3) := by decide +kernel
theorem d_rm_copy_12 : decode rm_copy.2.1 12 = .ok (.bipush 16, 2) := by decide +kernel
theorem d_rm_copy_14 : decode rm_copy.2.1 14 = .ok (.if_icmp .ne 5, 3) := by decide +kernel
theorem d_rm_copy_17 : decode rm_copy.2.1 17 = .ok (.iconst (-1), 1) := by decide +kernel
theorem d_rm_copy_18 : decode rm_copy.2.1 18 = .ok (.ireturn, 1) := by decide +kernel
theorem d_rm_copy_19 : decode rm_copy.2.1 19 = .ok (.aload_n 0, 1) := by decide +kernel
theorem d_rm_copy_20 : decode rm_copy.2.1 20 = .ok (.getfield 40, 3) := by decide +kernel
theorem d_rm_copy_23 : decode rm_copy.2.1 23 = .ok (.aload_n 0, 1) := by decide +kernel
theorem d_rm_copy_24 : decode rm_copy.2.1 24 = .ok (.getfield 169, 3) := by decide +kernel
theorem d_rm_copy_27 : decode rm_copy.2.1 27 = .ok (.aload_n 0, 1) := by decide +kernel
theorem d_rm_copy_28 : decode rm_copy.2.1 28 = .ok (.getfield 40, 3) := by decide +kernel
theorem d_rm_copy_31 : decode rm_copy.2.1 31 = .ok (.iload_n 1, 1) := by decide +kernel
theorem d_rm_copy_32 : decode rm_copy.2.1 32 = .ok (.iaload, 1) := by decide +kernel
theorem d_rm_copy_33 : decode rm_copy.2.1 33 = .ok (.iastore, 1) := by decide +kernel
theorem d_rm_copy_34 : decode rm_copy.2.1 34 = .ok (.iconst 0, 1) := by decide +kernel
theorem d_rm_copy_35 : decode rm_copy.2.1 35 = .ok (.istore_n 2, 1) := by decide +kernel
theorem d_rm_copy_36 : decode rm_copy.2.1 36 = .ok (.iload_n 2, 1) := by decide +kernel
theorem d_rm_copy_37 : decode rm_copy.2.1 37 = .ok (.aload_n 0, 1) := by decide +kernel
theorem d_rm_copy_38 : decode rm_copy.2.1 38 = .ok (.getfield 40, 3) := by decide +kernel
theorem d_rm_copy_41 : decode rm_copy.2.1 41 = .ok (.iload_n 1, 1) := by decide +kernel
theorem d_rm_copy_42 : decode rm_copy.2.1 42 = .ok (.iaload, 1) := by decide +kernel
theorem d_rm_copy_43 : decode rm_copy.2.1 43 = .ok (.if_icmp .ge 29, 3) := by decide +kernel
theorem d_rm_copy_46 : decode rm_copy.2.1 46 = .ok (.aload_n 0, 1) := by decide +kernel
theorem d_rm_copy_47 : decode rm_copy.2.1 47 = .ok (.getfield 37, 3) := by decide +kernel
theorem d_rm_copy_50 : decode rm_copy.2.1 50 = .ok (.bipush 60, 2) := by decide +kernel
theorem d_rm_copy_52 : decode rm_copy.2.1 52 = .ok (.aload_n 0, 1) := by decide +kernel
theorem d_rm_copy_53 : decode rm_copy.2.1 53 = .ok (.getfield 169, 3) := by decide +kernel
theorem d_rm_copy_56 : decode rm_copy.2.1 56 = .ok (.imul, 1) := by decide +kernel
theorem d_rm_copy_57 : decode rm_copy.2.1 57 = .ok (.iload_n 2, 1) := by decide +kernel
theorem d_rm_copy_58 : decode rm_copy.2.1 58 = .ok (.iadd, 1) := by decide +kernel
theorem d_rm_copy_59 : decode rm_copy.2.1 59 = .ok (.aload_n 0, 1) := by decide +kernel
theorem d_rm_copy_60 : decode rm_copy.2.1 60 = .ok (.iload_n 1, 1) := by decide +kernel
theorem d_rm_copy_61 : decode rm_copy.2.1 61 = .ok (.iload_n 2, 1) := by decide +kernel
theorem d_rm_copy_62 : decode rm_copy.2.1 62 = .ok (.invokevirtual 175, 3) := by decide +kernel
theorem d_rm_copy_65 : decode rm_copy.2.1 65 = .ok (.iastore, 1) := by decide +kernel
theorem d_rm_copy_66 : decode rm_copy.2.1 66 = .ok (.iinc 2 1, 3) := by decide +kernel
theorem d_rm_copy_69 : decode rm_copy.2.1 69 = .ok (.goto (-33), 3) := by decide +kernel
theorem d_rm_copy_72 : decode rm_copy.2.1 72 = .ok (.aload_n 0, 1) := by decide +kernel
theorem d_rm_copy_73 : decode rm_copy.2.1 73 = .ok (.dup, 1) := by decide +kernel
theorem d_rm_copy_74 : decode rm_copy.2.1 74 = .ok (.getfield 169, 3) := by decide +kernel
theorem d_rm_copy_77 : decode rm_copy.2.1 77 = .ok (.iconst 1, 1) := by decide +kernel
theorem d_rm_copy_78 : decode rm_copy.2.1 78 = .ok (.iadd, 1) := by decide +kernel
theorem d_rm_copy_79 : decode rm_copy.2.1 79 = .ok (.putfield 169, 3) := by decide +kernel
theorem d_rm_copy_82 : decode rm_copy.2.1 82 = .ok (.aload_n 0, 1) := by decide +kernel
theorem d_rm_copy_83 : decode rm_copy.2.1 83 = .ok (.getfield 169, 3) := by decide +kernel
theorem d_rm_copy_86 : decode rm_copy.2.1 86 = .ok (.iconst 1, 1) := by decide +kernel
theorem d_rm_copy_87 : decode rm_copy.2.1 87 = .ok (.isub, 1) := by decide +kernel
theorem d_rm_copy_88 : decode rm_copy.2.1 88 = .ok (.ireturn, 1) := by decide +kernel
theorem d_rm_comesFrom_0 : decode rm_comesFrom.2.1 0 = .ok (.iload_n 1, 1) := by decide +kernel
theorem d_rm_comesFrom_1 : decode rm_comesFrom.2.1 1 = .ok (.iconst 3, 1) := by decide +kernel
theorem d_rm_comesFrom_2 : decode rm_comesFrom.2.1 2 = .ok (.iand, 1) := by decide +kernel
theorem d_rm_comesFrom_3 : decode rm_comesFrom.2.1 3 = .ok (.istore 6, 2) := by decide +kernel
theorem d_rm_comesFrom_5 : decode rm_comesFrom.2.1 5 = .ok (.aload_n 0, 1) := by decide +kernel
theorem d_rm_comesFrom_6 : decode rm_comesFrom.2.1 6 = .ok (.iload 6, 2) := by decide +kernel
theorem d_rm_comesFrom_8 : decode rm_comesFrom.2.1 8 = .ok (.ifCond .ne 8, 3) := by decide +kernel
theorem d_rm_comesFrom_11 : decode rm_comesFrom.2.1 11 = .ok (.iload 4, 2) := by decide +kernel
theorem d_rm_comesFrom_13 : decode rm_comesFrom.2.1 13 = .ok (.goto 35, 3) := by decide +kernel
theorem d_rm_comesFrom_16 : decode rm_comesFrom.2.1 16 = .ok (.iload 6, 2) := by decide +kernel
theorem d_rm_comesFrom_18 : decode rm_comesFrom.2.1 18 = .ok (.iconst 1, 1) := by decide +kernel
theorem d_rm_comesFrom_19 : decode rm_comesFrom.2.1 19 = .ok (.if_icmp .ne 12, 3) := by decide +kernel
theorem d_rm_comesFrom_22 : decode rm_comesFrom.2.1 22 = .ok (.iload_n 2, 1) := by decide +kernel
theorem d_rm_comesFrom_23 : decode rm_comesFrom.2.1 23 = .ok (.iconst 1, 1) := by decide +kernel
theorem d_rm_comesFrom_24 : decode rm_comesFrom.2.1 24 = .ok (.isub, 1) := by decide +kernel
theorem d_rm_comesFrom_25 : decode rm_comesFrom.2.1 25 = .ok (.iload 5, 2) := by decide +kernel
theorem d_rm_comesFrom_27 : decode rm_comesFrom.2.1 27 = .ok (.isub, 1) := by decide +kernel
theorem d_rm_comesFrom_28 : decode rm_comesFrom.2.1 28 = .ok (.goto 20, 3) := by decide +kernel
theorem d_rm_comesFrom_31 : decode rm_comesFrom.2.1 31 = .ok (.iload 6, 2) := by decide +kernel
theorem d_rm_comesFrom_33 : decode rm_comesFrom.2.1 33 = .ok (.iconst 2, 1) := by decide +kernel
theorem d_rm_comesFrom_34 : decode rm_comesFrom.2.1 34 = .ok (.if_icmp .ne 12, 3) := by decide +kernel
theorem d_rm_comesFrom_37 : decode rm_comesFrom.2.1 37 = .ok (.iload_n 2, 1) := by decide +kernel
theorem d_rm_comesFrom_38 : decode rm_comesFrom.2.1 38 = .ok (.iconst 1, 1) := by decide +kernel
theorem d_rm_comesFrom_39 : decode rm_comesFrom.2.1 39 = .ok (.isub, 1) := by decide +kernel
theorem d_rm_comesFrom_40 : decode rm_comesFrom.2.1 40 = .ok (.iload 4, 2) := by decide +kernel
theorem d_rm_comesFrom_42 : decode rm_comesFrom.2.1 42 = .ok (.isub, 1) := by decide +kernel
theorem d_rm_comesFrom_43 : decode rm_comesFrom.2.1 43 = .ok (.goto 5, 3) := by decide +kernel
theorem d_rm_comesFrom_46 : decode rm_comesFrom.2.1 46 = .ok (.iload 5, 2) := by decide +kernel
theorem d_rm_comesFrom_48 : decode rm_comesFrom.2.1 48 = .ok (.putfield 215, 3) := by decide +kernel
theorem d_rm_comesFrom_51 : decode rm_comesFrom.2.1 51 = .ok (.aload_n 0, 1) := by decide +kernel
theorem d_rm_comesFrom_52 : decode rm_comesFrom.2.1 52 = .ok (.iload 6, 2) := by decide +kernel
theorem d_rm_comesFrom_54 : decode rm_comesFrom.2.1 54 = .ok (.ifCond .ne 8, 3) := by decide +kernel
theorem d_rm_comesFrom_57 : decode rm_comesFrom.2.1 57 = .ok (.iload 5, 2) := by decide +kernel
theorem d_rm_comesFrom_59 : decode rm_comesFrom.2.1 59 = .ok (.goto 35, 3) := by decide +kernel
theorem d_rm_comesFrom_62 : decode rm_comesFrom.2.1 62 = .ok (.iload 6, 2) := by decide +kernel
theorem d_rm_comesFrom_64 : decode rm_comesFrom.2.1 64 = .ok (.iconst 1, 1) := by decide +kernel
theorem d_rm_comesFrom_65 : decode rm_comesFrom.2.1 65 = .ok (.if_icmp .ne 8, 3) := by decide +kernel
theorem d_rm_comesFrom_68 : decode rm_comesFrom.2.1 68 = .ok (.iload 4, 2) := by decide +kernel
theorem d_rm_comesFrom_70 : decode rm_comesFrom.2.1 70 = .ok (.goto 24, 3) := by decide +kernel
theorem d_rm_comesFrom_73 : decode rm_comesFrom.2.1 73 = .ok (.iload 6, 2) := by decide +kernel
theorem d_rm_comesFrom_75 : decode rm_comesFrom.2.1 75 = .ok (.iconst 2, 1) := by decide +kernel
theorem d_rm_comesFrom_76 : decode rm_comesFrom.2.1 76 = .ok (.if_icmp .ne 12, 3) := by decide +kernel
theorem d_rm_comesFrom_79 : decode rm_comesFrom.2.1 79 = .ok (.iload_n 3, 1) := by decide +kernel
theorem d_rm_comesFrom_80 : decode rm_comesFrom.2.1 80 = .ok (.iconst 1, 1) := by decide +kernel
theorem d_rm_comesFrom_81 : decode rm_comesFrom.2.1 81 = .ok (.isub, 1) := by decide +kernel
theorem d_rm_comesFrom_82 : decode rm_comesFrom.2.1 82 = .ok (.iload 5, 2) := by decide +kernel
theorem d_rm_comesFrom_84 : decode rm_comesFrom.2.1 84 = .ok (.isub, 1) := by decide +kernel
theorem d_rm_comesFrom_85 : decode rm_comesFrom.2.1 85 = .ok (.goto 9, 3) := by decide +kernel
theorem d_rm_comesFrom_88 : decode rm_comesFrom.2.1 88 = .ok (.iload_n 3, 1) := by decide +kernel
theorem d_rm_comesFrom_89 : decode rm_comesFrom.2.1 89 = .ok (.iconst 1, 1) := by decide +kernel
theorem d_rm_comesFrom_90 : decode rm_comesFrom.2.1 90 = .ok (.isub, 1) := by decide +kernel
theorem d_rm_comesFrom_91 : decode rm_comesFrom.2.1 91 = .ok (.iload 4, 2) := by decide +kernel
theorem d_rm_comesFrom_93 : decode rm_comesFrom.2.1 93 = .ok (.isub, 1) := by decide +kernel
theorem d_rm_comesFrom_94 : decode rm_comesFrom.2.1 94 = .ok (.putfield 218, 3) := by decide +kernel
theorem d_rm_comesFrom_97 : decode rm_comesFrom.2.1 97 = .ok (.iload_n 1, 1) := by decide +kernel
theorem d_rm_comesFrom_98 : decode rm_comesFrom.2.1 98 = .ok (.iconst 4, 1) := by decide +kernel
theorem d_rm_comesFrom_99 : decode rm_comesFrom.2.1 99 = .ok (.iand, 1) := by decide +kernel
theorem d_rm_comesFrom_100 : decode rm_comesFrom.2.1 100 = .ok (.ifCond .eq 15, 3) := by decide +kernel
theorem d_rm_comesFrom_103 : decode rm_comesFrom.2.1 103 = .ok (.aload_n 0, 1) := by decide +kernel
theorem d_rm_comesFrom_104 : decode rm_comesFrom.2.1 104 = .ok (.iload_n 3, 1) := by decide +kernel
theorem d_rm_comesFrom_105 : decode rm_comesFrom.2.1 105 = .ok (.iconst 1, 1) := by decide +kernel
theorem d_rm_comesFrom_106 : decode rm_comesFrom.2.1 106 = .ok (.isub, 1) := by decide +kernel
theorem d_rm_comesFrom_107 : decode rm_comesFrom.2.1 107 = .ok (.aload_n 0, 1) := by decide +kernel
theorem d_rm_comesFrom_108 : decode rm_comesFrom.2.1 108 = .ok (.getfield 218, 3) := by decide +kernel
theorem d_rm_comesFrom_111 : decode rm_comesFrom.2.1 111 = .ok (.isub, 1) := by decide +kernel
theorem d_rm_comesFrom_112 : decode rm_comesFrom.2.1 112 = .ok (.putfield 218, 3) := by decide +kernel
theorem d_rm_comesFrom_115 : decode rm_comesFrom.2.1 115 = .ok (.return_, 1) := by decide +kernel
theorem d_rm_region_0 : decode rm_region.2.1 0 = .ok (.aload_n 0, 1) := by decide +kernel
theorem d_rm_region_1 : decode rm_region.2.1 1 = .ok (.iload_n 1, 1) := by decide +kernel
theorem d_rm_region_2 : decode rm_region.2.1 2 = .ok (.invokevirtual 187, 3) := by decide +kernel
theorem d_rm_region_5 : decode rm_region.2.1 5 = .ok (.ifCond .eq 29, 3) := by decide +kernel
theorem d_rm_region_8 : decode rm_region.2.1 8 = .ok (.iload 4, 2) := by decide +kernel
theorem d_rm_region_10 : decode rm_region.2.1 10 = .ok (.iconst 1, 1) := by decide +kernel
theorem d_rm_region_11 : decode rm_region.2.1 11 = .ok (.if_icmp .lt 23, 3) := by decide +kernel
theorem d_rm_region_14 : decode rm_region.2.1 14 = .ok (.iload 4, 2) := by decide +kernel
theorem d_rm_region_16 : decode rm_region.2.1 16 = .ok (.bipush 20, 2) := by decide +kernel
theorem d_rm_region_18 : decode rm_region.2.1 18 = .ok (.if_icmp .gt 16, 3) := by decide +kernel
theorem d_rm_region_21 : decode rm_region.2.1 21 = .ok (.iload 5, 2) := by decide +kernel
theorem d_rm_region_23 : decode rm_region.2.1 23 = .ok (.iconst 1, 1) := by decide +kernel
theorem d_rm_region_24 : decode rm_region.2.1 24 = .ok (.if_icmp .lt 10, 3) := by decide +kernel
theorem d_rm_region_27 : decode rm_region.2.1 27 = .ok (.iload 5, 2) := by decide +kernel
theorem d_rm_region_29 : decode rm_region.2.1 29 = .ok (.bipush 20, 2) := by decide +kernel
theorem d_rm_region_31 : decode rm_region.2.1 31 = .ok (.if_icmp .le 5, 3) := by decide +kernel
theorem d_rm_region_34 : decode rm_region.2.1 34 = .ok (.iconst (-1), 1) := by decide +kernel
theorem d_rm_region_35 : decode rm_region.2.1 35 = .ok (.ireturn, 1) := by decide +kernel
theorem d_rm_region_36 : decode rm_region.2.1 36 = .ok (.aload_n 0, 1) := by decide +kernel
theorem d_rm_region_37 : decode rm_region.2.1 37 = .ok (.iload 4, 2) := by decide +kernel
theorem d_rm_region_39 : decode rm_region.2.1 39 = .ok (.putfield 221, 3) := by decide +kernel
theorem d_rm_region_42 : decode rm_region.2.1 42 = .ok (.aload_n 0, 1) := by decide +kernel
theorem d_rm_region_43 : decode rm_region.2.1 43 = .ok (.iload 5, 2) := by decide +kernel
theorem d_rm_region_45 : decode rm_region.2.1 45 = .ok (.putfield 224, 3) := by decide +kernel
theorem d_rm_region_48 : decode rm_region.2.1 48 = .ok (.iconst 0, 1) := by decide +kernel
theorem d_rm_region_49 : decode rm_region.2.1 49 = .ok (.istore 6, 2) := by decide +kernel
theorem d_rm_region_51 : decode rm_region.2.1 51 = .ok (.iconst 0, 1) := by decide +kernel
theorem d_rm_region_52 : decode rm_region.2.1 52 = .ok (.istore 7, 2) := by decide +kernel
theorem d_rm_region_54 : decode rm_region.2.1 54 = .ok (.iload 7, 2) := by decide +kernel
theorem d_rm_region_56 : decode rm_region.2.1 56 = .ok (.iload 4, 2) := by decide +kernel
theorem d_rm_region_58 : decode rm_region.2.1 58 = .ok (.iload 5, 2) := by decide +kernel
theorem d_rm_region_60 : decode rm_region.2.1 60 = .ok (.imul, 1) := by decide +kernel
theorem d_rm_region_61 : decode rm_region.2.1 61 = .ok (.if_icmp .ge 99, 3) := by decide +kernel
theorem d_rm_region_64 : decode rm_region.2.1 64 = .ok (.iload_n 2, 1) := by decide +kernel
theorem d_rm_region_65 : decode rm_region.2.1 65 = .ok (.i2l, 1) := by decide +kernel
theorem d_rm_region_66 : decode rm_region.2.1 66 = .ok (.iload 7, 2) := by decide +kernel
theorem d_rm_region_68 : decode rm_region.2.1 68 = .ok (.iload 5, 2) := by decide +kernel
theorem d_rm_region_70 : decode rm_region.2.1 70 = .ok (.idiv, 1) := by decide +kernel
theorem d_rm_region_71 : decode rm_region.2.1 71 = .ok (.i2l, 1) := by decide +kernel
theorem d_rm_region_72 : decode rm_region.2.1 72 = .ok (.ladd, 1) := by decide +kernel
theorem d_rm_region_73 : decode rm_region.2.1 73 = .ok (.lstore 8, 2) := by decide +kernel
theorem d_rm_region_75 : decode rm_region.2.1 75 = .ok (.iload_n 3, 1) := by decide +kernel
theorem d_rm_region_76 : decode rm_region.2.1 76 = .ok (.i2l, 1) := by decide +kernel
theorem d_rm_region_77 : decode rm_region.2.1 77 = .ok (.iload 7, 2) := by decide +kernel
theorem d_rm_region_79 : decode rm_region.2.1 79 = .ok (.iload 5, 2) := by decide +kernel
theorem d_rm_region_81 : decode rm_region.2.1 81 = .ok (.irem, 1) := by decide +kernel
theorem d_rm_region_82 : decode rm_region.2.1 82 = .ok (.i2l, 1) := by decide +kernel
theorem d_rm_region_83 : decode rm_region.2.1 83 = .ok (.ladd, 1) := by decide +kernel
theorem d_rm_region_84 : decode rm_region.2.1 84 = .ok (.lstore 10, 2) := by decide +kernel
theorem d_rm_region_86 : decode rm_region.2.1 86 = .ok (.aload_n 0, 1) := by decide +kernel
theorem d_rm_region_87 : decode rm_region.2.1 87 = .ok (.getfield 58, 3) := by decide +kernel
theorem d_rm_region_90 : decode rm_region.2.1 90 = .ok (.iload 7, 2) := by decide +kernel
theorem d_rm_region_92 : decode rm_region.2.1 92 = .ok (.aload_n 0, 1) := by decide +kernel
theorem d_rm_region_93 : decode rm_region.2.1 93 = .ok (.iload_n 1, 1) := by decide +kernel
theorem d_rm_region_94 : decode rm_region.2.1 94 = .ok (.lload 8, 2) := by decide +kernel
theorem d_rm_region_96 : decode rm_region.2.1 96 = .ok (.lload 10, 2) := by decide +kernel
theorem d_rm_region_98 : decode rm_region.2.1 98 = .ok (.invokevirtual 204, 3) := by decide +kernel
theorem d_rm_region_101 : decode rm_region.2.1 101 = .ok (.bastore, 1) := by decide +kernel
theorem d_rm_region_102 : decode rm_region.2.1 102 = .ok (.aload_n 0, 1) := by decide +kernel
theorem d_rm_region_103 : decode rm_region.2.1 103 = .ok (.getfield 52, 3) := by decide +kernel
theorem d_rm_region_106 : decode rm_region.2.1 106 = .ok (.iload 7, 2) := by decide +kernel
theorem d_rm_region_108 : decode rm_region.2.1 108 = .ok (.aload_n 0, 1) := by decide +kernel
theorem d_rm_region_109 : decode rm_region.2.1 109 = .ok (.getfield 58, 3) := by decide +kernel
theorem d_rm_region_112 : decode rm_region.2.1 112 = .ok (.iload 7, 2) := by decide +kernel
theorem d_rm_region_114 : decode rm_region.2.1 114 = .ok (.baload, 1) := by decide +kernel
theorem d_rm_region_115 : decode rm_region.2.1 115 = .ok (.ifCond .eq 17, 3) := by decide +kernel
theorem d_rm_region_118 : decode rm_region.2.1 118 = .ok (.aload_n 0, 1) := by decide +kernel
theorem d_rm_region_119 : decode rm_region.2.1 119 = .ok (.iload_n 1, 1) := by decide +kernel
theorem d_rm_region_120 : decode rm_region.2.1 120 = .ok (.lload 8, 2) := by decide +kernel
theorem d_rm_region_122 : decode rm_region.2.1 122 = .ok (.l2i, 1) := by decide +kernel
theorem d_rm_region_123 : decode rm_region.2.1 123 = .ok (.lload 10, 2) := by decide +kernel
theorem d_rm_region_125 : decode rm_region.2.1 125 = .ok (.l2i, 1) := by decide +kernel
theorem d_rm_region_126 : decode rm_region.2.1 126 = .ok (.invokevirtual 212, 3) := by decide +kernel
theorem d_rm_region_129 : decode rm_region.2.1 129 = .ok (.goto 4, 3) := by decide +kernel
theorem d_rm_region_132 : decode rm_region.2.1 132 = .ok (.iconst 0, 1) := by decide +kernel
theorem d_rm_region_133 : decode rm_region.2.1 133 = .ok (.iastore, 1) := by decide +kernel
theorem d_rm_region_134 : decode rm_region.2.1 134 = .ok (.iload 6, 2) := by decide +kernel
theorem d_rm_region_136 : decode rm_region.2.1 136 = .ok (.aload_n 0, 1) := by decide +kernel
theorem d_rm_region_137 : decode rm_region.2.1 137 = .ok (.getfield 52, 3) := by decide +kernel
theorem d_rm_region_140 : decode rm_region.2.1 140 = .ok (.iload 7, 2) := by decide +kernel
theorem d_rm_region_142 : decode rm_region.2.1 142 = .ok (.iaload, 1) := by decide +kernel
theorem d_rm_region_143 : decode rm_region.2.1 143 = .ok (.ifCond .eq 7, 3) := by decide +kernel
theorem d_rm_region_146 : decode rm_region.2.1 146 = .ok (.iconst 1, 1) := by decide +kernel
theorem d_rm_region_147 : decode rm_region.2.1 147 = .ok (.goto 4, 3) := by decide +kernel
theorem d_rm_region_150 : decode rm_region.2.1 150 = .ok (.iconst 0, 1) := by decide +kernel
theorem d_rm_region_151 : decode rm_region.2.1 151 = .ok (.iadd, 1) := by decide +kernel
theorem d_rm_region_152 : decode rm_region.2.1 152 = .ok (.istore 6, 2) := by decide +kernel
theorem d_rm_region_154 : decode rm_region.2.1 154 = .ok (.iinc 7 1, 3) := by decide +kernel
theorem d_rm_region_157 : decode rm_region.2.1 157 = .ok (.goto (-103), 3) := by decide +kernel
theorem d_rm_region_160 : decode rm_region.2.1 160 = .ok (.iload 6, 2) := by decide +kernel
theorem d_rm_region_162 : decode rm_region.2.1 162 = .ok (.ireturn, 1) := by decide +kernel
theorem d_rm_turn_0 : decode rm_turn.2.1 0 = .ok (.aload_n 0, 1) := by decide +kernel
theorem d_rm_turn_1 : decode rm_turn.2.1 1 = .ok (.getfield 221, 3) := by decide +kernel
theorem d_rm_turn_4 : decode rm_turn.2.1 4 = .ok (.ifCond .eq 10, 3) := by decide +kernel
theorem d_rm_turn_7 : decode rm_turn.2.1 7 = .ok (.iload_n 1, 1) := by decide +kernel
theorem d_rm_turn_8 : decode rm_turn.2.1 8 = .ok (.invokestatic 137, 3) := by decide +kernel
theorem d_rm_turn_11 : decode rm_turn.2.1 11 = .ok (.ifCond .ne 5, 3) := by decide +kernel
theorem d_rm_turn_14 : decode rm_turn.2.1 14 = .ok (.iconst 0, 1) := by decide +kernel
theorem d_rm_turn_15 : decode rm_turn.2.1 15 = .ok (.ireturn, 1) := by decide +kernel
theorem d_rm_turn_16 : decode rm_turn.2.1 16 = .ok (.iload_n 1, 1) := by decide +kernel
theorem d_rm_turn_17 : decode rm_turn.2.1 17 = .ok (.iconst 1, 1) := by decide +kernel
theorem d_rm_turn_18 : decode rm_turn.2.1 18 = .ok (.iand, 1) := by decide +kernel
theorem d_rm_turn_19 : decode rm_turn.2.1 19 = .ok (.ifCond .ne 10, 3) := by decide +kernel
theorem d_rm_turn_22 : decode rm_turn.2.1 22 = .ok (.aload_n 0, 1) := by decide +kernel
theorem d_rm_turn_23 : decode rm_turn.2.1 23 = .ok (.getfield 221, 3) := by decide +kernel
theorem d_rm_turn_26 : decode rm_turn.2.1 26 = .ok (.goto 7, 3) := by decide +kernel
theorem d_rm_turn_29 : decode rm_turn.2.1 29 = .ok (.aload_n 0, 1) := by decide +kernel
theorem d_rm_turn_30 : decode rm_turn.2.1 30 = .ok (.getfield 224, 3) := by decide +kernel
theorem d_rm_turn_33 : decode rm_turn.2.1 33 = .ok (.istore_n 2, 1) := by decide +kernel
theorem d_rm_turn_34 : decode rm_turn.2.1 34 = .ok (.iload_n 1, 1) := by decide +kernel
theorem d_rm_turn_35 : decode rm_turn.2.1 35 = .ok (.iconst 1, 1) := by decide +kernel
theorem d_rm_turn_36 : decode rm_turn.2.1 36 = .ok (.iand, 1) := by decide +kernel
theorem d_rm_turn_37 : decode rm_turn.2.1 37 = .ok (.ifCond .ne 10, 3) := by decide +kernel
theorem d_rm_turn_40 : decode rm_turn.2.1 40 = .ok (.aload_n 0, 1) := by decide +kernel
theorem d_rm_turn_41 : decode rm_turn.2.1 41 = .ok (.getfield 224, 3) := by decide +kernel
theorem d_rm_turn_44 : decode rm_turn.2.1 44 = .ok (.goto 7, 3) := by decide +kernel
theorem d_rm_turn_47 : decode rm_turn.2.1 47 = .ok (.aload_n 0, 1) := by decide +kernel
theorem d_rm_turn_48 : decode rm_turn.2.1 48 = .ok (.getfield 221, 3) := by decide +kernel
theorem d_rm_turn_51 : decode rm_turn.2.1 51 = .ok (.istore_n 3, 1) := by decide +kernel
theorem d_rm_turn_52 : decode rm_turn.2.1 52 = .ok (.iconst 0, 1) := by decide +kernel
theorem d_rm_turn_53 : decode rm_turn.2.1 53 = .ok (.istore 4, 2) := by decide +kernel
theorem d_rm_turn_55 : decode rm_turn.2.1 55 = .ok (.iload 4, 2) := by decide +kernel
theorem d_rm_turn_57 : decode rm_turn.2.1 57 = .ok (.iload_n 2, 1) := by decide +kernel
theorem d_rm_turn_58 : decode rm_turn.2.1 58 = .ok (.iload_n 3, 1) := by decide +kernel
theorem d_rm_turn_59 : decode rm_turn.2.1 59 = .ok (.imul, 1) := by decide +kernel
theorem d_rm_turn_60 : decode rm_turn.2.1 60 = .ok (.if_icmp .ge 79, 3) := by decide +kernel
theorem d_rm_turn_63 : decode rm_turn.2.1 63 = .ok (.aload_n 0, 1) := by decide +kernel
theorem d_rm_turn_64 : decode rm_turn.2.1 64 = .ok (.iload_n 1, 1) := by decide +kernel
theorem d_rm_turn_65 : decode rm_turn.2.1 65 = .ok (.aload_n 0, 1) := by decide +kernel
theorem d_rm_turn_66 : decode rm_turn.2.1 66 = .ok (.getfield 221, 3) := by decide +kernel
theorem d_rm_turn_69 : decode rm_turn.2.1 69 = .ok (.aload_n 0, 1) := by decide +kernel
theorem d_rm_turn_70 : decode rm_turn.2.1 70 = .ok (.getfield 224, 3) := by decide +kernel
theorem d_rm_turn_73 : decode rm_turn.2.1 73 = .ok (.iload 4, 2) := by decide +kernel
theorem d_rm_turn_75 : decode rm_turn.2.1 75 = .ok (.iload_n 3, 1) := by decide +kernel
theorem d_rm_turn_76 : decode rm_turn.2.1 76 = .ok (.idiv, 1) := by decide +kernel
theorem d_rm_turn_77 : decode rm_turn.2.1 77 = .ok (.iload 4, 2) := by decide +kernel
theorem d_rm_turn_79 : decode rm_turn.2.1 79 = .ok (.iload_n 3, 1) := by decide +kernel
theorem d_rm_turn_80 : decode rm_turn.2.1 80 = .ok (.irem, 1) := by decide +kernel
theorem d_rm_turn_81 : decode rm_turn.2.1 81 = .ok (.invokevirtual 227, 3) := by decide +kernel
theorem d_rm_turn_84 : decode rm_turn.2.1 84 = .ok (.aload_n 0, 1) := by decide +kernel
theorem d_rm_turn_85 : decode rm_turn.2.1 85 = .ok (.getfield 215, 3) := by decide +kernel
theorem d_rm_turn_88 : decode rm_turn.2.1 88 = .ok (.aload_n 0, 1) := by decide +kernel
theorem d_rm_turn_89 : decode rm_turn.2.1 89 = .ok (.getfield 224, 3) := by decide +kernel
theorem d_rm_turn_92 : decode rm_turn.2.1 92 = .ok (.imul, 1) := by decide +kernel
theorem d_rm_turn_93 : decode rm_turn.2.1 93 = .ok (.aload_n 0, 1) := by decide +kernel
theorem d_rm_turn_94 : decode rm_turn.2.1 94 = .ok (.getfield 218, 3) := by decide +kernel
theorem d_rm_turn_97 : decode rm_turn.2.1 97 = .ok (.iadd, 1) := by decide +kernel
theorem d_rm_turn_98 : decode rm_turn.2.1 98 = .ok (.istore 5, 2) := by decide +kernel
theorem d_rm_turn_100 : decode rm_turn.2.1 100 = .ok (.aload_n 0, 1) := by decide +kernel
theorem d_rm_turn_101 : decode rm_turn.2.1 101 = .ok (.getfield 55, 3) := by decide +kernel
theorem d_rm_turn_104 : decode rm_turn.2.1 104 = .ok (.iload 4, 2) := by decide +kernel
theorem d_rm_turn_106 : decode rm_turn.2.1 106 = .ok (.aload_n 0, 1) := by decide +kernel
theorem d_rm_turn_107 : decode rm_turn.2.1 107 = .ok (.aload_n 0, 1) := by decide +kernel
theorem d_rm_turn_108 : decode rm_turn.2.1 108 = .ok (.getfield 52, 3) := by decide +kernel
theorem d_rm_turn_111 : decode rm_turn.2.1 111 = .ok (.iload 5, 2) := by decide +kernel
theorem d_rm_turn_113 : decode rm_turn.2.1 113 = .ok (.iaload, 1) := by decide +kernel
theorem d_rm_turn_114 : decode rm_turn.2.1 114 = .ok (.iload_n 1, 1) := by decide +kernel
theorem d_rm_turn_115 : decode rm_turn.2.1 115 = .ok (.invokevirtual 231, 3) := by decide +kernel
theorem d_rm_turn_118 : decode rm_turn.2.1 118 = .ok (.iastore, 1) := by decide +kernel
theorem d_rm_turn_119 : decode rm_turn.2.1 119 = .ok (.aload_n 0, 1) := by decide +kernel
theorem d_rm_turn_120 : decode rm_turn.2.1 120 = .ok (.getfield 61, 3) := by decide +kernel
theorem d_rm_turn_123 : decode rm_turn.2.1 123 = .ok (.iload 4, 2) := by decide +kernel
theorem d_rm_turn_125 : decode rm_turn.2.1 125 = .ok (.aload_n 0, 1) := by decide +kernel
theorem d_rm_turn_126 : decode rm_turn.2.1 126 = .ok (.getfield 58, 3) := by decide +kernel
theorem d_rm_turn_129 : decode rm_turn.2.1 129 = .ok (.iload 5, 2) := by decide +kernel
theorem d_rm_turn_131 : decode rm_turn.2.1 131 = .ok (.baload, 1) := by decide +kernel
theorem d_rm_turn_132 : decode rm_turn.2.1 132 = .ok (.bastore, 1) := by decide +kernel
theorem d_rm_turn_133 : decode rm_turn.2.1 133 = .ok (.iinc 4 1, 3) := by decide +kernel
theorem d_rm_turn_136 : decode rm_turn.2.1 136 = .ok (.goto (-81), 3) := by decide +kernel
theorem d_rm_turn_139 : decode rm_turn.2.1 139 = .ok (.iconst 0, 1) := by decide +kernel
theorem d_rm_turn_140 : decode rm_turn.2.1 140 = .ok (.istore 4, 2) := by decide +kernel
theorem d_rm_turn_142 : decode rm_turn.2.1 142 = .ok (.iload 4, 2) := by decide +kernel
theorem d_rm_turn_144 : decode rm_turn.2.1 144 = .ok (.iload_n 2, 1) := by decide +kernel
theorem d_rm_turn_145 : decode rm_turn.2.1 145 = .ok (.iload_n 3, 1) := by decide +kernel
theorem d_rm_turn_146 : decode rm_turn.2.1 146 = .ok (.imul, 1) := by decide +kernel
theorem d_rm_turn_147 : decode rm_turn.2.1 147 = .ok (.if_icmp .ge 37, 3) := by decide +kernel
theorem d_rm_turn_150 : decode rm_turn.2.1 150 = .ok (.aload_n 0, 1) := by decide +kernel
theorem d_rm_turn_151 : decode rm_turn.2.1 151 = .ok (.getfield 52, 3) := by decide +kernel
theorem d_rm_turn_154 : decode rm_turn.2.1 154 = .ok (.iload 4, 2) := by decide +kernel
theorem d_rm_turn_156 : decode rm_turn.2.1 156 = .ok (.aload_n 0, 1) := by decide +kernel
theorem d_rm_turn_157 : decode rm_turn.2.1 157 = .ok (.getfield 55, 3) := by decide +kernel
theorem d_rm_turn_160 : decode rm_turn.2.1 160 = .ok (.iload 4, 2) := by decide +kernel
theorem d_rm_turn_162 : decode rm_turn.2.1 162 = .ok (.iaload, 1) := by decide +kernel
theorem d_rm_turn_163 : decode rm_turn.2.1 163 = .ok (.iastore, 1) := by decide +kernel
theorem d_rm_turn_164 : decode rm_turn.2.1 164 = .ok (.aload_n 0, 1) := by decide +kernel
theorem d_rm_turn_165 : decode rm_turn.2.1 165 = .ok (.getfield 58, 3) := by decide +kernel
theorem d_rm_turn_168 : decode rm_turn.2.1 168 = .ok (.iload 4, 2) := by decide +kernel
theorem d_rm_turn_170 : decode rm_turn.2.1 170 = .ok (.aload_n 0, 1) := by decide +kernel
theorem d_rm_turn_171 : decode rm_turn.2.1 171 = .ok (.getfield 61, 3) := by decide +kernel
theorem d_rm_turn_174 : decode rm_turn.2.1 174 = .ok (.iload 4, 2) := by decide +kernel
theorem d_rm_turn_176 : decode rm_turn.2.1 176 = .ok (.baload, 1) := by decide +kernel
theorem d_rm_turn_177 : decode rm_turn.2.1 177 = .ok (.bastore, 1) := by decide +kernel
theorem d_rm_turn_178 : decode rm_turn.2.1 178 = .ok (.iinc 4 1, 3) := by decide +kernel
theorem d_rm_turn_181 : decode rm_turn.2.1 181 = .ok (.goto (-39), 3) := by decide +kernel
theorem d_rm_turn_184 : decode rm_turn.2.1 184 = .ok (.aload_n 0, 1) := by decide +kernel
theorem d_rm_turn_185 : decode rm_turn.2.1 185 = .ok (.iload_n 2, 1) := by decide +kernel
theorem d_rm_turn_186 : decode rm_turn.2.1 186 = .ok (.putfield 221, 3) := by decide +kernel
theorem d_rm_turn_189 : decode rm_turn.2.1 189 = .ok (.aload_n 0, 1) := by decide +kernel
theorem d_rm_turn_190 : decode rm_turn.2.1 190 = .ok (.iload_n 3, 1) := by decide +kernel
theorem d_rm_turn_191 : decode rm_turn.2.1 191 = .ok (.putfield 224, 3) := by decide +kernel
theorem d_rm_turn_194 : decode rm_turn.2.1 194 = .ok (.iconst 1, 1) := by decide +kernel
theorem d_rm_turn_195 : decode rm_turn.2.1 195 = .ok (.ireturn, 1) := by decide +kernel
theorem d_rm_paste_0 : decode rm_paste.2.1 0 = .ok (.aload_n 0, 1) := by decide +kernel
theorem d_rm_paste_1 : decode rm_paste.2.1 1 = .ok (.iload_n 1, 1) := by decide +kernel
theorem d_rm_paste_2 : decode rm_paste.2.1 2 = .ok (.invokevirtual 187, 3) := by decide +kernel
theorem d_rm_paste_5 : decode rm_paste.2.1 5 = .ok (.ifCond .eq 10, 3) := by decide +kernel
theorem d_rm_paste_8 : decode rm_paste.2.1 8 = .ok (.aload_n 0, 1) := by decide +kernel
theorem d_rm_paste_9 : decode rm_paste.2.1 9 = .ok (.getfield 221, 3) := by decide +kernel
theorem d_rm_paste_12 : decode rm_paste.2.1 12 = .ok (.ifCond .ne 5, 3) := by decide +kernel
theorem d_rm_paste_15 : decode rm_paste.2.1 15 = .ok (.iconst (-1), 1) := by decide +kernel
theorem d_rm_paste_16 : decode rm_paste.2.1 16 = .ok (.ireturn, 1) := by decide +kernel
theorem d_rm_paste_17 : decode rm_paste.2.1 17 = .ok (.iconst 0, 1) := by decide +kernel
theorem d_rm_paste_18 : decode rm_paste.2.1 18 = .ok (.istore 4, 2) := by decide +kernel
theorem d_rm_paste_20 : decode rm_paste.2.1 20 = .ok (.iconst 0, 1) := by decide +kernel
theorem d_rm_paste_21 : decode rm_paste.2.1 21 = .ok (.istore 5, 2) := by decide +kernel
theorem d_rm_paste_23 : decode rm_paste.2.1 23 = .ok (.iload 5, 2) := by decide +kernel
theorem d_rm_paste_25 : decode rm_paste.2.1 25 = .ok (.aload_n 0, 1) := by decide +kernel
theorem d_rm_paste_26 : decode rm_paste.2.1 26 = .ok (.getfield 221, 3) := by decide +kernel
theorem d_rm_paste_29 : decode rm_paste.2.1 29 = .ok (.if_icmp .ge 31, 3) := by decide +kernel
theorem d_rm_paste_32 : decode rm_paste.2.1 32 = .ok (.iload 4, 2) := by decide +kernel
theorem d_rm_paste_34 : decode rm_paste.2.1 34 = .ok (.aload_n 0, 1) := by decide +kernel
theorem d_rm_paste_35 : decode rm_paste.2.1 35 = .ok (.iload_n 1, 1) := by decide +kernel
theorem d_rm_paste_36 : decode rm_paste.2.1 36 = .ok (.iload_n 2, 1) := by decide +kernel
theorem d_rm_paste_37 : decode rm_paste.2.1 37 = .ok (.iload_n 3, 1) := by decide +kernel
theorem d_rm_paste_38 : decode rm_paste.2.1 38 = .ok (.iload 5, 2) := by decide +kernel
theorem d_rm_paste_40 : decode rm_paste.2.1 40 = .ok (.invokevirtual 234, 3) := by decide +kernel
theorem d_rm_paste_43 : decode rm_paste.2.1 43 = .ok (.ifCond .le 7, 3) := by decide +kernel
theorem d_rm_paste_46 : decode rm_paste.2.1 46 = .ok (.iconst 1, 1) := by decide +kernel
theorem d_rm_paste_47 : decode rm_paste.2.1 47 = .ok (.goto 4, 3) := by decide +kernel
theorem d_rm_paste_50 : decode rm_paste.2.1 50 = .ok (.iconst 0, 1) := by decide +kernel
theorem d_rm_paste_51 : decode rm_paste.2.1 51 = .ok (.iadd, 1) := by decide +kernel
theorem d_rm_paste_52 : decode rm_paste.2.1 52 = .ok (.istore 4, 2) := by decide +kernel
theorem d_rm_paste_54 : decode rm_paste.2.1 54 = .ok (.iinc 5 1, 3) := by decide +kernel
theorem d_rm_paste_57 : decode rm_paste.2.1 57 = .ok (.goto (-34), 3) := by decide +kernel
theorem d_rm_paste_60 : decode rm_paste.2.1 60 = .ok (.iload 4, 2) := by decide +kernel
theorem d_rm_paste_62 : decode rm_paste.2.1 62 = .ok (.ifCond .ne 5, 3) := by decide +kernel
theorem d_rm_paste_65 : decode rm_paste.2.1 65 = .ok (.iconst 0, 1) := by decide +kernel
theorem d_rm_paste_66 : decode rm_paste.2.1 66 = .ok (.ireturn, 1) := by decide +kernel
theorem d_rm_paste_67 : decode rm_paste.2.1 67 = .ok (.iload 4, 2) := by decide +kernel
theorem d_rm_paste_69 : decode rm_paste.2.1 69 = .ok (.sipush 6000, 3) := by decide +kernel
theorem d_rm_paste_72 : decode rm_paste.2.1 72 = .ok (.aload_n 0, 1) := by decide +kernel
theorem d_rm_paste_73 : decode rm_paste.2.1 73 = .ok (.getfield 172, 3) := by decide +kernel
theorem d_rm_paste_76 : decode rm_paste.2.1 76 = .ok (.isub, 1) := by decide +kernel
theorem d_rm_paste_77 : decode rm_paste.2.1 77 = .ok (.if_icmp .le 5, 3) := by decide +kernel
theorem d_rm_paste_80 : decode rm_paste.2.1 80 = .ok (.iconst (-1), 1) := by decide +kernel
theorem d_rm_paste_81 : decode rm_paste.2.1 81 = .ok (.ireturn, 1) := by decide +kernel
theorem d_rm_paste_82 : decode rm_paste.2.1 82 = .ok (.aload_n 0, 1) := by decide +kernel
theorem d_rm_paste_83 : decode rm_paste.2.1 83 = .ok (.iload_n 1, 1) := by decide +kernel
theorem d_rm_paste_84 : decode rm_paste.2.1 84 = .ok (.invokevirtual 190, 3) := by decide +kernel
theorem d_rm_paste_87 : decode rm_paste.2.1 87 = .ok (.iconst 0, 1) := by decide +kernel
theorem d_rm_paste_88 : decode rm_paste.2.1 88 = .ok (.istore 5, 2) := by decide +kernel
theorem d_rm_paste_90 : decode rm_paste.2.1 90 = .ok (.iconst 0, 1) := by decide +kernel
theorem d_rm_paste_91 : decode rm_paste.2.1 91 = .ok (.istore 6, 2) := by decide +kernel
theorem d_rm_paste_93 : decode rm_paste.2.1 93 = .ok (.iload 6, 2) := by decide +kernel
theorem d_rm_paste_95 : decode rm_paste.2.1 95 = .ok (.aload_n 0, 1) := by decide +kernel
theorem d_rm_paste_96 : decode rm_paste.2.1 96 = .ok (.getfield 221, 3) := by decide +kernel
theorem d_rm_paste_99 : decode rm_paste.2.1 99 = .ok (.if_icmp .ge 133, 3) := by decide +kernel
theorem d_rm_paste_102 : decode rm_paste.2.1 102 = .ok (.aload_n 0, 1) := by decide +kernel
theorem d_rm_paste_103 : decode rm_paste.2.1 103 = .ok (.iload_n 1, 1) := by decide +kernel
theorem d_rm_paste_104 : decode rm_paste.2.1 104 = .ok (.iload_n 2, 1) := by decide +kernel
theorem d_rm_paste_105 : decode rm_paste.2.1 105 = .ok (.iload_n 3, 1) := by decide +kernel
theorem d_rm_paste_106 : decode rm_paste.2.1 106 = .ok (.iload 6, 2) := by decide +kernel
theorem d_rm_paste_108 : decode rm_paste.2.1 108 = .ok (.invokevirtual 234, 3) := by decide +kernel
theorem d_rm_paste_111 : decode rm_paste.2.1 111 = .ok (.istore 7, 2) := by decide +kernel
theorem d_rm_paste_113 : decode rm_paste.2.1 113 = .ok (.iload 7, 2) := by decide +kernel
theorem d_rm_paste_115 : decode rm_paste.2.1 115 = .ok (.ifCond .ne 6, 3) := by decide +kernel
theorem d_rm_paste_118 : decode rm_paste.2.1 118 = .ok (.goto 108, 3) := by decide +kernel
theorem d_rm_paste_121 : decode rm_paste.2.1 121 = .ok (.iload 5, 2) := by decide +kernel
theorem d_rm_paste_123 : decode rm_paste.2.1 123 = .ok (.iload 7, 2) := by decide +kernel
theorem d_rm_paste_125 : decode rm_paste.2.1 125 = .ok (.iadd, 1) := by decide +kernel
theorem d_rm_paste_126 : decode rm_paste.2.1 126 = .ok (.istore 5, 2) := by decide +kernel
theorem d_rm_paste_128 : decode rm_paste.2.1 128 = .ok (.aload_n 0, 1) := by decide +kernel
theorem d_rm_paste_129 : decode rm_paste.2.1 129 = .ok (.iload_n 1, 1) := by decide +kernel
theorem d_rm_paste_130 : decode rm_paste.2.1 130 = .ok (.iload_n 2, 1) := by decide +kernel
theorem d_rm_paste_131 : decode rm_paste.2.1 131 = .ok (.iload 6, 2) := by decide +kernel
theorem d_rm_paste_133 : decode rm_paste.2.1 133 = .ok (.iadd, 1) := by decide +kernel
theorem d_rm_paste_134 : decode rm_paste.2.1 134 = .ok (.invokevirtual 201, 3) := by decide +kernel
theorem d_rm_paste_137 : decode rm_paste.2.1 137 = .ok (.iconst 0, 1) := by decide +kernel
theorem d_rm_paste_138 : decode rm_paste.2.1 138 = .ok (.istore 8, 2) := by decide +kernel
theorem d_rm_paste_140 : decode rm_paste.2.1 140 = .ok (.iload 8, 2) := by decide +kernel
theorem d_rm_paste_142 : decode rm_paste.2.1 142 = .ok (.aload_n 0, 1) := by decide +kernel
theorem d_rm_paste_143 : decode rm_paste.2.1 143 = .ok (.getfield 224, 3) := by decide +kernel
theorem d_rm_paste_146 : decode rm_paste.2.1 146 = .ok (.if_icmp .ge 80, 3) := by decide +kernel
theorem d_rm_paste_149 : decode rm_paste.2.1 149 = .ok (.aload_n 0, 1) := by decide +kernel
theorem d_rm_paste_150 : decode rm_paste.2.1 150 = .ok (.getfield 58, 3) := by decide +kernel
theorem d_rm_paste_153 : decode rm_paste.2.1 153 = .ok (.iload 6, 2) := by decide +kernel
theorem d_rm_paste_155 : decode rm_paste.2.1 155 = .ok (.aload_n 0, 1) := by decide +kernel
theorem d_rm_paste_156 : decode rm_paste.2.1 156 = .ok (.getfield 224, 3) := by decide +kernel
theorem d_rm_paste_159 : decode rm_paste.2.1 159 = .ok (.imul, 1) := by decide +kernel
theorem d_rm_paste_160 : decode rm_paste.2.1 160 = .ok (.iload 8, 2) := by decide +kernel
theorem d_rm_paste_162 : decode rm_paste.2.1 162 = .ok (.iadd, 1) := by decide +kernel
theorem d_rm_paste_163 : decode rm_paste.2.1 163 = .ok (.baload, 1) := by decide +kernel
theorem d_rm_paste_164 : decode rm_paste.2.1 164 = .ok (.ifCond .eq 56, 3) := by decide +kernel
theorem d_rm_paste_167 : decode rm_paste.2.1 167 = .ok (.aload_n 0, 1) := by decide +kernel
theorem d_rm_paste_168 : decode rm_paste.2.1 168 = .ok (.iload_n 1, 1) := by decide +kernel
theorem d_rm_paste_169 : decode rm_paste.2.1 169 = .ok (.iload_n 2, 1) := by decide +kernel
theorem d_rm_paste_170 : decode rm_paste.2.1 170 = .ok (.i2l, 1) := by decide +kernel
theorem d_rm_paste_171 : decode rm_paste.2.1 171 = .ok (.iload 6, 2) := by decide +kernel
theorem d_rm_paste_173 : decode rm_paste.2.1 173 = .ok (.i2l, 1) := by decide +kernel
theorem d_rm_paste_174 : decode rm_paste.2.1 174 = .ok (.ladd, 1) := by decide +kernel
theorem d_rm_paste_175 : decode rm_paste.2.1 175 = .ok (.iload_n 3, 1) := by decide +kernel
theorem d_rm_paste_176 : decode rm_paste.2.1 176 = .ok (.i2l, 1) := by decide +kernel
theorem d_rm_paste_177 : decode rm_paste.2.1 177 = .ok (.iload 8, 2) := by decide +kernel
theorem d_rm_paste_179 : decode rm_paste.2.1 179 = .ok (.i2l, 1) := by decide +kernel
theorem d_rm_paste_180 : decode rm_paste.2.1 180 = .ok (.ladd, 1) := by decide +kernel
theorem d_rm_paste_181 : decode rm_paste.2.1 181 = .ok (.invokevirtual 204, 3) := by decide +kernel
theorem d_rm_paste_184 : decode rm_paste.2.1 184 = .ok (.ifCond .eq 36, 3) := by decide +kernel
theorem d_rm_paste_187 : decode rm_paste.2.1 187 = .ok (.aload_n 0, 1) := by decide +kernel
theorem d_rm_paste_188 : decode rm_paste.2.1 188 = .ok (.getfield 34, 3) := by decide +kernel
theorem d_rm_paste_191 : decode rm_paste.2.1 191 = .ok (.aload_n 0, 1) := by decide +kernel
theorem d_rm_paste_192 : decode rm_paste.2.1 192 = .ok (.iload_n 1, 1) := by decide +kernel
theorem d_rm_paste_193 : decode rm_paste.2.1 193 = .ok (.iload_n 2, 1) := by decide +kernel
theorem d_rm_paste_194 : decode rm_paste.2.1 194 = .ok (.iload 6, 2) := by decide +kernel
theorem d_rm_paste_196 : decode rm_paste.2.1 196 = .ok (.iadd, 1) := by decide +kernel
theorem d_rm_paste_197 : decode rm_paste.2.1 197 = .ok (.iload_n 3, 1) := by decide +kernel
theorem d_rm_paste_198 : decode rm_paste.2.1 198 = .ok (.iload 8, 2) := by decide +kernel
theorem d_rm_paste_200 : decode rm_paste.2.1 200 = .ok (.iadd, 1) := by decide +kernel
theorem d_rm_paste_201 : decode rm_paste.2.1 201 = .ok (.invokevirtual 178, 3) := by decide +kernel
theorem d_rm_paste_204 : decode rm_paste.2.1 204 = .ok (.aload_n 0, 1) := by decide +kernel
theorem d_rm_paste_205 : decode rm_paste.2.1 205 = .ok (.getfield 52, 3) := by decide +kernel
theorem d_rm_paste_208 : decode rm_paste.2.1 208 = .ok (.iload 6, 2) := by decide +kernel
theorem d_rm_paste_210 : decode rm_paste.2.1 210 = .ok (.aload_n 0, 1) := by decide +kernel
theorem d_rm_paste_211 : decode rm_paste.2.1 211 = .ok (.getfield 224, 3) := by decide +kernel
theorem d_rm_paste_214 : decode rm_paste.2.1 214 = .ok (.imul, 1) := by decide +kernel
theorem d_rm_paste_215 : decode rm_paste.2.1 215 = .ok (.iload 8, 2) := by decide +kernel
theorem d_rm_paste_217 : decode rm_paste.2.1 217 = .ok (.iadd, 1) := by decide +kernel
theorem d_rm_paste_218 : decode rm_paste.2.1 218 = .ok (.iaload, 1) := by decide +kernel
theorem d_rm_paste_219 : decode rm_paste.2.1 219 = .ok (.iastore, 1) := by decide +kernel
theorem d_rm_paste_220 : decode rm_paste.2.1 220 = .ok (.iinc 8 1, 3) := by decide +kernel
theorem d_rm_paste_223 : decode rm_paste.2.1 223 = .ok (.goto (-83), 3) := by decide +kernel
theorem d_rm_paste_226 : decode rm_paste.2.1 226 = .ok (.iinc 6 1, 3) := by decide +kernel
theorem d_rm_paste_229 : decode rm_paste.2.1 229 = .ok (.goto (-136), 3) := by decide +kernel
theorem d_rm_paste_232 : decode rm_paste.2.1 232 = .ok (.iload 5, 2) := by decide +kernel
theorem d_rm_paste_234 : decode rm_paste.2.1 234 = .ok (.ireturn, 1) := by decide +kernel
theorem d_rm_comes_0 : decode rm_comes.2.1 0 = .ok (.iconst 0, 1) := by decide +kernel
theorem d_rm_comes_1 : decode rm_comes.2.1 1 = .ok (.istore 5, 2) := by decide +kernel
theorem d_rm_comes_3 : decode rm_comes.2.1 3 = .ok (.iconst 0, 1) := by decide +kernel
theorem d_rm_comes_4 : decode rm_comes.2.1 4 = .ok (.istore 6, 2) := by decide +kernel
theorem d_rm_comes_6 : decode rm_comes.2.1 6 = .ok (.iload 6, 2) := by decide +kernel
theorem d_rm_comes_8 : decode rm_comes.2.1 8 = .ok (.aload_n 0, 1) := by decide +kernel
theorem d_rm_comes_9 : decode rm_comes.2.1 9 = .ok (.getfield 224, 3) := by decide +kernel
theorem d_rm_comes_12 : decode rm_comes.2.1 12 = .ok (.if_icmp .ge 57, 3) := by decide +kernel
theorem d_rm_comes_15 : decode rm_comes.2.1 15 = .ok (.iload 5, 2) := by decide +kernel
theorem d_rm_comes_17 : decode rm_comes.2.1 17 = .ok (.aload_n 0, 1) := by decide +kernel
theorem d_rm_comes_18 : decode rm_comes.2.1 18 = .ok (.getfield 58, 3) := by decide +kernel
theorem d_rm_comes_21 : decode rm_comes.2.1 21 = .ok (.iload 4, 2) := by decide +kernel
theorem d_rm_comes_23 : decode rm_comes.2.1 23 = .ok (.aload_n 0, 1) := by decide +kernel
theorem d_rm_comes_24 : decode rm_comes.2.1 24 = .ok (.getfield 224, 3) := by decide +kernel
theorem d_rm_comes_27 : decode rm_comes.2.1 27 = .ok (.imul, 1) := by decide +kernel
theorem d_rm_comes_28 : decode rm_comes.2.1 28 = .ok (.iload 6, 2) := by decide +kernel
theorem d_rm_comes_30 : decode rm_comes.2.1 30 = .ok (.iadd, 1) := by decide +kernel
theorem d_rm_comes_31 : decode rm_comes.2.1 31 = .ok (.baload, 1) := by decide +kernel
theorem d_rm_comes_32 : decode rm_comes.2.1 32 = .ok (.ifCond .eq 27, 3) := by decide +kernel
theorem d_rm_comes_35 : decode rm_comes.2.1 35 = .ok (.aload_n 0, 1) := by decide +kernel
theorem d_rm_comes_36 : decode rm_comes.2.1 36 = .ok (.iload_n 1, 1) := by decide +kernel
theorem d_rm_comes_37 : decode rm_comes.2.1 37 = .ok (.iload_n 2, 1) := by decide +kernel
theorem d_rm_comes_38 : decode rm_comes.2.1 38 = .ok (.i2l, 1) := by decide +kernel
theorem d_rm_comes_39 : decode rm_comes.2.1 39 = .ok (.iload 4, 2) := by decide +kernel
theorem d_rm_comes_41 : decode rm_comes.2.1 41 = .ok (.i2l, 1) := by decide +kernel
theorem d_rm_comes_42 : decode rm_comes.2.1 42 = .ok (.ladd, 1) := by decide +kernel
theorem d_rm_comes_43 : decode rm_comes.2.1 43 = .ok (.iload_n 3, 1) := by decide +kernel
theorem d_rm_comes_44 : decode rm_comes.2.1 44 = .ok (.i2l, 1) := by decide +kernel
theorem d_rm_comes_45 : decode rm_comes.2.1 45 = .ok (.iload 6, 2) := by decide +kernel
theorem d_rm_comes_47 : decode rm_comes.2.1 47 = .ok (.i2l, 1) := by decide +kernel
theorem d_rm_comes_48 : decode rm_comes.2.1 48 = .ok (.ladd, 1) := by decide +kernel
theorem d_rm_comes_49 : decode rm_comes.2.1 49 = .ok (.invokevirtual 204, 3) := by decide +kernel
theorem d_rm_comes_52 : decode rm_comes.2.1 52 = .ok (.ifCond .eq 7, 3) := by decide +kernel
theorem d_rm_comes_55 : decode rm_comes.2.1 55 = .ok (.iconst 1, 1) := by decide +kernel
theorem d_rm_comes_56 : decode rm_comes.2.1 56 = .ok (.goto 4, 3) := by decide +kernel
theorem d_rm_comes_59 : decode rm_comes.2.1 59 = .ok (.iconst 0, 1) := by decide +kernel
theorem d_rm_comes_60 : decode rm_comes.2.1 60 = .ok (.iadd, 1) := by decide +kernel
theorem d_rm_comes_61 : decode rm_comes.2.1 61 = .ok (.istore 5, 2) := by decide +kernel
theorem d_rm_comes_63 : decode rm_comes.2.1 63 = .ok (.iinc 6 1, 3) := by decide +kernel
theorem d_rm_comes_66 : decode rm_comes.2.1 66 = .ok (.goto (-60), 3) := by decide +kernel
theorem d_rm_comes_69 : decode rm_comes.2.1 69 = .ok (.iload 5, 2) := by decide +kernel
theorem d_rm_comes_71 : decode rm_comes.2.1 71 = .ok (.ireturn, 1) := by decide +kernel
theorem d_rm_isRule_0 : decode rm_isRule.2.1 0 = .ok (.iload_n 1, 1) := by decide +kernel
theorem d_rm_isRule_1 : decode rm_isRule.2.1 1 = .ok (.ifCond .lt 15, 3) := by decide +kernel
theorem d_rm_isRule_4 : decode rm_isRule.2.1 4 = .ok (.iload_n 1, 1) := by decide +kernel
theorem d_rm_isRule_5 : decode rm_isRule.2.1 5 = .ok (.aload_n 0, 1) := by decide +kernel
theorem d_rm_isRule_6 : decode rm_isRule.2.1 6 = .ok (.getfield 238, 3) := by decide +kernel
theorem d_rm_isRule_9 : decode rm_isRule.2.1 9 = .ok (.if_icmp .ge 7, 3) := by decide +kernel
theorem d_rm_isRule_12 : decode rm_isRule.2.1 12 = .ok (.iconst 1, 1) := by decide +kernel
theorem d_rm_isRule_13 : decode rm_isRule.2.1 13 = .ok (.goto 4, 3) := by decide +kernel
theorem d_rm_isRule_16 : decode rm_isRule.2.1 16 = .ok (.iconst 0, 1) := by decide +kernel
theorem d_rm_isRule_17 : decode rm_isRule.2.1 17 = .ok (.ireturn, 1) := by decide +kernel
theorem d_rm_rule_0 : decode rm_rule.2.1 0 = .ok (.aload_n 0, 1) := by decide +kernel
theorem d_rm_rule_1 : decode rm_rule.2.1 1 = .ok (.getfield 238, 3) := by decide +kernel
theorem d_rm_rule_4 : decode rm_rule.2.1 4 = .ok (.bipush 8, 2) := by decide +kernel
theorem d_rm_rule_6 : decode rm_rule.2.1 6 = .ok (.if_icmp .eq 23, 3) := by decide +kernel
theorem d_rm_rule_9 : decode rm_rule.2.1 9 = .ok (.iload_n 1, 1) := by decide +kernel
theorem d_rm_rule_10 : decode rm_rule.2.1 10 = .ok (.iconst 1, 1) := by decide +kernel
theorem d_rm_rule_11 : decode rm_rule.2.1 11 = .ok (.if_icmp .lt 18, 3) := by decide +kernel
theorem d_rm_rule_14 : decode rm_rule.2.1 14 = .ok (.iload_n 1, 1) := by decide +kernel
theorem d_rm_rule_15 : decode rm_rule.2.1 15 = .ok (.iconst 4, 1) := by decide +kernel
theorem d_rm_rule_16 : decode rm_rule.2.1 16 = .ok (.if_icmp .gt 13, 3) := by decide +kernel
theorem d_rm_rule_19 : decode rm_rule.2.1 19 = .ok (.iload_n 2, 1) := by decide +kernel
theorem d_rm_rule_20 : decode rm_rule.2.1 20 = .ok (.iconst 1, 1) := by decide +kernel
theorem d_rm_rule_21 : decode rm_rule.2.1 21 = .ok (.if_icmp .lt 8, 3) := by decide +kernel
theorem d_rm_rule_24 : decode rm_rule.2.1 24 = .ok (.iload_n 2, 1) := by decide +kernel
theorem d_rm_rule_25 : decode rm_rule.2.1 25 = .ok (.iconst 4, 1) := by decide +kernel
theorem d_rm_rule_26 : decode rm_rule.2.1 26 = .ok (.if_icmp .le 5, 3) := by decide +kernel
theorem d_rm_rule_29 : decode rm_rule.2.1 29 = .ok (.iconst (-1), 1) := by decide +kernel
theorem d_rm_rule_30 : decode rm_rule.2.1 30 = .ok (.ireturn, 1) := by decide +kernel
theorem d_rm_rule_31 : decode rm_rule.2.1 31 = .ok (.aload_n 0, 1) := by decide +kernel
theorem d_rm_rule_32 : decode rm_rule.2.1 32 = .ok (.getfield 64, 3) := by decide +kernel
theorem d_rm_rule_35 : decode rm_rule.2.1 35 = .ok (.aload_n 0, 1) := by decide +kernel
theorem d_rm_rule_36 : decode rm_rule.2.1 36 = .ok (.getfield 238, 3) := by decide +kernel
theorem d_rm_rule_39 : decode rm_rule.2.1 39 = .ok (.iload_n 1, 1) := by decide +kernel
theorem d_rm_rule_40 : decode rm_rule.2.1 40 = .ok (.iastore, 1) := by decide +kernel
theorem d_rm_rule_41 : decode rm_rule.2.1 41 = .ok (.aload_n 0, 1) := by decide +kernel
theorem d_rm_rule_42 : decode rm_rule.2.1 42 = .ok (.getfield 67, 3) := by decide +kernel
theorem d_rm_rule_45 : decode rm_rule.2.1 45 = .ok (.aload_n 0, 1) := by decide +kernel
theorem d_rm_rule_46 : decode rm_rule.2.1 46 = .ok (.getfield 238, 3) := by decide +kernel
theorem d_rm_rule_49 : decode rm_rule.2.1 49 = .ok (.iload_n 2, 1) := by decide +kernel
theorem d_rm_rule_50 : decode rm_rule.2.1 50 = .ok (.iastore, 1) := by decide +kernel
theorem d_rm_rule_51 : decode rm_rule.2.1 51 = .ok (.iconst 0, 1) := by decide +kernel
theorem d_rm_rule_52 : decode rm_rule.2.1 52 = .ok (.istore_n 3, 1) := by decide +kernel
theorem d_rm_rule_53 : decode rm_rule.2.1 53 = .ok (.iload_n 3, 1) := by decide +kernel
theorem d_rm_rule_54 : decode rm_rule.2.1 54 = .ok (.sipush 640, 3) := by decide +kernel
theorem d_rm_rule_57 : decode rm_rule.2.1 57 = .ok (.if_icmp .ge 25, 3) := by decide +kernel
theorem d_rm_rule_60 : decode rm_rule.2.1 60 = .ok (.aload_n 0, 1) := by decide +kernel
theorem d_rm_rule_61 : decode rm_rule.2.1 61 = .ok (.getfield 70, 3) := by decide +kernel
theorem d_rm_rule_64 : decode rm_rule.2.1 64 = .ok (.sipush 640, 3) := by decide +kernel
theorem d_rm_rule_67 : decode rm_rule.2.1 67 = .ok (.aload_n 0, 1) := by decide +kernel
theorem d_rm_rule_68 : decode rm_rule.2.1 68 = .ok (.getfield 238, 3) := by decide +kernel
theorem d_rm_rule_71 : decode rm_rule.2.1 71 = .ok (.imul, 1) := by decide +kernel
theorem d_rm_rule_72 : decode rm_rule.2.1 72 = .ok (.iload_n 3, 1) := by decide +kernel
theorem d_rm_rule_73 : decode rm_rule.2.1 73 = .ok (.iadd, 1) := by decide +kernel
theorem d_rm_rule_74 : decode rm_rule.2.1 74 = .ok (.iconst 0, 1) := by decide +kernel
theorem d_rm_rule_75 : decode rm_rule.2.1 75 = .ok (.iastore, 1) := by decide +kernel
theorem d_rm_rule_76 : decode rm_rule.2.1 76 = .ok (.iinc 3 1, 3) := by decide +kernel
theorem d_rm_rule_79 : decode rm_rule.2.1 79 = .ok (.goto (-26), 3) := by decide +kernel
theorem d_rm_rule_82 : decode rm_rule.2.1 82 = .ok (.aload_n 0, 1) := by decide +kernel
theorem d_rm_rule_83 : decode rm_rule.2.1 83 = .ok (.dup, 1) := by decide +kernel
theorem d_rm_rule_84 : decode rm_rule.2.1 84 = .ok (.getfield 238, 3) := by decide +kernel
theorem d_rm_rule_87 : decode rm_rule.2.1 87 = .ok (.iconst 1, 1) := by decide +kernel
theorem d_rm_rule_88 : decode rm_rule.2.1 88 = .ok (.iadd, 1) := by decide +kernel
theorem d_rm_rule_89 : decode rm_rule.2.1 89 = .ok (.putfield 238, 3) := by decide +kernel
theorem d_rm_rule_92 : decode rm_rule.2.1 92 = .ok (.aload_n 0, 1) := by decide +kernel
theorem d_rm_rule_93 : decode rm_rule.2.1 93 = .ok (.getfield 238, 3) := by decide +kernel
theorem d_rm_rule_96 : decode rm_rule.2.1 96 = .ok (.iconst 1, 1) := by decide +kernel
theorem d_rm_rule_97 : decode rm_rule.2.1 97 = .ok (.isub, 1) := by decide +kernel
theorem d_rm_rule_98 : decode rm_rule.2.1 98 = .ok (.ireturn, 1) := by decide +kernel
theorem d_rm_becomes_0 : decode rm_becomes.2.1 0 = .ok (.aload_n 0, 1) := by decide +kernel
theorem d_rm_becomes_1 : decode rm_becomes.2.1 1 = .ok (.iload_n 1, 1) := by decide +kernel
theorem d_rm_becomes_2 : decode rm_becomes.2.1 2 = .ok (.invokevirtual 241, 3) := by decide +kernel
theorem d_rm_becomes_5 : decode rm_becomes.2.1 5 = .ok (.ifCond .eq 64, 3) := by decide +kernel
theorem d_rm_becomes_8 : decode rm_becomes.2.1 8 = .ok (.aload_n 0, 1) := by decide +kernel
theorem d_rm_becomes_9 : decode rm_becomes.2.1 9 = .ok (.iload_n 2, 1) := by decide +kernel
theorem d_rm_becomes_10 : decode rm_becomes.2.1 10 = .ok (.invokevirtual 145, 3) := by decide +kernel
theorem d_rm_becomes_13 : decode rm_becomes.2.1 13 = .ok (.ifCond .eq 56, 3) := by decide +kernel
theorem d_rm_becomes_16 : decode rm_becomes.2.1 16 = .ok (.iload_n 3, 1) := by decide +kernel
theorem d_rm_becomes_17 : decode rm_becomes.2.1 17 = .ok (.ifCond .lt 52, 3) := by decide +kernel
theorem d_rm_becomes_20 : decode rm_becomes.2.1 20 = .ok (.iload_n 3, 1) := by decide +kernel
theorem d_rm_becomes_21 : decode rm_becomes.2.1 21 = .ok (.aload_n 0, 1) := by decide +kernel
theorem d_rm_becomes_22 : decode rm_becomes.2.1 22 = .ok (.getfield 64, 3) := by decide +kernel
theorem d_rm_becomes_25 : decode rm_becomes.2.1 25 = .ok (.iload_n 1, 1) := by decide +kernel
theorem d_rm_becomes_26 : decode rm_becomes.2.1 26 = .ok (.iaload, 1) := by decide +kernel
theorem d_rm_becomes_27 : decode rm_becomes.2.1 27 = .ok (.if_icmp .ge 42, 3) := by decide +kernel
theorem d_rm_becomes_30 : decode rm_becomes.2.1 30 = .ok (.iload 4, 2) := by decide +kernel
theorem d_rm_becomes_32 : decode rm_becomes.2.1 32 = .ok (.ifCond .lt 37, 3) := by decide +kernel
theorem d_rm_becomes_35 : decode rm_becomes.2.1 35 = .ok (.iload 4, 2) := by decide +kernel
theorem d_rm_becomes_37 : decode rm_becomes.2.1 37 = .ok (.aload_n 0, 1) := by decide +kernel
theorem d_rm_becomes_38 : decode rm_becomes.2.1 38 = .ok (.getfield 67, 3) := by decide +kernel
theorem d_rm_becomes_41 : decode rm_becomes.2.1 41 = .ok (.iload_n 1, 1) := by decide +kernel
theorem d_rm_becomes_42 : decode rm_becomes.2.1 42 = .ok (.iaload, 1) := by decide +kernel
theorem d_rm_becomes_43 : decode rm_becomes.2.1 43 = .ok (.if_icmp .ge 26, 3) := by decide +kernel
theorem d_rm_becomes_46 : decode rm_becomes.2.1 46 = .ok (.iload 5, 2) := by decide +kernel
theorem d_rm_becomes_48 : decode rm_becomes.2.1 48 = .ok (.iconst (-1), 1) := by decide +kernel
theorem d_rm_becomes_49 : decode rm_becomes.2.1 49 = .ok (.if_icmp .eq 22, 3) := by decide +kernel
theorem d_rm_becomes_52 : decode rm_becomes.2.1 52 = .ok (.aload_n 0, 1) := by decide +kernel
theorem d_rm_becomes_53 : decode rm_becomes.2.1 53 = .ok (.iload 5, 2) := by decide +kernel
theorem d_rm_becomes_55 : decode rm_becomes.2.1 55 = .ok (.invokevirtual 145, 3) := by decide +kernel
theorem d_rm_becomes_58 : decode rm_becomes.2.1 58 = .ok (.ifCond .eq 11, 3) := by decide +kernel
theorem d_rm_becomes_61 : decode rm_becomes.2.1 61 = .ok (.iload 6, 2) := by decide +kernel
theorem d_rm_becomes_63 : decode rm_becomes.2.1 63 = .ok (.invokestatic 137, 3) := by decide +kernel
theorem d_rm_becomes_66 : decode rm_becomes.2.1 66 = .ok (.ifCond .ne 5, 3) := by decide +kernel
theorem d_rm_becomes_69 : decode rm_becomes.2.1 69 = .ok (.iconst 0, 1) := by decide +kernel
theorem d_rm_becomes_70 : decode rm_becomes.2.1 70 = .ok (.ireturn, 1) := by decide +kernel
theorem d_rm_becomes_71 : decode rm_becomes.2.1 71 = .ok (.aload_n 0, 1) := by decide +kernel
theorem d_rm_becomes_72 : decode rm_becomes.2.1 72 = .ok (.getfield 70, 3) := by decide +kernel
theorem d_rm_becomes_75 : decode rm_becomes.2.1 75 = .ok (.sipush 640, 3) := by decide +kernel
theorem d_rm_becomes_78 : decode rm_becomes.2.1 78 = .ok (.iload_n 1, 1) := by decide +kernel
theorem d_rm_becomes_79 : decode rm_becomes.2.1 79 = .ok (.imul, 1) := by decide +kernel
theorem d_rm_becomes_80 : decode rm_becomes.2.1 80 = .ok (.bipush 16, 2) := by decide +kernel
theorem d_rm_becomes_82 : decode rm_becomes.2.1 82 = .ok (.iload_n 2, 1) := by decide +kernel
theorem d_rm_becomes_83 : decode rm_becomes.2.1 83 = .ok (.imul, 1) := by decide +kernel
theorem d_rm_becomes_84 : decode rm_becomes.2.1 84 = .ok (.iadd, 1) := by decide +kernel
theorem d_rm_becomes_85 : decode rm_becomes.2.1 85 = .ok (.iconst 4, 1) := by decide +kernel
theorem d_rm_becomes_86 : decode rm_becomes.2.1 86 = .ok (.iload_n 3, 1) := by decide +kernel
theorem d_rm_becomes_87 : decode rm_becomes.2.1 87 = .ok (.imul, 1) := by decide +kernel
theorem d_rm_becomes_88 : decode rm_becomes.2.1 88 = .ok (.iadd, 1) := by decide +kernel
theorem d_rm_becomes_89 : decode rm_becomes.2.1 89 = .ok (.iload 4, 2) := by decide +kernel
theorem d_rm_becomes_91 : decode rm_becomes.2.1 91 = .ok (.iadd, 1) := by decide +kernel
theorem d_rm_becomes_92 : decode rm_becomes.2.1 92 = .ok (.iload 5, 2) := by decide +kernel
theorem d_rm_becomes_94 : decode rm_becomes.2.1 94 = .ok (.iconst (-1), 1) := by decide +kernel
theorem d_rm_becomes_95 : decode rm_becomes.2.1 95 = .ok (.if_icmp .ne 7, 3) := by decide +kernel
theorem d_rm_becomes_98 : decode rm_becomes.2.1 98 = .ok (.iconst 0, 1) := by decide +kernel
theorem d_rm_becomes_99 : decode rm_becomes.2.1 99 = .ok (.goto 17, 3) := by decide +kernel
theorem d_rm_becomes_102 : decode rm_becomes.2.1 102 = .ok (.iload 5, 2) := by decide +kernel
theorem d_rm_becomes_104 : decode rm_becomes.2.1 104 = .ok (.aload_n 0, 1) := by decide +kernel
theorem d_rm_becomes_105 : decode rm_becomes.2.1 105 = .ok (.iload 5, 2) := by decide +kernel
theorem d_rm_becomes_107 : decode rm_becomes.2.1 107 = .ok (.iload 6, 2) := by decide +kernel
theorem d_rm_becomes_109 : decode rm_becomes.2.1 109 = .ok (.invokevirtual 148, 3) := by decide +kernel
theorem d_rm_becomes_112 : decode rm_becomes.2.1 112 = .ok (.iconst 0, 1) := by decide +kernel
theorem d_rm_becomes_113 : decode rm_becomes.2.1 113 = .ok (.invokestatic 166, 3) := by decide +kernel
theorem d_rm_becomes_116 : decode rm_becomes.2.1 116 = .ok (.iastore, 1) := by decide +kernel
theorem d_rm_becomes_117 : decode rm_becomes.2.1 117 = .ok (.iconst 1, 1) := by decide +kernel
theorem d_rm_becomes_118 : decode rm_becomes.2.1 118 = .ok (.ireturn, 1) := by decide +kernel
theorem d_rm_grow_0 : decode rm_grow.2.1 0 = .ok (.aload_n 0, 1) := by decide +kernel
theorem d_rm_grow_1 : decode rm_grow.2.1 1 = .ok (.iload_n 1, 1) := by decide +kernel
theorem d_rm_grow_2 : decode rm_grow.2.1 2 = .ok (.invokevirtual 187, 3) := by decide +kernel
theorem d_rm_grow_5 : decode rm_grow.2.1 5 = .ok (.ifCond .eq 29, 3) := by decide +kernel
theorem d_rm_grow_8 : decode rm_grow.2.1 8 = .ok (.aload_n 0, 1) := by decide +kernel
theorem d_rm_grow_9 : decode rm_grow.2.1 9 = .ok (.iload_n 2, 1) := by decide +kernel
theorem d_rm_grow_10 : decode rm_grow.2.1 10 = .ok (.invokevirtual 241, 3) := by decide +kernel
theorem d_rm_grow_13 : decode rm_grow.2.1 13 = .ok (.ifCond .eq 21, 3) := by decide +kernel
theorem d_rm_grow_16 : decode rm_grow.2.1 16 = .ok (.iload_n 3, 1) := by decide +kernel
theorem d_rm_grow_17 : decode rm_grow.2.1 17 = .ok (.ifCond .lt 17, 3) := by decide +kernel
theorem d_rm_grow_20 : decode rm_grow.2.1 20 = .ok (.iload_n 3, 1) := by decide +kernel
theorem d_rm_grow_21 : decode rm_grow.2.1 21 = .ok (.iconst 5, 1) := by decide +kernel
theorem d_rm_grow_22 : decode rm_grow.2.1 22 = .ok (.if_icmp .gt 12, 3) := by decide +kernel
theorem d_rm_grow_25 : decode rm_grow.2.1 25 = .ok (.aload_n 0, 1) := by decide +kernel
theorem d_rm_grow_26 : decode rm_grow.2.1 26 = .ok (.getfield 169, 3) := by decide +kernel
theorem d_rm_grow_29 : decode rm_grow.2.1 29 = .ok (.bipush 16, 2) := by decide +kernel
theorem d_rm_grow_31 : decode rm_grow.2.1 31 = .ok (.if_icmp .ne 5, 3) := by decide +kernel
theorem d_rm_grow_34 : decode rm_grow.2.1 34 = .ok (.iconst (-1), 1) := by decide +kernel
theorem d_rm_grow_35 : decode rm_grow.2.1 35 = .ok (.ireturn, 1) := by decide +kernel
theorem d_rm_grow_36 : decode rm_grow.2.1 36 = .ok (.aload_n 0, 1) := by decide +kernel
theorem d_rm_grow_37 : decode rm_grow.2.1 37 = .ok (.getfield 40, 3) := by decide +kernel
theorem d_rm_grow_40 : decode rm_grow.2.1 40 = .ok (.iload_n 1, 1) := by decide +kernel
theorem d_rm_grow_41 : decode rm_grow.2.1 41 = .ok (.iaload, 1) := by decide +kernel
theorem d_rm_grow_42 : decode rm_grow.2.1 42 = .ok (.istore 4, 2) := by decide +kernel
theorem d_rm_grow_44 : decode rm_grow.2.1 44 = .ok (.iconst 0, 1) := by decide +kernel
theorem d_rm_grow_45 : decode rm_grow.2.1 45 = .ok (.istore 5, 2) := by decide +kernel
theorem d_rm_grow_47 : decode rm_grow.2.1 47 = .ok (.iload 5, 2) := by decide +kernel
theorem d_rm_grow_49 : decode rm_grow.2.1 49 = .ok (.iload 4, 2) := by decide +kernel
theorem d_rm_grow_51 : decode rm_grow.2.1 51 = .ok (.if_icmp .ge 93, 3) := by decide +kernel
theorem d_rm_grow_54 : decode rm_grow.2.1 54 = .ok (.aload_n 0, 1) := by decide +kernel
theorem d_rm_grow_55 : decode rm_grow.2.1 55 = .ok (.iload_n 1, 1) := by decide +kernel
theorem d_rm_grow_56 : decode rm_grow.2.1 56 = .ok (.iload 5, 2) := by decide +kernel
theorem d_rm_grow_58 : decode rm_grow.2.1 58 = .ok (.invokevirtual 175, 3) := by decide +kernel
theorem d_rm_grow_61 : decode rm_grow.2.1 61 = .ok (.istore 6, 2) := by decide +kernel
theorem d_rm_grow_63 : decode rm_grow.2.1 63 = .ok (.aload_n 0, 1) := by decide +kernel
theorem d_rm_grow_64 : decode rm_grow.2.1 64 = .ok (.getfield 76, 3) := by decide +kernel
theorem d_rm_grow_67 : decode rm_grow.2.1 67 = .ok (.iload 5, 2) := by decide +kernel
theorem d_rm_grow_69 : decode rm_grow.2.1 69 = .ok (.aload_n 0, 1) := by decide +kernel
theorem d_rm_grow_70 : decode rm_grow.2.1 70 = .ok (.getfield 27, 3) := by decide +kernel
theorem d_rm_grow_73 : decode rm_grow.2.1 73 = .ok (.iload 6, 2) := by decide +kernel
theorem d_rm_grow_75 : decode rm_grow.2.1 75 = .ok (.iaload, 1) := by decide +kernel
theorem d_rm_grow_76 : decode rm_grow.2.1 76 = .ok (.iastore, 1) := by decide +kernel
theorem d_rm_grow_77 : decode rm_grow.2.1 77 = .ok (.aload_n 0, 1) := by decide +kernel
theorem d_rm_grow_78 : decode rm_grow.2.1 78 = .ok (.getfield 79, 3) := by decide +kernel
theorem d_rm_grow_81 : decode rm_grow.2.1 81 = .ok (.iload 5, 2) := by decide +kernel
theorem d_rm_grow_83 : decode rm_grow.2.1 83 = .ok (.aload_n 0, 1) := by decide +kernel
theorem d_rm_grow_84 : decode rm_grow.2.1 84 = .ok (.getfield 30, 3) := by decide +kernel
theorem d_rm_grow_87 : decode rm_grow.2.1 87 = .ok (.iload 6, 2) := by decide +kernel
theorem d_rm_grow_89 : decode rm_grow.2.1 89 = .ok (.iaload, 1) := by decide +kernel
theorem d_rm_grow_90 : decode rm_grow.2.1 90 = .ok (.iastore, 1) := by decide +kernel
theorem d_rm_grow_91 : decode rm_grow.2.1 91 = .ok (.iconst 0, 1) := by decide +kernel
theorem d_rm_grow_92 : decode rm_grow.2.1 92 = .ok (.istore 7, 2) := by decide +kernel
theorem d_rm_grow_94 : decode rm_grow.2.1 94 = .ok (.iload 7, 2) := by decide +kernel
theorem d_rm_grow_96 : decode rm_grow.2.1 96 = .ok (.aload_n 0, 1) := by decide +kernel
theorem d_rm_grow_97 : decode rm_grow.2.1 97 = .ok (.getfield 27, 3) := by decide +kernel
theorem d_rm_grow_100 : decode rm_grow.2.1 100 = .ok (.iload 6, 2) := by decide +kernel
theorem d_rm_grow_102 : decode rm_grow.2.1 102 = .ok (.iaload, 1) := by decide +kernel
theorem d_rm_grow_103 : decode rm_grow.2.1 103 = .ok (.if_icmp .ge 35, 3) := by decide +kernel
theorem d_rm_grow_106 : decode rm_grow.2.1 106 = .ok (.aload_n 0, 1) := by decide +kernel
theorem d_rm_grow_107 : decode rm_grow.2.1 107 = .ok (.getfield 73, 3) := by decide +kernel
theorem d_rm_grow_110 : decode rm_grow.2.1 110 = .ok (.bipush 60, 2) := by decide +kernel
theorem d_rm_grow_112 : decode rm_grow.2.1 112 = .ok (.iload 5, 2) := by decide +kernel
theorem d_rm_grow_114 : decode rm_grow.2.1 114 = .ok (.imul, 1) := by decide +kernel
theorem d_rm_grow_115 : decode rm_grow.2.1 115 = .ok (.iload 7, 2) := by decide +kernel
theorem d_rm_grow_117 : decode rm_grow.2.1 117 = .ok (.iadd, 1) := by decide +kernel
theorem d_rm_grow_118 : decode rm_grow.2.1 118 = .ok (.aload_n 0, 1) := by decide +kernel
theorem d_rm_grow_119 : decode rm_grow.2.1 119 = .ok (.getfield 34, 3) := by decide +kernel
theorem d_rm_grow_122 : decode rm_grow.2.1 122 = .ok (.bipush 60, 2) := by decide +kernel
theorem d_rm_grow_124 : decode rm_grow.2.1 124 = .ok (.iload 6, 2) := by decide +kernel
theorem d_rm_grow_126 : decode rm_grow.2.1 126 = .ok (.imul, 1) := by decide +kernel
theorem d_rm_grow_127 : decode rm_grow.2.1 127 = .ok (.iload 7, 2) := by decide +kernel
theorem d_rm_grow_129 : decode rm_grow.2.1 129 = .ok (.iadd, 1) := by decide +kernel
theorem d_rm_grow_130 : decode rm_grow.2.1 130 = .ok (.iaload, 1) := by decide +kernel
theorem d_rm_grow_131 : decode rm_grow.2.1 131 = .ok (.iastore, 1) := by decide +kernel
theorem d_rm_grow_132 : decode rm_grow.2.1 132 = .ok (.iinc 7 1, 3) := by decide +kernel
theorem d_rm_grow_135 : decode rm_grow.2.1 135 = .ok (.goto (-41), 3) := by decide +kernel
theorem d_rm_grow_138 : decode rm_grow.2.1 138 = .ok (.iinc 5 1, 3) := by decide +kernel
theorem d_rm_grow_141 : decode rm_grow.2.1 141 = .ok (.goto (-94), 3) := by decide +kernel
theorem d_rm_grow_144 : decode rm_grow.2.1 144 = .ok (.iconst 0, 1) := by decide +kernel
theorem d_rm_grow_145 : decode rm_grow.2.1 145 = .ok (.istore 5, 2) := by decide +kernel
theorem d_rm_grow_147 : decode rm_grow.2.1 147 = .ok (.iconst 0, 1) := by decide +kernel
theorem d_rm_grow_148 : decode rm_grow.2.1 148 = .ok (.istore 6, 2) := by decide +kernel
theorem d_rm_grow_150 : decode rm_grow.2.1 150 = .ok (.iload 6, 2) := by decide +kernel
theorem d_rm_grow_152 : decode rm_grow.2.1 152 = .ok (.iload_n 3, 1) := by decide +kernel
theorem d_rm_grow_153 : decode rm_grow.2.1 153 = .ok (.if_icmp .ge 40, 3) := by decide +kernel
theorem d_rm_grow_156 : decode rm_grow.2.1 156 = .ok (.aload_n 0, 1) := by decide +kernel
theorem d_rm_grow_157 : decode rm_grow.2.1 157 = .ok (.iload_n 2, 1) := by decide +kernel
theorem d_rm_grow_158 : decode rm_grow.2.1 158 = .ok (.iload 5, 2) := by decide +kernel
theorem d_rm_grow_160 : decode rm_grow.2.1 160 = .ok (.iload 4, 2) := by decide +kernel
theorem d_rm_grow_162 : decode rm_grow.2.1 162 = .ok (.invokevirtual 244, 3) := by decide +kernel
theorem d_rm_grow_165 : decode rm_grow.2.1 165 = .ok (.ifCond .ne 5, 3) := by decide +kernel
theorem d_rm_grow_168 : decode rm_grow.2.1 168 = .ok (.iconst (-1), 1) := by decide +kernel
theorem d_rm_grow_169 : decode rm_grow.2.1 169 = .ok (.ireturn, 1) := by decide +kernel
theorem d_rm_grow_170 : decode rm_grow.2.1 170 = .ok (.iload 4, 2) := by decide +kernel
theorem d_rm_grow_172 : decode rm_grow.2.1 172 = .ok (.aload_n 0, 1) := by decide +kernel
theorem d_rm_grow_173 : decode rm_grow.2.1 173 = .ok (.getfield 64, 3) := by decide +kernel
theorem d_rm_grow_176 : decode rm_grow.2.1 176 = .ok (.iload_n 2, 1) := by decide +kernel
theorem d_rm_grow_177 : decode rm_grow.2.1 177 = .ok (.iaload, 1) := by decide +kernel
theorem d_rm_grow_178 : decode rm_grow.2.1 178 = .ok (.imul, 1) := by decide +kernel
theorem d_rm_grow_179 : decode rm_grow.2.1 179 = .ok (.istore 4, 2) := by decide +kernel
theorem d_rm_grow_181 : decode rm_grow.2.1 181 = .ok (.iconst 1, 1) := by decide +kernel
theorem d_rm_grow_182 : decode rm_grow.2.1 182 = .ok (.iload 5, 2) := by decide +kernel
theorem d_rm_grow_184 : decode rm_grow.2.1 184 = .ok (.isub, 1) := by decide +kernel
theorem d_rm_grow_185 : decode rm_grow.2.1 185 = .ok (.istore 5, 2) := by decide +kernel
theorem d_rm_grow_187 : decode rm_grow.2.1 187 = .ok (.iinc 6 1, 3) := by decide +kernel
theorem d_rm_grow_190 : decode rm_grow.2.1 190 = .ok (.goto (-40), 3) := by decide +kernel
theorem d_rm_grow_193 : decode rm_grow.2.1 193 = .ok (.iload 4, 2) := by decide +kernel
theorem d_rm_grow_195 : decode rm_grow.2.1 195 = .ok (.sipush 6000, 3) := by decide +kernel
theorem d_rm_grow_198 : decode rm_grow.2.1 198 = .ok (.aload_n 0, 1) := by decide +kernel
theorem d_rm_grow_199 : decode rm_grow.2.1 199 = .ok (.getfield 172, 3) := by decide +kernel
theorem d_rm_grow_202 : decode rm_grow.2.1 202 = .ok (.isub, 1) := by decide +kernel
theorem d_rm_grow_203 : decode rm_grow.2.1 203 = .ok (.if_icmp .le 5, 3) := by decide +kernel
theorem d_rm_grow_206 : decode rm_grow.2.1 206 = .ok (.iconst (-1), 1) := by decide +kernel
theorem d_rm_grow_207 : decode rm_grow.2.1 207 = .ok (.ireturn, 1) := by decide +kernel
theorem d_rm_grow_208 : decode rm_grow.2.1 208 = .ok (.aload_n 0, 1) := by decide +kernel
theorem d_rm_grow_209 : decode rm_grow.2.1 209 = .ok (.invokevirtual 248, 3) := by decide +kernel
theorem d_rm_grow_212 : decode rm_grow.2.1 212 = .ok (.istore 6, 2) := by decide +kernel
theorem d_rm_grow_214 : decode rm_grow.2.1 214 = .ok (.aload_n 0, 1) := by decide +kernel
theorem d_rm_grow_215 : decode rm_grow.2.1 215 = .ok (.getfield 40, 3) := by decide +kernel
theorem d_rm_grow_218 : decode rm_grow.2.1 218 = .ok (.iload 6, 2) := by decide +kernel
theorem d_rm_grow_220 : decode rm_grow.2.1 220 = .ok (.iload 4, 2) := by decide +kernel
theorem d_rm_grow_222 : decode rm_grow.2.1 222 = .ok (.iastore, 1) := by decide +kernel
theorem d_rm_grow_223 : decode rm_grow.2.1 223 = .ok (.iconst 0, 1) := by decide +kernel
theorem d_rm_grow_224 : decode rm_grow.2.1 224 = .ok (.istore 7, 2) := by decide +kernel
theorem d_rm_grow_226 : decode rm_grow.2.1 226 = .ok (.iload 7, 2) := by decide +kernel
theorem d_rm_grow_228 : decode rm_grow.2.1 228 = .ok (.iload 4, 2) := by decide +kernel
theorem d_rm_grow_230 : decode rm_grow.2.1 230 = .ok (.if_icmp .ge 101, 3) := by decide +kernel
theorem d_rm_grow_233 : decode rm_grow.2.1 233 = .ok (.bipush 60, 2) := by decide +kernel
theorem d_rm_grow_235 : decode rm_grow.2.1 235 = .ok (.iload 5, 2) := by decide +kernel
theorem d_rm_grow_237 : decode rm_grow.2.1 237 = .ok (.imul, 1) := by decide +kernel
theorem d_rm_grow_238 : decode rm_grow.2.1 238 = .ok (.iload 7, 2) := by decide +kernel
theorem d_rm_grow_240 : decode rm_grow.2.1 240 = .ok (.iadd, 1) := by decide +kernel
theorem d_rm_grow_241 : decode rm_grow.2.1 241 = .ok (.istore 8, 2) := by decide +kernel
theorem d_rm_grow_243 : decode rm_grow.2.1 243 = .ok (.aload_n 0, 1) := by decide +kernel
theorem d_rm_grow_244 : decode rm_grow.2.1 244 = .ok (.aload_n 0, 1) := by decide +kernel
theorem d_rm_grow_245 : decode rm_grow.2.1 245 = .ok (.getfield 76, 3) := by decide +kernel
theorem d_rm_grow_248 : decode rm_grow.2.1 248 = .ok (.iload 8, 2) := by decide +kernel
theorem d_rm_grow_250 : decode rm_grow.2.1 250 = .ok (.iaload, 1) := by decide +kernel
theorem d_rm_grow_251 : decode rm_grow.2.1 251 = .ok (.aload_n 0, 1) := by decide +kernel
theorem d_rm_grow_252 : decode rm_grow.2.1 252 = .ok (.getfield 79, 3) := by decide +kernel
theorem d_rm_grow_255 : decode rm_grow.2.1 255 = .ok (.iload 8, 2) := by decide +kernel
theorem d_rm_grow_257 : decode rm_grow.2.1 257 = .ok (.iaload, 1) := by decide +kernel
theorem d_rm_grow_258 : decode rm_grow.2.1 258 = .ok (.invokevirtual 194, 3) := by decide +kernel
theorem d_rm_grow_261 : decode rm_grow.2.1 261 = .ok (.istore 9, 2) := by decide +kernel
theorem d_rm_grow_263 : decode rm_grow.2.1 263 = .ok (.iconst 0, 1) := by decide +kernel
theorem d_rm_grow_264 : decode rm_grow.2.1 264 = .ok (.istore 10, 2) := by decide +kernel
theorem d_rm_grow_266 : decode rm_grow.2.1 266 = .ok (.iload 10, 2) := by decide +kernel
theorem d_rm_grow_268 : decode rm_grow.2.1 268 = .ok (.aload_n 0, 1) := by decide +kernel
theorem d_rm_grow_269 : decode rm_grow.2.1 269 = .ok (.getfield 76, 3) := by decide +kernel
theorem d_rm_grow_272 : decode rm_grow.2.1 272 = .ok (.iload 8, 2) := by decide +kernel
theorem d_rm_grow_274 : decode rm_grow.2.1 274 = .ok (.iaload, 1) := by decide +kernel
theorem d_rm_grow_275 : decode rm_grow.2.1 275 = .ok (.if_icmp .ge 35, 3) := by decide +kernel
theorem d_rm_grow_278 : decode rm_grow.2.1 278 = .ok (.aload_n 0, 1) := by decide +kernel
theorem d_rm_grow_279 : decode rm_grow.2.1 279 = .ok (.getfield 34, 3) := by decide +kernel
theorem d_rm_grow_282 : decode rm_grow.2.1 282 = .ok (.bipush 60, 2) := by decide +kernel
theorem d_rm_grow_284 : decode rm_grow.2.1 284 = .ok (.iload 9, 2) := by decide +kernel
theorem d_rm_grow_286 : decode rm_grow.2.1 286 = .ok (.imul, 1) := by decide +kernel
theorem d_rm_grow_287 : decode rm_grow.2.1 287 = .ok (.iload 10, 2) := by decide +kernel
theorem d_rm_grow_289 : decode rm_grow.2.1 289 = .ok (.iadd, 1) := by decide +kernel
theorem d_rm_grow_290 : decode rm_grow.2.1 290 = .ok (.aload_n 0, 1) := by decide +kernel
theorem d_rm_grow_291 : decode rm_grow.2.1 291 = .ok (.getfield 73, 3) := by decide +kernel
theorem d_rm_grow_294 : decode rm_grow.2.1 294 = .ok (.bipush 60, 2) := by decide +kernel
theorem d_rm_grow_296 : decode rm_grow.2.1 296 = .ok (.iload 8, 2) := by decide +kernel
theorem d_rm_grow_298 : decode rm_grow.2.1 298 = .ok (.imul, 1) := by decide +kernel
theorem d_rm_grow_299 : decode rm_grow.2.1 299 = .ok (.iload 10, 2) := by decide +kernel
theorem d_rm_grow_301 : decode rm_grow.2.1 301 = .ok (.iadd, 1) := by decide +kernel
theorem d_rm_grow_302 : decode rm_grow.2.1 302 = .ok (.iaload, 1) := by decide +kernel
theorem d_rm_grow_303 : decode rm_grow.2.1 303 = .ok (.iastore, 1) := by decide +kernel
theorem d_rm_grow_304 : decode rm_grow.2.1 304 = .ok (.iinc 10 1, 3) := by decide +kernel
theorem d_rm_grow_307 : decode rm_grow.2.1 307 = .ok (.goto (-41), 3) := by decide +kernel
theorem d_rm_grow_310 : decode rm_grow.2.1 310 = .ok (.aload_n 0, 1) := by decide +kernel
theorem d_rm_grow_311 : decode rm_grow.2.1 311 = .ok (.getfield 37, 3) := by decide +kernel
theorem d_rm_grow_314 : decode rm_grow.2.1 314 = .ok (.bipush 60, 2) := by decide +kernel
theorem d_rm_grow_316 : decode rm_grow.2.1 316 = .ok (.iload 6, 2) := by decide +kernel
theorem d_rm_grow_318 : decode rm_grow.2.1 318 = .ok (.imul, 1) := by decide +kernel
theorem d_rm_grow_319 : decode rm_grow.2.1 319 = .ok (.iload 7, 2) := by decide +kernel
theorem d_rm_grow_321 : decode rm_grow.2.1 321 = .ok (.iadd, 1) := by decide +kernel
theorem d_rm_grow_322 : decode rm_grow.2.1 322 = .ok (.iload 9, 2) := by decide +kernel
theorem d_rm_grow_324 : decode rm_grow.2.1 324 = .ok (.iastore, 1) := by decide +kernel
theorem d_rm_grow_325 : decode rm_grow.2.1 325 = .ok (.iinc 7 1, 3) := by decide +kernel
theorem d_rm_grow_328 : decode rm_grow.2.1 328 = .ok (.goto (-102), 3) := by decide +kernel
theorem d_rm_grow_331 : decode rm_grow.2.1 331 = .ok (.iload 6, 2) := by decide +kernel
theorem d_rm_grow_333 : decode rm_grow.2.1 333 = .ok (.ireturn, 1) := by decide +kernel
theorem d_rm_grown_0 : decode rm_grown.2.1 0 = .ok (.aload_n 0, 1) := by decide +kernel
theorem d_rm_grown_1 : decode rm_grown.2.1 1 = .ok (.getfield 64, 3) := by decide +kernel
theorem d_rm_grown_4 : decode rm_grown.2.1 4 = .ok (.iload_n 1, 1) := by decide +kernel
theorem d_rm_grown_5 : decode rm_grown.2.1 5 = .ok (.iaload, 1) := by decide +kernel
theorem d_rm_grown_6 : decode rm_grown.2.1 6 = .ok (.istore 4, 2) := by decide +kernel
theorem d_rm_grown_8 : decode rm_grown.2.1 8 = .ok (.aload_n 0, 1) := by decide +kernel
theorem d_rm_grown_9 : decode rm_grown.2.1 9 = .ok (.getfield 67, 3) := by decide +kernel
theorem d_rm_grown_12 : decode rm_grown.2.1 12 = .ok (.iload_n 1, 1) := by decide +kernel
theorem d_rm_grown_13 : decode rm_grown.2.1 13 = .ok (.iaload, 1) := by decide +kernel
theorem d_rm_grown_14 : decode rm_grown.2.1 14 = .ok (.istore 5, 2) := by decide +kernel
theorem d_rm_grown_16 : decode rm_grown.2.1 16 = .ok (.iload_n 3, 1) := by decide +kernel
theorem d_rm_grown_17 : decode rm_grown.2.1 17 = .ok (.iload 4, 2) := by decide +kernel
theorem d_rm_grown_19 : decode rm_grown.2.1 19 = .ok (.imul, 1) := by decide +kernel
theorem d_rm_grown_20 : decode rm_grown.2.1 20 = .ok (.bipush 60, 2) := by decide +kernel
theorem d_rm_grown_22 : decode rm_grown.2.1 22 = .ok (.if_icmp .le 5, 3) := by decide +kernel
theorem d_rm_grown_25 : decode rm_grown.2.1 25 = .ok (.iconst 0, 1) := by decide +kernel
theorem d_rm_grown_26 : decode rm_grown.2.1 26 = .ok (.ireturn, 1) := by decide +kernel
theorem d_rm_grown_27 : decode rm_grown.2.1 27 = .ok (.iconst 0, 1) := by decide +kernel
theorem d_rm_grown_28 : decode rm_grown.2.1 28 = .ok (.istore 6, 2) := by decide +kernel
theorem d_rm_grown_30 : decode rm_grown.2.1 30 = .ok (.iload 6, 2) := by decide +kernel
theorem d_rm_grown_32 : decode rm_grown.2.1 32 = .ok (.iload_n 3, 1) := by decide +kernel
theorem d_rm_grown_33 : decode rm_grown.2.1 33 = .ok (.if_icmp .ge 259, 3) := by decide +kernel
theorem d_rm_grown_36 : decode rm_grown.2.1 36 = .ok (.bipush 60, 2) := by decide +kernel
theorem d_rm_grown_38 : decode rm_grown.2.1 38 = .ok (.iload_n 2, 1) := by decide +kernel
theorem d_rm_grown_39 : decode rm_grown.2.1 39 = .ok (.imul, 1) := by decide +kernel
theorem d_rm_grown_40 : decode rm_grown.2.1 40 = .ok (.iload 6, 2) := by decide +kernel
theorem d_rm_grown_42 : decode rm_grown.2.1 42 = .ok (.iadd, 1) := by decide +kernel
theorem d_rm_grown_43 : decode rm_grown.2.1 43 = .ok (.istore 7, 2) := by decide +kernel
theorem d_rm_grown_45 : decode rm_grown.2.1 45 = .ok (.aload_n 0, 1) := by decide +kernel
theorem d_rm_grown_46 : decode rm_grown.2.1 46 = .ok (.getfield 79, 3) := by decide +kernel
theorem d_rm_grown_49 : decode rm_grown.2.1 49 = .ok (.iload 7, 2) := by decide +kernel
theorem d_rm_grown_51 : decode rm_grown.2.1 51 = .ok (.iaload, 1) := by decide +kernel
theorem d_rm_grown_52 : decode rm_grown.2.1 52 = .ok (.iload 5, 2) := by decide +kernel
theorem d_rm_grown_54 : decode rm_grown.2.1 54 = .ok (.imul, 1) := by decide +kernel
theorem d_rm_grown_55 : decode rm_grown.2.1 55 = .ok (.istore 8, 2) := by decide +kernel
theorem d_rm_grown_57 : decode rm_grown.2.1 57 = .ok (.aload_n 0, 1) := by decide +kernel
theorem d_rm_grown_58 : decode rm_grown.2.1 58 = .ok (.getfield 76, 3) := by decide +kernel
theorem d_rm_grown_61 : decode rm_grown.2.1 61 = .ok (.iload 7, 2) := by decide +kernel
theorem d_rm_grown_63 : decode rm_grown.2.1 63 = .ok (.iaload, 1) := by decide +kernel
theorem d_rm_grown_64 : decode rm_grown.2.1 64 = .ok (.iload 5, 2) := by decide +kernel
theorem d_rm_grown_66 : decode rm_grown.2.1 66 = .ok (.imul, 1) := by decide +kernel
theorem d_rm_grown_67 : decode rm_grown.2.1 67 = .ok (.bipush 60, 2) := by decide +kernel
theorem d_rm_grown_69 : decode rm_grown.2.1 69 = .ok (.if_icmp .gt 17, 3) := by decide +kernel
theorem d_rm_grown_72 : decode rm_grown.2.1 72 = .ok (.iload 8, 2) := by decide +kernel
theorem d_rm_grown_74 : decode rm_grown.2.1 74 = .ok (.bipush (-30), 2) := by decide +kernel
theorem d_rm_grown_76 : decode rm_grown.2.1 76 = .ok (.if_icmp .lt 10, 3) := by decide +kernel
theorem d_rm_grown_79 : decode rm_grown.2.1 79 = .ok (.iload 8, 2) := by decide +kernel
theorem d_rm_grown_81 : decode rm_grown.2.1 81 = .ok (.bipush 30, 2) := by decide +kernel
theorem d_rm_grown_83 : decode rm_grown.2.1 83 = .ok (.if_icmp .le 5, 3) := by decide +kernel
theorem d_rm_grown_86 : decode rm_grown.2.1 86 = .ok (.iconst 0, 1) := by decide +kernel
theorem d_rm_grown_87 : decode rm_grown.2.1 87 = .ok (.ireturn, 1) := by decide +kernel
theorem d_rm_grown_88 : decode rm_grown.2.1 88 = .ok (.iconst 0, 1) := by decide +kernel
theorem d_rm_grown_89 : decode rm_grown.2.1 89 = .ok (.istore 9, 2) := by decide +kernel
theorem d_rm_grown_91 : decode rm_grown.2.1 91 = .ok (.iload 9, 2) := by decide +kernel
theorem d_rm_grown_93 : decode rm_grown.2.1 93 = .ok (.aload_n 0, 1) := by decide +kernel
theorem d_rm_grown_94 : decode rm_grown.2.1 94 = .ok (.getfield 76, 3) := by decide +kernel
theorem d_rm_grown_97 : decode rm_grown.2.1 97 = .ok (.iload 7, 2) := by decide +kernel
theorem d_rm_grown_99 : decode rm_grown.2.1 99 = .ok (.iaload, 1) := by decide +kernel
theorem d_rm_grown_100 : decode rm_grown.2.1 100 = .ok (.if_icmp .ge 127, 3) := by decide +kernel
theorem d_rm_grown_103 : decode rm_grown.2.1 103 = .ok (.aload_n 0, 1) := by decide +kernel
theorem d_rm_grown_104 : decode rm_grown.2.1 104 = .ok (.getfield 73, 3) := by decide +kernel
theorem d_rm_grown_107 : decode rm_grown.2.1 107 = .ok (.bipush 60, 2) := by decide +kernel
theorem d_rm_grown_109 : decode rm_grown.2.1 109 = .ok (.iload 7, 2) := by decide +kernel
theorem d_rm_grown_111 : decode rm_grown.2.1 111 = .ok (.imul, 1) := by decide +kernel
theorem d_rm_grown_112 : decode rm_grown.2.1 112 = .ok (.iload 9, 2) := by decide +kernel
theorem d_rm_grown_114 : decode rm_grown.2.1 114 = .ok (.iadd, 1) := by decide +kernel
theorem d_rm_grown_115 : decode rm_grown.2.1 115 = .ok (.iaload, 1) := by decide +kernel
theorem d_rm_grown_116 : decode rm_grown.2.1 116 = .ok (.istore 10, 2) := by decide +kernel
theorem d_rm_grown_118 : decode rm_grown.2.1 118 = .ok (.iload 10, 2) := by decide +kernel
theorem d_rm_grown_120 : decode rm_grown.2.1 120 = .ok (.ifCond .eq 23, 3) := by decide +kernel
theorem d_rm_grown_123 : decode rm_grown.2.1 123 = .ok (.iload 10, 2) := by decide +kernel
theorem d_rm_grown_125 : decode rm_grown.2.1 125 = .ok (.invokestatic 160, 3) := by decide +kernel
theorem d_rm_grown_128 : decode rm_grown.2.1 128 = .ok (.iconst 1, 1) := by decide +kernel
theorem d_rm_grown_129 : decode rm_grown.2.1 129 = .ok (.iand, 1) := by decide +kernel
theorem d_rm_grown_130 : decode rm_grown.2.1 130 = .ok (.iconst 1, 1) := by decide +kernel
theorem d_rm_grown_131 : decode rm_grown.2.1 131 = .ok (.if_icmp .ne 12, 3) := by decide +kernel
theorem d_rm_grown_134 : decode rm_grown.2.1 134 = .ok (.iload 4, 2) := by decide +kernel
theorem d_rm_grown_136 : decode rm_grown.2.1 136 = .ok (.iload 5, 2) := by decide +kernel
theorem d_rm_grown_138 : decode rm_grown.2.1 138 = .ok (.if_icmp .eq 5, 3) := by decide +kernel
theorem d_rm_grown_141 : decode rm_grown.2.1 141 = .ok (.iconst 0, 1) := by decide +kernel
theorem d_rm_grown_142 : decode rm_grown.2.1 142 = .ok (.ireturn, 1) := by decide +kernel
theorem d_rm_grown_143 : decode rm_grown.2.1 143 = .ok (.iconst 0, 1) := by decide +kernel
theorem d_rm_grown_144 : decode rm_grown.2.1 144 = .ok (.istore 11, 2) := by decide +kernel
theorem d_rm_grown_146 : decode rm_grown.2.1 146 = .ok (.iload 11, 2) := by decide +kernel
theorem d_rm_grown_148 : decode rm_grown.2.1 148 = .ok (.iload 4, 2) := by decide +kernel
theorem d_rm_grown_150 : decode rm_grown.2.1 150 = .ok (.iload 5, 2) := by decide +kernel
theorem d_rm_grown_152 : decode rm_grown.2.1 152 = .ok (.imul, 1) := by decide +kernel
theorem d_rm_grown_153 : decode rm_grown.2.1 153 = .ok (.if_icmp .ge 68, 3) := by decide +kernel
theorem d_rm_grown_156 : decode rm_grown.2.1 156 = .ok (.bipush 60, 2) := by decide +kernel
theorem d_rm_grown_158 : decode rm_grown.2.1 158 = .ok (.iconst 1, 1) := by decide +kernel
theorem d_rm_grown_159 : decode rm_grown.2.1 159 = .ok (.iload_n 2, 1) := by decide +kernel
theorem d_rm_grown_160 : decode rm_grown.2.1 160 = .ok (.isub, 1) := by decide +kernel
theorem d_rm_grown_161 : decode rm_grown.2.1 161 = .ok (.imul, 1) := by decide +kernel
theorem d_rm_grown_162 : decode rm_grown.2.1 162 = .ok (.iload 4, 2) := by decide +kernel
theorem d_rm_grown_164 : decode rm_grown.2.1 164 = .ok (.iload 6, 2) := by decide +kernel
theorem d_rm_grown_166 : decode rm_grown.2.1 166 = .ok (.imul, 1) := by decide +kernel
theorem d_rm_grown_167 : decode rm_grown.2.1 167 = .ok (.iadd, 1) := by decide +kernel
theorem d_rm_grown_168 : decode rm_grown.2.1 168 = .ok (.iload 11, 2) := by decide +kernel
theorem d_rm_grown_170 : decode rm_grown.2.1 170 = .ok (.iload 5, 2) := by decide +kernel
theorem d_rm_grown_172 : decode rm_grown.2.1 172 = .ok (.idiv, 1) := by decide +kernel
theorem d_rm_grown_173 : decode rm_grown.2.1 173 = .ok (.iadd, 1) := by decide +kernel
theorem d_rm_grown_174 : decode rm_grown.2.1 174 = .ok (.istore 12, 2) := by decide +kernel
theorem d_rm_grown_176 : decode rm_grown.2.1 176 = .ok (.aload_n 0, 1) := by decide +kernel
theorem d_rm_grown_177 : decode rm_grown.2.1 177 = .ok (.getfield 73, 3) := by decide +kernel
theorem d_rm_grown_180 : decode rm_grown.2.1 180 = .ok (.bipush 60, 2) := by decide +kernel
theorem d_rm_grown_182 : decode rm_grown.2.1 182 = .ok (.iload 12, 2) := by decide +kernel
theorem d_rm_grown_184 : decode rm_grown.2.1 184 = .ok (.imul, 1) := by decide +kernel
theorem d_rm_grown_185 : decode rm_grown.2.1 185 = .ok (.iload 5, 2) := by decide +kernel
theorem d_rm_grown_187 : decode rm_grown.2.1 187 = .ok (.iload 9, 2) := by decide +kernel
theorem d_rm_grown_189 : decode rm_grown.2.1 189 = .ok (.imul, 1) := by decide +kernel
theorem d_rm_grown_190 : decode rm_grown.2.1 190 = .ok (.iadd, 1) := by decide +kernel
theorem d_rm_grown_191 : decode rm_grown.2.1 191 = .ok (.iload 11, 2) := by decide +kernel
theorem d_rm_grown_193 : decode rm_grown.2.1 193 = .ok (.iload 5, 2) := by decide +kernel
theorem d_rm_grown_195 : decode rm_grown.2.1 195 = .ok (.irem, 1) := by decide +kernel
theorem d_rm_grown_196 : decode rm_grown.2.1 196 = .ok (.iadd, 1) := by decide +kernel
theorem d_rm_grown_197 : decode rm_grown.2.1 197 = .ok (.aload_n 0, 1) := by decide +kernel
theorem d_rm_grown_198 : decode rm_grown.2.1 198 = .ok (.iload_n 1, 1) := by decide +kernel
theorem d_rm_grown_199 : decode rm_grown.2.1 199 = .ok (.iload 10, 2) := by decide +kernel
theorem d_rm_grown_201 : decode rm_grown.2.1 201 = .ok (.iload 11, 2) := by decide +kernel
theorem d_rm_grown_203 : decode rm_grown.2.1 203 = .ok (.iload 5, 2) := by decide +kernel
theorem d_rm_grown_205 : decode rm_grown.2.1 205 = .ok (.idiv, 1) := by decide +kernel
theorem d_rm_grown_206 : decode rm_grown.2.1 206 = .ok (.iload 11, 2) := by decide +kernel
theorem d_rm_grown_208 : decode rm_grown.2.1 208 = .ok (.iload 5, 2) := by decide +kernel
theorem d_rm_grown_210 : decode rm_grown.2.1 210 = .ok (.irem, 1) := by decide +kernel
theorem d_rm_grown_211 : decode rm_grown.2.1 211 = .ok (.invokevirtual 252, 3) := by decide +kernel
theorem d_rm_grown_214 : decode rm_grown.2.1 214 = .ok (.iastore, 1) := by decide +kernel
theorem d_rm_grown_215 : decode rm_grown.2.1 215 = .ok (.iinc 11 1, 3) := by decide +kernel
theorem d_rm_grown_218 : decode rm_grown.2.1 218 = .ok (.goto (-72), 3) := by decide +kernel
theorem d_rm_grown_221 : decode rm_grown.2.1 221 = .ok (.iinc 9 1, 3) := by decide +kernel
theorem d_rm_grown_224 : decode rm_grown.2.1 224 = .ok (.goto (-133), 3) := by decide +kernel
theorem d_rm_grown_227 : decode rm_grown.2.1 227 = .ok (.iconst 0, 1) := by decide +kernel
theorem d_rm_grown_228 : decode rm_grown.2.1 228 = .ok (.istore 9, 2) := by decide +kernel
theorem d_rm_grown_230 : decode rm_grown.2.1 230 = .ok (.iload 9, 2) := by decide +kernel
theorem d_rm_grown_232 : decode rm_grown.2.1 232 = .ok (.iload 4, 2) := by decide +kernel
theorem d_rm_grown_234 : decode rm_grown.2.1 234 = .ok (.if_icmp .ge 52, 3) := by decide +kernel
theorem d_rm_grown_237 : decode rm_grown.2.1 237 = .ok (.bipush 60, 2) := by decide +kernel
theorem d_rm_grown_239 : decode rm_grown.2.1 239 = .ok (.iconst 1, 1) := by decide +kernel
theorem d_rm_grown_240 : decode rm_grown.2.1 240 = .ok (.iload_n 2, 1) := by decide +kernel
theorem d_rm_grown_241 : decode rm_grown.2.1 241 = .ok (.isub, 1) := by decide +kernel
theorem d_rm_grown_242 : decode rm_grown.2.1 242 = .ok (.imul, 1) := by decide +kernel
theorem d_rm_grown_243 : decode rm_grown.2.1 243 = .ok (.iload 4, 2) := by decide +kernel
theorem d_rm_grown_245 : decode rm_grown.2.1 245 = .ok (.iload 6, 2) := by decide +kernel
theorem d_rm_grown_247 : decode rm_grown.2.1 247 = .ok (.imul, 1) := by decide +kernel
theorem d_rm_grown_248 : decode rm_grown.2.1 248 = .ok (.iadd, 1) := by decide +kernel
theorem d_rm_grown_249 : decode rm_grown.2.1 249 = .ok (.iload 9, 2) := by decide +kernel
theorem d_rm_grown_251 : decode rm_grown.2.1 251 = .ok (.iadd, 1) := by decide +kernel
theorem d_rm_grown_252 : decode rm_grown.2.1 252 = .ok (.istore 10, 2) := by decide +kernel
theorem d_rm_grown_254 : decode rm_grown.2.1 254 = .ok (.aload_n 0, 1) := by decide +kernel
theorem d_rm_grown_255 : decode rm_grown.2.1 255 = .ok (.getfield 76, 3) := by decide +kernel
theorem d_rm_grown_258 : decode rm_grown.2.1 258 = .ok (.iload 10, 2) := by decide +kernel
theorem d_rm_grown_260 : decode rm_grown.2.1 260 = .ok (.aload_n 0, 1) := by decide +kernel
theorem d_rm_grown_261 : decode rm_grown.2.1 261 = .ok (.getfield 76, 3) := by decide +kernel
theorem d_rm_grown_264 : decode rm_grown.2.1 264 = .ok (.iload 7, 2) := by decide +kernel
theorem d_rm_grown_266 : decode rm_grown.2.1 266 = .ok (.iaload, 1) := by decide +kernel
theorem d_rm_grown_267 : decode rm_grown.2.1 267 = .ok (.iload 5, 2) := by decide +kernel
theorem d_rm_grown_269 : decode rm_grown.2.1 269 = .ok (.imul, 1) := by decide +kernel
theorem d_rm_grown_270 : decode rm_grown.2.1 270 = .ok (.iastore, 1) := by decide +kernel
theorem d_rm_grown_271 : decode rm_grown.2.1 271 = .ok (.aload_n 0, 1) := by decide +kernel
theorem d_rm_grown_272 : decode rm_grown.2.1 272 = .ok (.getfield 79, 3) := by decide +kernel
theorem d_rm_grown_275 : decode rm_grown.2.1 275 = .ok (.iload 10, 2) := by decide +kernel
theorem d_rm_grown_277 : decode rm_grown.2.1 277 = .ok (.iload 8, 2) := by decide +kernel
theorem d_rm_grown_279 : decode rm_grown.2.1 279 = .ok (.iastore, 1) := by decide +kernel
theorem d_rm_grown_280 : decode rm_grown.2.1 280 = .ok (.iinc 9 1, 3) := by decide +kernel
theorem d_rm_grown_283 : decode rm_grown.2.1 283 = .ok (.goto (-53), 3) := by decide +kernel
theorem d_rm_grown_286 : decode rm_grown.2.1 286 = .ok (.iinc 6 1, 3) := by decide +kernel
theorem d_rm_grown_289 : decode rm_grown.2.1 289 = .ok (.goto (-259), 3) := by decide +kernel
theorem d_rm_grown_292 : decode rm_grown.2.1 292 = .ok (.iconst 1, 1) := by decide +kernel
theorem d_rm_grown_293 : decode rm_grown.2.1 293 = .ok (.ireturn, 1) := by decide +kernel
theorem d_rm_block_0 : decode rm_block.2.1 0 = .ok (.iload_n 2, 1) := by decide +kernel
theorem d_rm_block_1 : decode rm_block.2.1 1 = .ok (.ifCond .ne 5, 3) := by decide +kernel
theorem d_rm_block_4 : decode rm_block.2.1 4 = .ok (.iconst 0, 1) := by decide +kernel
theorem d_rm_block_5 : decode rm_block.2.1 5 = .ok (.ireturn, 1) := by decide +kernel
theorem d_rm_block_6 : decode rm_block.2.1 6 = .ok (.aload_n 0, 1) := by decide +kernel
theorem d_rm_block_7 : decode rm_block.2.1 7 = .ok (.iload_n 2, 1) := by decide +kernel
theorem d_rm_block_8 : decode rm_block.2.1 8 = .ok (.invokestatic 160, 3) := by decide +kernel
theorem d_rm_block_11 : decode rm_block.2.1 11 = .ok (.aload_n 0, 1) := by decide +kernel
theorem d_rm_block_12 : decode rm_block.2.1 12 = .ok (.getfield 64, 3) := by decide +kernel
theorem d_rm_block_15 : decode rm_block.2.1 15 = .ok (.iload_n 1, 1) := by decide +kernel
theorem d_rm_block_16 : decode rm_block.2.1 16 = .ok (.iaload, 1) := by decide +kernel
theorem d_rm_block_17 : decode rm_block.2.1 17 = .ok (.aload_n 0, 1) := by decide +kernel
theorem d_rm_block_18 : decode rm_block.2.1 18 = .ok (.getfield 67, 3) := by decide +kernel
theorem d_rm_block_21 : decode rm_block.2.1 21 = .ok (.iload_n 1, 1) := by decide +kernel
theorem d_rm_block_22 : decode rm_block.2.1 22 = .ok (.iaload, 1) := by decide +kernel
theorem d_rm_block_23 : decode rm_block.2.1 23 = .ok (.iload_n 3, 1) := by decide +kernel
theorem d_rm_block_24 : decode rm_block.2.1 24 = .ok (.iload 4, 2) := by decide +kernel
theorem d_rm_block_26 : decode rm_block.2.1 26 = .ok (.invokevirtual 227, 3) := by decide +kernel
theorem d_rm_block_29 : decode rm_block.2.1 29 = .ok (.aload_n 0, 1) := by decide +kernel
theorem d_rm_block_30 : decode rm_block.2.1 30 = .ok (.aload_n 0, 1) := by decide +kernel
theorem d_rm_block_31 : decode rm_block.2.1 31 = .ok (.getfield 70, 3) := by decide +kernel
theorem d_rm_block_34 : decode rm_block.2.1 34 = .ok (.sipush 640, 3) := by decide +kernel
theorem d_rm_block_37 : decode rm_block.2.1 37 = .ok (.iload_n 1, 1) := by decide +kernel
theorem d_rm_block_38 : decode rm_block.2.1 38 = .ok (.imul, 1) := by decide +kernel
theorem d_rm_block_39 : decode rm_block.2.1 39 = .ok (.bipush 16, 2) := by decide +kernel
theorem d_rm_block_41 : decode rm_block.2.1 41 = .ok (.iload_n 2, 1) := by decide +kernel
theorem d_rm_block_42 : decode rm_block.2.1 42 = .ok (.invokestatic 156, 3) := by decide +kernel
theorem d_rm_block_45 : decode rm_block.2.1 45 = .ok (.imul, 1) := by decide +kernel
theorem d_rm_block_46 : decode rm_block.2.1 46 = .ok (.iadd, 1) := by decide +kernel
theorem d_rm_block_47 : decode rm_block.2.1 47 = .ok (.iconst 4, 1) := by decide +kernel
theorem d_rm_block_48 : decode rm_block.2.1 48 = .ok (.aload_n 0, 1) := by decide +kernel
theorem d_rm_block_49 : decode rm_block.2.1 49 = .ok (.getfield 215, 3) := by decide +kernel
theorem d_rm_block_52 : decode rm_block.2.1 52 = .ok (.imul, 1) := by decide +kernel
theorem d_rm_block_53 : decode rm_block.2.1 53 = .ok (.iadd, 1) := by decide +kernel
theorem d_rm_block_54 : decode rm_block.2.1 54 = .ok (.aload_n 0, 1) := by decide +kernel
theorem d_rm_block_55 : decode rm_block.2.1 55 = .ok (.getfield 218, 3) := by decide +kernel
theorem d_rm_block_58 : decode rm_block.2.1 58 = .ok (.iadd, 1) := by decide +kernel
theorem d_rm_block_59 : decode rm_block.2.1 59 = .ok (.iaload, 1) := by decide +kernel
theorem d_rm_block_60 : decode rm_block.2.1 60 = .ok (.iload_n 2, 1) := by decide +kernel
theorem d_rm_block_61 : decode rm_block.2.1 61 = .ok (.invokestatic 160, 3) := by decide +kernel
theorem d_rm_block_64 : decode rm_block.2.1 64 = .ok (.invokevirtual 231, 3) := by decide +kernel
theorem d_rm_block_67 : decode rm_block.2.1 67 = .ok (.istore 5, 2) := by decide +kernel
theorem d_rm_block_69 : decode rm_block.2.1 69 = .ok (.iload 5, 2) := by decide +kernel
theorem d_rm_block_71 : decode rm_block.2.1 71 = .ok (.ifCond .ne 7, 3) := by decide +kernel
theorem d_rm_block_74 : decode rm_block.2.1 74 = .ok (.iconst 0, 1) := by decide +kernel
theorem d_rm_block_75 : decode rm_block.2.1 75 = .ok (.goto 20, 3) := by decide +kernel
theorem d_rm_block_78 : decode rm_block.2.1 78 = .ok (.iload 5, 2) := by decide +kernel
theorem d_rm_block_80 : decode rm_block.2.1 80 = .ok (.invokestatic 156, 3) := by decide +kernel
theorem d_rm_block_83 : decode rm_block.2.1 83 = .ok (.iload 5, 2) := by decide +kernel
theorem d_rm_block_85 : decode rm_block.2.1 85 = .ok (.invokestatic 160, 3) := by decide +kernel
theorem d_rm_block_88 : decode rm_block.2.1 88 = .ok (.iload_n 2, 1) := by decide +kernel
theorem d_rm_block_89 : decode rm_block.2.1 89 = .ok (.invokestatic 163, 3) := by decide +kernel
theorem d_rm_block_92 : decode rm_block.2.1 92 = .ok (.invokestatic 166, 3) := by decide +kernel
theorem d_rm_block_95 : decode rm_block.2.1 95 = .ok (.ireturn, 1) := by decide +kernel
theorem d_rm_sum_0 : decode rm_sum.2.1 0 = .ok (.lload_n 0, 1) := by decide +kernel
theorem d_rm_sum_1 : decode rm_sum.2.1 1 = .ok (.lconst 0, 1) := by decide +kernel
theorem d_rm_sum_2 : decode rm_sum.2.1 2 = .ok (.lcmp, 1) := by decide +kernel
theorem d_rm_sum_3 : decode rm_sum.2.1 3 = .ok (.ifCond .lt 17, 3) := by decide +kernel
theorem d_rm_sum_6 : decode rm_sum.2.1 6 = .ok (.lload_n 2, 1) := by decide +kernel
theorem d_rm_sum_7 : decode rm_sum.2.1 7 = .ok (.lconst 0, 1) := by decide +kernel
theorem d_rm_sum_8 : decode rm_sum.2.1 8 = .ok (.lcmp, 1) := by decide +kernel
theorem d_rm_sum_9 : decode rm_sum.2.1 9 = .ok (.ifCond .lt 11, 3) := by decide +kernel
theorem d_rm_sum_12 : decode rm_sum.2.1 12 = .ok (.lload_n 0, 1) := by decide +kernel
theorem d_rm_sum_13 : decode rm_sum.2.1 13 = .ok (.lload_n 2, 1) := by decide +kernel
theorem d_rm_sum_14 : decode rm_sum.2.1 14 = .ok (.ladd, 1) := by decide +kernel
theorem d_rm_sum_15 : decode rm_sum.2.1 15 = .ok (.lconst 0, 1) := by decide +kernel
theorem d_rm_sum_16 : decode rm_sum.2.1 16 = .ok (.lcmp, 1) := by decide +kernel
theorem d_rm_sum_17 : decode rm_sum.2.1 17 = .ok (.ifCond .ge 9, 3) := by decide +kernel
theorem d_rm_sum_20 : decode rm_sum.2.1 20 = .ok (.ldc2_w 255, 3) := by decide +kernel
theorem d_rm_sum_23 : decode rm_sum.2.1 23 = .ok (.goto 6, 3) := by decide +kernel
theorem d_rm_sum_26 : decode rm_sum.2.1 26 = .ok (.lload_n 0, 1) := by decide +kernel
theorem d_rm_sum_27 : decode rm_sum.2.1 27 = .ok (.lload_n 2, 1) := by decide +kernel
theorem d_rm_sum_28 : decode rm_sum.2.1 28 = .ok (.ladd, 1) := by decide +kernel
theorem d_rm_sum_29 : decode rm_sum.2.1 29 = .ok (.lreturn, 1) := by decide +kernel
theorem d_rm_foretold_0 : decode rm_foretold.2.1 0 = .ok (.aload_n 0, 1) := by decide +kernel
theorem d_rm_foretold_1 : decode rm_foretold.2.1 1 = .ok (.iload_n 1, 1) := by decide +kernel
theorem d_rm_foretold_2 : decode rm_foretold.2.1 2 = .ok (.invokevirtual 241, 3) := by decide +kernel
theorem d_rm_foretold_5 : decode rm_foretold.2.1 5 = .ok (.ifCond .eq 30, 3) := by decide +kernel
theorem d_rm_foretold_8 : decode rm_foretold.2.1 8 = .ok (.aload_n 0, 1) := by decide +kernel
theorem d_rm_foretold_9 : decode rm_foretold.2.1 9 = .ok (.iload_n 2, 1) := by decide +kernel
theorem d_rm_foretold_10 : decode rm_foretold.2.1 10 = .ok (.invokevirtual 145, 3) := by decide +kernel
theorem d_rm_foretold_13 : decode rm_foretold.2.1 13 = .ok (.ifCond .eq 22, 3) := by decide +kernel
theorem d_rm_foretold_16 : decode rm_foretold.2.1 16 = .ok (.aload_n 0, 1) := by decide +kernel
theorem d_rm_foretold_17 : decode rm_foretold.2.1 17 = .ok (.iload 4, 2) := by decide +kernel
theorem d_rm_foretold_19 : decode rm_foretold.2.1 19 = .ok (.invokevirtual 145, 3) := by decide +kernel
theorem d_rm_foretold_22 : decode rm_foretold.2.1 22 = .ok (.ifCond .eq 13, 3) := by decide +kernel
theorem d_rm_foretold_25 : decode rm_foretold.2.1 25 = .ok (.iload_n 3, 1) := by decide +kernel
theorem d_rm_foretold_26 : decode rm_foretold.2.1 26 = .ok (.ifCond .lt 9, 3) := by decide +kernel
theorem d_rm_foretold_29 : decode rm_foretold.2.1 29 = .ok (.iload_n 3, 1) := by decide +kernel
theorem d_rm_foretold_30 : decode rm_foretold.2.1 30 = .ok (.bipush 60, 2) := by decide +kernel
theorem d_rm_foretold_32 : decode rm_foretold.2.1 32 = .ok (.if_icmp .le 7, 3) := by decide +kernel
theorem d_rm_foretold_35 : decode rm_foretold.2.1 35 = .ok (.ldc2_w 255, 3) := by decide +kernel
theorem d_rm_foretold_38 : decode rm_foretold.2.1 38 = .ok (.lreturn, 1) := by decide +kernel
theorem d_rm_foretold_39 : decode rm_foretold.2.1 39 = .ok (.iconst 0, 1) := by decide +kernel
theorem d_rm_foretold_40 : decode rm_foretold.2.1 40 = .ok (.istore 5, 2) := by decide +kernel
theorem d_rm_foretold_42 : decode rm_foretold.2.1 42 = .ok (.iload 5, 2) := by decide +kernel
theorem d_rm_foretold_44 : decode rm_foretold.2.1 44 = .ok (.aload_n 0, 1) := by decide +kernel
theorem d_rm_foretold_45 : decode rm_foretold.2.1 45 = .ok (.getfield 128, 3) := by decide +kernel
theorem d_rm_foretold_48 : decode rm_foretold.2.1 48 = .ok (.if_icmp .ge 27, 3) := by decide +kernel
theorem d_rm_foretold_51 : decode rm_foretold.2.1 51 = .ok (.aload_n 0, 1) := by decide +kernel
theorem d_rm_foretold_52 : decode rm_foretold.2.1 52 = .ok (.getfield 82, 3) := by decide +kernel
theorem d_rm_foretold_55 : decode rm_foretold.2.1 55 = .ok (.iload 5, 2) := by decide +kernel
theorem d_rm_foretold_57 : decode rm_foretold.2.1 57 = .ok (.iload 5, 2) := by decide +kernel
theorem d_rm_foretold_59 : decode rm_foretold.2.1 59 = .ok (.iload_n 2, 1) := by decide +kernel
theorem d_rm_foretold_60 : decode rm_foretold.2.1 60 = .ok (.if_icmp .ne 7, 3) := by decide +kernel
theorem d_rm_foretold_63 : decode rm_foretold.2.1 63 = .ok (.lconst 1, 1) := by decide +kernel
theorem d_rm_foretold_64 : decode rm_foretold.2.1 64 = .ok (.goto 4, 3) := by decide +kernel
theorem d_rm_foretold_67 : decode rm_foretold.2.1 67 = .ok (.lconst 0, 1) := by decide +kernel
theorem d_rm_foretold_68 : decode rm_foretold.2.1 68 = .ok (.lastore, 1) := by decide +kernel
theorem d_rm_foretold_69 : decode rm_foretold.2.1 69 = .ok (.iinc 5 1, 3) := by decide +kernel
theorem d_rm_foretold_72 : decode rm_foretold.2.1 72 = .ok (.goto (-30), 3) := by decide +kernel
theorem d_rm_foretold_75 : decode rm_foretold.2.1 75 = .ok (.iconst 0, 1) := by decide +kernel
theorem d_rm_foretold_76 : decode rm_foretold.2.1 76 = .ok (.istore 5, 2) := by decide +kernel
theorem d_rm_foretold_78 : decode rm_foretold.2.1 78 = .ok (.iload 5, 2) := by decide +kernel
theorem d_rm_foretold_80 : decode rm_foretold.2.1 80 = .ok (.iload_n 3, 1) := by decide +kernel
theorem d_rm_foretold_81 : decode rm_foretold.2.1 81 = .ok (.if_icmp .ge 172, 3) := by decide +kernel
theorem d_rm_foretold_84 : decode rm_foretold.2.1 84 = .ok (.iconst 0, 1) := by decide +kernel
theorem d_rm_foretold_85 : decode rm_foretold.2.1 85 = .ok (.istore 6, 2) := by decide +kernel
theorem d_rm_foretold_87 : decode rm_foretold.2.1 87 = .ok (.iload 6, 2) := by decide +kernel
theorem d_rm_foretold_89 : decode rm_foretold.2.1 89 = .ok (.aload_n 0, 1) := by decide +kernel
theorem d_rm_foretold_90 : decode rm_foretold.2.1 90 = .ok (.getfield 128, 3) := by decide +kernel
theorem d_rm_foretold_93 : decode rm_foretold.2.1 93 = .ok (.if_icmp .ge 17, 3) := by decide +kernel
theorem d_rm_foretold_96 : decode rm_foretold.2.1 96 = .ok (.aload_n 0, 1) := by decide +kernel
theorem d_rm_foretold_97 : decode rm_foretold.2.1 97 = .ok (.getfield 85, 3) := by decide +kernel
theorem d_rm_foretold_100 : decode rm_foretold.2.1 100 = .ok (.iload 6, 2) := by decide +kernel
theorem d_rm_foretold_102 : decode rm_foretold.2.1 102 = .ok (.lconst 0, 1) := by decide +kernel
theorem d_rm_foretold_103 : decode rm_foretold.2.1 103 = .ok (.lastore, 1) := by decide +kernel
theorem d_rm_foretold_104 : decode rm_foretold.2.1 104 = .ok (.iinc 6 1, 3) := by decide +kernel
theorem d_rm_foretold_107 : decode rm_foretold.2.1 107 = .ok (.goto (-20), 3) := by decide +kernel
theorem d_rm_foretold_110 : decode rm_foretold.2.1 110 = .ok (.iconst 0, 1) := by decide +kernel
theorem d_rm_foretold_111 : decode rm_foretold.2.1 111 = .ok (.istore 6, 2) := by decide +kernel
theorem d_rm_foretold_113 : decode rm_foretold.2.1 113 = .ok (.iload 6, 2) := by decide +kernel
theorem d_rm_foretold_115 : decode rm_foretold.2.1 115 = .ok (.aload_n 0, 1) := by decide +kernel
theorem d_rm_foretold_116 : decode rm_foretold.2.1 116 = .ok (.getfield 128, 3) := by decide +kernel
theorem d_rm_foretold_119 : decode rm_foretold.2.1 119 = .ok (.if_icmp .ge 96, 3) := by decide +kernel
theorem d_rm_foretold_122 : decode rm_foretold.2.1 122 = .ok (.aload_n 0, 1) := by decide +kernel
theorem d_rm_foretold_123 : decode rm_foretold.2.1 123 = .ok (.getfield 82, 3) := by decide +kernel
theorem d_rm_foretold_126 : decode rm_foretold.2.1 126 = .ok (.iload 6, 2) := by decide +kernel
theorem d_rm_foretold_128 : decode rm_foretold.2.1 128 = .ok (.laload, 1) := by decide +kernel
theorem d_rm_foretold_129 : decode rm_foretold.2.1 129 = .ok (.lconst 0, 1) := by decide +kernel
theorem d_rm_foretold_130 : decode rm_foretold.2.1 130 = .ok (.lcmp, 1) := by decide +kernel
theorem d_rm_foretold_131 : decode rm_foretold.2.1 131 = .ok (.ifCond .ne 6, 3) := by decide +kernel
theorem d_rm_foretold_134 : decode rm_foretold.2.1 134 = .ok (.goto 75, 3) := by decide +kernel
theorem d_rm_foretold_137 : decode rm_foretold.2.1 137 = .ok (.iconst 0, 1) := by decide +kernel
theorem d_rm_foretold_138 : decode rm_foretold.2.1 138 = .ok (.istore 7, 2) := by decide +kernel
theorem d_rm_foretold_140 : decode rm_foretold.2.1 140 = .ok (.iload 7, 2) := by decide +kernel
theorem d_rm_foretold_142 : decode rm_foretold.2.1 142 = .ok (.bipush 16, 2) := by decide +kernel
theorem d_rm_foretold_144 : decode rm_foretold.2.1 144 = .ok (.if_icmp .ge 65, 3) := by decide +kernel
theorem d_rm_foretold_147 : decode rm_foretold.2.1 147 = .ok (.aload_n 0, 1) := by decide +kernel
theorem d_rm_foretold_148 : decode rm_foretold.2.1 148 = .ok (.getfield 70, 3) := by decide +kernel
theorem d_rm_foretold_151 : decode rm_foretold.2.1 151 = .ok (.sipush 640, 3) := by decide +kernel
theorem d_rm_foretold_154 : decode rm_foretold.2.1 154 = .ok (.iload_n 1, 1) := by decide +kernel
theorem d_rm_foretold_155 : decode rm_foretold.2.1 155 = .ok (.imul, 1) := by decide +kernel
theorem d_rm_foretold_156 : decode rm_foretold.2.1 156 = .ok (.bipush 16, 2) := by decide +kernel
theorem d_rm_foretold_158 : decode rm_foretold.2.1 158 = .ok (.iload 6, 2) := by decide +kernel
theorem d_rm_foretold_160 : decode rm_foretold.2.1 160 = .ok (.imul, 1) := by decide +kernel
theorem d_rm_foretold_161 : decode rm_foretold.2.1 161 = .ok (.iadd, 1) := by decide +kernel
theorem d_rm_foretold_162 : decode rm_foretold.2.1 162 = .ok (.iload 7, 2) := by decide +kernel
theorem d_rm_foretold_164 : decode rm_foretold.2.1 164 = .ok (.iadd, 1) := by decide +kernel
theorem d_rm_foretold_165 : decode rm_foretold.2.1 165 = .ok (.iaload, 1) := by decide +kernel
theorem d_rm_foretold_166 : decode rm_foretold.2.1 166 = .ok (.istore 8, 2) := by decide +kernel
theorem d_rm_foretold_168 : decode rm_foretold.2.1 168 = .ok (.iload 8, 2) := by decide +kernel
theorem d_rm_foretold_170 : decode rm_foretold.2.1 170 = .ok (.ifCond .eq 33, 3) := by decide +kernel
theorem d_rm_foretold_173 : decode rm_foretold.2.1 173 = .ok (.aload_n 0, 1) := by decide +kernel
theorem d_rm_foretold_174 : decode rm_foretold.2.1 174 = .ok (.getfield 85, 3) := by decide +kernel
theorem d_rm_foretold_177 : decode rm_foretold.2.1 177 = .ok (.iload 8, 2) := by decide +kernel
theorem d_rm_foretold_179 : decode rm_foretold.2.1 179 = .ok (.invokestatic 156, 3) := by decide +kernel
theorem d_rm_foretold_182 : decode rm_foretold.2.1 182 = .ok (.aload_n 0, 1) := by decide +kernel
theorem d_rm_foretold_183 : decode rm_foretold.2.1 183 = .ok (.getfield 85, 3) := by decide +kernel
theorem d_rm_foretold_186 : decode rm_foretold.2.1 186 = .ok (.iload 8, 2) := by decide +kernel
theorem d_rm_foretold_188 : decode rm_foretold.2.1 188 = .ok (.invokestatic 156, 3) := by decide +kernel
theorem d_rm_foretold_191 : decode rm_foretold.2.1 191 = .ok (.laload, 1) := by decide +kernel
theorem d_rm_foretold_192 : decode rm_foretold.2.1 192 = .ok (.aload_n 0, 1) := by decide +kernel
theorem d_rm_foretold_193 : decode rm_foretold.2.1 193 = .ok (.getfield 82, 3) := by decide +kernel
theorem d_rm_foretold_196 : decode rm_foretold.2.1 196 = .ok (.iload 6, 2) := by decide +kernel
theorem d_rm_foretold_198 : decode rm_foretold.2.1 198 = .ok (.laload, 1) := by decide +kernel
theorem d_rm_foretold_199 : decode rm_foretold.2.1 199 = .ok (.invokestatic 257, 3) := by decide +kernel
theorem d_rm_foretold_202 : decode rm_foretold.2.1 202 = .ok (.lastore, 1) := by decide +kernel
theorem d_rm_foretold_203 : decode rm_foretold.2.1 203 = .ok (.iinc 7 1, 3) := by decide +kernel
theorem d_rm_foretold_206 : decode rm_foretold.2.1 206 = .ok (.goto (-66), 3) := by decide +kernel
theorem d_rm_foretold_209 : decode rm_foretold.2.1 209 = .ok (.iinc 6 1, 3) := by decide +kernel
theorem d_rm_foretold_212 : decode rm_foretold.2.1 212 = .ok (.goto (-99), 3) := by decide +kernel
theorem d_rm_foretold_215 : decode rm_foretold.2.1 215 = .ok (.iconst 0, 1) := by decide +kernel
theorem d_rm_foretold_216 : decode rm_foretold.2.1 216 = .ok (.istore 6, 2) := by decide +kernel
theorem d_rm_foretold_218 : decode rm_foretold.2.1 218 = .ok (.iload 6, 2) := by decide +kernel
theorem d_rm_foretold_220 : decode rm_foretold.2.1 220 = .ok (.aload_n 0, 1) := by decide +kernel
theorem d_rm_foretold_221 : decode rm_foretold.2.1 221 = .ok (.getfield 128, 3) := by decide +kernel
theorem d_rm_foretold_224 : decode rm_foretold.2.1 224 = .ok (.if_icmp .ge 23, 3) := by decide +kernel
theorem d_rm_foretold_227 : decode rm_foretold.2.1 227 = .ok (.aload_n 0, 1) := by decide +kernel
theorem d_rm_foretold_228 : decode rm_foretold.2.1 228 = .ok (.getfield 82, 3) := by decide +kernel
theorem d_rm_foretold_231 : decode rm_foretold.2.1 231 = .ok (.iload 6, 2) := by decide +kernel
theorem d_rm_foretold_233 : decode rm_foretold.2.1 233 = .ok (.aload_n 0, 1) := by decide +kernel
theorem d_rm_foretold_234 : decode rm_foretold.2.1 234 = .ok (.getfield 85, 3) := by decide +kernel
theorem d_rm_foretold_237 : decode rm_foretold.2.1 237 = .ok (.iload 6, 2) := by decide +kernel
theorem d_rm_foretold_239 : decode rm_foretold.2.1 239 = .ok (.laload, 1) := by decide +kernel
theorem d_rm_foretold_240 : decode rm_foretold.2.1 240 = .ok (.lastore, 1) := by decide +kernel
theorem d_rm_foretold_241 : decode rm_foretold.2.1 241 = .ok (.iinc 6 1, 3) := by decide +kernel
theorem d_rm_foretold_244 : decode rm_foretold.2.1 244 = .ok (.goto (-26), 3) := by decide +kernel
theorem d_rm_foretold_247 : decode rm_foretold.2.1 247 = .ok (.iinc 5 1, 3) := by decide +kernel
theorem d_rm_foretold_250 : decode rm_foretold.2.1 250 = .ok (.goto (-172), 3) := by decide +kernel
theorem d_rm_foretold_253 : decode rm_foretold.2.1 253 = .ok (.aload_n 0, 1) := by decide +kernel
theorem d_rm_foretold_254 : decode rm_foretold.2.1 254 = .ok (.getfield 82, 3) := by decide +kernel
theorem d_rm_foretold_257 : decode rm_foretold.2.1 257 = .ok (.iload 4, 2) := by decide +kernel
theorem d_rm_foretold_259 : decode rm_foretold.2.1 259 = .ok (.laload, 1) := by decide +kernel
theorem d_rm_foretold_260 : decode rm_foretold.2.1 260 = .ok (.lconst 0, 1) := by decide +kernel
theorem d_rm_foretold_261 : decode rm_foretold.2.1 261 = .ok (.lcmp, 1) := by decide +kernel
theorem d_rm_foretold_262 : decode rm_foretold.2.1 262 = .ok (.ifCond .ge 9, 3) := by decide +kernel
theorem d_rm_foretold_265 : decode rm_foretold.2.1 265 = .ok (.ldc2_w 261, 3) := by decide +kernel
theorem d_rm_foretold_268 : decode rm_foretold.2.1 268 = .ok (.goto 10, 3) := by decide +kernel
theorem d_rm_foretold_271 : decode rm_foretold.2.1 271 = .ok (.aload_n 0, 1) := by decide +kernel
theorem d_rm_foretold_272 : decode rm_foretold.2.1 272 = .ok (.getfield 82, 3) := by decide +kernel
theorem d_rm_foretold_275 : decode rm_foretold.2.1 275 = .ok (.iload 4, 2) := by decide +kernel
theorem d_rm_foretold_277 : decode rm_foretold.2.1 277 = .ok (.laload, 1) := by decide +kernel
theorem d_rm_foretold_278 : decode rm_foretold.2.1 278 = .ok (.lreturn, 1) := by decide +kernel
theorem d_rm_count_0 : decode rm_count.2.1 0 = .ok (.aload_n 0, 1) := by decide +kernel
theorem d_rm_count_1 : decode rm_count.2.1 1 = .ok (.iload_n 1, 1) := by decide +kernel
theorem d_rm_count_2 : decode rm_count.2.1 2 = .ok (.invokevirtual 187, 3) := by decide +kernel
theorem d_rm_count_5 : decode rm_count.2.1 5 = .ok (.ifCond .eq 16, 3) := by decide +kernel
theorem d_rm_count_8 : decode rm_count.2.1 8 = .ok (.iload_n 2, 1) := by decide +kernel
theorem d_rm_count_9 : decode rm_count.2.1 9 = .ok (.iconst (-1), 1) := by decide +kernel
theorem d_rm_count_10 : decode rm_count.2.1 10 = .ok (.if_icmp .eq 13, 3) := by decide +kernel
theorem d_rm_count_13 : decode rm_count.2.1 13 = .ok (.aload_n 0, 1) := by decide +kernel
theorem d_rm_count_14 : decode rm_count.2.1 14 = .ok (.iload_n 2, 1) := by decide +kernel
theorem d_rm_count_15 : decode rm_count.2.1 15 = .ok (.invokevirtual 145, 3) := by decide +kernel
theorem d_rm_count_18 : decode rm_count.2.1 18 = .ok (.ifCond .ne 5, 3) := by decide +kernel
theorem d_rm_count_21 : decode rm_count.2.1 21 = .ok (.iconst (-1), 1) := by decide +kernel
theorem d_rm_count_22 : decode rm_count.2.1 22 = .ok (.ireturn, 1) := by decide +kernel
theorem d_rm_count_23 : decode rm_count.2.1 23 = .ok (.iconst 0, 1) := by decide +kernel
theorem d_rm_count_24 : decode rm_count.2.1 24 = .ok (.istore_n 3, 1) := by decide +kernel
theorem d_rm_count_25 : decode rm_count.2.1 25 = .ok (.iconst 0, 1) := by decide +kernel
theorem d_rm_count_26 : decode rm_count.2.1 26 = .ok (.istore 4, 2) := by decide +kernel
theorem d_rm_count_28 : decode rm_count.2.1 28 = .ok (.iload 4, 2) := by decide +kernel
theorem d_rm_count_30 : decode rm_count.2.1 30 = .ok (.aload_n 0, 1) := by decide +kernel
theorem d_rm_count_31 : decode rm_count.2.1 31 = .ok (.getfield 40, 3) := by decide +kernel
theorem d_rm_count_34 : decode rm_count.2.1 34 = .ok (.iload_n 1, 1) := by decide +kernel
theorem d_rm_count_35 : decode rm_count.2.1 35 = .ok (.iaload, 1) := by decide +kernel
theorem d_rm_count_36 : decode rm_count.2.1 36 = .ok (.if_icmp .ge 89, 3) := by decide +kernel
theorem d_rm_count_39 : decode rm_count.2.1 39 = .ok (.aload_n 0, 1) := by decide +kernel
theorem d_rm_count_40 : decode rm_count.2.1 40 = .ok (.iload_n 1, 1) := by decide +kernel
theorem d_rm_count_41 : decode rm_count.2.1 41 = .ok (.iload 4, 2) := by decide +kernel
theorem d_rm_count_43 : decode rm_count.2.1 43 = .ok (.invokevirtual 175, 3) := by decide +kernel
theorem d_rm_count_46 : decode rm_count.2.1 46 = .ok (.istore 5, 2) := by decide +kernel
theorem d_rm_count_48 : decode rm_count.2.1 48 = .ok (.iconst 0, 1) := by decide +kernel
theorem d_rm_count_49 : decode rm_count.2.1 49 = .ok (.istore 6, 2) := by decide +kernel
theorem d_rm_count_51 : decode rm_count.2.1 51 = .ok (.iload 6, 2) := by decide +kernel
theorem d_rm_count_53 : decode rm_count.2.1 53 = .ok (.aload_n 0, 1) := by decide +kernel
theorem d_rm_count_54 : decode rm_count.2.1 54 = .ok (.getfield 27, 3) := by decide +kernel
theorem d_rm_count_57 : decode rm_count.2.1 57 = .ok (.iload 5, 2) := by decide +kernel
theorem d_rm_count_59 : decode rm_count.2.1 59 = .ok (.iaload, 1) := by decide +kernel
theorem d_rm_count_60 : decode rm_count.2.1 60 = .ok (.if_icmp .ge 59, 3) := by decide +kernel
theorem d_rm_count_63 : decode rm_count.2.1 63 = .ok (.aload_n 0, 1) := by decide +kernel
theorem d_rm_count_64 : decode rm_count.2.1 64 = .ok (.getfield 34, 3) := by decide +kernel
theorem d_rm_count_67 : decode rm_count.2.1 67 = .ok (.bipush 60, 2) := by decide +kernel
theorem d_rm_count_69 : decode rm_count.2.1 69 = .ok (.iload 5, 2) := by decide +kernel
theorem d_rm_count_71 : decode rm_count.2.1 71 = .ok (.imul, 1) := by decide +kernel
theorem d_rm_count_72 : decode rm_count.2.1 72 = .ok (.iload 6, 2) := by decide +kernel
theorem d_rm_count_74 : decode rm_count.2.1 74 = .ok (.iadd, 1) := by decide +kernel
theorem d_rm_count_75 : decode rm_count.2.1 75 = .ok (.iaload, 1) := by decide +kernel
theorem d_rm_count_76 : decode rm_count.2.1 76 = .ok (.istore 7, 2) := by decide +kernel
theorem d_rm_count_78 : decode rm_count.2.1 78 = .ok (.iload_n 3, 1) := by decide +kernel
theorem d_rm_count_79 : decode rm_count.2.1 79 = .ok (.iload 7, 2) := by decide +kernel
theorem d_rm_count_81 : decode rm_count.2.1 81 = .ok (.ifCond .ne 16, 3) := by decide +kernel
theorem d_rm_count_84 : decode rm_count.2.1 84 = .ok (.iload_n 2, 1) := by decide +kernel
theorem d_rm_count_85 : decode rm_count.2.1 85 = .ok (.iconst (-1), 1) := by decide +kernel
theorem d_rm_count_86 : decode rm_count.2.1 86 = .ok (.if_icmp .ne 7, 3) := by decide +kernel
theorem d_rm_count_89 : decode rm_count.2.1 89 = .ok (.iconst 1, 1) := by decide +kernel
theorem d_rm_count_90 : decode rm_count.2.1 90 = .ok (.goto 21, 3) := by decide +kernel
theorem d_rm_count_93 : decode rm_count.2.1 93 = .ok (.iconst 0, 1) := by decide +kernel
theorem d_rm_count_94 : decode rm_count.2.1 94 = .ok (.goto 17, 3) := by decide +kernel
theorem d_rm_count_97 : decode rm_count.2.1 97 = .ok (.iload 7, 2) := by decide +kernel
theorem d_rm_count_99 : decode rm_count.2.1 99 = .ok (.invokestatic 156, 3) := by decide +kernel
theorem d_rm_count_102 : decode rm_count.2.1 102 = .ok (.iload_n 2, 1) := by decide +kernel
theorem d_rm_count_103 : decode rm_count.2.1 103 = .ok (.if_icmp .ne 7, 3) := by decide +kernel
theorem d_rm_count_106 : decode rm_count.2.1 106 = .ok (.iconst 1, 1) := by decide +kernel
theorem d_rm_count_107 : decode rm_count.2.1 107 = .ok (.goto 4, 3) := by decide +kernel
theorem d_rm_count_110 : decode rm_count.2.1 110 = .ok (.iconst 0, 1) := by decide +kernel
theorem d_rm_count_111 : decode rm_count.2.1 111 = .ok (.iadd, 1) := by decide +kernel
theorem d_rm_count_112 : decode rm_count.2.1 112 = .ok (.istore_n 3, 1) := by decide +kernel
theorem d_rm_count_113 : decode rm_count.2.1 113 = .ok (.iinc 6 1, 3) := by decide +kernel
theorem d_rm_count_116 : decode rm_count.2.1 116 = .ok (.goto (-65), 3) := by decide +kernel
theorem d_rm_count_119 : decode rm_count.2.1 119 = .ok (.iinc 4 1, 3) := by decide +kernel
theorem d_rm_count_122 : decode rm_count.2.1 122 = .ok (.goto (-94), 3) := by decide +kernel
theorem d_rm_count_125 : decode rm_count.2.1 125 = .ok (.iload_n 3, 1) := by decide +kernel
theorem d_rm_count_126 : decode rm_count.2.1 126 = .ok (.ireturn, 1) := by decide +kernel
theorem d_rm_fits_0 : decode rm_fits.2.1 0 = .ok (.aload_n 0, 1) := by decide +kernel
theorem d_rm_fits_1 : decode rm_fits.2.1 1 = .ok (.iload_n 1, 1) := by decide +kernel
theorem d_rm_fits_2 : decode rm_fits.2.1 2 = .ok (.invokevirtual 187, 3) := by decide +kernel
theorem d_rm_fits_5 : decode rm_fits.2.1 5 = .ok (.ifCond .ne 5, 3) := by decide +kernel
theorem d_rm_fits_8 : decode rm_fits.2.1 8 = .ok (.iconst (-1), 1) := by decide +kernel
theorem d_rm_fits_9 : decode rm_fits.2.1 9 = .ok (.ireturn, 1) := by decide +kernel
theorem d_rm_fits_10 : decode rm_fits.2.1 10 = .ok (.iconst 0, 1) := by decide +kernel
theorem d_rm_fits_11 : decode rm_fits.2.1 11 = .ok (.istore_n 2, 1) := by decide +kernel
theorem d_rm_fits_12 : decode rm_fits.2.1 12 = .ok (.iconst 0, 1) := by decide +kernel
theorem d_rm_fits_13 : decode rm_fits.2.1 13 = .ok (.istore_n 3, 1) := by decide +kernel
theorem d_rm_fits_14 : decode rm_fits.2.1 14 = .ok (.iload_n 3, 1) := by decide +kernel
theorem d_rm_fits_15 : decode rm_fits.2.1 15 = .ok (.aload_n 0, 1) := by decide +kernel
theorem d_rm_fits_16 : decode rm_fits.2.1 16 = .ok (.getfield 40, 3) := by decide +kernel
theorem d_rm_fits_19 : decode rm_fits.2.1 19 = .ok (.iload_n 1, 1) := by decide +kernel
theorem d_rm_fits_20 : decode rm_fits.2.1 20 = .ok (.iaload, 1) := by decide +kernel
theorem d_rm_fits_21 : decode rm_fits.2.1 21 = .ok (.if_icmp .ge 179, 3) := by decide +kernel
theorem d_rm_fits_24 : decode rm_fits.2.1 24 = .ok (.aload_n 0, 1) := by decide +kernel
theorem d_rm_fits_25 : decode rm_fits.2.1 25 = .ok (.iload_n 1, 1) := by decide +kernel
theorem d_rm_fits_26 : decode rm_fits.2.1 26 = .ok (.iload_n 3, 1) := by decide +kernel
theorem d_rm_fits_27 : decode rm_fits.2.1 27 = .ok (.invokevirtual 175, 3) := by decide +kernel
theorem d_rm_fits_30 : decode rm_fits.2.1 30 = .ok (.istore 4, 2) := by decide +kernel
theorem d_rm_fits_32 : decode rm_fits.2.1 32 = .ok (.iconst 0, 1) := by decide +kernel
theorem d_rm_fits_33 : decode rm_fits.2.1 33 = .ok (.istore 5, 2) := by decide +kernel
theorem d_rm_fits_35 : decode rm_fits.2.1 35 = .ok (.iload 5, 2) := by decide +kernel
theorem d_rm_fits_37 : decode rm_fits.2.1 37 = .ok (.aload_n 0, 1) := by decide +kernel
theorem d_rm_fits_38 : decode rm_fits.2.1 38 = .ok (.getfield 27, 3) := by decide +kernel
theorem d_rm_fits_41 : decode rm_fits.2.1 41 = .ok (.iload 4, 2) := by decide +kernel
theorem d_rm_fits_43 : decode rm_fits.2.1 43 = .ok (.iaload, 1) := by decide +kernel
theorem d_rm_fits_44 : decode rm_fits.2.1 44 = .ok (.if_icmp .ge 150, 3) := by decide +kernel
theorem d_rm_fits_47 : decode rm_fits.2.1 47 = .ok (.aload_n 0, 1) := by decide +kernel
theorem d_rm_fits_48 : decode rm_fits.2.1 48 = .ok (.getfield 30, 3) := by decide +kernel
theorem d_rm_fits_51 : decode rm_fits.2.1 51 = .ok (.iload 4, 2) := by decide +kernel
theorem d_rm_fits_53 : decode rm_fits.2.1 53 = .ok (.iaload, 1) := by decide +kernel
theorem d_rm_fits_54 : decode rm_fits.2.1 54 = .ok (.iload 5, 2) := by decide +kernel
theorem d_rm_fits_56 : decode rm_fits.2.1 56 = .ok (.iadd, 1) := by decide +kernel
theorem d_rm_fits_57 : decode rm_fits.2.1 57 = .ok (.istore 6, 2) := by decide +kernel
theorem d_rm_fits_59 : decode rm_fits.2.1 59 = .ok (.aload_n 0, 1) := by decide +kernel
theorem d_rm_fits_60 : decode rm_fits.2.1 60 = .ok (.getfield 34, 3) := by decide +kernel
theorem d_rm_fits_63 : decode rm_fits.2.1 63 = .ok (.bipush 60, 2) := by decide +kernel
theorem d_rm_fits_65 : decode rm_fits.2.1 65 = .ok (.iload 4, 2) := by decide +kernel
theorem d_rm_fits_67 : decode rm_fits.2.1 67 = .ok (.imul, 1) := by decide +kernel
theorem d_rm_fits_68 : decode rm_fits.2.1 68 = .ok (.iload 5, 2) := by decide +kernel
theorem d_rm_fits_70 : decode rm_fits.2.1 70 = .ok (.iadd, 1) := by decide +kernel
theorem d_rm_fits_71 : decode rm_fits.2.1 71 = .ok (.iaload, 1) := by decide +kernel
theorem d_rm_fits_72 : decode rm_fits.2.1 72 = .ok (.istore 7, 2) := by decide +kernel
theorem d_rm_fits_74 : decode rm_fits.2.1 74 = .ok (.aload_n 0, 1) := by decide +kernel
theorem d_rm_fits_75 : decode rm_fits.2.1 75 = .ok (.iload_n 1, 1) := by decide +kernel
theorem d_rm_fits_76 : decode rm_fits.2.1 76 = .ok (.iload_n 3, 1) := by decide +kernel
theorem d_rm_fits_77 : decode rm_fits.2.1 77 = .ok (.i2l, 1) := by decide +kernel
theorem d_rm_fits_78 : decode rm_fits.2.1 78 = .ok (.iload 6, 2) := by decide +kernel
theorem d_rm_fits_80 : decode rm_fits.2.1 80 = .ok (.iconst 1, 1) := by decide +kernel
theorem d_rm_fits_81 : decode rm_fits.2.1 81 = .ok (.iadd, 1) := by decide +kernel
theorem d_rm_fits_82 : decode rm_fits.2.1 82 = .ok (.i2l, 1) := by decide +kernel
theorem d_rm_fits_83 : decode rm_fits.2.1 83 = .ok (.invokevirtual 204, 3) := by decide +kernel
theorem d_rm_fits_86 : decode rm_fits.2.1 86 = .ok (.ifCond .eq 23, 3) := by decide +kernel
theorem d_rm_fits_89 : decode rm_fits.2.1 89 = .ok (.aload_n 0, 1) := by decide +kernel
theorem d_rm_fits_90 : decode rm_fits.2.1 90 = .ok (.iload 7, 2) := by decide +kernel
theorem d_rm_fits_92 : decode rm_fits.2.1 92 = .ok (.aload_n 0, 1) := by decide +kernel
theorem d_rm_fits_93 : decode rm_fits.2.1 93 = .ok (.iload_n 1, 1) := by decide +kernel
theorem d_rm_fits_94 : decode rm_fits.2.1 94 = .ok (.iload_n 3, 1) := by decide +kernel
theorem d_rm_fits_95 : decode rm_fits.2.1 95 = .ok (.iload 6, 2) := by decide +kernel
theorem d_rm_fits_97 : decode rm_fits.2.1 97 = .ok (.iconst 1, 1) := by decide +kernel
theorem d_rm_fits_98 : decode rm_fits.2.1 98 = .ok (.iadd, 1) := by decide +kernel
theorem d_rm_fits_99 : decode rm_fits.2.1 99 = .ok (.invokevirtual 212, 3) := by decide +kernel
theorem d_rm_fits_102 : decode rm_fits.2.1 102 = .ok (.iconst 1, 1) := by decide +kernel
theorem d_rm_fits_103 : decode rm_fits.2.1 103 = .ok (.invokevirtual 263, 3) := by decide +kernel
theorem d_rm_fits_106 : decode rm_fits.2.1 106 = .ok (.ifCond .eq 7, 3) := by decide +kernel
theorem d_rm_fits_109 : decode rm_fits.2.1 109 = .ok (.iconst 1, 1) := by decide +kernel
theorem d_rm_fits_110 : decode rm_fits.2.1 110 = .ok (.goto 4, 3) := by decide +kernel
theorem d_rm_fits_113 : decode rm_fits.2.1 113 = .ok (.iconst 0, 1) := by decide +kernel
theorem d_rm_fits_114 : decode rm_fits.2.1 114 = .ok (.istore 8, 2) := by decide +kernel
theorem d_rm_fits_116 : decode rm_fits.2.1 116 = .ok (.aload_n 0, 1) := by decide +kernel
theorem d_rm_fits_117 : decode rm_fits.2.1 117 = .ok (.iload_n 1, 1) := by decide +kernel
theorem d_rm_fits_118 : decode rm_fits.2.1 118 = .ok (.iload_n 3, 1) := by decide +kernel
theorem d_rm_fits_119 : decode rm_fits.2.1 119 = .ok (.iconst 1, 1) := by decide +kernel
theorem d_rm_fits_120 : decode rm_fits.2.1 120 = .ok (.iadd, 1) := by decide +kernel
theorem d_rm_fits_121 : decode rm_fits.2.1 121 = .ok (.i2l, 1) := by decide +kernel
theorem d_rm_fits_122 : decode rm_fits.2.1 122 = .ok (.iload 6, 2) := by decide +kernel
theorem d_rm_fits_124 : decode rm_fits.2.1 124 = .ok (.i2l, 1) := by decide +kernel
theorem d_rm_fits_125 : decode rm_fits.2.1 125 = .ok (.invokevirtual 204, 3) := by decide +kernel
theorem d_rm_fits_128 : decode rm_fits.2.1 128 = .ok (.ifCond .eq 23, 3) := by decide +kernel
theorem d_rm_fits_131 : decode rm_fits.2.1 131 = .ok (.aload_n 0, 1) := by decide +kernel
theorem d_rm_fits_132 : decode rm_fits.2.1 132 = .ok (.iload 7, 2) := by decide +kernel
theorem d_rm_fits_134 : decode rm_fits.2.1 134 = .ok (.aload_n 0, 1) := by decide +kernel
theorem d_rm_fits_135 : decode rm_fits.2.1 135 = .ok (.iload_n 1, 1) := by decide +kernel
theorem d_rm_fits_136 : decode rm_fits.2.1 136 = .ok (.iload_n 3, 1) := by decide +kernel
theorem d_rm_fits_137 : decode rm_fits.2.1 137 = .ok (.iconst 1, 1) := by decide +kernel
theorem d_rm_fits_138 : decode rm_fits.2.1 138 = .ok (.iadd, 1) := by decide +kernel
theorem d_rm_fits_139 : decode rm_fits.2.1 139 = .ok (.iload 6, 2) := by decide +kernel
theorem d_rm_fits_141 : decode rm_fits.2.1 141 = .ok (.invokevirtual 212, 3) := by decide +kernel
theorem d_rm_fits_144 : decode rm_fits.2.1 144 = .ok (.iconst 2, 1) := by decide +kernel
theorem d_rm_fits_145 : decode rm_fits.2.1 145 = .ok (.invokevirtual 263, 3) := by decide +kernel
theorem d_rm_fits_148 : decode rm_fits.2.1 148 = .ok (.ifCond .eq 7, 3) := by decide +kernel
theorem d_rm_fits_151 : decode rm_fits.2.1 151 = .ok (.iconst 1, 1) := by decide +kernel
theorem d_rm_fits_152 : decode rm_fits.2.1 152 = .ok (.goto 4, 3) := by decide +kernel
theorem d_rm_fits_155 : decode rm_fits.2.1 155 = .ok (.iconst 0, 1) := by decide +kernel
theorem d_rm_fits_156 : decode rm_fits.2.1 156 = .ok (.istore 9, 2) := by decide +kernel
theorem d_rm_fits_158 : decode rm_fits.2.1 158 = .ok (.iload 8, 2) := by decide +kernel
theorem d_rm_fits_160 : decode rm_fits.2.1 160 = .ok (.ifCond .eq 8, 3) := by decide +kernel
theorem d_rm_fits_163 : decode rm_fits.2.1 163 = .ok (.iload 9, 2) := by decide +kernel
theorem d_rm_fits_165 : decode rm_fits.2.1 165 = .ok (.ifCond .ne 20, 3) := by decide +kernel
theorem d_rm_fits_168 : decode rm_fits.2.1 168 = .ok (.iconst 1, 1) := by decide +kernel
theorem d_rm_fits_169 : decode rm_fits.2.1 169 = .ok (.iconst 2, 1) := by decide +kernel
theorem d_rm_fits_170 : decode rm_fits.2.1 170 = .ok (.iload_n 2, 1) := by decide +kernel
theorem d_rm_fits_171 : decode rm_fits.2.1 171 = .ok (.imul, 1) := by decide +kernel
theorem d_rm_fits_172 : decode rm_fits.2.1 172 = .ok (.iadd, 1) := by decide +kernel
theorem d_rm_fits_173 : decode rm_fits.2.1 173 = .ok (.iload 8, 2) := by decide +kernel
theorem d_rm_fits_175 : decode rm_fits.2.1 175 = .ok (.ifCond .eq 7, 3) := by decide +kernel
theorem d_rm_fits_178 : decode rm_fits.2.1 178 = .ok (.iconst 1, 1) := by decide +kernel
theorem d_rm_fits_179 : decode rm_fits.2.1 179 = .ok (.goto 4, 3) := by decide +kernel
theorem d_rm_fits_182 : decode rm_fits.2.1 182 = .ok (.iconst 0, 1) := by decide +kernel
theorem d_rm_fits_183 : decode rm_fits.2.1 183 = .ok (.iadd, 1) := by decide +kernel
theorem d_rm_fits_184 : decode rm_fits.2.1 184 = .ok (.ireturn, 1) := by decide +kernel
theorem d_rm_fits_185 : decode rm_fits.2.1 185 = .ok (.iinc 2 1, 3) := by decide +kernel
theorem d_rm_fits_188 : decode rm_fits.2.1 188 = .ok (.iinc 5 1, 3) := by decide +kernel
theorem d_rm_fits_191 : decode rm_fits.2.1 191 = .ok (.goto (-156), 3) := by decide +kernel
theorem d_rm_fits_194 : decode rm_fits.2.1 194 = .ok (.iinc 3 1, 3) := by decide +kernel
theorem d_rm_fits_197 : decode rm_fits.2.1 197 = .ok (.goto (-183), 3) := by decide +kernel
theorem d_rm_fits_200 : decode rm_fits.2.1 200 = .ok (.iconst 0, 1) := by decide +kernel
theorem d_rm_fits_201 : decode rm_fits.2.1 201 = .ok (.ireturn, 1) := by decide +kernel
theorem d_rm_period_0 : decode rm_period.2.1 0 = .ok (.aload_n 0, 1) := by decide +kernel
theorem d_rm_period_1 : decode rm_period.2.1 1 = .ok (.iload_n 1, 1) := by decide +kernel
theorem d_rm_period_2 : decode rm_period.2.1 2 = .ok (.invokevirtual 187, 3) := by decide +kernel
theorem d_rm_period_5 : decode rm_period.2.1 5 = .ok (.ifCond .eq 12, 3) := by decide +kernel
theorem d_rm_period_8 : decode rm_period.2.1 8 = .ok (.iload_n 2, 1) := by decide +kernel
theorem d_rm_period_9 : decode rm_period.2.1 9 = .ok (.ifCond .lt 8, 3) := by decide +kernel
theorem d_rm_period_12 : decode rm_period.2.1 12 = .ok (.iload_n 2, 1) := by decide +kernel
theorem d_rm_period_13 : decode rm_period.2.1 13 = .ok (.iconst 1, 1) := by decide +kernel
theorem d_rm_period_14 : decode rm_period.2.1 14 = .ok (.if_icmp .le 5, 3) := by decide +kernel
theorem d_rm_period_17 : decode rm_period.2.1 17 = .ok (.iconst (-1), 1) := by decide +kernel
theorem d_rm_period_18 : decode rm_period.2.1 18 = .ok (.ireturn, 1) := by decide +kernel
theorem d_rm_period_19 : decode rm_period.2.1 19 = .ok (.iconst 1, 1) := by decide +kernel
theorem d_rm_period_20 : decode rm_period.2.1 20 = .ok (.istore_n 3, 1) := by decide +kernel
theorem d_rm_period_21 : decode rm_period.2.1 21 = .ok (.aload_n 0, 1) := by decide +kernel
theorem d_rm_period_22 : decode rm_period.2.1 22 = .ok (.iload_n 1, 1) := by decide +kernel
theorem d_rm_period_23 : decode rm_period.2.1 23 = .ok (.iload_n 2, 1) := by decide +kernel
theorem d_rm_period_24 : decode rm_period.2.1 24 = .ok (.ifCond .ne 7, 3) := by decide +kernel
theorem d_rm_period_27 : decode rm_period.2.1 27 = .ok (.iload_n 3, 1) := by decide +kernel
theorem d_rm_period_28 : decode rm_period.2.1 28 = .ok (.goto 4, 3) := by decide +kernel
theorem d_rm_period_31 : decode rm_period.2.1 31 = .ok (.iconst 0, 1) := by decide +kernel
theorem d_rm_period_32 : decode rm_period.2.1 32 = .ok (.iload_n 2, 1) := by decide +kernel
theorem d_rm_period_33 : decode rm_period.2.1 33 = .ok (.ifCond .ne 7, 3) := by decide +kernel
theorem d_rm_period_36 : decode rm_period.2.1 36 = .ok (.iconst 0, 1) := by decide +kernel
theorem d_rm_period_37 : decode rm_period.2.1 37 = .ok (.goto 4, 3) := by decide +kernel
theorem d_rm_period_40 : decode rm_period.2.1 40 = .ok (.iload_n 3, 1) := by decide +kernel
theorem d_rm_period_41 : decode rm_period.2.1 41 = .ok (.invokevirtual 266, 3) := by decide +kernel
theorem d_rm_period_44 : decode rm_period.2.1 44 = .ok (.ifCond .ne 9, 3) := by decide +kernel
theorem d_rm_period_47 : decode rm_period.2.1 47 = .ok (.iinc 3 1, 3) := by decide +kernel
theorem d_rm_period_50 : decode rm_period.2.1 50 = .ok (.goto (-29), 3) := by decide +kernel
theorem d_rm_period_53 : decode rm_period.2.1 53 = .ok (.iload_n 3, 1) := by decide +kernel
theorem d_rm_period_54 : decode rm_period.2.1 54 = .ok (.ireturn, 1) := by decide +kernel
theorem d_rm_comesAgain_0 : decode rm_comesAgain.2.1 0 = .ok (.iconst 0, 1) := by decide +kernel
theorem d_rm_comesAgain_1 : decode rm_comesAgain.2.1 1 = .ok (.istore 4, 2) := by decide +kernel
theorem d_rm_comesAgain_3 : decode rm_comesAgain.2.1 3 = .ok (.iload 4, 2) := by decide +kernel
theorem d_rm_comesAgain_5 : decode rm_comesAgain.2.1 5 = .ok (.aload_n 0, 1) := by decide +kernel
theorem d_rm_comesAgain_6 : decode rm_comesAgain.2.1 6 = .ok (.getfield 40, 3) := by decide +kernel
theorem d_rm_comesAgain_9 : decode rm_comesAgain.2.1 9 = .ok (.iload_n 1, 1) := by decide +kernel
theorem d_rm_comesAgain_10 : decode rm_comesAgain.2.1 10 = .ok (.iaload, 1) := by decide +kernel
theorem d_rm_comesAgain_11 : decode rm_comesAgain.2.1 11 = .ok (.if_icmp .ge 100, 3) := by decide +kernel
theorem d_rm_comesAgain_14 : decode rm_comesAgain.2.1 14 = .ok (.aload_n 0, 1) := by decide +kernel
theorem d_rm_comesAgain_15 : decode rm_comesAgain.2.1 15 = .ok (.iload_n 1, 1) := by decide +kernel
theorem d_rm_comesAgain_16 : decode rm_comesAgain.2.1 16 = .ok (.iload 4, 2) := by decide +kernel
theorem d_rm_comesAgain_18 : decode rm_comesAgain.2.1 18 = .ok (.invokevirtual 175, 3) := by decide +kernel
theorem d_rm_comesAgain_21 : decode rm_comesAgain.2.1 21 = .ok (.istore 5, 2) := by decide +kernel
theorem d_rm_comesAgain_23 : decode rm_comesAgain.2.1 23 = .ok (.iconst 0, 1) := by decide +kernel
theorem d_rm_comesAgain_24 : decode rm_comesAgain.2.1 24 = .ok (.istore 6, 2) := by decide +kernel
theorem d_rm_comesAgain_26 : decode rm_comesAgain.2.1 26 = .ok (.iload 6, 2) := by decide +kernel
theorem d_rm_comesAgain_28 : decode rm_comesAgain.2.1 28 = .ok (.aload_n 0, 1) := by decide +kernel
theorem d_rm_comesAgain_29 : decode rm_comesAgain.2.1 29 = .ok (.getfield 27, 3) := by decide +kernel
theorem d_rm_comesAgain_32 : decode rm_comesAgain.2.1 32 = .ok (.iload 5, 2) := by decide +kernel
theorem d_rm_comesAgain_34 : decode rm_comesAgain.2.1 34 = .ok (.iaload, 1) := by decide +kernel
theorem d_rm_comesAgain_35 : decode rm_comesAgain.2.1 35 = .ok (.if_icmp .ge 70, 3) := by decide +kernel
theorem d_rm_comesAgain_38 : decode rm_comesAgain.2.1 38 = .ok (.aload_n 0, 1) := by decide +kernel
theorem d_rm_comesAgain_39 : decode rm_comesAgain.2.1 39 = .ok (.getfield 30, 3) := by decide +kernel
theorem d_rm_comesAgain_42 : decode rm_comesAgain.2.1 42 = .ok (.iload 5, 2) := by decide +kernel
theorem d_rm_comesAgain_44 : decode rm_comesAgain.2.1 44 = .ok (.iaload, 1) := by decide +kernel
theorem d_rm_comesAgain_45 : decode rm_comesAgain.2.1 45 = .ok (.iload 6, 2) := by decide +kernel
theorem d_rm_comesAgain_47 : decode rm_comesAgain.2.1 47 = .ok (.iadd, 1) := by decide +kernel
theorem d_rm_comesAgain_48 : decode rm_comesAgain.2.1 48 = .ok (.istore 7, 2) := by decide +kernel
theorem d_rm_comesAgain_50 : decode rm_comesAgain.2.1 50 = .ok (.aload_n 0, 1) := by decide +kernel
theorem d_rm_comesAgain_51 : decode rm_comesAgain.2.1 51 = .ok (.iload_n 1, 1) := by decide +kernel
theorem d_rm_comesAgain_52 : decode rm_comesAgain.2.1 52 = .ok (.iload 4, 2) := by decide +kernel
theorem d_rm_comesAgain_54 : decode rm_comesAgain.2.1 54 = .ok (.iload_n 2, 1) := by decide +kernel
theorem d_rm_comesAgain_55 : decode rm_comesAgain.2.1 55 = .ok (.iadd, 1) := by decide +kernel
theorem d_rm_comesAgain_56 : decode rm_comesAgain.2.1 56 = .ok (.i2l, 1) := by decide +kernel
theorem d_rm_comesAgain_57 : decode rm_comesAgain.2.1 57 = .ok (.iload 7, 2) := by decide +kernel
theorem d_rm_comesAgain_59 : decode rm_comesAgain.2.1 59 = .ok (.iload_n 3, 1) := by decide +kernel
theorem d_rm_comesAgain_60 : decode rm_comesAgain.2.1 60 = .ok (.iadd, 1) := by decide +kernel
theorem d_rm_comesAgain_61 : decode rm_comesAgain.2.1 61 = .ok (.i2l, 1) := by decide +kernel
theorem d_rm_comesAgain_62 : decode rm_comesAgain.2.1 62 = .ok (.invokevirtual 204, 3) := by decide +kernel
theorem d_rm_comesAgain_65 : decode rm_comesAgain.2.1 65 = .ok (.ifCond .eq 34, 3) := by decide +kernel
theorem d_rm_comesAgain_68 : decode rm_comesAgain.2.1 68 = .ok (.aload_n 0, 1) := by decide +kernel
theorem d_rm_comesAgain_69 : decode rm_comesAgain.2.1 69 = .ok (.iload_n 1, 1) := by decide +kernel
theorem d_rm_comesAgain_70 : decode rm_comesAgain.2.1 70 = .ok (.iload 4, 2) := by decide +kernel
theorem d_rm_comesAgain_72 : decode rm_comesAgain.2.1 72 = .ok (.iload_n 2, 1) := by decide +kernel
theorem d_rm_comesAgain_73 : decode rm_comesAgain.2.1 73 = .ok (.iadd, 1) := by decide +kernel
theorem d_rm_comesAgain_74 : decode rm_comesAgain.2.1 74 = .ok (.iload 7, 2) := by decide +kernel
theorem d_rm_comesAgain_76 : decode rm_comesAgain.2.1 76 = .ok (.iload_n 3, 1) := by decide +kernel
theorem d_rm_comesAgain_77 : decode rm_comesAgain.2.1 77 = .ok (.iadd, 1) := by decide +kernel
theorem d_rm_comesAgain_78 : decode rm_comesAgain.2.1 78 = .ok (.invokevirtual 212, 3) := by decide +kernel
theorem d_rm_comesAgain_81 : decode rm_comesAgain.2.1 81 = .ok (.aload_n 0, 1) := by decide +kernel
theorem d_rm_comesAgain_82 : decode rm_comesAgain.2.1 82 = .ok (.getfield 34, 3) := by decide +kernel
theorem d_rm_comesAgain_85 : decode rm_comesAgain.2.1 85 = .ok (.bipush 60, 2) := by decide +kernel
theorem d_rm_comesAgain_87 : decode rm_comesAgain.2.1 87 = .ok (.iload 5, 2) := by decide +kernel
theorem d_rm_comesAgain_89 : decode rm_comesAgain.2.1 89 = .ok (.imul, 1) := by decide +kernel
theorem d_rm_comesAgain_90 : decode rm_comesAgain.2.1 90 = .ok (.iload 6, 2) := by decide +kernel
theorem d_rm_comesAgain_92 : decode rm_comesAgain.2.1 92 = .ok (.iadd, 1) := by decide +kernel
theorem d_rm_comesAgain_93 : decode rm_comesAgain.2.1 93 = .ok (.iaload, 1) := by decide +kernel
theorem d_rm_comesAgain_94 : decode rm_comesAgain.2.1 94 = .ok (.if_icmp .eq 5, 3) := by decide +kernel
theorem d_rm_comesAgain_97 : decode rm_comesAgain.2.1 97 = .ok (.iconst 0, 1) := by decide +kernel
theorem d_rm_comesAgain_98 : decode rm_comesAgain.2.1 98 = .ok (.ireturn, 1) := by decide +kernel
theorem d_rm_comesAgain_99 : decode rm_comesAgain.2.1 99 = .ok (.iinc 6 1, 3) := by decide +kernel
theorem d_rm_comesAgain_102 : decode rm_comesAgain.2.1 102 = .ok (.goto (-76), 3) := by decide +kernel
theorem d_rm_comesAgain_105 : decode rm_comesAgain.2.1 105 = .ok (.iinc 4 1, 3) := by decide +kernel
theorem d_rm_comesAgain_108 : decode rm_comesAgain.2.1 108 = .ok (.goto (-105), 3) := by decide +kernel
theorem d_rm_comesAgain_111 : decode rm_comesAgain.2.1 111 = .ok (.iconst 1, 1) := by decide +kernel
theorem d_rm_comesAgain_112 : decode rm_comesAgain.2.1 112 = .ok (.ireturn, 1) := by decide +kernel
theorem d_rm_isFull_0 : decode rm_isFull.2.1 0 = .ok (.aload_n 0, 1) := by decide +kernel
theorem d_rm_isFull_1 : decode rm_isFull.2.1 1 = .ok (.getfield 40, 3) := by decide +kernel
theorem d_rm_isFull_4 : decode rm_isFull.2.1 4 = .ok (.iload_n 1, 1) := by decide +kernel
theorem d_rm_isFull_5 : decode rm_isFull.2.1 5 = .ok (.iaload, 1) := by decide +kernel
theorem d_rm_isFull_6 : decode rm_isFull.2.1 6 = .ok (.ifCond .le 21, 3) := by decide +kernel
theorem d_rm_isFull_9 : decode rm_isFull.2.1 9 = .ok (.aload_n 0, 1) := by decide +kernel
theorem d_rm_isFull_10 : decode rm_isFull.2.1 10 = .ok (.getfield 27, 3) := by decide +kernel
theorem d_rm_isFull_13 : decode rm_isFull.2.1 13 = .ok (.aload_n 0, 1) := by decide +kernel
theorem d_rm_isFull_14 : decode rm_isFull.2.1 14 = .ok (.iload_n 1, 1) := by decide +kernel
theorem d_rm_isFull_15 : decode rm_isFull.2.1 15 = .ok (.iconst 0, 1) := by decide +kernel
theorem d_rm_isFull_16 : decode rm_isFull.2.1 16 = .ok (.invokevirtual 175, 3) := by decide +kernel
theorem d_rm_isFull_19 : decode rm_isFull.2.1 19 = .ok (.iaload, 1) := by decide +kernel
theorem d_rm_isFull_20 : decode rm_isFull.2.1 20 = .ok (.ifCond .le 7, 3) := by decide +kernel
theorem d_rm_isFull_23 : decode rm_isFull.2.1 23 = .ok (.iconst 1, 1) := by decide +kernel
theorem d_rm_isFull_24 : decode rm_isFull.2.1 24 = .ok (.goto 4, 3) := by decide +kernel
theorem d_rm_isFull_27 : decode rm_isFull.2.1 27 = .ok (.iconst 0, 1) := by decide +kernel
theorem d_rm_isFull_28 : decode rm_isFull.2.1 28 = .ok (.istore_n 2, 1) := by decide +kernel
theorem d_rm_isFull_29 : decode rm_isFull.2.1 29 = .ok (.iconst 0, 1) := by decide +kernel
theorem d_rm_isFull_30 : decode rm_isFull.2.1 30 = .ok (.istore_n 3, 1) := by decide +kernel
theorem d_rm_isFull_31 : decode rm_isFull.2.1 31 = .ok (.iload_n 2, 1) := by decide +kernel
theorem d_rm_isFull_32 : decode rm_isFull.2.1 32 = .ok (.ifCond .eq 64, 3) := by decide +kernel
theorem d_rm_isFull_35 : decode rm_isFull.2.1 35 = .ok (.iload_n 3, 1) := by decide +kernel
theorem d_rm_isFull_36 : decode rm_isFull.2.1 36 = .ok (.aload_n 0, 1) := by decide +kernel
theorem d_rm_isFull_37 : decode rm_isFull.2.1 37 = .ok (.getfield 40, 3) := by decide +kernel
theorem d_rm_isFull_40 : decode rm_isFull.2.1 40 = .ok (.iload_n 1, 1) := by decide +kernel
theorem d_rm_isFull_41 : decode rm_isFull.2.1 41 = .ok (.iaload, 1) := by decide +kernel
theorem d_rm_isFull_42 : decode rm_isFull.2.1 42 = .ok (.if_icmp .ge 54, 3) := by decide +kernel
theorem d_rm_isFull_45 : decode rm_isFull.2.1 45 = .ok (.aload_n 0, 1) := by decide +kernel
theorem d_rm_isFull_46 : decode rm_isFull.2.1 46 = .ok (.getfield 30, 3) := by decide +kernel
theorem d_rm_isFull_49 : decode rm_isFull.2.1 49 = .ok (.aload_n 0, 1) := by decide +kernel
theorem d_rm_isFull_50 : decode rm_isFull.2.1 50 = .ok (.iload_n 1, 1) := by decide +kernel
theorem d_rm_isFull_51 : decode rm_isFull.2.1 51 = .ok (.iload_n 3, 1) := by decide +kernel
theorem d_rm_isFull_52 : decode rm_isFull.2.1 52 = .ok (.invokevirtual 175, 3) := by decide +kernel
theorem d_rm_isFull_55 : decode rm_isFull.2.1 55 = .ok (.iaload, 1) := by decide +kernel
theorem d_rm_isFull_56 : decode rm_isFull.2.1 56 = .ok (.ifCond .ne 32, 3) := by decide +kernel
theorem d_rm_isFull_59 : decode rm_isFull.2.1 59 = .ok (.aload_n 0, 1) := by decide +kernel
theorem d_rm_isFull_60 : decode rm_isFull.2.1 60 = .ok (.getfield 27, 3) := by decide +kernel
theorem d_rm_isFull_63 : decode rm_isFull.2.1 63 = .ok (.aload_n 0, 1) := by decide +kernel
theorem d_rm_isFull_64 : decode rm_isFull.2.1 64 = .ok (.iload_n 1, 1) := by decide +kernel
theorem d_rm_isFull_65 : decode rm_isFull.2.1 65 = .ok (.iload_n 3, 1) := by decide +kernel
theorem d_rm_isFull_66 : decode rm_isFull.2.1 66 = .ok (.invokevirtual 175, 3) := by decide +kernel
theorem d_rm_isFull_69 : decode rm_isFull.2.1 69 = .ok (.iaload, 1) := by decide +kernel
theorem d_rm_isFull_70 : decode rm_isFull.2.1 70 = .ok (.aload_n 0, 1) := by decide +kernel
theorem d_rm_isFull_71 : decode rm_isFull.2.1 71 = .ok (.getfield 27, 3) := by decide +kernel
theorem d_rm_isFull_74 : decode rm_isFull.2.1 74 = .ok (.aload_n 0, 1) := by decide +kernel
theorem d_rm_isFull_75 : decode rm_isFull.2.1 75 = .ok (.iload_n 1, 1) := by decide +kernel
theorem d_rm_isFull_76 : decode rm_isFull.2.1 76 = .ok (.iconst 0, 1) := by decide +kernel
theorem d_rm_isFull_77 : decode rm_isFull.2.1 77 = .ok (.invokevirtual 175, 3) := by decide +kernel
theorem d_rm_isFull_80 : decode rm_isFull.2.1 80 = .ok (.iaload, 1) := by decide +kernel
theorem d_rm_isFull_81 : decode rm_isFull.2.1 81 = .ok (.if_icmp .ne 7, 3) := by decide +kernel
theorem d_rm_isFull_84 : decode rm_isFull.2.1 84 = .ok (.iconst 1, 1) := by decide +kernel
theorem d_rm_isFull_85 : decode rm_isFull.2.1 85 = .ok (.goto 4, 3) := by decide +kernel
theorem d_rm_isFull_88 : decode rm_isFull.2.1 88 = .ok (.iconst 0, 1) := by decide +kernel
theorem d_rm_isFull_89 : decode rm_isFull.2.1 89 = .ok (.istore_n 2, 1) := by decide +kernel
theorem d_rm_isFull_90 : decode rm_isFull.2.1 90 = .ok (.iinc 3 1, 3) := by decide +kernel
theorem d_rm_isFull_93 : decode rm_isFull.2.1 93 = .ok (.goto (-62), 3) := by decide +kernel
theorem d_rm_isFull_96 : decode rm_isFull.2.1 96 = .ok (.iload_n 2, 1) := by decide +kernel
theorem d_rm_isFull_97 : decode rm_isFull.2.1 97 = .ok (.ireturn, 1) := by decide +kernel
theorem d_rm_wide_0 : decode rm_wide.2.1 0 = .ok (.aload_n 0, 1) := by decide +kernel
theorem d_rm_wide_1 : decode rm_wide.2.1 1 = .ok (.getfield 27, 3) := by decide +kernel
theorem d_rm_wide_4 : decode rm_wide.2.1 4 = .ok (.aload_n 0, 1) := by decide +kernel
theorem d_rm_wide_5 : decode rm_wide.2.1 5 = .ok (.iload_n 1, 1) := by decide +kernel
theorem d_rm_wide_6 : decode rm_wide.2.1 6 = .ok (.iconst 0, 1) := by decide +kernel
theorem d_rm_wide_7 : decode rm_wide.2.1 7 = .ok (.invokevirtual 175, 3) := by decide +kernel
theorem d_rm_wide_10 : decode rm_wide.2.1 10 = .ok (.iaload, 1) := by decide +kernel
theorem d_rm_wide_11 : decode rm_wide.2.1 11 = .ok (.ireturn, 1) := by decide +kernel
theorem d_rm_movedCell_0 : decode rm_movedCell.2.1 0 = .ok (.aload_n 0, 1) := by decide +kernel
theorem d_rm_movedCell_1 : decode rm_movedCell.2.1 1 = .ok (.iload_n 2, 1) := by decide +kernel
theorem d_rm_movedCell_2 : decode rm_movedCell.2.1 2 = .ok (.aload_n 0, 1) := by decide +kernel
theorem d_rm_movedCell_3 : decode rm_movedCell.2.1 3 = .ok (.getfield 40, 3) := by decide +kernel
theorem d_rm_movedCell_6 : decode rm_movedCell.2.1 6 = .ok (.iload_n 1, 1) := by decide +kernel
theorem d_rm_movedCell_7 : decode rm_movedCell.2.1 7 = .ok (.iaload, 1) := by decide +kernel
theorem d_rm_movedCell_8 : decode rm_movedCell.2.1 8 = .ok (.aload_n 0, 1) := by decide +kernel
theorem d_rm_movedCell_9 : decode rm_movedCell.2.1 9 = .ok (.iload_n 1, 1) := by decide +kernel
theorem d_rm_movedCell_10 : decode rm_movedCell.2.1 10 = .ok (.invokevirtual 269, 3) := by decide +kernel
theorem d_rm_movedCell_13 : decode rm_movedCell.2.1 13 = .ok (.iload_n 3, 1) := by decide +kernel
theorem d_rm_movedCell_14 : decode rm_movedCell.2.1 14 = .ok (.iload 4, 2) := by decide +kernel
theorem d_rm_movedCell_16 : decode rm_movedCell.2.1 16 = .ok (.invokevirtual 227, 3) := by decide +kernel
theorem d_rm_movedCell_19 : decode rm_movedCell.2.1 19 = .ok (.aload_n 0, 1) := by decide +kernel
theorem d_rm_movedCell_20 : decode rm_movedCell.2.1 20 = .ok (.aload_n 0, 1) := by decide +kernel
theorem d_rm_movedCell_21 : decode rm_movedCell.2.1 21 = .ok (.iload_n 1, 1) := by decide +kernel
theorem d_rm_movedCell_22 : decode rm_movedCell.2.1 22 = .ok (.aload_n 0, 1) := by decide +kernel
theorem d_rm_movedCell_23 : decode rm_movedCell.2.1 23 = .ok (.getfield 215, 3) := by decide +kernel
theorem d_rm_movedCell_26 : decode rm_movedCell.2.1 26 = .ok (.aload_n 0, 1) := by decide +kernel
theorem d_rm_movedCell_27 : decode rm_movedCell.2.1 27 = .ok (.getfield 218, 3) := by decide +kernel
theorem d_rm_movedCell_30 : decode rm_movedCell.2.1 30 = .ok (.invokevirtual 212, 3) := by decide +kernel
theorem d_rm_movedCell_33 : decode rm_movedCell.2.1 33 = .ok (.iload_n 2, 1) := by decide +kernel
theorem d_rm_movedCell_34 : decode rm_movedCell.2.1 34 = .ok (.invokevirtual 231, 3) := by decide +kernel
theorem d_rm_movedCell_37 : decode rm_movedCell.2.1 37 = .ok (.ireturn, 1) := by decide +kernel
theorem d_rm_isMoved_0 : decode rm_isMoved.2.1 0 = .ok (.iload_n 2, 1) := by decide +kernel
theorem d_rm_isMoved_1 : decode rm_isMoved.2.1 1 = .ok (.iconst 1, 1) := by decide +kernel
theorem d_rm_isMoved_2 : decode rm_isMoved.2.1 2 = .ok (.iand, 1) := by decide +kernel
theorem d_rm_isMoved_3 : decode rm_isMoved.2.1 3 = .ok (.ifCond .ne 12, 3) := by decide +kernel
theorem d_rm_isMoved_6 : decode rm_isMoved.2.1 6 = .ok (.aload_n 0, 1) := by decide +kernel
theorem d_rm_isMoved_7 : decode rm_isMoved.2.1 7 = .ok (.getfield 40, 3) := by decide +kernel
theorem d_rm_isMoved_10 : decode rm_isMoved.2.1 10 = .ok (.iload_n 1, 1) := by decide +kernel
theorem d_rm_isMoved_11 : decode rm_isMoved.2.1 11 = .ok (.iaload, 1) := by decide +kernel
theorem d_rm_isMoved_12 : decode rm_isMoved.2.1 12 = .ok (.goto 8, 3) := by decide +kernel
theorem d_rm_isMoved_15 : decode rm_isMoved.2.1 15 = .ok (.aload_n 0, 1) := by decide +kernel
theorem d_rm_isMoved_16 : decode rm_isMoved.2.1 16 = .ok (.iload_n 1, 1) := by decide +kernel
theorem d_rm_isMoved_17 : decode rm_isMoved.2.1 17 = .ok (.invokevirtual 269, 3) := by decide +kernel
theorem d_rm_isMoved_20 : decode rm_isMoved.2.1 20 = .ok (.istore 4, 2) := by decide +kernel
theorem d_rm_isMoved_22 : decode rm_isMoved.2.1 22 = .ok (.iload_n 2, 1) := by decide +kernel
theorem d_rm_isMoved_23 : decode rm_isMoved.2.1 23 = .ok (.iconst 1, 1) := by decide +kernel
theorem d_rm_isMoved_24 : decode rm_isMoved.2.1 24 = .ok (.iand, 1) := by decide +kernel
theorem d_rm_isMoved_25 : decode rm_isMoved.2.1 25 = .ok (.ifCond .ne 11, 3) := by decide +kernel
theorem d_rm_isMoved_28 : decode rm_isMoved.2.1 28 = .ok (.aload_n 0, 1) := by decide +kernel
theorem d_rm_isMoved_29 : decode rm_isMoved.2.1 29 = .ok (.iload_n 1, 1) := by decide +kernel
theorem d_rm_isMoved_30 : decode rm_isMoved.2.1 30 = .ok (.invokevirtual 269, 3) := by decide +kernel
theorem d_rm_isMoved_33 : decode rm_isMoved.2.1 33 = .ok (.goto 9, 3) := by decide +kernel
theorem d_rm_isMoved_36 : decode rm_isMoved.2.1 36 = .ok (.aload_n 0, 1) := by decide +kernel
theorem d_rm_isMoved_37 : decode rm_isMoved.2.1 37 = .ok (.getfield 40, 3) := by decide +kernel
theorem d_rm_isMoved_40 : decode rm_isMoved.2.1 40 = .ok (.iload_n 1, 1) := by decide +kernel
theorem d_rm_isMoved_41 : decode rm_isMoved.2.1 41 = .ok (.iaload, 1) := by decide +kernel
theorem d_rm_isMoved_42 : decode rm_isMoved.2.1 42 = .ok (.istore 5, 2) := by decide +kernel
theorem d_rm_isMoved_44 : decode rm_isMoved.2.1 44 = .ok (.iload 4, 2) := by decide +kernel
theorem d_rm_isMoved_46 : decode rm_isMoved.2.1 46 = .ok (.aload_n 0, 1) := by decide +kernel
theorem d_rm_isMoved_47 : decode rm_isMoved.2.1 47 = .ok (.getfield 40, 3) := by decide +kernel
theorem d_rm_isMoved_50 : decode rm_isMoved.2.1 50 = .ok (.iload_n 3, 1) := by decide +kernel
theorem d_rm_isMoved_51 : decode rm_isMoved.2.1 51 = .ok (.iaload, 1) := by decide +kernel
theorem d_rm_isMoved_52 : decode rm_isMoved.2.1 52 = .ok (.if_icmp .ne 17, 3) := by decide +kernel
theorem d_rm_isMoved_55 : decode rm_isMoved.2.1 55 = .ok (.iload 5, 2) := by decide +kernel
theorem d_rm_isMoved_57 : decode rm_isMoved.2.1 57 = .ok (.aload_n 0, 1) := by decide +kernel
theorem d_rm_isMoved_58 : decode rm_isMoved.2.1 58 = .ok (.iload_n 3, 1) := by decide +kernel
theorem d_rm_isMoved_59 : decode rm_isMoved.2.1 59 = .ok (.invokevirtual 269, 3) := by decide +kernel
theorem d_rm_isMoved_62 : decode rm_isMoved.2.1 62 = .ok (.if_icmp .ne 7, 3) := by decide +kernel
theorem d_rm_isMoved_65 : decode rm_isMoved.2.1 65 = .ok (.iconst 1, 1) := by decide +kernel
theorem d_rm_isMoved_66 : decode rm_isMoved.2.1 66 = .ok (.goto 4, 3) := by decide +kernel
theorem d_rm_isMoved_69 : decode rm_isMoved.2.1 69 = .ok (.iconst 0, 1) := by decide +kernel
theorem d_rm_isMoved_70 : decode rm_isMoved.2.1 70 = .ok (.istore 6, 2) := by decide +kernel
theorem d_rm_isMoved_72 : decode rm_isMoved.2.1 72 = .ok (.iconst 0, 1) := by decide +kernel
theorem d_rm_isMoved_73 : decode rm_isMoved.2.1 73 = .ok (.istore 7, 2) := by decide +kernel
theorem d_rm_isMoved_75 : decode rm_isMoved.2.1 75 = .ok (.iload 6, 2) := by decide +kernel
theorem d_rm_isMoved_77 : decode rm_isMoved.2.1 77 = .ok (.ifCond .eq 60, 3) := by decide +kernel
theorem d_rm_isMoved_80 : decode rm_isMoved.2.1 80 = .ok (.iload 7, 2) := by decide +kernel
theorem d_rm_isMoved_82 : decode rm_isMoved.2.1 82 = .ok (.iload 4, 2) := by decide +kernel
theorem d_rm_isMoved_84 : decode rm_isMoved.2.1 84 = .ok (.iload 5, 2) := by decide +kernel
theorem d_rm_isMoved_86 : decode rm_isMoved.2.1 86 = .ok (.imul, 1) := by decide +kernel
theorem d_rm_isMoved_87 : decode rm_isMoved.2.1 87 = .ok (.if_icmp .ge 50, 3) := by decide +kernel
theorem d_rm_isMoved_90 : decode rm_isMoved.2.1 90 = .ok (.aload_n 0, 1) := by decide +kernel
theorem d_rm_isMoved_91 : decode rm_isMoved.2.1 91 = .ok (.iload_n 1, 1) := by decide +kernel
theorem d_rm_isMoved_92 : decode rm_isMoved.2.1 92 = .ok (.iload_n 2, 1) := by decide +kernel
theorem d_rm_isMoved_93 : decode rm_isMoved.2.1 93 = .ok (.iload 7, 2) := by decide +kernel
theorem d_rm_isMoved_95 : decode rm_isMoved.2.1 95 = .ok (.iload 5, 2) := by decide +kernel
theorem d_rm_isMoved_97 : decode rm_isMoved.2.1 97 = .ok (.idiv, 1) := by decide +kernel
theorem d_rm_isMoved_98 : decode rm_isMoved.2.1 98 = .ok (.iload 7, 2) := by decide +kernel
theorem d_rm_isMoved_100 : decode rm_isMoved.2.1 100 = .ok (.iload 5, 2) := by decide +kernel
theorem d_rm_isMoved_102 : decode rm_isMoved.2.1 102 = .ok (.irem, 1) := by decide +kernel
theorem d_rm_isMoved_103 : decode rm_isMoved.2.1 103 = .ok (.invokevirtual 272, 3) := by decide +kernel
theorem d_rm_isMoved_106 : decode rm_isMoved.2.1 106 = .ok (.aload_n 0, 1) := by decide +kernel
theorem d_rm_isMoved_107 : decode rm_isMoved.2.1 107 = .ok (.iload_n 3, 1) := by decide +kernel
theorem d_rm_isMoved_108 : decode rm_isMoved.2.1 108 = .ok (.iload 7, 2) := by decide +kernel
theorem d_rm_isMoved_110 : decode rm_isMoved.2.1 110 = .ok (.iload 5, 2) := by decide +kernel
theorem d_rm_isMoved_112 : decode rm_isMoved.2.1 112 = .ok (.idiv, 1) := by decide +kernel
theorem d_rm_isMoved_113 : decode rm_isMoved.2.1 113 = .ok (.iload 7, 2) := by decide +kernel
theorem d_rm_isMoved_115 : decode rm_isMoved.2.1 115 = .ok (.iload 5, 2) := by decide +kernel
theorem d_rm_isMoved_117 : decode rm_isMoved.2.1 117 = .ok (.irem, 1) := by decide +kernel
theorem d_rm_isMoved_118 : decode rm_isMoved.2.1 118 = .ok (.invokevirtual 212, 3) := by decide +kernel
theorem d_rm_isMoved_121 : decode rm_isMoved.2.1 121 = .ok (.if_icmp .ne 7, 3) := by decide +kernel
theorem d_rm_isMoved_124 : decode rm_isMoved.2.1 124 = .ok (.iconst 1, 1) := by decide +kernel
theorem d_rm_isMoved_125 : decode rm_isMoved.2.1 125 = .ok (.goto 4, 3) := by decide +kernel
theorem d_rm_isMoved_128 : decode rm_isMoved.2.1 128 = .ok (.iconst 0, 1) := by decide +kernel
theorem d_rm_isMoved_129 : decode rm_isMoved.2.1 129 = .ok (.istore 6, 2) := by decide +kernel
theorem d_rm_isMoved_131 : decode rm_isMoved.2.1 131 = .ok (.iinc 7 1, 3) := by decide +kernel
theorem d_rm_isMoved_134 : decode rm_isMoved.2.1 134 = .ok (.goto (-59), 3) := by decide +kernel
theorem d_rm_isMoved_137 : decode rm_isMoved.2.1 137 = .ok (.iload 6, 2) := by decide +kernel
theorem d_rm_isMoved_139 : decode rm_isMoved.2.1 139 = .ok (.ireturn, 1) := by decide +kernel
theorem d_rm_kept_0 : decode rm_kept.2.1 0 = .ok (.aload_n 0, 1) := by decide +kernel
theorem d_rm_kept_1 : decode rm_kept.2.1 1 = .ok (.iload_n 1, 1) := by decide +kernel
theorem d_rm_kept_2 : decode rm_kept.2.1 2 = .ok (.invokevirtual 187, 3) := by decide +kernel
theorem d_rm_kept_5 : decode rm_kept.2.1 5 = .ok (.ifCond .ne 5, 3) := by decide +kernel
theorem d_rm_kept_8 : decode rm_kept.2.1 8 = .ok (.iconst (-1), 1) := by decide +kernel
theorem d_rm_kept_9 : decode rm_kept.2.1 9 = .ok (.ireturn, 1) := by decide +kernel
theorem d_rm_kept_10 : decode rm_kept.2.1 10 = .ok (.iconst 0, 1) := by decide +kernel
theorem d_rm_kept_11 : decode rm_kept.2.1 11 = .ok (.istore_n 2, 1) := by decide +kernel
theorem d_rm_kept_12 : decode rm_kept.2.1 12 = .ok (.iconst 0, 1) := by decide +kernel
theorem d_rm_kept_13 : decode rm_kept.2.1 13 = .ok (.istore_n 3, 1) := by decide +kernel
theorem d_rm_kept_14 : decode rm_kept.2.1 14 = .ok (.iload_n 3, 1) := by decide +kernel
theorem d_rm_kept_15 : decode rm_kept.2.1 15 = .ok (.bipush 8, 2) := by decide +kernel
theorem d_rm_kept_17 : decode rm_kept.2.1 17 = .ok (.if_icmp .ge 37, 3) := by decide +kernel
theorem d_rm_kept_20 : decode rm_kept.2.1 20 = .ok (.aload_n 0, 1) := by decide +kernel
theorem d_rm_kept_21 : decode rm_kept.2.1 21 = .ok (.iload_n 1, 1) := by decide +kernel
theorem d_rm_kept_22 : decode rm_kept.2.1 22 = .ok (.invokevirtual 275, 3) := by decide +kernel
theorem d_rm_kept_25 : decode rm_kept.2.1 25 = .ok (.ifCond .eq 29, 3) := by decide +kernel
theorem d_rm_kept_28 : decode rm_kept.2.1 28 = .ok (.iload_n 2, 1) := by decide +kernel
theorem d_rm_kept_29 : decode rm_kept.2.1 29 = .ok (.aload_n 0, 1) := by decide +kernel
theorem d_rm_kept_30 : decode rm_kept.2.1 30 = .ok (.iload_n 1, 1) := by decide +kernel
theorem d_rm_kept_31 : decode rm_kept.2.1 31 = .ok (.iload_n 3, 1) := by decide +kernel
theorem d_rm_kept_32 : decode rm_kept.2.1 32 = .ok (.iload_n 1, 1) := by decide +kernel
theorem d_rm_kept_33 : decode rm_kept.2.1 33 = .ok (.invokevirtual 278, 3) := by decide +kernel
theorem d_rm_kept_36 : decode rm_kept.2.1 36 = .ok (.ifCond .eq 9, 3) := by decide +kernel
theorem d_rm_kept_39 : decode rm_kept.2.1 39 = .ok (.iconst 1, 1) := by decide +kernel
theorem d_rm_kept_40 : decode rm_kept.2.1 40 = .ok (.iload_n 3, 1) := by decide +kernel
theorem d_rm_kept_41 : decode rm_kept.2.1 41 = .ok (.ishl, 1) := by decide +kernel
theorem d_rm_kept_42 : decode rm_kept.2.1 42 = .ok (.goto 4, 3) := by decide +kernel
theorem d_rm_kept_45 : decode rm_kept.2.1 45 = .ok (.iconst 0, 1) := by decide +kernel
theorem d_rm_kept_46 : decode rm_kept.2.1 46 = .ok (.ior, 1) := by decide +kernel
theorem d_rm_kept_47 : decode rm_kept.2.1 47 = .ok (.istore_n 2, 1) := by decide +kernel
theorem d_rm_kept_48 : decode rm_kept.2.1 48 = .ok (.iinc 3 1, 3) := by decide +kernel
theorem d_rm_kept_51 : decode rm_kept.2.1 51 = .ok (.goto (-37), 3) := by decide +kernel
theorem d_rm_kept_54 : decode rm_kept.2.1 54 = .ok (.iload_n 2, 1) := by decide +kernel
theorem d_rm_kept_55 : decode rm_kept.2.1 55 = .ok (.ireturn, 1) := by decide +kernel
theorem d_rm_congruent_0 : decode rm_congruent.2.1 0 = .ok (.aload_n 0, 1) := by decide +kernel
theorem d_rm_congruent_1 : decode rm_congruent.2.1 1 = .ok (.iload_n 1, 1) := by decide +kernel
theorem d_rm_congruent_2 : decode rm_congruent.2.1 2 = .ok (.invokevirtual 187, 3) := by decide +kernel
theorem d_rm_congruent_5 : decode rm_congruent.2.1 5 = .ok (.ifCond .eq 27, 3) := by decide +kernel
theorem d_rm_congruent_8 : decode rm_congruent.2.1 8 = .ok (.aload_n 0, 1) := by decide +kernel
theorem d_rm_congruent_9 : decode rm_congruent.2.1 9 = .ok (.iload_n 2, 1) := by decide +kernel
theorem d_rm_congruent_10 : decode rm_congruent.2.1 10 = .ok (.invokevirtual 187, 3) := by decide +kernel
theorem d_rm_congruent_13 : decode rm_congruent.2.1 13 = .ok (.ifCond .eq 19, 3) := by decide +kernel
theorem d_rm_congruent_16 : decode rm_congruent.2.1 16 = .ok (.aload_n 0, 1) := by decide +kernel
theorem d_rm_congruent_17 : decode rm_congruent.2.1 17 = .ok (.iload_n 1, 1) := by decide +kernel
theorem d_rm_congruent_18 : decode rm_congruent.2.1 18 = .ok (.invokevirtual 275, 3) := by decide +kernel
theorem d_rm_congruent_21 : decode rm_congruent.2.1 21 = .ok (.ifCond .eq 11, 3) := by decide +kernel
theorem d_rm_congruent_24 : decode rm_congruent.2.1 24 = .ok (.aload_n 0, 1) := by decide +kernel
theorem d_rm_congruent_25 : decode rm_congruent.2.1 25 = .ok (.iload_n 2, 1) := by decide +kernel
theorem d_rm_congruent_26 : decode rm_congruent.2.1 26 = .ok (.invokevirtual 275, 3) := by decide +kernel
theorem d_rm_congruent_29 : decode rm_congruent.2.1 29 = .ok (.ifCond .ne 5, 3) := by decide +kernel
theorem d_rm_congruent_32 : decode rm_congruent.2.1 32 = .ok (.iconst (-1), 1) := by decide +kernel
theorem d_rm_congruent_33 : decode rm_congruent.2.1 33 = .ok (.ireturn, 1) := by decide +kernel
theorem d_rm_congruent_34 : decode rm_congruent.2.1 34 = .ok (.iconst 0, 1) := by decide +kernel
theorem d_rm_congruent_35 : decode rm_congruent.2.1 35 = .ok (.istore_n 3, 1) := by decide +kernel
theorem d_rm_congruent_36 : decode rm_congruent.2.1 36 = .ok (.iload_n 3, 1) := by decide +kernel
theorem d_rm_congruent_37 : decode rm_congruent.2.1 37 = .ok (.bipush 8, 2) := by decide +kernel
theorem d_rm_congruent_39 : decode rm_congruent.2.1 39 = .ok (.if_icmp .ge 21, 3) := by decide +kernel
theorem d_rm_congruent_42 : decode rm_congruent.2.1 42 = .ok (.aload_n 0, 1) := by decide +kernel
theorem d_rm_congruent_43 : decode rm_congruent.2.1 43 = .ok (.iload_n 1, 1) := by decide +kernel
theorem d_rm_congruent_44 : decode rm_congruent.2.1 44 = .ok (.iload_n 3, 1) := by decide +kernel
theorem d_rm_congruent_45 : decode rm_congruent.2.1 45 = .ok (.iload_n 2, 1) := by decide +kernel
theorem d_rm_congruent_46 : decode rm_congruent.2.1 46 = .ok (.invokevirtual 278, 3) := by decide +kernel
theorem d_rm_congruent_49 : decode rm_congruent.2.1 49 = .ok (.ifCond .eq 5, 3) := by decide +kernel
theorem d_rm_congruent_52 : decode rm_congruent.2.1 52 = .ok (.iload_n 3, 1) := by decide +kernel
theorem d_rm_congruent_53 : decode rm_congruent.2.1 53 = .ok (.ireturn, 1) := by decide +kernel
theorem d_rm_congruent_54 : decode rm_congruent.2.1 54 = .ok (.iinc 3 1, 3) := by decide +kernel
theorem d_rm_congruent_57 : decode rm_congruent.2.1 57 = .ok (.goto (-21), 3) := by decide +kernel
theorem d_rm_congruent_60 : decode rm_congruent.2.1 60 = .ok (.iconst (-1), 1) := by decide +kernel
theorem d_rm_congruent_61 : decode rm_congruent.2.1 61 = .ok (.ireturn, 1) := by decide +kernel
theorem d_rm_isFound_0 : decode rm_isFound.2.1 0 = .ok (.iload 5, 2) := by decide +kernel
theorem d_rm_isFound_2 : decode rm_isFound.2.1 2 = .ok (.iconst 1, 1) := by decide +kernel
theorem d_rm_isFound_3 : decode rm_isFound.2.1 3 = .ok (.iand, 1) := by decide +kernel
theorem d_rm_isFound_4 : decode rm_isFound.2.1 4 = .ok (.ifCond .ne 12, 3) := by decide +kernel
theorem d_rm_isFound_7 : decode rm_isFound.2.1 7 = .ok (.aload_n 0, 1) := by decide +kernel
theorem d_rm_isFound_8 : decode rm_isFound.2.1 8 = .ok (.getfield 40, 3) := by decide +kernel
theorem d_rm_isFound_11 : decode rm_isFound.2.1 11 = .ok (.iload_n 2, 1) := by decide +kernel
theorem d_rm_isFound_12 : decode rm_isFound.2.1 12 = .ok (.iaload, 1) := by decide +kernel
theorem d_rm_isFound_13 : decode rm_isFound.2.1 13 = .ok (.goto 8, 3) := by decide +kernel
theorem d_rm_isFound_16 : decode rm_isFound.2.1 16 = .ok (.aload_n 0, 1) := by decide +kernel
theorem d_rm_isFound_17 : decode rm_isFound.2.1 17 = .ok (.iload_n 2, 1) := by decide +kernel
theorem d_rm_isFound_18 : decode rm_isFound.2.1 18 = .ok (.invokevirtual 269, 3) := by decide +kernel
theorem d_rm_isFound_21 : decode rm_isFound.2.1 21 = .ok (.istore 6, 2) := by decide +kernel
theorem d_rm_isFound_23 : decode rm_isFound.2.1 23 = .ok (.iload 5, 2) := by decide +kernel
theorem d_rm_isFound_25 : decode rm_isFound.2.1 25 = .ok (.iconst 1, 1) := by decide +kernel
theorem d_rm_isFound_26 : decode rm_isFound.2.1 26 = .ok (.iand, 1) := by decide +kernel
theorem d_rm_isFound_27 : decode rm_isFound.2.1 27 = .ok (.ifCond .ne 11, 3) := by decide +kernel
theorem d_rm_isFound_30 : decode rm_isFound.2.1 30 = .ok (.aload_n 0, 1) := by decide +kernel
theorem d_rm_isFound_31 : decode rm_isFound.2.1 31 = .ok (.iload_n 2, 1) := by decide +kernel
theorem d_rm_isFound_32 : decode rm_isFound.2.1 32 = .ok (.invokevirtual 269, 3) := by decide +kernel
theorem d_rm_isFound_35 : decode rm_isFound.2.1 35 = .ok (.goto 9, 3) := by decide +kernel
theorem d_rm_isFound_38 : decode rm_isFound.2.1 38 = .ok (.aload_n 0, 1) := by decide +kernel
theorem d_rm_isFound_39 : decode rm_isFound.2.1 39 = .ok (.getfield 40, 3) := by decide +kernel
theorem d_rm_isFound_42 : decode rm_isFound.2.1 42 = .ok (.iload_n 2, 1) := by decide +kernel
theorem d_rm_isFound_43 : decode rm_isFound.2.1 43 = .ok (.iaload, 1) := by decide +kernel
theorem d_rm_isFound_44 : decode rm_isFound.2.1 44 = .ok (.istore 7, 2) := by decide +kernel
theorem d_rm_isFound_46 : decode rm_isFound.2.1 46 = .ok (.iconst 1, 1) := by decide +kernel
theorem d_rm_isFound_47 : decode rm_isFound.2.1 47 = .ok (.istore 8, 2) := by decide +kernel
theorem d_rm_isFound_49 : decode rm_isFound.2.1 49 = .ok (.iconst 0, 1) := by decide +kernel
theorem d_rm_isFound_50 : decode rm_isFound.2.1 50 = .ok (.istore 9, 2) := by decide +kernel
theorem d_rm_isFound_52 : decode rm_isFound.2.1 52 = .ok (.iload 8, 2) := by decide +kernel
theorem d_rm_isFound_54 : decode rm_isFound.2.1 54 = .ok (.ifCond .eq 91, 3) := by decide +kernel
theorem d_rm_isFound_57 : decode rm_isFound.2.1 57 = .ok (.iload 9, 2) := by decide +kernel
theorem d_rm_isFound_59 : decode rm_isFound.2.1 59 = .ok (.iload 6, 2) := by decide +kernel
theorem d_rm_isFound_61 : decode rm_isFound.2.1 61 = .ok (.iload 7, 2) := by decide +kernel
theorem d_rm_isFound_63 : decode rm_isFound.2.1 63 = .ok (.imul, 1) := by decide +kernel
theorem d_rm_isFound_64 : decode rm_isFound.2.1 64 = .ok (.if_icmp .ge 81, 3) := by decide +kernel
theorem d_rm_isFound_67 : decode rm_isFound.2.1 67 = .ok (.aload_n 0, 1) := by decide +kernel
theorem d_rm_isFound_68 : decode rm_isFound.2.1 68 = .ok (.iload_n 1, 1) := by decide +kernel
theorem d_rm_isFound_69 : decode rm_isFound.2.1 69 = .ok (.iload_n 3, 1) := by decide +kernel
theorem d_rm_isFound_70 : decode rm_isFound.2.1 70 = .ok (.iload 9, 2) := by decide +kernel
theorem d_rm_isFound_72 : decode rm_isFound.2.1 72 = .ok (.iload 7, 2) := by decide +kernel
theorem d_rm_isFound_74 : decode rm_isFound.2.1 74 = .ok (.idiv, 1) := by decide +kernel
theorem d_rm_isFound_75 : decode rm_isFound.2.1 75 = .ok (.iadd, 1) := by decide +kernel
theorem d_rm_isFound_76 : decode rm_isFound.2.1 76 = .ok (.i2l, 1) := by decide +kernel
theorem d_rm_isFound_77 : decode rm_isFound.2.1 77 = .ok (.iload 4, 2) := by decide +kernel
theorem d_rm_isFound_79 : decode rm_isFound.2.1 79 = .ok (.iload 9, 2) := by decide +kernel
theorem d_rm_isFound_81 : decode rm_isFound.2.1 81 = .ok (.iload 7, 2) := by decide +kernel
theorem d_rm_isFound_83 : decode rm_isFound.2.1 83 = .ok (.irem, 1) := by decide +kernel
theorem d_rm_isFound_84 : decode rm_isFound.2.1 84 = .ok (.iadd, 1) := by decide +kernel
theorem d_rm_isFound_85 : decode rm_isFound.2.1 85 = .ok (.i2l, 1) := by decide +kernel
theorem d_rm_isFound_86 : decode rm_isFound.2.1 86 = .ok (.invokevirtual 204, 3) := by decide +kernel
theorem d_rm_isFound_89 : decode rm_isFound.2.1 89 = .ok (.ifCond .eq 47, 3) := by decide +kernel
theorem d_rm_isFound_92 : decode rm_isFound.2.1 92 = .ok (.aload_n 0, 1) := by decide +kernel
theorem d_rm_isFound_93 : decode rm_isFound.2.1 93 = .ok (.iload_n 1, 1) := by decide +kernel
theorem d_rm_isFound_94 : decode rm_isFound.2.1 94 = .ok (.iload_n 3, 1) := by decide +kernel
theorem d_rm_isFound_95 : decode rm_isFound.2.1 95 = .ok (.iload 9, 2) := by decide +kernel
theorem d_rm_isFound_97 : decode rm_isFound.2.1 97 = .ok (.iload 7, 2) := by decide +kernel
theorem d_rm_isFound_99 : decode rm_isFound.2.1 99 = .ok (.idiv, 1) := by decide +kernel
theorem d_rm_isFound_100 : decode rm_isFound.2.1 100 = .ok (.iadd, 1) := by decide +kernel
theorem d_rm_isFound_101 : decode rm_isFound.2.1 101 = .ok (.iload 4, 2) := by decide +kernel
theorem d_rm_isFound_103 : decode rm_isFound.2.1 103 = .ok (.iload 9, 2) := by decide +kernel
theorem d_rm_isFound_105 : decode rm_isFound.2.1 105 = .ok (.iload 7, 2) := by decide +kernel
theorem d_rm_isFound_107 : decode rm_isFound.2.1 107 = .ok (.irem, 1) := by decide +kernel
theorem d_rm_isFound_108 : decode rm_isFound.2.1 108 = .ok (.iadd, 1) := by decide +kernel
theorem d_rm_isFound_109 : decode rm_isFound.2.1 109 = .ok (.invokevirtual 212, 3) := by decide +kernel
theorem d_rm_isFound_112 : decode rm_isFound.2.1 112 = .ok (.aload_n 0, 1) := by decide +kernel
theorem d_rm_isFound_113 : decode rm_isFound.2.1 113 = .ok (.iload_n 2, 1) := by decide +kernel
theorem d_rm_isFound_114 : decode rm_isFound.2.1 114 = .ok (.iload 5, 2) := by decide +kernel
theorem d_rm_isFound_116 : decode rm_isFound.2.1 116 = .ok (.iload 9, 2) := by decide +kernel
theorem d_rm_isFound_118 : decode rm_isFound.2.1 118 = .ok (.iload 7, 2) := by decide +kernel
theorem d_rm_isFound_120 : decode rm_isFound.2.1 120 = .ok (.idiv, 1) := by decide +kernel
theorem d_rm_isFound_121 : decode rm_isFound.2.1 121 = .ok (.iload 9, 2) := by decide +kernel
theorem d_rm_isFound_123 : decode rm_isFound.2.1 123 = .ok (.iload 7, 2) := by decide +kernel
theorem d_rm_isFound_125 : decode rm_isFound.2.1 125 = .ok (.irem, 1) := by decide +kernel
theorem d_rm_isFound_126 : decode rm_isFound.2.1 126 = .ok (.invokevirtual 272, 3) := by decide +kernel
theorem d_rm_isFound_129 : decode rm_isFound.2.1 129 = .ok (.if_icmp .ne 7, 3) := by decide +kernel
theorem d_rm_isFound_132 : decode rm_isFound.2.1 132 = .ok (.iconst 1, 1) := by decide +kernel
