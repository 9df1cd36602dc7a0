/-! decode rows, by program -/
theorem d_bl_init_0 : decode bl_init.2.1 0 = .ok (.aload_n 0, 1) := by decide +kernel
theorem d_bl_init_1 : decode bl_init.2.1 1 = .ok (.invokespecial 1, 3) := by decide +kernel
theorem d_bl_init_4 : decode bl_init.2.1 4 = .ok (.aload_n 0, 1) := by decide +kernel
theorem d_bl_init_5 : decode bl_init.2.1 5 = .ok (.iconst 0, 1) := by decide +kernel
theorem d_bl_init_6 : decode bl_init.2.1 6 = .ok (.iload_n 1, 1) := by decide +kernel
theorem d_bl_init_7 : decode bl_init.2.1 7 = .ok (.invokestatic 7, 3) := by decide +kernel
theorem d_bl_init_10 : decode bl_init.2.1 10 = .ok (.newarray .int, 2) := by decide +kernel
theorem d_bl_init_12 : decode bl_init.2.1 12 = .ok (.putfield 13, 3) := by decide +kernel
theorem d_bl_init_15 : decode bl_init.2.1 15 = .ok (.return_, 1) := by decide +kernel
theorem d_bl_mayBeRegion_0 : decode bl_mayBeRegion.2.1 0 = .ok (.iload_n 0, 1) := by decide +kernel
theorem d_bl_mayBeRegion_1 : decode bl_mayBeRegion.2.1 1 = .ok (.iconst 1, 1) := by decide +kernel
theorem d_bl_mayBeRegion_2 : decode bl_mayBeRegion.2.1 2 = .ok (.if_icmp .lt 24, 3) := by decide +kernel
theorem d_bl_mayBeRegion_5 : decode bl_mayBeRegion.2.1 5 = .ok (.iload_n 0, 1) := by decide +kernel
theorem d_bl_mayBeRegion_6 : decode bl_mayBeRegion.2.1 6 = .ok (.bipush 20, 2) := by decide +kernel
theorem d_bl_mayBeRegion_8 : decode bl_mayBeRegion.2.1 8 = .ok (.if_icmp .gt 18, 3) := by decide +kernel
theorem d_bl_mayBeRegion_11 : decode bl_mayBeRegion.2.1 11 = .ok (.iload_n 1, 1) := by decide +kernel
theorem d_bl_mayBeRegion_12 : decode bl_mayBeRegion.2.1 12 = .ok (.iconst 1, 1) := by decide +kernel
theorem d_bl_mayBeRegion_13 : decode bl_mayBeRegion.2.1 13 = .ok (.if_icmp .lt 13, 3) := by decide +kernel
theorem d_bl_mayBeRegion_16 : decode bl_mayBeRegion.2.1 16 = .ok (.iload_n 1, 1) := by decide +kernel
theorem d_bl_mayBeRegion_17 : decode bl_mayBeRegion.2.1 17 = .ok (.bipush 20, 2) := by decide +kernel
theorem d_bl_mayBeRegion_19 : decode bl_mayBeRegion.2.1 19 = .ok (.if_icmp .gt 7, 3) := by decide +kernel
theorem d_bl_mayBeRegion_22 : decode bl_mayBeRegion.2.1 22 = .ok (.iconst 1, 1) := by decide +kernel
theorem d_bl_mayBeRegion_23 : decode bl_mayBeRegion.2.1 23 = .ok (.goto 4, 3) := by decide +kernel
theorem d_bl_mayBeRegion_26 : decode bl_mayBeRegion.2.1 26 = .ok (.iconst 0, 1) := by decide +kernel
theorem d_bl_mayBeRegion_27 : decode bl_mayBeRegion.2.1 27 = .ok (.ireturn, 1) := by decide +kernel
theorem d_bl_isNothing_0 : decode bl_isNothing.2.1 0 = .ok (.aload_n 0, 1) := by decide +kernel
theorem d_bl_isNothing_1 : decode bl_isNothing.2.1 1 = .ok (.getfield 19, 3) := by decide +kernel
theorem d_bl_isNothing_4 : decode bl_isNothing.2.1 4 = .ok (.ifCond .ne 7, 3) := by decide +kernel
theorem d_bl_isNothing_7 : decode bl_isNothing.2.1 7 = .ok (.iconst 1, 1) := by decide +kernel
theorem d_bl_isNothing_8 : decode bl_isNothing.2.1 8 = .ok (.goto 4, 3) := by decide +kernel
theorem d_bl_isNothing_11 : decode bl_isNothing.2.1 11 = .ok (.iconst 0, 1) := by decide +kernel
theorem d_bl_isNothing_12 : decode bl_isNothing.2.1 12 = .ok (.ireturn, 1) := by decide +kernel
theorem d_bl_hasPlace_0 : decode bl_hasPlace.2.1 0 = .ok (.iload_n 1, 1) := by decide +kernel
theorem d_bl_hasPlace_1 : decode bl_hasPlace.2.1 1 = .ok (.ifCond .lt 43, 3) := by decide +kernel
theorem d_bl_hasPlace_4 : decode bl_hasPlace.2.1 4 = .ok (.iload_n 1, 1) := by decide +kernel
theorem d_bl_hasPlace_5 : decode bl_hasPlace.2.1 5 = .ok (.aload_n 0, 1) := by decide +kernel
theorem d_bl_hasPlace_6 : decode bl_hasPlace.2.1 6 = .ok (.getfield 19, 3) := by decide +kernel
theorem d_bl_hasPlace_9 : decode bl_hasPlace.2.1 9 = .ok (.if_icmp .ge 35, 3) := by decide +kernel
theorem d_bl_hasPlace_12 : decode bl_hasPlace.2.1 12 = .ok (.iload_n 2, 1) := by decide +kernel
theorem d_bl_hasPlace_13 : decode bl_hasPlace.2.1 13 = .ok (.ifCond .lt 31, 3) := by decide +kernel
theorem d_bl_hasPlace_16 : decode bl_hasPlace.2.1 16 = .ok (.iload_n 2, 1) := by decide +kernel
theorem d_bl_hasPlace_17 : decode bl_hasPlace.2.1 17 = .ok (.aload_n 0, 1) := by decide +kernel
theorem d_bl_hasPlace_18 : decode bl_hasPlace.2.1 18 = .ok (.getfield 23, 3) := by decide +kernel
theorem d_bl_hasPlace_21 : decode bl_hasPlace.2.1 21 = .ok (.if_icmp .ge 23, 3) := by decide +kernel
theorem d_bl_hasPlace_24 : decode bl_hasPlace.2.1 24 = .ok (.iload_n 1, 1) := by decide +kernel
theorem d_bl_hasPlace_25 : decode bl_hasPlace.2.1 25 = .ok (.aload_n 0, 1) := by decide +kernel
theorem d_bl_hasPlace_26 : decode bl_hasPlace.2.1 26 = .ok (.getfield 23, 3) := by decide +kernel
theorem d_bl_hasPlace_29 : decode bl_hasPlace.2.1 29 = .ok (.imul, 1) := by decide +kernel
theorem d_bl_hasPlace_30 : decode bl_hasPlace.2.1 30 = .ok (.iload_n 2, 1) := by decide +kernel
theorem d_bl_hasPlace_31 : decode bl_hasPlace.2.1 31 = .ok (.iadd, 1) := by decide +kernel
theorem d_bl_hasPlace_32 : decode bl_hasPlace.2.1 32 = .ok (.aload_n 0, 1) := by decide +kernel
theorem d_bl_hasPlace_33 : decode bl_hasPlace.2.1 33 = .ok (.getfield 13, 3) := by decide +kernel
theorem d_bl_hasPlace_36 : decode bl_hasPlace.2.1 36 = .ok (.arraylength, 1) := by decide +kernel
theorem d_bl_hasPlace_37 : decode bl_hasPlace.2.1 37 = .ok (.if_icmp .ge 7, 3) := by decide +kernel
theorem d_bl_hasPlace_40 : decode bl_hasPlace.2.1 40 = .ok (.iconst 1, 1) := by decide +kernel
theorem d_bl_hasPlace_41 : decode bl_hasPlace.2.1 41 = .ok (.goto 4, 3) := by decide +kernel
theorem d_bl_hasPlace_44 : decode bl_hasPlace.2.1 44 = .ok (.iconst 0, 1) := by decide +kernel
theorem d_bl_hasPlace_45 : decode bl_hasPlace.2.1 45 = .ok (.ireturn, 1) := by decide +kernel
theorem d_bl_cellAt_0 : decode bl_cellAt.2.1 0 = .ok (.aload_n 0, 1) := by decide +kernel
theorem d_bl_cellAt_1 : decode bl_cellAt.2.1 1 = .ok (.iload_n 1, 1) := by decide +kernel
theorem d_bl_cellAt_2 : decode bl_cellAt.2.1 2 = .ok (.iload_n 2, 1) := by decide +kernel
theorem d_bl_cellAt_3 : decode bl_cellAt.2.1 3 = .ok (.invokevirtual 26, 3) := by decide +kernel
theorem d_bl_cellAt_6 : decode bl_cellAt.2.1 6 = .ok (.ifCond .eq 19, 3) := by decide +kernel
theorem d_bl_cellAt_9 : decode bl_cellAt.2.1 9 = .ok (.aload_n 0, 1) := by decide +kernel
theorem d_bl_cellAt_10 : decode bl_cellAt.2.1 10 = .ok (.getfield 13, 3) := by decide +kernel
theorem d_bl_cellAt_13 : decode bl_cellAt.2.1 13 = .ok (.iload_n 1, 1) := by decide +kernel
theorem d_bl_cellAt_14 : decode bl_cellAt.2.1 14 = .ok (.aload_n 0, 1) := by decide +kernel
theorem d_bl_cellAt_15 : decode bl_cellAt.2.1 15 = .ok (.getfield 23, 3) := by decide +kernel
theorem d_bl_cellAt_18 : decode bl_cellAt.2.1 18 = .ok (.imul, 1) := by decide +kernel
theorem d_bl_cellAt_19 : decode bl_cellAt.2.1 19 = .ok (.iload_n 2, 1) := by decide +kernel
theorem d_bl_cellAt_20 : decode bl_cellAt.2.1 20 = .ok (.iadd, 1) := by decide +kernel
theorem d_bl_cellAt_21 : decode bl_cellAt.2.1 21 = .ok (.iaload, 1) := by decide +kernel
theorem d_bl_cellAt_22 : decode bl_cellAt.2.1 22 = .ok (.goto 5, 3) := by decide +kernel
theorem d_bl_cellAt_25 : decode bl_cellAt.2.1 25 = .ok (.bipush (-2), 2) := by decide +kernel
theorem d_bl_cellAt_27 : decode bl_cellAt.2.1 27 = .ok (.ireturn, 1) := by decide +kernel
theorem d_bl_setCell_0 : decode bl_setCell.2.1 0 = .ok (.aload_n 0, 1) := by decide +kernel
theorem d_bl_setCell_1 : decode bl_setCell.2.1 1 = .ok (.iload_n 1, 1) := by decide +kernel
theorem d_bl_setCell_2 : decode bl_setCell.2.1 2 = .ok (.iload_n 2, 1) := by decide +kernel
theorem d_bl_setCell_3 : decode bl_setCell.2.1 3 = .ok (.invokevirtual 26, 3) := by decide +kernel
theorem d_bl_setCell_6 : decode bl_setCell.2.1 6 = .ok (.ifCond .eq 17, 3) := by decide +kernel
theorem d_bl_setCell_9 : decode bl_setCell.2.1 9 = .ok (.aload_n 0, 1) := by decide +kernel
theorem d_bl_setCell_10 : decode bl_setCell.2.1 10 = .ok (.getfield 13, 3) := by decide +kernel
theorem d_bl_setCell_13 : decode bl_setCell.2.1 13 = .ok (.iload_n 1, 1) := by decide +kernel
theorem d_bl_setCell_14 : decode bl_setCell.2.1 14 = .ok (.aload_n 0, 1) := by decide +kernel
theorem d_bl_setCell_15 : decode bl_setCell.2.1 15 = .ok (.getfield 23, 3) := by decide +kernel
theorem d_bl_setCell_18 : decode bl_setCell.2.1 18 = .ok (.imul, 1) := by decide +kernel
theorem d_bl_setCell_19 : decode bl_setCell.2.1 19 = .ok (.iload_n 2, 1) := by decide +kernel
theorem d_bl_setCell_20 : decode bl_setCell.2.1 20 = .ok (.iadd, 1) := by decide +kernel
theorem d_bl_setCell_21 : decode bl_setCell.2.1 21 = .ok (.iload_n 3, 1) := by decide +kernel
theorem d_bl_setCell_22 : decode bl_setCell.2.1 22 = .ok (.iastore, 1) := by decide +kernel
theorem d_bl_setCell_23 : decode bl_setCell.2.1 23 = .ok (.return_, 1) := by decide +kernel
theorem d_bl_filledCells_0 : decode bl_filledCells.2.1 0 = .ok (.iconst 0, 1) := by decide +kernel
theorem d_bl_filledCells_1 : decode bl_filledCells.2.1 1 = .ok (.istore_n 1, 1) := by decide +kernel
theorem d_bl_filledCells_2 : decode bl_filledCells.2.1 2 = .ok (.iconst 0, 1) := by decide +kernel
theorem d_bl_filledCells_3 : decode bl_filledCells.2.1 3 = .ok (.istore_n 2, 1) := by decide +kernel
theorem d_bl_filledCells_4 : decode bl_filledCells.2.1 4 = .ok (.iload_n 2, 1) := by decide +kernel
theorem d_bl_filledCells_5 : decode bl_filledCells.2.1 5 = .ok (.aload_n 0, 1) := by decide +kernel
theorem d_bl_filledCells_6 : decode bl_filledCells.2.1 6 = .ok (.getfield 19, 3) := by decide +kernel
theorem d_bl_filledCells_9 : decode bl_filledCells.2.1 9 = .ok (.if_icmp .ge 42, 3) := by decide +kernel
theorem d_bl_filledCells_12 : decode bl_filledCells.2.1 12 = .ok (.iconst 0, 1) := by decide +kernel
theorem d_bl_filledCells_13 : decode bl_filledCells.2.1 13 = .ok (.istore_n 3, 1) := by decide +kernel
theorem d_bl_filledCells_14 : decode bl_filledCells.2.1 14 = .ok (.iload_n 3, 1) := by decide +kernel
theorem d_bl_filledCells_15 : decode bl_filledCells.2.1 15 = .ok (.aload_n 0, 1) := by decide +kernel
theorem d_bl_filledCells_16 : decode bl_filledCells.2.1 16 = .ok (.getfield 23, 3) := by decide +kernel
theorem d_bl_filledCells_19 : decode bl_filledCells.2.1 19 = .ok (.if_icmp .ge 26, 3) := by decide +kernel
theorem d_bl_filledCells_22 : decode bl_filledCells.2.1 22 = .ok (.iload_n 1, 1) := by decide +kernel
theorem d_bl_filledCells_23 : decode bl_filledCells.2.1 23 = .ok (.aload_n 0, 1) := by decide +kernel
theorem d_bl_filledCells_24 : decode bl_filledCells.2.1 24 = .ok (.iload_n 2, 1) := by decide +kernel
theorem d_bl_filledCells_25 : decode bl_filledCells.2.1 25 = .ok (.iload_n 3, 1) := by decide +kernel
theorem d_bl_filledCells_26 : decode bl_filledCells.2.1 26 = .ok (.invokevirtual 32, 3) := by decide +kernel
theorem d_bl_filledCells_29 : decode bl_filledCells.2.1 29 = .ok (.ifCond .lt 7, 3) := by decide +kernel
theorem d_bl_filledCells_32 : decode bl_filledCells.2.1 32 = .ok (.iconst 1, 1) := by decide +kernel
theorem d_bl_filledCells_33 : decode bl_filledCells.2.1 33 = .ok (.goto 4, 3) := by decide +kernel
theorem d_bl_filledCells_36 : decode bl_filledCells.2.1 36 = .ok (.iconst 0, 1) := by decide +kernel
theorem d_bl_filledCells_37 : decode bl_filledCells.2.1 37 = .ok (.iadd, 1) := by decide +kernel
theorem d_bl_filledCells_38 : decode bl_filledCells.2.1 38 = .ok (.istore_n 1, 1) := by decide +kernel
theorem d_bl_filledCells_39 : decode bl_filledCells.2.1 39 = .ok (.iinc 3 1, 3) := by decide +kernel
theorem d_bl_filledCells_42 : decode bl_filledCells.2.1 42 = .ok (.goto (-28), 3) := by decide +kernel
theorem d_bl_filledCells_45 : decode bl_filledCells.2.1 45 = .ok (.iinc 2 1, 3) := by decide +kernel
theorem d_bl_filledCells_48 : decode bl_filledCells.2.1 48 = .ok (.goto (-44), 3) := by decide +kernel
theorem d_bl_filledCells_51 : decode bl_filledCells.2.1 51 = .ok (.iload_n 1, 1) := by decide +kernel
theorem d_bl_filledCells_52 : decode bl_filledCells.2.1 52 = .ok (.ireturn, 1) := by decide +kernel
theorem d_bl_takePattern_0 : decode bl_takePattern.2.1 0 = .ok (.aload_n 0, 1) := by decide +kernel
theorem d_bl_takePattern_1 : decode bl_takePattern.2.1 1 = .ok (.iload 4, 2) := by decide +kernel
theorem d_bl_takePattern_3 : decode bl_takePattern.2.1 3 = .ok (.putfield 19, 3) := by decide +kernel
theorem d_bl_takePattern_6 : decode bl_takePattern.2.1 6 = .ok (.aload_n 0, 1) := by decide +kernel
theorem d_bl_takePattern_7 : decode bl_takePattern.2.1 7 = .ok (.iload 5, 2) := by decide +kernel
theorem d_bl_takePattern_9 : decode bl_takePattern.2.1 9 = .ok (.putfield 23, 3) := by decide +kernel
theorem d_bl_takePattern_12 : decode bl_takePattern.2.1 12 = .ok (.iconst 0, 1) := by decide +kernel
theorem d_bl_takePattern_13 : decode bl_takePattern.2.1 13 = .ok (.istore 6, 2) := by decide +kernel
theorem d_bl_takePattern_15 : decode bl_takePattern.2.1 15 = .ok (.iload 6, 2) := by decide +kernel
theorem d_bl_takePattern_17 : decode bl_takePattern.2.1 17 = .ok (.aload_n 0, 1) := by decide +kernel
theorem d_bl_takePattern_18 : decode bl_takePattern.2.1 18 = .ok (.getfield 19, 3) := by decide +kernel
theorem d_bl_takePattern_21 : decode bl_takePattern.2.1 21 = .ok (.if_icmp .ge 51, 3) := by decide +kernel
theorem d_bl_takePattern_24 : decode bl_takePattern.2.1 24 = .ok (.iconst 0, 1) := by decide +kernel
theorem d_bl_takePattern_25 : decode bl_takePattern.2.1 25 = .ok (.istore 7, 2) := by decide +kernel
theorem d_bl_takePattern_27 : decode bl_takePattern.2.1 27 = .ok (.iload 7, 2) := by decide +kernel
theorem d_bl_takePattern_29 : decode bl_takePattern.2.1 29 = .ok (.aload_n 0, 1) := by decide +kernel
theorem d_bl_takePattern_30 : decode bl_takePattern.2.1 30 = .ok (.getfield 23, 3) := by decide +kernel
theorem d_bl_takePattern_33 : decode bl_takePattern.2.1 33 = .ok (.if_icmp .ge 33, 3) := by decide +kernel
theorem d_bl_takePattern_36 : decode bl_takePattern.2.1 36 = .ok (.aload_n 0, 1) := by decide +kernel
theorem d_bl_takePattern_37 : decode bl_takePattern.2.1 37 = .ok (.iload 6, 2) := by decide +kernel
theorem d_bl_takePattern_39 : decode bl_takePattern.2.1 39 = .ok (.iload 7, 2) := by decide +kernel
theorem d_bl_takePattern_41 : decode bl_takePattern.2.1 41 = .ok (.aload_n 1, 1) := by decide +kernel
theorem d_bl_takePattern_42 : decode bl_takePattern.2.1 42 = .ok (.iload_n 2, 1) := by decide +kernel
theorem d_bl_takePattern_43 : decode bl_takePattern.2.1 43 = .ok (.i2l, 1) := by decide +kernel
theorem d_bl_takePattern_44 : decode bl_takePattern.2.1 44 = .ok (.iload 6, 2) := by decide +kernel
theorem d_bl_takePattern_46 : decode bl_takePattern.2.1 46 = .ok (.i2l, 1) := by decide +kernel
theorem d_bl_takePattern_47 : decode bl_takePattern.2.1 47 = .ok (.ladd, 1) := by decide +kernel
theorem d_bl_takePattern_48 : decode bl_takePattern.2.1 48 = .ok (.iload_n 3, 1) := by decide +kernel
theorem d_bl_takePattern_49 : decode bl_takePattern.2.1 49 = .ok (.i2l, 1) := by decide +kernel
theorem d_bl_takePattern_50 : decode bl_takePattern.2.1 50 = .ok (.iload 7, 2) := by decide +kernel
theorem d_bl_takePattern_52 : decode bl_takePattern.2.1 52 = .ok (.i2l, 1) := by decide +kernel
theorem d_bl_takePattern_53 : decode bl_takePattern.2.1 53 = .ok (.ladd, 1) := by decide +kernel
theorem d_bl_takePattern_54 : decode bl_takePattern.2.1 54 = .ok (.invokevirtual 35, 3) := by decide +kernel
theorem d_bl_takePattern_57 : decode bl_takePattern.2.1 57 = .ok (.invokevirtual 40, 3) := by decide +kernel
theorem d_bl_takePattern_60 : decode bl_takePattern.2.1 60 = .ok (.iinc 7 1, 3) := by decide +kernel
theorem d_bl_takePattern_63 : decode bl_takePattern.2.1 63 = .ok (.goto (-36), 3) := by decide +kernel
theorem d_bl_takePattern_66 : decode bl_takePattern.2.1 66 = .ok (.iinc 6 1, 3) := by decide +kernel
theorem d_bl_takePattern_69 : decode bl_takePattern.2.1 69 = .ok (.goto (-54), 3) := by decide +kernel
theorem d_bl_takePattern_72 : decode bl_takePattern.2.1 72 = .ok (.return_, 1) := by decide +kernel
theorem d_bl_takeWhole_0 : decode bl_takeWhole.2.1 0 = .ok (.aload_n 0, 1) := by decide +kernel
theorem d_bl_takeWhole_1 : decode bl_takeWhole.2.1 1 = .ok (.aload_n 1, 1) := by decide +kernel
theorem d_bl_takeWhole_2 : decode bl_takeWhole.2.1 2 = .ok (.iconst 0, 1) := by decide +kernel
theorem d_bl_takeWhole_3 : decode bl_takeWhole.2.1 3 = .ok (.iconst 0, 1) := by decide +kernel
theorem d_bl_takeWhole_4 : decode bl_takeWhole.2.1 4 = .ok (.aload_n 1, 1) := by decide +kernel
theorem d_bl_takeWhole_5 : decode bl_takeWhole.2.1 5 = .ok (.getfield 44, 3) := by decide +kernel
theorem d_bl_takeWhole_8 : decode bl_takeWhole.2.1 8 = .ok (.aload_n 1, 1) := by decide +kernel
theorem d_bl_takeWhole_9 : decode bl_takeWhole.2.1 9 = .ok (.iconst 0, 1) := by decide +kernel
theorem d_bl_takeWhole_10 : decode bl_takeWhole.2.1 10 = .ok (.invokevirtual 47, 3) := by decide +kernel
theorem d_bl_takeWhole_13 : decode bl_takeWhole.2.1 13 = .ok (.invokevirtual 51, 3) := by decide +kernel
theorem d_bl_takeWhole_16 : decode bl_takeWhole.2.1 16 = .ok (.return_, 1) := by decide +kernel
theorem d_bl_takeMoved_0 : decode bl_takeMoved.2.1 0 = .ok (.iload_n 2, 1) := by decide +kernel
theorem d_bl_takeMoved_1 : decode bl_takeMoved.2.1 1 = .ok (.iconst 1, 1) := by decide +kernel
theorem d_bl_takeMoved_2 : decode bl_takeMoved.2.1 2 = .ok (.iand, 1) := by decide +kernel
theorem d_bl_takeMoved_3 : decode bl_takeMoved.2.1 3 = .ok (.iconst 1, 1) := by decide +kernel
theorem d_bl_takeMoved_4 : decode bl_takeMoved.2.1 4 = .ok (.if_icmp .ne 7, 3) := by decide +kernel
theorem d_bl_takeMoved_7 : decode bl_takeMoved.2.1 7 = .ok (.iconst 1, 1) := by decide +kernel
theorem d_bl_takeMoved_8 : decode bl_takeMoved.2.1 8 = .ok (.goto 4, 3) := by decide +kernel
theorem d_bl_takeMoved_11 : decode bl_takeMoved.2.1 11 = .ok (.iconst 0, 1) := by decide +kernel
theorem d_bl_takeMoved_12 : decode bl_takeMoved.2.1 12 = .ok (.istore 4, 2) := by decide +kernel
theorem d_bl_takeMoved_14 : decode bl_takeMoved.2.1 14 = .ok (.aload_n 0, 1) := by decide +kernel
theorem d_bl_takeMoved_15 : decode bl_takeMoved.2.1 15 = .ok (.iload 4, 2) := by decide +kernel
theorem d_bl_takeMoved_17 : decode bl_takeMoved.2.1 17 = .ok (.ifCond .eq 10, 3) := by decide +kernel
theorem d_bl_takeMoved_20 : decode bl_takeMoved.2.1 20 = .ok (.aload_n 1, 1) := by decide +kernel
theorem d_bl_takeMoved_21 : decode bl_takeMoved.2.1 21 = .ok (.getfield 23, 3) := by decide +kernel
theorem d_bl_takeMoved_24 : decode bl_takeMoved.2.1 24 = .ok (.goto 7, 3) := by decide +kernel
theorem d_bl_takeMoved_27 : decode bl_takeMoved.2.1 27 = .ok (.aload_n 1, 1) := by decide +kernel
theorem d_bl_takeMoved_28 : decode bl_takeMoved.2.1 28 = .ok (.getfield 19, 3) := by decide +kernel
theorem d_bl_takeMoved_31 : decode bl_takeMoved.2.1 31 = .ok (.putfield 19, 3) := by decide +kernel
theorem d_bl_takeMoved_34 : decode bl_takeMoved.2.1 34 = .ok (.aload_n 0, 1) := by decide +kernel
theorem d_bl_takeMoved_35 : decode bl_takeMoved.2.1 35 = .ok (.iload 4, 2) := by decide +kernel
theorem d_bl_takeMoved_37 : decode bl_takeMoved.2.1 37 = .ok (.ifCond .eq 10, 3) := by decide +kernel
theorem d_bl_takeMoved_40 : decode bl_takeMoved.2.1 40 = .ok (.aload_n 1, 1) := by decide +kernel
theorem d_bl_takeMoved_41 : decode bl_takeMoved.2.1 41 = .ok (.getfield 19, 3) := by decide +kernel
theorem d_bl_takeMoved_44 : decode bl_takeMoved.2.1 44 = .ok (.goto 7, 3) := by decide +kernel
theorem d_bl_takeMoved_47 : decode bl_takeMoved.2.1 47 = .ok (.aload_n 1, 1) := by decide +kernel
theorem d_bl_takeMoved_48 : decode bl_takeMoved.2.1 48 = .ok (.getfield 23, 3) := by decide +kernel
theorem d_bl_takeMoved_51 : decode bl_takeMoved.2.1 51 = .ok (.putfield 23, 3) := by decide +kernel
theorem d_bl_takeMoved_54 : decode bl_takeMoved.2.1 54 = .ok (.iconst 0, 1) := by decide +kernel
theorem d_bl_takeMoved_55 : decode bl_takeMoved.2.1 55 = .ok (.istore 5, 2) := by decide +kernel
theorem d_bl_takeMoved_57 : decode bl_takeMoved.2.1 57 = .ok (.iload 5, 2) := by decide +kernel
theorem d_bl_takeMoved_59 : decode bl_takeMoved.2.1 59 = .ok (.aload_n 1, 1) := by decide +kernel
theorem d_bl_takeMoved_60 : decode bl_takeMoved.2.1 60 = .ok (.getfield 19, 3) := by decide +kernel
theorem d_bl_takeMoved_63 : decode bl_takeMoved.2.1 63 = .ok (.if_icmp .ge 170, 3) := by decide +kernel
theorem d_bl_takeMoved_66 : decode bl_takeMoved.2.1 66 = .ok (.iconst 0, 1) := by decide +kernel
theorem d_bl_takeMoved_67 : decode bl_takeMoved.2.1 67 = .ok (.istore 6, 2) := by decide +kernel
theorem d_bl_takeMoved_69 : decode bl_takeMoved.2.1 69 = .ok (.iload 6, 2) := by decide +kernel
theorem d_bl_takeMoved_71 : decode bl_takeMoved.2.1 71 = .ok (.aload_n 1, 1) := by decide +kernel
theorem d_bl_takeMoved_72 : decode bl_takeMoved.2.1 72 = .ok (.getfield 23, 3) := by decide +kernel
theorem d_bl_takeMoved_75 : decode bl_takeMoved.2.1 75 = .ok (.if_icmp .ge 152, 3) := by decide +kernel
theorem d_bl_takeMoved_78 : decode bl_takeMoved.2.1 78 = .ok (.aload_n 3, 1) := by decide +kernel
theorem d_bl_takeMoved_79 : decode bl_takeMoved.2.1 79 = .ok (.aload_n 1, 1) := by decide +kernel
theorem d_bl_takeMoved_80 : decode bl_takeMoved.2.1 80 = .ok (.iload 5, 2) := by decide +kernel
theorem d_bl_takeMoved_82 : decode bl_takeMoved.2.1 82 = .ok (.iload 6, 2) := by decide +kernel
theorem d_bl_takeMoved_84 : decode bl_takeMoved.2.1 84 = .ok (.invokevirtual 32, 3) := by decide +kernel
theorem d_bl_takeMoved_87 : decode bl_takeMoved.2.1 87 = .ok (.iload_n 2, 1) := by decide +kernel
theorem d_bl_takeMoved_88 : decode bl_takeMoved.2.1 88 = .ok (.invokevirtual 55, 3) := by decide +kernel
theorem d_bl_takeMoved_91 : decode bl_takeMoved.2.1 91 = .ok (.istore 7, 2) := by decide +kernel
theorem d_bl_takeMoved_93 : decode bl_takeMoved.2.1 93 = .ok (.iload_n 2, 1) := by decide +kernel
theorem d_bl_takeMoved_94 : decode bl_takeMoved.2.1 94 = .ok (.iconst 4, 1) := by decide +kernel
theorem d_bl_takeMoved_95 : decode bl_takeMoved.2.1 95 = .ok (.if_icmp .lt 15, 3) := by decide +kernel
theorem d_bl_takeMoved_98 : decode bl_takeMoved.2.1 98 = .ok (.aload_n 1, 1) := by decide +kernel
theorem d_bl_takeMoved_99 : decode bl_takeMoved.2.1 99 = .ok (.getfield 23, 3) := by decide +kernel
theorem d_bl_takeMoved_102 : decode bl_takeMoved.2.1 102 = .ok (.iconst 1, 1) := by decide +kernel
theorem d_bl_takeMoved_103 : decode bl_takeMoved.2.1 103 = .ok (.isub, 1) := by decide +kernel
theorem d_bl_takeMoved_104 : decode bl_takeMoved.2.1 104 = .ok (.iload 6, 2) := by decide +kernel
theorem d_bl_takeMoved_106 : decode bl_takeMoved.2.1 106 = .ok (.isub, 1) := by decide +kernel
theorem d_bl_takeMoved_107 : decode bl_takeMoved.2.1 107 = .ok (.goto 5, 3) := by decide +kernel
theorem d_bl_takeMoved_110 : decode bl_takeMoved.2.1 110 = .ok (.iload 6, 2) := by decide +kernel
theorem d_bl_takeMoved_112 : decode bl_takeMoved.2.1 112 = .ok (.istore 8, 2) := by decide +kernel
theorem d_bl_takeMoved_114 : decode bl_takeMoved.2.1 114 = .ok (.iload_n 2, 1) := by decide +kernel
theorem d_bl_takeMoved_115 : decode bl_takeMoved.2.1 115 = .ok (.iconst 3, 1) := by decide +kernel
theorem d_bl_takeMoved_116 : decode bl_takeMoved.2.1 116 = .ok (.iand, 1) := by decide +kernel
theorem d_bl_takeMoved_117 : decode bl_takeMoved.2.1 117 = .ok (.tableswitch 87 0 2 #[27, 40, 60], 27) := by decide +kernel
theorem d_bl_takeMoved_144 : decode bl_takeMoved.2.1 144 = .ok (.aload_n 0, 1) := by decide +kernel
theorem d_bl_takeMoved_145 : decode bl_takeMoved.2.1 145 = .ok (.iload 5, 2) := by decide +kernel
theorem d_bl_takeMoved_147 : decode bl_takeMoved.2.1 147 = .ok (.iload 8, 2) := by decide +kernel
theorem d_bl_takeMoved_149 : decode bl_takeMoved.2.1 149 = .ok (.iload 7, 2) := by decide +kernel
theorem d_bl_takeMoved_151 : decode bl_takeMoved.2.1 151 = .ok (.invokevirtual 40, 3) := by decide +kernel
theorem d_bl_takeMoved_154 : decode bl_takeMoved.2.1 154 = .ok (.goto 67, 3) := by decide +kernel
theorem d_bl_takeMoved_157 : decode bl_takeMoved.2.1 157 = .ok (.aload_n 0, 1) := by decide +kernel
theorem d_bl_takeMoved_158 : decode bl_takeMoved.2.1 158 = .ok (.iload 8, 2) := by decide +kernel
theorem d_bl_takeMoved_160 : decode bl_takeMoved.2.1 160 = .ok (.aload_n 1, 1) := by decide +kernel
theorem d_bl_takeMoved_161 : decode bl_takeMoved.2.1 161 = .ok (.getfield 19, 3) := by decide +kernel
theorem d_bl_takeMoved_164 : decode bl_takeMoved.2.1 164 = .ok (.iconst 1, 1) := by decide +kernel
theorem d_bl_takeMoved_165 : decode bl_takeMoved.2.1 165 = .ok (.isub, 1) := by decide +kernel
theorem d_bl_takeMoved_166 : decode bl_takeMoved.2.1 166 = .ok (.iload 5, 2) := by decide +kernel
theorem d_bl_takeMoved_168 : decode bl_takeMoved.2.1 168 = .ok (.isub, 1) := by decide +kernel
theorem d_bl_takeMoved_169 : decode bl_takeMoved.2.1 169 = .ok (.iload 7, 2) := by decide +kernel
theorem d_bl_takeMoved_171 : decode bl_takeMoved.2.1 171 = .ok (.invokevirtual 40, 3) := by decide +kernel
theorem d_bl_takeMoved_174 : decode bl_takeMoved.2.1 174 = .ok (.goto 47, 3) := by decide +kernel
theorem d_bl_takeMoved_177 : decode bl_takeMoved.2.1 177 = .ok (.aload_n 0, 1) := by decide +kernel
theorem d_bl_takeMoved_178 : decode bl_takeMoved.2.1 178 = .ok (.aload_n 1, 1) := by decide +kernel
theorem d_bl_takeMoved_179 : decode bl_takeMoved.2.1 179 = .ok (.getfield 19, 3) := by decide +kernel
theorem d_bl_takeMoved_182 : decode bl_takeMoved.2.1 182 = .ok (.iconst 1, 1) := by decide +kernel
theorem d_bl_takeMoved_183 : decode bl_takeMoved.2.1 183 = .ok (.isub, 1) := by decide +kernel
theorem d_bl_takeMoved_184 : decode bl_takeMoved.2.1 184 = .ok (.iload 5, 2) := by decide +kernel
theorem d_bl_takeMoved_186 : decode bl_takeMoved.2.1 186 = .ok (.isub, 1) := by decide +kernel
theorem d_bl_takeMoved_187 : decode bl_takeMoved.2.1 187 = .ok (.aload_n 1, 1) := by decide +kernel
theorem d_bl_takeMoved_188 : decode bl_takeMoved.2.1 188 = .ok (.getfield 23, 3) := by decide +kernel
theorem d_bl_takeMoved_191 : decode bl_takeMoved.2.1 191 = .ok (.iconst 1, 1) := by decide +kernel
theorem d_bl_takeMoved_192 : decode bl_takeMoved.2.1 192 = .ok (.isub, 1) := by decide +kernel
theorem d_bl_takeMoved_193 : decode bl_takeMoved.2.1 193 = .ok (.iload 8, 2) := by decide +kernel
theorem d_bl_takeMoved_195 : decode bl_takeMoved.2.1 195 = .ok (.isub, 1) := by decide +kernel
theorem d_bl_takeMoved_196 : decode bl_takeMoved.2.1 196 = .ok (.iload 7, 2) := by decide +kernel
theorem d_bl_takeMoved_198 : decode bl_takeMoved.2.1 198 = .ok (.invokevirtual 40, 3) := by decide +kernel
theorem d_bl_takeMoved_201 : decode bl_takeMoved.2.1 201 = .ok (.goto 20, 3) := by decide +kernel
theorem d_bl_takeMoved_204 : decode bl_takeMoved.2.1 204 = .ok (.aload_n 0, 1) := by decide +kernel
theorem d_bl_takeMoved_205 : decode bl_takeMoved.2.1 205 = .ok (.aload_n 1, 1) := by decide +kernel
theorem d_bl_takeMoved_206 : decode bl_takeMoved.2.1 206 = .ok (.getfield 23, 3) := by decide +kernel
theorem d_bl_takeMoved_209 : decode bl_takeMoved.2.1 209 = .ok (.iconst 1, 1) := by decide +kernel
theorem d_bl_takeMoved_210 : decode bl_takeMoved.2.1 210 = .ok (.isub, 1) := by decide +kernel
theorem d_bl_takeMoved_211 : decode bl_takeMoved.2.1 211 = .ok (.iload 8, 2) := by decide +kernel
theorem d_bl_takeMoved_213 : decode bl_takeMoved.2.1 213 = .ok (.isub, 1) := by decide +kernel
theorem d_bl_takeMoved_214 : decode bl_takeMoved.2.1 214 = .ok (.iload 5, 2) := by decide +kernel
theorem d_bl_takeMoved_216 : decode bl_takeMoved.2.1 216 = .ok (.iload 7, 2) := by decide +kernel
theorem d_bl_takeMoved_218 : decode bl_takeMoved.2.1 218 = .ok (.invokevirtual 40, 3) := by decide +kernel
theorem d_bl_takeMoved_221 : decode bl_takeMoved.2.1 221 = .ok (.iinc 6 1, 3) := by decide +kernel
theorem d_bl_takeMoved_224 : decode bl_takeMoved.2.1 224 = .ok (.goto (-155), 3) := by decide +kernel
theorem d_bl_takeMoved_227 : decode bl_takeMoved.2.1 227 = .ok (.iinc 5 1, 3) := by decide +kernel
theorem d_bl_takeMoved_230 : decode bl_takeMoved.2.1 230 = .ok (.goto (-173), 3) := by decide +kernel
theorem d_bl_takeMoved_233 : decode bl_takeMoved.2.1 233 = .ok (.return_, 1) := by decide +kernel
theorem d_bo_init_0 : decode bo_init.2.1 0 = .ok (.aload_n 0, 1) := by decide +kernel
theorem d_bo_init_1 : decode bo_init.2.1 1 = .ok (.invokespecial 3, 3) := by decide +kernel
theorem d_bo_init_4 : decode bo_init.2.1 4 = .ok (.aload_n 0, 1) := by decide +kernel
theorem d_bo_init_5 : decode bo_init.2.1 5 = .ok (.bipush 64, 2) := by decide +kernel
theorem d_bo_init_7 : decode bo_init.2.1 7 = .ok (.newarray .int, 2) := by decide +kernel
theorem d_bo_init_9 : decode bo_init.2.1 9 = .ok (.putfield 11, 3) := by decide +kernel
theorem d_bo_init_12 : decode bo_init.2.1 12 = .ok (.aload_n 0, 1) := by decide +kernel
theorem d_bo_init_13 : decode bo_init.2.1 13 = .ok (.bipush 64, 2) := by decide +kernel
theorem d_bo_init_15 : decode bo_init.2.1 15 = .ok (.newarray .boolean, 2) := by decide +kernel
theorem d_bo_init_17 : decode bo_init.2.1 17 = .ok (.putfield 17, 3) := by decide +kernel
theorem d_bo_init_20 : decode bo_init.2.1 20 = .ok (.aload_n 0, 1) := by decide +kernel
theorem d_bo_init_21 : decode bo_init.2.1 21 = .ok (.sipush 256, 3) := by decide +kernel
theorem d_bo_init_24 : decode bo_init.2.1 24 = .ok (.newarray .int, 2) := by decide +kernel
theorem d_bo_init_26 : decode bo_init.2.1 26 = .ok (.putfield 21, 3) := by decide +kernel
theorem d_bo_init_29 : decode bo_init.2.1 29 = .ok (.aload_n 0, 1) := by decide +kernel
theorem d_bo_init_30 : decode bo_init.2.1 30 = .ok (.bipush 64, 2) := by decide +kernel
theorem d_bo_init_32 : decode bo_init.2.1 32 = .ok (.newarray .int, 2) := by decide +kernel
theorem d_bo_init_34 : decode bo_init.2.1 34 = .ok (.putfield 24, 3) := by decide +kernel
theorem d_bo_init_37 : decode bo_init.2.1 37 = .ok (.aload_n 0, 1) := by decide +kernel
theorem d_bo_init_38 : decode bo_init.2.1 38 = .ok (.bipush 40, 2) := by decide +kernel
theorem d_bo_init_40 : decode bo_init.2.1 40 = .ok (.newarray .int, 2) := by decide +kernel
theorem d_bo_init_42 : decode bo_init.2.1 42 = .ok (.putfield 29, 3) := by decide +kernel
theorem d_bo_init_45 : decode bo_init.2.1 45 = .ok (.aload_n 0, 1) := by decide +kernel
theorem d_bo_init_46 : decode bo_init.2.1 46 = .ok (.iconst 5, 1) := by decide +kernel
theorem d_bo_init_47 : decode bo_init.2.1 47 = .ok (.newarray .long, 2) := by decide +kernel
theorem d_bo_init_49 : decode bo_init.2.1 49 = .ok (.putfield 34, 3) := by decide +kernel
theorem d_bo_init_52 : decode bo_init.2.1 52 = .ok (.aload_n 0, 1) := by decide +kernel
theorem d_bo_init_53 : decode bo_init.2.1 53 = .ok (.bipush 64, 2) := by decide +kernel
theorem d_bo_init_55 : decode bo_init.2.1 55 = .ok (.newarray .int, 2) := by decide +kernel
theorem d_bo_init_57 : decode bo_init.2.1 57 = .ok (.putfield 38, 3) := by decide +kernel
theorem d_bo_init_60 : decode bo_init.2.1 60 = .ok (.aload_n 0, 1) := by decide +kernel
theorem d_bo_init_61 : decode bo_init.2.1 61 = .ok (.aload_n 1, 1) := by decide +kernel
theorem d_bo_init_62 : decode bo_init.2.1 62 = .ok (.putfield 41, 3) := by decide +kernel
theorem d_bo_init_65 : decode bo_init.2.1 65 = .ok (.return_, 1) := by decide +kernel
theorem d_bo_begin_0 : decode bo_begin.2.1 0 = .ok (.aload_n 0, 1) := by decide +kernel
theorem d_bo_begin_1 : decode bo_begin.2.1 1 = .ok (.getfield 41, 3) := by decide +kernel
theorem d_bo_begin_4 : decode bo_begin.2.1 4 = .ok (.aload_n 1, 1) := by decide +kernel
theorem d_bo_begin_5 : decode bo_begin.2.1 5 = .ok (.invokevirtual 45, 3) := by decide +kernel
theorem d_bo_begin_8 : decode bo_begin.2.1 8 = .ok (.aload_n 0, 1) := by decide +kernel
theorem d_bo_begin_9 : decode bo_begin.2.1 9 = .ok (.aload_n 1, 1) := by decide +kernel
theorem d_bo_begin_10 : decode bo_begin.2.1 10 = .ok (.getfield 49, 3) := by decide +kernel
theorem d_bo_begin_13 : decode bo_begin.2.1 13 = .ok (.putfield 53, 3) := by decide +kernel
theorem d_bo_begin_16 : decode bo_begin.2.1 16 = .ok (.aload_n 0, 1) := by decide +kernel
theorem d_bo_begin_17 : decode bo_begin.2.1 17 = .ok (.aload_n 1, 1) := by decide +kernel
theorem d_bo_begin_18 : decode bo_begin.2.1 18 = .ok (.getfield 54, 3) := by decide +kernel
theorem d_bo_begin_21 : decode bo_begin.2.1 21 = .ok (.putfield 57, 3) := by decide +kernel
theorem d_bo_begin_24 : decode bo_begin.2.1 24 = .ok (.aload_n 0, 1) := by decide +kernel
theorem d_bo_begin_25 : decode bo_begin.2.1 25 = .ok (.iconst 0, 1) := by decide +kernel
theorem d_bo_begin_26 : decode bo_begin.2.1 26 = .ok (.putfield 58, 3) := by decide +kernel
theorem d_bo_begin_29 : decode bo_begin.2.1 29 = .ok (.iconst 0, 1) := by decide +kernel
theorem d_bo_begin_30 : decode bo_begin.2.1 30 = .ok (.istore_n 2, 1) := by decide +kernel
theorem d_bo_begin_31 : decode bo_begin.2.1 31 = .ok (.iload_n 2, 1) := by decide +kernel
theorem d_bo_begin_32 : decode bo_begin.2.1 32 = .ok (.bipush 64, 2) := by decide +kernel
theorem d_bo_begin_34 : decode bo_begin.2.1 34 = .ok (.if_icmp .ge 72, 3) := by decide +kernel
theorem d_bo_begin_37 : decode bo_begin.2.1 37 = .ok (.aload_n 0, 1) := by decide +kernel
theorem d_bo_begin_38 : decode bo_begin.2.1 38 = .ok (.getfield 11, 3) := by decide +kernel
theorem d_bo_begin_41 : decode bo_begin.2.1 41 = .ok (.iload_n 2, 1) := by decide +kernel
theorem d_bo_begin_42 : decode bo_begin.2.1 42 = .ok (.aload_n 1, 1) := by decide +kernel
theorem d_bo_begin_43 : decode bo_begin.2.1 43 = .ok (.iload_n 2, 1) := by decide +kernel
theorem d_bo_begin_44 : decode bo_begin.2.1 44 = .ok (.invokevirtual 61, 3) := by decide +kernel
theorem d_bo_begin_47 : decode bo_begin.2.1 47 = .ok (.iastore, 1) := by decide +kernel
theorem d_bo_begin_48 : decode bo_begin.2.1 48 = .ok (.aload_n 0, 1) := by decide +kernel
theorem d_bo_begin_49 : decode bo_begin.2.1 49 = .ok (.getfield 17, 3) := by decide +kernel
theorem d_bo_begin_52 : decode bo_begin.2.1 52 = .ok (.iload_n 2, 1) := by decide +kernel
theorem d_bo_begin_53 : decode bo_begin.2.1 53 = .ok (.aload_n 0, 1) := by decide +kernel
theorem d_bo_begin_54 : decode bo_begin.2.1 54 = .ok (.iload_n 2, 1) := by decide +kernel
theorem d_bo_begin_55 : decode bo_begin.2.1 55 = .ok (.invokevirtual 65, 3) := by decide +kernel
theorem d_bo_begin_58 : decode bo_begin.2.1 58 = .ok (.ifCond .eq 17, 3) := by decide +kernel
theorem d_bo_begin_61 : decode bo_begin.2.1 61 = .ok (.aload_n 0, 1) := by decide +kernel
theorem d_bo_begin_62 : decode bo_begin.2.1 62 = .ok (.getfield 11, 3) := by decide +kernel
theorem d_bo_begin_65 : decode bo_begin.2.1 65 = .ok (.iload_n 2, 1) := by decide +kernel
theorem d_bo_begin_66 : decode bo_begin.2.1 66 = .ok (.iaload, 1) := by decide +kernel
theorem d_bo_begin_67 : decode bo_begin.2.1 67 = .ok (.iconst (-1), 1) := by decide +kernel
theorem d_bo_begin_68 : decode bo_begin.2.1 68 = .ok (.if_icmp .ne 7, 3) := by decide +kernel
theorem d_bo_begin_71 : decode bo_begin.2.1 71 = .ok (.iconst 1, 1) := by decide +kernel
theorem d_bo_begin_72 : decode bo_begin.2.1 72 = .ok (.goto 4, 3) := by decide +kernel
theorem d_bo_begin_75 : decode bo_begin.2.1 75 = .ok (.iconst 0, 1) := by decide +kernel
theorem d_bo_begin_76 : decode bo_begin.2.1 76 = .ok (.bastore, 1) := by decide +kernel
theorem d_bo_begin_77 : decode bo_begin.2.1 77 = .ok (.aload_n 0, 1) := by decide +kernel
theorem d_bo_begin_78 : decode bo_begin.2.1 78 = .ok (.dup, 1) := by decide +kernel
theorem d_bo_begin_79 : decode bo_begin.2.1 79 = .ok (.getfield 58, 3) := by decide +kernel
theorem d_bo_begin_82 : decode bo_begin.2.1 82 = .ok (.aload_n 0, 1) := by decide +kernel
theorem d_bo_begin_83 : decode bo_begin.2.1 83 = .ok (.getfield 17, 3) := by decide +kernel
theorem d_bo_begin_86 : decode bo_begin.2.1 86 = .ok (.iload_n 2, 1) := by decide +kernel
theorem d_bo_begin_87 : decode bo_begin.2.1 87 = .ok (.baload, 1) := by decide +kernel
theorem d_bo_begin_88 : decode bo_begin.2.1 88 = .ok (.ifCond .eq 7, 3) := by decide +kernel
theorem d_bo_begin_91 : decode bo_begin.2.1 91 = .ok (.iconst 1, 1) := by decide +kernel
theorem d_bo_begin_92 : decode bo_begin.2.1 92 = .ok (.goto 4, 3) := by decide +kernel
theorem d_bo_begin_95 : decode bo_begin.2.1 95 = .ok (.iconst 0, 1) := by decide +kernel
theorem d_bo_begin_96 : decode bo_begin.2.1 96 = .ok (.iadd, 1) := by decide +kernel
theorem d_bo_begin_97 : decode bo_begin.2.1 97 = .ok (.putfield 58, 3) := by decide +kernel
theorem d_bo_begin_100 : decode bo_begin.2.1 100 = .ok (.iinc 2 1, 3) := by decide +kernel
theorem d_bo_begin_103 : decode bo_begin.2.1 103 = .ok (.goto (-72), 3) := by decide +kernel
theorem d_bo_begin_106 : decode bo_begin.2.1 106 = .ok (.iconst 0, 1) := by decide +kernel
theorem d_bo_begin_107 : decode bo_begin.2.1 107 = .ok (.istore_n 2, 1) := by decide +kernel
theorem d_bo_begin_108 : decode bo_begin.2.1 108 = .ok (.iload_n 2, 1) := by decide +kernel
theorem d_bo_begin_109 : decode bo_begin.2.1 109 = .ok (.bipush 40, 2) := by decide +kernel
theorem d_bo_begin_111 : decode bo_begin.2.1 111 = .ok (.if_icmp .ge 20, 3) := by decide +kernel
theorem d_bo_begin_114 : decode bo_begin.2.1 114 = .ok (.aload_n 0, 1) := by decide +kernel
theorem d_bo_begin_115 : decode bo_begin.2.1 115 = .ok (.getfield 29, 3) := by decide +kernel
theorem d_bo_begin_118 : decode bo_begin.2.1 118 = .ok (.iload_n 2, 1) := by decide +kernel
theorem d_bo_begin_119 : decode bo_begin.2.1 119 = .ok (.aload_n 1, 1) := by decide +kernel
theorem d_bo_begin_120 : decode bo_begin.2.1 120 = .ok (.iload_n 2, 1) := by decide +kernel
theorem d_bo_begin_121 : decode bo_begin.2.1 121 = .ok (.invokevirtual 69, 3) := by decide +kernel
theorem d_bo_begin_124 : decode bo_begin.2.1 124 = .ok (.iastore, 1) := by decide +kernel
theorem d_bo_begin_125 : decode bo_begin.2.1 125 = .ok (.iinc 2 1, 3) := by decide +kernel
theorem d_bo_begin_128 : decode bo_begin.2.1 128 = .ok (.goto (-20), 3) := by decide +kernel
theorem d_bo_begin_131 : decode bo_begin.2.1 131 = .ok (.iconst 0, 1) := by decide +kernel
theorem d_bo_begin_132 : decode bo_begin.2.1 132 = .ok (.istore_n 2, 1) := by decide +kernel
theorem d_bo_begin_133 : decode bo_begin.2.1 133 = .ok (.iload_n 2, 1) := by decide +kernel
theorem d_bo_begin_134 : decode bo_begin.2.1 134 = .ok (.iconst 5, 1) := by decide +kernel
theorem d_bo_begin_135 : decode bo_begin.2.1 135 = .ok (.if_icmp .ge 23, 3) := by decide +kernel
theorem d_bo_begin_138 : decode bo_begin.2.1 138 = .ok (.aload_n 0, 1) := by decide +kernel
theorem d_bo_begin_139 : decode bo_begin.2.1 139 = .ok (.getfield 34, 3) := by decide +kernel
theorem d_bo_begin_142 : decode bo_begin.2.1 142 = .ok (.iload_n 2, 1) := by decide +kernel
theorem d_bo_begin_143 : decode bo_begin.2.1 143 = .ok (.aload_n 0, 1) := by decide +kernel
theorem d_bo_begin_144 : decode bo_begin.2.1 144 = .ok (.getfield 41, 3) := by decide +kernel
theorem d_bo_begin_147 : decode bo_begin.2.1 147 = .ok (.iload_n 2, 1) := by decide +kernel
theorem d_bo_begin_148 : decode bo_begin.2.1 148 = .ok (.invokevirtual 72, 3) := by decide +kernel
theorem d_bo_begin_151 : decode bo_begin.2.1 151 = .ok (.lastore, 1) := by decide +kernel
theorem d_bo_begin_152 : decode bo_begin.2.1 152 = .ok (.iinc 2 1, 3) := by decide +kernel
theorem d_bo_begin_155 : decode bo_begin.2.1 155 = .ok (.goto (-22), 3) := by decide +kernel
theorem d_bo_begin_158 : decode bo_begin.2.1 158 = .ok (.iconst 0, 1) := by decide +kernel
theorem d_bo_begin_159 : decode bo_begin.2.1 159 = .ok (.istore_n 2, 1) := by decide +kernel
theorem d_bo_begin_160 : decode bo_begin.2.1 160 = .ok (.iload_n 2, 1) := by decide +kernel
theorem d_bo_begin_161 : decode bo_begin.2.1 161 = .ok (.bipush 64, 2) := by decide +kernel
theorem d_bo_begin_163 : decode bo_begin.2.1 163 = .ok (.if_icmp .ge 14, 3) := by decide +kernel
theorem d_bo_begin_166 : decode bo_begin.2.1 166 = .ok (.aload_n 0, 1) := by decide +kernel
theorem d_bo_begin_167 : decode bo_begin.2.1 167 = .ok (.iload_n 2, 1) := by decide +kernel
theorem d_bo_begin_168 : decode bo_begin.2.1 168 = .ok (.invokevirtual 76, 3) := by decide +kernel
theorem d_bo_begin_171 : decode bo_begin.2.1 171 = .ok (.iinc 2 1, 3) := by decide +kernel
theorem d_bo_begin_174 : decode bo_begin.2.1 174 = .ok (.goto (-14), 3) := by decide +kernel
theorem d_bo_begin_177 : decode bo_begin.2.1 177 = .ok (.aload_n 0, 1) := by decide +kernel
theorem d_bo_begin_178 : decode bo_begin.2.1 178 = .ok (.invokevirtual 80, 3) := by decide +kernel
theorem d_bo_begin_181 : decode bo_begin.2.1 181 = .ok (.return_, 1) := by decide +kernel
theorem d_bo_has_0 : decode bo_has.2.1 0 = .ok (.iload_n 1, 1) := by decide +kernel
theorem d_bo_has_1 : decode bo_has.2.1 1 = .ok (.ifCond .lt 29, 3) := by decide +kernel
theorem d_bo_has_4 : decode bo_has.2.1 4 = .ok (.iload_n 1, 1) := by decide +kernel
theorem d_bo_has_5 : decode bo_has.2.1 5 = .ok (.bipush 8, 2) := by decide +kernel
theorem d_bo_has_7 : decode bo_has.2.1 7 = .ok (.idiv, 1) := by decide +kernel
theorem d_bo_has_8 : decode bo_has.2.1 8 = .ok (.aload_n 0, 1) := by decide +kernel
theorem d_bo_has_9 : decode bo_has.2.1 9 = .ok (.getfield 53, 3) := by decide +kernel
theorem d_bo_has_12 : decode bo_has.2.1 12 = .ok (.if_icmp .ge 18, 3) := by decide +kernel
theorem d_bo_has_15 : decode bo_has.2.1 15 = .ok (.iload_n 1, 1) := by decide +kernel
theorem d_bo_has_16 : decode bo_has.2.1 16 = .ok (.bipush 8, 2) := by decide +kernel
theorem d_bo_has_18 : decode bo_has.2.1 18 = .ok (.irem, 1) := by decide +kernel
theorem d_bo_has_19 : decode bo_has.2.1 19 = .ok (.aload_n 0, 1) := by decide +kernel
theorem d_bo_has_20 : decode bo_has.2.1 20 = .ok (.getfield 57, 3) := by decide +kernel
theorem d_bo_has_23 : decode bo_has.2.1 23 = .ok (.if_icmp .ge 7, 3) := by decide +kernel
theorem d_bo_has_26 : decode bo_has.2.1 26 = .ok (.iconst 1, 1) := by decide +kernel
theorem d_bo_has_27 : decode bo_has.2.1 27 = .ok (.goto 4, 3) := by decide +kernel
theorem d_bo_has_30 : decode bo_has.2.1 30 = .ok (.iconst 0, 1) := by decide +kernel
theorem d_bo_has_31 : decode bo_has.2.1 31 = .ok (.ireturn, 1) := by decide +kernel
theorem d_bo_beside_0 : decode bo_beside.2.1 0 = .ok (.iload_n 1, 1) := by decide +kernel
theorem d_bo_beside_1 : decode bo_beside.2.1 1 = .ok (.bipush 8, 2) := by decide +kernel
theorem d_bo_beside_3 : decode bo_beside.2.1 3 = .ok (.idiv, 1) := by decide +kernel
theorem d_bo_beside_4 : decode bo_beside.2.1 4 = .ok (.iload_n 2, 1) := by decide +kernel
theorem d_bo_beside_5 : decode bo_beside.2.1 5 = .ok (.iconst 2, 1) := by decide +kernel
theorem d_bo_beside_6 : decode bo_beside.2.1 6 = .ok (.if_icmp .ne 7, 3) := by decide +kernel
theorem d_bo_beside_9 : decode bo_beside.2.1 9 = .ok (.iconst 1, 1) := by decide +kernel
theorem d_bo_beside_10 : decode bo_beside.2.1 10 = .ok (.goto 12, 3) := by decide +kernel
theorem d_bo_beside_13 : decode bo_beside.2.1 13 = .ok (.iload_n 2, 1) := by decide +kernel
theorem d_bo_beside_14 : decode bo_beside.2.1 14 = .ok (.ifCond .ne 7, 3) := by decide +kernel
theorem d_bo_beside_17 : decode bo_beside.2.1 17 = .ok (.iconst (-1), 1) := by decide +kernel
theorem d_bo_beside_18 : decode bo_beside.2.1 18 = .ok (.goto 4, 3) := by decide +kernel
theorem d_bo_beside_21 : decode bo_beside.2.1 21 = .ok (.iconst 0, 1) := by decide +kernel
theorem d_bo_beside_22 : decode bo_beside.2.1 22 = .ok (.iadd, 1) := by decide +kernel
theorem d_bo_beside_23 : decode bo_beside.2.1 23 = .ok (.istore_n 3, 1) := by decide +kernel
theorem d_bo_beside_24 : decode bo_beside.2.1 24 = .ok (.iload_n 1, 1) := by decide +kernel
theorem d_bo_beside_25 : decode bo_beside.2.1 25 = .ok (.bipush 8, 2) := by decide +kernel
theorem d_bo_beside_27 : decode bo_beside.2.1 27 = .ok (.irem, 1) := by decide +kernel
theorem d_bo_beside_28 : decode bo_beside.2.1 28 = .ok (.iload_n 2, 1) := by decide +kernel
theorem d_bo_beside_29 : decode bo_beside.2.1 29 = .ok (.iconst 1, 1) := by decide +kernel
theorem d_bo_beside_30 : decode bo_beside.2.1 30 = .ok (.if_icmp .ne 7, 3) := by decide +kernel
theorem d_bo_beside_33 : decode bo_beside.2.1 33 = .ok (.iconst 1, 1) := by decide +kernel
theorem d_bo_beside_34 : decode bo_beside.2.1 34 = .ok (.goto 13, 3) := by decide +kernel
theorem d_bo_beside_37 : decode bo_beside.2.1 37 = .ok (.iload_n 2, 1) := by decide +kernel
theorem d_bo_beside_38 : decode bo_beside.2.1 38 = .ok (.iconst 3, 1) := by decide +kernel
theorem d_bo_beside_39 : decode bo_beside.2.1 39 = .ok (.if_icmp .ne 7, 3) := by decide +kernel
theorem d_bo_beside_42 : decode bo_beside.2.1 42 = .ok (.iconst (-1), 1) := by decide +kernel
theorem d_bo_beside_43 : decode bo_beside.2.1 43 = .ok (.goto 4, 3) := by decide +kernel
theorem d_bo_beside_46 : decode bo_beside.2.1 46 = .ok (.iconst 0, 1) := by decide +kernel
theorem d_bo_beside_47 : decode bo_beside.2.1 47 = .ok (.iadd, 1) := by decide +kernel
theorem d_bo_beside_48 : decode bo_beside.2.1 48 = .ok (.istore 4, 2) := by decide +kernel
theorem d_bo_beside_50 : decode bo_beside.2.1 50 = .ok (.iload_n 3, 1) := by decide +kernel
theorem d_bo_beside_51 : decode bo_beside.2.1 51 = .ok (.ifCond .lt 35, 3) := by decide +kernel
theorem d_bo_beside_54 : decode bo_beside.2.1 54 = .ok (.iload_n 3, 1) := by decide +kernel
theorem d_bo_beside_55 : decode bo_beside.2.1 55 = .ok (.aload_n 0, 1) := by decide +kernel
theorem d_bo_beside_56 : decode bo_beside.2.1 56 = .ok (.getfield 53, 3) := by decide +kernel
theorem d_bo_beside_59 : decode bo_beside.2.1 59 = .ok (.if_icmp .ge 27, 3) := by decide +kernel
theorem d_bo_beside_62 : decode bo_beside.2.1 62 = .ok (.iload 4, 2) := by decide +kernel
theorem d_bo_beside_64 : decode bo_beside.2.1 64 = .ok (.ifCond .lt 22, 3) := by decide +kernel
theorem d_bo_beside_67 : decode bo_beside.2.1 67 = .ok (.iload 4, 2) := by decide +kernel
theorem d_bo_beside_69 : decode bo_beside.2.1 69 = .ok (.aload_n 0, 1) := by decide +kernel
theorem d_bo_beside_70 : decode bo_beside.2.1 70 = .ok (.getfield 57, 3) := by decide +kernel
theorem d_bo_beside_73 : decode bo_beside.2.1 73 = .ok (.if_icmp .ge 13, 3) := by decide +kernel
theorem d_bo_beside_76 : decode bo_beside.2.1 76 = .ok (.iload_n 3, 1) := by decide +kernel
theorem d_bo_beside_77 : decode bo_beside.2.1 77 = .ok (.bipush 8, 2) := by decide +kernel
theorem d_bo_beside_79 : decode bo_beside.2.1 79 = .ok (.imul, 1) := by decide +kernel
theorem d_bo_beside_80 : decode bo_beside.2.1 80 = .ok (.iload 4, 2) := by decide +kernel
theorem d_bo_beside_82 : decode bo_beside.2.1 82 = .ok (.iadd, 1) := by decide +kernel
theorem d_bo_beside_83 : decode bo_beside.2.1 83 = .ok (.goto 4, 3) := by decide +kernel
theorem d_bo_beside_86 : decode bo_beside.2.1 86 = .ok (.iconst (-1), 1) := by decide +kernel
theorem d_bo_beside_87 : decode bo_beside.2.1 87 = .ok (.ireturn, 1) := by decide +kernel
theorem d_bo_codeAt_0 : decode bo_codeAt.2.1 0 = .ok (.iload_n 1, 1) := by decide +kernel
theorem d_bo_codeAt_1 : decode bo_codeAt.2.1 1 = .ok (.ifCond .lt 18, 3) := by decide +kernel
theorem d_bo_codeAt_4 : decode bo_codeAt.2.1 4 = .ok (.iload_n 1, 1) := by decide +kernel
theorem d_bo_codeAt_5 : decode bo_codeAt.2.1 5 = .ok (.bipush 64, 2) := by decide +kernel
theorem d_bo_codeAt_7 : decode bo_codeAt.2.1 7 = .ok (.if_icmp .ge 12, 3) := by decide +kernel
theorem d_bo_codeAt_10 : decode bo_codeAt.2.1 10 = .ok (.aload_n 0, 1) := by decide +kernel
theorem d_bo_codeAt_11 : decode bo_codeAt.2.1 11 = .ok (.getfield 11, 3) := by decide +kernel
theorem d_bo_codeAt_14 : decode bo_codeAt.2.1 14 = .ok (.iload_n 1, 1) := by decide +kernel
theorem d_bo_codeAt_15 : decode bo_codeAt.2.1 15 = .ok (.iaload, 1) := by decide +kernel
theorem d_bo_codeAt_16 : decode bo_codeAt.2.1 16 = .ok (.goto 5, 3) := by decide +kernel
theorem d_bo_codeAt_19 : decode bo_codeAt.2.1 19 = .ok (.bipush (-2), 2) := by decide +kernel
theorem d_bo_codeAt_21 : decode bo_codeAt.2.1 21 = .ok (.ireturn, 1) := by decide +kernel
theorem d_bo_lookAround_0 : decode bo_lookAround.2.1 0 = .ok (.iconst 0, 1) := by decide +kernel
theorem d_bo_lookAround_1 : decode bo_lookAround.2.1 1 = .ok (.istore_n 2, 1) := by decide +kernel
theorem d_bo_lookAround_2 : decode bo_lookAround.2.1 2 = .ok (.iload_n 2, 1) := by decide +kernel
theorem d_bo_lookAround_3 : decode bo_lookAround.2.1 3 = .ok (.iconst 4, 1) := by decide +kernel
theorem d_bo_lookAround_4 : decode bo_lookAround.2.1 4 = .ok (.if_icmp .ge 43, 3) := by decide +kernel
theorem d_bo_lookAround_7 : decode bo_lookAround.2.1 7 = .ok (.aload_n 0, 1) := by decide +kernel
theorem d_bo_lookAround_8 : decode bo_lookAround.2.1 8 = .ok (.aload_n 0, 1) := by decide +kernel
theorem d_bo_lookAround_9 : decode bo_lookAround.2.1 9 = .ok (.iload_n 1, 1) := by decide +kernel
theorem d_bo_lookAround_10 : decode bo_lookAround.2.1 10 = .ok (.iload_n 2, 1) := by decide +kernel
theorem d_bo_lookAround_11 : decode bo_lookAround.2.1 11 = .ok (.invokevirtual 83, 3) := by decide +kernel
theorem d_bo_lookAround_14 : decode bo_lookAround.2.1 14 = .ok (.invokevirtual 87, 3) := by decide +kernel
theorem d_bo_lookAround_17 : decode bo_lookAround.2.1 17 = .ok (.istore_n 3, 1) := by decide +kernel
theorem d_bo_lookAround_18 : decode bo_lookAround.2.1 18 = .ok (.aload_n 0, 1) := by decide +kernel
theorem d_bo_lookAround_19 : decode bo_lookAround.2.1 19 = .ok (.getfield 21, 3) := by decide +kernel
theorem d_bo_lookAround_22 : decode bo_lookAround.2.1 22 = .ok (.iload_n 1, 1) := by decide +kernel
theorem d_bo_lookAround_23 : decode bo_lookAround.2.1 23 = .ok (.iconst 4, 1) := by decide +kernel
theorem d_bo_lookAround_24 : decode bo_lookAround.2.1 24 = .ok (.imul, 1) := by decide +kernel
theorem d_bo_lookAround_25 : decode bo_lookAround.2.1 25 = .ok (.iload_n 2, 1) := by decide +kernel
theorem d_bo_lookAround_26 : decode bo_lookAround.2.1 26 = .ok (.iadd, 1) := by decide +kernel
theorem d_bo_lookAround_27 : decode bo_lookAround.2.1 27 = .ok (.aload_n 0, 1) := by decide +kernel
theorem d_bo_lookAround_28 : decode bo_lookAround.2.1 28 = .ok (.getfield 41, 3) := by decide +kernel
theorem d_bo_lookAround_31 : decode bo_lookAround.2.1 31 = .ok (.iload_n 3, 1) := by decide +kernel
theorem d_bo_lookAround_32 : decode bo_lookAround.2.1 32 = .ok (.iload_n 2, 1) := by decide +kernel
theorem d_bo_lookAround_33 : decode bo_lookAround.2.1 33 = .ok (.iconst 2, 1) := by decide +kernel
theorem d_bo_lookAround_34 : decode bo_lookAround.2.1 34 = .ok (.iadd, 1) := by decide +kernel
theorem d_bo_lookAround_35 : decode bo_lookAround.2.1 35 = .ok (.iconst 3, 1) := by decide +kernel
theorem d_bo_lookAround_36 : decode bo_lookAround.2.1 36 = .ok (.iand, 1) := by decide +kernel
theorem d_bo_lookAround_37 : decode bo_lookAround.2.1 37 = .ok (.invokevirtual 90, 3) := by decide +kernel
theorem d_bo_lookAround_40 : decode bo_lookAround.2.1 40 = .ok (.iastore, 1) := by decide +kernel
theorem d_bo_lookAround_41 : decode bo_lookAround.2.1 41 = .ok (.iinc 2 1, 3) := by decide +kernel
theorem d_bo_lookAround_44 : decode bo_lookAround.2.1 44 = .ok (.goto (-42), 3) := by decide +kernel
theorem d_bo_lookAround_47 : decode bo_lookAround.2.1 47 = .ok (.return_, 1) := by decide +kernel
theorem d_bo_givenOnesFit_0 : decode bo_givenOnesFit.2.1 0 = .ok (.iconst 0, 1) := by decide +kernel
theorem d_bo_givenOnesFit_1 : decode bo_givenOnesFit.2.1 1 = .ok (.istore_n 1, 1) := by decide +kernel
theorem d_bo_givenOnesFit_2 : decode bo_givenOnesFit.2.1 2 = .ok (.iload_n 1, 1) := by decide +kernel
theorem d_bo_givenOnesFit_3 : decode bo_givenOnesFit.2.1 3 = .ok (.bipush 64, 2) := by decide +kernel
theorem d_bo_givenOnesFit_5 : decode bo_givenOnesFit.2.1 5 = .ok (.if_icmp .ge 68, 3) := by decide +kernel
theorem d_bo_givenOnesFit_8 : decode bo_givenOnesFit.2.1 8 = .ok (.iconst 0, 1) := by decide +kernel
theorem d_bo_givenOnesFit_9 : decode bo_givenOnesFit.2.1 9 = .ok (.istore_n 2, 1) := by decide +kernel
theorem d_bo_givenOnesFit_10 : decode bo_givenOnesFit.2.1 10 = .ok (.iload_n 2, 1) := by decide +kernel
theorem d_bo_givenOnesFit_11 : decode bo_givenOnesFit.2.1 11 = .ok (.iconst 4, 1) := by decide +kernel
theorem d_bo_givenOnesFit_12 : decode bo_givenOnesFit.2.1 12 = .ok (.if_icmp .ge 55, 3) := by decide +kernel
theorem d_bo_givenOnesFit_15 : decode bo_givenOnesFit.2.1 15 = .ok (.aload_n 0, 1) := by decide +kernel
theorem d_bo_givenOnesFit_16 : decode bo_givenOnesFit.2.1 16 = .ok (.getfield 11, 3) := by decide +kernel
theorem d_bo_givenOnesFit_19 : decode bo_givenOnesFit.2.1 19 = .ok (.iload_n 1, 1) := by decide +kernel
theorem d_bo_givenOnesFit_20 : decode bo_givenOnesFit.2.1 20 = .ok (.iaload, 1) := by decide +kernel
theorem d_bo_givenOnesFit_21 : decode bo_givenOnesFit.2.1 21 = .ok (.ifCond .lt 46, 3) := by decide +kernel
theorem d_bo_givenOnesFit_24 : decode bo_givenOnesFit.2.1 24 = .ok (.aload_n 0, 1) := by decide +kernel
theorem d_bo_givenOnesFit_25 : decode bo_givenOnesFit.2.1 25 = .ok (.getfield 21, 3) := by decide +kernel
theorem d_bo_givenOnesFit_28 : decode bo_givenOnesFit.2.1 28 = .ok (.iload_n 1, 1) := by decide +kernel
theorem d_bo_givenOnesFit_29 : decode bo_givenOnesFit.2.1 29 = .ok (.iconst 4, 1) := by decide +kernel
theorem d_bo_givenOnesFit_30 : decode bo_givenOnesFit.2.1 30 = .ok (.imul, 1) := by decide +kernel
theorem d_bo_givenOnesFit_31 : decode bo_givenOnesFit.2.1 31 = .ok (.iload_n 2, 1) := by decide +kernel
theorem d_bo_givenOnesFit_32 : decode bo_givenOnesFit.2.1 32 = .ok (.iadd, 1) := by decide +kernel
theorem d_bo_givenOnesFit_33 : decode bo_givenOnesFit.2.1 33 = .ok (.iaload, 1) := by decide +kernel
theorem d_bo_givenOnesFit_34 : decode bo_givenOnesFit.2.1 34 = .ok (.istore_n 3, 1) := by decide +kernel
theorem d_bo_givenOnesFit_35 : decode bo_givenOnesFit.2.1 35 = .ok (.iload_n 3, 1) := by decide +kernel
theorem d_bo_givenOnesFit_36 : decode bo_givenOnesFit.2.1 36 = .ok (.bipush 16, 2) := by decide +kernel
theorem d_bo_givenOnesFit_38 : decode bo_givenOnesFit.2.1 38 = .ok (.if_icmp .eq 23, 3) := by decide +kernel
theorem d_bo_givenOnesFit_41 : decode bo_givenOnesFit.2.1 41 = .ok (.iload_n 3, 1) := by decide +kernel
theorem d_bo_givenOnesFit_42 : decode bo_givenOnesFit.2.1 42 = .ok (.aload_n 0, 1) := by decide +kernel
theorem d_bo_givenOnesFit_43 : decode bo_givenOnesFit.2.1 43 = .ok (.getfield 41, 3) := by decide +kernel
theorem d_bo_givenOnesFit_46 : decode bo_givenOnesFit.2.1 46 = .ok (.aload_n 0, 1) := by decide +kernel
theorem d_bo_givenOnesFit_47 : decode bo_givenOnesFit.2.1 47 = .ok (.getfield 11, 3) := by decide +kernel
theorem d_bo_givenOnesFit_50 : decode bo_givenOnesFit.2.1 50 = .ok (.iload_n 1, 1) := by decide +kernel
theorem d_bo_givenOnesFit_51 : decode bo_givenOnesFit.2.1 51 = .ok (.iaload, 1) := by decide +kernel
theorem d_bo_givenOnesFit_52 : decode bo_givenOnesFit.2.1 52 = .ok (.iload_n 2, 1) := by decide +kernel
theorem d_bo_givenOnesFit_53 : decode bo_givenOnesFit.2.1 53 = .ok (.invokevirtual 90, 3) := by decide +kernel
theorem d_bo_givenOnesFit_56 : decode bo_givenOnesFit.2.1 56 = .ok (.if_icmp .eq 5, 3) := by decide +kernel
theorem d_bo_givenOnesFit_59 : decode bo_givenOnesFit.2.1 59 = .ok (.iconst 0, 1) := by decide +kernel
theorem d_bo_givenOnesFit_60 : decode bo_givenOnesFit.2.1 60 = .ok (.ireturn, 1) := by decide +kernel
theorem d_bo_givenOnesFit_61 : decode bo_givenOnesFit.2.1 61 = .ok (.iinc 2 1, 3) := by decide +kernel
theorem d_bo_givenOnesFit_64 : decode bo_givenOnesFit.2.1 64 = .ok (.goto (-54), 3) := by decide +kernel
theorem d_bo_givenOnesFit_67 : decode bo_givenOnesFit.2.1 67 = .ok (.iinc 1 1, 3) := by decide +kernel
theorem d_bo_givenOnesFit_70 : decode bo_givenOnesFit.2.1 70 = .ok (.goto (-68), 3) := by decide +kernel
theorem d_bo_givenOnesFit_73 : decode bo_givenOnesFit.2.1 73 = .ok (.iconst 1, 1) := by decide +kernel
theorem d_bo_givenOnesFit_74 : decode bo_givenOnesFit.2.1 74 = .ok (.ireturn, 1) := by decide +kernel
theorem d_bo_isWaiting_0 : decode bo_isWaiting.2.1 0 = .ok (.iload_n 1, 1) := by decide +kernel
theorem d_bo_isWaiting_1 : decode bo_isWaiting.2.1 1 = .ok (.ifCond .lt 32, 3) := by decide +kernel
theorem d_bo_isWaiting_4 : decode bo_isWaiting.2.1 4 = .ok (.iload_n 1, 1) := by decide +kernel
theorem d_bo_isWaiting_5 : decode bo_isWaiting.2.1 5 = .ok (.bipush 64, 2) := by decide +kernel
theorem d_bo_isWaiting_7 : decode bo_isWaiting.2.1 7 = .ok (.if_icmp .ge 26, 3) := by decide +kernel
theorem d_bo_isWaiting_10 : decode bo_isWaiting.2.1 10 = .ok (.aload_n 0, 1) := by decide +kernel
theorem d_bo_isWaiting_11 : decode bo_isWaiting.2.1 11 = .ok (.getfield 17, 3) := by decide +kernel
theorem d_bo_isWaiting_14 : decode bo_isWaiting.2.1 14 = .ok (.iload_n 1, 1) := by decide +kernel
theorem d_bo_isWaiting_15 : decode bo_isWaiting.2.1 15 = .ok (.baload, 1) := by decide +kernel
theorem d_bo_isWaiting_16 : decode bo_isWaiting.2.1 16 = .ok (.ifCond .eq 17, 3) := by decide +kernel
theorem d_bo_isWaiting_19 : decode bo_isWaiting.2.1 19 = .ok (.aload_n 0, 1) := by decide +kernel
theorem d_bo_isWaiting_20 : decode bo_isWaiting.2.1 20 = .ok (.getfield 11, 3) := by decide +kernel
theorem d_bo_isWaiting_23 : decode bo_isWaiting.2.1 23 = .ok (.iload_n 1, 1) := by decide +kernel
theorem d_bo_isWaiting_24 : decode bo_isWaiting.2.1 24 = .ok (.iaload, 1) := by decide +kernel
theorem d_bo_isWaiting_25 : decode bo_isWaiting.2.1 25 = .ok (.iconst (-1), 1) := by decide +kernel
theorem d_bo_isWaiting_26 : decode bo_isWaiting.2.1 26 = .ok (.if_icmp .ne 7, 3) := by decide +kernel
theorem d_bo_isWaiting_29 : decode bo_isWaiting.2.1 29 = .ok (.iconst 1, 1) := by decide +kernel
theorem d_bo_isWaiting_30 : decode bo_isWaiting.2.1 30 = .ok (.goto 4, 3) := by decide +kernel
theorem d_bo_isWaiting_33 : decode bo_isWaiting.2.1 33 = .ok (.iconst 0, 1) := by decide +kernel
theorem d_bo_isWaiting_34 : decode bo_isWaiting.2.1 34 = .ok (.ireturn, 1) := by decide +kernel
theorem d_bo_recount_0 : decode bo_recount.2.1 0 = .ok (.aload_n 0, 1) := by decide +kernel
theorem d_bo_recount_1 : decode bo_recount.2.1 1 = .ok (.iload_n 1, 1) := by decide +kernel
theorem d_bo_recount_2 : decode bo_recount.2.1 2 = .ok (.invokevirtual 93, 3) := by decide +kernel
theorem d_bo_recount_5 : decode bo_recount.2.1 5 = .ok (.ifCond .eq 53, 3) := by decide +kernel
theorem d_bo_recount_8 : decode bo_recount.2.1 8 = .ok (.iconst 0, 1) := by decide +kernel
theorem d_bo_recount_9 : decode bo_recount.2.1 9 = .ok (.istore_n 2, 1) := by decide +kernel
theorem d_bo_recount_10 : decode bo_recount.2.1 10 = .ok (.iconst 0, 1) := by decide +kernel
theorem d_bo_recount_11 : decode bo_recount.2.1 11 = .ok (.istore_n 3, 1) := by decide +kernel
theorem d_bo_recount_12 : decode bo_recount.2.1 12 = .ok (.iload_n 3, 1) := by decide +kernel
theorem d_bo_recount_13 : decode bo_recount.2.1 13 = .ok (.iconst 5, 1) := by decide +kernel
theorem d_bo_recount_14 : decode bo_recount.2.1 14 = .ok (.if_icmp .ge 37, 3) := by decide +kernel
theorem d_bo_recount_17 : decode bo_recount.2.1 17 = .ok (.iload_n 2, 1) := by decide +kernel
theorem d_bo_recount_18 : decode bo_recount.2.1 18 = .ok (.aload_n 0, 1) := by decide +kernel
theorem d_bo_recount_19 : decode bo_recount.2.1 19 = .ok (.getfield 34, 3) := by decide +kernel
theorem d_bo_recount_22 : decode bo_recount.2.1 22 = .ok (.iload_n 3, 1) := by decide +kernel
theorem d_bo_recount_23 : decode bo_recount.2.1 23 = .ok (.laload, 1) := by decide +kernel
theorem d_bo_recount_24 : decode bo_recount.2.1 24 = .ok (.aload_n 0, 1) := by decide +kernel
theorem d_bo_recount_25 : decode bo_recount.2.1 25 = .ok (.getfield 41, 3) := by decide +kernel
theorem d_bo_recount_28 : decode bo_recount.2.1 28 = .ok (.aload_n 0, 1) := by decide +kernel
theorem d_bo_recount_29 : decode bo_recount.2.1 29 = .ok (.getfield 21, 3) := by decide +kernel
theorem d_bo_recount_32 : decode bo_recount.2.1 32 = .ok (.iload_n 1, 1) := by decide +kernel
theorem d_bo_recount_33 : decode bo_recount.2.1 33 = .ok (.iconst 4, 1) := by decide +kernel
theorem d_bo_recount_34 : decode bo_recount.2.1 34 = .ok (.imul, 1) := by decide +kernel
theorem d_bo_recount_35 : decode bo_recount.2.1 35 = .ok (.iload_n 3, 1) := by decide +kernel
theorem d_bo_recount_36 : decode bo_recount.2.1 36 = .ok (.invokevirtual 96, 3) := by decide +kernel
theorem d_bo_recount_39 : decode bo_recount.2.1 39 = .ok (.land, 1) := by decide +kernel
theorem d_bo_recount_40 : decode bo_recount.2.1 40 = .ok (.invokestatic 99, 3) := by decide +kernel
theorem d_bo_recount_43 : decode bo_recount.2.1 43 = .ok (.iadd, 1) := by decide +kernel
theorem d_bo_recount_44 : decode bo_recount.2.1 44 = .ok (.istore_n 2, 1) := by decide +kernel
theorem d_bo_recount_45 : decode bo_recount.2.1 45 = .ok (.iinc 3 1, 3) := by decide +kernel
theorem d_bo_recount_48 : decode bo_recount.2.1 48 = .ok (.goto (-36), 3) := by decide +kernel
theorem d_bo_recount_51 : decode bo_recount.2.1 51 = .ok (.aload_n 0, 1) := by decide +kernel
theorem d_bo_recount_52 : decode bo_recount.2.1 52 = .ok (.getfield 24, 3) := by decide +kernel
theorem d_bo_recount_55 : decode bo_recount.2.1 55 = .ok (.iload_n 1, 1) := by decide +kernel
theorem d_bo_recount_56 : decode bo_recount.2.1 56 = .ok (.iload_n 2, 1) := by decide +kernel
theorem d_bo_recount_57 : decode bo_recount.2.1 57 = .ok (.iastore, 1) := by decide +kernel
theorem d_bo_recount_58 : decode bo_recount.2.1 58 = .ok (.return_, 1) := by decide +kernel
theorem d_bo_recountAll_0 : decode bo_recountAll.2.1 0 = .ok (.iconst 0, 1) := by decide +kernel
theorem d_bo_recountAll_1 : decode bo_recountAll.2.1 1 = .ok (.istore_n 1, 1) := by decide +kernel
theorem d_bo_recountAll_2 : decode bo_recountAll.2.1 2 = .ok (.iload_n 1, 1) := by decide +kernel
theorem d_bo_recountAll_3 : decode bo_recountAll.2.1 3 = .ok (.bipush 64, 2) := by decide +kernel
theorem d_bo_recountAll_5 : decode bo_recountAll.2.1 5 = .ok (.if_icmp .ge 14, 3) := by decide +kernel
theorem d_bo_recountAll_8 : decode bo_recountAll.2.1 8 = .ok (.aload_n 0, 1) := by decide +kernel
theorem d_bo_recountAll_9 : decode bo_recountAll.2.1 9 = .ok (.iload_n 1, 1) := by decide +kernel
theorem d_bo_recountAll_10 : decode bo_recountAll.2.1 10 = .ok (.invokevirtual 105, 3) := by decide +kernel
theorem d_bo_recountAll_13 : decode bo_recountAll.2.1 13 = .ok (.iinc 1 1, 3) := by decide +kernel
theorem d_bo_recountAll_16 : decode bo_recountAll.2.1 16 = .ok (.goto (-14), 3) := by decide +kernel
theorem d_bo_recountAll_19 : decode bo_recountAll.2.1 19 = .ok (.return_, 1) := by decide +kernel
theorem d_bo_scarcestPlace_0 : decode bo_scarcestPlace.2.1 0 = .ok (.iconst (-1), 1) := by decide +kernel
theorem d_bo_scarcestPlace_1 : decode bo_scarcestPlace.2.1 1 = .ok (.istore_n 1, 1) := by decide +kernel
theorem d_bo_scarcestPlace_2 : decode bo_scarcestPlace.2.1 2 = .ok (.iconst 0, 1) := by decide +kernel
theorem d_bo_scarcestPlace_3 : decode bo_scarcestPlace.2.1 3 = .ok (.istore_n 2, 1) := by decide +kernel
theorem d_bo_scarcestPlace_4 : decode bo_scarcestPlace.2.1 4 = .ok (.iload_n 2, 1) := by decide +kernel
theorem d_bo_scarcestPlace_5 : decode bo_scarcestPlace.2.1 5 = .ok (.bipush 64, 2) := by decide +kernel
theorem d_bo_scarcestPlace_7 : decode bo_scarcestPlace.2.1 7 = .ok (.if_icmp .ge 39, 3) := by decide +kernel
theorem d_bo_scarcestPlace_10 : decode bo_scarcestPlace.2.1 10 = .ok (.aload_n 0, 1) := by decide +kernel
theorem d_bo_scarcestPlace_11 : decode bo_scarcestPlace.2.1 11 = .ok (.iload_n 2, 1) := by decide +kernel
theorem d_bo_scarcestPlace_12 : decode bo_scarcestPlace.2.1 12 = .ok (.invokevirtual 93, 3) := by decide +kernel
theorem d_bo_scarcestPlace_15 : decode bo_scarcestPlace.2.1 15 = .ok (.ifCond .eq 25, 3) := by decide +kernel
theorem d_bo_scarcestPlace_18 : decode bo_scarcestPlace.2.1 18 = .ok (.iload_n 1, 1) := by decide +kernel
theorem d_bo_scarcestPlace_19 : decode bo_scarcestPlace.2.1 19 = .ok (.iconst (-1), 1) := by decide +kernel
theorem d_bo_scarcestPlace_20 : decode bo_scarcestPlace.2.1 20 = .ok (.if_icmp .eq 18, 3) := by decide +kernel
theorem d_bo_scarcestPlace_23 : decode bo_scarcestPlace.2.1 23 = .ok (.aload_n 0, 1) := by decide +kernel
theorem d_bo_scarcestPlace_24 : decode bo_scarcestPlace.2.1 24 = .ok (.getfield 24, 3) := by decide +kernel
theorem d_bo_scarcestPlace_27 : decode bo_scarcestPlace.2.1 27 = .ok (.iload_n 2, 1) := by decide +kernel
theorem d_bo_scarcestPlace_28 : decode bo_scarcestPlace.2.1 28 = .ok (.iaload, 1) := by decide +kernel
theorem d_bo_scarcestPlace_29 : decode bo_scarcestPlace.2.1 29 = .ok (.aload_n 0, 1) := by decide +kernel
theorem d_bo_scarcestPlace_30 : decode bo_scarcestPlace.2.1 30 = .ok (.getfield 24, 3) := by decide +kernel
theorem d_bo_scarcestPlace_33 : decode bo_scarcestPlace.2.1 33 = .ok (.iload_n 1, 1) := by decide +kernel
theorem d_bo_scarcestPlace_34 : decode bo_scarcestPlace.2.1 34 = .ok (.iaload, 1) := by decide +kernel
theorem d_bo_scarcestPlace_35 : decode bo_scarcestPlace.2.1 35 = .ok (.if_icmp .ge 5, 3) := by decide +kernel
theorem d_bo_scarcestPlace_38 : decode bo_scarcestPlace.2.1 38 = .ok (.iload_n 2, 1) := by decide +kernel
theorem d_bo_scarcestPlace_39 : decode bo_scarcestPlace.2.1 39 = .ok (.istore_n 1, 1) := by decide +kernel
theorem d_bo_scarcestPlace_40 : decode bo_scarcestPlace.2.1 40 = .ok (.iinc 2 1, 3) := by decide +kernel
theorem d_bo_scarcestPlace_43 : decode bo_scarcestPlace.2.1 43 = .ok (.goto (-39), 3) := by decide +kernel
theorem d_bo_scarcestPlace_46 : decode bo_scarcestPlace.2.1 46 = .ok (.iload_n 1, 1) := by decide +kernel
theorem d_bo_scarcestPlace_47 : decode bo_scarcestPlace.2.1 47 = .ok (.ireturn, 1) := by decide +kernel
theorem d_bo_fittingAfter_0 : decode bo_fittingAfter.2.1 0 = .ok (.iload_n 2, 1) := by decide +kernel
theorem d_bo_fittingAfter_1 : decode bo_fittingAfter.2.1 1 = .ok (.iconst 1, 1) := by decide +kernel
theorem d_bo_fittingAfter_2 : decode bo_fittingAfter.2.1 2 = .ok (.iadd, 1) := by decide +kernel
theorem d_bo_fittingAfter_3 : decode bo_fittingAfter.2.1 3 = .ok (.istore_n 3, 1) := by decide +kernel
theorem d_bo_fittingAfter_4 : decode bo_fittingAfter.2.1 4 = .ok (.iload_n 1, 1) := by decide +kernel
theorem d_bo_fittingAfter_5 : decode bo_fittingAfter.2.1 5 = .ok (.ifCond .lt 13, 3) := by decide +kernel
theorem d_bo_fittingAfter_8 : decode bo_fittingAfter.2.1 8 = .ok (.iload_n 1, 1) := by decide +kernel
theorem d_bo_fittingAfter_9 : decode bo_fittingAfter.2.1 9 = .ok (.bipush 64, 2) := by decide +kernel
theorem d_bo_fittingAfter_11 : decode bo_fittingAfter.2.1 11 = .ok (.if_icmp .ge 7, 3) := by decide +kernel
theorem d_bo_fittingAfter_14 : decode bo_fittingAfter.2.1 14 = .ok (.iload_n 3, 1) := by decide +kernel
theorem d_bo_fittingAfter_15 : decode bo_fittingAfter.2.1 15 = .ok (.ifCond .ge 5, 3) := by decide +kernel
theorem d_bo_fittingAfter_18 : decode bo_fittingAfter.2.1 18 = .ok (.iconst (-1), 1) := by decide +kernel
theorem d_bo_fittingAfter_19 : decode bo_fittingAfter.2.1 19 = .ok (.ireturn, 1) := by decide +kernel
theorem d_bo_fittingAfter_20 : decode bo_fittingAfter.2.1 20 = .ok (.iload_n 3, 1) := by decide +kernel
theorem d_bo_fittingAfter_21 : decode bo_fittingAfter.2.1 21 = .ok (.bipush 6, 2) := by decide +kernel
theorem d_bo_fittingAfter_23 : decode bo_fittingAfter.2.1 23 = .ok (.ishr, 1) := by decide +kernel
theorem d_bo_fittingAfter_24 : decode bo_fittingAfter.2.1 24 = .ok (.istore 4, 2) := by decide +kernel
theorem d_bo_fittingAfter_26 : decode bo_fittingAfter.2.1 26 = .ok (.iload 4, 2) := by decide +kernel
theorem d_bo_fittingAfter_28 : decode bo_fittingAfter.2.1 28 = .ok (.iconst 5, 1) := by decide +kernel
theorem d_bo_fittingAfter_29 : decode bo_fittingAfter.2.1 29 = .ok (.if_icmp .ge 76, 3) := by decide +kernel
theorem d_bo_fittingAfter_32 : decode bo_fittingAfter.2.1 32 = .ok (.aload_n 0, 1) := by decide +kernel
theorem d_bo_fittingAfter_33 : decode bo_fittingAfter.2.1 33 = .ok (.getfield 34, 3) := by decide +kernel
theorem d_bo_fittingAfter_36 : decode bo_fittingAfter.2.1 36 = .ok (.iload 4, 2) := by decide +kernel
theorem d_bo_fittingAfter_38 : decode bo_fittingAfter.2.1 38 = .ok (.laload, 1) := by decide +kernel
theorem d_bo_fittingAfter_39 : decode bo_fittingAfter.2.1 39 = .ok (.aload_n 0, 1) := by decide +kernel
theorem d_bo_fittingAfter_40 : decode bo_fittingAfter.2.1 40 = .ok (.getfield 41, 3) := by decide +kernel
theorem d_bo_fittingAfter_43 : decode bo_fittingAfter.2.1 43 = .ok (.aload_n 0, 1) := by decide +kernel
theorem d_bo_fittingAfter_44 : decode bo_fittingAfter.2.1 44 = .ok (.getfield 21, 3) := by decide +kernel
theorem d_bo_fittingAfter_47 : decode bo_fittingAfter.2.1 47 = .ok (.iload_n 1, 1) := by decide +kernel
theorem d_bo_fittingAfter_48 : decode bo_fittingAfter.2.1 48 = .ok (.iconst 4, 1) := by decide +kernel
theorem d_bo_fittingAfter_49 : decode bo_fittingAfter.2.1 49 = .ok (.imul, 1) := by decide +kernel
theorem d_bo_fittingAfter_50 : decode bo_fittingAfter.2.1 50 = .ok (.iload 4, 2) := by decide +kernel
theorem d_bo_fittingAfter_52 : decode bo_fittingAfter.2.1 52 = .ok (.invokevirtual 96, 3) := by decide +kernel
theorem d_bo_fittingAfter_55 : decode bo_fittingAfter.2.1 55 = .ok (.land, 1) := by decide +kernel
theorem d_bo_fittingAfter_56 : decode bo_fittingAfter.2.1 56 = .ok (.lstore 5, 2) := by decide +kernel
theorem d_bo_fittingAfter_58 : decode bo_fittingAfter.2.1 58 = .ok (.iload 4, 2) := by decide +kernel
theorem d_bo_fittingAfter_60 : decode bo_fittingAfter.2.1 60 = .ok (.iload_n 3, 1) := by decide +kernel
theorem d_bo_fittingAfter_61 : decode bo_fittingAfter.2.1 61 = .ok (.bipush 6, 2) := by decide +kernel
theorem d_bo_fittingAfter_63 : decode bo_fittingAfter.2.1 63 = .ok (.ishr, 1) := by decide +kernel
theorem d_bo_fittingAfter_64 : decode bo_fittingAfter.2.1 64 = .ok (.if_icmp .ne 16, 3) := by decide +kernel
theorem d_bo_fittingAfter_67 : decode bo_fittingAfter.2.1 67 = .ok (.lload 5, 2) := by decide +kernel
theorem d_bo_fittingAfter_69 : decode bo_fittingAfter.2.1 69 = .ok (.ldc2_w 108, 3) := by decide +kernel
theorem d_bo_fittingAfter_72 : decode bo_fittingAfter.2.1 72 = .ok (.iload_n 3, 1) := by decide +kernel
theorem d_bo_fittingAfter_73 : decode bo_fittingAfter.2.1 73 = .ok (.bipush 63, 2) := by decide +kernel
theorem d_bo_fittingAfter_75 : decode bo_fittingAfter.2.1 75 = .ok (.iand, 1) := by decide +kernel
theorem d_bo_fittingAfter_76 : decode bo_fittingAfter.2.1 76 = .ok (.lshl, 1) := by decide +kernel
theorem d_bo_fittingAfter_77 : decode bo_fittingAfter.2.1 77 = .ok (.land, 1) := by decide +kernel
theorem d_bo_fittingAfter_78 : decode bo_fittingAfter.2.1 78 = .ok (.lstore 5, 2) := by decide +kernel
theorem d_bo_fittingAfter_80 : decode bo_fittingAfter.2.1 80 = .ok (.lload 5, 2) := by decide +kernel
theorem d_bo_fittingAfter_82 : decode bo_fittingAfter.2.1 82 = .ok (.lconst 0, 1) := by decide +kernel
theorem d_bo_fittingAfter_83 : decode bo_fittingAfter.2.1 83 = .ok (.lcmp, 1) := by decide +kernel
theorem d_bo_fittingAfter_84 : decode bo_fittingAfter.2.1 84 = .ok (.ifCond .eq 15, 3) := by decide +kernel
theorem d_bo_fittingAfter_87 : decode bo_fittingAfter.2.1 87 = .ok (.bipush 64, 2) := by decide +kernel
theorem d_bo_fittingAfter_89 : decode bo_fittingAfter.2.1 89 = .ok (.iload 4, 2) := by decide +kernel
theorem d_bo_fittingAfter_91 : decode bo_fittingAfter.2.1 91 = .ok (.imul, 1) := by decide +kernel
theorem d_bo_fittingAfter_92 : decode bo_fittingAfter.2.1 92 = .ok (.lload 5, 2) := by decide +kernel
theorem d_bo_fittingAfter_94 : decode bo_fittingAfter.2.1 94 = .ok (.invokestatic 110, 3) := by decide +kernel
theorem d_bo_fittingAfter_97 : decode bo_fittingAfter.2.1 97 = .ok (.iadd, 1) := by decide +kernel
theorem d_bo_fittingAfter_98 : decode bo_fittingAfter.2.1 98 = .ok (.ireturn, 1) := by decide +kernel
theorem d_bo_fittingAfter_99 : decode bo_fittingAfter.2.1 99 = .ok (.iinc 4 1, 3) := by decide +kernel
theorem d_bo_fittingAfter_102 : decode bo_fittingAfter.2.1 102 = .ok (.goto (-76), 3) := by decide +kernel
theorem d_bo_fittingAfter_105 : decode bo_fittingAfter.2.1 105 = .ok (.iconst (-1), 1) := by decide +kernel
theorem d_bo_fittingAfter_106 : decode bo_fittingAfter.2.1 106 = .ok (.ireturn, 1) := by decide +kernel
theorem d_bo_lay_0 : decode bo_lay.2.1 0 = .ok (.aload_n 0, 1) := by decide +kernel
theorem d_bo_lay_1 : decode bo_lay.2.1 1 = .ok (.getfield 41, 3) := by decide +kernel
theorem d_bo_lay_4 : decode bo_lay.2.1 4 = .ok (.iload_n 2, 1) := by decide +kernel
theorem d_bo_lay_5 : decode bo_lay.2.1 5 = .ok (.invokevirtual 113, 3) := by decide +kernel
theorem d_bo_lay_8 : decode bo_lay.2.1 8 = .ok (.istore_n 3, 1) := by decide +kernel
theorem d_bo_lay_9 : decode bo_lay.2.1 9 = .ok (.aload_n 0, 1) := by decide +kernel
theorem d_bo_lay_10 : decode bo_lay.2.1 10 = .ok (.iload_n 1, 1) := by decide +kernel
theorem d_bo_lay_11 : decode bo_lay.2.1 11 = .ok (.invokevirtual 93, 3) := by decide +kernel
theorem d_bo_lay_14 : decode bo_lay.2.1 14 = .ok (.ifCond .eq 32, 3) := by decide +kernel
theorem d_bo_lay_17 : decode bo_lay.2.1 17 = .ok (.iload_n 3, 1) := by decide +kernel
theorem d_bo_lay_18 : decode bo_lay.2.1 18 = .ok (.ifCond .lt 28, 3) := by decide +kernel
theorem d_bo_lay_21 : decode bo_lay.2.1 21 = .ok (.aload_n 0, 1) := by decide +kernel
theorem d_bo_lay_22 : decode bo_lay.2.1 22 = .ok (.getfield 11, 3) := by decide +kernel
theorem d_bo_lay_25 : decode bo_lay.2.1 25 = .ok (.iload_n 1, 1) := by decide +kernel
theorem d_bo_lay_26 : decode bo_lay.2.1 26 = .ok (.iload_n 3, 1) := by decide +kernel
theorem d_bo_lay_27 : decode bo_lay.2.1 27 = .ok (.iastore, 1) := by decide +kernel
theorem d_bo_lay_28 : decode bo_lay.2.1 28 = .ok (.aload_n 0, 1) := by decide +kernel
theorem d_bo_lay_29 : decode bo_lay.2.1 29 = .ok (.iload_n 2, 1) := by decide +kernel
theorem d_bo_lay_30 : decode bo_lay.2.1 30 = .ok (.iconst (-1), 1) := by decide +kernel
theorem d_bo_lay_31 : decode bo_lay.2.1 31 = .ok (.invokevirtual 116, 3) := by decide +kernel
theorem d_bo_lay_34 : decode bo_lay.2.1 34 = .ok (.ifCond .eq 7, 3) := by decide +kernel
theorem d_bo_lay_37 : decode bo_lay.2.1 37 = .ok (.aload_n 0, 1) := by decide +kernel
theorem d_bo_lay_38 : decode bo_lay.2.1 38 = .ok (.invokevirtual 80, 3) := by decide +kernel
theorem d_bo_lay_41 : decode bo_lay.2.1 41 = .ok (.aload_n 0, 1) := by decide +kernel
theorem d_bo_lay_42 : decode bo_lay.2.1 42 = .ok (.iload_n 1, 1) := by decide +kernel
theorem d_bo_lay_43 : decode bo_lay.2.1 43 = .ok (.invokevirtual 120, 3) := by decide +kernel
theorem d_bo_lay_46 : decode bo_lay.2.1 46 = .ok (.return_, 1) := by decide +kernel
theorem d_bo_lift_0 : decode bo_lift.2.1 0 = .ok (.iload_n 1, 1) := by decide +kernel
theorem d_bo_lift_1 : decode bo_lift.2.1 1 = .ok (.ifCond .lt 48, 3) := by decide +kernel
theorem d_bo_lift_4 : decode bo_lift.2.1 4 = .ok (.iload_n 1, 1) := by decide +kernel
theorem d_bo_lift_5 : decode bo_lift.2.1 5 = .ok (.bipush 64, 2) := by decide +kernel
theorem d_bo_lift_7 : decode bo_lift.2.1 7 = .ok (.if_icmp .ge 42, 3) := by decide +kernel
theorem d_bo_lift_10 : decode bo_lift.2.1 10 = .ok (.aload_n 0, 1) := by decide +kernel
theorem d_bo_lift_11 : decode bo_lift.2.1 11 = .ok (.getfield 17, 3) := by decide +kernel
theorem d_bo_lift_14 : decode bo_lift.2.1 14 = .ok (.iload_n 1, 1) := by decide +kernel
theorem d_bo_lift_15 : decode bo_lift.2.1 15 = .ok (.baload, 1) := by decide +kernel
theorem d_bo_lift_16 : decode bo_lift.2.1 16 = .ok (.ifCond .eq 33, 3) := by decide +kernel
theorem d_bo_lift_19 : decode bo_lift.2.1 19 = .ok (.aload_n 0, 1) := by decide +kernel
theorem d_bo_lift_20 : decode bo_lift.2.1 20 = .ok (.getfield 11, 3) := by decide +kernel
theorem d_bo_lift_23 : decode bo_lift.2.1 23 = .ok (.iload_n 1, 1) := by decide +kernel
theorem d_bo_lift_24 : decode bo_lift.2.1 24 = .ok (.iconst (-1), 1) := by decide +kernel
theorem d_bo_lift_25 : decode bo_lift.2.1 25 = .ok (.iastore, 1) := by decide +kernel
theorem d_bo_lift_26 : decode bo_lift.2.1 26 = .ok (.aload_n 0, 1) := by decide +kernel
theorem d_bo_lift_27 : decode bo_lift.2.1 27 = .ok (.iload_n 1, 1) := by decide +kernel
theorem d_bo_lift_28 : decode bo_lift.2.1 28 = .ok (.invokevirtual 105, 3) := by decide +kernel
theorem d_bo_lift_31 : decode bo_lift.2.1 31 = .ok (.aload_n 0, 1) := by decide +kernel
theorem d_bo_lift_32 : decode bo_lift.2.1 32 = .ok (.iload_n 2, 1) := by decide +kernel
theorem d_bo_lift_33 : decode bo_lift.2.1 33 = .ok (.iconst 1, 1) := by decide +kernel
theorem d_bo_lift_34 : decode bo_lift.2.1 34 = .ok (.invokevirtual 116, 3) := by decide +kernel
theorem d_bo_lift_37 : decode bo_lift.2.1 37 = .ok (.ifCond .eq 7, 3) := by decide +kernel
theorem d_bo_lift_40 : decode bo_lift.2.1 40 = .ok (.aload_n 0, 1) := by decide +kernel
theorem d_bo_lift_41 : decode bo_lift.2.1 41 = .ok (.invokevirtual 80, 3) := by decide +kernel
theorem d_bo_lift_44 : decode bo_lift.2.1 44 = .ok (.aload_n 0, 1) := by decide +kernel
theorem d_bo_lift_45 : decode bo_lift.2.1 45 = .ok (.iload_n 1, 1) := by decide +kernel
theorem d_bo_lift_46 : decode bo_lift.2.1 46 = .ok (.invokevirtual 120, 3) := by decide +kernel
theorem d_bo_lift_49 : decode bo_lift.2.1 49 = .ok (.return_, 1) := by decide +kernel
theorem d_bo_tellAround_0 : decode bo_tellAround.2.1 0 = .ok (.iconst 0, 1) := by decide +kernel
theorem d_bo_tellAround_1 : decode bo_tellAround.2.1 1 = .ok (.istore_n 2, 1) := by decide +kernel
theorem d_bo_tellAround_2 : decode bo_tellAround.2.1 2 = .ok (.iload_n 2, 1) := by decide +kernel
theorem d_bo_tellAround_3 : decode bo_tellAround.2.1 3 = .ok (.iconst 4, 1) := by decide +kernel
theorem d_bo_tellAround_4 : decode bo_tellAround.2.1 4 = .ok (.if_icmp .ge 53, 3) := by decide +kernel
theorem d_bo_tellAround_7 : decode bo_tellAround.2.1 7 = .ok (.aload_n 0, 1) := by decide +kernel
theorem d_bo_tellAround_8 : decode bo_tellAround.2.1 8 = .ok (.iload_n 1, 1) := by decide +kernel
theorem d_bo_tellAround_9 : decode bo_tellAround.2.1 9 = .ok (.iload_n 2, 1) := by decide +kernel
theorem d_bo_tellAround_10 : decode bo_tellAround.2.1 10 = .ok (.invokevirtual 83, 3) := by decide +kernel
theorem d_bo_tellAround_13 : decode bo_tellAround.2.1 13 = .ok (.istore_n 3, 1) := by decide +kernel
theorem d_bo_tellAround_14 : decode bo_tellAround.2.1 14 = .ok (.iload_n 3, 1) := by decide +kernel
theorem d_bo_tellAround_15 : decode bo_tellAround.2.1 15 = .ok (.ifCond .lt 36, 3) := by decide +kernel
theorem d_bo_tellAround_18 : decode bo_tellAround.2.1 18 = .ok (.aload_n 0, 1) := by decide +kernel
theorem d_bo_tellAround_19 : decode bo_tellAround.2.1 19 = .ok (.getfield 21, 3) := by decide +kernel
theorem d_bo_tellAround_22 : decode bo_tellAround.2.1 22 = .ok (.iload_n 3, 1) := by decide +kernel
theorem d_bo_tellAround_23 : decode bo_tellAround.2.1 23 = .ok (.iconst 4, 1) := by decide +kernel
theorem d_bo_tellAround_24 : decode bo_tellAround.2.1 24 = .ok (.imul, 1) := by decide +kernel
theorem d_bo_tellAround_25 : decode bo_tellAround.2.1 25 = .ok (.iload_n 2, 1) := by decide +kernel
theorem d_bo_tellAround_26 : decode bo_tellAround.2.1 26 = .ok (.iconst 2, 1) := by decide +kernel
theorem d_bo_tellAround_27 : decode bo_tellAround.2.1 27 = .ok (.iadd, 1) := by decide +kernel
theorem d_bo_tellAround_28 : decode bo_tellAround.2.1 28 = .ok (.iconst 3, 1) := by decide +kernel
theorem d_bo_tellAround_29 : decode bo_tellAround.2.1 29 = .ok (.iand, 1) := by decide +kernel
theorem d_bo_tellAround_30 : decode bo_tellAround.2.1 30 = .ok (.iadd, 1) := by decide +kernel
theorem d_bo_tellAround_31 : decode bo_tellAround.2.1 31 = .ok (.aload_n 0, 1) := by decide +kernel
theorem d_bo_tellAround_32 : decode bo_tellAround.2.1 32 = .ok (.getfield 41, 3) := by decide +kernel
theorem d_bo_tellAround_35 : decode bo_tellAround.2.1 35 = .ok (.aload_n 0, 1) := by decide +kernel
theorem d_bo_tellAround_36 : decode bo_tellAround.2.1 36 = .ok (.getfield 11, 3) := by decide +kernel
theorem d_bo_tellAround_39 : decode bo_tellAround.2.1 39 = .ok (.iload_n 1, 1) := by decide +kernel
theorem d_bo_tellAround_40 : decode bo_tellAround.2.1 40 = .ok (.iaload, 1) := by decide +kernel
theorem d_bo_tellAround_41 : decode bo_tellAround.2.1 41 = .ok (.iload_n 2, 1) := by decide +kernel
theorem d_bo_tellAround_42 : decode bo_tellAround.2.1 42 = .ok (.invokevirtual 90, 3) := by decide +kernel
theorem d_bo_tellAround_45 : decode bo_tellAround.2.1 45 = .ok (.iastore, 1) := by decide +kernel
theorem d_bo_tellAround_46 : decode bo_tellAround.2.1 46 = .ok (.aload_n 0, 1) := by decide +kernel
theorem d_bo_tellAround_47 : decode bo_tellAround.2.1 47 = .ok (.iload_n 3, 1) := by decide +kernel
theorem d_bo_tellAround_48 : decode bo_tellAround.2.1 48 = .ok (.invokevirtual 105, 3) := by decide +kernel
theorem d_bo_tellAround_51 : decode bo_tellAround.2.1 51 = .ok (.iinc 2 1, 3) := by decide +kernel
theorem d_bo_tellAround_54 : decode bo_tellAround.2.1 54 = .ok (.goto (-52), 3) := by decide +kernel
theorem d_bo_tellAround_57 : decode bo_tellAround.2.1 57 = .ok (.return_, 1) := by decide +kernel
theorem d_bo_changeLeft_0 : decode bo_changeLeft.2.1 0 = .ok (.aload_n 0, 1) := by decide +kernel
theorem d_bo_changeLeft_1 : decode bo_changeLeft.2.1 1 = .ok (.getfield 41, 3) := by decide +kernel
theorem d_bo_changeLeft_4 : decode bo_changeLeft.2.1 4 = .ok (.iload_n 1, 1) := by decide +kernel
theorem d_bo_changeLeft_5 : decode bo_changeLeft.2.1 5 = .ok (.invokevirtual 123, 3) := by decide +kernel
theorem d_bo_changeLeft_8 : decode bo_changeLeft.2.1 8 = .ok (.istore_n 3, 1) := by decide +kernel
theorem d_bo_changeLeft_9 : decode bo_changeLeft.2.1 9 = .ok (.iload_n 3, 1) := by decide +kernel
theorem d_bo_changeLeft_10 : decode bo_changeLeft.2.1 10 = .ok (.ifCond .lt 9, 3) := by decide +kernel
theorem d_bo_changeLeft_13 : decode bo_changeLeft.2.1 13 = .ok (.iload_n 3, 1) := by decide +kernel
theorem d_bo_changeLeft_14 : decode bo_changeLeft.2.1 14 = .ok (.bipush 40, 2) := by decide +kernel
theorem d_bo_changeLeft_16 : decode bo_changeLeft.2.1 16 = .ok (.if_icmp .lt 5, 3) := by decide +kernel
theorem d_bo_changeLeft_19 : decode bo_changeLeft.2.1 19 = .ok (.iconst 0, 1) := by decide +kernel
theorem d_bo_changeLeft_20 : decode bo_changeLeft.2.1 20 = .ok (.ireturn, 1) := by decide +kernel
theorem d_bo_changeLeft_21 : decode bo_changeLeft.2.1 21 = .ok (.aload_n 0, 1) := by decide +kernel
theorem d_bo_changeLeft_22 : decode bo_changeLeft.2.1 22 = .ok (.getfield 29, 3) := by decide +kernel
theorem d_bo_changeLeft_25 : decode bo_changeLeft.2.1 25 = .ok (.iload_n 3, 1) := by decide +kernel
theorem d_bo_changeLeft_26 : decode bo_changeLeft.2.1 26 = .ok (.iaload, 1) := by decide +kernel
theorem d_bo_changeLeft_27 : decode bo_changeLeft.2.1 27 = .ok (.ifCond .le 7, 3) := by decide +kernel
theorem d_bo_changeLeft_30 : decode bo_changeLeft.2.1 30 = .ok (.iconst 1, 1) := by decide +kernel
theorem d_bo_changeLeft_31 : decode bo_changeLeft.2.1 31 = .ok (.goto 4, 3) := by decide +kernel
theorem d_bo_changeLeft_34 : decode bo_changeLeft.2.1 34 = .ok (.iconst 0, 1) := by decide +kernel
theorem d_bo_changeLeft_35 : decode bo_changeLeft.2.1 35 = .ok (.istore 4, 2) := by decide +kernel
theorem d_bo_changeLeft_37 : decode bo_changeLeft.2.1 37 = .ok (.aload_n 0, 1) := by decide +kernel
theorem d_bo_changeLeft_38 : decode bo_changeLeft.2.1 38 = .ok (.getfield 29, 3) := by decide +kernel
theorem d_bo_changeLeft_41 : decode bo_changeLeft.2.1 41 = .ok (.iload_n 3, 1) := by decide +kernel
theorem d_bo_changeLeft_42 : decode bo_changeLeft.2.1 42 = .ok (.dup2, 1) := by decide +kernel
theorem d_bo_changeLeft_43 : decode bo_changeLeft.2.1 43 = .ok (.iaload, 1) := by decide +kernel
theorem d_bo_changeLeft_44 : decode bo_changeLeft.2.1 44 = .ok (.iload_n 2, 1) := by decide +kernel
theorem d_bo_changeLeft_45 : decode bo_changeLeft.2.1 45 = .ok (.iadd, 1) := by decide +kernel
theorem d_bo_changeLeft_46 : decode bo_changeLeft.2.1 46 = .ok (.iastore, 1) := by decide +kernel
theorem d_bo_changeLeft_47 : decode bo_changeLeft.2.1 47 = .ok (.iload 4, 2) := by decide +kernel
theorem d_bo_changeLeft_49 : decode bo_changeLeft.2.1 49 = .ok (.aload_n 0, 1) := by decide +kernel
theorem d_bo_changeLeft_50 : decode bo_changeLeft.2.1 50 = .ok (.getfield 29, 3) := by decide +kernel
theorem d_bo_changeLeft_53 : decode bo_changeLeft.2.1 53 = .ok (.iload_n 3, 1) := by decide +kernel
theorem d_bo_changeLeft_54 : decode bo_changeLeft.2.1 54 = .ok (.iaload, 1) := by decide +kernel
theorem d_bo_changeLeft_55 : decode bo_changeLeft.2.1 55 = .ok (.ifCond .le 7, 3) := by decide +kernel
theorem d_bo_changeLeft_58 : decode bo_changeLeft.2.1 58 = .ok (.iconst 1, 1) := by decide +kernel
theorem d_bo_changeLeft_59 : decode bo_changeLeft.2.1 59 = .ok (.goto 4, 3) := by decide +kernel
theorem d_bo_changeLeft_62 : decode bo_changeLeft.2.1 62 = .ok (.iconst 0, 1) := by decide +kernel
theorem d_bo_changeLeft_63 : decode bo_changeLeft.2.1 63 = .ok (.if_icmp .eq 7, 3) := by decide +kernel
theorem d_bo_changeLeft_66 : decode bo_changeLeft.2.1 66 = .ok (.iconst 1, 1) := by decide +kernel
theorem d_bo_changeLeft_67 : decode bo_changeLeft.2.1 67 = .ok (.goto 4, 3) := by decide +kernel
theorem d_bo_changeLeft_70 : decode bo_changeLeft.2.1 70 = .ok (.iconst 0, 1) := by decide +kernel
theorem d_bo_changeLeft_71 : decode bo_changeLeft.2.1 71 = .ok (.istore 5, 2) := by decide +kernel
theorem d_bo_changeLeft_73 : decode bo_changeLeft.2.1 73 = .ok (.iload 5, 2) := by decide +kernel
theorem d_bo_changeLeft_75 : decode bo_changeLeft.2.1 75 = .ok (.ifCond .eq 8, 3) := by decide +kernel
theorem d_bo_changeLeft_78 : decode bo_changeLeft.2.1 78 = .ok (.aload_n 0, 1) := by decide +kernel
theorem d_bo_changeLeft_79 : decode bo_changeLeft.2.1 79 = .ok (.iload_n 3, 1) := by decide +kernel
theorem d_bo_changeLeft_80 : decode bo_changeLeft.2.1 80 = .ok (.invokevirtual 126, 3) := by decide +kernel
theorem d_bo_changeLeft_83 : decode bo_changeLeft.2.1 83 = .ok (.iload 5, 2) := by decide +kernel
theorem d_bo_changeLeft_85 : decode bo_changeLeft.2.1 85 = .ok (.ireturn, 1) := by decide +kernel
theorem d_bo_flipLeftBits_0 : decode bo_flipLeftBits.2.1 0 = .ok (.iconst 0, 1) := by decide +kernel
theorem d_bo_flipLeftBits_1 : decode bo_flipLeftBits.2.1 1 = .ok (.istore_n 2, 1) := by decide +kernel
theorem d_bo_flipLeftBits_2 : decode bo_flipLeftBits.2.1 2 = .ok (.iload_n 2, 1) := by decide +kernel
theorem d_bo_flipLeftBits_3 : decode bo_flipLeftBits.2.1 3 = .ok (.aload_n 0, 1) := by decide +kernel
theorem d_bo_flipLeftBits_4 : decode bo_flipLeftBits.2.1 4 = .ok (.getfield 41, 3) := by decide +kernel
theorem d_bo_flipLeftBits_7 : decode bo_flipLeftBits.2.1 7 = .ok (.getfield 129, 3) := by decide +kernel
theorem d_bo_flipLeftBits_10 : decode bo_flipLeftBits.2.1 10 = .ok (.if_icmp .ge 39, 3) := by decide +kernel
theorem d_bo_flipLeftBits_13 : decode bo_flipLeftBits.2.1 13 = .ok (.aload_n 0, 1) := by decide +kernel
theorem d_bo_flipLeftBits_14 : decode bo_flipLeftBits.2.1 14 = .ok (.getfield 41, 3) := by decide +kernel
theorem d_bo_flipLeftBits_17 : decode bo_flipLeftBits.2.1 17 = .ok (.iload_n 2, 1) := by decide +kernel
theorem d_bo_flipLeftBits_18 : decode bo_flipLeftBits.2.1 18 = .ok (.invokevirtual 123, 3) := by decide +kernel
theorem d_bo_flipLeftBits_21 : decode bo_flipLeftBits.2.1 21 = .ok (.iload_n 1, 1) := by decide +kernel
theorem d_bo_flipLeftBits_22 : decode bo_flipLeftBits.2.1 22 = .ok (.if_icmp .ne 21, 3) := by decide +kernel
theorem d_bo_flipLeftBits_25 : decode bo_flipLeftBits.2.1 25 = .ok (.aload_n 0, 1) := by decide +kernel
theorem d_bo_flipLeftBits_26 : decode bo_flipLeftBits.2.1 26 = .ok (.getfield 34, 3) := by decide +kernel
theorem d_bo_flipLeftBits_29 : decode bo_flipLeftBits.2.1 29 = .ok (.iload_n 2, 1) := by decide +kernel
theorem d_bo_flipLeftBits_30 : decode bo_flipLeftBits.2.1 30 = .ok (.bipush 6, 2) := by decide +kernel
theorem d_bo_flipLeftBits_32 : decode bo_flipLeftBits.2.1 32 = .ok (.ishr, 1) := by decide +kernel
theorem d_bo_flipLeftBits_33 : decode bo_flipLeftBits.2.1 33 = .ok (.dup2, 1) := by decide +kernel
theorem d_bo_flipLeftBits_34 : decode bo_flipLeftBits.2.1 34 = .ok (.laload, 1) := by decide +kernel
theorem d_bo_flipLeftBits_35 : decode bo_flipLeftBits.2.1 35 = .ok (.lconst 1, 1) := by decide +kernel
theorem d_bo_flipLeftBits_36 : decode bo_flipLeftBits.2.1 36 = .ok (.iload_n 2, 1) := by decide +kernel
theorem d_bo_flipLeftBits_37 : decode bo_flipLeftBits.2.1 37 = .ok (.bipush 63, 2) := by decide +kernel
theorem d_bo_flipLeftBits_39 : decode bo_flipLeftBits.2.1 39 = .ok (.iand, 1) := by decide +kernel
theorem d_bo_flipLeftBits_40 : decode bo_flipLeftBits.2.1 40 = .ok (.lshl, 1) := by decide +kernel
theorem d_bo_flipLeftBits_41 : decode bo_flipLeftBits.2.1 41 = .ok (.lxor, 1) := by decide +kernel
theorem d_bo_flipLeftBits_42 : decode bo_flipLeftBits.2.1 42 = .ok (.lastore, 1) := by decide +kernel
theorem d_bo_flipLeftBits_43 : decode bo_flipLeftBits.2.1 43 = .ok (.iinc 2 1, 3) := by decide +kernel
theorem d_bo_flipLeftBits_46 : decode bo_flipLeftBits.2.1 46 = .ok (.goto (-44), 3) := by decide +kernel
theorem d_bo_flipLeftBits_49 : decode bo_flipLeftBits.2.1 49 = .ok (.return_, 1) := by decide +kernel
theorem d_bo_forceRounds_0 : decode bo_forceRounds.2.1 0 = .ok (.iconst 0, 1) := by decide +kernel
theorem d_bo_forceRounds_1 : decode bo_forceRounds.2.1 1 = .ok (.istore_n 1, 1) := by decide +kernel
theorem d_bo_forceRounds_2 : decode bo_forceRounds.2.1 2 = .ok (.iconst 0, 1) := by decide +kernel
theorem d_bo_forceRounds_3 : decode bo_forceRounds.2.1 3 = .ok (.istore_n 2, 1) := by decide +kernel
theorem d_bo_forceRounds_4 : decode bo_forceRounds.2.1 4 = .ok (.iload_n 2, 1) := by decide +kernel
theorem d_bo_forceRounds_5 : decode bo_forceRounds.2.1 5 = .ok (.bipush 64, 2) := by decide +kernel
theorem d_bo_forceRounds_7 : decode bo_forceRounds.2.1 7 = .ok (.if_icmp .ge 24, 3) := by decide +kernel
theorem d_bo_forceRounds_10 : decode bo_forceRounds.2.1 10 = .ok (.aload_n 0, 1) := by decide +kernel
theorem d_bo_forceRounds_11 : decode bo_forceRounds.2.1 11 = .ok (.invokevirtual 132, 3) := by decide +kernel
theorem d_bo_forceRounds_14 : decode bo_forceRounds.2.1 14 = .ok (.istore_n 3, 1) := by decide +kernel
theorem d_bo_forceRounds_15 : decode bo_forceRounds.2.1 15 = .ok (.iload_n 3, 1) := by decide +kernel
theorem d_bo_forceRounds_16 : decode bo_forceRounds.2.1 16 = .ok (.ifCond .ne 5, 3) := by decide +kernel
theorem d_bo_forceRounds_19 : decode bo_forceRounds.2.1 19 = .ok (.iload_n 1, 1) := by decide +kernel
theorem d_bo_forceRounds_20 : decode bo_forceRounds.2.1 20 = .ok (.ireturn, 1) := by decide +kernel
theorem d_bo_forceRounds_21 : decode bo_forceRounds.2.1 21 = .ok (.iload_n 1, 1) := by decide +kernel
theorem d_bo_forceRounds_22 : decode bo_forceRounds.2.1 22 = .ok (.iload_n 3, 1) := by decide +kernel
theorem d_bo_forceRounds_23 : decode bo_forceRounds.2.1 23 = .ok (.iadd, 1) := by decide +kernel
theorem d_bo_forceRounds_24 : decode bo_forceRounds.2.1 24 = .ok (.istore_n 1, 1) := by decide +kernel
theorem d_bo_forceRounds_25 : decode bo_forceRounds.2.1 25 = .ok (.iinc 2 1, 3) := by decide +kernel
theorem d_bo_forceRounds_28 : decode bo_forceRounds.2.1 28 = .ok (.goto (-24), 3) := by decide +kernel
theorem d_bo_forceRounds_31 : decode bo_forceRounds.2.1 31 = .ok (.iload_n 1, 1) := by decide +kernel
theorem d_bo_forceRounds_32 : decode bo_forceRounds.2.1 32 = .ok (.ireturn, 1) := by decide +kernel
theorem d_bo_forceRound_0 : decode bo_forceRound.2.1 0 = .ok (.iconst 0, 1) := by decide +kernel
theorem d_bo_forceRound_1 : decode bo_forceRound.2.1 1 = .ok (.istore_n 1, 1) := by decide +kernel
theorem d_bo_forceRound_2 : decode bo_forceRound.2.1 2 = .ok (.iload_n 1, 1) := by decide +kernel
theorem d_bo_forceRound_3 : decode bo_forceRound.2.1 3 = .ok (.bipush 64, 2) := by decide +kernel
theorem d_bo_forceRound_5 : decode bo_forceRound.2.1 5 = .ok (.if_icmp .ge 43, 3) := by decide +kernel
theorem d_bo_forceRound_8 : decode bo_forceRound.2.1 8 = .ok (.aload_n 0, 1) := by decide +kernel
theorem d_bo_forceRound_9 : decode bo_forceRound.2.1 9 = .ok (.getfield 38, 3) := by decide +kernel
theorem d_bo_forceRound_12 : decode bo_forceRound.2.1 12 = .ok (.iload_n 1, 1) := by decide +kernel
theorem d_bo_forceRound_13 : decode bo_forceRound.2.1 13 = .ok (.aload_n 0, 1) := by decide +kernel
theorem d_bo_forceRound_14 : decode bo_forceRound.2.1 14 = .ok (.iload_n 1, 1) := by decide +kernel
theorem d_bo_forceRound_15 : decode bo_forceRound.2.1 15 = .ok (.invokevirtual 93, 3) := by decide +kernel
theorem d_bo_forceRound_18 : decode bo_forceRound.2.1 18 = .ok (.ifCond .eq 22, 3) := by decide +kernel
theorem d_bo_forceRound_21 : decode bo_forceRound.2.1 21 = .ok (.aload_n 0, 1) := by decide +kernel
theorem d_bo_forceRound_22 : decode bo_forceRound.2.1 22 = .ok (.getfield 24, 3) := by decide +kernel
theorem d_bo_forceRound_25 : decode bo_forceRound.2.1 25 = .ok (.iload_n 1, 1) := by decide +kernel
theorem d_bo_forceRound_26 : decode bo_forceRound.2.1 26 = .ok (.iaload, 1) := by decide +kernel
theorem d_bo_forceRound_27 : decode bo_forceRound.2.1 27 = .ok (.iconst 1, 1) := by decide +kernel
theorem d_bo_forceRound_28 : decode bo_forceRound.2.1 28 = .ok (.if_icmp .ne 12, 3) := by decide +kernel
theorem d_bo_forceRound_31 : decode bo_forceRound.2.1 31 = .ok (.aload_n 0, 1) := by decide +kernel
theorem d_bo_forceRound_32 : decode bo_forceRound.2.1 32 = .ok (.iload_n 1, 1) := by decide +kernel
theorem d_bo_forceRound_33 : decode bo_forceRound.2.1 33 = .ok (.iconst (-1), 1) := by decide +kernel
theorem d_bo_forceRound_34 : decode bo_forceRound.2.1 34 = .ok (.invokevirtual 136, 3) := by decide +kernel
theorem d_bo_forceRound_37 : decode bo_forceRound.2.1 37 = .ok (.goto 4, 3) := by decide +kernel
theorem d_bo_forceRound_40 : decode bo_forceRound.2.1 40 = .ok (.iconst (-1), 1) := by decide +kernel
theorem d_bo_forceRound_41 : decode bo_forceRound.2.1 41 = .ok (.iastore, 1) := by decide +kernel
theorem d_bo_forceRound_42 : decode bo_forceRound.2.1 42 = .ok (.iinc 1 1, 3) := by decide +kernel
theorem d_bo_forceRound_45 : decode bo_forceRound.2.1 45 = .ok (.goto (-43), 3) := by decide +kernel
theorem d_bo_forceRound_48 : decode bo_forceRound.2.1 48 = .ok (.iconst 0, 1) := by decide +kernel
theorem d_bo_forceRound_49 : decode bo_forceRound.2.1 49 = .ok (.istore_n 1, 1) := by decide +kernel
theorem d_bo_forceRound_50 : decode bo_forceRound.2.1 50 = .ok (.iconst 0, 1) := by decide +kernel
theorem d_bo_forceRound_51 : decode bo_forceRound.2.1 51 = .ok (.istore_n 2, 1) := by decide +kernel
theorem d_bo_forceRound_52 : decode bo_forceRound.2.1 52 = .ok (.iload_n 2, 1) := by decide +kernel
theorem d_bo_forceRound_53 : decode bo_forceRound.2.1 53 = .ok (.bipush 64, 2) := by decide +kernel
theorem d_bo_forceRound_55 : decode bo_forceRound.2.1 55 = .ok (.if_icmp .ge 48, 3) := by decide +kernel
theorem d_bo_forceRound_58 : decode bo_forceRound.2.1 58 = .ok (.aload_n 0, 1) := by decide +kernel
theorem d_bo_forceRound_59 : decode bo_forceRound.2.1 59 = .ok (.getfield 38, 3) := by decide +kernel
theorem d_bo_forceRound_62 : decode bo_forceRound.2.1 62 = .ok (.iload_n 2, 1) := by decide +kernel
theorem d_bo_forceRound_63 : decode bo_forceRound.2.1 63 = .ok (.iaload, 1) := by decide +kernel
theorem d_bo_forceRound_64 : decode bo_forceRound.2.1 64 = .ok (.iconst (-1), 1) := by decide +kernel
theorem d_bo_forceRound_65 : decode bo_forceRound.2.1 65 = .ok (.if_icmp .eq 32, 3) := by decide +kernel
theorem d_bo_forceRound_68 : decode bo_forceRound.2.1 68 = .ok (.aload_n 0, 1) := by decide +kernel
theorem d_bo_forceRound_69 : decode bo_forceRound.2.1 69 = .ok (.iload_n 2, 1) := by decide +kernel
theorem d_bo_forceRound_70 : decode bo_forceRound.2.1 70 = .ok (.iconst (-1), 1) := by decide +kernel
theorem d_bo_forceRound_71 : decode bo_forceRound.2.1 71 = .ok (.invokevirtual 136, 3) := by decide +kernel
theorem d_bo_forceRound_74 : decode bo_forceRound.2.1 74 = .ok (.aload_n 0, 1) := by decide +kernel
theorem d_bo_forceRound_75 : decode bo_forceRound.2.1 75 = .ok (.getfield 38, 3) := by decide +kernel
theorem d_bo_forceRound_78 : decode bo_forceRound.2.1 78 = .ok (.iload_n 2, 1) := by decide +kernel
theorem d_bo_forceRound_79 : decode bo_forceRound.2.1 79 = .ok (.iaload, 1) := by decide +kernel
theorem d_bo_forceRound_80 : decode bo_forceRound.2.1 80 = .ok (.if_icmp .ne 17, 3) := by decide +kernel
theorem d_bo_forceRound_83 : decode bo_forceRound.2.1 83 = .ok (.aload_n 0, 1) := by decide +kernel
theorem d_bo_forceRound_84 : decode bo_forceRound.2.1 84 = .ok (.iload_n 2, 1) := by decide +kernel
theorem d_bo_forceRound_85 : decode bo_forceRound.2.1 85 = .ok (.aload_n 0, 1) := by decide +kernel
theorem d_bo_forceRound_86 : decode bo_forceRound.2.1 86 = .ok (.getfield 38, 3) := by decide +kernel
theorem d_bo_forceRound_89 : decode bo_forceRound.2.1 89 = .ok (.iload_n 2, 1) := by decide +kernel
theorem d_bo_forceRound_90 : decode bo_forceRound.2.1 90 = .ok (.iaload, 1) := by decide +kernel
theorem d_bo_forceRound_91 : decode bo_forceRound.2.1 91 = .ok (.invokevirtual 139, 3) := by decide +kernel
theorem d_bo_forceRound_94 : decode bo_forceRound.2.1 94 = .ok (.iinc 1 1, 3) := by decide +kernel
theorem d_bo_forceRound_97 : decode bo_forceRound.2.1 97 = .ok (.iinc 2 1, 3) := by decide +kernel
theorem d_bo_forceRound_100 : decode bo_forceRound.2.1 100 = .ok (.goto (-48), 3) := by decide +kernel
theorem d_bo_forceRound_103 : decode bo_forceRound.2.1 103 = .ok (.iload_n 1, 1) := by decide +kernel
theorem d_bo_forceRound_104 : decode bo_forceRound.2.1 104 = .ok (.ireturn, 1) := by decide +kernel
theorem d_bo_showOn_0 : decode bo_showOn.2.1 0 = .ok (.iconst 0, 1) := by decide +kernel
theorem d_bo_showOn_1 : decode bo_showOn.2.1 1 = .ok (.istore_n 2, 1) := by decide +kernel
theorem d_bo_showOn_2 : decode bo_showOn.2.1 2 = .ok (.iload_n 2, 1) := by decide +kernel
theorem d_bo_showOn_3 : decode bo_showOn.2.1 3 = .ok (.bipush 64, 2) := by decide +kernel
theorem d_bo_showOn_5 : decode bo_showOn.2.1 5 = .ok (.if_icmp .ge 33, 3) := by decide +kernel
theorem d_bo_showOn_8 : decode bo_showOn.2.1 8 = .ok (.aload_n 1, 1) := by decide +kernel
theorem d_bo_showOn_9 : decode bo_showOn.2.1 9 = .ok (.iload_n 2, 1) := by decide +kernel
theorem d_bo_showOn_10 : decode bo_showOn.2.1 10 = .ok (.aload_n 0, 1) := by decide +kernel
theorem d_bo_showOn_11 : decode bo_showOn.2.1 11 = .ok (.getfield 17, 3) := by decide +kernel
theorem d_bo_showOn_14 : decode bo_showOn.2.1 14 = .ok (.iload_n 2, 1) := by decide +kernel
theorem d_bo_showOn_15 : decode bo_showOn.2.1 15 = .ok (.baload, 1) := by decide +kernel
theorem d_bo_showOn_16 : decode bo_showOn.2.1 16 = .ok (.ifCond .eq 12, 3) := by decide +kernel
theorem d_bo_showOn_19 : decode bo_showOn.2.1 19 = .ok (.aload_n 0, 1) := by decide +kernel
theorem d_bo_showOn_20 : decode bo_showOn.2.1 20 = .ok (.getfield 11, 3) := by decide +kernel
theorem d_bo_showOn_23 : decode bo_showOn.2.1 23 = .ok (.iload_n 2, 1) := by decide +kernel
theorem d_bo_showOn_24 : decode bo_showOn.2.1 24 = .ok (.iaload, 1) := by decide +kernel
theorem d_bo_showOn_25 : decode bo_showOn.2.1 25 = .ok (.goto 4, 3) := by decide +kernel
theorem d_bo_showOn_28 : decode bo_showOn.2.1 28 = .ok (.iconst (-1), 1) := by decide +kernel
theorem d_bo_showOn_29 : decode bo_showOn.2.1 29 = .ok (.invokevirtual 143, 3) := by decide +kernel
theorem d_bo_showOn_32 : decode bo_showOn.2.1 32 = .ok (.iinc 2 1, 3) := by decide +kernel
theorem d_bo_showOn_35 : decode bo_showOn.2.1 35 = .ok (.goto (-33), 3) := by decide +kernel
theorem d_bo_showOn_38 : decode bo_showOn.2.1 38 = .ok (.return_, 1) := by decide +kernel
theorem d_ce_tile_0 : decode ce_tile.2.1 0 = .ok (.iload_n 0, 1) := by decide +kernel
theorem d_ce_tile_1 : decode ce_tile.2.1 1 = .ok (.bipush 19, 2) := by decide +kernel
theorem d_ce_tile_3 : decode ce_tile.2.1 3 = .ok (.ishl, 1) := by decide +kernel
theorem d_ce_tile_4 : decode ce_tile.2.1 4 = .ok (.iload_n 1, 1) := by decide +kernel
theorem d_ce_tile_5 : decode ce_tile.2.1 5 = .ok (.bipush 16, 2) := by decide +kernel
theorem d_ce_tile_7 : decode ce_tile.2.1 7 = .ok (.ishl, 1) := by decide +kernel
theorem d_ce_tile_8 : decode ce_tile.2.1 8 = .ok (.ior, 1) := by decide +kernel
theorem d_ce_tile_9 : decode ce_tile.2.1 9 = .ok (.iload_n 2, 1) := by decide +kernel
theorem d_ce_tile_10 : decode ce_tile.2.1 10 = .ok (.ldc 7, 2) := by decide +kernel
theorem d_ce_tile_12 : decode ce_tile.2.1 12 = .ok (.iand, 1) := by decide +kernel
theorem d_ce_tile_13 : decode ce_tile.2.1 13 = .ok (.ior, 1) := by decide +kernel
theorem d_ce_tile_14 : decode ce_tile.2.1 14 = .ok (.ireturn, 1) := by decide +kernel
theorem d_ce_kindOf_0 : decode ce_kindOf.2.1 0 = .ok (.iload_n 0, 1) := by decide +kernel
theorem d_ce_kindOf_1 : decode ce_kindOf.2.1 1 = .ok (.ifCond .ge 7, 3) := by decide +kernel
theorem d_ce_kindOf_4 : decode ce_kindOf.2.1 4 = .ok (.iload_n 0, 1) := by decide +kernel
theorem d_ce_kindOf_5 : decode ce_kindOf.2.1 5 = .ok (.goto 7, 3) := by decide +kernel
theorem d_ce_kindOf_8 : decode ce_kindOf.2.1 8 = .ok (.iload_n 0, 1) := by decide +kernel
theorem d_ce_kindOf_9 : decode ce_kindOf.2.1 9 = .ok (.bipush 19, 2) := by decide +kernel
theorem d_ce_kindOf_11 : decode ce_kindOf.2.1 11 = .ok (.ishr, 1) := by decide +kernel
theorem d_ce_kindOf_12 : decode ce_kindOf.2.1 12 = .ok (.ireturn, 1) := by decide +kernel
theorem d_ce_moveOf_0 : decode ce_moveOf.2.1 0 = .ok (.iload_n 0, 1) := by decide +kernel
theorem d_ce_moveOf_1 : decode ce_moveOf.2.1 1 = .ok (.ifCond .ge 7, 3) := by decide +kernel
theorem d_ce_moveOf_4 : decode ce_moveOf.2.1 4 = .ok (.iconst 0, 1) := by decide +kernel
theorem d_ce_moveOf_5 : decode ce_moveOf.2.1 5 = .ok (.goto 10, 3) := by decide +kernel
theorem d_ce_moveOf_8 : decode ce_moveOf.2.1 8 = .ok (.iload_n 0, 1) := by decide +kernel
theorem d_ce_moveOf_9 : decode ce_moveOf.2.1 9 = .ok (.bipush 16, 2) := by decide +kernel
theorem d_ce_moveOf_11 : decode ce_moveOf.2.1 11 = .ok (.ishr, 1) := by decide +kernel
theorem d_ce_moveOf_12 : decode ce_moveOf.2.1 12 = .ok (.bipush 7, 2) := by decide +kernel
theorem d_ce_moveOf_14 : decode ce_moveOf.2.1 14 = .ok (.iand, 1) := by decide +kernel
theorem d_ce_moveOf_15 : decode ce_moveOf.2.1 15 = .ok (.ireturn, 1) := by decide +kernel
theorem d_ce_shadeOf_0 : decode ce_shadeOf.2.1 0 = .ok (.iload_n 0, 1) := by decide +kernel
theorem d_ce_shadeOf_1 : decode ce_shadeOf.2.1 1 = .ok (.ifCond .ge 7, 3) := by decide +kernel
theorem d_ce_shadeOf_4 : decode ce_shadeOf.2.1 4 = .ok (.iconst 0, 1) := by decide +kernel
theorem d_ce_shadeOf_5 : decode ce_shadeOf.2.1 5 = .ok (.goto 5, 3) := by decide +kernel
theorem d_ce_shadeOf_8 : decode ce_shadeOf.2.1 8 = .ok (.iload_n 0, 1) := by decide +kernel
theorem d_ce_shadeOf_9 : decode ce_shadeOf.2.1 9 = .ok (.i2s, 1) := by decide +kernel
theorem d_ce_shadeOf_10 : decode ce_shadeOf.2.1 10 = .ok (.ireturn, 1) := by decide +kernel
theorem d_ce_shaded_0 : decode ce_shaded.2.1 0 = .ok (.iload_n 0, 1) := by decide +kernel
theorem d_ce_shaded_1 : decode ce_shaded.2.1 1 = .ok (.ifCond .ge 7, 3) := by decide +kernel
theorem d_ce_shaded_4 : decode ce_shaded.2.1 4 = .ok (.iload_n 0, 1) := by decide +kernel
theorem d_ce_shaded_5 : decode ce_shaded.2.1 5 = .ok (.goto 15, 3) := by decide +kernel
theorem d_ce_shaded_8 : decode ce_shaded.2.1 8 = .ok (.iload_n 0, 1) := by decide +kernel
theorem d_ce_shaded_9 : decode ce_shaded.2.1 9 = .ok (.invokestatic 8, 3) := by decide +kernel
theorem d_ce_shaded_12 : decode ce_shaded.2.1 12 = .ok (.iload_n 0, 1) := by decide +kernel
theorem d_ce_shaded_13 : decode ce_shaded.2.1 13 = .ok (.invokestatic 14, 3) := by decide +kernel
theorem d_ce_shaded_16 : decode ce_shaded.2.1 16 = .ok (.iload_n 1, 1) := by decide +kernel
theorem d_ce_shaded_17 : decode ce_shaded.2.1 17 = .ok (.invokestatic 17, 3) := by decide +kernel
theorem d_ce_shaded_20 : decode ce_shaded.2.1 20 = .ok (.ireturn, 1) := by decide +kernel
theorem d_ch_init_0 : decode ch_init.2.1 0 = .ok (.aload_n 0, 1) := by decide +kernel
theorem d_ch_init_1 : decode ch_init.2.1 1 = .ok (.invokespecial 7, 3) := by decide +kernel
theorem d_ch_init_4 : decode ch_init.2.1 4 = .ok (.aload_n 0, 1) := by decide +kernel
theorem d_ch_init_5 : decode ch_init.2.1 5 = .ok (.sipush 320, 3) := by decide +kernel
theorem d_ch_init_8 : decode ch_init.2.1 8 = .ok (.newarray .int, 2) := by decide +kernel
theorem d_ch_init_10 : decode ch_init.2.1 10 = .ok (.putfield 13, 3) := by decide +kernel
theorem d_ch_init_13 : decode ch_init.2.1 13 = .ok (.aload_n 0, 1) := by decide +kernel
theorem d_ch_init_14 : decode ch_init.2.1 14 = .ok (.sipush 340, 3) := by decide +kernel
theorem d_ch_init_17 : decode ch_init.2.1 17 = .ok (.newarray .long, 2) := by decide +kernel
theorem d_ch_init_19 : decode ch_init.2.1 19 = .ok (.putfield 17, 3) := by decide +kernel
theorem d_ch_init_22 : decode ch_init.2.1 22 = .ok (.aload_n 0, 1) := by decide +kernel
theorem d_ch_init_23 : decode ch_init.2.1 23 = .ok (.aload_n 1, 1) := by decide +kernel
theorem d_ch_init_24 : decode ch_init.2.1 24 = .ok (.putfield 21, 3) := by decide +kernel
theorem d_ch_init_27 : decode ch_init.2.1 27 = .ok (.return_, 1) := by decide +kernel
theorem d_ch_gather_0 : decode ch_gather.2.1 0 = .ok (.aload_n 0, 1) := by decide +kernel
theorem d_ch_gather_1 : decode ch_gather.2.1 1 = .ok (.iconst 0, 1) := by decide +kernel
theorem d_ch_gather_2 : decode ch_gather.2.1 2 = .ok (.putfield 25, 3) := by decide +kernel
theorem d_ch_gather_5 : decode ch_gather.2.1 5 = .ok (.aload_n 0, 1) := by decide +kernel
theorem d_ch_gather_6 : decode ch_gather.2.1 6 = .ok (.getfield 17, 3) := by decide +kernel
theorem d_ch_gather_9 : decode ch_gather.2.1 9 = .ok (.lconst 0, 1) := by decide +kernel
theorem d_ch_gather_10 : decode ch_gather.2.1 10 = .ok (.invokestatic 29, 3) := by decide +kernel
theorem d_ch_gather_13 : decode ch_gather.2.1 13 = .ok (.iconst 0, 1) := by decide +kernel
theorem d_ch_gather_14 : decode ch_gather.2.1 14 = .ok (.istore_n 2, 1) := by decide +kernel
theorem d_ch_gather_15 : decode ch_gather.2.1 15 = .ok (.iload_n 2, 1) := by decide +kernel
theorem d_ch_gather_16 : decode ch_gather.2.1 16 = .ok (.aload_n 0, 1) := by decide +kernel
theorem d_ch_gather_17 : decode ch_gather.2.1 17 = .ok (.getfield 21, 3) := by decide +kernel
theorem d_ch_gather_20 : decode ch_gather.2.1 20 = .ok (.getfield 35, 3) := by decide +kernel
theorem d_ch_gather_23 : decode ch_gather.2.1 23 = .ok (.if_icmp .ge 54, 3) := by decide +kernel
theorem d_ch_gather_26 : decode ch_gather.2.1 26 = .ok (.iconst 0, 1) := by decide +kernel
theorem d_ch_gather_27 : decode ch_gather.2.1 27 = .ok (.istore_n 3, 1) := by decide +kernel
theorem d_ch_gather_28 : decode ch_gather.2.1 28 = .ok (.iload_n 3, 1) := by decide +kernel
theorem d_ch_gather_29 : decode ch_gather.2.1 29 = .ok (.bipush 8, 2) := by decide +kernel
theorem d_ch_gather_31 : decode ch_gather.2.1 31 = .ok (.if_icmp .ge 40, 3) := by decide +kernel
theorem d_ch_gather_34 : decode ch_gather.2.1 34 = .ok (.aload_n 1, 1) := by decide +kernel
theorem d_ch_gather_35 : decode ch_gather.2.1 35 = .ok (.iload_n 2, 1) := by decide +kernel
theorem d_ch_gather_36 : decode ch_gather.2.1 36 = .ok (.invokevirtual 38, 3) := by decide +kernel
theorem d_ch_gather_39 : decode ch_gather.2.1 39 = .ok (.ifCond .le 32, 3) := by decide +kernel
theorem d_ch_gather_42 : decode ch_gather.2.1 42 = .ok (.aload_n 0, 1) := by decide +kernel
theorem d_ch_gather_43 : decode ch_gather.2.1 43 = .ok (.getfield 21, 3) := by decide +kernel
theorem d_ch_gather_46 : decode ch_gather.2.1 46 = .ok (.iload_n 2, 1) := by decide +kernel
theorem d_ch_gather_47 : decode ch_gather.2.1 47 = .ok (.iload_n 3, 1) := by decide +kernel
theorem d_ch_gather_48 : decode ch_gather.2.1 48 = .ok (.invokevirtual 44, 3) := by decide +kernel
theorem d_ch_gather_51 : decode ch_gather.2.1 51 = .ok (.iload_n 3, 1) := by decide +kernel
theorem d_ch_gather_52 : decode ch_gather.2.1 52 = .ok (.if_icmp .ne 13, 3) := by decide +kernel
theorem d_ch_gather_55 : decode ch_gather.2.1 55 = .ok (.aload_n 0, 1) := by decide +kernel
theorem d_ch_gather_56 : decode ch_gather.2.1 56 = .ok (.bipush 8, 2) := by decide +kernel
theorem d_ch_gather_58 : decode ch_gather.2.1 58 = .ok (.iload_n 2, 1) := by decide +kernel
theorem d_ch_gather_59 : decode ch_gather.2.1 59 = .ok (.imul, 1) := by decide +kernel
theorem d_ch_gather_60 : decode ch_gather.2.1 60 = .ok (.iload_n 3, 1) := by decide +kernel
theorem d_ch_gather_61 : decode ch_gather.2.1 61 = .ok (.iadd, 1) := by decide +kernel
theorem d_ch_gather_62 : decode ch_gather.2.1 62 = .ok (.invokevirtual 48, 3) := by decide +kernel
theorem d_ch_gather_65 : decode ch_gather.2.1 65 = .ok (.iinc 3 1, 3) := by decide +kernel
theorem d_ch_gather_68 : decode ch_gather.2.1 68 = .ok (.goto (-40), 3) := by decide +kernel
theorem d_ch_gather_71 : decode ch_gather.2.1 71 = .ok (.iinc 2 1, 3) := by decide +kernel
theorem d_ch_gather_74 : decode ch_gather.2.1 74 = .ok (.goto (-59), 3) := by decide +kernel
theorem d_ch_gather_77 : decode ch_gather.2.1 77 = .ok (.return_, 1) := by decide +kernel
theorem d_ch_enter_0 : decode ch_enter.2.1 0 = .ok (.aload_n 0, 1) := by decide +kernel
theorem d_ch_enter_1 : decode ch_enter.2.1 1 = .ok (.getfield 25, 3) := by decide +kernel
theorem d_ch_enter_4 : decode ch_enter.2.1 4 = .ok (.aload_n 0, 1) := by decide +kernel
theorem d_ch_enter_5 : decode ch_enter.2.1 5 = .ok (.getfield 13, 3) := by decide +kernel
theorem d_ch_enter_8 : decode ch_enter.2.1 8 = .ok (.arraylength, 1) := by decide +kernel
theorem d_ch_enter_9 : decode ch_enter.2.1 9 = .ok (.if_icmp .ge 54, 3) := by decide +kernel
theorem d_ch_enter_12 : decode ch_enter.2.1 12 = .ok (.aload_n 0, 1) := by decide +kernel
theorem d_ch_enter_13 : decode ch_enter.2.1 13 = .ok (.getfield 13, 3) := by decide +kernel
theorem d_ch_enter_16 : decode ch_enter.2.1 16 = .ok (.aload_n 0, 1) := by decide +kernel
theorem d_ch_enter_17 : decode ch_enter.2.1 17 = .ok (.getfield 25, 3) := by decide +kernel
theorem d_ch_enter_20 : decode ch_enter.2.1 20 = .ok (.iload_n 1, 1) := by decide +kernel
theorem d_ch_enter_21 : decode ch_enter.2.1 21 = .ok (.iastore, 1) := by decide +kernel
theorem d_ch_enter_22 : decode ch_enter.2.1 22 = .ok (.iconst 0, 1) := by decide +kernel
theorem d_ch_enter_23 : decode ch_enter.2.1 23 = .ok (.istore_n 2, 1) := by decide +kernel
theorem d_ch_enter_24 : decode ch_enter.2.1 24 = .ok (.iload_n 2, 1) := by decide +kernel
theorem d_ch_enter_25 : decode ch_enter.2.1 25 = .ok (.iconst 4, 1) := by decide +kernel
theorem d_ch_enter_26 : decode ch_enter.2.1 26 = .ok (.if_icmp .ge 27, 3) := by decide +kernel
theorem d_ch_enter_29 : decode ch_enter.2.1 29 = .ok (.aload_n 0, 1) := by decide +kernel
theorem d_ch_enter_30 : decode ch_enter.2.1 30 = .ok (.iload_n 2, 1) := by decide +kernel
theorem d_ch_enter_31 : decode ch_enter.2.1 31 = .ok (.aload_n 0, 1) := by decide +kernel
theorem d_ch_enter_32 : decode ch_enter.2.1 32 = .ok (.iload_n 1, 1) := by decide +kernel
theorem d_ch_enter_33 : decode ch_enter.2.1 33 = .ok (.iload_n 2, 1) := by decide +kernel
theorem d_ch_enter_34 : decode ch_enter.2.1 34 = .ok (.invokevirtual 52, 3) := by decide +kernel
theorem d_ch_enter_37 : decode ch_enter.2.1 37 = .ok (.invokevirtual 55, 3) := by decide +kernel
theorem d_ch_enter_40 : decode ch_enter.2.1 40 = .ok (.aload_n 0, 1) := by decide +kernel
theorem d_ch_enter_41 : decode ch_enter.2.1 41 = .ok (.iload_n 2, 1) := by decide +kernel
theorem d_ch_enter_42 : decode ch_enter.2.1 42 = .ok (.bipush 16, 2) := by decide +kernel
theorem d_ch_enter_44 : decode ch_enter.2.1 44 = .ok (.invokevirtual 55, 3) := by decide +kernel
theorem d_ch_enter_47 : decode ch_enter.2.1 47 = .ok (.iinc 2 1, 3) := by decide +kernel
theorem d_ch_enter_50 : decode ch_enter.2.1 50 = .ok (.goto (-26), 3) := by decide +kernel
theorem d_ch_enter_53 : decode ch_enter.2.1 53 = .ok (.aload_n 0, 1) := by decide +kernel
theorem d_ch_enter_54 : decode ch_enter.2.1 54 = .ok (.dup, 1) := by decide +kernel
theorem d_ch_enter_55 : decode ch_enter.2.1 55 = .ok (.getfield 25, 3) := by decide +kernel
theorem d_ch_enter_58 : decode ch_enter.2.1 58 = .ok (.iconst 1, 1) := by decide +kernel
theorem d_ch_enter_59 : decode ch_enter.2.1 59 = .ok (.iadd, 1) := by decide +kernel
theorem d_ch_enter_60 : decode ch_enter.2.1 60 = .ok (.putfield 25, 3) := by decide +kernel
theorem d_ch_enter_63 : decode ch_enter.2.1 63 = .ok (.return_, 1) := by decide +kernel
theorem d_ch_mark_0 : decode ch_mark.2.1 0 = .ok (.aload_n 0, 1) := by decide +kernel
theorem d_ch_mark_1 : decode ch_mark.2.1 1 = .ok (.getfield 17, 3) := by decide +kernel
theorem d_ch_mark_4 : decode ch_mark.2.1 4 = .ok (.iload_n 1, 1) := by decide +kernel
theorem d_ch_mark_5 : decode ch_mark.2.1 5 = .ok (.bipush 17, 2) := by decide +kernel
theorem d_ch_mark_7 : decode ch_mark.2.1 7 = .ok (.imul, 1) := by decide +kernel
theorem d_ch_mark_8 : decode ch_mark.2.1 8 = .ok (.iload_n 2, 1) := by decide +kernel
theorem d_ch_mark_9 : decode ch_mark.2.1 9 = .ok (.iadd, 1) := by decide +kernel
theorem d_ch_mark_10 : decode ch_mark.2.1 10 = .ok (.iconst 5, 1) := by decide +kernel
theorem d_ch_mark_11 : decode ch_mark.2.1 11 = .ok (.imul, 1) := by decide +kernel
theorem d_ch_mark_12 : decode ch_mark.2.1 12 = .ok (.aload_n 0, 1) := by decide +kernel
theorem d_ch_mark_13 : decode ch_mark.2.1 13 = .ok (.getfield 25, 3) := by decide +kernel
theorem d_ch_mark_16 : decode ch_mark.2.1 16 = .ok (.bipush 6, 2) := by decide +kernel
theorem d_ch_mark_18 : decode ch_mark.2.1 18 = .ok (.ishr, 1) := by decide +kernel
theorem d_ch_mark_19 : decode ch_mark.2.1 19 = .ok (.iadd, 1) := by decide +kernel
theorem d_ch_mark_20 : decode ch_mark.2.1 20 = .ok (.dup2, 1) := by decide +kernel
theorem d_ch_mark_21 : decode ch_mark.2.1 21 = .ok (.laload, 1) := by decide +kernel
theorem d_ch_mark_22 : decode ch_mark.2.1 22 = .ok (.lconst 1, 1) := by decide +kernel
theorem d_ch_mark_23 : decode ch_mark.2.1 23 = .ok (.aload_n 0, 1) := by decide +kernel
theorem d_ch_mark_24 : decode ch_mark.2.1 24 = .ok (.getfield 25, 3) := by decide +kernel
theorem d_ch_mark_27 : decode ch_mark.2.1 27 = .ok (.bipush 63, 2) := by decide +kernel
theorem d_ch_mark_29 : decode ch_mark.2.1 29 = .ok (.iand, 1) := by decide +kernel
theorem d_ch_mark_30 : decode ch_mark.2.1 30 = .ok (.lshl, 1) := by decide +kernel
theorem d_ch_mark_31 : decode ch_mark.2.1 31 = .ok (.lor, 1) := by decide +kernel
theorem d_ch_mark_32 : decode ch_mark.2.1 32 = .ok (.lastore, 1) := by decide +kernel
theorem d_ch_mark_33 : decode ch_mark.2.1 33 = .ok (.return_, 1) := by decide +kernel
theorem d_ch_codeOf_0 : decode ch_codeOf.2.1 0 = .ok (.iload_n 1, 1) := by decide +kernel
theorem d_ch_codeOf_1 : decode ch_codeOf.2.1 1 = .ok (.ifCond .lt 20, 3) := by decide +kernel
theorem d_ch_codeOf_4 : decode ch_codeOf.2.1 4 = .ok (.iload_n 1, 1) := by decide +kernel
theorem d_ch_codeOf_5 : decode ch_codeOf.2.1 5 = .ok (.aload_n 0, 1) := by decide +kernel
theorem d_ch_codeOf_6 : decode ch_codeOf.2.1 6 = .ok (.getfield 25, 3) := by decide +kernel
theorem d_ch_codeOf_9 : decode ch_codeOf.2.1 9 = .ok (.if_icmp .ge 12, 3) := by decide +kernel
theorem d_ch_codeOf_12 : decode ch_codeOf.2.1 12 = .ok (.aload_n 0, 1) := by decide +kernel
theorem d_ch_codeOf_13 : decode ch_codeOf.2.1 13 = .ok (.getfield 13, 3) := by decide +kernel
theorem d_ch_codeOf_16 : decode ch_codeOf.2.1 16 = .ok (.iload_n 1, 1) := by decide +kernel
theorem d_ch_codeOf_17 : decode ch_codeOf.2.1 17 = .ok (.iaload, 1) := by decide +kernel
theorem d_ch_codeOf_18 : decode ch_codeOf.2.1 18 = .ok (.goto 4, 3) := by decide +kernel
theorem d_ch_codeOf_21 : decode ch_codeOf.2.1 21 = .ok (.iconst (-1), 1) := by decide +kernel
theorem d_ch_codeOf_22 : decode ch_codeOf.2.1 22 = .ok (.ireturn, 1) := by decide +kernel
theorem d_ch_kindOf_0 : decode ch_kindOf.2.1 0 = .ok (.iload_n 1, 1) := by decide +kernel
theorem d_ch_kindOf_1 : decode ch_kindOf.2.1 1 = .ok (.ifCond .lt 22, 3) := by decide +kernel
theorem d_ch_kindOf_4 : decode ch_kindOf.2.1 4 = .ok (.iload_n 1, 1) := by decide +kernel
theorem d_ch_kindOf_5 : decode ch_kindOf.2.1 5 = .ok (.aload_n 0, 1) := by decide +kernel
theorem d_ch_kindOf_6 : decode ch_kindOf.2.1 6 = .ok (.getfield 25, 3) := by decide +kernel
theorem d_ch_kindOf_9 : decode ch_kindOf.2.1 9 = .ok (.if_icmp .ge 14, 3) := by decide +kernel
theorem d_ch_kindOf_12 : decode ch_kindOf.2.1 12 = .ok (.aload_n 0, 1) := by decide +kernel
theorem d_ch_kindOf_13 : decode ch_kindOf.2.1 13 = .ok (.getfield 13, 3) := by decide +kernel
theorem d_ch_kindOf_16 : decode ch_kindOf.2.1 16 = .ok (.iload_n 1, 1) := by decide +kernel
theorem d_ch_kindOf_17 : decode ch_kindOf.2.1 17 = .ok (.iaload, 1) := by decide +kernel
theorem d_ch_kindOf_18 : decode ch_kindOf.2.1 18 = .ok (.iconst 3, 1) := by decide +kernel
theorem d_ch_kindOf_19 : decode ch_kindOf.2.1 19 = .ok (.ishr, 1) := by decide +kernel
theorem d_ch_kindOf_20 : decode ch_kindOf.2.1 20 = .ok (.goto 4, 3) := by decide +kernel
theorem d_ch_kindOf_23 : decode ch_kindOf.2.1 23 = .ok (.iconst (-1), 1) := by decide +kernel
theorem d_ch_kindOf_24 : decode ch_kindOf.2.1 24 = .ok (.ireturn, 1) := by decide +kernel
theorem d_ch_colourOf_0 : decode ch_colourOf.2.1 0 = .ok (.iload_n 1, 1) := by decide +kernel
theorem d_ch_colourOf_1 : decode ch_colourOf.2.1 1 = .ok (.ifCond .ge 8, 3) := by decide +kernel
theorem d_ch_colourOf_4 : decode ch_colourOf.2.1 4 = .ok (.bipush 16, 2) := by decide +kernel
theorem d_ch_colourOf_6 : decode ch_colourOf.2.1 6 = .ok (.goto 18, 3) := by decide +kernel
theorem d_ch_colourOf_9 : decode ch_colourOf.2.1 9 = .ok (.aload_n 0, 1) := by decide +kernel
theorem d_ch_colourOf_10 : decode ch_colourOf.2.1 10 = .ok (.getfield 21, 3) := by decide +kernel
theorem d_ch_colourOf_13 : decode ch_colourOf.2.1 13 = .ok (.iload_n 1, 1) := by decide +kernel
theorem d_ch_colourOf_14 : decode ch_colourOf.2.1 14 = .ok (.iconst 3, 1) := by decide +kernel
theorem d_ch_colourOf_15 : decode ch_colourOf.2.1 15 = .ok (.ishr, 1) := by decide +kernel
theorem d_ch_colourOf_16 : decode ch_colourOf.2.1 16 = .ok (.iload_n 1, 1) := by decide +kernel
theorem d_ch_colourOf_17 : decode ch_colourOf.2.1 17 = .ok (.bipush 7, 2) := by decide +kernel
theorem d_ch_colourOf_19 : decode ch_colourOf.2.1 19 = .ok (.iand, 1) := by decide +kernel
theorem d_ch_colourOf_20 : decode ch_colourOf.2.1 20 = .ok (.iload_n 2, 1) := by decide +kernel
theorem d_ch_colourOf_21 : decode ch_colourOf.2.1 21 = .ok (.invokevirtual 59, 3) := by decide +kernel
theorem d_ch_colourOf_24 : decode ch_colourOf.2.1 24 = .ok (.ireturn, 1) := by decide +kernel
theorem d_ch_all_0 : decode ch_all.2.1 0 = .ok (.bipush 80, 2) := by decide +kernel
theorem d_ch_all_2 : decode ch_all.2.1 2 = .ok (.iload_n 1, 1) := by decide +kernel
theorem d_ch_all_3 : decode ch_all.2.1 3 = .ok (.iadd, 1) := by decide +kernel
theorem d_ch_all_4 : decode ch_all.2.1 4 = .ok (.istore_n 2, 1) := by decide +kernel
theorem d_ch_all_5 : decode ch_all.2.1 5 = .ok (.iload_n 2, 1) := by decide +kernel
theorem d_ch_all_6 : decode ch_all.2.1 6 = .ok (.ifCond .lt 21, 3) := by decide +kernel
theorem d_ch_all_9 : decode ch_all.2.1 9 = .ok (.iload_n 2, 1) := by decide +kernel
theorem d_ch_all_10 : decode ch_all.2.1 10 = .ok (.aload_n 0, 1) := by decide +kernel
theorem d_ch_all_11 : decode ch_all.2.1 11 = .ok (.getfield 17, 3) := by decide +kernel
theorem d_ch_all_14 : decode ch_all.2.1 14 = .ok (.arraylength, 1) := by decide +kernel
theorem d_ch_all_15 : decode ch_all.2.1 15 = .ok (.if_icmp .ge 12, 3) := by decide +kernel
theorem d_ch_all_18 : decode ch_all.2.1 18 = .ok (.aload_n 0, 1) := by decide +kernel
theorem d_ch_all_19 : decode ch_all.2.1 19 = .ok (.getfield 17, 3) := by decide +kernel
theorem d_ch_all_22 : decode ch_all.2.1 22 = .ok (.iload_n 2, 1) := by decide +kernel
theorem d_ch_all_23 : decode ch_all.2.1 23 = .ok (.laload, 1) := by decide +kernel
theorem d_ch_all_24 : decode ch_all.2.1 24 = .ok (.goto 4, 3) := by decide +kernel
theorem d_ch_all_27 : decode ch_all.2.1 27 = .ok (.lconst 0, 1) := by decide +kernel
theorem d_ch_all_28 : decode ch_all.2.1 28 = .ok (.lreturn, 1) := by decide +kernel
theorem d_ch_fitting_0 : decode ch_fitting.2.1 0 = .ok (.iload_n 2, 1) := by decide +kernel
theorem d_ch_fitting_1 : decode ch_fitting.2.1 1 = .ok (.ifCond .lt 11, 3) := by decide +kernel
theorem d_ch_fitting_4 : decode ch_fitting.2.1 4 = .ok (.iload_n 2, 1) := by decide +kernel
theorem d_ch_fitting_5 : decode ch_fitting.2.1 5 = .ok (.aload_n 1, 1) := by decide +kernel
theorem d_ch_fitting_6 : decode ch_fitting.2.1 6 = .ok (.arraylength, 1) := by decide +kernel
theorem d_ch_fitting_7 : decode ch_fitting.2.1 7 = .ok (.iconst 4, 1) := by decide +kernel
theorem d_ch_fitting_8 : decode ch_fitting.2.1 8 = .ok (.isub, 1) := by decide +kernel
theorem d_ch_fitting_9 : decode ch_fitting.2.1 9 = .ok (.if_icmp .le 5, 3) := by decide +kernel
theorem d_ch_fitting_12 : decode ch_fitting.2.1 12 = .ok (.lconst 0, 1) := by decide +kernel
theorem d_ch_fitting_13 : decode ch_fitting.2.1 13 = .ok (.lreturn, 1) := by decide +kernel
theorem d_ch_fitting_14 : decode ch_fitting.2.1 14 = .ok (.ldc2_w 63, 3) := by decide +kernel
theorem d_ch_fitting_17 : decode ch_fitting.2.1 17 = .ok (.lstore 4, 2) := by decide +kernel
theorem d_ch_fitting_19 : decode ch_fitting.2.1 19 = .ok (.iconst 0, 1) := by decide +kernel
theorem d_ch_fitting_20 : decode ch_fitting.2.1 20 = .ok (.istore 6, 2) := by decide +kernel
theorem d_ch_fitting_22 : decode ch_fitting.2.1 22 = .ok (.iload 6, 2) := by decide +kernel
theorem d_ch_fitting_24 : decode ch_fitting.2.1 24 = .ok (.iconst 4, 1) := by decide +kernel
theorem d_ch_fitting_25 : decode ch_fitting.2.1 25 = .ok (.if_icmp .ge 58, 3) := by decide +kernel
theorem d_ch_fitting_28 : decode ch_fitting.2.1 28 = .ok (.iload 6, 2) := by decide +kernel
theorem d_ch_fitting_30 : decode ch_fitting.2.1 30 = .ok (.bipush 17, 2) := by decide +kernel
theorem d_ch_fitting_32 : decode ch_fitting.2.1 32 = .ok (.imul, 1) := by decide +kernel
theorem d_ch_fitting_33 : decode ch_fitting.2.1 33 = .ok (.aload_n 1, 1) := by decide +kernel
theorem d_ch_fitting_34 : decode ch_fitting.2.1 34 = .ok (.iload_n 2, 1) := by decide +kernel
theorem d_ch_fitting_35 : decode ch_fitting.2.1 35 = .ok (.iload 6, 2) := by decide +kernel
theorem d_ch_fitting_37 : decode ch_fitting.2.1 37 = .ok (.iadd, 1) := by decide +kernel
theorem d_ch_fitting_38 : decode ch_fitting.2.1 38 = .ok (.iaload, 1) := by decide +kernel
theorem d_ch_fitting_39 : decode ch_fitting.2.1 39 = .ok (.iadd, 1) := by decide +kernel
theorem d_ch_fitting_40 : decode ch_fitting.2.1 40 = .ok (.iconst 5, 1) := by decide +kernel
theorem d_ch_fitting_41 : decode ch_fitting.2.1 41 = .ok (.imul, 1) := by decide +kernel
theorem d_ch_fitting_42 : decode ch_fitting.2.1 42 = .ok (.iload_n 3, 1) := by decide +kernel
theorem d_ch_fitting_43 : decode ch_fitting.2.1 43 = .ok (.iadd, 1) := by decide +kernel
theorem d_ch_fitting_44 : decode ch_fitting.2.1 44 = .ok (.istore 7, 2) := by decide +kernel
theorem d_ch_fitting_46 : decode ch_fitting.2.1 46 = .ok (.lload 4, 2) := by decide +kernel
theorem d_ch_fitting_48 : decode ch_fitting.2.1 48 = .ok (.iload 7, 2) := by decide +kernel
theorem d_ch_fitting_50 : decode ch_fitting.2.1 50 = .ok (.ifCond .lt 23, 3) := by decide +kernel
theorem d_ch_fitting_53 : decode ch_fitting.2.1 53 = .ok (.iload 7, 2) := by decide +kernel
theorem d_ch_fitting_55 : decode ch_fitting.2.1 55 = .ok (.aload_n 0, 1) := by decide +kernel
theorem d_ch_fitting_56 : decode ch_fitting.2.1 56 = .ok (.getfield 17, 3) := by decide +kernel
theorem d_ch_fitting_59 : decode ch_fitting.2.1 59 = .ok (.arraylength, 1) := by decide +kernel
theorem d_ch_fitting_60 : decode ch_fitting.2.1 60 = .ok (.if_icmp .ge 13, 3) := by decide +kernel
theorem d_ch_fitting_63 : decode ch_fitting.2.1 63 = .ok (.aload_n 0, 1) := by decide +kernel
theorem d_ch_fitting_64 : decode ch_fitting.2.1 64 = .ok (.getfield 17, 3) := by decide +kernel
theorem d_ch_fitting_67 : decode ch_fitting.2.1 67 = .ok (.iload 7, 2) := by decide +kernel
theorem d_ch_fitting_69 : decode ch_fitting.2.1 69 = .ok (.laload, 1) := by decide +kernel
theorem d_ch_fitting_70 : decode ch_fitting.2.1 70 = .ok (.goto 4, 3) := by decide +kernel
theorem d_ch_fitting_73 : decode ch_fitting.2.1 73 = .ok (.lconst 0, 1) := by decide +kernel
theorem d_ch_fitting_74 : decode ch_fitting.2.1 74 = .ok (.land, 1) := by decide +kernel
theorem d_ch_fitting_75 : decode ch_fitting.2.1 75 = .ok (.lstore 4, 2) := by decide +kernel
theorem d_ch_fitting_77 : decode ch_fitting.2.1 77 = .ok (.iinc 6 1, 3) := by decide +kernel
theorem d_ch_fitting_80 : decode ch_fitting.2.1 80 = .ok (.goto (-58), 3) := by decide +kernel
theorem d_ch_fitting_83 : decode ch_fitting.2.1 83 = .ok (.lload 4, 2) := by decide +kernel
theorem d_ch_fitting_85 : decode ch_fitting.2.1 85 = .ok (.lreturn, 1) := by decide +kernel
theorem d_fl_init_0 : decode fl_init.2.1 0 = .ok (.aload_n 0, 1) := by decide +kernel
theorem d_fl_init_1 : decode fl_init.2.1 1 = .ok (.invokespecial 5, 3) := by decide +kernel
theorem d_fl_init_4 : decode fl_init.2.1 4 = .ok (.aload_n 0, 1) := by decide +kernel
theorem d_fl_init_5 : decode fl_init.2.1 5 = .ok (.bipush 64, 2) := by decide +kernel
theorem d_fl_init_7 : decode fl_init.2.1 7 = .ok (.newarray .int, 2) := by decide +kernel
theorem d_fl_init_9 : decode fl_init.2.1 9 = .ok (.putfield 11, 3) := by decide +kernel
theorem d_fl_init_12 : decode fl_init.2.1 12 = .ok (.aload_n 0, 1) := by decide +kernel
theorem d_fl_init_13 : decode fl_init.2.1 13 = .ok (.bipush 64, 2) := by decide +kernel
theorem d_fl_init_15 : decode fl_init.2.1 15 = .ok (.newarray .int, 2) := by decide +kernel
theorem d_fl_init_17 : decode fl_init.2.1 17 = .ok (.putfield 15, 3) := by decide +kernel
theorem d_fl_init_20 : decode fl_init.2.1 20 = .ok (.aload_n 0, 1) := by decide +kernel
theorem d_fl_init_21 : decode fl_init.2.1 21 = .ok (.bipush 40, 2) := by decide +kernel
theorem d_fl_init_23 : decode fl_init.2.1 23 = .ok (.newarray .int, 2) := by decide +kernel
theorem d_fl_init_25 : decode fl_init.2.1 25 = .ok (.putfield 20, 3) := by decide +kernel
theorem d_fl_init_28 : decode fl_init.2.1 28 = .ok (.aload_n 0, 1) := by decide +kernel
theorem d_fl_init_29 : decode fl_init.2.1 29 = .ok (.iload_n 1, 1) := by decide +kernel
theorem d_fl_init_30 : decode fl_init.2.1 30 = .ok (.putfield 23, 3) := by decide +kernel
theorem d_fl_init_33 : decode fl_init.2.1 33 = .ok (.aload_n 0, 1) := by decide +kernel
theorem d_fl_init_34 : decode fl_init.2.1 34 = .ok (.iload_n 2, 1) := by decide +kernel
theorem d_fl_init_35 : decode fl_init.2.1 35 = .ok (.putfield 27, 3) := by decide +kernel
theorem d_fl_init_38 : decode fl_init.2.1 38 = .ok (.aload_n 0, 1) := by decide +kernel
theorem d_fl_init_39 : decode fl_init.2.1 39 = .ok (.getfield 11, 3) := by decide +kernel
theorem d_fl_init_42 : decode fl_init.2.1 42 = .ok (.iconst (-1), 1) := by decide +kernel
theorem d_fl_init_43 : decode fl_init.2.1 43 = .ok (.invokestatic 30, 3) := by decide +kernel
theorem d_fl_init_46 : decode fl_init.2.1 46 = .ok (.aload_n 0, 1) := by decide +kernel
theorem d_fl_init_47 : decode fl_init.2.1 47 = .ok (.getfield 15, 3) := by decide +kernel
theorem d_fl_init_50 : decode fl_init.2.1 50 = .ok (.iconst (-1), 1) := by decide +kernel
theorem d_fl_init_51 : decode fl_init.2.1 51 = .ok (.invokestatic 30, 3) := by decide +kernel
theorem d_fl_init_54 : decode fl_init.2.1 54 = .ok (.return_, 1) := by decide +kernel
theorem d_fl_mayBe_0 : decode fl_mayBe.2.1 0 = .ok (.iload_n 0, 1) := by decide +kernel
theorem d_fl_mayBe_1 : decode fl_mayBe.2.1 1 = .ok (.iconst 1, 1) := by decide +kernel
theorem d_fl_mayBe_2 : decode fl_mayBe.2.1 2 = .ok (.if_icmp .lt 24, 3) := by decide +kernel
theorem d_fl_mayBe_5 : decode fl_mayBe.2.1 5 = .ok (.iload_n 0, 1) := by decide +kernel
theorem d_fl_mayBe_6 : decode fl_mayBe.2.1 6 = .ok (.bipush 8, 2) := by decide +kernel
theorem d_fl_mayBe_8 : decode fl_mayBe.2.1 8 = .ok (.if_icmp .gt 18, 3) := by decide +kernel
theorem d_fl_mayBe_11 : decode fl_mayBe.2.1 11 = .ok (.iload_n 1, 1) := by decide +kernel
theorem d_fl_mayBe_12 : decode fl_mayBe.2.1 12 = .ok (.iconst 1, 1) := by decide +kernel
theorem d_fl_mayBe_13 : decode fl_mayBe.2.1 13 = .ok (.if_icmp .lt 13, 3) := by decide +kernel
theorem d_fl_mayBe_16 : decode fl_mayBe.2.1 16 = .ok (.iload_n 1, 1) := by decide +kernel
theorem d_fl_mayBe_17 : decode fl_mayBe.2.1 17 = .ok (.bipush 8, 2) := by decide +kernel
theorem d_fl_mayBe_19 : decode fl_mayBe.2.1 19 = .ok (.if_icmp .gt 7, 3) := by decide +kernel
theorem d_fl_mayBe_22 : decode fl_mayBe.2.1 22 = .ok (.iconst 1, 1) := by decide +kernel
theorem d_fl_mayBe_23 : decode fl_mayBe.2.1 23 = .ok (.goto 4, 3) := by decide +kernel
theorem d_fl_mayBe_26 : decode fl_mayBe.2.1 26 = .ok (.iconst 0, 1) := by decide +kernel
theorem d_fl_mayBe_27 : decode fl_mayBe.2.1 27 = .ok (.ireturn, 1) := by decide +kernel
theorem d_fl_hasPlace_0 : decode fl_hasPlace.2.1 0 = .ok (.iload_n 1, 1) := by decide +kernel
theorem d_fl_hasPlace_1 : decode fl_hasPlace.2.1 1 = .ok (.ifCond .lt 27, 3) := by decide +kernel
theorem d_fl_hasPlace_4 : decode fl_hasPlace.2.1 4 = .ok (.iload_n 1, 1) := by decide +kernel
theorem d_fl_hasPlace_5 : decode fl_hasPlace.2.1 5 = .ok (.aload_n 0, 1) := by decide +kernel
theorem d_fl_hasPlace_6 : decode fl_hasPlace.2.1 6 = .ok (.getfield 23, 3) := by decide +kernel
theorem d_fl_hasPlace_9 : decode fl_hasPlace.2.1 9 = .ok (.if_icmp .ge 19, 3) := by decide +kernel
theorem d_fl_hasPlace_12 : decode fl_hasPlace.2.1 12 = .ok (.iload_n 2, 1) := by decide +kernel
theorem d_fl_hasPlace_13 : decode fl_hasPlace.2.1 13 = .ok (.ifCond .lt 15, 3) := by decide +kernel
theorem d_fl_hasPlace_16 : decode fl_hasPlace.2.1 16 = .ok (.iload_n 2, 1) := by decide +kernel
theorem d_fl_hasPlace_17 : decode fl_hasPlace.2.1 17 = .ok (.aload_n 0, 1) := by decide +kernel
theorem d_fl_hasPlace_18 : decode fl_hasPlace.2.1 18 = .ok (.getfield 27, 3) := by decide +kernel
theorem d_fl_hasPlace_21 : decode fl_hasPlace.2.1 21 = .ok (.if_icmp .ge 7, 3) := by decide +kernel
theorem d_fl_hasPlace_24 : decode fl_hasPlace.2.1 24 = .ok (.iconst 1, 1) := by decide +kernel
theorem d_fl_hasPlace_25 : decode fl_hasPlace.2.1 25 = .ok (.goto 4, 3) := by decide +kernel
theorem d_fl_hasPlace_28 : decode fl_hasPlace.2.1 28 = .ok (.iconst 0, 1) := by decide +kernel
theorem d_fl_hasPlace_29 : decode fl_hasPlace.2.1 29 = .ok (.ireturn, 1) := by decide +kernel
theorem d_fl_setPlace_0 : decode fl_setPlace.2.1 0 = .ok (.aload_n 0, 1) := by decide +kernel
theorem d_fl_setPlace_1 : decode fl_setPlace.2.1 1 = .ok (.iload_n 1, 1) := by decide +kernel
theorem d_fl_setPlace_2 : decode fl_setPlace.2.1 2 = .ok (.iload_n 2, 1) := by decide +kernel
theorem d_fl_setPlace_3 : decode fl_setPlace.2.1 3 = .ok (.invokevirtual 36, 3) := by decide +kernel
theorem d_fl_setPlace_6 : decode fl_setPlace.2.1 6 = .ok (.ifCond .eq 27, 3) := by decide +kernel
theorem d_fl_setPlace_9 : decode fl_setPlace.2.1 9 = .ok (.aload_n 0, 1) := by decide +kernel
theorem d_fl_setPlace_10 : decode fl_setPlace.2.1 10 = .ok (.getfield 11, 3) := by decide +kernel
theorem d_fl_setPlace_13 : decode fl_setPlace.2.1 13 = .ok (.iload_n 1, 1) := by decide +kernel
theorem d_fl_setPlace_14 : decode fl_setPlace.2.1 14 = .ok (.bipush 8, 2) := by decide +kernel
theorem d_fl_setPlace_16 : decode fl_setPlace.2.1 16 = .ok (.imul, 1) := by decide +kernel
theorem d_fl_setPlace_17 : decode fl_setPlace.2.1 17 = .ok (.iload_n 2, 1) := by decide +kernel
theorem d_fl_setPlace_18 : decode fl_setPlace.2.1 18 = .ok (.iadd, 1) := by decide +kernel
theorem d_fl_setPlace_19 : decode fl_setPlace.2.1 19 = .ok (.iload_n 3, 1) := by decide +kernel
theorem d_fl_setPlace_20 : decode fl_setPlace.2.1 20 = .ok (.iastore, 1) := by decide +kernel
theorem d_fl_setPlace_21 : decode fl_setPlace.2.1 21 = .ok (.aload_n 0, 1) := by decide +kernel
theorem d_fl_setPlace_22 : decode fl_setPlace.2.1 22 = .ok (.getfield 15, 3) := by decide +kernel
theorem d_fl_setPlace_25 : decode fl_setPlace.2.1 25 = .ok (.iload_n 1, 1) := by decide +kernel
theorem d_fl_setPlace_26 : decode fl_setPlace.2.1 26 = .ok (.bipush 8, 2) := by decide +kernel
theorem d_fl_setPlace_28 : decode fl_setPlace.2.1 28 = .ok (.imul, 1) := by decide +kernel
theorem d_fl_setPlace_29 : decode fl_setPlace.2.1 29 = .ok (.iload_n 2, 1) := by decide +kernel
theorem d_fl_setPlace_30 : decode fl_setPlace.2.1 30 = .ok (.iadd, 1) := by decide +kernel
theorem d_fl_setPlace_31 : decode fl_setPlace.2.1 31 = .ok (.iconst (-1), 1) := by decide +kernel
theorem d_fl_setPlace_32 : decode fl_setPlace.2.1 32 = .ok (.iastore, 1) := by decide +kernel
theorem d_fl_setPlace_33 : decode fl_setPlace.2.1 33 = .ok (.return_, 1) := by decide +kernel
theorem d_fl_placeAt_0 : decode fl_placeAt.2.1 0 = .ok (.iload_n 1, 1) := by decide +kernel
theorem d_fl_placeAt_1 : decode fl_placeAt.2.1 1 = .ok (.ifCond .lt 18, 3) := by decide +kernel
theorem d_fl_placeAt_4 : decode fl_placeAt.2.1 4 = .ok (.iload_n 1, 1) := by decide +kernel
theorem d_fl_placeAt_5 : decode fl_placeAt.2.1 5 = .ok (.bipush 64, 2) := by decide +kernel
theorem d_fl_placeAt_7 : decode fl_placeAt.2.1 7 = .ok (.if_icmp .ge 12, 3) := by decide +kernel
theorem d_fl_placeAt_10 : decode fl_placeAt.2.1 10 = .ok (.aload_n 0, 1) := by decide +kernel
theorem d_fl_placeAt_11 : decode fl_placeAt.2.1 11 = .ok (.getfield 11, 3) := by decide +kernel
theorem d_fl_placeAt_14 : decode fl_placeAt.2.1 14 = .ok (.iload_n 1, 1) := by decide +kernel
theorem d_fl_placeAt_15 : decode fl_placeAt.2.1 15 = .ok (.iaload, 1) := by decide +kernel
theorem d_fl_placeAt_16 : decode fl_placeAt.2.1 16 = .ok (.goto 5, 3) := by decide +kernel
theorem d_fl_placeAt_19 : decode fl_placeAt.2.1 19 = .ok (.bipush (-2), 2) := by decide +kernel
theorem d_fl_placeAt_21 : decode fl_placeAt.2.1 21 = .ok (.ireturn, 1) := by decide +kernel
theorem d_fl_shownAt_0 : decode fl_shownAt.2.1 0 = .ok (.aload_n 0, 1) := by decide +kernel
theorem d_fl_shownAt_1 : decode fl_shownAt.2.1 1 = .ok (.iload_n 1, 1) := by decide +kernel
theorem d_fl_shownAt_2 : decode fl_shownAt.2.1 2 = .ok (.iload_n 2, 1) := by decide +kernel
theorem d_fl_shownAt_3 : decode fl_shownAt.2.1 3 = .ok (.invokevirtual 36, 3) := by decide +kernel
theorem d_fl_shownAt_6 : decode fl_shownAt.2.1 6 = .ok (.ifCond .ne 6, 3) := by decide +kernel
theorem d_fl_shownAt_9 : decode fl_shownAt.2.1 9 = .ok (.bipush (-2), 2) := by decide +kernel
theorem d_fl_shownAt_11 : decode fl_shownAt.2.1 11 = .ok (.ireturn, 1) := by decide +kernel
theorem d_fl_shownAt_12 : decode fl_shownAt.2.1 12 = .ok (.iload_n 1, 1) := by decide +kernel
theorem d_fl_shownAt_13 : decode fl_shownAt.2.1 13 = .ok (.bipush 8, 2) := by decide +kernel
theorem d_fl_shownAt_15 : decode fl_shownAt.2.1 15 = .ok (.imul, 1) := by decide +kernel
theorem d_fl_shownAt_16 : decode fl_shownAt.2.1 16 = .ok (.iload_n 2, 1) := by decide +kernel
theorem d_fl_shownAt_17 : decode fl_shownAt.2.1 17 = .ok (.iadd, 1) := by decide +kernel
theorem d_fl_shownAt_18 : decode fl_shownAt.2.1 18 = .ok (.istore_n 3, 1) := by decide +kernel
theorem d_fl_shownAt_19 : decode fl_shownAt.2.1 19 = .ok (.aload_n 0, 1) := by decide +kernel
theorem d_fl_shownAt_20 : decode fl_shownAt.2.1 20 = .ok (.getfield 11, 3) := by decide +kernel
theorem d_fl_shownAt_23 : decode fl_shownAt.2.1 23 = .ok (.iload_n 3, 1) := by decide +kernel
theorem d_fl_shownAt_24 : decode fl_shownAt.2.1 24 = .ok (.iaload, 1) := by decide +kernel
theorem d_fl_shownAt_25 : decode fl_shownAt.2.1 25 = .ok (.iconst (-1), 1) := by decide +kernel
theorem d_fl_shownAt_26 : decode fl_shownAt.2.1 26 = .ok (.if_icmp .ne 12, 3) := by decide +kernel
theorem d_fl_shownAt_29 : decode fl_shownAt.2.1 29 = .ok (.aload_n 0, 1) := by decide +kernel
theorem d_fl_shownAt_30 : decode fl_shownAt.2.1 30 = .ok (.getfield 15, 3) := by decide +kernel
theorem d_fl_shownAt_33 : decode fl_shownAt.2.1 33 = .ok (.iload_n 3, 1) := by decide +kernel
theorem d_fl_shownAt_34 : decode fl_shownAt.2.1 34 = .ok (.iaload, 1) := by decide +kernel
theorem d_fl_shownAt_35 : decode fl_shownAt.2.1 35 = .ok (.goto 9, 3) := by decide +kernel
theorem d_fl_shownAt_38 : decode fl_shownAt.2.1 38 = .ok (.aload_n 0, 1) := by decide +kernel
theorem d_fl_shownAt_39 : decode fl_shownAt.2.1 39 = .ok (.getfield 11, 3) := by decide +kernel
theorem d_fl_shownAt_42 : decode fl_shownAt.2.1 42 = .ok (.iload_n 3, 1) := by decide +kernel
theorem d_fl_shownAt_43 : decode fl_shownAt.2.1 43 = .ok (.iaload, 1) := by decide +kernel
theorem d_fl_shownAt_44 : decode fl_shownAt.2.1 44 = .ok (.ireturn, 1) := by decide +kernel
theorem d_fl_setStock_0 : decode fl_setStock.2.1 0 = .ok (.iload_n 1, 1) := by decide +kernel
theorem d_fl_setStock_1 : decode fl_setStock.2.1 1 = .ok (.ifCond .lt 16, 3) := by decide +kernel
theorem d_fl_setStock_4 : decode fl_setStock.2.1 4 = .ok (.iload_n 1, 1) := by decide +kernel
theorem d_fl_setStock_5 : decode fl_setStock.2.1 5 = .ok (.bipush 40, 2) := by decide +kernel
theorem d_fl_setStock_7 : decode fl_setStock.2.1 7 = .ok (.if_icmp .ge 10, 3) := by decide +kernel
theorem d_fl_setStock_10 : decode fl_setStock.2.1 10 = .ok (.aload_n 0, 1) := by decide +kernel
theorem d_fl_setStock_11 : decode fl_setStock.2.1 11 = .ok (.getfield 20, 3) := by decide +kernel
theorem d_fl_setStock_14 : decode fl_setStock.2.1 14 = .ok (.iload_n 1, 1) := by decide +kernel
theorem d_fl_setStock_15 : decode fl_setStock.2.1 15 = .ok (.iload_n 2, 1) := by decide +kernel
theorem d_fl_setStock_16 : decode fl_setStock.2.1 16 = .ok (.iastore, 1) := by decide +kernel
theorem d_fl_setStock_17 : decode fl_setStock.2.1 17 = .ok (.return_, 1) := by decide +kernel
theorem d_fl_stockOf_0 : decode fl_stockOf.2.1 0 = .ok (.iload_n 1, 1) := by decide +kernel
theorem d_fl_stockOf_1 : decode fl_stockOf.2.1 1 = .ok (.ifCond .lt 18, 3) := by decide +kernel
theorem d_fl_stockOf_4 : decode fl_stockOf.2.1 4 = .ok (.iload_n 1, 1) := by decide +kernel
theorem d_fl_stockOf_5 : decode fl_stockOf.2.1 5 = .ok (.bipush 40, 2) := by decide +kernel
theorem d_fl_stockOf_7 : decode fl_stockOf.2.1 7 = .ok (.if_icmp .ge 12, 3) := by decide +kernel
theorem d_fl_stockOf_10 : decode fl_stockOf.2.1 10 = .ok (.aload_n 0, 1) := by decide +kernel
theorem d_fl_stockOf_11 : decode fl_stockOf.2.1 11 = .ok (.getfield 20, 3) := by decide +kernel
theorem d_fl_stockOf_14 : decode fl_stockOf.2.1 14 = .ok (.iload_n 1, 1) := by decide +kernel
theorem d_fl_stockOf_15 : decode fl_stockOf.2.1 15 = .ok (.iaload, 1) := by decide +kernel
theorem d_fl_stockOf_16 : decode fl_stockOf.2.1 16 = .ok (.goto 4, 3) := by decide +kernel
theorem d_fl_stockOf_19 : decode fl_stockOf.2.1 19 = .ok (.iconst 0, 1) := by decide +kernel
theorem d_fl_stockOf_20 : decode fl_stockOf.2.1 20 = .ok (.ireturn, 1) := by decide +kernel
theorem d_fl_showNothing_0 : decode fl_showNothing.2.1 0 = .ok (.aload_n 0, 1) := by decide +kernel
theorem d_fl_showNothing_1 : decode fl_showNothing.2.1 1 = .ok (.getfield 15, 3) := by decide +kernel
theorem d_fl_showNothing_4 : decode fl_showNothing.2.1 4 = .ok (.iconst (-1), 1) := by decide +kernel
theorem d_fl_showNothing_5 : decode fl_showNothing.2.1 5 = .ok (.invokestatic 30, 3) := by decide +kernel
theorem d_fl_showNothing_8 : decode fl_showNothing.2.1 8 = .ok (.return_, 1) := by decide +kernel
theorem d_fl_showAt_0 : decode fl_showAt.2.1 0 = .ok (.iload_n 1, 1) := by decide +kernel
theorem d_fl_showAt_1 : decode fl_showAt.2.1 1 = .ok (.ifCond .lt 16, 3) := by decide +kernel
theorem d_fl_showAt_4 : decode fl_showAt.2.1 4 = .ok (.iload_n 1, 1) := by decide +kernel
theorem d_fl_showAt_5 : decode fl_showAt.2.1 5 = .ok (.bipush 64, 2) := by decide +kernel
theorem d_fl_showAt_7 : decode fl_showAt.2.1 7 = .ok (.if_icmp .ge 10, 3) := by decide +kernel
theorem d_fl_showAt_10 : decode fl_showAt.2.1 10 = .ok (.aload_n 0, 1) := by decide +kernel
theorem d_fl_showAt_11 : decode fl_showAt.2.1 11 = .ok (.getfield 15, 3) := by decide +kernel
theorem d_fl_showAt_14 : decode fl_showAt.2.1 14 = .ok (.iload_n 1, 1) := by decide +kernel
theorem d_fl_showAt_15 : decode fl_showAt.2.1 15 = .ok (.iload_n 2, 1) := by decide +kernel
theorem d_fl_showAt_16 : decode fl_showAt.2.1 16 = .ok (.iastore, 1) := by decide +kernel
theorem d_fl_showAt_17 : decode fl_showAt.2.1 17 = .ok (.return_, 1) := by decide +kernel
theorem d_hi_init_0 : decode hi_init.2.1 0 = .ok (.aload_n 0, 1) := by decide +kernel
theorem d_hi_init_1 : decode hi_init.2.1 1 = .ok (.invokespecial 3, 3) := by decide +kernel
theorem d_hi_init_4 : decode hi_init.2.1 4 = .ok (.aload_n 0, 1) := by decide +kernel
theorem d_hi_init_5 : decode hi_init.2.1 5 = .ok (.bipush 40, 2) := by decide +kernel
theorem d_hi_init_7 : decode hi_init.2.1 7 = .ok (.newarray .int, 2) := by decide +kernel
theorem d_hi_init_9 : decode hi_init.2.1 9 = .ok (.putfield 11, 3) := by decide +kernel
theorem d_hi_init_12 : decode hi_init.2.1 12 = .ok (.aload_n 0, 1) := by decide +kernel
theorem d_hi_init_13 : decode hi_init.2.1 13 = .ok (.bipush 40, 2) := by decide +kernel
theorem d_hi_init_15 : decode hi_init.2.1 15 = .ok (.newarray .int, 2) := by decide +kernel
theorem d_hi_init_17 : decode hi_init.2.1 17 = .ok (.putfield 15, 3) := by decide +kernel
theorem d_hi_init_20 : decode hi_init.2.1 20 = .ok (.aload_n 0, 1) := by decide +kernel
theorem d_hi_init_21 : decode hi_init.2.1 21 = .ok (.sipush 2400, 3) := by decide +kernel
theorem d_hi_init_24 : decode hi_init.2.1 24 = .ok (.newarray .int, 2) := by decide +kernel
theorem d_hi_init_26 : decode hi_init.2.1 26 = .ok (.putfield 20, 3) := by decide +kernel
theorem d_hi_init_29 : decode hi_init.2.1 29 = .ok (.return_, 1) := by decide +kernel
theorem d_hi_remember_0 : decode hi_remember.2.1 0 = .ok (.aload_n 0, 1) := by decide +kernel
theorem d_hi_remember_1 : decode hi_remember.2.1 1 = .ok (.getfield 11, 3) := by decide +kernel
theorem d_hi_remember_4 : decode hi_remember.2.1 4 = .ok (.aload_n 0, 1) := by decide +kernel
theorem d_hi_remember_5 : decode hi_remember.2.1 5 = .ok (.getfield 23, 3) := by decide +kernel
theorem d_hi_remember_8 : decode hi_remember.2.1 8 = .ok (.iload_n 1, 1) := by decide +kernel
theorem d_hi_remember_9 : decode hi_remember.2.1 9 = .ok (.iastore, 1) := by decide +kernel
theorem d_hi_remember_10 : decode hi_remember.2.1 10 = .ok (.aload_n 0, 1) := by decide +kernel
theorem d_hi_remember_11 : decode hi_remember.2.1 11 = .ok (.getfield 15, 3) := by decide +kernel
theorem d_hi_remember_14 : decode hi_remember.2.1 14 = .ok (.aload_n 0, 1) := by decide +kernel
theorem d_hi_remember_15 : decode hi_remember.2.1 15 = .ok (.getfield 23, 3) := by decide +kernel
theorem d_hi_remember_18 : decode hi_remember.2.1 18 = .ok (.aload_n 2, 1) := by decide +kernel
theorem d_hi_remember_19 : decode hi_remember.2.1 19 = .ok (.getfield 27, 3) := by decide +kernel
theorem d_hi_remember_22 : decode hi_remember.2.1 22 = .ok (.iastore, 1) := by decide +kernel
theorem d_hi_remember_23 : decode hi_remember.2.1 23 = .ok (.aload_n 2, 1) := by decide +kernel
theorem d_hi_remember_24 : decode hi_remember.2.1 24 = .ok (.getfield 30, 3) := by decide +kernel
theorem d_hi_remember_27 : decode hi_remember.2.1 27 = .ok (.iconst 0, 1) := by decide +kernel
theorem d_hi_remember_28 : decode hi_remember.2.1 28 = .ok (.aload_n 0, 1) := by decide +kernel
theorem d_hi_remember_29 : decode hi_remember.2.1 29 = .ok (.getfield 20, 3) := by decide +kernel
theorem d_hi_remember_32 : decode hi_remember.2.1 32 = .ok (.aload_n 0, 1) := by decide +kernel
theorem d_hi_remember_33 : decode hi_remember.2.1 33 = .ok (.getfield 23, 3) := by decide +kernel
theorem d_hi_remember_36 : decode hi_remember.2.1 36 = .ok (.bipush 60, 2) := by decide +kernel
theorem d_hi_remember_38 : decode hi_remember.2.1 38 = .ok (.imul, 1) := by decide +kernel
theorem d_hi_remember_39 : decode hi_remember.2.1 39 = .ok (.bipush 60, 2) := by decide +kernel
theorem d_hi_remember_41 : decode hi_remember.2.1 41 = .ok (.invokestatic 31, 3) := by decide +kernel
theorem d_hi_remember_44 : decode hi_remember.2.1 44 = .ok (.aload_n 0, 1) := by decide +kernel
theorem d_hi_remember_45 : decode hi_remember.2.1 45 = .ok (.aload_n 0, 1) := by decide +kernel
theorem d_hi_remember_46 : decode hi_remember.2.1 46 = .ok (.getfield 23, 3) := by decide +kernel
theorem d_hi_remember_49 : decode hi_remember.2.1 49 = .ok (.iconst 1, 1) := by decide +kernel
theorem d_hi_remember_50 : decode hi_remember.2.1 50 = .ok (.iadd, 1) := by decide +kernel
theorem d_hi_remember_51 : decode hi_remember.2.1 51 = .ok (.bipush 40, 2) := by decide +kernel
theorem d_hi_remember_53 : decode hi_remember.2.1 53 = .ok (.if_icmp .ge 12, 3) := by decide +kernel
theorem d_hi_remember_56 : decode hi_remember.2.1 56 = .ok (.aload_n 0, 1) := by decide +kernel
theorem d_hi_remember_57 : decode hi_remember.2.1 57 = .ok (.getfield 23, 3) := by decide +kernel
theorem d_hi_remember_60 : decode hi_remember.2.1 60 = .ok (.iconst 1, 1) := by decide +kernel
theorem d_hi_remember_61 : decode hi_remember.2.1 61 = .ok (.iadd, 1) := by decide +kernel
theorem d_hi_remember_62 : decode hi_remember.2.1 62 = .ok (.goto 4, 3) := by decide +kernel
theorem d_hi_remember_65 : decode hi_remember.2.1 65 = .ok (.iconst 0, 1) := by decide +kernel
theorem d_hi_remember_66 : decode hi_remember.2.1 66 = .ok (.putfield 23, 3) := by decide +kernel
theorem d_hi_remember_69 : decode hi_remember.2.1 69 = .ok (.aload_n 0, 1) := by decide +kernel
theorem d_hi_remember_70 : decode hi_remember.2.1 70 = .ok (.bipush 40, 2) := by decide +kernel
theorem d_hi_remember_72 : decode hi_remember.2.1 72 = .ok (.aload_n 0, 1) := by decide +kernel
theorem d_hi_remember_73 : decode hi_remember.2.1 73 = .ok (.getfield 37, 3) := by decide +kernel
theorem d_hi_remember_76 : decode hi_remember.2.1 76 = .ok (.iconst 1, 1) := by decide +kernel
theorem d_hi_remember_77 : decode hi_remember.2.1 77 = .ok (.iadd, 1) := by decide +kernel
theorem d_hi_remember_78 : decode hi_remember.2.1 78 = .ok (.invokestatic 40, 3) := by decide +kernel
theorem d_hi_remember_81 : decode hi_remember.2.1 81 = .ok (.putfield 37, 3) := by decide +kernel
theorem d_hi_remember_84 : decode hi_remember.2.1 84 = .ok (.return_, 1) := by decide +kernel
theorem d_hi_latest_0 : decode hi_latest.2.1 0 = .ok (.aload_n 0, 1) := by decide +kernel
theorem d_hi_latest_1 : decode hi_latest.2.1 1 = .ok (.getfield 23, 3) := by decide +kernel
theorem d_hi_latest_4 : decode hi_latest.2.1 4 = .ok (.ifCond .le 12, 3) := by decide +kernel
theorem d_hi_latest_7 : decode hi_latest.2.1 7 = .ok (.aload_n 0, 1) := by decide +kernel
theorem d_hi_latest_8 : decode hi_latest.2.1 8 = .ok (.getfield 23, 3) := by decide +kernel
theorem d_hi_latest_11 : decode hi_latest.2.1 11 = .ok (.iconst 1, 1) := by decide +kernel
theorem d_hi_latest_12 : decode hi_latest.2.1 12 = .ok (.isub, 1) := by decide +kernel
theorem d_hi_latest_13 : decode hi_latest.2.1 13 = .ok (.goto 5, 3) := by decide +kernel
theorem d_hi_latest_16 : decode hi_latest.2.1 16 = .ok (.bipush 39, 2) := by decide +kernel
theorem d_hi_latest_18 : decode hi_latest.2.1 18 = .ok (.ireturn, 1) := by decide +kernel
theorem d_hi_latestPattern_0 : decode hi_latestPattern.2.1 0 = .ok (.aload_n 0, 1) := by decide +kernel
theorem d_hi_latestPattern_1 : decode hi_latestPattern.2.1 1 = .ok (.getfield 37, 3) := by decide +kernel
theorem d_hi_latestPattern_4 : decode hi_latestPattern.2.1 4 = .ok (.ifCond .le 15, 3) := by decide +kernel
theorem d_hi_latestPattern_7 : decode hi_latestPattern.2.1 7 = .ok (.aload_n 0, 1) := by decide +kernel
theorem d_hi_latestPattern_8 : decode hi_latestPattern.2.1 8 = .ok (.getfield 11, 3) := by decide +kernel
theorem d_hi_latestPattern_11 : decode hi_latestPattern.2.1 11 = .ok (.aload_n 0, 1) := by decide +kernel
theorem d_hi_latestPattern_12 : decode hi_latestPattern.2.1 12 = .ok (.invokevirtual 46, 3) := by decide +kernel
theorem d_hi_latestPattern_15 : decode hi_latestPattern.2.1 15 = .ok (.iaload, 1) := by decide +kernel
theorem d_hi_latestPattern_16 : decode hi_latestPattern.2.1 16 = .ok (.goto 4, 3) := by decide +kernel
theorem d_hi_latestPattern_19 : decode hi_latestPattern.2.1 19 = .ok (.iconst (-1), 1) := by decide +kernel
theorem d_hi_latestPattern_20 : decode hi_latestPattern.2.1 20 = .ok (.ireturn, 1) := by decide +kernel
theorem d_hi_giveBack_0 : decode hi_giveBack.2.1 0 = .ok (.aload_n 0, 1) := by decide +kernel
theorem d_hi_giveBack_1 : decode hi_giveBack.2.1 1 = .ok (.getfield 37, 3) := by decide +kernel
theorem d_hi_giveBack_4 : decode hi_giveBack.2.1 4 = .ok (.ifCond .le 45, 3) := by decide +kernel
theorem d_hi_giveBack_7 : decode hi_giveBack.2.1 7 = .ok (.aload_n 0, 1) := by decide +kernel
theorem d_hi_giveBack_8 : decode hi_giveBack.2.1 8 = .ok (.aload_n 0, 1) := by decide +kernel
theorem d_hi_giveBack_9 : decode hi_giveBack.2.1 9 = .ok (.invokevirtual 46, 3) := by decide +kernel
theorem d_hi_giveBack_12 : decode hi_giveBack.2.1 12 = .ok (.putfield 23, 3) := by decide +kernel
theorem d_hi_giveBack_15 : decode hi_giveBack.2.1 15 = .ok (.aload_n 0, 1) := by decide +kernel
theorem d_hi_giveBack_16 : decode hi_giveBack.2.1 16 = .ok (.dup, 1) := by decide +kernel
theorem d_hi_giveBack_17 : decode hi_giveBack.2.1 17 = .ok (.getfield 37, 3) := by decide +kernel
theorem d_hi_giveBack_20 : decode hi_giveBack.2.1 20 = .ok (.iconst 1, 1) := by decide +kernel
theorem d_hi_giveBack_21 : decode hi_giveBack.2.1 21 = .ok (.isub, 1) := by decide +kernel
theorem d_hi_giveBack_22 : decode hi_giveBack.2.1 22 = .ok (.putfield 37, 3) := by decide +kernel
theorem d_hi_giveBack_25 : decode hi_giveBack.2.1 25 = .ok (.aload_n 1, 1) := by decide +kernel
theorem d_hi_giveBack_26 : decode hi_giveBack.2.1 26 = .ok (.aload_n 0, 1) := by decide +kernel
theorem d_hi_giveBack_27 : decode hi_giveBack.2.1 27 = .ok (.getfield 20, 3) := by decide +kernel
theorem d_hi_giveBack_30 : decode hi_giveBack.2.1 30 = .ok (.aload_n 0, 1) := by decide +kernel
theorem d_hi_giveBack_31 : decode hi_giveBack.2.1 31 = .ok (.getfield 23, 3) := by decide +kernel
theorem d_hi_giveBack_34 : decode hi_giveBack.2.1 34 = .ok (.bipush 60, 2) := by decide +kernel
theorem d_hi_giveBack_36 : decode hi_giveBack.2.1 36 = .ok (.imul, 1) := by decide +kernel
theorem d_hi_giveBack_37 : decode hi_giveBack.2.1 37 = .ok (.aload_n 0, 1) := by decide +kernel
theorem d_hi_giveBack_38 : decode hi_giveBack.2.1 38 = .ok (.getfield 15, 3) := by decide +kernel
theorem d_hi_giveBack_41 : decode hi_giveBack.2.1 41 = .ok (.aload_n 0, 1) := by decide +kernel
theorem d_hi_giveBack_42 : decode hi_giveBack.2.1 42 = .ok (.getfield 23, 3) := by decide +kernel
theorem d_hi_giveBack_45 : decode hi_giveBack.2.1 45 = .ok (.iaload, 1) := by decide +kernel
theorem d_hi_giveBack_46 : decode hi_giveBack.2.1 46 = .ok (.invokevirtual 50, 3) := by decide +kernel
theorem d_hi_giveBack_49 : decode hi_giveBack.2.1 49 = .ok (.return_, 1) := by decide +kernel
theorem d_ki_init_0 : decode ki_init.2.1 0 = .ok (.aload_n 0, 1) := by decide +kernel
theorem d_ki_init_1 : decode ki_init.2.1 1 = .ok (.invokespecial 3, 3) := by decide +kernel
theorem d_ki_init_4 : decode ki_init.2.1 4 = .ok (.aload_n 0, 1) := by decide +kernel
theorem d_ki_init_5 : decode ki_init.2.1 5 = .ok (.bipush 40, 2) := by decide +kernel
theorem d_ki_init_7 : decode ki_init.2.1 7 = .ok (.newarray .int, 2) := by decide +kernel
theorem d_ki_init_9 : decode ki_init.2.1 9 = .ok (.putfield 11, 3) := by decide +kernel
theorem d_ki_init_12 : decode ki_init.2.1 12 = .ok (.aload_n 0, 1) := by decide +kernel
theorem d_ki_init_13 : decode ki_init.2.1 13 = .ok (.bipush 40, 2) := by decide +kernel
theorem d_ki_init_15 : decode ki_init.2.1 15 = .ok (.newarray .int, 2) := by decide +kernel
theorem d_ki_init_17 : decode ki_init.2.1 17 = .ok (.putfield 15, 3) := by decide +kernel
theorem d_ki_init_20 : decode ki_init.2.1 20 = .ok (.aload_n 0, 1) := by decide +kernel
theorem d_ki_init_21 : decode ki_init.2.1 21 = .ok (.bipush 40, 2) := by decide +kernel
theorem d_ki_init_23 : decode ki_init.2.1 23 = .ok (.newarray .boolean, 2) := by decide +kernel
theorem d_ki_init_25 : decode ki_init.2.1 25 = .ok (.putfield 18, 3) := by decide +kernel
theorem d_ki_init_28 : decode ki_init.2.1 28 = .ok (.aload_n 0, 1) := by decide +kernel
theorem d_ki_init_29 : decode ki_init.2.1 29 = .ok (.bipush 40, 2) := by decide +kernel
theorem d_ki_init_31 : decode ki_init.2.1 31 = .ok (.newarray .int, 2) := by decide +kernel
theorem d_ki_init_33 : decode ki_init.2.1 33 = .ok (.putfield 22, 3) := by decide +kernel
theorem d_ki_init_36 : decode ki_init.2.1 36 = .ok (.aload_n 0, 1) := by decide +kernel
theorem d_ki_init_37 : decode ki_init.2.1 37 = .ok (.bipush 40, 2) := by decide +kernel
theorem d_ki_init_39 : decode ki_init.2.1 39 = .ok (.newarray .long, 2) := by decide +kernel
theorem d_ki_init_41 : decode ki_init.2.1 41 = .ok (.putfield 25, 3) := by decide +kernel
theorem d_ki_init_44 : decode ki_init.2.1 44 = .ok (.return_, 1) := by decide +kernel
theorem d_ki_lettersOf_0 : decode ki_lettersOf.2.1 0 = .ok (.lconst 0, 1) := by decide +kernel
theorem d_ki_lettersOf_1 : decode ki_lettersOf.2.1 1 = .ok (.lstore_n 2, 1) := by decide +kernel
theorem d_ki_lettersOf_2 : decode ki_lettersOf.2.1 2 = .ok (.bipush 56, 2) := by decide +kernel
theorem d_ki_lettersOf_4 : decode ki_lettersOf.2.1 4 = .ok (.istore 4, 2) := by decide +kernel
theorem d_ki_lettersOf_6 : decode ki_lettersOf.2.1 6 = .ok (.iload 4, 2) := by decide +kernel
theorem d_ki_lettersOf_8 : decode ki_lettersOf.2.1 8 = .ok (.ifCond .lt 65, 3) := by decide +kernel
theorem d_ki_lettersOf_11 : decode ki_lettersOf.2.1 11 = .ok (.lload_n 0, 1) := by decide +kernel
theorem d_ki_lettersOf_12 : decode ki_lettersOf.2.1 12 = .ok (.iload 4, 2) := by decide +kernel
theorem d_ki_lettersOf_14 : decode ki_lettersOf.2.1 14 = .ok (.lushr, 1) := by decide +kernel
theorem d_ki_lettersOf_15 : decode ki_lettersOf.2.1 15 = .ok (.ldc2_w 29, 3) := by decide +kernel
theorem d_ki_lettersOf_18 : decode ki_lettersOf.2.1 18 = .ok (.land, 1) := by decide +kernel
theorem d_ki_lettersOf_19 : decode ki_lettersOf.2.1 19 = .ok (.lstore 5, 2) := by decide +kernel
theorem d_ki_lettersOf_21 : decode ki_lettersOf.2.1 21 = .ok (.lload 5, 2) := by decide +kernel
theorem d_ki_lettersOf_23 : decode ki_lettersOf.2.1 23 = .ok (.lconst 0, 1) := by decide +kernel
theorem d_ki_lettersOf_24 : decode ki_lettersOf.2.1 24 = .ok (.lcmp, 1) := by decide +kernel
theorem d_ki_lettersOf_25 : decode ki_lettersOf.2.1 25 = .ok (.ifCond .eq 23, 3) := by decide +kernel
theorem d_ki_lettersOf_28 : decode ki_lettersOf.2.1 28 = .ok (.lload 5, 2) := by decide +kernel
theorem d_ki_lettersOf_30 : decode ki_lettersOf.2.1 30 = .ok (.ldc2_w 31, 3) := by decide +kernel
theorem d_ki_lettersOf_33 : decode ki_lettersOf.2.1 33 = .ok (.lcmp, 1) := by decide +kernel
theorem d_ki_lettersOf_34 : decode ki_lettersOf.2.1 34 = .ok (.ifCond .lt 12, 3) := by decide +kernel
theorem d_ki_lettersOf_37 : decode ki_lettersOf.2.1 37 = .ok (.lload 5, 2) := by decide +kernel
theorem d_ki_lettersOf_39 : decode ki_lettersOf.2.1 39 = .ok (.ldc2_w 33, 3) := by decide +kernel
theorem d_ki_lettersOf_42 : decode ki_lettersOf.2.1 42 = .ok (.lcmp, 1) := by decide +kernel
theorem d_ki_lettersOf_43 : decode ki_lettersOf.2.1 43 = .ok (.ifCond .le 5, 3) := by decide +kernel
theorem d_ki_lettersOf_46 : decode ki_lettersOf.2.1 46 = .ok (.lconst 0, 1) := by decide +kernel
theorem d_ki_lettersOf_47 : decode ki_lettersOf.2.1 47 = .ok (.lreturn, 1) := by decide +kernel
theorem d_ki_lettersOf_48 : decode ki_lettersOf.2.1 48 = .ok (.lload 5, 2) := by decide +kernel
theorem d_ki_lettersOf_50 : decode ki_lettersOf.2.1 50 = .ok (.lconst 0, 1) := by decide +kernel
theorem d_ki_lettersOf_51 : decode ki_lettersOf.2.1 51 = .ok (.lcmp, 1) := by decide +kernel
theorem d_ki_lettersOf_52 : decode ki_lettersOf.2.1 52 = .ok (.ifCond .ne 7, 3) := by decide +kernel
theorem d_ki_lettersOf_55 : decode ki_lettersOf.2.1 55 = .ok (.lload_n 2, 1) := by decide +kernel
theorem d_ki_lettersOf_56 : decode ki_lettersOf.2.1 56 = .ok (.goto 10, 3) := by decide +kernel
theorem d_ki_lettersOf_59 : decode ki_lettersOf.2.1 59 = .ok (.lload_n 2, 1) := by decide +kernel
theorem d_ki_lettersOf_60 : decode ki_lettersOf.2.1 60 = .ok (.bipush 8, 2) := by decide +kernel
theorem d_ki_lettersOf_62 : decode ki_lettersOf.2.1 62 = .ok (.lshl, 1) := by decide +kernel
theorem d_ki_lettersOf_63 : decode ki_lettersOf.2.1 63 = .ok (.lload 5, 2) := by decide +kernel
theorem d_ki_lettersOf_65 : decode ki_lettersOf.2.1 65 = .ok (.lor, 1) := by decide +kernel
theorem d_ki_lettersOf_66 : decode ki_lettersOf.2.1 66 = .ok (.lstore_n 2, 1) := by decide +kernel
theorem d_ki_lettersOf_67 : decode ki_lettersOf.2.1 67 = .ok (.iinc 4 (-8), 3) := by decide +kernel
theorem d_ki_lettersOf_70 : decode ki_lettersOf.2.1 70 = .ok (.goto (-64), 3) := by decide +kernel
theorem d_ki_lettersOf_73 : decode ki_lettersOf.2.1 73 = .ok (.lload_n 2, 1) := by decide +kernel
theorem d_ki_lettersOf_74 : decode ki_lettersOf.2.1 74 = .ok (.lreturn, 1) := by decide +kernel
theorem d_ki_mayBe_0 : decode ki_mayBe.2.1 0 = .ok (.iload_n 0, 1) := by decide +kernel
theorem d_ki_mayBe_1 : decode ki_mayBe.2.1 1 = .ok (.ifCond .lt 20, 3) := by decide +kernel
theorem d_ki_mayBe_4 : decode ki_mayBe.2.1 4 = .ok (.iload_n 0, 1) := by decide +kernel
theorem d_ki_mayBe_5 : decode ki_mayBe.2.1 5 = .ok (.ldc 35, 2) := by decide +kernel
theorem d_ki_mayBe_7 : decode ki_mayBe.2.1 7 = .ok (.if_icmp .gt 14, 3) := by decide +kernel
theorem d_ki_mayBe_10 : decode ki_mayBe.2.1 10 = .ok (.iload_n 2, 1) := by decide +kernel
theorem d_ki_mayBe_11 : decode ki_mayBe.2.1 11 = .ok (.ifCond .lt 10, 3) := by decide +kernel
theorem d_ki_mayBe_14 : decode ki_mayBe.2.1 14 = .ok (.iload_n 2, 1) := by decide +kernel
theorem d_ki_mayBe_15 : decode ki_mayBe.2.1 15 = .ok (.sipush 1000, 3) := by decide +kernel
theorem d_ki_mayBe_18 : decode ki_mayBe.2.1 18 = .ok (.if_icmp .le 5, 3) := by decide +kernel
theorem d_ki_mayBe_21 : decode ki_mayBe.2.1 21 = .ok (.iconst 0, 1) := by decide +kernel
theorem d_ki_mayBe_22 : decode ki_mayBe.2.1 22 = .ok (.ireturn, 1) := by decide +kernel
theorem d_ki_mayBe_23 : decode ki_mayBe.2.1 23 = .ok (.iload_n 0, 1) := by decide +kernel
theorem d_ki_mayBe_24 : decode ki_mayBe.2.1 24 = .ok (.sipush 255, 3) := by decide +kernel
theorem d_ki_mayBe_27 : decode ki_mayBe.2.1 27 = .ok (.iand, 1) := by decide +kernel
theorem d_ki_mayBe_28 : decode ki_mayBe.2.1 28 = .ok (.iload_n 0, 1) := by decide +kernel
theorem d_ki_mayBe_29 : decode ki_mayBe.2.1 29 = .ok (.bipush 8, 2) := by decide +kernel
theorem d_ki_mayBe_31 : decode ki_mayBe.2.1 31 = .ok (.ishr, 1) := by decide +kernel
theorem d_ki_mayBe_32 : decode ki_mayBe.2.1 32 = .ok (.if_icmp .ne 7, 3) := by decide +kernel
theorem d_ki_mayBe_35 : decode ki_mayBe.2.1 35 = .ok (.iconst 1, 1) := by decide +kernel
theorem d_ki_mayBe_36 : decode ki_mayBe.2.1 36 = .ok (.goto 4, 3) := by decide +kernel
theorem d_ki_mayBe_39 : decode ki_mayBe.2.1 39 = .ok (.iconst 0, 1) := by decide +kernel
theorem d_ki_mayBe_40 : decode ki_mayBe.2.1 40 = .ok (.istore_n 3, 1) := by decide +kernel
theorem d_ki_mayBe_41 : decode ki_mayBe.2.1 41 = .ok (.iload_n 3, 1) := by decide +kernel
theorem d_ki_mayBe_42 : decode ki_mayBe.2.1 42 = .ok (.ifCond .eq 20, 3) := by decide +kernel
theorem d_ki_mayBe_45 : decode ki_mayBe.2.1 45 = .ok (.iload_n 0, 1) := by decide +kernel
theorem d_ki_mayBe_46 : decode ki_mayBe.2.1 46 = .ok (.bipush 15, 2) := by decide +kernel
theorem d_ki_mayBe_48 : decode ki_mayBe.2.1 48 = .ok (.iand, 1) := by decide +kernel
theorem d_ki_mayBe_49 : decode ki_mayBe.2.1 49 = .ok (.iload_n 0, 1) := by decide +kernel
theorem d_ki_mayBe_50 : decode ki_mayBe.2.1 50 = .ok (.iconst 4, 1) := by decide +kernel
theorem d_ki_mayBe_51 : decode ki_mayBe.2.1 51 = .ok (.ishr, 1) := by decide +kernel
theorem d_ki_mayBe_52 : decode ki_mayBe.2.1 52 = .ok (.bipush 15, 2) := by decide +kernel
theorem d_ki_mayBe_54 : decode ki_mayBe.2.1 54 = .ok (.iand, 1) := by decide +kernel
theorem d_ki_mayBe_55 : decode ki_mayBe.2.1 55 = .ok (.if_icmp .ne 7, 3) := by decide +kernel
theorem d_ki_mayBe_58 : decode ki_mayBe.2.1 58 = .ok (.iconst 1, 1) := by decide +kernel
theorem d_ki_mayBe_59 : decode ki_mayBe.2.1 59 = .ok (.goto 4, 3) := by decide +kernel
theorem d_ki_mayBe_62 : decode ki_mayBe.2.1 62 = .ok (.iconst 0, 1) := by decide +kernel
theorem d_ki_mayBe_63 : decode ki_mayBe.2.1 63 = .ok (.istore 4, 2) := by decide +kernel
theorem d_ki_mayBe_65 : decode ki_mayBe.2.1 65 = .ok (.iload_n 1, 1) := by decide +kernel
theorem d_ki_mayBe_66 : decode ki_mayBe.2.1 66 = .ok (.iconst 4, 1) := by decide +kernel
theorem d_ki_mayBe_67 : decode ki_mayBe.2.1 67 = .ok (.if_icmp .eq 22, 3) := by decide +kernel
theorem d_ki_mayBe_70 : decode ki_mayBe.2.1 70 = .ok (.iload_n 1, 1) := by decide +kernel
theorem d_ki_mayBe_71 : decode ki_mayBe.2.1 71 = .ok (.iconst 2, 1) := by decide +kernel
theorem d_ki_mayBe_72 : decode ki_mayBe.2.1 72 = .ok (.if_icmp .ne 7, 3) := by decide +kernel
theorem d_ki_mayBe_75 : decode ki_mayBe.2.1 75 = .ok (.iload_n 3, 1) := by decide +kernel
theorem d_ki_mayBe_76 : decode ki_mayBe.2.1 76 = .ok (.ifCond .ne 13, 3) := by decide +kernel
theorem d_ki_mayBe_79 : decode ki_mayBe.2.1 79 = .ok (.iload_n 1, 1) := by decide +kernel
theorem d_ki_mayBe_80 : decode ki_mayBe.2.1 80 = .ok (.iconst 1, 1) := by decide +kernel
theorem d_ki_mayBe_81 : decode ki_mayBe.2.1 81 = .ok (.if_icmp .ne 12, 3) := by decide +kernel
theorem d_ki_mayBe_84 : decode ki_mayBe.2.1 84 = .ok (.iload 4, 2) := by decide +kernel
theorem d_ki_mayBe_86 : decode ki_mayBe.2.1 86 = .ok (.ifCond .eq 7, 3) := by decide +kernel
theorem d_ki_mayBe_89 : decode ki_mayBe.2.1 89 = .ok (.iconst 1, 1) := by decide +kernel
theorem d_ki_mayBe_90 : decode ki_mayBe.2.1 90 = .ok (.goto 4, 3) := by decide +kernel
theorem d_ki_mayBe_93 : decode ki_mayBe.2.1 93 = .ok (.iconst 0, 1) := by decide +kernel
theorem d_ki_mayBe_94 : decode ki_mayBe.2.1 94 = .ok (.ireturn, 1) := by decide +kernel
theorem d_ki_chained_0 : decode ki_chained.2.1 0 = .ok (.iload_n 1, 1) := by decide +kernel
theorem d_ki_chained_1 : decode ki_chained.2.1 1 = .ok (.iconst 4, 1) := by decide +kernel
theorem d_ki_chained_2 : decode ki_chained.2.1 2 = .ok (.if_icmp .lt 9, 3) := by decide +kernel
theorem d_ki_chained_5 : decode ki_chained.2.1 5 = .ok (.iload_n 1, 1) := by decide +kernel
theorem d_ki_chained_6 : decode ki_chained.2.1 6 = .ok (.iload_n 0, 1) := by decide +kernel
theorem d_ki_chained_7 : decode ki_chained.2.1 7 = .ok (.isub, 1) := by decide +kernel
theorem d_ki_chained_8 : decode ki_chained.2.1 8 = .ok (.goto 6, 3) := by decide +kernel
theorem d_ki_chained_11 : decode ki_chained.2.1 11 = .ok (.iload_n 1, 1) := by decide +kernel
theorem d_ki_chained_12 : decode ki_chained.2.1 12 = .ok (.iload_n 0, 1) := by decide +kernel
theorem d_ki_chained_13 : decode ki_chained.2.1 13 = .ok (.iadd, 1) := by decide +kernel
theorem d_ki_chained_14 : decode ki_chained.2.1 14 = .ok (.istore_n 2, 1) := by decide +kernel
theorem d_ki_chained_15 : decode ki_chained.2.1 15 = .ok (.iload_n 2, 1) := by decide +kernel
theorem d_ki_chained_16 : decode ki_chained.2.1 16 = .ok (.iconst 3, 1) := by decide +kernel
theorem d_ki_chained_17 : decode ki_chained.2.1 17 = .ok (.iand, 1) := by decide +kernel
theorem d_ki_chained_18 : decode ki_chained.2.1 18 = .ok (.iload_n 0, 1) := by decide +kernel
theorem d_ki_chained_19 : decode ki_chained.2.1 19 = .ok (.iconst 4, 1) := by decide +kernel
theorem d_ki_chained_20 : decode ki_chained.2.1 20 = .ok (.if_icmp .lt 7, 3) := by decide +kernel
theorem d_ki_chained_23 : decode ki_chained.2.1 23 = .ok (.iconst 1, 1) := by decide +kernel
theorem d_ki_chained_24 : decode ki_chained.2.1 24 = .ok (.goto 4, 3) := by decide +kernel
theorem d_ki_chained_27 : decode ki_chained.2.1 27 = .ok (.iconst 0, 1) := by decide +kernel
theorem d_ki_chained_28 : decode ki_chained.2.1 28 = .ok (.iload_n 1, 1) := by decide +kernel
theorem d_ki_chained_29 : decode ki_chained.2.1 29 = .ok (.iconst 4, 1) := by decide +kernel
theorem d_ki_chained_30 : decode ki_chained.2.1 30 = .ok (.if_icmp .lt 7, 3) := by decide +kernel
theorem d_ki_chained_33 : decode ki_chained.2.1 33 = .ok (.iconst 1, 1) := by decide +kernel
theorem d_ki_chained_34 : decode ki_chained.2.1 34 = .ok (.goto 4, 3) := by decide +kernel
theorem d_ki_chained_37 : decode ki_chained.2.1 37 = .ok (.iconst 0, 1) := by decide +kernel
theorem d_ki_chained_38 : decode ki_chained.2.1 38 = .ok (.if_icmp .ne 7, 3) := by decide +kernel
theorem d_ki_chained_41 : decode ki_chained.2.1 41 = .ok (.iconst 0, 1) := by decide +kernel
theorem d_ki_chained_42 : decode ki_chained.2.1 42 = .ok (.goto 4, 3) := by decide +kernel
theorem d_ki_chained_45 : decode ki_chained.2.1 45 = .ok (.iconst 4, 1) := by decide +kernel
theorem d_ki_chained_46 : decode ki_chained.2.1 46 = .ok (.iadd, 1) := by decide +kernel
theorem d_ki_chained_47 : decode ki_chained.2.1 47 = .ok (.ireturn, 1) := by decide +kernel
theorem d_ki_isFull_0 : decode ki_isFull.2.1 0 = .ok (.aload_n 0, 1) := by decide +kernel
theorem d_ki_isFull_1 : decode ki_isFull.2.1 1 = .ok (.getfield 36, 3) := by decide +kernel
theorem d_ki_isFull_4 : decode ki_isFull.2.1 4 = .ok (.bipush 40, 2) := by decide +kernel
theorem d_ki_isFull_6 : decode ki_isFull.2.1 6 = .ok (.if_icmp .lt 7, 3) := by decide +kernel
theorem d_ki_isFull_9 : decode ki_isFull.2.1 9 = .ok (.iconst 1, 1) := by decide +kernel
theorem d_ki_isFull_10 : decode ki_isFull.2.1 10 = .ok (.goto 4, 3) := by decide +kernel
theorem d_ki_isFull_13 : decode ki_isFull.2.1 13 = .ok (.iconst 0, 1) := by decide +kernel
theorem d_ki_isFull_14 : decode ki_isFull.2.1 14 = .ok (.ireturn, 1) := by decide +kernel
theorem d_ki_has_0 : decode ki_has.2.1 0 = .ok (.iload_n 1, 1) := by decide +kernel
theorem d_ki_has_1 : decode ki_has.2.1 1 = .ok (.ifCond .lt 15, 3) := by decide +kernel
theorem d_ki_has_4 : decode ki_has.2.1 4 = .ok (.iload_n 1, 1) := by decide +kernel
theorem d_ki_has_5 : decode ki_has.2.1 5 = .ok (.aload_n 0, 1) := by decide +kernel
theorem d_ki_has_6 : decode ki_has.2.1 6 = .ok (.getfield 36, 3) := by decide +kernel
theorem d_ki_has_9 : decode ki_has.2.1 9 = .ok (.if_icmp .ge 7, 3) := by decide +kernel
theorem d_ki_has_12 : decode ki_has.2.1 12 = .ok (.iconst 1, 1) := by decide +kernel
theorem d_ki_has_13 : decode ki_has.2.1 13 = .ok (.goto 4, 3) := by decide +kernel
theorem d_ki_has_16 : decode ki_has.2.1 16 = .ok (.iconst 0, 1) := by decide +kernel
theorem d_ki_has_17 : decode ki_has.2.1 17 = .ok (.ireturn, 1) := by decide +kernel
theorem d_ki_add_0 : decode ki_add.2.1 0 = .ok (.aload_n 0, 1) := by decide +kernel
theorem d_ki_add_1 : decode ki_add.2.1 1 = .ok (.invokevirtual 40, 3) := by decide +kernel
theorem d_ki_add_4 : decode ki_add.2.1 4 = .ok (.ifCond .eq 5, 3) := by decide +kernel
theorem d_ki_add_7 : decode ki_add.2.1 7 = .ok (.iconst (-1), 1) := by decide +kernel
theorem d_ki_add_8 : decode ki_add.2.1 8 = .ok (.ireturn, 1) := by decide +kernel
theorem d_ki_add_9 : decode ki_add.2.1 9 = .ok (.aload_n 0, 1) := by decide +kernel
theorem d_ki_add_10 : decode ki_add.2.1 10 = .ok (.getfield 11, 3) := by decide +kernel
theorem d_ki_add_13 : decode ki_add.2.1 13 = .ok (.aload_n 0, 1) := by decide +kernel
theorem d_ki_add_14 : decode ki_add.2.1 14 = .ok (.getfield 36, 3) := by decide +kernel
theorem d_ki_add_17 : decode ki_add.2.1 17 = .ok (.iload_n 1, 1) := by decide +kernel
theorem d_ki_add_18 : decode ki_add.2.1 18 = .ok (.iastore, 1) := by decide +kernel
theorem d_ki_add_19 : decode ki_add.2.1 19 = .ok (.aload_n 0, 1) := by decide +kernel
theorem d_ki_add_20 : decode ki_add.2.1 20 = .ok (.getfield 15, 3) := by decide +kernel
theorem d_ki_add_23 : decode ki_add.2.1 23 = .ok (.aload_n 0, 1) := by decide +kernel
theorem d_ki_add_24 : decode ki_add.2.1 24 = .ok (.getfield 36, 3) := by decide +kernel
theorem d_ki_add_27 : decode ki_add.2.1 27 = .ok (.iload_n 2, 1) := by decide +kernel
theorem d_ki_add_28 : decode ki_add.2.1 28 = .ok (.iastore, 1) := by decide +kernel
theorem d_ki_add_29 : decode ki_add.2.1 29 = .ok (.aload_n 0, 1) := by decide +kernel
theorem d_ki_add_30 : decode ki_add.2.1 30 = .ok (.getfield 18, 3) := by decide +kernel
theorem d_ki_add_33 : decode ki_add.2.1 33 = .ok (.aload_n 0, 1) := by decide +kernel
theorem d_ki_add_34 : decode ki_add.2.1 34 = .ok (.getfield 36, 3) := by decide +kernel
theorem d_ki_add_37 : decode ki_add.2.1 37 = .ok (.iload_n 3, 1) := by decide +kernel
theorem d_ki_add_38 : decode ki_add.2.1 38 = .ok (.bastore, 1) := by decide +kernel
theorem d_ki_add_39 : decode ki_add.2.1 39 = .ok (.aload_n 0, 1) := by decide +kernel
theorem d_ki_add_40 : decode ki_add.2.1 40 = .ok (.getfield 22, 3) := by decide +kernel
theorem d_ki_add_43 : decode ki_add.2.1 43 = .ok (.aload_n 0, 1) := by decide +kernel
theorem d_ki_add_44 : decode ki_add.2.1 44 = .ok (.getfield 36, 3) := by decide +kernel
theorem d_ki_add_47 : decode ki_add.2.1 47 = .ok (.iload 4, 2) := by decide +kernel
theorem d_ki_add_49 : decode ki_add.2.1 49 = .ok (.iastore, 1) := by decide +kernel
theorem d_ki_add_50 : decode ki_add.2.1 50 = .ok (.aload_n 0, 1) := by decide +kernel
theorem d_ki_add_51 : decode ki_add.2.1 51 = .ok (.getfield 25, 3) := by decide +kernel
theorem d_ki_add_54 : decode ki_add.2.1 54 = .ok (.aload_n 0, 1) := by decide +kernel
theorem d_ki_add_55 : decode ki_add.2.1 55 = .ok (.getfield 36, 3) := by decide +kernel
theorem d_ki_add_58 : decode ki_add.2.1 58 = .ok (.lload 5, 2) := by decide +kernel
theorem d_ki_add_60 : decode ki_add.2.1 60 = .ok (.lastore, 1) := by decide +kernel
theorem d_ki_add_61 : decode ki_add.2.1 61 = .ok (.aload_n 0, 1) := by decide +kernel
theorem d_ki_add_62 : decode ki_add.2.1 62 = .ok (.dup, 1) := by decide +kernel
theorem d_ki_add_63 : decode ki_add.2.1 63 = .ok (.getfield 36, 3) := by decide +kernel
theorem d_ki_add_66 : decode ki_add.2.1 66 = .ok (.iconst 1, 1) := by decide +kernel
theorem d_ki_add_67 : decode ki_add.2.1 67 = .ok (.iadd, 1) := by decide +kernel
theorem d_ki_add_68 : decode ki_add.2.1 68 = .ok (.putfield 36, 3) := by decide +kernel
theorem d_ki_add_71 : decode ki_add.2.1 71 = .ok (.aload_n 0, 1) := by decide +kernel
theorem d_ki_add_72 : decode ki_add.2.1 72 = .ok (.getfield 36, 3) := by decide +kernel
theorem d_ki_add_75 : decode ki_add.2.1 75 = .ok (.iconst 1, 1) := by decide +kernel
theorem d_ki_add_76 : decode ki_add.2.1 76 = .ok (.isub, 1) := by decide +kernel
theorem d_ki_add_77 : decode ki_add.2.1 77 = .ok (.ireturn, 1) := by decide +kernel
theorem d_ki_withLetters_0 : decode ki_withLetters.2.1 0 = .ok (.iconst 0, 1) := by decide +kernel
theorem d_ki_withLetters_1 : decode ki_withLetters.2.1 1 = .ok (.istore_n 3, 1) := by decide +kernel
theorem d_ki_withLetters_2 : decode ki_withLetters.2.1 2 = .ok (.iload_n 3, 1) := by decide +kernel
theorem d_ki_withLetters_3 : decode ki_withLetters.2.1 3 = .ok (.aload_n 0, 1) := by decide +kernel
theorem d_ki_withLetters_4 : decode ki_withLetters.2.1 4 = .ok (.getfield 36, 3) := by decide +kernel
theorem d_ki_withLetters_7 : decode ki_withLetters.2.1 7 = .ok (.if_icmp .ge 22, 3) := by decide +kernel
theorem d_ki_withLetters_10 : decode ki_withLetters.2.1 10 = .ok (.aload_n 0, 1) := by decide +kernel
theorem d_ki_withLetters_11 : decode ki_withLetters.2.1 11 = .ok (.getfield 25, 3) := by decide +kernel
theorem d_ki_withLetters_14 : decode ki_withLetters.2.1 14 = .ok (.iload_n 3, 1) := by decide +kernel
theorem d_ki_withLetters_15 : decode ki_withLetters.2.1 15 = .ok (.laload, 1) := by decide +kernel
theorem d_ki_withLetters_16 : decode ki_withLetters.2.1 16 = .ok (.lload_n 1, 1) := by decide +kernel
theorem d_ki_withLetters_17 : decode ki_withLetters.2.1 17 = .ok (.lcmp, 1) := by decide +kernel
theorem d_ki_withLetters_18 : decode ki_withLetters.2.1 18 = .ok (.ifCond .ne 5, 3) := by decide +kernel
theorem d_ki_withLetters_21 : decode ki_withLetters.2.1 21 = .ok (.iload_n 3, 1) := by decide +kernel
theorem d_ki_withLetters_22 : decode ki_withLetters.2.1 22 = .ok (.ireturn, 1) := by decide +kernel
theorem d_ki_withLetters_23 : decode ki_withLetters.2.1 23 = .ok (.iinc 3 1, 3) := by decide +kernel
theorem d_ki_withLetters_26 : decode ki_withLetters.2.1 26 = .ok (.goto (-24), 3) := by decide +kernel
theorem d_ki_withLetters_29 : decode ki_withLetters.2.1 29 = .ok (.iconst (-1), 1) := by decide +kernel
theorem d_ki_withLetters_30 : decode ki_withLetters.2.1 30 = .ok (.ireturn, 1) := by decide +kernel
theorem d_ki_costOf_0 : decode ki_costOf.2.1 0 = .ok (.iload_n 1, 1) := by decide +kernel
theorem d_ki_costOf_1 : decode ki_costOf.2.1 1 = .ok (.ifCond .lt 20, 3) := by decide +kernel
theorem d_ki_costOf_4 : decode ki_costOf.2.1 4 = .ok (.iload_n 1, 1) := by decide +kernel
theorem d_ki_costOf_5 : decode ki_costOf.2.1 5 = .ok (.aload_n 0, 1) := by decide +kernel
theorem d_ki_costOf_6 : decode ki_costOf.2.1 6 = .ok (.getfield 36, 3) := by decide +kernel
theorem d_ki_costOf_9 : decode ki_costOf.2.1 9 = .ok (.if_icmp .ge 12, 3) := by decide +kernel
theorem d_ki_costOf_12 : decode ki_costOf.2.1 12 = .ok (.aload_n 0, 1) := by decide +kernel
theorem d_ki_costOf_13 : decode ki_costOf.2.1 13 = .ok (.getfield 22, 3) := by decide +kernel
theorem d_ki_costOf_16 : decode ki_costOf.2.1 16 = .ok (.iload_n 1, 1) := by decide +kernel
theorem d_ki_costOf_17 : decode ki_costOf.2.1 17 = .ok (.iaload, 1) := by decide +kernel
theorem d_ki_costOf_18 : decode ki_costOf.2.1 18 = .ok (.goto 4, 3) := by decide +kernel
theorem d_ki_costOf_21 : decode ki_costOf.2.1 21 = .ok (.iconst 0, 1) := by decide +kernel
theorem d_ki_costOf_22 : decode ki_costOf.2.1 22 = .ok (.ireturn, 1) := by decide +kernel
theorem d_ki_lies_0 : decode ki_lies.2.1 0 = .ok (.iload_n 1, 1) := by decide +kernel
theorem d_ki_lies_1 : decode ki_lies.2.1 1 = .ok (.ifCond .lt 11, 3) := by decide +kernel
theorem d_ki_lies_4 : decode ki_lies.2.1 4 = .ok (.iload_n 1, 1) := by decide +kernel
theorem d_ki_lies_5 : decode ki_lies.2.1 5 = .ok (.aload_n 0, 1) := by decide +kernel
theorem d_ki_lies_6 : decode ki_lies.2.1 6 = .ok (.getfield 36, 3) := by decide +kernel
theorem d_ki_lies_9 : decode ki_lies.2.1 9 = .ok (.if_icmp .lt 5, 3) := by decide +kernel
theorem d_ki_lies_12 : decode ki_lies.2.1 12 = .ok (.iconst 0, 1) := by decide +kernel
theorem d_ki_lies_13 : decode ki_lies.2.1 13 = .ok (.ireturn, 1) := by decide +kernel
theorem d_ki_lies_14 : decode ki_lies.2.1 14 = .ok (.iload_n 2, 1) := by decide +kernel
theorem d_ki_lies_15 : decode ki_lies.2.1 15 = .ok (.iconst 3, 1) := by decide +kernel
theorem d_ki_lies_16 : decode ki_lies.2.1 16 = .ok (.iand, 1) := by decide +kernel
theorem d_ki_lies_17 : decode ki_lies.2.1 17 = .ok (.aload_n 0, 1) := by decide +kernel
theorem d_ki_lies_18 : decode ki_lies.2.1 18 = .ok (.getfield 15, 3) := by decide +kernel
theorem d_ki_lies_21 : decode ki_lies.2.1 21 = .ok (.iload_n 1, 1) := by decide +kernel
theorem d_ki_lies_22 : decode ki_lies.2.1 22 = .ok (.iaload, 1) := by decide +kernel
theorem d_ki_lies_23 : decode ki_lies.2.1 23 = .ok (.iconst 1, 1) := by decide +kernel
theorem d_ki_lies_24 : decode ki_lies.2.1 24 = .ok (.isub, 1) := by decide +kernel
theorem d_ki_lies_25 : decode ki_lies.2.1 25 = .ok (.iand, 1) := by decide +kernel
theorem d_ki_lies_26 : decode ki_lies.2.1 26 = .ok (.iload_n 2, 1) := by decide +kernel
theorem d_ki_lies_27 : decode ki_lies.2.1 27 = .ok (.iconst 4, 1) := by decide +kernel
theorem d_ki_lies_28 : decode ki_lies.2.1 28 = .ok (.if_icmp .lt 16, 3) := by decide +kernel
theorem d_ki_lies_31 : decode ki_lies.2.1 31 = .ok (.aload_n 0, 1) := by decide +kernel
theorem d_ki_lies_32 : decode ki_lies.2.1 32 = .ok (.getfield 18, 3) := by decide +kernel
theorem d_ki_lies_35 : decode ki_lies.2.1 35 = .ok (.iload_n 1, 1) := by decide +kernel
theorem d_ki_lies_36 : decode ki_lies.2.1 36 = .ok (.baload, 1) := by decide +kernel
theorem d_ki_lies_37 : decode ki_lies.2.1 37 = .ok (.ifCond .eq 7, 3) := by decide +kernel
theorem d_ki_lies_40 : decode ki_lies.2.1 40 = .ok (.iconst 4, 1) := by decide +kernel
theorem d_ki_lies_41 : decode ki_lies.2.1 41 = .ok (.goto 4, 3) := by decide +kernel
theorem d_ki_lies_44 : decode ki_lies.2.1 44 = .ok (.iconst 0, 1) := by decide +kernel
theorem d_ki_lies_45 : decode ki_lies.2.1 45 = .ok (.iadd, 1) := by decide +kernel
theorem d_ki_lies_46 : decode ki_lies.2.1 46 = .ok (.ireturn, 1) := by decide +kernel
theorem d_ki_colour_0 : decode ki_colour.2.1 0 = .ok (.iload_n 1, 1) := by decide +kernel
theorem d_ki_colour_1 : decode ki_colour.2.1 1 = .ok (.ifCond .lt 11, 3) := by decide +kernel
theorem d_ki_colour_4 : decode ki_colour.2.1 4 = .ok (.iload_n 1, 1) := by decide +kernel
theorem d_ki_colour_5 : decode ki_colour.2.1 5 = .ok (.aload_n 0, 1) := by decide +kernel
theorem d_ki_colour_6 : decode ki_colour.2.1 6 = .ok (.getfield 36, 3) := by decide +kernel
theorem d_ki_colour_9 : decode ki_colour.2.1 9 = .ok (.if_icmp .lt 5, 3) := by decide +kernel
theorem d_ki_colour_12 : decode ki_colour.2.1 12 = .ok (.iconst 0, 1) := by decide +kernel
theorem d_ki_colour_13 : decode ki_colour.2.1 13 = .ok (.ireturn, 1) := by decide +kernel
theorem d_ki_colour_14 : decode ki_colour.2.1 14 = .ok (.iload_n 3, 1) := by decide +kernel
theorem d_ki_colour_15 : decode ki_colour.2.1 15 = .ok (.iload_n 2, 1) := by decide +kernel
theorem d_ki_colour_16 : decode ki_colour.2.1 16 = .ok (.isub, 1) := by decide +kernel
theorem d_ki_colour_17 : decode ki_colour.2.1 17 = .ok (.iconst 3, 1) := by decide +kernel
theorem d_ki_colour_18 : decode ki_colour.2.1 18 = .ok (.iand, 1) := by decide +kernel
theorem d_ki_colour_19 : decode ki_colour.2.1 19 = .ok (.istore 4, 2) := by decide +kernel
theorem d_ki_colour_21 : decode ki_colour.2.1 21 = .ok (.iload_n 2, 1) := by decide +kernel
theorem d_ki_colour_22 : decode ki_colour.2.1 22 = .ok (.iconst 4, 1) := by decide +kernel
theorem d_ki_colour_23 : decode ki_colour.2.1 23 = .ok (.if_icmp .lt 12, 3) := by decide +kernel
theorem d_ki_colour_26 : decode ki_colour.2.1 26 = .ok (.iconst 4, 1) := by decide +kernel
theorem d_ki_colour_27 : decode ki_colour.2.1 27 = .ok (.iload 4, 2) := by decide +kernel
theorem d_ki_colour_29 : decode ki_colour.2.1 29 = .ok (.isub, 1) := by decide +kernel
theorem d_ki_colour_30 : decode ki_colour.2.1 30 = .ok (.iconst 3, 1) := by decide +kernel
theorem d_ki_colour_31 : decode ki_colour.2.1 31 = .ok (.iand, 1) := by decide +kernel
theorem d_ki_colour_32 : decode ki_colour.2.1 32 = .ok (.goto 5, 3) := by decide +kernel
theorem d_ki_colour_35 : decode ki_colour.2.1 35 = .ok (.iload 4, 2) := by decide +kernel
theorem d_ki_colour_37 : decode ki_colour.2.1 37 = .ok (.istore 5, 2) := by decide +kernel
theorem d_ki_colour_39 : decode ki_colour.2.1 39 = .ok (.aload_n 0, 1) := by decide +kernel
theorem d_ki_colour_40 : decode ki_colour.2.1 40 = .ok (.getfield 11, 3) := by decide +kernel
theorem d_ki_colour_43 : decode ki_colour.2.1 43 = .ok (.iload_n 1, 1) := by decide +kernel
theorem d_ki_colour_44 : decode ki_colour.2.1 44 = .ok (.iaload, 1) := by decide +kernel
theorem d_ki_colour_45 : decode ki_colour.2.1 45 = .ok (.iconst 4, 1) := by decide +kernel
theorem d_ki_colour_46 : decode ki_colour.2.1 46 = .ok (.iload 5, 2) := by decide +kernel
theorem d_ki_colour_48 : decode ki_colour.2.1 48 = .ok (.imul, 1) := by decide +kernel
theorem d_ki_colour_49 : decode ki_colour.2.1 49 = .ok (.ishr, 1) := by decide +kernel
theorem d_ki_colour_50 : decode ki_colour.2.1 50 = .ok (.bipush 15, 2) := by decide +kernel
theorem d_ki_colour_52 : decode ki_colour.2.1 52 = .ok (.iand, 1) := by decide +kernel
theorem d_ki_colour_53 : decode ki_colour.2.1 53 = .ok (.ireturn, 1) := by decide +kernel
theorem d_ki_cellOf_0 : decode ki_cellOf.2.1 0 = .ok (.iload_n 1, 1) := by decide +kernel
theorem d_ki_cellOf_1 : decode ki_cellOf.2.1 1 = .ok (.aload_n 0, 1) := by decide +kernel
theorem d_ki_cellOf_2 : decode ki_cellOf.2.1 2 = .ok (.iload_n 1, 1) := by decide +kernel
theorem d_ki_cellOf_3 : decode ki_cellOf.2.1 3 = .ok (.iload_n 2, 1) := by decide +kernel
theorem d_ki_cellOf_4 : decode ki_cellOf.2.1 4 = .ok (.invokevirtual 44, 3) := by decide +kernel
theorem d_ki_cellOf_7 : decode ki_cellOf.2.1 7 = .ok (.iconst 0, 1) := by decide +kernel
theorem d_ki_cellOf_8 : decode ki_cellOf.2.1 8 = .ok (.invokestatic 48, 3) := by decide +kernel
theorem d_ki_cellOf_11 : decode ki_cellOf.2.1 11 = .ok (.ireturn, 1) := by decide +kernel
theorem d_ki_movedCell_0 : decode ki_movedCell.2.1 0 = .ok (.iload_n 1, 1) := by decide +kernel
theorem d_ki_movedCell_1 : decode ki_movedCell.2.1 1 = .ok (.ifCond .ge 5, 3) := by decide +kernel
theorem d_ki_movedCell_4 : decode ki_movedCell.2.1 4 = .ok (.iload_n 1, 1) := by decide +kernel
theorem d_ki_movedCell_5 : decode ki_movedCell.2.1 5 = .ok (.ireturn, 1) := by decide +kernel
theorem d_ki_movedCell_6 : decode ki_movedCell.2.1 6 = .ok (.iload_n 1, 1) := by decide +kernel
theorem d_ki_movedCell_7 : decode ki_movedCell.2.1 7 = .ok (.invokestatic 54, 3) := by decide +kernel
theorem d_ki_movedCell_10 : decode ki_movedCell.2.1 10 = .ok (.istore_n 3, 1) := by decide +kernel
theorem d_ki_movedCell_11 : decode ki_movedCell.2.1 11 = .ok (.aload_n 0, 1) := by decide +kernel
theorem d_ki_movedCell_12 : decode ki_movedCell.2.1 12 = .ok (.iload_n 3, 1) := by decide +kernel
theorem d_ki_movedCell_13 : decode ki_movedCell.2.1 13 = .ok (.iload_n 1, 1) := by decide +kernel
theorem d_ki_movedCell_14 : decode ki_movedCell.2.1 14 = .ok (.invokestatic 58, 3) := by decide +kernel
theorem d_ki_movedCell_17 : decode ki_movedCell.2.1 17 = .ok (.iload_n 2, 1) := by decide +kernel
theorem d_ki_movedCell_18 : decode ki_movedCell.2.1 18 = .ok (.invokestatic 61, 3) := by decide +kernel
theorem d_ki_movedCell_21 : decode ki_movedCell.2.1 21 = .ok (.invokevirtual 44, 3) := by decide +kernel
theorem d_ki_movedCell_24 : decode ki_movedCell.2.1 24 = .ok (.istore 4, 2) := by decide +kernel
theorem d_ki_movedCell_26 : decode ki_movedCell.2.1 26 = .ok (.iload_n 3, 1) := by decide +kernel
theorem d_ki_movedCell_27 : decode ki_movedCell.2.1 27 = .ok (.iload 4, 2) := by decide +kernel
theorem d_ki_movedCell_29 : decode ki_movedCell.2.1 29 = .ok (.iload_n 1, 1) := by decide +kernel
theorem d_ki_movedCell_30 : decode ki_movedCell.2.1 30 = .ok (.invokestatic 64, 3) := by decide +kernel
theorem d_ki_movedCell_33 : decode ki_movedCell.2.1 33 = .ok (.invokestatic 48, 3) := by decide +kernel
theorem d_ki_movedCell_36 : decode ki_movedCell.2.1 36 = .ok (.ireturn, 1) := by decide +kernel
theorem d_ki_meet_0 : decode ki_meet.2.1 0 = .ok (.iload_n 1, 1) := by decide +kernel
theorem d_ki_meet_1 : decode ki_meet.2.1 1 = .ok (.ifCond .lt 7, 3) := by decide +kernel
theorem d_ki_meet_4 : decode ki_meet.2.1 4 = .ok (.iload_n 3, 1) := by decide +kernel
theorem d_ki_meet_5 : decode ki_meet.2.1 5 = .ok (.ifCond .ge 5, 3) := by decide +kernel
theorem d_ki_meet_8 : decode ki_meet.2.1 8 = .ok (.iconst 1, 1) := by decide +kernel
theorem d_ki_meet_9 : decode ki_meet.2.1 9 = .ok (.ireturn, 1) := by decide +kernel
theorem d_ki_meet_10 : decode ki_meet.2.1 10 = .ok (.aload_n 0, 1) := by decide +kernel
theorem d_ki_meet_11 : decode ki_meet.2.1 11 = .ok (.iload_n 1, 1) := by decide +kernel
theorem d_ki_meet_12 : decode ki_meet.2.1 12 = .ok (.invokestatic 54, 3) := by decide +kernel
theorem d_ki_meet_15 : decode ki_meet.2.1 15 = .ok (.iload_n 1, 1) := by decide +kernel
theorem d_ki_meet_16 : decode ki_meet.2.1 16 = .ok (.invokestatic 58, 3) := by decide +kernel
theorem d_ki_meet_19 : decode ki_meet.2.1 19 = .ok (.iload_n 2, 1) := by decide +kernel
theorem d_ki_meet_20 : decode ki_meet.2.1 20 = .ok (.invokevirtual 67, 3) := by decide +kernel
theorem d_ki_meet_23 : decode ki_meet.2.1 23 = .ok (.istore 4, 2) := by decide +kernel
theorem d_ki_meet_25 : decode ki_meet.2.1 25 = .ok (.iload 4, 2) := by decide +kernel
theorem d_ki_meet_27 : decode ki_meet.2.1 27 = .ok (.aload_n 0, 1) := by decide +kernel
theorem d_ki_meet_28 : decode ki_meet.2.1 28 = .ok (.iload_n 3, 1) := by decide +kernel
theorem d_ki_meet_29 : decode ki_meet.2.1 29 = .ok (.invokestatic 54, 3) := by decide +kernel
theorem d_ki_meet_32 : decode ki_meet.2.1 32 = .ok (.iload_n 3, 1) := by decide +kernel
theorem d_ki_meet_33 : decode ki_meet.2.1 33 = .ok (.invokestatic 58, 3) := by decide +kernel
theorem d_ki_meet_36 : decode ki_meet.2.1 36 = .ok (.iload_n 2, 1) := by decide +kernel
theorem d_ki_meet_37 : decode ki_meet.2.1 37 = .ok (.iconst 2, 1) := by decide +kernel
theorem d_ki_meet_38 : decode ki_meet.2.1 38 = .ok (.iadd, 1) := by decide +kernel
theorem d_ki_meet_39 : decode ki_meet.2.1 39 = .ok (.iconst 3, 1) := by decide +kernel
theorem d_ki_meet_40 : decode ki_meet.2.1 40 = .ok (.iand, 1) := by decide +kernel
theorem d_ki_meet_41 : decode ki_meet.2.1 41 = .ok (.invokevirtual 67, 3) := by decide +kernel
theorem d_ki_meet_44 : decode ki_meet.2.1 44 = .ok (.if_icmp .ne 7, 3) := by decide +kernel
theorem d_ki_meet_47 : decode ki_meet.2.1 47 = .ok (.iconst 1, 1) := by decide +kernel
theorem d_ki_meet_48 : decode ki_meet.2.1 48 = .ok (.goto 4, 3) := by decide +kernel
theorem d_ki_meet_51 : decode ki_meet.2.1 51 = .ok (.iconst 0, 1) := by decide +kernel
theorem d_ki_meet_52 : decode ki_meet.2.1 52 = .ok (.ireturn, 1) := by decide +kernel
theorem d_pa_init_0 : decode pa_init.2.1 0 = .ok (.aload_n 0, 1) := by decide +kernel
theorem d_pa_init_1 : decode pa_init.2.1 1 = .ok (.invokespecial 3, 3) := by decide +kernel
theorem d_pa_init_4 : decode pa_init.2.1 4 = .ok (.aload_n 0, 1) := by decide +kernel
theorem d_pa_init_5 : decode pa_init.2.1 5 = .ok (.bipush 60, 2) := by decide +kernel
theorem d_pa_init_7 : decode pa_init.2.1 7 = .ok (.newarray .int, 2) := by decide +kernel
theorem d_pa_init_9 : decode pa_init.2.1 9 = .ok (.putfield 11, 3) := by decide +kernel
theorem d_pa_init_12 : decode pa_init.2.1 12 = .ok (.aload_n 0, 1) := by decide +kernel
theorem d_pa_init_13 : decode pa_init.2.1 13 = .ok (.aload_n 1, 1) := by decide +kernel
theorem d_pa_init_14 : decode pa_init.2.1 14 = .ok (.putfield 15, 3) := by decide +kernel
theorem d_pa_init_17 : decode pa_init.2.1 17 = .ok (.return_, 1) := by decide +kernel
theorem d_pa_hasRow_0 : decode pa_hasRow.2.1 0 = .ok (.lload_n 1, 1) := by decide +kernel
theorem d_pa_hasRow_1 : decode pa_hasRow.2.1 1 = .ok (.lconst 0, 1) := by decide +kernel
theorem d_pa_hasRow_2 : decode pa_hasRow.2.1 2 = .ok (.lcmp, 1) := by decide +kernel
theorem d_pa_hasRow_3 : decode pa_hasRow.2.1 3 = .ok (.ifCond .lt 17, 3) := by decide +kernel
theorem d_pa_hasRow_6 : decode pa_hasRow.2.1 6 = .ok (.lload_n 1, 1) := by decide +kernel
theorem d_pa_hasRow_7 : decode pa_hasRow.2.1 7 = .ok (.aload_n 0, 1) := by decide +kernel
theorem d_pa_hasRow_8 : decode pa_hasRow.2.1 8 = .ok (.getfield 19, 3) := by decide +kernel
theorem d_pa_hasRow_11 : decode pa_hasRow.2.1 11 = .ok (.i2l, 1) := by decide +kernel
theorem d_pa_hasRow_12 : decode pa_hasRow.2.1 12 = .ok (.lcmp, 1) := by decide +kernel
theorem d_pa_hasRow_13 : decode pa_hasRow.2.1 13 = .ok (.ifCond .ge 7, 3) := by decide +kernel
theorem d_pa_hasRow_16 : decode pa_hasRow.2.1 16 = .ok (.iconst 1, 1) := by decide +kernel
theorem d_pa_hasRow_17 : decode pa_hasRow.2.1 17 = .ok (.goto 4, 3) := by decide +kernel
theorem d_pa_hasRow_20 : decode pa_hasRow.2.1 20 = .ok (.iconst 0, 1) := by decide +kernel
theorem d_pa_hasRow_21 : decode pa_hasRow.2.1 21 = .ok (.ireturn, 1) := by decide +kernel
theorem d_pa_idAt_0 : decode pa_idAt.2.1 0 = .ok (.aload_n 0, 1) := by decide +kernel
theorem d_pa_idAt_1 : decode pa_idAt.2.1 1 = .ok (.lload_n 1, 1) := by decide +kernel
theorem d_pa_idAt_2 : decode pa_idAt.2.1 2 = .ok (.invokevirtual 23, 3) := by decide +kernel
theorem d_pa_idAt_5 : decode pa_idAt.2.1 5 = .ok (.ifCond .eq 13, 3) := by decide +kernel
theorem d_pa_idAt_8 : decode pa_idAt.2.1 8 = .ok (.aload_n 0, 1) := by decide +kernel
theorem d_pa_idAt_9 : decode pa_idAt.2.1 9 = .ok (.getfield 11, 3) := by decide +kernel
theorem d_pa_idAt_12 : decode pa_idAt.2.1 12 = .ok (.lload_n 1, 1) := by decide +kernel
theorem d_pa_idAt_13 : decode pa_idAt.2.1 13 = .ok (.l2i, 1) := by decide +kernel
theorem d_pa_idAt_14 : decode pa_idAt.2.1 14 = .ok (.iaload, 1) := by decide +kernel
theorem d_pa_idAt_15 : decode pa_idAt.2.1 15 = .ok (.goto 4, 3) := by decide +kernel
theorem d_pa_idAt_18 : decode pa_idAt.2.1 18 = .ok (.iconst (-1), 1) := by decide +kernel
theorem d_pa_idAt_19 : decode pa_idAt.2.1 19 = .ok (.ireturn, 1) := by decide +kernel
theorem d_pa_lengthAt_0 : decode pa_lengthAt.2.1 0 = .ok (.aload_n 0, 1) := by decide +kernel
theorem d_pa_lengthAt_1 : decode pa_lengthAt.2.1 1 = .ok (.getfield 15, 3) := by decide +kernel
theorem d_pa_lengthAt_4 : decode pa_lengthAt.2.1 4 = .ok (.aload_n 0, 1) := by decide +kernel
theorem d_pa_lengthAt_5 : decode pa_lengthAt.2.1 5 = .ok (.iload_n 1, 1) := by decide +kernel
theorem d_pa_lengthAt_6 : decode pa_lengthAt.2.1 6 = .ok (.i2l, 1) := by decide +kernel
theorem d_pa_lengthAt_7 : decode pa_lengthAt.2.1 7 = .ok (.invokevirtual 27, 3) := by decide +kernel
theorem d_pa_lengthAt_10 : decode pa_lengthAt.2.1 10 = .ok (.invokevirtual 31, 3) := by decide +kernel
theorem d_pa_lengthAt_13 : decode pa_lengthAt.2.1 13 = .ok (.ireturn, 1) := by decide +kernel
theorem d_pa_offsetAt_0 : decode pa_offsetAt.2.1 0 = .ok (.aload_n 0, 1) := by decide +kernel
theorem d_pa_offsetAt_1 : decode pa_offsetAt.2.1 1 = .ok (.getfield 15, 3) := by decide +kernel
theorem d_pa_offsetAt_4 : decode pa_offsetAt.2.1 4 = .ok (.aload_n 0, 1) := by decide +kernel
theorem d_pa_offsetAt_5 : decode pa_offsetAt.2.1 5 = .ok (.iload_n 1, 1) := by decide +kernel
theorem d_pa_offsetAt_6 : decode pa_offsetAt.2.1 6 = .ok (.i2l, 1) := by decide +kernel
theorem d_pa_offsetAt_7 : decode pa_offsetAt.2.1 7 = .ok (.invokevirtual 27, 3) := by decide +kernel
theorem d_pa_offsetAt_10 : decode pa_offsetAt.2.1 10 = .ok (.invokevirtual 37, 3) := by decide +kernel
theorem d_pa_offsetAt_13 : decode pa_offsetAt.2.1 13 = .ok (.ireturn, 1) := by decide +kernel
theorem d_pa_cellAt_0 : decode pa_cellAt.2.1 0 = .ok (.aload_n 0, 1) := by decide +kernel
theorem d_pa_cellAt_1 : decode pa_cellAt.2.1 1 = .ok (.getfield 15, 3) := by decide +kernel
theorem d_pa_cellAt_4 : decode pa_cellAt.2.1 4 = .ok (.aload_n 0, 1) := by decide +kernel
theorem d_pa_cellAt_5 : decode pa_cellAt.2.1 5 = .ok (.lload_n 1, 1) := by decide +kernel
theorem d_pa_cellAt_6 : decode pa_cellAt.2.1 6 = .ok (.invokevirtual 27, 3) := by decide +kernel
theorem d_pa_cellAt_9 : decode pa_cellAt.2.1 9 = .ok (.lload_n 3, 1) := by decide +kernel
theorem d_pa_cellAt_10 : decode pa_cellAt.2.1 10 = .ok (.invokevirtual 40, 3) := by decide +kernel
theorem d_pa_cellAt_13 : decode pa_cellAt.2.1 13 = .ok (.ireturn, 1) := by decide +kernel
theorem d_pa_insertId_0 : decode pa_insertId.2.1 0 = .ok (.aload_n 0, 1) := by decide +kernel
theorem d_pa_insertId_1 : decode pa_insertId.2.1 1 = .ok (.getfield 19, 3) := by decide +kernel
theorem d_pa_insertId_4 : decode pa_insertId.2.1 4 = .ok (.bipush 60, 2) := by decide +kernel
theorem d_pa_insertId_6 : decode pa_insertId.2.1 6 = .ok (.if_icmp .ge 53, 3) := by decide +kernel
theorem d_pa_insertId_9 : decode pa_insertId.2.1 9 = .ok (.iload_n 1, 1) := by decide +kernel
theorem d_pa_insertId_10 : decode pa_insertId.2.1 10 = .ok (.ifCond .lt 49, 3) := by decide +kernel
theorem d_pa_insertId_13 : decode pa_insertId.2.1 13 = .ok (.iload_n 1, 1) := by decide +kernel
theorem d_pa_insertId_14 : decode pa_insertId.2.1 14 = .ok (.aload_n 0, 1) := by decide +kernel
theorem d_pa_insertId_15 : decode pa_insertId.2.1 15 = .ok (.getfield 19, 3) := by decide +kernel
theorem d_pa_insertId_18 : decode pa_insertId.2.1 18 = .ok (.if_icmp .gt 41, 3) := by decide +kernel
theorem d_pa_insertId_21 : decode pa_insertId.2.1 21 = .ok (.aload_n 0, 1) := by decide +kernel
theorem d_pa_insertId_22 : decode pa_insertId.2.1 22 = .ok (.getfield 11, 3) := by decide +kernel
theorem d_pa_insertId_25 : decode pa_insertId.2.1 25 = .ok (.iload_n 1, 1) := by decide +kernel
theorem d_pa_insertId_26 : decode pa_insertId.2.1 26 = .ok (.aload_n 0, 1) := by decide +kernel
theorem d_pa_insertId_27 : decode pa_insertId.2.1 27 = .ok (.getfield 11, 3) := by decide +kernel
theorem d_pa_insertId_30 : decode pa_insertId.2.1 30 = .ok (.iload_n 1, 1) := by decide +kernel
theorem d_pa_insertId_31 : decode pa_insertId.2.1 31 = .ok (.iconst 1, 1) := by decide +kernel
theorem d_pa_insertId_32 : decode pa_insertId.2.1 32 = .ok (.iadd, 1) := by decide +kernel
theorem d_pa_insertId_33 : decode pa_insertId.2.1 33 = .ok (.aload_n 0, 1) := by decide +kernel
theorem d_pa_insertId_34 : decode pa_insertId.2.1 34 = .ok (.getfield 19, 3) := by decide +kernel
theorem d_pa_insertId_37 : decode pa_insertId.2.1 37 = .ok (.iload_n 1, 1) := by decide +kernel
theorem d_pa_insertId_38 : decode pa_insertId.2.1 38 = .ok (.isub, 1) := by decide +kernel
theorem d_pa_insertId_39 : decode pa_insertId.2.1 39 = .ok (.invokestatic 44, 3) := by decide +kernel
theorem d_pa_insertId_42 : decode pa_insertId.2.1 42 = .ok (.aload_n 0, 1) := by decide +kernel
theorem d_pa_insertId_43 : decode pa_insertId.2.1 43 = .ok (.getfield 11, 3) := by decide +kernel
theorem d_pa_insertId_46 : decode pa_insertId.2.1 46 = .ok (.iload_n 1, 1) := by decide +kernel
theorem d_pa_insertId_47 : decode pa_insertId.2.1 47 = .ok (.iload_n 2, 1) := by decide +kernel
theorem d_pa_insertId_48 : decode pa_insertId.2.1 48 = .ok (.iastore, 1) := by decide +kernel
theorem d_pa_insertId_49 : decode pa_insertId.2.1 49 = .ok (.aload_n 0, 1) := by decide +kernel
theorem d_pa_insertId_50 : decode pa_insertId.2.1 50 = .ok (.dup, 1) := by decide +kernel
theorem d_pa_insertId_51 : decode pa_insertId.2.1 51 = .ok (.getfield 19, 3) := by decide +kernel
theorem d_pa_insertId_54 : decode pa_insertId.2.1 54 = .ok (.iconst 1, 1) := by decide +kernel
theorem d_pa_insertId_55 : decode pa_insertId.2.1 55 = .ok (.iadd, 1) := by decide +kernel
theorem d_pa_insertId_56 : decode pa_insertId.2.1 56 = .ok (.putfield 19, 3) := by decide +kernel
theorem d_pa_insertId_59 : decode pa_insertId.2.1 59 = .ok (.return_, 1) := by decide +kernel
theorem d_pa_removeId_0 : decode pa_removeId.2.1 0 = .ok (.aload_n 0, 1) := by decide +kernel
theorem d_pa_removeId_1 : decode pa_removeId.2.1 1 = .ok (.iload_n 1, 1) := by decide +kernel
theorem d_pa_removeId_2 : decode pa_removeId.2.1 2 = .ok (.i2l, 1) := by decide +kernel
theorem d_pa_removeId_3 : decode pa_removeId.2.1 3 = .ok (.invokevirtual 23, 3) := by decide +kernel
theorem d_pa_removeId_6 : decode pa_removeId.2.1 6 = .ok (.ifCond .eq 36, 3) := by decide +kernel
theorem d_pa_removeId_9 : decode pa_removeId.2.1 9 = .ok (.aload_n 0, 1) := by decide +kernel
theorem d_pa_removeId_10 : decode pa_removeId.2.1 10 = .ok (.getfield 11, 3) := by decide +kernel
theorem d_pa_removeId_13 : decode pa_removeId.2.1 13 = .ok (.iload_n 1, 1) := by decide +kernel
theorem d_pa_removeId_14 : decode pa_removeId.2.1 14 = .ok (.iconst 1, 1) := by decide +kernel
theorem d_pa_removeId_15 : decode pa_removeId.2.1 15 = .ok (.iadd, 1) := by decide +kernel
theorem d_pa_removeId_16 : decode pa_removeId.2.1 16 = .ok (.aload_n 0, 1) := by decide +kernel
theorem d_pa_removeId_17 : decode pa_removeId.2.1 17 = .ok (.getfield 11, 3) := by decide +kernel
theorem d_pa_removeId_20 : decode pa_removeId.2.1 20 = .ok (.iload_n 1, 1) := by decide +kernel
theorem d_pa_removeId_21 : decode pa_removeId.2.1 21 = .ok (.aload_n 0, 1) := by decide +kernel
theorem d_pa_removeId_22 : decode pa_removeId.2.1 22 = .ok (.getfield 19, 3) := by decide +kernel
theorem d_pa_removeId_25 : decode pa_removeId.2.1 25 = .ok (.iload_n 1, 1) := by decide +kernel
theorem d_pa_removeId_26 : decode pa_removeId.2.1 26 = .ok (.isub, 1) := by decide +kernel
theorem d_pa_removeId_27 : decode pa_removeId.2.1 27 = .ok (.iconst 1, 1) := by decide +kernel
theorem d_pa_removeId_28 : decode pa_removeId.2.1 28 = .ok (.isub, 1) := by decide +kernel
theorem d_pa_removeId_29 : decode pa_removeId.2.1 29 = .ok (.invokestatic 44, 3) := by decide +kernel
theorem d_pa_removeId_32 : decode pa_removeId.2.1 32 = .ok (.aload_n 0, 1) := by decide +kernel
theorem d_pa_removeId_33 : decode pa_removeId.2.1 33 = .ok (.dup, 1) := by decide +kernel
theorem d_pa_removeId_34 : decode pa_removeId.2.1 34 = .ok (.getfield 19, 3) := by decide +kernel
theorem d_pa_removeId_37 : decode pa_removeId.2.1 37 = .ok (.iconst 1, 1) := by decide +kernel
theorem d_pa_removeId_38 : decode pa_removeId.2.1 38 = .ok (.isub, 1) := by decide +kernel
theorem d_pa_removeId_39 : decode pa_removeId.2.1 39 = .ok (.putfield 19, 3) := by decide +kernel
theorem d_pa_removeId_42 : decode pa_removeId.2.1 42 = .ok (.return_, 1) := by decide +kernel
theorem d_pa_renewRow_0 : decode pa_renewRow.2.1 0 = .ok (.aload_n 0, 1) := by decide +kernel
theorem d_pa_renewRow_1 : decode pa_renewRow.2.1 1 = .ok (.getfield 15, 3) := by decide +kernel
theorem d_pa_renewRow_4 : decode pa_renewRow.2.1 4 = .ok (.aload_n 0, 1) := by decide +kernel
theorem d_pa_renewRow_5 : decode pa_renewRow.2.1 5 = .ok (.iload_n 1, 1) := by decide +kernel
theorem d_pa_renewRow_6 : decode pa_renewRow.2.1 6 = .ok (.i2l, 1) := by decide +kernel
theorem d_pa_renewRow_7 : decode pa_renewRow.2.1 7 = .ok (.invokevirtual 27, 3) := by decide +kernel
theorem d_pa_renewRow_10 : decode pa_renewRow.2.1 10 = .ok (.invokevirtual 50, 3) := by decide +kernel
theorem d_pa_renewRow_13 : decode pa_renewRow.2.1 13 = .ok (.istore_n 2, 1) := by decide +kernel
theorem d_pa_renewRow_14 : decode pa_renewRow.2.1 14 = .ok (.aload_n 0, 1) := by decide +kernel
theorem d_pa_renewRow_15 : decode pa_renewRow.2.1 15 = .ok (.iload_n 1, 1) := by decide +kernel
theorem d_pa_renewRow_16 : decode pa_renewRow.2.1 16 = .ok (.i2l, 1) := by decide +kernel
theorem d_pa_renewRow_17 : decode pa_renewRow.2.1 17 = .ok (.invokevirtual 23, 3) := by decide +kernel
theorem d_pa_renewRow_20 : decode pa_renewRow.2.1 20 = .ok (.ifCond .eq 15, 3) := by decide +kernel
theorem d_pa_renewRow_23 : decode pa_renewRow.2.1 23 = .ok (.iload_n 2, 1) := by decide +kernel
theorem d_pa_renewRow_24 : decode pa_renewRow.2.1 24 = .ok (.iconst (-1), 1) := by decide +kernel
theorem d_pa_renewRow_25 : decode pa_renewRow.2.1 25 = .ok (.if_icmp .eq 10, 3) := by decide +kernel
theorem d_pa_renewRow_28 : decode pa_renewRow.2.1 28 = .ok (.aload_n 0, 1) := by decide +kernel
theorem d_pa_renewRow_29 : decode pa_renewRow.2.1 29 = .ok (.getfield 11, 3) := by decide +kernel
theorem d_pa_renewRow_32 : decode pa_renewRow.2.1 32 = .ok (.iload_n 1, 1) := by decide +kernel
theorem d_pa_renewRow_33 : decode pa_renewRow.2.1 33 = .ok (.iload_n 2, 1) := by decide +kernel
theorem d_pa_renewRow_34 : decode pa_renewRow.2.1 34 = .ok (.iastore, 1) := by decide +kernel
theorem d_pa_renewRow_35 : decode pa_renewRow.2.1 35 = .ok (.iload_n 2, 1) := by decide +kernel
theorem d_pa_renewRow_36 : decode pa_renewRow.2.1 36 = .ok (.ireturn, 1) := by decide +kernel
theorem d_pa_takeRows_0 : decode pa_takeRows.2.1 0 = .ok (.iload_n 3, 1) := by decide +kernel
theorem d_pa_takeRows_1 : decode pa_takeRows.2.1 1 = .ok (.ifCond .lt 37, 3) := by decide +kernel
theorem d_pa_takeRows_4 : decode pa_takeRows.2.1 4 = .ok (.iload_n 3, 1) := by decide +kernel
theorem d_pa_takeRows_5 : decode pa_takeRows.2.1 5 = .ok (.bipush 60, 2) := by decide +kernel
theorem d_pa_takeRows_7 : decode pa_takeRows.2.1 7 = .ok (.if_icmp .gt 31, 3) := by decide +kernel
theorem d_pa_takeRows_10 : decode pa_takeRows.2.1 10 = .ok (.iload_n 2, 1) := by decide +kernel
theorem d_pa_takeRows_11 : decode pa_takeRows.2.1 11 = .ok (.ifCond .lt 27, 3) := by decide +kernel
theorem d_pa_takeRows_14 : decode pa_takeRows.2.1 14 = .ok (.iload_n 2, 1) := by decide +kernel
theorem d_pa_takeRows_15 : decode pa_takeRows.2.1 15 = .ok (.aload_n 1, 1) := by decide +kernel
theorem d_pa_takeRows_16 : decode pa_takeRows.2.1 16 = .ok (.arraylength, 1) := by decide +kernel
theorem d_pa_takeRows_17 : decode pa_takeRows.2.1 17 = .ok (.iload_n 3, 1) := by decide +kernel
theorem d_pa_takeRows_18 : decode pa_takeRows.2.1 18 = .ok (.isub, 1) := by decide +kernel
theorem d_pa_takeRows_19 : decode pa_takeRows.2.1 19 = .ok (.if_icmp .gt 19, 3) := by decide +kernel
theorem d_pa_takeRows_22 : decode pa_takeRows.2.1 22 = .ok (.aload_n 1, 1) := by decide +kernel
theorem d_pa_takeRows_23 : decode pa_takeRows.2.1 23 = .ok (.iload_n 2, 1) := by decide +kernel
theorem d_pa_takeRows_24 : decode pa_takeRows.2.1 24 = .ok (.aload_n 0, 1) := by decide +kernel
theorem d_pa_takeRows_25 : decode pa_takeRows.2.1 25 = .ok (.getfield 11, 3) := by decide +kernel
theorem d_pa_takeRows_28 : decode pa_takeRows.2.1 28 = .ok (.iconst 0, 1) := by decide +kernel
theorem d_pa_takeRows_29 : decode pa_takeRows.2.1 29 = .ok (.iload_n 3, 1) := by decide +kernel
theorem d_pa_takeRows_30 : decode pa_takeRows.2.1 30 = .ok (.invokestatic 44, 3) := by decide +kernel
theorem d_pa_takeRows_33 : decode pa_takeRows.2.1 33 = .ok (.aload_n 0, 1) := by decide +kernel
theorem d_pa_takeRows_34 : decode pa_takeRows.2.1 34 = .ok (.iload_n 3, 1) := by decide +kernel
theorem d_pa_takeRows_35 : decode pa_takeRows.2.1 35 = .ok (.putfield 19, 3) := by decide +kernel
theorem d_pa_takeRows_38 : decode pa_takeRows.2.1 38 = .ok (.return_, 1) := by decide +kernel
theorem d_pa_placesOf_0 : decode pa_placesOf.2.1 0 = .ok (.iconst 0, 1) := by decide +kernel
theorem d_pa_placesOf_1 : decode pa_placesOf.2.1 1 = .ok (.istore_n 2, 1) := by decide +kernel
theorem d_pa_placesOf_2 : decode pa_placesOf.2.1 2 = .ok (.iconst 0, 1) := by decide +kernel
theorem d_pa_placesOf_3 : decode pa_placesOf.2.1 3 = .ok (.istore_n 3, 1) := by decide +kernel
theorem d_pa_placesOf_4 : decode pa_placesOf.2.1 4 = .ok (.iload_n 3, 1) := by decide +kernel
theorem d_pa_placesOf_5 : decode pa_placesOf.2.1 5 = .ok (.aload_n 0, 1) := by decide +kernel
theorem d_pa_placesOf_6 : decode pa_placesOf.2.1 6 = .ok (.getfield 19, 3) := by decide +kernel
theorem d_pa_placesOf_9 : decode pa_placesOf.2.1 9 = .ok (.if_icmp .ge 27, 3) := by decide +kernel
theorem d_pa_placesOf_12 : decode pa_placesOf.2.1 12 = .ok (.iload_n 2, 1) := by decide +kernel
theorem d_pa_placesOf_13 : decode pa_placesOf.2.1 13 = .ok (.aload_n 0, 1) := by decide +kernel
theorem d_pa_placesOf_14 : decode pa_placesOf.2.1 14 = .ok (.getfield 11, 3) := by decide +kernel
theorem d_pa_placesOf_17 : decode pa_placesOf.2.1 17 = .ok (.iload_n 3, 1) := by decide +kernel
theorem d_pa_placesOf_18 : decode pa_placesOf.2.1 18 = .ok (.iaload, 1) := by decide +kernel
theorem d_pa_placesOf_19 : decode pa_placesOf.2.1 19 = .ok (.iload_n 1, 1) := by decide +kernel
theorem d_pa_placesOf_20 : decode pa_placesOf.2.1 20 = .ok (.if_icmp .ne 7, 3) := by decide +kernel
theorem d_pa_placesOf_23 : decode pa_placesOf.2.1 23 = .ok (.iconst 1, 1) := by decide +kernel
theorem d_pa_placesOf_24 : decode pa_placesOf.2.1 24 = .ok (.goto 4, 3) := by decide +kernel
theorem d_pa_placesOf_27 : decode pa_placesOf.2.1 27 = .ok (.iconst 0, 1) := by decide +kernel
theorem d_pa_placesOf_28 : decode pa_placesOf.2.1 28 = .ok (.iadd, 1) := by decide +kernel
theorem d_pa_placesOf_29 : decode pa_placesOf.2.1 29 = .ok (.istore_n 2, 1) := by decide +kernel
theorem d_pa_placesOf_30 : decode pa_placesOf.2.1 30 = .ok (.iinc 3 1, 3) := by decide +kernel
theorem d_pa_placesOf_33 : decode pa_placesOf.2.1 33 = .ok (.goto (-29), 3) := by decide +kernel
theorem d_pa_placesOf_36 : decode pa_placesOf.2.1 36 = .ok (.iload_n 2, 1) := by decide +kernel
theorem d_pa_placesOf_37 : decode pa_placesOf.2.1 37 = .ok (.ireturn, 1) := by decide +kernel
theorem d_pa_isFull_0 : decode pa_isFull.2.1 0 = .ok (.iconst 0, 1) := by decide +kernel
theorem d_pa_isFull_1 : decode pa_isFull.2.1 1 = .ok (.istore_n 1, 1) := by decide +kernel
theorem d_pa_isFull_2 : decode pa_isFull.2.1 2 = .ok (.iload_n 1, 1) := by decide +kernel
theorem d_pa_isFull_3 : decode pa_isFull.2.1 3 = .ok (.aload_n 0, 1) := by decide +kernel
theorem d_pa_isFull_4 : decode pa_isFull.2.1 4 = .ok (.getfield 19, 3) := by decide +kernel
theorem d_pa_isFull_7 : decode pa_isFull.2.1 7 = .ok (.if_icmp .ge 40, 3) := by decide +kernel
theorem d_pa_isFull_10 : decode pa_isFull.2.1 10 = .ok (.aload_n 0, 1) := by decide +kernel
theorem d_pa_isFull_11 : decode pa_isFull.2.1 11 = .ok (.iload_n 1, 1) := by decide +kernel
theorem d_pa_isFull_12 : decode pa_isFull.2.1 12 = .ok (.invokevirtual 53, 3) := by decide +kernel
theorem d_pa_isFull_15 : decode pa_isFull.2.1 15 = .ok (.ifCond .ne 24, 3) := by decide +kernel
theorem d_pa_isFull_18 : decode pa_isFull.2.1 18 = .ok (.aload_n 0, 1) := by decide +kernel
theorem d_pa_isFull_19 : decode pa_isFull.2.1 19 = .ok (.iload_n 1, 1) := by decide +kernel
theorem d_pa_isFull_20 : decode pa_isFull.2.1 20 = .ok (.invokevirtual 56, 3) := by decide +kernel
theorem d_pa_isFull_23 : decode pa_isFull.2.1 23 = .ok (.ifCond .eq 16, 3) := by decide +kernel
theorem d_pa_isFull_26 : decode pa_isFull.2.1 26 = .ok (.aload_n 0, 1) := by decide +kernel
theorem d_pa_isFull_27 : decode pa_isFull.2.1 27 = .ok (.iload_n 1, 1) := by decide +kernel
theorem d_pa_isFull_28 : decode pa_isFull.2.1 28 = .ok (.invokevirtual 56, 3) := by decide +kernel
theorem d_pa_isFull_31 : decode pa_isFull.2.1 31 = .ok (.aload_n 0, 1) := by decide +kernel
theorem d_pa_isFull_32 : decode pa_isFull.2.1 32 = .ok (.iconst 0, 1) := by decide +kernel
theorem d_pa_isFull_33 : decode pa_isFull.2.1 33 = .ok (.invokevirtual 56, 3) := by decide +kernel
theorem d_pa_isFull_36 : decode pa_isFull.2.1 36 = .ok (.if_icmp .eq 5, 3) := by decide +kernel
theorem d_pa_isFull_39 : decode pa_isFull.2.1 39 = .ok (.iconst 0, 1) := by decide +kernel
theorem d_pa_isFull_40 : decode pa_isFull.2.1 40 = .ok (.ireturn, 1) := by decide +kernel
theorem d_pa_isFull_41 : decode pa_isFull.2.1 41 = .ok (.iinc 1 1, 3) := by decide +kernel
theorem d_pa_isFull_44 : decode pa_isFull.2.1 44 = .ok (.goto (-42), 3) := by decide +kernel
theorem d_pa_isFull_47 : decode pa_isFull.2.1 47 = .ok (.aload_n 0, 1) := by decide +kernel
theorem d_pa_isFull_48 : decode pa_isFull.2.1 48 = .ok (.getfield 19, 3) := by decide +kernel
theorem d_pa_isFull_51 : decode pa_isFull.2.1 51 = .ok (.ifCond .le 7, 3) := by decide +kernel
theorem d_pa_isFull_54 : decode pa_isFull.2.1 54 = .ok (.iconst 1, 1) := by decide +kernel
theorem d_pa_isFull_55 : decode pa_isFull.2.1 55 = .ok (.goto 4, 3) := by decide +kernel
theorem d_pa_isFull_58 : decode pa_isFull.2.1 58 = .ok (.iconst 0, 1) := by decide +kernel
theorem d_pa_isFull_59 : decode pa_isFull.2.1 59 = .ok (.ireturn, 1) := by decide +kernel
theorem d_pa_mayGrow_0 : decode pa_mayGrow.2.1 0 = .ok (.iconst 0, 1) := by decide +kernel
theorem d_pa_mayGrow_1 : decode pa_mayGrow.2.1 1 = .ok (.istore_n 3, 1) := by decide +kernel
theorem d_pa_mayGrow_2 : decode pa_mayGrow.2.1 2 = .ok (.iload_n 3, 1) := by decide +kernel
theorem d_pa_mayGrow_3 : decode pa_mayGrow.2.1 3 = .ok (.aload_n 0, 1) := by decide +kernel
theorem d_pa_mayGrow_4 : decode pa_mayGrow.2.1 4 = .ok (.getfield 19, 3) := by decide +kernel
theorem d_pa_mayGrow_7 : decode pa_mayGrow.2.1 7 = .ok (.if_icmp .ge 31, 3) := by decide +kernel
theorem d_pa_mayGrow_10 : decode pa_mayGrow.2.1 10 = .ok (.aload_n 0, 1) := by decide +kernel
theorem d_pa_mayGrow_11 : decode pa_mayGrow.2.1 11 = .ok (.iload_n 3, 1) := by decide +kernel
theorem d_pa_mayGrow_12 : decode pa_mayGrow.2.1 12 = .ok (.invokevirtual 56, 3) := by decide +kernel
theorem d_pa_mayGrow_15 : decode pa_mayGrow.2.1 15 = .ok (.iload_n 2, 1) := by decide +kernel
theorem d_pa_mayGrow_16 : decode pa_mayGrow.2.1 16 = .ok (.imul, 1) := by decide +kernel
theorem d_pa_mayGrow_17 : decode pa_mayGrow.2.1 17 = .ok (.aload_n 0, 1) := by decide +kernel
theorem d_pa_mayGrow_18 : decode pa_mayGrow.2.1 18 = .ok (.iload_n 3, 1) := by decide +kernel
theorem d_pa_mayGrow_19 : decode pa_mayGrow.2.1 19 = .ok (.invokevirtual 53, 3) := by decide +kernel
theorem d_pa_mayGrow_22 : decode pa_mayGrow.2.1 22 = .ok (.iload_n 2, 1) := by decide +kernel
theorem d_pa_mayGrow_23 : decode pa_mayGrow.2.1 23 = .ok (.imul, 1) := by decide +kernel
theorem d_pa_mayGrow_24 : decode pa_mayGrow.2.1 24 = .ok (.invokestatic 59, 3) := by decide +kernel
theorem d_pa_mayGrow_27 : decode pa_mayGrow.2.1 27 = .ok (.ifCond .ne 5, 3) := by decide +kernel
theorem d_pa_mayGrow_30 : decode pa_mayGrow.2.1 30 = .ok (.iconst 0, 1) := by decide +kernel
theorem d_pa_mayGrow_31 : decode pa_mayGrow.2.1 31 = .ok (.ireturn, 1) := by decide +kernel
theorem d_pa_mayGrow_32 : decode pa_mayGrow.2.1 32 = .ok (.iinc 3 1, 3) := by decide +kernel
theorem d_pa_mayGrow_35 : decode pa_mayGrow.2.1 35 = .ok (.goto (-33), 3) := by decide +kernel
theorem d_pa_mayGrow_38 : decode pa_mayGrow.2.1 38 = .ok (.aload_n 0, 1) := by decide +kernel
theorem d_pa_mayGrow_39 : decode pa_mayGrow.2.1 39 = .ok (.getfield 19, 3) := by decide +kernel
theorem d_pa_mayGrow_42 : decode pa_mayGrow.2.1 42 = .ok (.iload_n 1, 1) := by decide +kernel
theorem d_pa_mayGrow_43 : decode pa_mayGrow.2.1 43 = .ok (.imul, 1) := by decide +kernel
theorem d_pa_mayGrow_44 : decode pa_mayGrow.2.1 44 = .ok (.bipush 60, 2) := by decide +kernel
theorem d_pa_mayGrow_46 : decode pa_mayGrow.2.1 46 = .ok (.if_icmp .gt 7, 3) := by decide +kernel
theorem d_pa_mayGrow_49 : decode pa_mayGrow.2.1 49 = .ok (.iconst 1, 1) := by decide +kernel
theorem d_pa_mayGrow_50 : decode pa_mayGrow.2.1 50 = .ok (.goto 4, 3) := by decide +kernel
theorem d_pa_mayGrow_53 : decode pa_mayGrow.2.1 53 = .ok (.iconst 0, 1) := by decide +kernel
theorem d_pa_mayGrow_54 : decode pa_mayGrow.2.1 54 = .ok (.ireturn, 1) := by decide +kernel
theorem d_pa_isBlock_0 : decode pa_isBlock.2.1 0 = .ok (.aload_n 1, 1) := by decide +kernel
theorem d_pa_isBlock_1 : decode pa_isBlock.2.1 1 = .ok (.getfield 63, 3) := by decide +kernel
theorem d_pa_isBlock_4 : decode pa_isBlock.2.1 4 = .ok (.aload_n 0, 1) := by decide +kernel
theorem d_pa_isBlock_5 : decode pa_isBlock.2.1 5 = .ok (.getfield 19, 3) := by decide +kernel
theorem d_pa_isBlock_8 : decode pa_isBlock.2.1 8 = .ok (.if_icmp .ne 29, 3) := by decide +kernel
theorem d_pa_isBlock_11 : decode pa_isBlock.2.1 11 = .ok (.aload_n 1, 1) := by decide +kernel
theorem d_pa_isBlock_12 : decode pa_isBlock.2.1 12 = .ok (.getfield 68, 3) := by decide +kernel
theorem d_pa_isBlock_15 : decode pa_isBlock.2.1 15 = .ok (.aload_n 0, 1) := by decide +kernel
theorem d_pa_isBlock_16 : decode pa_isBlock.2.1 16 = .ok (.iconst 0, 1) := by decide +kernel
theorem d_pa_isBlock_17 : decode pa_isBlock.2.1 17 = .ok (.invokevirtual 56, 3) := by decide +kernel
theorem d_pa_isBlock_20 : decode pa_isBlock.2.1 20 = .ok (.if_icmp .ne 17, 3) := by decide +kernel
theorem d_pa_isBlock_23 : decode pa_isBlock.2.1 23 = .ok (.aload_n 0, 1) := by decide +kernel
theorem d_pa_isBlock_24 : decode pa_isBlock.2.1 24 = .ok (.aload_n 1, 1) := by decide +kernel
theorem d_pa_isBlock_25 : decode pa_isBlock.2.1 25 = .ok (.iconst 0, 1) := by decide +kernel
theorem d_pa_isBlock_26 : decode pa_isBlock.2.1 26 = .ok (.iconst 0, 1) := by decide +kernel
theorem d_pa_isBlock_27 : decode pa_isBlock.2.1 27 = .ok (.invokevirtual 71, 3) := by decide +kernel
theorem d_pa_isBlock_30 : decode pa_isBlock.2.1 30 = .ok (.ifCond .eq 7, 3) := by decide +kernel
theorem d_pa_isBlock_33 : decode pa_isBlock.2.1 33 = .ok (.iconst 1, 1) := by decide +kernel
theorem d_pa_isBlock_34 : decode pa_isBlock.2.1 34 = .ok (.goto 4, 3) := by decide +kernel
theorem d_pa_isBlock_37 : decode pa_isBlock.2.1 37 = .ok (.iconst 0, 1) := by decide +kernel
theorem d_pa_isBlock_38 : decode pa_isBlock.2.1 38 = .ok (.ireturn, 1) := by decide +kernel
theorem d_pa_bears_0 : decode pa_bears.2.1 0 = .ok (.iconst 0, 1) := by decide +kernel
theorem d_pa_bears_1 : decode pa_bears.2.1 1 = .ok (.istore 4, 2) := by decide +kernel
theorem d_pa_bears_3 : decode pa_bears.2.1 3 = .ok (.iload 4, 2) := by decide +kernel
theorem d_pa_bears_5 : decode pa_bears.2.1 5 = .ok (.aload_n 1, 1) := by decide +kernel
theorem d_pa_bears_6 : decode pa_bears.2.1 6 = .ok (.getfield 63, 3) := by decide +kernel
theorem d_pa_bears_9 : decode pa_bears.2.1 9 = .ok (.if_icmp .ge 34, 3) := by decide +kernel
theorem d_pa_bears_12 : decode pa_bears.2.1 12 = .ok (.aload_n 0, 1) := by decide +kernel
theorem d_pa_bears_13 : decode pa_bears.2.1 13 = .ok (.getfield 15, 3) := by decide +kernel
theorem d_pa_bears_16 : decode pa_bears.2.1 16 = .ok (.aload_n 0, 1) := by decide +kernel
theorem d_pa_bears_17 : decode pa_bears.2.1 17 = .ok (.iload_n 2, 1) := by decide +kernel
theorem d_pa_bears_18 : decode pa_bears.2.1 18 = .ok (.iload 4, 2) := by decide +kernel
theorem d_pa_bears_20 : decode pa_bears.2.1 20 = .ok (.iadd, 1) := by decide +kernel
theorem d_pa_bears_21 : decode pa_bears.2.1 21 = .ok (.i2l, 1) := by decide +kernel
theorem d_pa_bears_22 : decode pa_bears.2.1 22 = .ok (.invokevirtual 27, 3) := by decide +kernel
theorem d_pa_bears_25 : decode pa_bears.2.1 25 = .ok (.iload_n 3, 1) := by decide +kernel
theorem d_pa_bears_26 : decode pa_bears.2.1 26 = .ok (.aload_n 1, 1) := by decide +kernel
theorem d_pa_bears_27 : decode pa_bears.2.1 27 = .ok (.iload 4, 2) := by decide +kernel
theorem d_pa_bears_29 : decode pa_bears.2.1 29 = .ok (.invokevirtual 75, 3) := by decide +kernel
theorem d_pa_bears_32 : decode pa_bears.2.1 32 = .ok (.ifCond .ne 5, 3) := by decide +kernel
theorem d_pa_bears_35 : decode pa_bears.2.1 35 = .ok (.iconst 0, 1) := by decide +kernel
theorem d_pa_bears_36 : decode pa_bears.2.1 36 = .ok (.ireturn, 1) := by decide +kernel
theorem d_pa_bears_37 : decode pa_bears.2.1 37 = .ok (.iinc 4 1, 3) := by decide +kernel
theorem d_pa_bears_40 : decode pa_bears.2.1 40 = .ok (.goto (-37), 3) := by decide +kernel
theorem d_pa_bears_43 : decode pa_bears.2.1 43 = .ok (.iconst 1, 1) := by decide +kernel
theorem d_pa_bears_44 : decode pa_bears.2.1 44 = .ok (.ireturn, 1) := by decide +kernel
theorem d_rs_init_0 : decode rs_init.2.1 0 = .ok (.aload_n 0, 1) := by decide +kernel
theorem d_rs_init_1 : decode rs_init.2.1 1 = .ok (.invokespecial 3, 3) := by decide +kernel
theorem d_rs_init_4 : decode rs_init.2.1 4 = .ok (.aload_n 0, 1) := by decide +kernel
theorem d_rs_init_5 : decode rs_init.2.1 5 = .ok (.sipush 6000, 3) := by decide +kernel
theorem d_rs_init_8 : decode rs_init.2.1 8 = .ok (.newarray .int, 2) := by decide +kernel
theorem d_rs_init_10 : decode rs_init.2.1 10 = .ok (.putfield 11, 3) := by decide +kernel
theorem d_rs_init_13 : decode rs_init.2.1 13 = .ok (.aload_n 0, 1) := by decide +kernel
theorem d_rs_init_14 : decode rs_init.2.1 14 = .ok (.sipush 6000, 3) := by decide +kernel
theorem d_rs_init_17 : decode rs_init.2.1 17 = .ok (.anewarray 15, 3) := by decide +kernel
theorem d_rs_init_20 : decode rs_init.2.1 20 = .ok (.putfield 16, 3) := by decide +kernel
theorem d_rs_init_23 : decode rs_init.2.1 23 = .ok (.return_, 1) := by decide +kernel
theorem d_rs_mayBe_0 : decode rs_mayBe.2.1 0 = .ok (.iload_n 0, 1) := by decide +kernel
theorem d_rs_mayBe_1 : decode rs_mayBe.2.1 1 = .ok (.ifCond .lt 25, 3) := by decide +kernel
theorem d_rs_mayBe_4 : decode rs_mayBe.2.1 4 = .ok (.iload_n 0, 1) := by decide +kernel
theorem d_rs_mayBe_5 : decode rs_mayBe.2.1 5 = .ok (.bipush 60, 2) := by decide +kernel
theorem d_rs_mayBe_7 : decode rs_mayBe.2.1 7 = .ok (.if_icmp .gt 19, 3) := by decide +kernel
theorem d_rs_mayBe_10 : decode rs_mayBe.2.1 10 = .ok (.iload_n 1, 1) := by decide +kernel
theorem d_rs_mayBe_11 : decode rs_mayBe.2.1 11 = .ok (.bipush (-30), 2) := by decide +kernel
theorem d_rs_mayBe_13 : decode rs_mayBe.2.1 13 = .ok (.if_icmp .lt 13, 3) := by decide +kernel
theorem d_rs_mayBe_16 : decode rs_mayBe.2.1 16 = .ok (.iload_n 1, 1) := by decide +kernel
theorem d_rs_mayBe_17 : decode rs_mayBe.2.1 17 = .ok (.bipush 30, 2) := by decide +kernel
theorem d_rs_mayBe_19 : decode rs_mayBe.2.1 19 = .ok (.if_icmp .gt 7, 3) := by decide +kernel
theorem d_rs_mayBe_22 : decode rs_mayBe.2.1 22 = .ok (.iconst 1, 1) := by decide +kernel
theorem d_rs_mayBe_23 : decode rs_mayBe.2.1 23 = .ok (.goto 4, 3) := by decide +kernel
theorem d_rs_mayBe_26 : decode rs_mayBe.2.1 26 = .ok (.iconst 0, 1) := by decide +kernel
theorem d_rs_mayBe_27 : decode rs_mayBe.2.1 27 = .ok (.ireturn, 1) := by decide +kernel
theorem d_rs_left_0 : decode rs_left.2.1 0 = .ok (.sipush 6000, 3) := by decide +kernel
theorem d_rs_left_3 : decode rs_left.2.1 3 = .ok (.aload_n 0, 1) := by decide +kernel
theorem d_rs_left_4 : decode rs_left.2.1 4 = .ok (.getfield 20, 3) := by decide +kernel
theorem d_rs_left_7 : decode rs_left.2.1 7 = .ok (.isub, 1) := by decide +kernel
theorem d_rs_left_8 : decode rs_left.2.1 8 = .ok (.ireturn, 1) := by decide +kernel
theorem d_rs_make_0 : decode rs_make.2.1 0 = .ok (.aload_n 0, 1) := by decide +kernel
theorem d_rs_make_1 : decode rs_make.2.1 1 = .ok (.getfield 20, 3) := by decide +kernel
theorem d_rs_make_4 : decode rs_make.2.1 4 = .ok (.sipush 6000, 3) := by decide +kernel
theorem d_rs_make_7 : decode rs_make.2.1 7 = .ok (.if_icmp .ge 11, 3) := by decide +kernel
theorem d_rs_make_10 : decode rs_make.2.1 10 = .ok (.iload_n 1, 1) := by decide +kernel
theorem d_rs_make_11 : decode rs_make.2.1 11 = .ok (.iload_n 2, 1) := by decide +kernel
theorem d_rs_make_12 : decode rs_make.2.1 12 = .ok (.invokestatic 24, 3) := by decide +kernel
theorem d_rs_make_15 : decode rs_make.2.1 15 = .ok (.ifCond .ne 5, 3) := by decide +kernel
theorem d_rs_make_18 : decode rs_make.2.1 18 = .ok (.iconst (-1), 1) := by decide +kernel
theorem d_rs_make_19 : decode rs_make.2.1 19 = .ok (.ireturn, 1) := by decide +kernel
theorem d_rs_make_20 : decode rs_make.2.1 20 = .ok (.iload_n 1, 1) := by decide +kernel
theorem d_rs_make_21 : decode rs_make.2.1 21 = .ok (.newarray .int, 2) := by decide +kernel
theorem d_rs_make_23 : decode rs_make.2.1 23 = .ok (.astore_n 3, 1) := by decide +kernel
theorem d_rs_make_24 : decode rs_make.2.1 24 = .ok (.aload_n 3, 1) := by decide +kernel
theorem d_rs_make_25 : decode rs_make.2.1 25 = .ok (.iconst (-1), 1) := by decide +kernel
theorem d_rs_make_26 : decode rs_make.2.1 26 = .ok (.invokestatic 30, 3) := by decide +kernel
theorem d_rs_make_29 : decode rs_make.2.1 29 = .ok (.aload_n 0, 1) := by decide +kernel
theorem d_rs_make_30 : decode rs_make.2.1 30 = .ok (.aload_n 3, 1) := by decide +kernel
theorem d_rs_make_31 : decode rs_make.2.1 31 = .ok (.iload_n 2, 1) := by decide +kernel
theorem d_rs_make_32 : decode rs_make.2.1 32 = .ok (.invokevirtual 36, 3) := by decide +kernel
theorem d_rs_make_35 : decode rs_make.2.1 35 = .ok (.ireturn, 1) := by decide +kernel
theorem d_rs_makeLike_0 : decode rs_makeLike.2.1 0 = .ok (.aload_n 0, 1) := by decide +kernel
theorem d_rs_makeLike_1 : decode rs_makeLike.2.1 1 = .ok (.iload_n 1, 1) := by decide +kernel
theorem d_rs_makeLike_2 : decode rs_makeLike.2.1 2 = .ok (.invokevirtual 40, 3) := by decide +kernel
theorem d_rs_makeLike_5 : decode rs_makeLike.2.1 5 = .ok (.astore_n 2, 1) := by decide +kernel
theorem d_rs_makeLike_6 : decode rs_makeLike.2.1 6 = .ok (.aload_n 2, 1) := by decide +kernel
theorem d_rs_makeLike_7 : decode rs_makeLike.2.1 7 = .ok (.ifnull 13, 3) := by decide +kernel
theorem d_rs_makeLike_10 : decode rs_makeLike.2.1 10 = .ok (.aload_n 0, 1) := by decide +kernel
theorem d_rs_makeLike_11 : decode rs_makeLike.2.1 11 = .ok (.getfield 20, 3) := by decide +kernel
theorem d_rs_makeLike_14 : decode rs_makeLike.2.1 14 = .ok (.sipush 6000, 3) := by decide +kernel
theorem d_rs_makeLike_17 : decode rs_makeLike.2.1 17 = .ok (.if_icmp .lt 7, 3) := by decide +kernel
theorem d_rs_makeLike_20 : decode rs_makeLike.2.1 20 = .ok (.iconst (-1), 1) := by decide +kernel
theorem d_rs_makeLike_21 : decode rs_makeLike.2.1 21 = .ok (.goto 19, 3) := by decide +kernel
theorem d_rs_makeLike_24 : decode rs_makeLike.2.1 24 = .ok (.aload_n 0, 1) := by decide +kernel
theorem d_rs_makeLike_25 : decode rs_makeLike.2.1 25 = .ok (.aload_n 2, 1) := by decide +kernel
theorem d_rs_makeLike_26 : decode rs_makeLike.2.1 26 = .ok (.invokevirtual 44, 3) := by decide +kernel
theorem d_rs_makeLike_29 : decode rs_makeLike.2.1 29 = .ok (.checkcast 15, 3) := by decide +kernel
theorem d_rs_makeLike_32 : decode rs_makeLike.2.1 32 = .ok (.aload_n 0, 1) := by decide +kernel
theorem d_rs_makeLike_33 : decode rs_makeLike.2.1 33 = .ok (.iload_n 1, 1) := by decide +kernel
theorem d_rs_makeLike_34 : decode rs_makeLike.2.1 34 = .ok (.invokevirtual 48, 3) := by decide +kernel
theorem d_rs_makeLike_37 : decode rs_makeLike.2.1 37 = .ok (.invokevirtual 36, 3) := by decide +kernel
theorem d_rs_makeLike_40 : decode rs_makeLike.2.1 40 = .ok (.ireturn, 1) := by decide +kernel
theorem d_rs_enter_0 : decode rs_enter.2.1 0 = .ok (.aload_n 0, 1) := by decide +kernel
theorem d_rs_enter_1 : decode rs_enter.2.1 1 = .ok (.getfield 16, 3) := by decide +kernel
theorem d_rs_enter_4 : decode rs_enter.2.1 4 = .ok (.aload_n 0, 1) := by decide +kernel
theorem d_rs_enter_5 : decode rs_enter.2.1 5 = .ok (.getfield 20, 3) := by decide +kernel
theorem d_rs_enter_8 : decode rs_enter.2.1 8 = .ok (.aload_n 1, 1) := by decide +kernel
theorem d_rs_enter_9 : decode rs_enter.2.1 9 = .ok (.aastore, 1) := by decide +kernel
theorem d_rs_enter_10 : decode rs_enter.2.1 10 = .ok (.aload_n 0, 1) := by decide +kernel
theorem d_rs_enter_11 : decode rs_enter.2.1 11 = .ok (.getfield 11, 3) := by decide +kernel
theorem d_rs_enter_14 : decode rs_enter.2.1 14 = .ok (.aload_n 0, 1) := by decide +kernel
theorem d_rs_enter_15 : decode rs_enter.2.1 15 = .ok (.getfield 20, 3) := by decide +kernel
theorem d_rs_enter_18 : decode rs_enter.2.1 18 = .ok (.iload_n 2, 1) := by decide +kernel
theorem d_rs_enter_19 : decode rs_enter.2.1 19 = .ok (.iastore, 1) := by decide +kernel
theorem d_rs_enter_20 : decode rs_enter.2.1 20 = .ok (.aload_n 0, 1) := by decide +kernel
theorem d_rs_enter_21 : decode rs_enter.2.1 21 = .ok (.dup, 1) := by decide +kernel
theorem d_rs_enter_22 : decode rs_enter.2.1 22 = .ok (.getfield 20, 3) := by decide +kernel
theorem d_rs_enter_25 : decode rs_enter.2.1 25 = .ok (.iconst 1, 1) := by decide +kernel
theorem d_rs_enter_26 : decode rs_enter.2.1 26 = .ok (.iadd, 1) := by decide +kernel
theorem d_rs_enter_27 : decode rs_enter.2.1 27 = .ok (.putfield 20, 3) := by decide +kernel
theorem d_rs_enter_30 : decode rs_enter.2.1 30 = .ok (.aload_n 0, 1) := by decide +kernel
theorem d_rs_enter_31 : decode rs_enter.2.1 31 = .ok (.getfield 20, 3) := by decide +kernel
theorem d_rs_enter_34 : decode rs_enter.2.1 34 = .ok (.iconst 1, 1) := by decide +kernel
theorem d_rs_enter_35 : decode rs_enter.2.1 35 = .ok (.isub, 1) := by decide +kernel
theorem d_rs_enter_36 : decode rs_enter.2.1 36 = .ok (.ireturn, 1) := by decide +kernel
theorem d_rs_cellsOf_0 : decode rs_cellsOf.2.1 0 = .ok (.iload_n 1, 1) := by decide +kernel
theorem d_rs_cellsOf_1 : decode rs_cellsOf.2.1 1 = .ok (.ifCond .lt 20, 3) := by decide +kernel
theorem d_rs_cellsOf_4 : decode rs_cellsOf.2.1 4 = .ok (.iload_n 1, 1) := by decide +kernel
theorem d_rs_cellsOf_5 : decode rs_cellsOf.2.1 5 = .ok (.aload_n 0, 1) := by decide +kernel
theorem d_rs_cellsOf_6 : decode rs_cellsOf.2.1 6 = .ok (.getfield 20, 3) := by decide +kernel
theorem d_rs_cellsOf_9 : decode rs_cellsOf.2.1 9 = .ok (.if_icmp .ge 12, 3) := by decide +kernel
theorem d_rs_cellsOf_12 : decode rs_cellsOf.2.1 12 = .ok (.aload_n 0, 1) := by decide +kernel
theorem d_rs_cellsOf_13 : decode rs_cellsOf.2.1 13 = .ok (.getfield 16, 3) := by decide +kernel
theorem d_rs_cellsOf_16 : decode rs_cellsOf.2.1 16 = .ok (.iload_n 1, 1) := by decide +kernel
theorem d_rs_cellsOf_17 : decode rs_cellsOf.2.1 17 = .ok (.aaload, 1) := by decide +kernel
theorem d_rs_cellsOf_18 : decode rs_cellsOf.2.1 18 = .ok (.goto 4, 3) := by decide +kernel
theorem d_rs_cellsOf_21 : decode rs_cellsOf.2.1 21 = .ok (.aconst_null, 1) := by decide +kernel
theorem d_rs_cellsOf_22 : decode rs_cellsOf.2.1 22 = .ok (.areturn, 1) := by decide +kernel
theorem d_rs_offsetOf_0 : decode rs_offsetOf.2.1 0 = .ok (.iload_n 1, 1) := by decide +kernel
theorem d_rs_offsetOf_1 : decode rs_offsetOf.2.1 1 = .ok (.ifCond .lt 20, 3) := by decide +kernel
theorem d_rs_offsetOf_4 : decode rs_offsetOf.2.1 4 = .ok (.iload_n 1, 1) := by decide +kernel
theorem d_rs_offsetOf_5 : decode rs_offsetOf.2.1 5 = .ok (.aload_n 0, 1) := by decide +kernel
theorem d_rs_offsetOf_6 : decode rs_offsetOf.2.1 6 = .ok (.getfield 20, 3) := by decide +kernel
theorem d_rs_offsetOf_9 : decode rs_offsetOf.2.1 9 = .ok (.if_icmp .ge 12, 3) := by decide +kernel
theorem d_rs_offsetOf_12 : decode rs_offsetOf.2.1 12 = .ok (.aload_n 0, 1) := by decide +kernel
theorem d_rs_offsetOf_13 : decode rs_offsetOf.2.1 13 = .ok (.getfield 11, 3) := by decide +kernel
theorem d_rs_offsetOf_16 : decode rs_offsetOf.2.1 16 = .ok (.iload_n 1, 1) := by decide +kernel
theorem d_rs_offsetOf_17 : decode rs_offsetOf.2.1 17 = .ok (.iaload, 1) := by decide +kernel
theorem d_rs_offsetOf_18 : decode rs_offsetOf.2.1 18 = .ok (.goto 4, 3) := by decide +kernel
theorem d_rs_offsetOf_21 : decode rs_offsetOf.2.1 21 = .ok (.iconst 0, 1) := by decide +kernel
theorem d_rs_offsetOf_22 : decode rs_offsetOf.2.1 22 = .ok (.ireturn, 1) := by decide +kernel
theorem d_rs_lengthOf_0 : decode rs_lengthOf.2.1 0 = .ok (.aload_n 0, 1) := by decide +kernel
theorem d_rs_lengthOf_1 : decode rs_lengthOf.2.1 1 = .ok (.iload_n 1, 1) := by decide +kernel
theorem d_rs_lengthOf_2 : decode rs_lengthOf.2.1 2 = .ok (.invokevirtual 40, 3) := by decide +kernel
theorem d_rs_lengthOf_5 : decode rs_lengthOf.2.1 5 = .ok (.astore_n 2, 1) := by decide +kernel
theorem d_rs_lengthOf_6 : decode rs_lengthOf.2.1 6 = .ok (.aload_n 2, 1) := by decide +kernel
theorem d_rs_lengthOf_7 : decode rs_lengthOf.2.1 7 = .ok (.ifnonnull 7, 3) := by decide +kernel
theorem d_rs_lengthOf_10 : decode rs_lengthOf.2.1 10 = .ok (.iconst 0, 1) := by decide +kernel
theorem d_rs_lengthOf_11 : decode rs_lengthOf.2.1 11 = .ok (.goto 5, 3) := by decide +kernel
theorem d_rs_lengthOf_14 : decode rs_lengthOf.2.1 14 = .ok (.aload_n 2, 1) := by decide +kernel
theorem d_rs_lengthOf_15 : decode rs_lengthOf.2.1 15 = .ok (.arraylength, 1) := by decide +kernel
theorem d_rs_lengthOf_16 : decode rs_lengthOf.2.1 16 = .ok (.ireturn, 1) := by decide +kernel
theorem d_rs_cellAt_0 : decode rs_cellAt.2.1 0 = .ok (.aload_n 0, 1) := by decide +kernel
theorem d_rs_cellAt_1 : decode rs_cellAt.2.1 1 = .ok (.iload_n 1, 1) := by decide +kernel
theorem d_rs_cellAt_2 : decode rs_cellAt.2.1 2 = .ok (.invokevirtual 40, 3) := by decide +kernel
theorem d_rs_cellAt_5 : decode rs_cellAt.2.1 5 = .ok (.astore 4, 2) := by decide +kernel
theorem d_rs_cellAt_7 : decode rs_cellAt.2.1 7 = .ok (.lload_n 2, 1) := by decide +kernel
theorem d_rs_cellAt_8 : decode rs_cellAt.2.1 8 = .ok (.aload_n 0, 1) := by decide +kernel
theorem d_rs_cellAt_9 : decode rs_cellAt.2.1 9 = .ok (.iload_n 1, 1) := by decide +kernel
theorem d_rs_cellAt_10 : decode rs_cellAt.2.1 10 = .ok (.invokevirtual 48, 3) := by decide +kernel
theorem d_rs_cellAt_13 : decode rs_cellAt.2.1 13 = .ok (.i2l, 1) := by decide +kernel
theorem d_rs_cellAt_14 : decode rs_cellAt.2.1 14 = .ok (.lsub, 1) := by decide +kernel
theorem d_rs_cellAt_15 : decode rs_cellAt.2.1 15 = .ok (.lstore 5, 2) := by decide +kernel
theorem d_rs_cellAt_17 : decode rs_cellAt.2.1 17 = .ok (.aload 4, 2) := by decide +kernel
theorem d_rs_cellAt_19 : decode rs_cellAt.2.1 19 = .ok (.ifnull 20, 3) := by decide +kernel
theorem d_rs_cellAt_22 : decode rs_cellAt.2.1 22 = .ok (.lload 5, 2) := by decide +kernel
theorem d_rs_cellAt_24 : decode rs_cellAt.2.1 24 = .ok (.lconst 0, 1) := by decide +kernel
theorem d_rs_cellAt_25 : decode rs_cellAt.2.1 25 = .ok (.lcmp, 1) := by decide +kernel
theorem d_rs_cellAt_26 : decode rs_cellAt.2.1 26 = .ok (.ifCond .lt 13, 3) := by decide +kernel
theorem d_rs_cellAt_29 : decode rs_cellAt.2.1 29 = .ok (.lload 5, 2) := by decide +kernel
theorem d_rs_cellAt_31 : decode rs_cellAt.2.1 31 = .ok (.aload 4, 2) := by decide +kernel
theorem d_rs_cellAt_33 : decode rs_cellAt.2.1 33 = .ok (.arraylength, 1) := by decide +kernel
theorem d_rs_cellAt_34 : decode rs_cellAt.2.1 34 = .ok (.i2l, 1) := by decide +kernel
theorem d_rs_cellAt_35 : decode rs_cellAt.2.1 35 = .ok (.lcmp, 1) := by decide +kernel
theorem d_rs_cellAt_36 : decode rs_cellAt.2.1 36 = .ok (.ifCond .lt 8, 3) := by decide +kernel
theorem d_rs_cellAt_39 : decode rs_cellAt.2.1 39 = .ok (.bipush (-2), 2) := by decide +kernel
theorem d_rs_cellAt_41 : decode rs_cellAt.2.1 41 = .ok (.goto 9, 3) := by decide +kernel
theorem d_rs_cellAt_44 : decode rs_cellAt.2.1 44 = .ok (.aload 4, 2) := by decide +kernel
theorem d_rs_cellAt_46 : decode rs_cellAt.2.1 46 = .ok (.lload 5, 2) := by decide +kernel
theorem d_rs_cellAt_48 : decode rs_cellAt.2.1 48 = .ok (.l2i, 1) := by decide +kernel
theorem d_rs_cellAt_49 : decode rs_cellAt.2.1 49 = .ok (.iaload, 1) := by decide +kernel
theorem d_rs_cellAt_50 : decode rs_cellAt.2.1 50 = .ok (.ireturn, 1) := by decide +kernel
theorem d_rs_setCell_0 : decode rs_setCell.2.1 0 = .ok (.aload_n 0, 1) := by decide +kernel
theorem d_rs_setCell_1 : decode rs_setCell.2.1 1 = .ok (.iload_n 1, 1) := by decide +kernel
theorem d_rs_setCell_2 : decode rs_setCell.2.1 2 = .ok (.invokevirtual 40, 3) := by decide +kernel
theorem d_rs_setCell_5 : decode rs_setCell.2.1 5 = .ok (.astore 4, 2) := by decide +kernel
theorem d_rs_setCell_7 : decode rs_setCell.2.1 7 = .ok (.iload_n 2, 1) := by decide +kernel
theorem d_rs_setCell_8 : decode rs_setCell.2.1 8 = .ok (.aload_n 0, 1) := by decide +kernel
theorem d_rs_setCell_9 : decode rs_setCell.2.1 9 = .ok (.iload_n 1, 1) := by decide +kernel
theorem d_rs_setCell_10 : decode rs_setCell.2.1 10 = .ok (.invokevirtual 48, 3) := by decide +kernel
theorem d_rs_setCell_13 : decode rs_setCell.2.1 13 = .ok (.isub, 1) := by decide +kernel
theorem d_rs_setCell_14 : decode rs_setCell.2.1 14 = .ok (.istore 5, 2) := by decide +kernel
theorem d_rs_setCell_16 : decode rs_setCell.2.1 16 = .ok (.aload 4, 2) := by decide +kernel
theorem d_rs_setCell_18 : decode rs_setCell.2.1 18 = .ok (.ifnull 22, 3) := by decide +kernel
theorem d_rs_setCell_21 : decode rs_setCell.2.1 21 = .ok (.iload 5, 2) := by decide +kernel
theorem d_rs_setCell_23 : decode rs_setCell.2.1 23 = .ok (.ifCond .lt 17, 3) := by decide +kernel
theorem d_rs_setCell_26 : decode rs_setCell.2.1 26 = .ok (.iload 5, 2) := by decide +kernel
theorem d_rs_setCell_28 : decode rs_setCell.2.1 28 = .ok (.aload 4, 2) := by decide +kernel
theorem d_rs_setCell_30 : decode rs_setCell.2.1 30 = .ok (.arraylength, 1) := by decide +kernel
theorem d_rs_setCell_31 : decode rs_setCell.2.1 31 = .ok (.if_icmp .ge 9, 3) := by decide +kernel
theorem d_rs_setCell_34 : decode rs_setCell.2.1 34 = .ok (.aload 4, 2) := by decide +kernel
theorem d_rs_setCell_36 : decode rs_setCell.2.1 36 = .ok (.iload 5, 2) := by decide +kernel
theorem d_rs_setCell_38 : decode rs_setCell.2.1 38 = .ok (.iload_n 3, 1) := by decide +kernel
theorem d_rs_setCell_39 : decode rs_setCell.2.1 39 = .ok (.iastore, 1) := by decide +kernel
theorem d_rs_setCell_40 : decode rs_setCell.2.1 40 = .ok (.return_, 1) := by decide +kernel
theorem d_rs_bears_0 : decode rs_bears.2.1 0 = .ok (.aload_n 0, 1) := by decide +kernel
theorem d_rs_bears_1 : decode rs_bears.2.1 1 = .ok (.iload_n 1, 1) := by decide +kernel
theorem d_rs_bears_2 : decode rs_bears.2.1 2 = .ok (.invokevirtual 40, 3) := by decide +kernel
theorem d_rs_bears_5 : decode rs_bears.2.1 5 = .ok (.astore 5, 2) := by decide +kernel
theorem d_rs_bears_7 : decode rs_bears.2.1 7 = .ok (.iload_n 2, 1) := by decide +kernel
theorem d_rs_bears_8 : decode rs_bears.2.1 8 = .ok (.aload_n 0, 1) := by decide +kernel
theorem d_rs_bears_9 : decode rs_bears.2.1 9 = .ok (.iload_n 1, 1) := by decide +kernel
theorem d_rs_bears_10 : decode rs_bears.2.1 10 = .ok (.invokevirtual 48, 3) := by decide +kernel
theorem d_rs_bears_13 : decode rs_bears.2.1 13 = .ok (.isub, 1) := by decide +kernel
theorem d_rs_bears_14 : decode rs_bears.2.1 14 = .ok (.istore 6, 2) := by decide +kernel
theorem d_rs_bears_16 : decode rs_bears.2.1 16 = .ok (.aload 5, 2) := by decide +kernel
theorem d_rs_bears_18 : decode rs_bears.2.1 18 = .ok (.ifnull 21, 3) := by decide +kernel
theorem d_rs_bears_21 : decode rs_bears.2.1 21 = .ok (.iload 6, 2) := by decide +kernel
theorem d_rs_bears_23 : decode rs_bears.2.1 23 = .ok (.ifCond .lt 16, 3) := by decide +kernel
theorem d_rs_bears_26 : decode rs_bears.2.1 26 = .ok (.iload 6, 2) := by decide +kernel
theorem d_rs_bears_28 : decode rs_bears.2.1 28 = .ok (.aload 5, 2) := by decide +kernel
theorem d_rs_bears_30 : decode rs_bears.2.1 30 = .ok (.arraylength, 1) := by decide +kernel
theorem d_rs_bears_31 : decode rs_bears.2.1 31 = .ok (.aload_n 3, 1) := by decide +kernel
theorem d_rs_bears_32 : decode rs_bears.2.1 32 = .ok (.getfield 52, 3) := by decide +kernel
theorem d_rs_bears_35 : decode rs_bears.2.1 35 = .ok (.isub, 1) := by decide +kernel
theorem d_rs_bears_36 : decode rs_bears.2.1 36 = .ok (.if_icmp .le 5, 3) := by decide +kernel
theorem d_rs_bears_39 : decode rs_bears.2.1 39 = .ok (.iconst 0, 1) := by decide +kernel
theorem d_rs_bears_40 : decode rs_bears.2.1 40 = .ok (.ireturn, 1) := by decide +kernel
theorem d_rs_bears_41 : decode rs_bears.2.1 41 = .ok (.iload 4, 2) := by decide +kernel
theorem d_rs_bears_43 : decode rs_bears.2.1 43 = .ok (.aload_n 3, 1) := by decide +kernel
theorem d_rs_bears_44 : decode rs_bears.2.1 44 = .ok (.getfield 52, 3) := by decide +kernel
theorem d_rs_bears_47 : decode rs_bears.2.1 47 = .ok (.imul, 1) := by decide +kernel
theorem d_rs_bears_48 : decode rs_bears.2.1 48 = .ok (.istore 7, 2) := by decide +kernel
theorem d_rs_bears_50 : decode rs_bears.2.1 50 = .ok (.iload 7, 2) := by decide +kernel
theorem d_rs_bears_52 : decode rs_bears.2.1 52 = .ok (.ifCond .lt 18, 3) := by decide +kernel
theorem d_rs_bears_55 : decode rs_bears.2.1 55 = .ok (.iload 7, 2) := by decide +kernel
theorem d_rs_bears_57 : decode rs_bears.2.1 57 = .ok (.aload_n 3, 1) := by decide +kernel
theorem d_rs_bears_58 : decode rs_bears.2.1 58 = .ok (.getfield 57, 3) := by decide +kernel
theorem d_rs_bears_61 : decode rs_bears.2.1 61 = .ok (.arraylength, 1) := by decide +kernel
theorem d_rs_bears_62 : decode rs_bears.2.1 62 = .ok (.aload_n 3, 1) := by decide +kernel
theorem d_rs_bears_63 : decode rs_bears.2.1 63 = .ok (.getfield 52, 3) := by decide +kernel
theorem d_rs_bears_66 : decode rs_bears.2.1 66 = .ok (.isub, 1) := by decide +kernel
theorem d_rs_bears_67 : decode rs_bears.2.1 67 = .ok (.if_icmp .le 5, 3) := by decide +kernel
theorem d_rs_bears_70 : decode rs_bears.2.1 70 = .ok (.iconst 0, 1) := by decide +kernel
theorem d_rs_bears_71 : decode rs_bears.2.1 71 = .ok (.ireturn, 1) := by decide +kernel
theorem d_rs_bears_72 : decode rs_bears.2.1 72 = .ok (.iconst 0, 1) := by decide +kernel
theorem d_rs_bears_73 : decode rs_bears.2.1 73 = .ok (.istore 8, 2) := by decide +kernel
theorem d_rs_bears_75 : decode rs_bears.2.1 75 = .ok (.iload 8, 2) := by decide +kernel
theorem d_rs_bears_77 : decode rs_bears.2.1 77 = .ok (.aload_n 3, 1) := by decide +kernel
theorem d_rs_bears_78 : decode rs_bears.2.1 78 = .ok (.getfield 52, 3) := by decide +kernel
theorem d_rs_bears_81 : decode rs_bears.2.1 81 = .ok (.if_icmp .ge 32, 3) := by decide +kernel
theorem d_rs_bears_84 : decode rs_bears.2.1 84 = .ok (.aload 5, 2) := by decide +kernel
theorem d_rs_bears_86 : decode rs_bears.2.1 86 = .ok (.iload 6, 2) := by decide +kernel
theorem d_rs_bears_88 : decode rs_bears.2.1 88 = .ok (.iload 8, 2) := by decide +kernel
theorem d_rs_bears_90 : decode rs_bears.2.1 90 = .ok (.iadd, 1) := by decide +kernel
theorem d_rs_bears_91 : decode rs_bears.2.1 91 = .ok (.iaload, 1) := by decide +kernel
theorem d_rs_bears_92 : decode rs_bears.2.1 92 = .ok (.aload_n 3, 1) := by decide +kernel
theorem d_rs_bears_93 : decode rs_bears.2.1 93 = .ok (.getfield 57, 3) := by decide +kernel
theorem d_rs_bears_96 : decode rs_bears.2.1 96 = .ok (.iload 7, 2) := by decide +kernel
theorem d_rs_bears_98 : decode rs_bears.2.1 98 = .ok (.iload 8, 2) := by decide +kernel
theorem d_rs_bears_100 : decode rs_bears.2.1 100 = .ok (.iadd, 1) := by decide +kernel
theorem d_rs_bears_101 : decode rs_bears.2.1 101 = .ok (.iaload, 1) := by decide +kernel
theorem d_rs_bears_102 : decode rs_bears.2.1 102 = .ok (.if_icmp .eq 5, 3) := by decide +kernel
theorem d_rs_bears_105 : decode rs_bears.2.1 105 = .ok (.iconst 0, 1) := by decide +kernel
theorem d_rs_bears_106 : decode rs_bears.2.1 106 = .ok (.ireturn, 1) := by decide +kernel
theorem d_rs_bears_107 : decode rs_bears.2.1 107 = .ok (.iinc 8 1, 3) := by decide +kernel
theorem d_rs_bears_110 : decode rs_bears.2.1 110 = .ok (.goto (-35), 3) := by decide +kernel
theorem d_rs_bears_113 : decode rs_bears.2.1 113 = .ok (.iconst 1, 1) := by decide +kernel
theorem d_rs_bears_114 : decode rs_bears.2.1 114 = .ok (.ireturn, 1) := by decide +kernel
theorem d_ru_init_0 : decode ru_init.2.1 0 = .ok (.aload_n 0, 1) := by decide +kernel
theorem d_ru_init_1 : decode ru_init.2.1 1 = .ok (.invokespecial 5, 3) := by decide +kernel
theorem d_ru_init_4 : decode ru_init.2.1 4 = .ok (.aload_n 0, 1) := by decide +kernel
theorem d_ru_init_5 : decode ru_init.2.1 5 = .ok (.sipush 640, 3) := by decide +kernel
theorem d_ru_init_8 : decode ru_init.2.1 8 = .ok (.newarray .int, 2) := by decide +kernel
theorem d_ru_init_10 : decode ru_init.2.1 10 = .ok (.putfield 13, 3) := by decide +kernel
theorem d_ru_init_13 : decode ru_init.2.1 13 = .ok (.aload_n 0, 1) := by decide +kernel
theorem d_ru_init_14 : decode ru_init.2.1 14 = .ok (.bipush 40, 2) := by decide +kernel
theorem d_ru_init_16 : decode ru_init.2.1 16 = .ok (.newarray .long, 2) := by decide +kernel
theorem d_ru_init_18 : decode ru_init.2.1 18 = .ok (.putfield 17, 3) := by decide +kernel
theorem d_ru_init_21 : decode ru_init.2.1 21 = .ok (.aload_n 0, 1) := by decide +kernel
theorem d_ru_init_22 : decode ru_init.2.1 22 = .ok (.bipush 40, 2) := by decide +kernel
theorem d_ru_init_24 : decode ru_init.2.1 24 = .ok (.newarray .long, 2) := by decide +kernel
theorem d_ru_init_26 : decode ru_init.2.1 26 = .ok (.putfield 21, 3) := by decide +kernel
theorem d_ru_init_29 : decode ru_init.2.1 29 = .ok (.aload_n 0, 1) := by decide +kernel
theorem d_ru_init_30 : decode ru_init.2.1 30 = .ok (.iload_n 1, 1) := by decide +kernel
theorem d_ru_init_31 : decode ru_init.2.1 31 = .ok (.putfield 24, 3) := by decide +kernel
theorem d_ru_init_34 : decode ru_init.2.1 34 = .ok (.aload_n 0, 1) := by decide +kernel
theorem d_ru_init_35 : decode ru_init.2.1 35 = .ok (.iload_n 2, 1) := by decide +kernel
theorem d_ru_init_36 : decode ru_init.2.1 36 = .ok (.putfield 28, 3) := by decide +kernel
theorem d_ru_init_39 : decode ru_init.2.1 39 = .ok (.aload_n 0, 1) := by decide +kernel
theorem d_ru_init_40 : decode ru_init.2.1 40 = .ok (.getfield 13, 3) := by decide +kernel
theorem d_ru_init_43 : decode ru_init.2.1 43 = .ok (.iconst (-1), 1) := by decide +kernel
theorem d_ru_init_44 : decode ru_init.2.1 44 = .ok (.invokestatic 33, 3) := by decide +kernel
theorem d_ru_init_47 : decode ru_init.2.1 47 = .ok (.return_, 1) := by decide +kernel
theorem d_ru_mayBe_0 : decode ru_mayBe.2.1 0 = .ok (.iload_n 0, 1) := by decide +kernel
theorem d_ru_mayBe_1 : decode ru_mayBe.2.1 1 = .ok (.iconst 1, 1) := by decide +kernel
theorem d_ru_mayBe_2 : decode ru_mayBe.2.1 2 = .ok (.if_icmp .lt 22, 3) := by decide +kernel
theorem d_ru_mayBe_5 : decode ru_mayBe.2.1 5 = .ok (.iload_n 0, 1) := by decide +kernel
theorem d_ru_mayBe_6 : decode ru_mayBe.2.1 6 = .ok (.iconst 4, 1) := by decide +kernel
theorem d_ru_mayBe_7 : decode ru_mayBe.2.1 7 = .ok (.if_icmp .gt 17, 3) := by decide +kernel
theorem d_ru_mayBe_10 : decode ru_mayBe.2.1 10 = .ok (.iload_n 1, 1) := by decide +kernel
theorem d_ru_mayBe_11 : decode ru_mayBe.2.1 11 = .ok (.iconst 1, 1) := by decide +kernel
theorem d_ru_mayBe_12 : decode ru_mayBe.2.1 12 = .ok (.if_icmp .lt 12, 3) := by decide +kernel
theorem d_ru_mayBe_15 : decode ru_mayBe.2.1 15 = .ok (.iload_n 1, 1) := by decide +kernel
theorem d_ru_mayBe_16 : decode ru_mayBe.2.1 16 = .ok (.iconst 4, 1) := by decide +kernel
theorem d_ru_mayBe_17 : decode ru_mayBe.2.1 17 = .ok (.if_icmp .gt 7, 3) := by decide +kernel
theorem d_ru_mayBe_20 : decode ru_mayBe.2.1 20 = .ok (.iconst 1, 1) := by decide +kernel
theorem d_ru_mayBe_21 : decode ru_mayBe.2.1 21 = .ok (.goto 4, 3) := by decide +kernel
theorem d_ru_mayBe_24 : decode ru_mayBe.2.1 24 = .ok (.iconst 0, 1) := by decide +kernel
theorem d_ru_mayBe_25 : decode ru_mayBe.2.1 25 = .ok (.ireturn, 1) := by decide +kernel
theorem d_ru_hasPlace_0 : decode ru_hasPlace.2.1 0 = .ok (.iload_n 1, 1) := by decide +kernel
theorem d_ru_hasPlace_1 : decode ru_hasPlace.2.1 1 = .ok (.ifCond .lt 27, 3) := by decide +kernel
theorem d_ru_hasPlace_4 : decode ru_hasPlace.2.1 4 = .ok (.iload_n 1, 1) := by decide +kernel
theorem d_ru_hasPlace_5 : decode ru_hasPlace.2.1 5 = .ok (.aload_n 0, 1) := by decide +kernel
theorem d_ru_hasPlace_6 : decode ru_hasPlace.2.1 6 = .ok (.getfield 24, 3) := by decide +kernel
theorem d_ru_hasPlace_9 : decode ru_hasPlace.2.1 9 = .ok (.if_icmp .ge 19, 3) := by decide +kernel
theorem d_ru_hasPlace_12 : decode ru_hasPlace.2.1 12 = .ok (.iload_n 2, 1) := by decide +kernel
theorem d_ru_hasPlace_13 : decode ru_hasPlace.2.1 13 = .ok (.ifCond .lt 15, 3) := by decide +kernel
theorem d_ru_hasPlace_16 : decode ru_hasPlace.2.1 16 = .ok (.iload_n 2, 1) := by decide +kernel
theorem d_ru_hasPlace_17 : decode ru_hasPlace.2.1 17 = .ok (.aload_n 0, 1) := by decide +kernel
theorem d_ru_hasPlace_18 : decode ru_hasPlace.2.1 18 = .ok (.getfield 28, 3) := by decide +kernel
theorem d_ru_hasPlace_21 : decode ru_hasPlace.2.1 21 = .ok (.if_icmp .ge 7, 3) := by decide +kernel
theorem d_ru_hasPlace_24 : decode ru_hasPlace.2.1 24 = .ok (.iconst 1, 1) := by decide +kernel
theorem d_ru_hasPlace_25 : decode ru_hasPlace.2.1 25 = .ok (.goto 4, 3) := by decide +kernel
theorem d_ru_hasPlace_28 : decode ru_hasPlace.2.1 28 = .ok (.iconst 0, 1) := by decide +kernel
theorem d_ru_hasPlace_29 : decode ru_hasPlace.2.1 29 = .ok (.ireturn, 1) := by decide +kernel
theorem d_ru_hasCell_0 : decode ru_hasCell.2.1 0 = .ok (.iload_n 1, 1) := by decide +kernel
theorem d_ru_hasCell_1 : decode ru_hasCell.2.1 1 = .ok (.ifCond .lt 22, 3) := by decide +kernel
theorem d_ru_hasCell_4 : decode ru_hasCell.2.1 4 = .ok (.iload_n 1, 1) := by decide +kernel
theorem d_ru_hasCell_5 : decode ru_hasCell.2.1 5 = .ok (.bipush 40, 2) := by decide +kernel
theorem d_ru_hasCell_7 : decode ru_hasCell.2.1 7 = .ok (.if_icmp .ge 16, 3) := by decide +kernel
theorem d_ru_hasCell_10 : decode ru_hasCell.2.1 10 = .ok (.aload_n 0, 1) := by decide +kernel
theorem d_ru_hasCell_11 : decode ru_hasCell.2.1 11 = .ok (.iload_n 2, 1) := by decide +kernel
theorem d_ru_hasCell_12 : decode ru_hasCell.2.1 12 = .ok (.iload_n 3, 1) := by decide +kernel
theorem d_ru_hasCell_13 : decode ru_hasCell.2.1 13 = .ok (.invokevirtual 39, 3) := by decide +kernel
theorem d_ru_hasCell_16 : decode ru_hasCell.2.1 16 = .ok (.ifCond .eq 7, 3) := by decide +kernel
theorem d_ru_hasCell_19 : decode ru_hasCell.2.1 19 = .ok (.iconst 1, 1) := by decide +kernel
theorem d_ru_hasCell_20 : decode ru_hasCell.2.1 20 = .ok (.goto 4, 3) := by decide +kernel
theorem d_ru_hasCell_23 : decode ru_hasCell.2.1 23 = .ok (.iconst 0, 1) := by decide +kernel
theorem d_ru_hasCell_24 : decode ru_hasCell.2.1 24 = .ok (.ireturn, 1) := by decide +kernel
theorem d_ru_setCell_0 : decode ru_setCell.2.1 0 = .ok (.aload_n 0, 1) := by decide +kernel
theorem d_ru_setCell_1 : decode ru_setCell.2.1 1 = .ok (.iload_n 1, 1) := by decide +kernel
theorem d_ru_setCell_2 : decode ru_setCell.2.1 2 = .ok (.iload_n 2, 1) := by decide +kernel
theorem d_ru_setCell_3 : decode ru_setCell.2.1 3 = .ok (.iload_n 3, 1) := by decide +kernel
theorem d_ru_setCell_4 : decode ru_setCell.2.1 4 = .ok (.invokevirtual 43, 3) := by decide +kernel
theorem d_ru_setCell_7 : decode ru_setCell.2.1 7 = .ok (.ifCond .eq 20, 3) := by decide +kernel
theorem d_ru_setCell_10 : decode ru_setCell.2.1 10 = .ok (.aload_n 0, 1) := by decide +kernel
theorem d_ru_setCell_11 : decode ru_setCell.2.1 11 = .ok (.getfield 13, 3) := by decide +kernel
theorem d_ru_setCell_14 : decode ru_setCell.2.1 14 = .ok (.iload_n 1, 1) := by decide +kernel
theorem d_ru_setCell_15 : decode ru_setCell.2.1 15 = .ok (.bipush 16, 2) := by decide +kernel
theorem d_ru_setCell_17 : decode ru_setCell.2.1 17 = .ok (.imul, 1) := by decide +kernel
theorem d_ru_setCell_18 : decode ru_setCell.2.1 18 = .ok (.iload_n 2, 1) := by decide +kernel
theorem d_ru_setCell_19 : decode ru_setCell.2.1 19 = .ok (.iconst 4, 1) := by decide +kernel
theorem d_ru_setCell_20 : decode ru_setCell.2.1 20 = .ok (.imul, 1) := by decide +kernel
theorem d_ru_setCell_21 : decode ru_setCell.2.1 21 = .ok (.iadd, 1) := by decide +kernel
theorem d_ru_setCell_22 : decode ru_setCell.2.1 22 = .ok (.iload_n 3, 1) := by decide +kernel
theorem d_ru_setCell_23 : decode ru_setCell.2.1 23 = .ok (.iadd, 1) := by decide +kernel
theorem d_ru_setCell_24 : decode ru_setCell.2.1 24 = .ok (.iload 4, 2) := by decide +kernel
theorem d_ru_setCell_26 : decode ru_setCell.2.1 26 = .ok (.iastore, 1) := by decide +kernel
theorem d_ru_setCell_27 : decode ru_setCell.2.1 27 = .ok (.return_, 1) := by decide +kernel
theorem d_ru_cellAt_0 : decode ru_cellAt.2.1 0 = .ok (.aload_n 0, 1) := by decide +kernel
theorem d_ru_cellAt_1 : decode ru_cellAt.2.1 1 = .ok (.iload_n 1, 1) := by decide +kernel
theorem d_ru_cellAt_2 : decode ru_cellAt.2.1 2 = .ok (.iload_n 2, 1) := by decide +kernel
theorem d_ru_cellAt_3 : decode ru_cellAt.2.1 3 = .ok (.iload_n 3, 1) := by decide +kernel
theorem d_ru_cellAt_4 : decode ru_cellAt.2.1 4 = .ok (.invokevirtual 43, 3) := by decide +kernel
theorem d_ru_cellAt_7 : decode ru_cellAt.2.1 7 = .ok (.ifCond .eq 21, 3) := by decide +kernel
theorem d_ru_cellAt_10 : decode ru_cellAt.2.1 10 = .ok (.aload_n 0, 1) := by decide +kernel
theorem d_ru_cellAt_11 : decode ru_cellAt.2.1 11 = .ok (.getfield 13, 3) := by decide +kernel
theorem d_ru_cellAt_14 : decode ru_cellAt.2.1 14 = .ok (.iload_n 1, 1) := by decide +kernel
theorem d_ru_cellAt_15 : decode ru_cellAt.2.1 15 = .ok (.bipush 16, 2) := by decide +kernel
theorem d_ru_cellAt_17 : decode ru_cellAt.2.1 17 = .ok (.imul, 1) := by decide +kernel
theorem d_ru_cellAt_18 : decode ru_cellAt.2.1 18 = .ok (.iload_n 2, 1) := by decide +kernel
theorem d_ru_cellAt_19 : decode ru_cellAt.2.1 19 = .ok (.iconst 4, 1) := by decide +kernel
theorem d_ru_cellAt_20 : decode ru_cellAt.2.1 20 = .ok (.imul, 1) := by decide +kernel
theorem d_ru_cellAt_21 : decode ru_cellAt.2.1 21 = .ok (.iadd, 1) := by decide +kernel
theorem d_ru_cellAt_22 : decode ru_cellAt.2.1 22 = .ok (.iload_n 3, 1) := by decide +kernel
theorem d_ru_cellAt_23 : decode ru_cellAt.2.1 23 = .ok (.iadd, 1) := by decide +kernel
theorem d_ru_cellAt_24 : decode ru_cellAt.2.1 24 = .ok (.iaload, 1) := by decide +kernel
theorem d_ru_cellAt_25 : decode ru_cellAt.2.1 25 = .ok (.goto 4, 3) := by decide +kernel
theorem d_ru_cellAt_28 : decode ru_cellAt.2.1 28 = .ok (.iconst (-1), 1) := by decide +kernel
theorem d_ru_cellAt_29 : decode ru_cellAt.2.1 29 = .ok (.ireturn, 1) := by decide +kernel
theorem d_ru_childOf_0 : decode ru_childOf.2.1 0 = .ok (.iload_n 1, 1) := by decide +kernel
theorem d_ru_childOf_1 : decode ru_childOf.2.1 1 = .ok (.ifCond .ge 5, 3) := by decide +kernel
theorem d_ru_childOf_4 : decode ru_childOf.2.1 4 = .ok (.iload_n 1, 1) := by decide +kernel
theorem d_ru_childOf_5 : decode ru_childOf.2.1 5 = .ok (.ireturn, 1) := by decide +kernel
theorem d_ru_childOf_6 : decode ru_childOf.2.1 6 = .ok (.iload_n 1, 1) := by decide +kernel
theorem d_ru_childOf_7 : decode ru_childOf.2.1 7 = .ok (.invokestatic 47, 3) := by decide +kernel
theorem d_ru_childOf_10 : decode ru_childOf.2.1 10 = .ok (.istore 5, 2) := by decide +kernel
theorem d_ru_childOf_12 : decode ru_childOf.2.1 12 = .ok (.aload_n 0, 1) := by decide +kernel
theorem d_ru_childOf_13 : decode ru_childOf.2.1 13 = .ok (.getfield 24, 3) := by decide +kernel
theorem d_ru_childOf_16 : decode ru_childOf.2.1 16 = .ok (.aload_n 0, 1) := by decide +kernel
theorem d_ru_childOf_17 : decode ru_childOf.2.1 17 = .ok (.getfield 28, 3) := by decide +kernel
theorem d_ru_childOf_20 : decode ru_childOf.2.1 20 = .ok (.if_icmp .eq 14, 3) := by decide +kernel
theorem d_ru_childOf_23 : decode ru_childOf.2.1 23 = .ok (.iload 5, 2) := by decide +kernel
theorem d_ru_childOf_25 : decode ru_childOf.2.1 25 = .ok (.iconst 1, 1) := by decide +kernel
theorem d_ru_childOf_26 : decode ru_childOf.2.1 26 = .ok (.iand, 1) := by decide +kernel
theorem d_ru_childOf_27 : decode ru_childOf.2.1 27 = .ok (.iconst 1, 1) := by decide +kernel
theorem d_ru_childOf_28 : decode ru_childOf.2.1 28 = .ok (.if_icmp .ne 6, 3) := by decide +kernel
theorem d_ru_childOf_31 : decode ru_childOf.2.1 31 = .ok (.bipush (-3), 2) := by decide +kernel
theorem d_ru_childOf_33 : decode ru_childOf.2.1 33 = .ok (.ireturn, 1) := by decide +kernel
theorem d_ru_childOf_34 : decode ru_childOf.2.1 34 = .ok (.aload_n 0, 1) := by decide +kernel
theorem d_ru_childOf_35 : decode ru_childOf.2.1 35 = .ok (.iload 5, 2) := by decide +kernel
theorem d_ru_childOf_37 : decode ru_childOf.2.1 37 = .ok (.iload_n 2, 1) := by decide +kernel
theorem d_ru_childOf_38 : decode ru_childOf.2.1 38 = .ok (.iload_n 3, 1) := by decide +kernel
theorem d_ru_childOf_39 : decode ru_childOf.2.1 39 = .ok (.invokevirtual 51, 3) := by decide +kernel
theorem d_ru_childOf_42 : decode ru_childOf.2.1 42 = .ok (.istore 6, 2) := by decide +kernel
theorem d_ru_childOf_44 : decode ru_childOf.2.1 44 = .ok (.aload_n 0, 1) := by decide +kernel
theorem d_ru_childOf_45 : decode ru_childOf.2.1 45 = .ok (.iload 5, 2) := by decide +kernel
theorem d_ru_childOf_47 : decode ru_childOf.2.1 47 = .ok (.iload_n 2, 1) := by decide +kernel
theorem d_ru_childOf_48 : decode ru_childOf.2.1 48 = .ok (.iload_n 3, 1) := by decide +kernel
theorem d_ru_childOf_49 : decode ru_childOf.2.1 49 = .ok (.invokevirtual 55, 3) := by decide +kernel
theorem d_ru_childOf_52 : decode ru_childOf.2.1 52 = .ok (.istore 7, 2) := by decide +kernel
theorem d_ru_childOf_54 : decode ru_childOf.2.1 54 = .ok (.aload_n 0, 1) := by decide +kernel
theorem d_ru_childOf_55 : decode ru_childOf.2.1 55 = .ok (.iload_n 1, 1) := by decide +kernel
theorem d_ru_childOf_56 : decode ru_childOf.2.1 56 = .ok (.invokestatic 58, 3) := by decide +kernel
theorem d_ru_childOf_59 : decode ru_childOf.2.1 59 = .ok (.iload 6, 2) := by decide +kernel
theorem d_ru_childOf_61 : decode ru_childOf.2.1 61 = .ok (.iload 5, 2) := by decide +kernel
theorem d_ru_childOf_63 : decode ru_childOf.2.1 63 = .ok (.iconst 4, 1) := by decide +kernel
theorem d_ru_childOf_64 : decode ru_childOf.2.1 64 = .ok (.if_icmp .lt 15, 3) := by decide +kernel
theorem d_ru_childOf_67 : decode ru_childOf.2.1 67 = .ok (.aload_n 0, 1) := by decide +kernel
theorem d_ru_childOf_68 : decode ru_childOf.2.1 68 = .ok (.getfield 28, 3) := by decide +kernel
theorem d_ru_childOf_71 : decode ru_childOf.2.1 71 = .ok (.iconst 1, 1) := by decide +kernel
theorem d_ru_childOf_72 : decode ru_childOf.2.1 72 = .ok (.isub, 1) := by decide +kernel
theorem d_ru_childOf_73 : decode ru_childOf.2.1 73 = .ok (.iload 7, 2) := by decide +kernel
theorem d_ru_childOf_75 : decode ru_childOf.2.1 75 = .ok (.isub, 1) := by decide +kernel
theorem d_ru_childOf_76 : decode ru_childOf.2.1 76 = .ok (.goto 5, 3) := by decide +kernel
theorem d_ru_childOf_79 : decode ru_childOf.2.1 79 = .ok (.iload 7, 2) := by decide +kernel
theorem d_ru_childOf_81 : decode ru_childOf.2.1 81 = .ok (.invokevirtual 61, 3) := by decide +kernel
theorem d_ru_childOf_84 : decode ru_childOf.2.1 84 = .ok (.istore 8, 2) := by decide +kernel
theorem d_ru_childOf_86 : decode ru_childOf.2.1 86 = .ok (.aload 4, 2) := by decide +kernel
theorem d_ru_childOf_88 : decode ru_childOf.2.1 88 = .ok (.iload 8, 2) := by decide +kernel
theorem d_ru_childOf_90 : decode ru_childOf.2.1 90 = .ok (.iload 5, 2) := by decide +kernel
theorem d_ru_childOf_92 : decode ru_childOf.2.1 92 = .ok (.invokevirtual 64, 3) := by decide +kernel
theorem d_ru_childOf_95 : decode ru_childOf.2.1 95 = .ok (.iload_n 1, 1) := by decide +kernel
theorem d_ru_childOf_96 : decode ru_childOf.2.1 96 = .ok (.invokestatic 68, 3) := by decide +kernel
theorem d_ru_childOf_99 : decode ru_childOf.2.1 99 = .ok (.invokestatic 71, 3) := by decide +kernel
theorem d_ru_childOf_102 : decode ru_childOf.2.1 102 = .ok (.ireturn, 1) := by decide +kernel
theorem d_ru_rowBefore_0 : decode ru_rowBefore.2.1 0 = .ok (.iload_n 1, 1) := by decide +kernel
theorem d_ru_rowBefore_1 : decode ru_rowBefore.2.1 1 = .ok (.iconst 3, 1) := by decide +kernel
theorem d_ru_rowBefore_2 : decode ru_rowBefore.2.1 2 = .ok (.iand, 1) := by decide +kernel
theorem d_ru_rowBefore_3 : decode ru_rowBefore.2.1 3 = .ok (.tableswitch 45 0 2 #[25, 27, 36], 25) := by decide +kernel
theorem d_ru_rowBefore_28 : decode ru_rowBefore.2.1 28 = .ok (.iload_n 2, 1) := by decide +kernel
theorem d_ru_rowBefore_29 : decode ru_rowBefore.2.1 29 = .ok (.ireturn, 1) := by decide +kernel
theorem d_ru_rowBefore_30 : decode ru_rowBefore.2.1 30 = .ok (.aload_n 0, 1) := by decide +kernel
theorem d_ru_rowBefore_31 : decode ru_rowBefore.2.1 31 = .ok (.getfield 24, 3) := by decide +kernel
theorem d_ru_rowBefore_34 : decode ru_rowBefore.2.1 34 = .ok (.iconst 1, 1) := by decide +kernel
theorem d_ru_rowBefore_35 : decode ru_rowBefore.2.1 35 = .ok (.isub, 1) := by decide +kernel
theorem d_ru_rowBefore_36 : decode ru_rowBefore.2.1 36 = .ok (.iload_n 3, 1) := by decide +kernel
theorem d_ru_rowBefore_37 : decode ru_rowBefore.2.1 37 = .ok (.isub, 1) := by decide +kernel
theorem d_ru_rowBefore_38 : decode ru_rowBefore.2.1 38 = .ok (.ireturn, 1) := by decide +kernel
theorem d_ru_rowBefore_39 : decode ru_rowBefore.2.1 39 = .ok (.aload_n 0, 1) := by decide +kernel
theorem d_ru_rowBefore_40 : decode ru_rowBefore.2.1 40 = .ok (.getfield 24, 3) := by decide +kernel
theorem d_ru_rowBefore_43 : decode ru_rowBefore.2.1 43 = .ok (.iconst 1, 1) := by decide +kernel
theorem d_ru_rowBefore_44 : decode ru_rowBefore.2.1 44 = .ok (.isub, 1) := by decide +kernel
theorem d_ru_rowBefore_45 : decode ru_rowBefore.2.1 45 = .ok (.iload_n 2, 1) := by decide +kernel
theorem d_ru_rowBefore_46 : decode ru_rowBefore.2.1 46 = .ok (.isub, 1) := by decide +kernel
theorem d_ru_rowBefore_47 : decode ru_rowBefore.2.1 47 = .ok (.ireturn, 1) := by decide +kernel
theorem d_ru_rowBefore_48 : decode ru_rowBefore.2.1 48 = .ok (.iload_n 3, 1) := by decide +kernel
theorem d_ru_rowBefore_49 : decode ru_rowBefore.2.1 49 = .ok (.ireturn, 1) := by decide +kernel
theorem d_ru_columnBefore_0 : decode ru_columnBefore.2.1 0 = .ok (.iload_n 1, 1) := by decide +kernel
theorem d_ru_columnBefore_1 : decode ru_columnBefore.2.1 1 = .ok (.iconst 3, 1) := by decide +kernel
theorem d_ru_columnBefore_2 : decode ru_columnBefore.2.1 2 = .ok (.iand, 1) := by decide +kernel
theorem d_ru_columnBefore_3 : decode ru_columnBefore.2.1 3 = .ok (.tableswitch 38 0 2 #[25, 27, 29], 25) := by decide +kernel
theorem d_ru_columnBefore_28 : decode ru_columnBefore.2.1 28 = .ok (.iload_n 3, 1) := by decide +kernel
theorem d_ru_columnBefore_29 : decode ru_columnBefore.2.1 29 = .ok (.ireturn, 1) := by decide +kernel
theorem d_ru_columnBefore_30 : decode ru_columnBefore.2.1 30 = .ok (.iload_n 2, 1) := by decide +kernel
theorem d_ru_columnBefore_31 : decode ru_columnBefore.2.1 31 = .ok (.ireturn, 1) := by decide +kernel
theorem d_ru_columnBefore_32 : decode ru_columnBefore.2.1 32 = .ok (.aload_n 0, 1) := by decide +kernel
theorem d_ru_columnBefore_33 : decode ru_columnBefore.2.1 33 = .ok (.getfield 28, 3) := by decide +kernel
theorem d_ru_columnBefore_36 : decode ru_columnBefore.2.1 36 = .ok (.iconst 1, 1) := by decide +kernel
theorem d_ru_columnBefore_37 : decode ru_columnBefore.2.1 37 = .ok (.isub, 1) := by decide +kernel
theorem d_ru_columnBefore_38 : decode ru_columnBefore.2.1 38 = .ok (.iload_n 3, 1) := by decide +kernel
theorem d_ru_columnBefore_39 : decode ru_columnBefore.2.1 39 = .ok (.isub, 1) := by decide +kernel
theorem d_ru_columnBefore_40 : decode ru_columnBefore.2.1 40 = .ok (.ireturn, 1) := by decide +kernel
theorem d_ru_columnBefore_41 : decode ru_columnBefore.2.1 41 = .ok (.aload_n 0, 1) := by decide +kernel
theorem d_ru_columnBefore_42 : decode ru_columnBefore.2.1 42 = .ok (.getfield 28, 3) := by decide +kernel
theorem d_ru_columnBefore_45 : decode ru_columnBefore.2.1 45 = .ok (.iconst 1, 1) := by decide +kernel
theorem d_ru_columnBefore_46 : decode ru_columnBefore.2.1 46 = .ok (.isub, 1) := by decide +kernel
theorem d_ru_columnBefore_47 : decode ru_columnBefore.2.1 47 = .ok (.iload_n 2, 1) := by decide +kernel
theorem d_ru_columnBefore_48 : decode ru_columnBefore.2.1 48 = .ok (.isub, 1) := by decide +kernel
theorem d_ru_columnBefore_49 : decode ru_columnBefore.2.1 49 = .ok (.ireturn, 1) := by decide +kernel
theorem d_ru_foretell_0 : decode ru_foretell.2.1 0 = .ok (.iload_n 1, 1) := by decide +kernel
theorem d_ru_foretell_1 : decode ru_foretell.2.1 1 = .ok (.ifCond .lt 19, 3) := by decide +kernel
theorem d_ru_foretell_4 : decode ru_foretell.2.1 4 = .ok (.iload_n 1, 1) := by decide +kernel
theorem d_ru_foretell_5 : decode ru_foretell.2.1 5 = .ok (.bipush 40, 2) := by decide +kernel
theorem d_ru_foretell_7 : decode ru_foretell.2.1 7 = .ok (.if_icmp .ge 13, 3) := by decide +kernel
theorem d_ru_foretell_10 : decode ru_foretell.2.1 10 = .ok (.iload_n 3, 1) := by decide +kernel
theorem d_ru_foretell_11 : decode ru_foretell.2.1 11 = .ok (.ifCond .lt 9, 3) := by decide +kernel
theorem d_ru_foretell_14 : decode ru_foretell.2.1 14 = .ok (.iload_n 3, 1) := by decide +kernel
theorem d_ru_foretell_15 : decode ru_foretell.2.1 15 = .ok (.bipush 40, 2) := by decide +kernel
theorem d_ru_foretell_17 : decode ru_foretell.2.1 17 = .ok (.if_icmp .lt 7, 3) := by decide +kernel
theorem d_ru_foretell_20 : decode ru_foretell.2.1 20 = .ok (.ldc2_w 74, 3) := by decide +kernel
theorem d_ru_foretell_23 : decode ru_foretell.2.1 23 = .ok (.lreturn, 1) := by decide +kernel
theorem d_ru_foretell_24 : decode ru_foretell.2.1 24 = .ok (.aload_n 0, 1) := by decide +kernel
theorem d_ru_foretell_25 : decode ru_foretell.2.1 25 = .ok (.getfield 17, 3) := by decide +kernel
theorem d_ru_foretell_28 : decode ru_foretell.2.1 28 = .ok (.lconst 0, 1) := by decide +kernel
theorem d_ru_foretell_29 : decode ru_foretell.2.1 29 = .ok (.invokestatic 76, 3) := by decide +kernel
theorem d_ru_foretell_32 : decode ru_foretell.2.1 32 = .ok (.aload_n 0, 1) := by decide +kernel
theorem d_ru_foretell_33 : decode ru_foretell.2.1 33 = .ok (.getfield 17, 3) := by decide +kernel
theorem d_ru_foretell_36 : decode ru_foretell.2.1 36 = .ok (.iload_n 1, 1) := by decide +kernel
theorem d_ru_foretell_37 : decode ru_foretell.2.1 37 = .ok (.lconst 1, 1) := by decide +kernel
theorem d_ru_foretell_38 : decode ru_foretell.2.1 38 = .ok (.lastore, 1) := by decide +kernel
theorem d_ru_foretell_39 : decode ru_foretell.2.1 39 = .ok (.iconst 0, 1) := by decide +kernel
theorem d_ru_foretell_40 : decode ru_foretell.2.1 40 = .ok (.istore 4, 2) := by decide +kernel
theorem d_ru_foretell_42 : decode ru_foretell.2.1 42 = .ok (.iload 4, 2) := by decide +kernel
theorem d_ru_foretell_44 : decode ru_foretell.2.1 44 = .ok (.iload_n 2, 1) := by decide +kernel
theorem d_ru_foretell_45 : decode ru_foretell.2.1 45 = .ok (.if_icmp .ge 43, 3) := by decide +kernel
theorem d_ru_foretell_48 : decode ru_foretell.2.1 48 = .ok (.iload 4, 2) := by decide +kernel
theorem d_ru_foretell_50 : decode ru_foretell.2.1 50 = .ok (.iconst 2, 1) := by decide +kernel
theorem d_ru_foretell_51 : decode ru_foretell.2.1 51 = .ok (.irem, 1) := by decide +kernel
theorem d_ru_foretell_52 : decode ru_foretell.2.1 52 = .ok (.ifCond .ne 18, 3) := by decide +kernel
theorem d_ru_foretell_55 : decode ru_foretell.2.1 55 = .ok (.aload_n 0, 1) := by decide +kernel
theorem d_ru_foretell_56 : decode ru_foretell.2.1 56 = .ok (.aload_n 0, 1) := by decide +kernel
theorem d_ru_foretell_57 : decode ru_foretell.2.1 57 = .ok (.getfield 17, 3) := by decide +kernel
theorem d_ru_foretell_60 : decode ru_foretell.2.1 60 = .ok (.aload_n 0, 1) := by decide +kernel
theorem d_ru_foretell_61 : decode ru_foretell.2.1 61 = .ok (.getfield 21, 3) := by decide +kernel
theorem d_ru_foretell_64 : decode ru_foretell.2.1 64 = .ok (.invokevirtual 79, 3) := by decide +kernel
theorem d_ru_foretell_67 : decode ru_foretell.2.1 67 = .ok (.goto 15, 3) := by decide +kernel
theorem d_ru_foretell_70 : decode ru_foretell.2.1 70 = .ok (.aload_n 0, 1) := by decide +kernel
theorem d_ru_foretell_71 : decode ru_foretell.2.1 71 = .ok (.aload_n 0, 1) := by decide +kernel
theorem d_ru_foretell_72 : decode ru_foretell.2.1 72 = .ok (.getfield 21, 3) := by decide +kernel
theorem d_ru_foretell_75 : decode ru_foretell.2.1 75 = .ok (.aload_n 0, 1) := by decide +kernel
theorem d_ru_foretell_76 : decode ru_foretell.2.1 76 = .ok (.getfield 17, 3) := by decide +kernel
theorem d_ru_foretell_79 : decode ru_foretell.2.1 79 = .ok (.invokevirtual 79, 3) := by decide +kernel
theorem d_ru_foretell_82 : decode ru_foretell.2.1 82 = .ok (.iinc 4 1, 3) := by decide +kernel
theorem d_ru_foretell_85 : decode ru_foretell.2.1 85 = .ok (.goto (-43), 3) := by decide +kernel
theorem d_ru_foretell_88 : decode ru_foretell.2.1 88 = .ok (.iload_n 2, 1) := by decide +kernel
theorem d_ru_foretell_89 : decode ru_foretell.2.1 89 = .ok (.iconst 2, 1) := by decide +kernel
theorem d_ru_foretell_90 : decode ru_foretell.2.1 90 = .ok (.irem, 1) := by decide +kernel
theorem d_ru_foretell_91 : decode ru_foretell.2.1 91 = .ok (.ifCond .ne 12, 3) := by decide +kernel
theorem d_ru_foretell_94 : decode ru_foretell.2.1 94 = .ok (.aload_n 0, 1) := by decide +kernel
theorem d_ru_foretell_95 : decode ru_foretell.2.1 95 = .ok (.getfield 17, 3) := by decide +kernel
theorem d_ru_foretell_98 : decode ru_foretell.2.1 98 = .ok (.iload_n 3, 1) := by decide +kernel
theorem d_ru_foretell_99 : decode ru_foretell.2.1 99 = .ok (.laload, 1) := by decide +kernel
theorem d_ru_foretell_100 : decode ru_foretell.2.1 100 = .ok (.goto 9, 3) := by decide +kernel
theorem d_ru_foretell_103 : decode ru_foretell.2.1 103 = .ok (.aload_n 0, 1) := by decide +kernel
theorem d_ru_foretell_104 : decode ru_foretell.2.1 104 = .ok (.getfield 21, 3) := by decide +kernel
theorem d_ru_foretell_107 : decode ru_foretell.2.1 107 = .ok (.iload_n 3, 1) := by decide +kernel
theorem d_ru_foretell_108 : decode ru_foretell.2.1 108 = .ok (.laload, 1) := by decide +kernel
theorem d_ru_foretell_109 : decode ru_foretell.2.1 109 = .ok (.lreturn, 1) := by decide +kernel
theorem d_ru_foretellStep_0 : decode ru_foretellStep.2.1 0 = .ok (.aload_n 2, 1) := by decide +kernel
theorem d_ru_foretellStep_1 : decode ru_foretellStep.2.1 1 = .ok (.lconst 0, 1) := by decide +kernel
theorem d_ru_foretellStep_2 : decode ru_foretellStep.2.1 2 = .ok (.invokestatic 76, 3) := by decide +kernel
theorem d_ru_foretellStep_5 : decode ru_foretellStep.2.1 5 = .ok (.iconst 0, 1) := by decide +kernel
theorem d_ru_foretellStep_6 : decode ru_foretellStep.2.1 6 = .ok (.istore_n 3, 1) := by decide +kernel
theorem d_ru_foretellStep_7 : decode ru_foretellStep.2.1 7 = .ok (.iload_n 3, 1) := by decide +kernel
theorem d_ru_foretellStep_8 : decode ru_foretellStep.2.1 8 = .ok (.bipush 40, 2) := by decide +kernel
theorem d_ru_foretellStep_10 : decode ru_foretellStep.2.1 10 = .ok (.if_icmp .ge 76, 3) := by decide +kernel
theorem d_ru_foretellStep_13 : decode ru_foretellStep.2.1 13 = .ok (.iconst 0, 1) := by decide +kernel
theorem d_ru_foretellStep_14 : decode ru_foretellStep.2.1 14 = .ok (.istore 4, 2) := by decide +kernel
theorem d_ru_foretellStep_16 : decode ru_foretellStep.2.1 16 = .ok (.iload 4, 2) := by decide +kernel
theorem d_ru_foretellStep_18 : decode ru_foretellStep.2.1 18 = .ok (.bipush 16, 2) := by decide +kernel
theorem d_ru_foretellStep_20 : decode ru_foretellStep.2.1 20 = .ok (.if_icmp .ge 60, 3) := by decide +kernel
theorem d_ru_foretellStep_23 : decode ru_foretellStep.2.1 23 = .ok (.aload_n 1, 1) := by decide +kernel
theorem d_ru_foretellStep_24 : decode ru_foretellStep.2.1 24 = .ok (.iload_n 3, 1) := by decide +kernel
theorem d_ru_foretellStep_25 : decode ru_foretellStep.2.1 25 = .ok (.laload, 1) := by decide +kernel
theorem d_ru_foretellStep_26 : decode ru_foretellStep.2.1 26 = .ok (.lconst 0, 1) := by decide +kernel
theorem d_ru_foretellStep_27 : decode ru_foretellStep.2.1 27 = .ok (.lcmp, 1) := by decide +kernel
theorem d_ru_foretellStep_28 : decode ru_foretellStep.2.1 28 = .ok (.ifCond .eq 52, 3) := by decide +kernel
theorem d_ru_foretellStep_31 : decode ru_foretellStep.2.1 31 = .ok (.aload_n 0, 1) := by decide +kernel
theorem d_ru_foretellStep_32 : decode ru_foretellStep.2.1 32 = .ok (.getfield 13, 3) := by decide +kernel
theorem d_ru_foretellStep_35 : decode ru_foretellStep.2.1 35 = .ok (.iload_n 3, 1) := by decide +kernel
theorem d_ru_foretellStep_36 : decode ru_foretellStep.2.1 36 = .ok (.bipush 16, 2) := by decide +kernel
theorem d_ru_foretellStep_38 : decode ru_foretellStep.2.1 38 = .ok (.imul, 1) := by decide +kernel
theorem d_ru_foretellStep_39 : decode ru_foretellStep.2.1 39 = .ok (.iload 4, 2) := by decide +kernel
theorem d_ru_foretellStep_41 : decode ru_foretellStep.2.1 41 = .ok (.iadd, 1) := by decide +kernel
