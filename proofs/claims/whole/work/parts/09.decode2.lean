/-! decode rows, by program -/
theorem d_ru_foretellStep_42 : decode ru_foretellStep.2.1 42 = .ok (.iaload, 1) := by decide +kernel
theorem d_ru_foretellStep_43 : decode ru_foretellStep.2.1 43 = .ok (.invokestatic 58, 3) := by decide +kernel
theorem d_ru_foretellStep_46 : decode ru_foretellStep.2.1 46 = .ok (.istore 5, 2) := by decide +kernel
theorem d_ru_foretellStep_48 : decode ru_foretellStep.2.1 48 = .ok (.iload 5, 2) := by decide +kernel
theorem d_ru_foretellStep_50 : decode ru_foretellStep.2.1 50 = .ok (.ifCond .lt 24, 3) := by decide +kernel
theorem d_ru_foretellStep_53 : decode ru_foretellStep.2.1 53 = .ok (.iload 5, 2) := by decide +kernel
theorem d_ru_foretellStep_55 : decode ru_foretellStep.2.1 55 = .ok (.bipush 40, 2) := by decide +kernel
theorem d_ru_foretellStep_57 : decode ru_foretellStep.2.1 57 = .ok (.if_icmp .ge 17, 3) := by decide +kernel
theorem d_ru_foretellStep_60 : decode ru_foretellStep.2.1 60 = .ok (.aload_n 2, 1) := by decide +kernel
theorem d_ru_foretellStep_61 : decode ru_foretellStep.2.1 61 = .ok (.iload 5, 2) := by decide +kernel
theorem d_ru_foretellStep_63 : decode ru_foretellStep.2.1 63 = .ok (.aload_n 2, 1) := by decide +kernel
theorem d_ru_foretellStep_64 : decode ru_foretellStep.2.1 64 = .ok (.iload 5, 2) := by decide +kernel
theorem d_ru_foretellStep_66 : decode ru_foretellStep.2.1 66 = .ok (.laload, 1) := by decide +kernel
theorem d_ru_foretellStep_67 : decode ru_foretellStep.2.1 67 = .ok (.aload_n 1, 1) := by decide +kernel
theorem d_ru_foretellStep_68 : decode ru_foretellStep.2.1 68 = .ok (.iload_n 3, 1) := by decide +kernel
theorem d_ru_foretellStep_69 : decode ru_foretellStep.2.1 69 = .ok (.laload, 1) := by decide +kernel
theorem d_ru_foretellStep_70 : decode ru_foretellStep.2.1 70 = .ok (.invokestatic 83, 3) := by decide +kernel
theorem d_ru_foretellStep_73 : decode ru_foretellStep.2.1 73 = .ok (.lastore, 1) := by decide +kernel
theorem d_ru_foretellStep_74 : decode ru_foretellStep.2.1 74 = .ok (.iinc 4 1, 3) := by decide +kernel
theorem d_ru_foretellStep_77 : decode ru_foretellStep.2.1 77 = .ok (.goto (-61), 3) := by decide +kernel
theorem d_ru_foretellStep_80 : decode ru_foretellStep.2.1 80 = .ok (.iinc 3 1, 3) := by decide +kernel
theorem d_ru_foretellStep_83 : decode ru_foretellStep.2.1 83 = .ok (.goto (-76), 3) := by decide +kernel
theorem d_ru_foretellStep_86 : decode ru_foretellStep.2.1 86 = .ok (.return_, 1) := by decide +kernel
theorem d_ru_sum_0 : decode ru_sum.2.1 0 = .ok (.lload_n 0, 1) := by decide +kernel
theorem d_ru_sum_1 : decode ru_sum.2.1 1 = .ok (.ldc2_w 87, 3) := by decide +kernel
theorem d_ru_sum_4 : decode ru_sum.2.1 4 = .ok (.lcmp, 1) := by decide +kernel
theorem d_ru_sum_5 : decode ru_sum.2.1 5 = .ok (.ifCond .eq 21, 3) := by decide +kernel
theorem d_ru_sum_8 : decode ru_sum.2.1 8 = .ok (.lload_n 2, 1) := by decide +kernel
theorem d_ru_sum_9 : decode ru_sum.2.1 9 = .ok (.ldc2_w 87, 3) := by decide +kernel
theorem d_ru_sum_12 : decode ru_sum.2.1 12 = .ok (.lcmp, 1) := by decide +kernel
theorem d_ru_sum_13 : decode ru_sum.2.1 13 = .ok (.ifCond .eq 13, 3) := by decide +kernel
theorem d_ru_sum_16 : decode ru_sum.2.1 16 = .ok (.lload_n 0, 1) := by decide +kernel
theorem d_ru_sum_17 : decode ru_sum.2.1 17 = .ok (.ldc2_w 91, 3) := by decide +kernel
theorem d_ru_sum_20 : decode ru_sum.2.1 20 = .ok (.lload_n 2, 1) := by decide +kernel
theorem d_ru_sum_21 : decode ru_sum.2.1 21 = .ok (.lsub, 1) := by decide +kernel
theorem d_ru_sum_22 : decode ru_sum.2.1 22 = .ok (.lcmp, 1) := by decide +kernel
theorem d_ru_sum_23 : decode ru_sum.2.1 23 = .ok (.ifCond .le 9, 3) := by decide +kernel
theorem d_ru_sum_26 : decode ru_sum.2.1 26 = .ok (.ldc2_w 87, 3) := by decide +kernel
theorem d_ru_sum_29 : decode ru_sum.2.1 29 = .ok (.goto 6, 3) := by decide +kernel
theorem d_ru_sum_32 : decode ru_sum.2.1 32 = .ok (.lload_n 0, 1) := by decide +kernel
theorem d_ru_sum_33 : decode ru_sum.2.1 33 = .ok (.lload_n 2, 1) := by decide +kernel
theorem d_ru_sum_34 : decode ru_sum.2.1 34 = .ok (.ladd, 1) := by decide +kernel
theorem d_ru_sum_35 : decode ru_sum.2.1 35 = .ok (.lreturn, 1) := by decide +kernel
theorem d_se_init_0 : decode se_init.2.1 0 = .ok (.aload_n 0, 1) := by decide +kernel
theorem d_se_init_1 : decode se_init.2.1 1 = .ok (.invokespecial 3, 3) := by decide +kernel
theorem d_se_init_4 : decode se_init.2.1 4 = .ok (.aload_n 0, 1) := by decide +kernel
theorem d_se_init_5 : decode se_init.2.1 5 = .ok (.bipush 64, 2) := by decide +kernel
theorem d_se_init_7 : decode se_init.2.1 7 = .ok (.newarray .int, 2) := by decide +kernel
theorem d_se_init_9 : decode se_init.2.1 9 = .ok (.putfield 11, 3) := by decide +kernel
theorem d_se_init_12 : decode se_init.2.1 12 = .ok (.aload_n 0, 1) := by decide +kernel
theorem d_se_init_13 : decode se_init.2.1 13 = .ok (.bipush 64, 2) := by decide +kernel
theorem d_se_init_15 : decode se_init.2.1 15 = .ok (.newarray .int, 2) := by decide +kernel
theorem d_se_init_17 : decode se_init.2.1 17 = .ok (.putfield 17, 3) := by decide +kernel
theorem d_se_init_20 : decode se_init.2.1 20 = .ok (.aload_n 0, 1) := by decide +kernel
theorem d_se_init_21 : decode se_init.2.1 21 = .ok (.aload_n 1, 1) := by decide +kernel
theorem d_se_init_22 : decode se_init.2.1 22 = .ok (.putfield 20, 3) := by decide +kernel
theorem d_se_init_25 : decode se_init.2.1 25 = .ok (.aload_n 0, 1) := by decide +kernel
theorem d_se_init_26 : decode se_init.2.1 26 = .ok (.aload_n 2, 1) := by decide +kernel
theorem d_se_init_27 : decode se_init.2.1 27 = .ok (.putfield 24, 3) := by decide +kernel
theorem d_se_init_30 : decode se_init.2.1 30 = .ok (.return_, 1) := by decide +kernel
theorem d_se_begin_0 : decode se_begin.2.1 0 = .ok (.aload_n 1, 1) := by decide +kernel
theorem d_se_begin_1 : decode se_begin.2.1 1 = .ok (.invokevirtual 28, 3) := by decide +kernel
theorem d_se_begin_4 : decode se_begin.2.1 4 = .ok (.aload_n 0, 1) := by decide +kernel
theorem d_se_begin_5 : decode se_begin.2.1 5 = .ok (.getfield 20, 3) := by decide +kernel
theorem d_se_begin_8 : decode se_begin.2.1 8 = .ok (.aload_n 1, 1) := by decide +kernel
theorem d_se_begin_9 : decode se_begin.2.1 9 = .ok (.invokevirtual 31, 3) := by decide +kernel
theorem d_se_begin_12 : decode se_begin.2.1 12 = .ok (.aload_n 0, 1) := by decide +kernel
theorem d_se_begin_13 : decode se_begin.2.1 13 = .ok (.iconst 0, 1) := by decide +kernel
theorem d_se_begin_14 : decode se_begin.2.1 14 = .ok (.putfield 37, 3) := by decide +kernel
theorem d_se_begin_17 : decode se_begin.2.1 17 = .ok (.aload_n 0, 1) := by decide +kernel
theorem d_se_begin_18 : decode se_begin.2.1 18 = .ok (.sipush 30000, 3) := by decide +kernel
theorem d_se_begin_21 : decode se_begin.2.1 21 = .ok (.ldc 41, 2) := by decide +kernel
theorem d_se_begin_23 : decode se_begin.2.1 23 = .ok (.aload_n 0, 1) := by decide +kernel
theorem d_se_begin_24 : decode se_begin.2.1 24 = .ok (.getfield 42, 3) := by decide +kernel
theorem d_se_begin_27 : decode se_begin.2.1 27 = .ok (.isub, 1) := by decide +kernel
theorem d_se_begin_28 : decode se_begin.2.1 28 = .ok (.invokestatic 45, 3) := by decide +kernel
theorem d_se_begin_31 : decode se_begin.2.1 31 = .ok (.putfield 51, 3) := by decide +kernel
theorem d_se_begin_34 : decode se_begin.2.1 34 = .ok (.aload_n 0, 1) := by decide +kernel
theorem d_se_begin_35 : decode se_begin.2.1 35 = .ok (.iload_n 2, 1) := by decide +kernel
theorem d_se_begin_36 : decode se_begin.2.1 36 = .ok (.putfield 54, 3) := by decide +kernel
theorem d_se_begin_39 : decode se_begin.2.1 39 = .ok (.aload_n 0, 1) := by decide +kernel
theorem d_se_begin_40 : decode se_begin.2.1 40 = .ok (.iconst 0, 1) := by decide +kernel
theorem d_se_begin_41 : decode se_begin.2.1 41 = .ok (.putfield 58, 3) := by decide +kernel
theorem d_se_begin_44 : decode se_begin.2.1 44 = .ok (.aload_n 0, 1) := by decide +kernel
theorem d_se_begin_45 : decode se_begin.2.1 45 = .ok (.aload_n 0, 1) := by decide +kernel
theorem d_se_begin_46 : decode se_begin.2.1 46 = .ok (.aload_n 1, 1) := by decide +kernel
theorem d_se_begin_47 : decode se_begin.2.1 47 = .ok (.invokevirtual 61, 3) := by decide +kernel
theorem d_se_begin_50 : decode se_begin.2.1 50 = .ok (.putfield 65, 3) := by decide +kernel
theorem d_se_begin_53 : decode se_begin.2.1 53 = .ok (.aload_n 0, 1) := by decide +kernel
theorem d_se_begin_54 : decode se_begin.2.1 54 = .ok (.iconst 0, 1) := by decide +kernel
theorem d_se_begin_55 : decode se_begin.2.1 55 = .ok (.putfield 68, 3) := by decide +kernel
theorem d_se_begin_58 : decode se_begin.2.1 58 = .ok (.aload_n 0, 1) := by decide +kernel
theorem d_se_begin_59 : decode se_begin.2.1 59 = .ok (.iconst 0, 1) := by decide +kernel
theorem d_se_begin_60 : decode se_begin.2.1 60 = .ok (.putfield 71, 3) := by decide +kernel
theorem d_se_begin_63 : decode se_begin.2.1 63 = .ok (.aload_n 0, 1) := by decide +kernel
theorem d_se_begin_64 : decode se_begin.2.1 64 = .ok (.iconst 1, 1) := by decide +kernel
theorem d_se_begin_65 : decode se_begin.2.1 65 = .ok (.putfield 74, 3) := by decide +kernel
theorem d_se_begin_68 : decode se_begin.2.1 68 = .ok (.return_, 1) := by decide +kernel
theorem d_se_leastCostOn_0 : decode se_leastCostOn.2.1 0 = .ok (.iconst (-1), 1) := by decide +kernel
theorem d_se_leastCostOn_1 : decode se_leastCostOn.2.1 1 = .ok (.istore_n 2, 1) := by decide +kernel
theorem d_se_leastCostOn_2 : decode se_leastCostOn.2.1 2 = .ok (.iconst 0, 1) := by decide +kernel
theorem d_se_leastCostOn_3 : decode se_leastCostOn.2.1 3 = .ok (.istore_n 3, 1) := by decide +kernel
theorem d_se_leastCostOn_4 : decode se_leastCostOn.2.1 4 = .ok (.iload_n 3, 1) := by decide +kernel
theorem d_se_leastCostOn_5 : decode se_leastCostOn.2.1 5 = .ok (.aload_n 0, 1) := by decide +kernel
theorem d_se_leastCostOn_6 : decode se_leastCostOn.2.1 6 = .ok (.getfield 24, 3) := by decide +kernel
theorem d_se_leastCostOn_9 : decode se_leastCostOn.2.1 9 = .ok (.getfield 77, 3) := by decide +kernel
theorem d_se_leastCostOn_12 : decode se_leastCostOn.2.1 12 = .ok (.if_icmp .ge 43, 3) := by decide +kernel
theorem d_se_leastCostOn_15 : decode se_leastCostOn.2.1 15 = .ok (.aload_n 1, 1) := by decide +kernel
theorem d_se_leastCostOn_16 : decode se_leastCostOn.2.1 16 = .ok (.iload_n 3, 1) := by decide +kernel
theorem d_se_leastCostOn_17 : decode se_leastCostOn.2.1 17 = .ok (.invokevirtual 82, 3) := by decide +kernel
theorem d_se_leastCostOn_20 : decode se_leastCostOn.2.1 20 = .ok (.ifCond .le 29, 3) := by decide +kernel
theorem d_se_leastCostOn_23 : decode se_leastCostOn.2.1 23 = .ok (.iload_n 2, 1) := by decide +kernel
theorem d_se_leastCostOn_24 : decode se_leastCostOn.2.1 24 = .ok (.iconst (-1), 1) := by decide +kernel
theorem d_se_leastCostOn_25 : decode se_leastCostOn.2.1 25 = .ok (.if_icmp .eq 15, 3) := by decide +kernel
theorem d_se_leastCostOn_28 : decode se_leastCostOn.2.1 28 = .ok (.aload_n 0, 1) := by decide +kernel
theorem d_se_leastCostOn_29 : decode se_leastCostOn.2.1 29 = .ok (.getfield 24, 3) := by decide +kernel
theorem d_se_leastCostOn_32 : decode se_leastCostOn.2.1 32 = .ok (.iload_n 3, 1) := by decide +kernel
theorem d_se_leastCostOn_33 : decode se_leastCostOn.2.1 33 = .ok (.invokevirtual 86, 3) := by decide +kernel
theorem d_se_leastCostOn_36 : decode se_leastCostOn.2.1 36 = .ok (.iload_n 2, 1) := by decide +kernel
theorem d_se_leastCostOn_37 : decode se_leastCostOn.2.1 37 = .ok (.if_icmp .ge 12, 3) := by decide +kernel
theorem d_se_leastCostOn_40 : decode se_leastCostOn.2.1 40 = .ok (.aload_n 0, 1) := by decide +kernel
theorem d_se_leastCostOn_41 : decode se_leastCostOn.2.1 41 = .ok (.getfield 24, 3) := by decide +kernel
theorem d_se_leastCostOn_44 : decode se_leastCostOn.2.1 44 = .ok (.iload_n 3, 1) := by decide +kernel
theorem d_se_leastCostOn_45 : decode se_leastCostOn.2.1 45 = .ok (.invokevirtual 86, 3) := by decide +kernel
theorem d_se_leastCostOn_48 : decode se_leastCostOn.2.1 48 = .ok (.istore_n 2, 1) := by decide +kernel
theorem d_se_leastCostOn_49 : decode se_leastCostOn.2.1 49 = .ok (.iinc 3 1, 3) := by decide +kernel
theorem d_se_leastCostOn_52 : decode se_leastCostOn.2.1 52 = .ok (.goto (-48), 3) := by decide +kernel
theorem d_se_leastCostOn_55 : decode se_leastCostOn.2.1 55 = .ok (.iconst 0, 1) := by decide +kernel
theorem d_se_leastCostOn_56 : decode se_leastCostOn.2.1 56 = .ok (.iload_n 2, 1) := by decide +kernel
theorem d_se_leastCostOn_57 : decode se_leastCostOn.2.1 57 = .ok (.invokestatic 89, 3) := by decide +kernel
theorem d_se_leastCostOn_60 : decode se_leastCostOn.2.1 60 = .ok (.ireturn, 1) := by decide +kernel
theorem d_se_explore_0 : decode se_explore.2.1 0 = .ok (.aload_n 0, 1) := by decide +kernel
theorem d_se_explore_1 : decode se_explore.2.1 1 = .ok (.getfield 20, 3) := by decide +kernel
theorem d_se_explore_4 : decode se_explore.2.1 4 = .ok (.invokevirtual 92, 3) := by decide +kernel
theorem d_se_explore_7 : decode se_explore.2.1 7 = .ok (.ifCond .ne 4, 3) := by decide +kernel
theorem d_se_explore_10 : decode se_explore.2.1 10 = .ok (.return_, 1) := by decide +kernel
theorem d_se_explore_11 : decode se_explore.2.1 11 = .ok (.aload_n 0, 1) := by decide +kernel
theorem d_se_explore_12 : decode se_explore.2.1 12 = .ok (.getfield 20, 3) := by decide +kernel
theorem d_se_explore_15 : decode se_explore.2.1 15 = .ok (.getfield 96, 3) := by decide +kernel
theorem d_se_explore_18 : decode se_explore.2.1 18 = .ok (.ifCond .ne 9, 3) := by decide +kernel
theorem d_se_explore_21 : decode se_explore.2.1 21 = .ok (.aload_n 0, 1) := by decide +kernel
theorem d_se_explore_22 : decode se_explore.2.1 22 = .ok (.aload_n 1, 1) := by decide +kernel
theorem d_se_explore_23 : decode se_explore.2.1 23 = .ok (.invokevirtual 99, 3) := by decide +kernel
theorem d_se_explore_26 : decode se_explore.2.1 26 = .ok (.return_, 1) := by decide +kernel
theorem d_se_explore_27 : decode se_explore.2.1 27 = .ok (.aload_n 0, 1) := by decide +kernel
theorem d_se_explore_28 : decode se_explore.2.1 28 = .ok (.iconst 0, 1) := by decide +kernel
theorem d_se_explore_29 : decode se_explore.2.1 29 = .ok (.invokevirtual 102, 3) := by decide +kernel
theorem d_se_explore_32 : decode se_explore.2.1 32 = .ok (.iconst 0, 1) := by decide +kernel
theorem d_se_explore_33 : decode se_explore.2.1 33 = .ok (.istore_n 3, 1) := by decide +kernel
theorem d_se_explore_34 : decode se_explore.2.1 34 = .ok (.iload_n 3, 1) := by decide +kernel
theorem d_se_explore_35 : decode se_explore.2.1 35 = .ok (.ldc 106, 2) := by decide +kernel
theorem d_se_explore_37 : decode se_explore.2.1 37 = .ok (.if_icmp .ge 131, 3) := by decide +kernel
theorem d_se_explore_40 : decode se_explore.2.1 40 = .ok (.aload_n 0, 1) := by decide +kernel
theorem d_se_explore_41 : decode se_explore.2.1 41 = .ok (.invokevirtual 107, 3) := by decide +kernel
theorem d_se_explore_44 : decode se_explore.2.1 44 = .ok (.istore 4, 2) := by decide +kernel
theorem d_se_explore_46 : decode se_explore.2.1 46 = .ok (.iload 4, 2) := by decide +kernel
theorem d_se_explore_48 : decode se_explore.2.1 48 = .ok (.iconst (-1), 1) := by decide +kernel
theorem d_se_explore_49 : decode se_explore.2.1 49 = .ok (.if_icmp .ne 24, 3) := by decide +kernel
theorem d_se_explore_52 : decode se_explore.2.1 52 = .ok (.aload_n 0, 1) := by decide +kernel
theorem d_se_explore_53 : decode se_explore.2.1 53 = .ok (.getfield 37, 3) := by decide +kernel
theorem d_se_explore_56 : decode se_explore.2.1 56 = .ok (.ifCond .ne 4, 3) := by decide +kernel
theorem d_se_explore_59 : decode se_explore.2.1 59 = .ok (.return_, 1) := by decide +kernel
theorem d_se_explore_60 : decode se_explore.2.1 60 = .ok (.aload_n 0, 1) := by decide +kernel
theorem d_se_explore_61 : decode se_explore.2.1 61 = .ok (.aload_n 0, 1) := by decide +kernel
theorem d_se_explore_62 : decode se_explore.2.1 62 = .ok (.getfield 37, 3) := by decide +kernel
theorem d_se_explore_65 : decode se_explore.2.1 65 = .ok (.iconst 1, 1) := by decide +kernel
theorem d_se_explore_66 : decode se_explore.2.1 66 = .ok (.isub, 1) := by decide +kernel
theorem d_se_explore_67 : decode se_explore.2.1 67 = .ok (.invokevirtual 111, 3) := by decide +kernel
theorem d_se_explore_70 : decode se_explore.2.1 70 = .ok (.goto 92, 3) := by decide +kernel
theorem d_se_explore_73 : decode se_explore.2.1 73 = .ok (.aload_n 0, 1) := by decide +kernel
theorem d_se_explore_74 : decode se_explore.2.1 74 = .ok (.getfield 51, 3) := by decide +kernel
theorem d_se_explore_77 : decode se_explore.2.1 77 = .ok (.iconst 1, 1) := by decide +kernel
theorem d_se_explore_78 : decode se_explore.2.1 78 = .ok (.if_icmp .ge 9, 3) := by decide +kernel
theorem d_se_explore_81 : decode se_explore.2.1 81 = .ok (.aload_n 0, 1) := by decide +kernel
theorem d_se_explore_82 : decode se_explore.2.1 82 = .ok (.iconst 0, 1) := by decide +kernel
theorem d_se_explore_83 : decode se_explore.2.1 83 = .ok (.putfield 74, 3) := by decide +kernel
theorem d_se_explore_86 : decode se_explore.2.1 86 = .ok (.return_, 1) := by decide +kernel
theorem d_se_explore_87 : decode se_explore.2.1 87 = .ok (.aload_n 0, 1) := by decide +kernel
theorem d_se_explore_88 : decode se_explore.2.1 88 = .ok (.iload 4, 2) := by decide +kernel
theorem d_se_explore_90 : decode se_explore.2.1 90 = .ok (.invokevirtual 114, 3) := by decide +kernel
theorem d_se_explore_93 : decode se_explore.2.1 93 = .ok (.aload_n 0, 1) := by decide +kernel
theorem d_se_explore_94 : decode se_explore.2.1 94 = .ok (.getfield 20, 3) := by decide +kernel
theorem d_se_explore_97 : decode se_explore.2.1 97 = .ok (.aload_n 0, 1) := by decide +kernel
theorem d_se_explore_98 : decode se_explore.2.1 98 = .ok (.getfield 11, 3) := by decide +kernel
theorem d_se_explore_101 : decode se_explore.2.1 101 = .ok (.aload_n 0, 1) := by decide +kernel
theorem d_se_explore_102 : decode se_explore.2.1 102 = .ok (.getfield 37, 3) := by decide +kernel
theorem d_se_explore_105 : decode se_explore.2.1 105 = .ok (.iaload, 1) := by decide +kernel
theorem d_se_explore_106 : decode se_explore.2.1 106 = .ok (.iload 4, 2) := by decide +kernel
theorem d_se_explore_108 : decode se_explore.2.1 108 = .ok (.invokevirtual 117, 3) := by decide +kernel
theorem d_se_explore_111 : decode se_explore.2.1 111 = .ok (.aload_n 0, 1) := by decide +kernel
theorem d_se_explore_112 : decode se_explore.2.1 112 = .ok (.getfield 37, 3) := by decide +kernel
theorem d_se_explore_115 : decode se_explore.2.1 115 = .ok (.iconst 1, 1) := by decide +kernel
theorem d_se_explore_116 : decode se_explore.2.1 116 = .ok (.iadd, 1) := by decide +kernel
theorem d_se_explore_117 : decode se_explore.2.1 117 = .ok (.aload_n 0, 1) := by decide +kernel
theorem d_se_explore_118 : decode se_explore.2.1 118 = .ok (.getfield 20, 3) := by decide +kernel
theorem d_se_explore_121 : decode se_explore.2.1 121 = .ok (.getfield 96, 3) := by decide +kernel
theorem d_se_explore_124 : decode se_explore.2.1 124 = .ok (.if_icmp .ge 16, 3) := by decide +kernel
theorem d_se_explore_127 : decode se_explore.2.1 127 = .ok (.aload_n 0, 1) := by decide +kernel
theorem d_se_explore_128 : decode se_explore.2.1 128 = .ok (.aload_n 0, 1) := by decide +kernel
theorem d_se_explore_129 : decode se_explore.2.1 129 = .ok (.getfield 37, 3) := by decide +kernel
theorem d_se_explore_132 : decode se_explore.2.1 132 = .ok (.iconst 1, 1) := by decide +kernel
theorem d_se_explore_133 : decode se_explore.2.1 133 = .ok (.iadd, 1) := by decide +kernel
theorem d_se_explore_134 : decode se_explore.2.1 134 = .ok (.invokevirtual 102, 3) := by decide +kernel
theorem d_se_explore_137 : decode se_explore.2.1 137 = .ok (.goto 25, 3) := by decide +kernel
theorem d_se_explore_140 : decode se_explore.2.1 140 = .ok (.aload_n 0, 1) := by decide +kernel
theorem d_se_explore_141 : decode se_explore.2.1 141 = .ok (.aload_n 1, 1) := by decide +kernel
theorem d_se_explore_142 : decode se_explore.2.1 142 = .ok (.invokevirtual 99, 3) := by decide +kernel
theorem d_se_explore_145 : decode se_explore.2.1 145 = .ok (.aload_n 0, 1) := by decide +kernel
theorem d_se_explore_146 : decode se_explore.2.1 146 = .ok (.getfield 68, 3) := by decide +kernel
theorem d_se_explore_149 : decode se_explore.2.1 149 = .ok (.iload_n 2, 1) := by decide +kernel
theorem d_se_explore_150 : decode se_explore.2.1 150 = .ok (.if_icmp .lt 4, 3) := by decide +kernel
theorem d_se_explore_153 : decode se_explore.2.1 153 = .ok (.return_, 1) := by decide +kernel
theorem d_se_explore_154 : decode se_explore.2.1 154 = .ok (.aload_n 0, 1) := by decide +kernel
theorem d_se_explore_155 : decode se_explore.2.1 155 = .ok (.aload_n 0, 1) := by decide +kernel
theorem d_se_explore_156 : decode se_explore.2.1 156 = .ok (.getfield 37, 3) := by decide +kernel
theorem d_se_explore_159 : decode se_explore.2.1 159 = .ok (.invokevirtual 111, 3) := by decide +kernel
theorem d_se_explore_162 : decode se_explore.2.1 162 = .ok (.iinc 3 1, 3) := by decide +kernel
theorem d_se_explore_165 : decode se_explore.2.1 165 = .ok (.goto (-131), 3) := by decide +kernel
theorem d_se_explore_168 : decode se_explore.2.1 168 = .ok (.aload_n 0, 1) := by decide +kernel
theorem d_se_explore_169 : decode se_explore.2.1 169 = .ok (.iconst 0, 1) := by decide +kernel
theorem d_se_explore_170 : decode se_explore.2.1 170 = .ok (.putfield 74, 3) := by decide +kernel
theorem d_se_explore_173 : decode se_explore.2.1 173 = .ok (.return_, 1) := by decide +kernel
theorem d_se_openDepth_0 : decode se_openDepth.2.1 0 = .ok (.iload_n 1, 1) := by decide +kernel
theorem d_se_openDepth_1 : decode se_openDepth.2.1 1 = .ok (.ifCond .lt 34, 3) := by decide +kernel
theorem d_se_openDepth_4 : decode se_openDepth.2.1 4 = .ok (.iload_n 1, 1) := by decide +kernel
theorem d_se_openDepth_5 : decode se_openDepth.2.1 5 = .ok (.bipush 64, 2) := by decide +kernel
theorem d_se_openDepth_7 : decode se_openDepth.2.1 7 = .ok (.if_icmp .ge 28, 3) := by decide +kernel
theorem d_se_openDepth_10 : decode se_openDepth.2.1 10 = .ok (.aload_n 0, 1) := by decide +kernel
theorem d_se_openDepth_11 : decode se_openDepth.2.1 11 = .ok (.iload_n 1, 1) := by decide +kernel
theorem d_se_openDepth_12 : decode se_openDepth.2.1 12 = .ok (.putfield 37, 3) := by decide +kernel
theorem d_se_openDepth_15 : decode se_openDepth.2.1 15 = .ok (.aload_n 0, 1) := by decide +kernel
theorem d_se_openDepth_16 : decode se_openDepth.2.1 16 = .ok (.getfield 11, 3) := by decide +kernel
theorem d_se_openDepth_19 : decode se_openDepth.2.1 19 = .ok (.iload_n 1, 1) := by decide +kernel
theorem d_se_openDepth_20 : decode se_openDepth.2.1 20 = .ok (.aload_n 0, 1) := by decide +kernel
theorem d_se_openDepth_21 : decode se_openDepth.2.1 21 = .ok (.getfield 20, 3) := by decide +kernel
theorem d_se_openDepth_24 : decode se_openDepth.2.1 24 = .ok (.invokevirtual 121, 3) := by decide +kernel
theorem d_se_openDepth_27 : decode se_openDepth.2.1 27 = .ok (.iastore, 1) := by decide +kernel
theorem d_se_openDepth_28 : decode se_openDepth.2.1 28 = .ok (.aload_n 0, 1) := by decide +kernel
theorem d_se_openDepth_29 : decode se_openDepth.2.1 29 = .ok (.getfield 17, 3) := by decide +kernel
theorem d_se_openDepth_32 : decode se_openDepth.2.1 32 = .ok (.iload_n 1, 1) := by decide +kernel
theorem d_se_openDepth_33 : decode se_openDepth.2.1 33 = .ok (.iconst (-1), 1) := by decide +kernel
theorem d_se_openDepth_34 : decode se_openDepth.2.1 34 = .ok (.iastore, 1) := by decide +kernel
theorem d_se_openDepth_35 : decode se_openDepth.2.1 35 = .ok (.return_, 1) := by decide +kernel
theorem d_se_openAgain_0 : decode se_openAgain.2.1 0 = .ok (.iload_n 1, 1) := by decide +kernel
theorem d_se_openAgain_1 : decode se_openAgain.2.1 1 = .ok (.ifCond .lt 52, 3) := by decide +kernel
theorem d_se_openAgain_4 : decode se_openAgain.2.1 4 = .ok (.iload_n 1, 1) := by decide +kernel
theorem d_se_openAgain_5 : decode se_openAgain.2.1 5 = .ok (.bipush 64, 2) := by decide +kernel
theorem d_se_openAgain_7 : decode se_openAgain.2.1 7 = .ok (.if_icmp .ge 46, 3) := by decide +kernel
theorem d_se_openAgain_10 : decode se_openAgain.2.1 10 = .ok (.aload_n 0, 1) := by decide +kernel
theorem d_se_openAgain_11 : decode se_openAgain.2.1 11 = .ok (.iload_n 1, 1) := by decide +kernel
theorem d_se_openAgain_12 : decode se_openAgain.2.1 12 = .ok (.putfield 37, 3) := by decide +kernel
theorem d_se_openAgain_15 : decode se_openAgain.2.1 15 = .ok (.aload_n 0, 1) := by decide +kernel
theorem d_se_openAgain_16 : decode se_openAgain.2.1 16 = .ok (.getfield 20, 3) := by decide +kernel
theorem d_se_openAgain_19 : decode se_openAgain.2.1 19 = .ok (.aload_n 0, 1) := by decide +kernel
theorem d_se_openAgain_20 : decode se_openAgain.2.1 20 = .ok (.getfield 11, 3) := by decide +kernel
theorem d_se_openAgain_23 : decode se_openAgain.2.1 23 = .ok (.iload_n 1, 1) := by decide +kernel
theorem d_se_openAgain_24 : decode se_openAgain.2.1 24 = .ok (.iaload, 1) := by decide +kernel
theorem d_se_openAgain_25 : decode se_openAgain.2.1 25 = .ok (.aload_n 0, 1) := by decide +kernel
theorem d_se_openAgain_26 : decode se_openAgain.2.1 26 = .ok (.getfield 17, 3) := by decide +kernel
theorem d_se_openAgain_29 : decode se_openAgain.2.1 29 = .ok (.iload_n 1, 1) := by decide +kernel
theorem d_se_openAgain_30 : decode se_openAgain.2.1 30 = .ok (.iaload, 1) := by decide +kernel
theorem d_se_openAgain_31 : decode se_openAgain.2.1 31 = .ok (.invokevirtual 124, 3) := by decide +kernel
theorem d_se_openAgain_34 : decode se_openAgain.2.1 34 = .ok (.aload_n 0, 1) := by decide +kernel
theorem d_se_openAgain_35 : decode se_openAgain.2.1 35 = .ok (.dup, 1) := by decide +kernel
theorem d_se_openAgain_36 : decode se_openAgain.2.1 36 = .ok (.getfield 58, 3) := by decide +kernel
theorem d_se_openAgain_39 : decode se_openAgain.2.1 39 = .ok (.aload_n 0, 1) := by decide +kernel
theorem d_se_openAgain_40 : decode se_openAgain.2.1 40 = .ok (.aload_n 0, 1) := by decide +kernel
theorem d_se_openAgain_41 : decode se_openAgain.2.1 41 = .ok (.getfield 17, 3) := by decide +kernel
theorem d_se_openAgain_44 : decode se_openAgain.2.1 44 = .ok (.iload_n 1, 1) := by decide +kernel
theorem d_se_openAgain_45 : decode se_openAgain.2.1 45 = .ok (.iaload, 1) := by decide +kernel
theorem d_se_openAgain_46 : decode se_openAgain.2.1 46 = .ok (.invokevirtual 127, 3) := by decide +kernel
theorem d_se_openAgain_49 : decode se_openAgain.2.1 49 = .ok (.isub, 1) := by decide +kernel
theorem d_se_openAgain_50 : decode se_openAgain.2.1 50 = .ok (.putfield 58, 3) := by decide +kernel
theorem d_se_openAgain_53 : decode se_openAgain.2.1 53 = .ok (.return_, 1) := by decide +kernel
theorem d_se_nextTry_0 : decode se_nextTry.2.1 0 = .ok (.aload_n 0, 1) := by decide +kernel
theorem d_se_nextTry_1 : decode se_nextTry.2.1 1 = .ok (.getfield 11, 3) := by decide +kernel
theorem d_se_nextTry_4 : decode se_nextTry.2.1 4 = .ok (.aload_n 0, 1) := by decide +kernel
theorem d_se_nextTry_5 : decode se_nextTry.2.1 5 = .ok (.getfield 37, 3) := by decide +kernel
theorem d_se_nextTry_8 : decode se_nextTry.2.1 8 = .ok (.iaload, 1) := by decide +kernel
theorem d_se_nextTry_9 : decode se_nextTry.2.1 9 = .ok (.istore_n 1, 1) := by decide +kernel
theorem d_se_nextTry_10 : decode se_nextTry.2.1 10 = .ok (.aload_n 0, 1) := by decide +kernel
theorem d_se_nextTry_11 : decode se_nextTry.2.1 11 = .ok (.getfield 17, 3) := by decide +kernel
theorem d_se_nextTry_14 : decode se_nextTry.2.1 14 = .ok (.aload_n 0, 1) := by decide +kernel
theorem d_se_nextTry_15 : decode se_nextTry.2.1 15 = .ok (.getfield 37, 3) := by decide +kernel
theorem d_se_nextTry_18 : decode se_nextTry.2.1 18 = .ok (.iaload, 1) := by decide +kernel
theorem d_se_nextTry_19 : decode se_nextTry.2.1 19 = .ok (.istore_n 2, 1) := by decide +kernel
theorem d_se_nextTry_20 : decode se_nextTry.2.1 20 = .ok (.iconst 0, 1) := by decide +kernel
theorem d_se_nextTry_21 : decode se_nextTry.2.1 21 = .ok (.istore_n 3, 1) := by decide +kernel
theorem d_se_nextTry_22 : decode se_nextTry.2.1 22 = .ok (.iload_n 3, 1) := by decide +kernel
theorem d_se_nextTry_23 : decode se_nextTry.2.1 23 = .ok (.aload_n 0, 1) := by decide +kernel
theorem d_se_nextTry_24 : decode se_nextTry.2.1 24 = .ok (.getfield 20, 3) := by decide +kernel
theorem d_se_nextTry_27 : decode se_nextTry.2.1 27 = .ok (.getfield 128, 3) := by decide +kernel
theorem d_se_nextTry_30 : decode se_nextTry.2.1 30 = .ok (.getfield 132, 3) := by decide +kernel
theorem d_se_nextTry_33 : decode se_nextTry.2.1 33 = .ok (.if_icmp .gt 34, 3) := by decide +kernel
theorem d_se_nextTry_36 : decode se_nextTry.2.1 36 = .ok (.aload_n 0, 1) := by decide +kernel
theorem d_se_nextTry_37 : decode se_nextTry.2.1 37 = .ok (.getfield 20, 3) := by decide +kernel
theorem d_se_nextTry_40 : decode se_nextTry.2.1 40 = .ok (.iload_n 1, 1) := by decide +kernel
theorem d_se_nextTry_41 : decode se_nextTry.2.1 41 = .ok (.iload_n 2, 1) := by decide +kernel
theorem d_se_nextTry_42 : decode se_nextTry.2.1 42 = .ok (.invokevirtual 137, 3) := by decide +kernel
theorem d_se_nextTry_45 : decode se_nextTry.2.1 45 = .ok (.istore_n 2, 1) := by decide +kernel
theorem d_se_nextTry_46 : decode se_nextTry.2.1 46 = .ok (.iload_n 2, 1) := by decide +kernel
theorem d_se_nextTry_47 : decode se_nextTry.2.1 47 = .ok (.iconst (-1), 1) := by decide +kernel
theorem d_se_nextTry_48 : decode se_nextTry.2.1 48 = .ok (.if_icmp .eq 11, 3) := by decide +kernel
theorem d_se_nextTry_51 : decode se_nextTry.2.1 51 = .ok (.aload_n 0, 1) := by decide +kernel
theorem d_se_nextTry_52 : decode se_nextTry.2.1 52 = .ok (.iload_n 2, 1) := by decide +kernel
theorem d_se_nextTry_53 : decode se_nextTry.2.1 53 = .ok (.invokevirtual 140, 3) := by decide +kernel
theorem d_se_nextTry_56 : decode se_nextTry.2.1 56 = .ok (.ifCond .ne 5, 3) := by decide +kernel
theorem d_se_nextTry_59 : decode se_nextTry.2.1 59 = .ok (.iload_n 2, 1) := by decide +kernel
theorem d_se_nextTry_60 : decode se_nextTry.2.1 60 = .ok (.ireturn, 1) := by decide +kernel
theorem d_se_nextTry_61 : decode se_nextTry.2.1 61 = .ok (.iinc 3 1, 3) := by decide +kernel
theorem d_se_nextTry_64 : decode se_nextTry.2.1 64 = .ok (.goto (-42), 3) := by decide +kernel
theorem d_se_nextTry_67 : decode se_nextTry.2.1 67 = .ok (.iconst (-1), 1) := by decide +kernel
theorem d_se_nextTry_68 : decode se_nextTry.2.1 68 = .ok (.ireturn, 1) := by decide +kernel
theorem d_se_isPassedOver_0 : decode se_isPassedOver.2.1 0 = .ok (.aload_n 0, 1) := by decide +kernel
theorem d_se_isPassedOver_1 : decode se_isPassedOver.2.1 1 = .ok (.getfield 20, 3) := by decide +kernel
theorem d_se_isPassedOver_4 : decode se_isPassedOver.2.1 4 = .ok (.getfield 96, 3) := by decide +kernel
theorem d_se_isPassedOver_7 : decode se_isPassedOver.2.1 7 = .ok (.aload_n 0, 1) := by decide +kernel
theorem d_se_isPassedOver_8 : decode se_isPassedOver.2.1 8 = .ok (.getfield 37, 3) := by decide +kernel
theorem d_se_isPassedOver_11 : decode se_isPassedOver.2.1 11 = .ok (.isub, 1) := by decide +kernel
theorem d_se_isPassedOver_12 : decode se_isPassedOver.2.1 12 = .ok (.iconst 1, 1) := by decide +kernel
theorem d_se_isPassedOver_13 : decode se_isPassedOver.2.1 13 = .ok (.isub, 1) := by decide +kernel
theorem d_se_isPassedOver_14 : decode se_isPassedOver.2.1 14 = .ok (.istore_n 2, 1) := by decide +kernel
theorem d_se_isPassedOver_15 : decode se_isPassedOver.2.1 15 = .ok (.aload_n 0, 1) := by decide +kernel
theorem d_se_isPassedOver_16 : decode se_isPassedOver.2.1 16 = .ok (.getfield 54, 3) := by decide +kernel
theorem d_se_isPassedOver_19 : decode se_isPassedOver.2.1 19 = .ok (.ifCond .eq 38, 3) := by decide +kernel
theorem d_se_isPassedOver_22 : decode se_isPassedOver.2.1 22 = .ok (.aload_n 0, 1) := by decide +kernel
theorem d_se_isPassedOver_23 : decode se_isPassedOver.2.1 23 = .ok (.getfield 68, 3) := by decide +kernel
theorem d_se_isPassedOver_26 : decode se_isPassedOver.2.1 26 = .ok (.ifCond .le 31, 3) := by decide +kernel
theorem d_se_isPassedOver_29 : decode se_isPassedOver.2.1 29 = .ok (.aload_n 0, 1) := by decide +kernel
theorem d_se_isPassedOver_30 : decode se_isPassedOver.2.1 30 = .ok (.getfield 58, 3) := by decide +kernel
theorem d_se_isPassedOver_33 : decode se_isPassedOver.2.1 33 = .ok (.aload_n 0, 1) := by decide +kernel
theorem d_se_isPassedOver_34 : decode se_isPassedOver.2.1 34 = .ok (.iload_n 1, 1) := by decide +kernel
theorem d_se_isPassedOver_35 : decode se_isPassedOver.2.1 35 = .ok (.invokevirtual 127, 3) := by decide +kernel
theorem d_se_isPassedOver_38 : decode se_isPassedOver.2.1 38 = .ok (.iadd, 1) := by decide +kernel
theorem d_se_isPassedOver_39 : decode se_isPassedOver.2.1 39 = .ok (.iload_n 2, 1) := by decide +kernel
theorem d_se_isPassedOver_40 : decode se_isPassedOver.2.1 40 = .ok (.aload_n 0, 1) := by decide +kernel
theorem d_se_isPassedOver_41 : decode se_isPassedOver.2.1 41 = .ok (.getfield 65, 3) := by decide +kernel
theorem d_se_isPassedOver_44 : decode se_isPassedOver.2.1 44 = .ok (.imul, 1) := by decide +kernel
theorem d_se_isPassedOver_45 : decode se_isPassedOver.2.1 45 = .ok (.iadd, 1) := by decide +kernel
theorem d_se_isPassedOver_46 : decode se_isPassedOver.2.1 46 = .ok (.aload_n 0, 1) := by decide +kernel
theorem d_se_isPassedOver_47 : decode se_isPassedOver.2.1 47 = .ok (.getfield 71, 3) := by decide +kernel
theorem d_se_isPassedOver_50 : decode se_isPassedOver.2.1 50 = .ok (.if_icmp .lt 7, 3) := by decide +kernel
theorem d_se_isPassedOver_53 : decode se_isPassedOver.2.1 53 = .ok (.iconst 1, 1) := by decide +kernel
theorem d_se_isPassedOver_54 : decode se_isPassedOver.2.1 54 = .ok (.goto 4, 3) := by decide +kernel
theorem d_se_isPassedOver_57 : decode se_isPassedOver.2.1 57 = .ok (.iconst 0, 1) := by decide +kernel
theorem d_se_isPassedOver_58 : decode se_isPassedOver.2.1 58 = .ok (.ireturn, 1) := by decide +kernel
theorem d_se_noteTry_0 : decode se_noteTry.2.1 0 = .ok (.aload_n 0, 1) := by decide +kernel
theorem d_se_noteTry_1 : decode se_noteTry.2.1 1 = .ok (.dup, 1) := by decide +kernel
theorem d_se_noteTry_2 : decode se_noteTry.2.1 2 = .ok (.getfield 51, 3) := by decide +kernel
theorem d_se_noteTry_5 : decode se_noteTry.2.1 5 = .ok (.iconst 1, 1) := by decide +kernel
theorem d_se_noteTry_6 : decode se_noteTry.2.1 6 = .ok (.isub, 1) := by decide +kernel
theorem d_se_noteTry_7 : decode se_noteTry.2.1 7 = .ok (.putfield 51, 3) := by decide +kernel
theorem d_se_noteTry_10 : decode se_noteTry.2.1 10 = .ok (.aload_n 0, 1) := by decide +kernel
theorem d_se_noteTry_11 : decode se_noteTry.2.1 11 = .ok (.dup, 1) := by decide +kernel
theorem d_se_noteTry_12 : decode se_noteTry.2.1 12 = .ok (.getfield 42, 3) := by decide +kernel
theorem d_se_noteTry_15 : decode se_noteTry.2.1 15 = .ok (.iconst 1, 1) := by decide +kernel
theorem d_se_noteTry_16 : decode se_noteTry.2.1 16 = .ok (.iadd, 1) := by decide +kernel
theorem d_se_noteTry_17 : decode se_noteTry.2.1 17 = .ok (.putfield 42, 3) := by decide +kernel
theorem d_se_noteTry_20 : decode se_noteTry.2.1 20 = .ok (.aload_n 0, 1) := by decide +kernel
theorem d_se_noteTry_21 : decode se_noteTry.2.1 21 = .ok (.getfield 17, 3) := by decide +kernel
theorem d_se_noteTry_24 : decode se_noteTry.2.1 24 = .ok (.aload_n 0, 1) := by decide +kernel
theorem d_se_noteTry_25 : decode se_noteTry.2.1 25 = .ok (.getfield 37, 3) := by decide +kernel
theorem d_se_noteTry_28 : decode se_noteTry.2.1 28 = .ok (.iload_n 1, 1) := by decide +kernel
theorem d_se_noteTry_29 : decode se_noteTry.2.1 29 = .ok (.iastore, 1) := by decide +kernel
theorem d_se_noteTry_30 : decode se_noteTry.2.1 30 = .ok (.aload_n 0, 1) := by decide +kernel
theorem d_se_noteTry_31 : decode se_noteTry.2.1 31 = .ok (.dup, 1) := by decide +kernel
theorem d_se_noteTry_32 : decode se_noteTry.2.1 32 = .ok (.getfield 58, 3) := by decide +kernel
theorem d_se_noteTry_35 : decode se_noteTry.2.1 35 = .ok (.aload_n 0, 1) := by decide +kernel
theorem d_se_noteTry_36 : decode se_noteTry.2.1 36 = .ok (.iload_n 1, 1) := by decide +kernel
theorem d_se_noteTry_37 : decode se_noteTry.2.1 37 = .ok (.invokevirtual 127, 3) := by decide +kernel
theorem d_se_noteTry_40 : decode se_noteTry.2.1 40 = .ok (.iadd, 1) := by decide +kernel
theorem d_se_noteTry_41 : decode se_noteTry.2.1 41 = .ok (.putfield 58, 3) := by decide +kernel
theorem d_se_noteTry_44 : decode se_noteTry.2.1 44 = .ok (.return_, 1) := by decide +kernel
theorem d_se_costOf_0 : decode se_costOf.2.1 0 = .ok (.aload_n 0, 1) := by decide +kernel
theorem d_se_costOf_1 : decode se_costOf.2.1 1 = .ok (.getfield 24, 3) := by decide +kernel
theorem d_se_costOf_4 : decode se_costOf.2.1 4 = .ok (.aload_n 0, 1) := by decide +kernel
theorem d_se_costOf_5 : decode se_costOf.2.1 5 = .ok (.getfield 20, 3) := by decide +kernel
theorem d_se_costOf_8 : decode se_costOf.2.1 8 = .ok (.getfield 128, 3) := by decide +kernel
theorem d_se_costOf_11 : decode se_costOf.2.1 11 = .ok (.iload_n 1, 1) := by decide +kernel
theorem d_se_costOf_12 : decode se_costOf.2.1 12 = .ok (.invokevirtual 144, 3) := by decide +kernel
theorem d_se_costOf_15 : decode se_costOf.2.1 15 = .ok (.invokevirtual 86, 3) := by decide +kernel
theorem d_se_costOf_18 : decode se_costOf.2.1 18 = .ok (.ireturn, 1) := by decide +kernel
theorem d_se_noteFill_0 : decode se_noteFill.2.1 0 = .ok (.aload_n 0, 1) := by decide +kernel
theorem d_se_noteFill_1 : decode se_noteFill.2.1 1 = .ok (.dup, 1) := by decide +kernel
theorem d_se_noteFill_2 : decode se_noteFill.2.1 2 = .ok (.getfield 68, 3) := by decide +kernel
theorem d_se_noteFill_5 : decode se_noteFill.2.1 5 = .ok (.iconst 1, 1) := by decide +kernel
theorem d_se_noteFill_6 : decode se_noteFill.2.1 6 = .ok (.iadd, 1) := by decide +kernel
theorem d_se_noteFill_7 : decode se_noteFill.2.1 7 = .ok (.putfield 68, 3) := by decide +kernel
theorem d_se_noteFill_10 : decode se_noteFill.2.1 10 = .ok (.aload_n 0, 1) := by decide +kernel
theorem d_se_noteFill_11 : decode se_noteFill.2.1 11 = .ok (.aload_n 0, 1) := by decide +kernel
theorem d_se_noteFill_12 : decode se_noteFill.2.1 12 = .ok (.getfield 58, 3) := by decide +kernel
theorem d_se_noteFill_15 : decode se_noteFill.2.1 15 = .ok (.putfield 71, 3) := by decide +kernel
theorem d_se_noteFill_18 : decode se_noteFill.2.1 18 = .ok (.aload_n 0, 1) := by decide +kernel
theorem d_se_noteFill_19 : decode se_noteFill.2.1 19 = .ok (.getfield 20, 3) := by decide +kernel
theorem d_se_noteFill_22 : decode se_noteFill.2.1 22 = .ok (.aload_n 1, 1) := by decide +kernel
theorem d_se_noteFill_23 : decode se_noteFill.2.1 23 = .ok (.invokevirtual 147, 3) := by decide +kernel
theorem d_se_noteFill_26 : decode se_noteFill.2.1 26 = .ok (.return_, 1) := by decide +kernel
theorem d_to_init_0 : decode to_init.2.1 0 = .ok (.aload_n 0, 1) := by decide +kernel
theorem d_to_init_1 : decode to_init.2.1 1 = .ok (.invokespecial 1, 3) := by decide +kernel
theorem d_to_init_4 : decode to_init.2.1 4 = .ok (.new 7, 3) := by decide +kernel
theorem d_to_init_7 : decode to_init.2.1 7 = .ok (.dup, 1) := by decide +kernel
theorem d_to_init_8 : decode to_init.2.1 8 = .ok (.invokespecial 9, 3) := by decide +kernel
theorem d_to_init_11 : decode to_init.2.1 11 = .ok (.astore_n 1, 1) := by decide +kernel
theorem d_to_init_12 : decode to_init.2.1 12 = .ok (.new 10, 3) := by decide +kernel
theorem d_to_init_15 : decode to_init.2.1 15 = .ok (.dup, 1) := by decide +kernel
theorem d_to_init_16 : decode to_init.2.1 16 = .ok (.new 12, 3) := by decide +kernel
theorem d_to_init_19 : decode to_init.2.1 19 = .ok (.dup, 1) := by decide +kernel
theorem d_to_init_20 : decode to_init.2.1 20 = .ok (.aload_n 1, 1) := by decide +kernel
theorem d_to_init_21 : decode to_init.2.1 21 = .ok (.invokespecial 14, 3) := by decide +kernel
theorem d_to_init_24 : decode to_init.2.1 24 = .ok (.invokespecial 17, 3) := by decide +kernel
theorem d_to_init_27 : decode to_init.2.1 27 = .ok (.astore_n 2, 1) := by decide +kernel
theorem d_to_init_28 : decode to_init.2.1 28 = .ok (.aload_n 0, 1) := by decide +kernel
theorem d_to_init_29 : decode to_init.2.1 29 = .ok (.aload_n 1, 1) := by decide +kernel
theorem d_to_init_30 : decode to_init.2.1 30 = .ok (.putfield 20, 3) := by decide +kernel
theorem d_to_init_33 : decode to_init.2.1 33 = .ok (.aload_n 0, 1) := by decide +kernel
theorem d_to_init_34 : decode to_init.2.1 34 = .ok (.aload_n 2, 1) := by decide +kernel
theorem d_to_init_35 : decode to_init.2.1 35 = .ok (.putfield 26, 3) := by decide +kernel
theorem d_to_init_38 : decode to_init.2.1 38 = .ok (.aload_n 0, 1) := by decide +kernel
theorem d_to_init_39 : decode to_init.2.1 39 = .ok (.new 30, 3) := by decide +kernel
theorem d_to_init_42 : decode to_init.2.1 42 = .ok (.dup, 1) := by decide +kernel
theorem d_to_init_43 : decode to_init.2.1 43 = .ok (.aload_n 2, 1) := by decide +kernel
theorem d_to_init_44 : decode to_init.2.1 44 = .ok (.aload_n 1, 1) := by decide +kernel
theorem d_to_init_45 : decode to_init.2.1 45 = .ok (.invokespecial 32, 3) := by decide +kernel
theorem d_to_init_48 : decode to_init.2.1 48 = .ok (.putfield 35, 3) := by decide +kernel
theorem d_to_init_51 : decode to_init.2.1 51 = .ok (.aload_n 0, 1) := by decide +kernel
theorem d_to_init_52 : decode to_init.2.1 52 = .ok (.new 39, 3) := by decide +kernel
theorem d_to_init_55 : decode to_init.2.1 55 = .ok (.dup, 1) := by decide +kernel
theorem d_to_init_56 : decode to_init.2.1 56 = .ok (.invokespecial 41, 3) := by decide +kernel
theorem d_to_init_59 : decode to_init.2.1 59 = .ok (.putfield 42, 3) := by decide +kernel
theorem d_to_init_62 : decode to_init.2.1 62 = .ok (.aload_n 0, 1) := by decide +kernel
theorem d_to_init_63 : decode to_init.2.1 63 = .ok (.bipush 16, 2) := by decide +kernel
theorem d_to_init_65 : decode to_init.2.1 65 = .ok (.anewarray 46, 3) := by decide +kernel
theorem d_to_init_68 : decode to_init.2.1 68 = .ok (.putfield 48, 3) := by decide +kernel
theorem d_to_init_71 : decode to_init.2.1 71 = .ok (.aload_n 0, 1) := by decide +kernel
theorem d_to_init_72 : decode to_init.2.1 72 = .ok (.new 52, 3) := by decide +kernel
theorem d_to_init_75 : decode to_init.2.1 75 = .ok (.dup, 1) := by decide +kernel
theorem d_to_init_76 : decode to_init.2.1 76 = .ok (.invokespecial 54, 3) := by decide +kernel
theorem d_to_init_79 : decode to_init.2.1 79 = .ok (.putfield 55, 3) := by decide +kernel
theorem d_to_init_82 : decode to_init.2.1 82 = .ok (.aload_n 0, 1) := by decide +kernel
theorem d_to_init_83 : decode to_init.2.1 83 = .ok (.new 59, 3) := by decide +kernel
theorem d_to_init_86 : decode to_init.2.1 86 = .ok (.dup, 1) := by decide +kernel
theorem d_to_init_87 : decode to_init.2.1 87 = .ok (.sipush 400, 3) := by decide +kernel
theorem d_to_init_90 : decode to_init.2.1 90 = .ok (.invokespecial 61, 3) := by decide +kernel
theorem d_to_init_93 : decode to_init.2.1 93 = .ok (.putfield 64, 3) := by decide +kernel
theorem d_to_init_96 : decode to_init.2.1 96 = .ok (.aload_n 0, 1) := by decide +kernel
theorem d_to_init_97 : decode to_init.2.1 97 = .ok (.new 59, 3) := by decide +kernel
theorem d_to_init_100 : decode to_init.2.1 100 = .ok (.dup, 1) := by decide +kernel
theorem d_to_init_101 : decode to_init.2.1 101 = .ok (.sipush 3600, 3) := by decide +kernel
theorem d_to_init_104 : decode to_init.2.1 104 = .ok (.invokespecial 61, 3) := by decide +kernel
theorem d_to_init_107 : decode to_init.2.1 107 = .ok (.putfield 68, 3) := by decide +kernel
theorem d_to_init_110 : decode to_init.2.1 110 = .ok (.aload_n 0, 1) := by decide +kernel
theorem d_to_init_111 : decode to_init.2.1 111 = .ok (.new 59, 3) := by decide +kernel
theorem d_to_init_114 : decode to_init.2.1 114 = .ok (.dup, 1) := by decide +kernel
theorem d_to_init_115 : decode to_init.2.1 115 = .ok (.sipush 3600, 3) := by decide +kernel
theorem d_to_init_118 : decode to_init.2.1 118 = .ok (.invokespecial 61, 3) := by decide +kernel
theorem d_to_init_121 : decode to_init.2.1 121 = .ok (.putfield 71, 3) := by decide +kernel
theorem d_to_init_124 : decode to_init.2.1 124 = .ok (.aload_n 0, 1) := by decide +kernel
theorem d_to_init_125 : decode to_init.2.1 125 = .ok (.sipush 3600, 3) := by decide +kernel
theorem d_to_init_128 : decode to_init.2.1 128 = .ok (.newarray .int, 2) := by decide +kernel
theorem d_to_init_130 : decode to_init.2.1 130 = .ok (.putfield 74, 3) := by decide +kernel
theorem d_to_init_133 : decode to_init.2.1 133 = .ok (.aload_n 0, 1) := by decide +kernel
theorem d_to_init_134 : decode to_init.2.1 134 = .ok (.bipush 8, 2) := by decide +kernel
theorem d_to_init_136 : decode to_init.2.1 136 = .ok (.anewarray 78, 3) := by decide +kernel
theorem d_to_init_139 : decode to_init.2.1 139 = .ok (.putfield 80, 3) := by decide +kernel
theorem d_to_init_142 : decode to_init.2.1 142 = .ok (.aload_n 0, 1) := by decide +kernel
theorem d_to_init_143 : decode to_init.2.1 143 = .ok (.bipush 6, 2) := by decide +kernel
theorem d_to_init_145 : decode to_init.2.1 145 = .ok (.anewarray 84, 3) := by decide +kernel
theorem d_to_init_148 : decode to_init.2.1 148 = .ok (.putfield 86, 3) := by decide +kernel
theorem d_to_init_151 : decode to_init.2.1 151 = .ok (.return_, 1) := by decide +kernel
theorem d_to_kind_0 : decode to_kind.2.1 0 = .ok (.lload 5, 2) := by decide +kernel
theorem d_to_kind_2 : decode to_kind.2.1 2 = .ok (.invokestatic 90, 3) := by decide +kernel
theorem d_to_kind_5 : decode to_kind.2.1 5 = .ok (.lstore 7, 2) := by decide +kernel
theorem d_to_kind_7 : decode to_kind.2.1 7 = .ok (.iload_n 1, 1) := by decide +kernel
theorem d_to_kind_8 : decode to_kind.2.1 8 = .ok (.iload_n 2, 1) := by decide +kernel
theorem d_to_kind_9 : decode to_kind.2.1 9 = .ok (.iload 4, 2) := by decide +kernel
theorem d_to_kind_11 : decode to_kind.2.1 11 = .ok (.invokestatic 94, 3) := by decide +kernel
theorem d_to_kind_14 : decode to_kind.2.1 14 = .ok (.ifCond .eq 20, 3) := by decide +kernel
theorem d_to_kind_17 : decode to_kind.2.1 17 = .ok (.lload 7, 2) := by decide +kernel
theorem d_to_kind_19 : decode to_kind.2.1 19 = .ok (.lconst 0, 1) := by decide +kernel
theorem d_to_kind_20 : decode to_kind.2.1 20 = .ok (.lcmp, 1) := by decide +kernel
theorem d_to_kind_21 : decode to_kind.2.1 21 = .ok (.ifCond .eq 13, 3) := by decide +kernel
theorem d_to_kind_24 : decode to_kind.2.1 24 = .ok (.aload_n 0, 1) := by decide +kernel
theorem d_to_kind_25 : decode to_kind.2.1 25 = .ok (.getfield 20, 3) := by decide +kernel
theorem d_to_kind_28 : decode to_kind.2.1 28 = .ok (.invokevirtual 98, 3) := by decide +kernel
theorem d_to_kind_31 : decode to_kind.2.1 31 = .ok (.ifCond .eq 5, 3) := by decide +kernel
theorem d_to_kind_34 : decode to_kind.2.1 34 = .ok (.iconst (-1), 1) := by decide +kernel
theorem d_to_kind_35 : decode to_kind.2.1 35 = .ok (.ireturn, 1) := by decide +kernel
theorem d_to_kind_36 : decode to_kind.2.1 36 = .ok (.aload_n 0, 1) := by decide +kernel
theorem d_to_kind_37 : decode to_kind.2.1 37 = .ok (.getfield 20, 3) := by decide +kernel
theorem d_to_kind_40 : decode to_kind.2.1 40 = .ok (.lload 7, 2) := by decide +kernel
theorem d_to_kind_42 : decode to_kind.2.1 42 = .ok (.invokevirtual 102, 3) := by decide +kernel
theorem d_to_kind_45 : decode to_kind.2.1 45 = .ok (.iconst (-1), 1) := by decide +kernel
theorem d_to_kind_46 : decode to_kind.2.1 46 = .ok (.if_icmp .ne 20, 3) := by decide +kernel
theorem d_to_kind_49 : decode to_kind.2.1 49 = .ok (.aload_n 0, 1) := by decide +kernel
theorem d_to_kind_50 : decode to_kind.2.1 50 = .ok (.getfield 20, 3) := by decide +kernel
theorem d_to_kind_53 : decode to_kind.2.1 53 = .ok (.iload_n 1, 1) := by decide +kernel
theorem d_to_kind_54 : decode to_kind.2.1 54 = .ok (.iload_n 2, 1) := by decide +kernel
theorem d_to_kind_55 : decode to_kind.2.1 55 = .ok (.iload_n 3, 1) := by decide +kernel
theorem d_to_kind_56 : decode to_kind.2.1 56 = .ok (.iload 4, 2) := by decide +kernel
theorem d_to_kind_58 : decode to_kind.2.1 58 = .ok (.lload 7, 2) := by decide +kernel
theorem d_to_kind_60 : decode to_kind.2.1 60 = .ok (.invokevirtual 106, 3) := by decide +kernel
theorem d_to_kind_63 : decode to_kind.2.1 63 = .ok (.goto 4, 3) := by decide +kernel
theorem d_to_kind_66 : decode to_kind.2.1 66 = .ok (.iconst (-1), 1) := by decide +kernel
theorem d_to_kind_67 : decode to_kind.2.1 67 = .ok (.ireturn, 1) := by decide +kernel
theorem d_to_named_0 : decode to_named.2.1 0 = .ok (.aload_n 0, 1) := by decide +kernel
theorem d_to_named_1 : decode to_named.2.1 1 = .ok (.getfield 20, 3) := by decide +kernel
theorem d_to_named_4 : decode to_named.2.1 4 = .ok (.lload_n 1, 1) := by decide +kernel
theorem d_to_named_5 : decode to_named.2.1 5 = .ok (.invokestatic 90, 3) := by decide +kernel
theorem d_to_named_8 : decode to_named.2.1 8 = .ok (.invokevirtual 102, 3) := by decide +kernel
theorem d_to_named_11 : decode to_named.2.1 11 = .ok (.ireturn, 1) := by decide +kernel
theorem d_to_edge_0 : decode to_edge.2.1 0 = .ok (.aload_n 0, 1) := by decide +kernel
theorem d_to_edge_1 : decode to_edge.2.1 1 = .ok (.getfield 20, 3) := by decide +kernel
theorem d_to_edge_4 : decode to_edge.2.1 4 = .ok (.iload_n 1, 1) := by decide +kernel
theorem d_to_edge_5 : decode to_edge.2.1 5 = .ok (.invokevirtual 110, 3) := by decide +kernel
theorem d_to_edge_8 : decode to_edge.2.1 8 = .ok (.ifCond .eq 19, 3) := by decide +kernel
theorem d_to_edge_11 : decode to_edge.2.1 11 = .ok (.iload_n 2, 1) := by decide +kernel
theorem d_to_edge_12 : decode to_edge.2.1 12 = .ok (.invokestatic 114, 3) := by decide +kernel
theorem d_to_edge_15 : decode to_edge.2.1 15 = .ok (.ifCond .eq 12, 3) := by decide +kernel
theorem d_to_edge_18 : decode to_edge.2.1 18 = .ok (.iload_n 3, 1) := by decide +kernel
theorem d_to_edge_19 : decode to_edge.2.1 19 = .ok (.ifCond .lt 8, 3) := by decide +kernel
theorem d_to_edge_22 : decode to_edge.2.1 22 = .ok (.iload_n 3, 1) := by decide +kernel
theorem d_to_edge_23 : decode to_edge.2.1 23 = .ok (.iconst 4, 1) := by decide +kernel
theorem d_to_edge_24 : decode to_edge.2.1 24 = .ok (.if_icmp .le 5, 3) := by decide +kernel
theorem d_to_edge_27 : decode to_edge.2.1 27 = .ok (.iconst (-1), 1) := by decide +kernel
theorem d_to_edge_28 : decode to_edge.2.1 28 = .ok (.ireturn, 1) := by decide +kernel
theorem d_to_edge_29 : decode to_edge.2.1 29 = .ok (.aload_n 0, 1) := by decide +kernel
theorem d_to_edge_30 : decode to_edge.2.1 30 = .ok (.getfield 20, 3) := by decide +kernel
theorem d_to_edge_33 : decode to_edge.2.1 33 = .ok (.iload_n 1, 1) := by decide +kernel
theorem d_to_edge_34 : decode to_edge.2.1 34 = .ok (.iload_n 2, 1) := by decide +kernel
theorem d_to_edge_35 : decode to_edge.2.1 35 = .ok (.invokevirtual 117, 3) := by decide +kernel
theorem d_to_edge_38 : decode to_edge.2.1 38 = .ok (.istore 4, 2) := by decide +kernel
theorem d_to_edge_40 : decode to_edge.2.1 40 = .ok (.iload_n 3, 1) := by decide +kernel
theorem d_to_edge_41 : decode to_edge.2.1 41 = .ok (.iconst 4, 1) := by decide +kernel
theorem d_to_edge_42 : decode to_edge.2.1 42 = .ok (.if_icmp .ne 8, 3) := by decide +kernel
theorem d_to_edge_45 : decode to_edge.2.1 45 = .ok (.iload 4, 2) := by decide +kernel
theorem d_to_edge_47 : decode to_edge.2.1 47 = .ok (.goto 14, 3) := by decide +kernel
theorem d_to_edge_50 : decode to_edge.2.1 50 = .ok (.aload_n 0, 1) := by decide +kernel
theorem d_to_edge_51 : decode to_edge.2.1 51 = .ok (.getfield 20, 3) := by decide +kernel
theorem d_to_edge_54 : decode to_edge.2.1 54 = .ok (.iload_n 1, 1) := by decide +kernel
theorem d_to_edge_55 : decode to_edge.2.1 55 = .ok (.iload 4, 2) := by decide +kernel
theorem d_to_edge_57 : decode to_edge.2.1 57 = .ok (.iload_n 3, 1) := by decide +kernel
theorem d_to_edge_58 : decode to_edge.2.1 58 = .ok (.invokevirtual 121, 3) := by decide +kernel
theorem d_to_edge_61 : decode to_edge.2.1 61 = .ok (.ireturn, 1) := by decide +kernel
theorem d_to_then_0 : decode to_then.2.1 0 = .ok (.iload_n 1, 1) := by decide +kernel
theorem d_to_then_1 : decode to_then.2.1 1 = .ok (.invokestatic 114, 3) := by decide +kernel
theorem d_to_then_4 : decode to_then.2.1 4 = .ok (.ifCond .eq 18, 3) := by decide +kernel
theorem d_to_then_7 : decode to_then.2.1 7 = .ok (.iload_n 2, 1) := by decide +kernel
theorem d_to_then_8 : decode to_then.2.1 8 = .ok (.invokestatic 114, 3) := by decide +kernel
theorem d_to_then_11 : decode to_then.2.1 11 = .ok (.ifCond .eq 11, 3) := by decide +kernel
theorem d_to_then_14 : decode to_then.2.1 14 = .ok (.iload_n 1, 1) := by decide +kernel
theorem d_to_then_15 : decode to_then.2.1 15 = .ok (.iload_n 2, 1) := by decide +kernel
theorem d_to_then_16 : decode to_then.2.1 16 = .ok (.invokestatic 125, 3) := by decide +kernel
theorem d_to_then_19 : decode to_then.2.1 19 = .ok (.goto 4, 3) := by decide +kernel
theorem d_to_then_22 : decode to_then.2.1 22 = .ok (.iconst (-1), 1) := by decide +kernel
theorem d_to_then_23 : decode to_then.2.1 23 = .ok (.ireturn, 1) := by decide +kernel
theorem d_to_isMove_0 : decode to_isMove.2.1 0 = .ok (.iload_n 0, 1) := by decide +kernel
theorem d_to_isMove_1 : decode to_isMove.2.1 1 = .ok (.ifCond .lt 13, 3) := by decide +kernel
theorem d_to_isMove_4 : decode to_isMove.2.1 4 = .ok (.iload_n 0, 1) := by decide +kernel
theorem d_to_isMove_5 : decode to_isMove.2.1 5 = .ok (.bipush 8, 2) := by decide +kernel
theorem d_to_isMove_7 : decode to_isMove.2.1 7 = .ok (.if_icmp .ge 7, 3) := by decide +kernel
theorem d_to_isMove_10 : decode to_isMove.2.1 10 = .ok (.iconst 1, 1) := by decide +kernel
theorem d_to_isMove_11 : decode to_isMove.2.1 11 = .ok (.goto 4, 3) := by decide +kernel
theorem d_to_isMove_14 : decode to_isMove.2.1 14 = .ok (.iconst 0, 1) := by decide +kernel
theorem d_to_isMove_15 : decode to_isMove.2.1 15 = .ok (.ireturn, 1) := by decide +kernel
theorem d_to_isKindInMove_0 : decode to_isKindInMove.2.1 0 = .ok (.aload_n 0, 1) := by decide +kernel
theorem d_to_isKindInMove_1 : decode to_isKindInMove.2.1 1 = .ok (.getfield 20, 3) := by decide +kernel
theorem d_to_isKindInMove_4 : decode to_isKindInMove.2.1 4 = .ok (.iload_n 1, 1) := by decide +kernel
theorem d_to_isKindInMove_5 : decode to_isKindInMove.2.1 5 = .ok (.invokevirtual 110, 3) := by decide +kernel
theorem d_to_isKindInMove_8 : decode to_isKindInMove.2.1 8 = .ok (.ifCond .eq 14, 3) := by decide +kernel
theorem d_to_isKindInMove_11 : decode to_isKindInMove.2.1 11 = .ok (.iload_n 2, 1) := by decide +kernel
theorem d_to_isKindInMove_12 : decode to_isKindInMove.2.1 12 = .ok (.invokestatic 114, 3) := by decide +kernel
theorem d_to_isKindInMove_15 : decode to_isKindInMove.2.1 15 = .ok (.ifCond .eq 7, 3) := by decide +kernel
theorem d_to_isKindInMove_18 : decode to_isKindInMove.2.1 18 = .ok (.iconst 1, 1) := by decide +kernel
theorem d_to_isKindInMove_19 : decode to_isKindInMove.2.1 19 = .ok (.goto 4, 3) := by decide +kernel
theorem d_to_isKindInMove_22 : decode to_isKindInMove.2.1 22 = .ok (.iconst 0, 1) := by decide +kernel
theorem d_to_isKindInMove_23 : decode to_isKindInMove.2.1 23 = .ok (.ireturn, 1) := by decide +kernel
theorem d_to_pattern_0 : decode to_pattern.2.1 0 = .ok (.aload_n 0, 1) := by decide +kernel
theorem d_to_pattern_1 : decode to_pattern.2.1 1 = .ok (.getfield 128, 3) := by decide +kernel
theorem d_to_pattern_4 : decode to_pattern.2.1 4 = .ok (.bipush 16, 2) := by decide +kernel
theorem d_to_pattern_6 : decode to_pattern.2.1 6 = .ok (.if_icmp .ge 21, 3) := by decide +kernel
theorem d_to_pattern_9 : decode to_pattern.2.1 9 = .ok (.aload_n 0, 1) := by decide +kernel
theorem d_to_pattern_10 : decode to_pattern.2.1 10 = .ok (.new 46, 3) := by decide +kernel
theorem d_to_pattern_13 : decode to_pattern.2.1 13 = .ok (.dup, 1) := by decide +kernel
theorem d_to_pattern_14 : decode to_pattern.2.1 14 = .ok (.aload_n 0, 1) := by decide +kernel
theorem d_to_pattern_15 : decode to_pattern.2.1 15 = .ok (.getfield 42, 3) := by decide +kernel
theorem d_to_pattern_18 : decode to_pattern.2.1 18 = .ok (.invokespecial 132, 3) := by decide +kernel
theorem d_to_pattern_21 : decode to_pattern.2.1 21 = .ok (.invokevirtual 135, 3) := by decide +kernel
theorem d_to_pattern_24 : decode to_pattern.2.1 24 = .ok (.goto 4, 3) := by decide +kernel
theorem d_to_pattern_27 : decode to_pattern.2.1 27 = .ok (.iconst (-1), 1) := by decide +kernel
theorem d_to_pattern_28 : decode to_pattern.2.1 28 = .ok (.ireturn, 1) := by decide +kernel
theorem d_to_keep_0 : decode to_keep.2.1 0 = .ok (.aload_n 0, 1) := by decide +kernel
theorem d_to_keep_1 : decode to_keep.2.1 1 = .ok (.getfield 128, 3) := by decide +kernel
theorem d_to_keep_4 : decode to_keep.2.1 4 = .ok (.bipush 16, 2) := by decide +kernel
theorem d_to_keep_6 : decode to_keep.2.1 6 = .ok (.if_icmp .lt 5, 3) := by decide +kernel
theorem d_to_keep_9 : decode to_keep.2.1 9 = .ok (.iconst (-1), 1) := by decide +kernel
theorem d_to_keep_10 : decode to_keep.2.1 10 = .ok (.ireturn, 1) := by decide +kernel
theorem d_to_keep_11 : decode to_keep.2.1 11 = .ok (.aload_n 0, 1) := by decide +kernel
theorem d_to_keep_12 : decode to_keep.2.1 12 = .ok (.getfield 48, 3) := by decide +kernel
theorem d_to_keep_15 : decode to_keep.2.1 15 = .ok (.aload_n 0, 1) := by decide +kernel
theorem d_to_keep_16 : decode to_keep.2.1 16 = .ok (.getfield 128, 3) := by decide +kernel
theorem d_to_keep_19 : decode to_keep.2.1 19 = .ok (.aload_n 1, 1) := by decide +kernel
theorem d_to_keep_20 : decode to_keep.2.1 20 = .ok (.aastore, 1) := by decide +kernel
theorem d_to_keep_21 : decode to_keep.2.1 21 = .ok (.aload_n 0, 1) := by decide +kernel
theorem d_to_keep_22 : decode to_keep.2.1 22 = .ok (.dup, 1) := by decide +kernel
theorem d_to_keep_23 : decode to_keep.2.1 23 = .ok (.getfield 128, 3) := by decide +kernel
theorem d_to_keep_26 : decode to_keep.2.1 26 = .ok (.iconst 1, 1) := by decide +kernel
theorem d_to_keep_27 : decode to_keep.2.1 27 = .ok (.iadd, 1) := by decide +kernel
theorem d_to_keep_28 : decode to_keep.2.1 28 = .ok (.putfield 128, 3) := by decide +kernel
theorem d_to_keep_31 : decode to_keep.2.1 31 = .ok (.aload_n 0, 1) := by decide +kernel
theorem d_to_keep_32 : decode to_keep.2.1 32 = .ok (.getfield 128, 3) := by decide +kernel
theorem d_to_keep_35 : decode to_keep.2.1 35 = .ok (.iconst 1, 1) := by decide +kernel
theorem d_to_keep_36 : decode to_keep.2.1 36 = .ok (.isub, 1) := by decide +kernel
theorem d_to_keep_37 : decode to_keep.2.1 37 = .ok (.ireturn, 1) := by decide +kernel
theorem d_to_patternOf_0 : decode to_patternOf.2.1 0 = .ok (.iload_n 1, 1) := by decide +kernel
theorem d_to_patternOf_1 : decode to_patternOf.2.1 1 = .ok (.ifCond .lt 20, 3) := by decide +kernel
theorem d_to_patternOf_4 : decode to_patternOf.2.1 4 = .ok (.iload_n 1, 1) := by decide +kernel
theorem d_to_patternOf_5 : decode to_patternOf.2.1 5 = .ok (.aload_n 0, 1) := by decide +kernel
theorem d_to_patternOf_6 : decode to_patternOf.2.1 6 = .ok (.getfield 128, 3) := by decide +kernel
theorem d_to_patternOf_9 : decode to_patternOf.2.1 9 = .ok (.if_icmp .ge 12, 3) := by decide +kernel
theorem d_to_patternOf_12 : decode to_patternOf.2.1 12 = .ok (.aload_n 0, 1) := by decide +kernel
theorem d_to_patternOf_13 : decode to_patternOf.2.1 13 = .ok (.getfield 48, 3) := by decide +kernel
theorem d_to_patternOf_16 : decode to_patternOf.2.1 16 = .ok (.iload_n 1, 1) := by decide +kernel
theorem d_to_patternOf_17 : decode to_patternOf.2.1 17 = .ok (.aaload, 1) := by decide +kernel
theorem d_to_patternOf_18 : decode to_patternOf.2.1 18 = .ok (.goto 4, 3) := by decide +kernel
theorem d_to_patternOf_21 : decode to_patternOf.2.1 21 = .ok (.aconst_null, 1) := by decide +kernel
theorem d_to_patternOf_22 : decode to_patternOf.2.1 22 = .ok (.areturn, 1) := by decide +kernel
theorem d_to_insert_0 : decode to_insert.2.1 0 = .ok (.aload_n 0, 1) := by decide +kernel
theorem d_to_insert_1 : decode to_insert.2.1 1 = .ok (.iload_n 1, 1) := by decide +kernel
theorem d_to_insert_2 : decode to_insert.2.1 2 = .ok (.invokevirtual 139, 3) := by decide +kernel
theorem d_to_insert_5 : decode to_insert.2.1 5 = .ok (.astore 5, 2) := by decide +kernel
theorem d_to_insert_7 : decode to_insert.2.1 7 = .ok (.aload 5, 2) := by decide +kernel
theorem d_to_insert_9 : decode to_insert.2.1 9 = .ok (.ifnull 26, 3) := by decide +kernel
theorem d_to_insert_12 : decode to_insert.2.1 12 = .ok (.iload_n 2, 1) := by decide +kernel
theorem d_to_insert_13 : decode to_insert.2.1 13 = .ok (.ifCond .lt 22, 3) := by decide +kernel
theorem d_to_insert_16 : decode to_insert.2.1 16 = .ok (.iload_n 2, 1) := by decide +kernel
theorem d_to_insert_17 : decode to_insert.2.1 17 = .ok (.aload 5, 2) := by decide +kernel
theorem d_to_insert_19 : decode to_insert.2.1 19 = .ok (.getfield 143, 3) := by decide +kernel
theorem d_to_insert_22 : decode to_insert.2.1 22 = .ok (.if_icmp .gt 13, 3) := by decide +kernel
theorem d_to_insert_25 : decode to_insert.2.1 25 = .ok (.aload 5, 2) := by decide +kernel
theorem d_to_insert_27 : decode to_insert.2.1 27 = .ok (.getfield 143, 3) := by decide +kernel
theorem d_to_insert_30 : decode to_insert.2.1 30 = .ok (.bipush 60, 2) := by decide +kernel
theorem d_to_insert_32 : decode to_insert.2.1 32 = .ok (.if_icmp .lt 5, 3) := by decide +kernel
theorem d_to_insert_35 : decode to_insert.2.1 35 = .ok (.iconst 0, 1) := by decide +kernel
theorem d_to_insert_36 : decode to_insert.2.1 36 = .ok (.ireturn, 1) := by decide +kernel
theorem d_to_insert_37 : decode to_insert.2.1 37 = .ok (.iload_n 3, 1) := by decide +kernel
theorem d_to_insert_38 : decode to_insert.2.1 38 = .ok (.iload 4, 2) := by decide +kernel
theorem d_to_insert_40 : decode to_insert.2.1 40 = .ok (.invokestatic 146, 3) := by decide +kernel
theorem d_to_insert_43 : decode to_insert.2.1 43 = .ok (.ifCond .eq 14, 3) := by decide +kernel
theorem d_to_insert_46 : decode to_insert.2.1 46 = .ok (.aload_n 0, 1) := by decide +kernel
theorem d_to_insert_47 : decode to_insert.2.1 47 = .ok (.getfield 42, 3) := by decide +kernel
theorem d_to_insert_50 : decode to_insert.2.1 50 = .ok (.invokevirtual 149, 3) := by decide +kernel
theorem d_to_insert_53 : decode to_insert.2.1 53 = .ok (.iconst 1, 1) := by decide +kernel
theorem d_to_insert_54 : decode to_insert.2.1 54 = .ok (.if_icmp .ge 5, 3) := by decide +kernel
theorem d_to_insert_57 : decode to_insert.2.1 57 = .ok (.iconst 0, 1) := by decide +kernel
theorem d_to_insert_58 : decode to_insert.2.1 58 = .ok (.ireturn, 1) := by decide +kernel
theorem d_to_insert_59 : decode to_insert.2.1 59 = .ok (.aload_n 0, 1) := by decide +kernel
theorem d_to_insert_60 : decode to_insert.2.1 60 = .ok (.getfield 55, 3) := by decide +kernel
theorem d_to_insert_63 : decode to_insert.2.1 63 = .ok (.iload_n 1, 1) := by decide +kernel
theorem d_to_insert_64 : decode to_insert.2.1 64 = .ok (.aload 5, 2) := by decide +kernel
theorem d_to_insert_66 : decode to_insert.2.1 66 = .ok (.invokevirtual 153, 3) := by decide +kernel
theorem d_to_insert_69 : decode to_insert.2.1 69 = .ok (.aload 5, 2) := by decide +kernel
theorem d_to_insert_71 : decode to_insert.2.1 71 = .ok (.iload_n 2, 1) := by decide +kernel
theorem d_to_insert_72 : decode to_insert.2.1 72 = .ok (.aload_n 0, 1) := by decide +kernel
theorem d_to_insert_73 : decode to_insert.2.1 73 = .ok (.getfield 42, 3) := by decide +kernel
theorem d_to_insert_76 : decode to_insert.2.1 76 = .ok (.iload_n 3, 1) := by decide +kernel
theorem d_to_insert_77 : decode to_insert.2.1 77 = .ok (.iload 4, 2) := by decide +kernel
theorem d_to_insert_79 : decode to_insert.2.1 79 = .ok (.invokevirtual 157, 3) := by decide +kernel
theorem d_to_insert_82 : decode to_insert.2.1 82 = .ok (.invokevirtual 160, 3) := by decide +kernel
theorem d_to_insert_85 : decode to_insert.2.1 85 = .ok (.iconst 1, 1) := by decide +kernel
theorem d_to_insert_86 : decode to_insert.2.1 86 = .ok (.ireturn, 1) := by decide +kernel
theorem d_to_remove_0 : decode to_remove.2.1 0 = .ok (.aload_n 0, 1) := by decide +kernel
theorem d_to_remove_1 : decode to_remove.2.1 1 = .ok (.iload_n 1, 1) := by decide +kernel
theorem d_to_remove_2 : decode to_remove.2.1 2 = .ok (.invokevirtual 139, 3) := by decide +kernel
theorem d_to_remove_5 : decode to_remove.2.1 5 = .ok (.astore_n 3, 1) := by decide +kernel
theorem d_to_remove_6 : decode to_remove.2.1 6 = .ok (.aload_n 3, 1) := by decide +kernel
theorem d_to_remove_7 : decode to_remove.2.1 7 = .ok (.ifnull 12, 3) := by decide +kernel
theorem d_to_remove_10 : decode to_remove.2.1 10 = .ok (.aload_n 3, 1) := by decide +kernel
theorem d_to_remove_11 : decode to_remove.2.1 11 = .ok (.iload_n 2, 1) := by decide +kernel
theorem d_to_remove_12 : decode to_remove.2.1 12 = .ok (.i2l, 1) := by decide +kernel
theorem d_to_remove_13 : decode to_remove.2.1 13 = .ok (.invokevirtual 164, 3) := by decide +kernel
theorem d_to_remove_16 : decode to_remove.2.1 16 = .ok (.ifCond .ne 5, 3) := by decide +kernel
theorem d_to_remove_19 : decode to_remove.2.1 19 = .ok (.iconst 0, 1) := by decide +kernel
theorem d_to_remove_20 : decode to_remove.2.1 20 = .ok (.ireturn, 1) := by decide +kernel
theorem d_to_remove_21 : decode to_remove.2.1 21 = .ok (.aload_n 0, 1) := by decide +kernel
theorem d_to_remove_22 : decode to_remove.2.1 22 = .ok (.getfield 55, 3) := by decide +kernel
theorem d_to_remove_25 : decode to_remove.2.1 25 = .ok (.iload_n 1, 1) := by decide +kernel
theorem d_to_remove_26 : decode to_remove.2.1 26 = .ok (.aload_n 3, 1) := by decide +kernel
theorem d_to_remove_27 : decode to_remove.2.1 27 = .ok (.invokevirtual 153, 3) := by decide +kernel
theorem d_to_remove_30 : decode to_remove.2.1 30 = .ok (.aload_n 3, 1) := by decide +kernel
theorem d_to_remove_31 : decode to_remove.2.1 31 = .ok (.iload_n 2, 1) := by decide +kernel
theorem d_to_remove_32 : decode to_remove.2.1 32 = .ok (.invokevirtual 168, 3) := by decide +kernel
theorem d_to_remove_35 : decode to_remove.2.1 35 = .ok (.iconst 1, 1) := by decide +kernel
theorem d_to_remove_36 : decode to_remove.2.1 36 = .ok (.ireturn, 1) := by decide +kernel
theorem d_to_move_0 : decode to_move.2.1 0 = .ok (.aload_n 0, 1) := by decide +kernel
theorem d_to_move_1 : decode to_move.2.1 1 = .ok (.iload_n 1, 1) := by decide +kernel
theorem d_to_move_2 : decode to_move.2.1 2 = .ok (.invokevirtual 139, 3) := by decide +kernel
theorem d_to_move_5 : decode to_move.2.1 5 = .ok (.astore 4, 2) := by decide +kernel
theorem d_to_move_7 : decode to_move.2.1 7 = .ok (.aload 4, 2) := by decide +kernel
theorem d_to_move_9 : decode to_move.2.1 9 = .ok (.ifnull 23, 3) := by decide +kernel
theorem d_to_move_12 : decode to_move.2.1 12 = .ok (.aload 4, 2) := by decide +kernel
theorem d_to_move_14 : decode to_move.2.1 14 = .ok (.iload_n 2, 1) := by decide +kernel
theorem d_to_move_15 : decode to_move.2.1 15 = .ok (.i2l, 1) := by decide +kernel
theorem d_to_move_16 : decode to_move.2.1 16 = .ok (.invokevirtual 164, 3) := by decide +kernel
theorem d_to_move_19 : decode to_move.2.1 19 = .ok (.ifCond .eq 13, 3) := by decide +kernel
theorem d_to_move_22 : decode to_move.2.1 22 = .ok (.aload 4, 2) := by decide +kernel
theorem d_to_move_24 : decode to_move.2.1 24 = .ok (.iload_n 3, 1) := by decide +kernel
theorem d_to_move_25 : decode to_move.2.1 25 = .ok (.i2l, 1) := by decide +kernel
theorem d_to_move_26 : decode to_move.2.1 26 = .ok (.invokevirtual 164, 3) := by decide +kernel
theorem d_to_move_29 : decode to_move.2.1 29 = .ok (.ifCond .ne 5, 3) := by decide +kernel
theorem d_to_move_32 : decode to_move.2.1 32 = .ok (.iconst 0, 1) := by decide +kernel
theorem d_to_move_33 : decode to_move.2.1 33 = .ok (.ireturn, 1) := by decide +kernel
theorem d_to_move_34 : decode to_move.2.1 34 = .ok (.aload_n 0, 1) := by decide +kernel
theorem d_to_move_35 : decode to_move.2.1 35 = .ok (.getfield 55, 3) := by decide +kernel
theorem d_to_move_38 : decode to_move.2.1 38 = .ok (.iload_n 1, 1) := by decide +kernel
theorem d_to_move_39 : decode to_move.2.1 39 = .ok (.aload 4, 2) := by decide +kernel
theorem d_to_move_41 : decode to_move.2.1 41 = .ok (.invokevirtual 153, 3) := by decide +kernel
theorem d_to_move_44 : decode to_move.2.1 44 = .ok (.aload 4, 2) := by decide +kernel
theorem d_to_move_46 : decode to_move.2.1 46 = .ok (.iload_n 2, 1) := by decide +kernel
theorem d_to_move_47 : decode to_move.2.1 47 = .ok (.i2l, 1) := by decide +kernel
theorem d_to_move_48 : decode to_move.2.1 48 = .ok (.invokevirtual 171, 3) := by decide +kernel
theorem d_to_move_51 : decode to_move.2.1 51 = .ok (.istore 5, 2) := by decide +kernel
theorem d_to_move_53 : decode to_move.2.1 53 = .ok (.aload 4, 2) := by decide +kernel
theorem d_to_move_55 : decode to_move.2.1 55 = .ok (.iload_n 2, 1) := by decide +kernel
theorem d_to_move_56 : decode to_move.2.1 56 = .ok (.invokevirtual 168, 3) := by decide +kernel
theorem d_to_move_59 : decode to_move.2.1 59 = .ok (.aload 4, 2) := by decide +kernel
theorem d_to_move_61 : decode to_move.2.1 61 = .ok (.iload_n 3, 1) := by decide +kernel
theorem d_to_move_62 : decode to_move.2.1 62 = .ok (.iload 5, 2) := by decide +kernel
theorem d_to_move_64 : decode to_move.2.1 64 = .ok (.invokevirtual 160, 3) := by decide +kernel
theorem d_to_move_67 : decode to_move.2.1 67 = .ok (.iconst 1, 1) := by decide +kernel
theorem d_to_move_68 : decode to_move.2.1 68 = .ok (.ireturn, 1) := by decide +kernel
theorem d_to_put_0 : decode to_put.2.1 0 = .ok (.iload 4, 2) := by decide +kernel
theorem d_to_put_2 : decode to_put.2.1 2 = .ok (.iconst (-1), 1) := by decide +kernel
theorem d_to_put_3 : decode to_put.2.1 3 = .ok (.if_icmp .ne 12, 3) := by decide +kernel
theorem d_to_put_6 : decode to_put.2.1 6 = .ok (.aload_n 0, 1) := by decide +kernel
theorem d_to_put_7 : decode to_put.2.1 7 = .ok (.iload_n 1, 1) := by decide +kernel
theorem d_to_put_8 : decode to_put.2.1 8 = .ok (.iload_n 2, 1) := by decide +kernel
theorem d_to_put_9 : decode to_put.2.1 9 = .ok (.iload_n 3, 1) := by decide +kernel
theorem d_to_put_10 : decode to_put.2.1 10 = .ok (.iconst (-1), 1) := by decide +kernel
theorem d_to_put_11 : decode to_put.2.1 11 = .ok (.invokevirtual 176, 3) := by decide +kernel
theorem d_to_put_14 : decode to_put.2.1 14 = .ok (.ireturn, 1) := by decide +kernel
theorem d_to_put_15 : decode to_put.2.1 15 = .ok (.aload_n 0, 1) := by decide +kernel
theorem d_to_put_16 : decode to_put.2.1 16 = .ok (.iload 4, 2) := by decide +kernel
theorem d_to_put_18 : decode to_put.2.1 18 = .ok (.iload 5, 2) := by decide +kernel
theorem d_to_put_20 : decode to_put.2.1 20 = .ok (.invokevirtual 180, 3) := by decide +kernel
theorem d_to_put_23 : decode to_put.2.1 23 = .ok (.ifCond .eq 28, 3) := by decide +kernel
theorem d_to_put_26 : decode to_put.2.1 26 = .ok (.aload_n 0, 1) := by decide +kernel
theorem d_to_put_27 : decode to_put.2.1 27 = .ok (.iload_n 1, 1) := by decide +kernel
theorem d_to_put_28 : decode to_put.2.1 28 = .ok (.iload_n 2, 1) := by decide +kernel
theorem d_to_put_29 : decode to_put.2.1 29 = .ok (.iload_n 3, 1) := by decide +kernel
theorem d_to_put_30 : decode to_put.2.1 30 = .ok (.aload_n 0, 1) := by decide +kernel
theorem d_to_put_31 : decode to_put.2.1 31 = .ok (.getfield 20, 3) := by decide +kernel
theorem d_to_put_34 : decode to_put.2.1 34 = .ok (.iload 4, 2) := by decide +kernel
theorem d_to_put_36 : decode to_put.2.1 36 = .ok (.iload 5, 2) := by decide +kernel
theorem d_to_put_38 : decode to_put.2.1 38 = .ok (.invokevirtual 183, 3) := by decide +kernel
theorem d_to_put_41 : decode to_put.2.1 41 = .ok (.invokevirtual 176, 3) := by decide +kernel
theorem d_to_put_44 : decode to_put.2.1 44 = .ok (.ifCond .eq 7, 3) := by decide +kernel
theorem d_to_put_47 : decode to_put.2.1 47 = .ok (.iconst 1, 1) := by decide +kernel
theorem d_to_put_48 : decode to_put.2.1 48 = .ok (.goto 4, 3) := by decide +kernel
theorem d_to_put_51 : decode to_put.2.1 51 = .ok (.iconst 0, 1) := by decide +kernel
theorem d_to_put_52 : decode to_put.2.1 52 = .ok (.ireturn, 1) := by decide +kernel
theorem d_to_shade_0 : decode to_shade.2.1 0 = .ok (.aload_n 0, 1) := by decide +kernel
theorem d_to_shade_1 : decode to_shade.2.1 1 = .ok (.iload_n 1, 1) := by decide +kernel
theorem d_to_shade_2 : decode to_shade.2.1 2 = .ok (.invokevirtual 139, 3) := by decide +kernel
theorem d_to_shade_5 : decode to_shade.2.1 5 = .ok (.astore 5, 2) := by decide +kernel
theorem d_to_shade_7 : decode to_shade.2.1 7 = .ok (.aload 5, 2) := by decide +kernel
theorem d_to_shade_9 : decode to_shade.2.1 9 = .ok (.ifnonnull 8, 3) := by decide +kernel
theorem d_to_shade_12 : decode to_shade.2.1 12 = .ok (.bipush (-2), 2) := by decide +kernel
theorem d_to_shade_14 : decode to_shade.2.1 14 = .ok (.goto 12, 3) := by decide +kernel
theorem d_to_shade_17 : decode to_shade.2.1 17 = .ok (.aload 5, 2) := by decide +kernel
theorem d_to_shade_19 : decode to_shade.2.1 19 = .ok (.iload_n 2, 1) := by decide +kernel
theorem d_to_shade_20 : decode to_shade.2.1 20 = .ok (.i2l, 1) := by decide +kernel
theorem d_to_shade_21 : decode to_shade.2.1 21 = .ok (.iload_n 3, 1) := by decide +kernel
theorem d_to_shade_22 : decode to_shade.2.1 22 = .ok (.i2l, 1) := by decide +kernel
theorem d_to_shade_23 : decode to_shade.2.1 23 = .ok (.invokevirtual 186, 3) := by decide +kernel
theorem d_to_shade_26 : decode to_shade.2.1 26 = .ok (.istore 6, 2) := by decide +kernel
theorem d_to_shade_28 : decode to_shade.2.1 28 = .ok (.iload 6, 2) := by decide +kernel
theorem d_to_shade_30 : decode to_shade.2.1 30 = .ok (.ifCond .lt 24, 3) := by decide +kernel
theorem d_to_shade_33 : decode to_shade.2.1 33 = .ok (.aload_n 0, 1) := by decide +kernel
theorem d_to_shade_34 : decode to_shade.2.1 34 = .ok (.iload_n 1, 1) := by decide +kernel
theorem d_to_shade_35 : decode to_shade.2.1 35 = .ok (.iload_n 2, 1) := by decide +kernel
theorem d_to_shade_36 : decode to_shade.2.1 36 = .ok (.iload_n 3, 1) := by decide +kernel
theorem d_to_shade_37 : decode to_shade.2.1 37 = .ok (.iload 6, 2) := by decide +kernel
theorem d_to_shade_39 : decode to_shade.2.1 39 = .ok (.iload 4, 2) := by decide +kernel
theorem d_to_shade_41 : decode to_shade.2.1 41 = .ok (.invokestatic 190, 3) := by decide +kernel
theorem d_to_shade_44 : decode to_shade.2.1 44 = .ok (.invokevirtual 176, 3) := by decide +kernel
theorem d_to_shade_47 : decode to_shade.2.1 47 = .ok (.ifCond .eq 7, 3) := by decide +kernel
theorem d_to_shade_50 : decode to_shade.2.1 50 = .ok (.iconst 1, 1) := by decide +kernel
theorem d_to_shade_51 : decode to_shade.2.1 51 = .ok (.goto 4, 3) := by decide +kernel
theorem d_to_shade_54 : decode to_shade.2.1 54 = .ok (.iconst 0, 1) := by decide +kernel
theorem d_to_shade_55 : decode to_shade.2.1 55 = .ok (.ireturn, 1) := by decide +kernel
theorem d_to_setCell_0 : decode to_setCell.2.1 0 = .ok (.aload_n 0, 1) := by decide +kernel
theorem d_to_setCell_1 : decode to_setCell.2.1 1 = .ok (.iload_n 1, 1) := by decide +kernel
theorem d_to_setCell_2 : decode to_setCell.2.1 2 = .ok (.invokevirtual 139, 3) := by decide +kernel
theorem d_to_setCell_5 : decode to_setCell.2.1 5 = .ok (.astore 5, 2) := by decide +kernel
theorem d_to_setCell_7 : decode to_setCell.2.1 7 = .ok (.aload 5, 2) := by decide +kernel
theorem d_to_setCell_9 : decode to_setCell.2.1 9 = .ok (.ifnull 28, 3) := by decide +kernel
theorem d_to_setCell_12 : decode to_setCell.2.1 12 = .ok (.aload 5, 2) := by decide +kernel
theorem d_to_setCell_14 : decode to_setCell.2.1 14 = .ok (.iload_n 2, 1) := by decide +kernel
theorem d_to_setCell_15 : decode to_setCell.2.1 15 = .ok (.i2l, 1) := by decide +kernel
theorem d_to_setCell_16 : decode to_setCell.2.1 16 = .ok (.iload_n 3, 1) := by decide +kernel
theorem d_to_setCell_17 : decode to_setCell.2.1 17 = .ok (.i2l, 1) := by decide +kernel
theorem d_to_setCell_18 : decode to_setCell.2.1 18 = .ok (.invokevirtual 186, 3) := by decide +kernel
theorem d_to_setCell_21 : decode to_setCell.2.1 21 = .ok (.bipush (-2), 2) := by decide +kernel
theorem d_to_setCell_23 : decode to_setCell.2.1 23 = .ok (.if_icmp .eq 14, 3) := by decide +kernel
theorem d_to_setCell_26 : decode to_setCell.2.1 26 = .ok (.aload_n 0, 1) := by decide +kernel
theorem d_to_setCell_27 : decode to_setCell.2.1 27 = .ok (.getfield 42, 3) := by decide +kernel
theorem d_to_setCell_30 : decode to_setCell.2.1 30 = .ok (.invokevirtual 149, 3) := by decide +kernel
theorem d_to_setCell_33 : decode to_setCell.2.1 33 = .ok (.iconst 1, 1) := by decide +kernel
theorem d_to_setCell_34 : decode to_setCell.2.1 34 = .ok (.if_icmp .ge 5, 3) := by decide +kernel
theorem d_to_setCell_37 : decode to_setCell.2.1 37 = .ok (.iconst 0, 1) := by decide +kernel
theorem d_to_setCell_38 : decode to_setCell.2.1 38 = .ok (.ireturn, 1) := by decide +kernel
theorem d_to_setCell_39 : decode to_setCell.2.1 39 = .ok (.aload_n 0, 1) := by decide +kernel
theorem d_to_setCell_40 : decode to_setCell.2.1 40 = .ok (.getfield 55, 3) := by decide +kernel
theorem d_to_setCell_43 : decode to_setCell.2.1 43 = .ok (.iload_n 1, 1) := by decide +kernel
theorem d_to_setCell_44 : decode to_setCell.2.1 44 = .ok (.aload 5, 2) := by decide +kernel
theorem d_to_setCell_46 : decode to_setCell.2.1 46 = .ok (.invokevirtual 153, 3) := by decide +kernel
theorem d_to_setCell_49 : decode to_setCell.2.1 49 = .ok (.aload_n 0, 1) := by decide +kernel
theorem d_to_setCell_50 : decode to_setCell.2.1 50 = .ok (.getfield 42, 3) := by decide +kernel
theorem d_to_setCell_53 : decode to_setCell.2.1 53 = .ok (.aload 5, 2) := by decide +kernel
theorem d_to_setCell_55 : decode to_setCell.2.1 55 = .ok (.iload_n 2, 1) := by decide +kernel
theorem d_to_setCell_56 : decode to_setCell.2.1 56 = .ok (.invokevirtual 193, 3) := by decide +kernel
theorem d_to_setCell_59 : decode to_setCell.2.1 59 = .ok (.iload_n 3, 1) := by decide +kernel
theorem d_to_setCell_60 : decode to_setCell.2.1 60 = .ok (.iload 4, 2) := by decide +kernel
theorem d_to_setCell_62 : decode to_setCell.2.1 62 = .ok (.invokevirtual 197, 3) := by decide +kernel
theorem d_to_setCell_65 : decode to_setCell.2.1 65 = .ok (.iconst 1, 1) := by decide +kernel
theorem d_to_setCell_66 : decode to_setCell.2.1 66 = .ok (.ireturn, 1) := by decide +kernel
theorem d_to_at_0 : decode to_at.2.1 0 = .ok (.aload_n 0, 1) := by decide +kernel
theorem d_to_at_1 : decode to_at.2.1 1 = .ok (.iload_n 1, 1) := by decide +kernel
theorem d_to_at_2 : decode to_at.2.1 2 = .ok (.invokevirtual 139, 3) := by decide +kernel
theorem d_to_at_5 : decode to_at.2.1 5 = .ok (.astore 5, 2) := by decide +kernel
theorem d_to_at_7 : decode to_at.2.1 7 = .ok (.aload 5, 2) := by decide +kernel
theorem d_to_at_9 : decode to_at.2.1 9 = .ok (.ifnull 14, 3) := by decide +kernel
theorem d_to_at_12 : decode to_at.2.1 12 = .ok (.iload 4, 2) := by decide +kernel
theorem d_to_at_14 : decode to_at.2.1 14 = .ok (.ifCond .lt 9, 3) := by decide +kernel
theorem d_to_at_17 : decode to_at.2.1 17 = .ok (.iload 4, 2) := by decide +kernel
theorem d_to_at_19 : decode to_at.2.1 19 = .ok (.iconst 2, 1) := by decide +kernel
theorem d_to_at_20 : decode to_at.2.1 20 = .ok (.if_icmp .le 5, 3) := by decide +kernel
theorem d_to_at_23 : decode to_at.2.1 23 = .ok (.iconst (-1), 1) := by decide +kernel
theorem d_to_at_24 : decode to_at.2.1 24 = .ok (.ireturn, 1) := by decide +kernel
theorem d_to_at_25 : decode to_at.2.1 25 = .ok (.aload 5, 2) := by decide +kernel
theorem d_to_at_27 : decode to_at.2.1 27 = .ok (.iload_n 2, 1) := by decide +kernel
theorem d_to_at_28 : decode to_at.2.1 28 = .ok (.i2l, 1) := by decide +kernel
theorem d_to_at_29 : decode to_at.2.1 29 = .ok (.iload_n 3, 1) := by decide +kernel
theorem d_to_at_30 : decode to_at.2.1 30 = .ok (.i2l, 1) := by decide +kernel
theorem d_to_at_31 : decode to_at.2.1 31 = .ok (.invokevirtual 186, 3) := by decide +kernel
theorem d_to_at_34 : decode to_at.2.1 34 = .ok (.istore 6, 2) := by decide +kernel
theorem d_to_at_36 : decode to_at.2.1 36 = .ok (.iload 4, 2) := by decide +kernel
theorem d_to_at_38 : decode to_at.2.1 38 = .ok (.ifCond .ne 9, 3) := by decide +kernel
theorem d_to_at_41 : decode to_at.2.1 41 = .ok (.iload 6, 2) := by decide +kernel
theorem d_to_at_43 : decode to_at.2.1 43 = .ok (.invokestatic 200, 3) := by decide +kernel
theorem d_to_at_46 : decode to_at.2.1 46 = .ok (.ireturn, 1) := by decide +kernel
theorem d_to_at_47 : decode to_at.2.1 47 = .ok (.iload 4, 2) := by decide +kernel
theorem d_to_at_49 : decode to_at.2.1 49 = .ok (.iconst 1, 1) := by decide +kernel
theorem d_to_at_50 : decode to_at.2.1 50 = .ok (.if_icmp .ne 11, 3) := by decide +kernel
theorem d_to_at_53 : decode to_at.2.1 53 = .ok (.iload 6, 2) := by decide +kernel
theorem d_to_at_55 : decode to_at.2.1 55 = .ok (.invokestatic 203, 3) := by decide +kernel
theorem d_to_at_58 : decode to_at.2.1 58 = .ok (.goto 8, 3) := by decide +kernel
theorem d_to_at_61 : decode to_at.2.1 61 = .ok (.iload 6, 2) := by decide +kernel
theorem d_to_at_63 : decode to_at.2.1 63 = .ok (.invokestatic 206, 3) := by decide +kernel
theorem d_to_at_66 : decode to_at.2.1 66 = .ok (.ireturn, 1) := by decide +kernel
theorem d_to_row_0 : decode to_row.2.1 0 = .ok (.aload_n 0, 1) := by decide +kernel
theorem d_to_row_1 : decode to_row.2.1 1 = .ok (.iload_n 1, 1) := by decide +kernel
theorem d_to_row_2 : decode to_row.2.1 2 = .ok (.invokevirtual 139, 3) := by decide +kernel
theorem d_to_row_5 : decode to_row.2.1 5 = .ok (.astore 4, 2) := by decide +kernel
theorem d_to_row_7 : decode to_row.2.1 7 = .ok (.aload 4, 2) := by decide +kernel
theorem d_to_row_9 : decode to_row.2.1 9 = .ok (.ifnull 22, 3) := by decide +kernel
theorem d_to_row_12 : decode to_row.2.1 12 = .ok (.aload 4, 2) := by decide +kernel
theorem d_to_row_14 : decode to_row.2.1 14 = .ok (.iload_n 2, 1) := by decide +kernel
theorem d_to_row_15 : decode to_row.2.1 15 = .ok (.i2l, 1) := by decide +kernel
theorem d_to_row_16 : decode to_row.2.1 16 = .ok (.invokevirtual 164, 3) := by decide +kernel
theorem d_to_row_19 : decode to_row.2.1 19 = .ok (.ifCond .eq 12, 3) := by decide +kernel
theorem d_to_row_22 : decode to_row.2.1 22 = .ok (.iload_n 3, 1) := by decide +kernel
theorem d_to_row_23 : decode to_row.2.1 23 = .ok (.ifCond .lt 8, 3) := by decide +kernel
theorem d_to_row_26 : decode to_row.2.1 26 = .ok (.iload_n 3, 1) := by decide +kernel
theorem d_to_row_27 : decode to_row.2.1 27 = .ok (.iconst 2, 1) := by decide +kernel
theorem d_to_row_28 : decode to_row.2.1 28 = .ok (.if_icmp .le 5, 3) := by decide +kernel
theorem d_to_row_31 : decode to_row.2.1 31 = .ok (.iconst (-1), 1) := by decide +kernel
theorem d_to_row_32 : decode to_row.2.1 32 = .ok (.ireturn, 1) := by decide +kernel
theorem d_to_row_33 : decode to_row.2.1 33 = .ok (.iload_n 3, 1) := by decide +kernel
theorem d_to_row_34 : decode to_row.2.1 34 = .ok (.iconst 2, 1) := by decide +kernel
theorem d_to_row_35 : decode to_row.2.1 35 = .ok (.if_icmp .ne 15, 3) := by decide +kernel
theorem d_to_row_38 : decode to_row.2.1 38 = .ok (.aload_n 0, 1) := by decide +kernel
theorem d_to_row_39 : decode to_row.2.1 39 = .ok (.aload 4, 2) := by decide +kernel
theorem d_to_row_41 : decode to_row.2.1 41 = .ok (.iload_n 2, 1) := by decide +kernel
theorem d_to_row_42 : decode to_row.2.1 42 = .ok (.i2l, 1) := by decide +kernel
theorem d_to_row_43 : decode to_row.2.1 43 = .ok (.invokevirtual 171, 3) := by decide +kernel
theorem d_to_row_46 : decode to_row.2.1 46 = .ok (.invokevirtual 209, 3) := by decide +kernel
theorem d_to_row_49 : decode to_row.2.1 49 = .ok (.ireturn, 1) := by decide +kernel
theorem d_to_row_50 : decode to_row.2.1 50 = .ok (.iload_n 3, 1) := by decide +kernel
theorem d_to_row_51 : decode to_row.2.1 51 = .ok (.ifCond .ne 12, 3) := by decide +kernel
theorem d_to_row_54 : decode to_row.2.1 54 = .ok (.aload 4, 2) := by decide +kernel
theorem d_to_row_56 : decode to_row.2.1 56 = .ok (.iload_n 2, 1) := by decide +kernel
theorem d_to_row_57 : decode to_row.2.1 57 = .ok (.invokevirtual 212, 3) := by decide +kernel
theorem d_to_row_60 : decode to_row.2.1 60 = .ok (.goto 9, 3) := by decide +kernel
theorem d_to_row_63 : decode to_row.2.1 63 = .ok (.aload 4, 2) := by decide +kernel
theorem d_to_row_65 : decode to_row.2.1 65 = .ok (.iload_n 2, 1) := by decide +kernel
theorem d_to_row_66 : decode to_row.2.1 66 = .ok (.invokevirtual 215, 3) := by decide +kernel
theorem d_to_row_69 : decode to_row.2.1 69 = .ok (.ireturn, 1) := by decide +kernel
theorem d_to_placesOf_0 : decode to_placesOf.2.1 0 = .ok (.iconst 0, 1) := by decide +kernel
theorem d_to_placesOf_1 : decode to_placesOf.2.1 1 = .ok (.istore_n 2, 1) := by decide +kernel
theorem d_to_placesOf_2 : decode to_placesOf.2.1 2 = .ok (.iconst 0, 1) := by decide +kernel
theorem d_to_placesOf_3 : decode to_placesOf.2.1 3 = .ok (.istore_n 3, 1) := by decide +kernel
theorem d_to_placesOf_4 : decode to_placesOf.2.1 4 = .ok (.iload_n 3, 1) := by decide +kernel
theorem d_to_placesOf_5 : decode to_placesOf.2.1 5 = .ok (.aload_n 0, 1) := by decide +kernel
theorem d_to_placesOf_6 : decode to_placesOf.2.1 6 = .ok (.getfield 128, 3) := by decide +kernel
theorem d_to_placesOf_9 : decode to_placesOf.2.1 9 = .ok (.if_icmp .ge 30, 3) := by decide +kernel
theorem d_to_placesOf_12 : decode to_placesOf.2.1 12 = .ok (.aload_n 0, 1) := by decide +kernel
theorem d_to_placesOf_13 : decode to_placesOf.2.1 13 = .ok (.iload_n 3, 1) := by decide +kernel
theorem d_to_placesOf_14 : decode to_placesOf.2.1 14 = .ok (.invokevirtual 139, 3) := by decide +kernel
theorem d_to_placesOf_17 : decode to_placesOf.2.1 17 = .ok (.astore 4, 2) := by decide +kernel
theorem d_to_placesOf_19 : decode to_placesOf.2.1 19 = .ok (.aload 4, 2) := by decide +kernel
theorem d_to_placesOf_21 : decode to_placesOf.2.1 21 = .ok (.ifnull 12, 3) := by decide +kernel
theorem d_to_placesOf_24 : decode to_placesOf.2.1 24 = .ok (.iload_n 2, 1) := by decide +kernel
theorem d_to_placesOf_25 : decode to_placesOf.2.1 25 = .ok (.aload 4, 2) := by decide +kernel
theorem d_to_placesOf_27 : decode to_placesOf.2.1 27 = .ok (.iload_n 1, 1) := by decide +kernel
theorem d_to_placesOf_28 : decode to_placesOf.2.1 28 = .ok (.invokevirtual 218, 3) := by decide +kernel
theorem d_to_placesOf_31 : decode to_placesOf.2.1 31 = .ok (.iadd, 1) := by decide +kernel
theorem d_to_placesOf_32 : decode to_placesOf.2.1 32 = .ok (.istore_n 2, 1) := by decide +kernel
theorem d_to_placesOf_33 : decode to_placesOf.2.1 33 = .ok (.iinc 3 1, 3) := by decide +kernel
theorem d_to_placesOf_36 : decode to_placesOf.2.1 36 = .ok (.goto (-32), 3) := by decide +kernel
theorem d_to_placesOf_39 : decode to_placesOf.2.1 39 = .ok (.iload_n 2, 1) := by decide +kernel
theorem d_to_placesOf_40 : decode to_placesOf.2.1 40 = .ok (.ireturn, 1) := by decide +kernel
theorem d_to_shares_0 : decode to_shares.2.1 0 = .ok (.aload_n 0, 1) := by decide +kernel
theorem d_to_shares_1 : decode to_shares.2.1 1 = .ok (.iload_n 1, 1) := by decide +kernel
theorem d_to_shares_2 : decode to_shares.2.1 2 = .ok (.invokevirtual 139, 3) := by decide +kernel
theorem d_to_shares_5 : decode to_shares.2.1 5 = .ok (.astore 5, 2) := by decide +kernel
theorem d_to_shares_7 : decode to_shares.2.1 7 = .ok (.aload_n 0, 1) := by decide +kernel
theorem d_to_shares_8 : decode to_shares.2.1 8 = .ok (.iload_n 3, 1) := by decide +kernel
theorem d_to_shares_9 : decode to_shares.2.1 9 = .ok (.invokevirtual 139, 3) := by decide +kernel
theorem d_to_shares_12 : decode to_shares.2.1 12 = .ok (.astore 6, 2) := by decide +kernel
theorem d_to_shares_14 : decode to_shares.2.1 14 = .ok (.aload 5, 2) := by decide +kernel
theorem d_to_shares_16 : decode to_shares.2.1 16 = .ok (.ifnull 29, 3) := by decide +kernel
theorem d_to_shares_19 : decode to_shares.2.1 19 = .ok (.aload 6, 2) := by decide +kernel
theorem d_to_shares_21 : decode to_shares.2.1 21 = .ok (.ifnull 24, 3) := by decide +kernel
theorem d_to_shares_24 : decode to_shares.2.1 24 = .ok (.aload 5, 2) := by decide +kernel
theorem d_to_shares_26 : decode to_shares.2.1 26 = .ok (.iload_n 2, 1) := by decide +kernel
theorem d_to_shares_27 : decode to_shares.2.1 27 = .ok (.i2l, 1) := by decide +kernel
theorem d_to_shares_28 : decode to_shares.2.1 28 = .ok (.invokevirtual 164, 3) := by decide +kernel
theorem d_to_shares_31 : decode to_shares.2.1 31 = .ok (.ifCond .eq 14, 3) := by decide +kernel
theorem d_to_shares_34 : decode to_shares.2.1 34 = .ok (.aload 6, 2) := by decide +kernel
theorem d_to_shares_36 : decode to_shares.2.1 36 = .ok (.iload 4, 2) := by decide +kernel
theorem d_to_shares_38 : decode to_shares.2.1 38 = .ok (.i2l, 1) := by decide +kernel
theorem d_to_shares_39 : decode to_shares.2.1 39 = .ok (.invokevirtual 164, 3) := by decide +kernel
theorem d_to_shares_42 : decode to_shares.2.1 42 = .ok (.ifCond .ne 5, 3) := by decide +kernel
theorem d_to_shares_45 : decode to_shares.2.1 45 = .ok (.iconst 0, 1) := by decide +kernel
theorem d_to_shares_46 : decode to_shares.2.1 46 = .ok (.ireturn, 1) := by decide +kernel
theorem d_to_shares_47 : decode to_shares.2.1 47 = .ok (.aload 5, 2) := by decide +kernel
theorem d_to_shares_49 : decode to_shares.2.1 49 = .ok (.iload_n 2, 1) := by decide +kernel
theorem d_to_shares_50 : decode to_shares.2.1 50 = .ok (.i2l, 1) := by decide +kernel
theorem d_to_shares_51 : decode to_shares.2.1 51 = .ok (.invokevirtual 171, 3) := by decide +kernel
theorem d_to_shares_54 : decode to_shares.2.1 54 = .ok (.aload 6, 2) := by decide +kernel
theorem d_to_shares_56 : decode to_shares.2.1 56 = .ok (.iload 4, 2) := by decide +kernel
theorem d_to_shares_58 : decode to_shares.2.1 58 = .ok (.i2l, 1) := by decide +kernel
theorem d_to_shares_59 : decode to_shares.2.1 59 = .ok (.invokevirtual 171, 3) := by decide +kernel
theorem d_to_shares_62 : decode to_shares.2.1 62 = .ok (.if_icmp .ne 7, 3) := by decide +kernel
theorem d_to_shares_65 : decode to_shares.2.1 65 = .ok (.iconst 1, 1) := by decide +kernel
theorem d_to_shares_66 : decode to_shares.2.1 66 = .ok (.goto 4, 3) := by decide +kernel
theorem d_to_shares_69 : decode to_shares.2.1 69 = .ok (.iconst 0, 1) := by decide +kernel
theorem d_to_shares_70 : decode to_shares.2.1 70 = .ok (.ireturn, 1) := by decide +kernel
theorem d_to_copy_0 : decode to_copy.2.1 0 = .ok (.aload_n 0, 1) := by decide +kernel
theorem d_to_copy_1 : decode to_copy.2.1 1 = .ok (.iload_n 1, 1) := by decide +kernel
theorem d_to_copy_2 : decode to_copy.2.1 2 = .ok (.invokevirtual 139, 3) := by decide +kernel
theorem d_to_copy_5 : decode to_copy.2.1 5 = .ok (.astore_n 2, 1) := by decide +kernel
theorem d_to_copy_6 : decode to_copy.2.1 6 = .ok (.aload_n 2, 1) := by decide +kernel
theorem d_to_copy_7 : decode to_copy.2.1 7 = .ok (.ifnull 12, 3) := by decide +kernel
theorem d_to_copy_10 : decode to_copy.2.1 10 = .ok (.aload_n 0, 1) := by decide +kernel
theorem d_to_copy_11 : decode to_copy.2.1 11 = .ok (.getfield 128, 3) := by decide +kernel
theorem d_to_copy_14 : decode to_copy.2.1 14 = .ok (.bipush 16, 2) := by decide +kernel
theorem d_to_copy_16 : decode to_copy.2.1 16 = .ok (.if_icmp .lt 5, 3) := by decide +kernel
theorem d_to_copy_19 : decode to_copy.2.1 19 = .ok (.iconst (-1), 1) := by decide +kernel
theorem d_to_copy_20 : decode to_copy.2.1 20 = .ok (.ireturn, 1) := by decide +kernel
theorem d_to_copy_21 : decode to_copy.2.1 21 = .ok (.new 46, 3) := by decide +kernel
theorem d_to_copy_24 : decode to_copy.2.1 24 = .ok (.dup, 1) := by decide +kernel
theorem d_to_copy_25 : decode to_copy.2.1 25 = .ok (.aload_n 0, 1) := by decide +kernel
theorem d_to_copy_26 : decode to_copy.2.1 26 = .ok (.getfield 42, 3) := by decide +kernel
theorem d_to_copy_29 : decode to_copy.2.1 29 = .ok (.invokespecial 132, 3) := by decide +kernel
theorem d_to_copy_32 : decode to_copy.2.1 32 = .ok (.astore_n 3, 1) := by decide +kernel
theorem d_to_copy_33 : decode to_copy.2.1 33 = .ok (.aload_n 3, 1) := by decide +kernel
theorem d_to_copy_34 : decode to_copy.2.1 34 = .ok (.aload_n 2, 1) := by decide +kernel
theorem d_to_copy_35 : decode to_copy.2.1 35 = .ok (.getfield 219, 3) := by decide +kernel
theorem d_to_copy_38 : decode to_copy.2.1 38 = .ok (.iconst 0, 1) := by decide +kernel
theorem d_to_copy_39 : decode to_copy.2.1 39 = .ok (.aload_n 2, 1) := by decide +kernel
theorem d_to_copy_40 : decode to_copy.2.1 40 = .ok (.getfield 143, 3) := by decide +kernel
theorem d_to_copy_43 : decode to_copy.2.1 43 = .ok (.invokevirtual 222, 3) := by decide +kernel
theorem d_to_copy_46 : decode to_copy.2.1 46 = .ok (.aload_n 0, 1) := by decide +kernel
theorem d_to_copy_47 : decode to_copy.2.1 47 = .ok (.aload_n 3, 1) := by decide +kernel
theorem d_to_copy_48 : decode to_copy.2.1 48 = .ok (.invokevirtual 135, 3) := by decide +kernel
theorem d_to_copy_51 : decode to_copy.2.1 51 = .ok (.ireturn, 1) := by decide +kernel
theorem d_to_region_0 : decode to_region.2.1 0 = .ok (.aload_n 0, 1) := by decide +kernel
theorem d_to_region_1 : decode to_region.2.1 1 = .ok (.iload_n 1, 1) := by decide +kernel
theorem d_to_region_2 : decode to_region.2.1 2 = .ok (.invokevirtual 139, 3) := by decide +kernel
theorem d_to_region_5 : decode to_region.2.1 5 = .ok (.astore 6, 2) := by decide +kernel
theorem d_to_region_7 : decode to_region.2.1 7 = .ok (.aload 6, 2) := by decide +kernel
theorem d_to_region_9 : decode to_region.2.1 9 = .ok (.ifnull 13, 3) := by decide +kernel
theorem d_to_region_12 : decode to_region.2.1 12 = .ok (.iload 4, 2) := by decide +kernel
theorem d_to_region_14 : decode to_region.2.1 14 = .ok (.iload 5, 2) := by decide +kernel
theorem d_to_region_16 : decode to_region.2.1 16 = .ok (.invokestatic 226, 3) := by decide +kernel
theorem d_to_region_19 : decode to_region.2.1 19 = .ok (.ifCond .ne 5, 3) := by decide +kernel
theorem d_to_region_22 : decode to_region.2.1 22 = .ok (.iconst (-1), 1) := by decide +kernel
theorem d_to_region_23 : decode to_region.2.1 23 = .ok (.ireturn, 1) := by decide +kernel
theorem d_to_region_24 : decode to_region.2.1 24 = .ok (.aload_n 0, 1) := by decide +kernel
theorem d_to_region_25 : decode to_region.2.1 25 = .ok (.getfield 64, 3) := by decide +kernel
theorem d_to_region_28 : decode to_region.2.1 28 = .ok (.aload 6, 2) := by decide +kernel
theorem d_to_region_30 : decode to_region.2.1 30 = .ok (.iload_n 2, 1) := by decide +kernel
theorem d_to_region_31 : decode to_region.2.1 31 = .ok (.iload_n 3, 1) := by decide +kernel
theorem d_to_region_32 : decode to_region.2.1 32 = .ok (.iload 4, 2) := by decide +kernel
theorem d_to_region_34 : decode to_region.2.1 34 = .ok (.iload 5, 2) := by decide +kernel
theorem d_to_region_36 : decode to_region.2.1 36 = .ok (.invokevirtual 229, 3) := by decide +kernel
theorem d_to_region_39 : decode to_region.2.1 39 = .ok (.aload_n 0, 1) := by decide +kernel
theorem d_to_region_40 : decode to_region.2.1 40 = .ok (.getfield 64, 3) := by decide +kernel
theorem d_to_region_43 : decode to_region.2.1 43 = .ok (.invokevirtual 233, 3) := by decide +kernel
theorem d_to_region_46 : decode to_region.2.1 46 = .ok (.ireturn, 1) := by decide +kernel
theorem d_to_turn_0 : decode to_turn.2.1 0 = .ok (.aload_n 0, 1) := by decide +kernel
theorem d_to_turn_1 : decode to_turn.2.1 1 = .ok (.getfield 64, 3) := by decide +kernel
theorem d_to_turn_4 : decode to_turn.2.1 4 = .ok (.invokevirtual 236, 3) := by decide +kernel
theorem d_to_turn_7 : decode to_turn.2.1 7 = .ok (.ifCond .ne 10, 3) := by decide +kernel
theorem d_to_turn_10 : decode to_turn.2.1 10 = .ok (.iload_n 1, 1) := by decide +kernel
theorem d_to_turn_11 : decode to_turn.2.1 11 = .ok (.invokestatic 114, 3) := by decide +kernel
theorem d_to_turn_14 : decode to_turn.2.1 14 = .ok (.ifCond .ne 5, 3) := by decide +kernel
theorem d_to_turn_17 : decode to_turn.2.1 17 = .ok (.iconst 0, 1) := by decide +kernel
theorem d_to_turn_18 : decode to_turn.2.1 18 = .ok (.ireturn, 1) := by decide +kernel
theorem d_to_turn_19 : decode to_turn.2.1 19 = .ok (.aload_n 0, 1) := by decide +kernel
theorem d_to_turn_20 : decode to_turn.2.1 20 = .ok (.getfield 68, 3) := by decide +kernel
theorem d_to_turn_23 : decode to_turn.2.1 23 = .ok (.aload_n 0, 1) := by decide +kernel
theorem d_to_turn_24 : decode to_turn.2.1 24 = .ok (.getfield 64, 3) := by decide +kernel
theorem d_to_turn_27 : decode to_turn.2.1 27 = .ok (.iconst 0, 1) := by decide +kernel
theorem d_to_turn_28 : decode to_turn.2.1 28 = .ok (.aload_n 0, 1) := by decide +kernel
theorem d_to_turn_29 : decode to_turn.2.1 29 = .ok (.getfield 20, 3) := by decide +kernel
theorem d_to_turn_32 : decode to_turn.2.1 32 = .ok (.invokevirtual 239, 3) := by decide +kernel
theorem d_to_turn_35 : decode to_turn.2.1 35 = .ok (.aload_n 0, 1) := by decide +kernel
theorem d_to_turn_36 : decode to_turn.2.1 36 = .ok (.getfield 64, 3) := by decide +kernel
theorem d_to_turn_39 : decode to_turn.2.1 39 = .ok (.aload_n 0, 1) := by decide +kernel
theorem d_to_turn_40 : decode to_turn.2.1 40 = .ok (.getfield 68, 3) := by decide +kernel
theorem d_to_turn_43 : decode to_turn.2.1 43 = .ok (.iload_n 1, 1) := by decide +kernel
theorem d_to_turn_44 : decode to_turn.2.1 44 = .ok (.aload_n 0, 1) := by decide +kernel
theorem d_to_turn_45 : decode to_turn.2.1 45 = .ok (.getfield 20, 3) := by decide +kernel
theorem d_to_turn_48 : decode to_turn.2.1 48 = .ok (.invokevirtual 239, 3) := by decide +kernel
theorem d_to_turn_51 : decode to_turn.2.1 51 = .ok (.iconst 1, 1) := by decide +kernel
theorem d_to_turn_52 : decode to_turn.2.1 52 = .ok (.ireturn, 1) := by decide +kernel
theorem d_to_paste_0 : decode to_paste.2.1 0 = .ok (.aload_n 0, 1) := by decide +kernel
theorem d_to_paste_1 : decode to_paste.2.1 1 = .ok (.iload_n 1, 1) := by decide +kernel
theorem d_to_paste_2 : decode to_paste.2.1 2 = .ok (.invokevirtual 139, 3) := by decide +kernel
theorem d_to_paste_5 : decode to_paste.2.1 5 = .ok (.astore 4, 2) := by decide +kernel
theorem d_to_paste_7 : decode to_paste.2.1 7 = .ok (.aload 4, 2) := by decide +kernel
theorem d_to_paste_9 : decode to_paste.2.1 9 = .ok (.ifnull 13, 3) := by decide +kernel
theorem d_to_paste_12 : decode to_paste.2.1 12 = .ok (.aload_n 0, 1) := by decide +kernel
theorem d_to_paste_13 : decode to_paste.2.1 13 = .ok (.getfield 64, 3) := by decide +kernel
theorem d_to_paste_16 : decode to_paste.2.1 16 = .ok (.invokevirtual 236, 3) := by decide +kernel
theorem d_to_paste_19 : decode to_paste.2.1 19 = .ok (.ifCond .eq 5, 3) := by decide +kernel
theorem d_to_paste_22 : decode to_paste.2.1 22 = .ok (.iconst (-1), 1) := by decide +kernel
theorem d_to_paste_23 : decode to_paste.2.1 23 = .ok (.ireturn, 1) := by decide +kernel
theorem d_to_paste_24 : decode to_paste.2.1 24 = .ok (.iconst 0, 1) := by decide +kernel
theorem d_to_paste_25 : decode to_paste.2.1 25 = .ok (.istore 5, 2) := by decide +kernel
theorem d_to_paste_27 : decode to_paste.2.1 27 = .ok (.iconst 0, 1) := by decide +kernel
theorem d_to_paste_28 : decode to_paste.2.1 28 = .ok (.istore 6, 2) := by decide +kernel
theorem d_to_paste_30 : decode to_paste.2.1 30 = .ok (.iconst 0, 1) := by decide +kernel
theorem d_to_paste_31 : decode to_paste.2.1 31 = .ok (.istore 7, 2) := by decide +kernel
theorem d_to_paste_33 : decode to_paste.2.1 33 = .ok (.iload 7, 2) := by decide +kernel
theorem d_to_paste_35 : decode to_paste.2.1 35 = .ok (.aload_n 0, 1) := by decide +kernel
theorem d_to_paste_36 : decode to_paste.2.1 36 = .ok (.getfield 64, 3) := by decide +kernel
theorem d_to_paste_39 : decode to_paste.2.1 39 = .ok (.getfield 243, 3) := by decide +kernel
theorem d_to_paste_42 : decode to_paste.2.1 42 = .ok (.if_icmp .ge 43, 3) := by decide +kernel
theorem d_to_paste_45 : decode to_paste.2.1 45 = .ok (.aload_n 0, 1) := by decide +kernel
theorem d_to_paste_46 : decode to_paste.2.1 46 = .ok (.aload 4, 2) := by decide +kernel
theorem d_to_paste_48 : decode to_paste.2.1 48 = .ok (.iload 7, 2) := by decide +kernel
theorem d_to_paste_50 : decode to_paste.2.1 50 = .ok (.iload_n 2, 1) := by decide +kernel
theorem d_to_paste_51 : decode to_paste.2.1 51 = .ok (.iload_n 3, 1) := by decide +kernel
theorem d_to_paste_52 : decode to_paste.2.1 52 = .ok (.invokevirtual 246, 3) := by decide +kernel
theorem d_to_paste_55 : decode to_paste.2.1 55 = .ok (.istore 8, 2) := by decide +kernel
theorem d_to_paste_57 : decode to_paste.2.1 57 = .ok (.iload 5, 2) := by decide +kernel
theorem d_to_paste_59 : decode to_paste.2.1 59 = .ok (.iload 8, 2) := by decide +kernel
theorem d_to_paste_61 : decode to_paste.2.1 61 = .ok (.iadd, 1) := by decide +kernel
theorem d_to_paste_62 : decode to_paste.2.1 62 = .ok (.istore 5, 2) := by decide +kernel
theorem d_to_paste_64 : decode to_paste.2.1 64 = .ok (.iload 6, 2) := by decide +kernel
theorem d_to_paste_66 : decode to_paste.2.1 66 = .ok (.iload 8, 2) := by decide +kernel
theorem d_to_paste_68 : decode to_paste.2.1 68 = .ok (.ifCond .le 7, 3) := by decide +kernel
theorem d_to_paste_71 : decode to_paste.2.1 71 = .ok (.iconst 1, 1) := by decide +kernel
theorem d_to_paste_72 : decode to_paste.2.1 72 = .ok (.goto 4, 3) := by decide +kernel
theorem d_to_paste_75 : decode to_paste.2.1 75 = .ok (.iconst 0, 1) := by decide +kernel
theorem d_to_paste_76 : decode to_paste.2.1 76 = .ok (.iadd, 1) := by decide +kernel
theorem d_to_paste_77 : decode to_paste.2.1 77 = .ok (.istore 6, 2) := by decide +kernel
theorem d_to_paste_79 : decode to_paste.2.1 79 = .ok (.iinc 7 1, 3) := by decide +kernel
theorem d_to_paste_82 : decode to_paste.2.1 82 = .ok (.goto (-49), 3) := by decide +kernel
theorem d_to_paste_85 : decode to_paste.2.1 85 = .ok (.iload 6, 2) := by decide +kernel
theorem d_to_paste_87 : decode to_paste.2.1 87 = .ok (.aload_n 0, 1) := by decide +kernel
theorem d_to_paste_88 : decode to_paste.2.1 88 = .ok (.getfield 42, 3) := by decide +kernel
theorem d_to_paste_91 : decode to_paste.2.1 91 = .ok (.invokevirtual 149, 3) := by decide +kernel
theorem d_to_paste_94 : decode to_paste.2.1 94 = .ok (.if_icmp .le 5, 3) := by decide +kernel
theorem d_to_paste_97 : decode to_paste.2.1 97 = .ok (.iconst (-1), 1) := by decide +kernel
theorem d_to_paste_98 : decode to_paste.2.1 98 = .ok (.ireturn, 1) := by decide +kernel
theorem d_to_paste_99 : decode to_paste.2.1 99 = .ok (.iload 5, 2) := by decide +kernel
theorem d_to_paste_101 : decode to_paste.2.1 101 = .ok (.ifCond .le 21, 3) := by decide +kernel
theorem d_to_paste_104 : decode to_paste.2.1 104 = .ok (.aload_n 0, 1) := by decide +kernel
theorem d_to_paste_105 : decode to_paste.2.1 105 = .ok (.getfield 55, 3) := by decide +kernel
theorem d_to_paste_108 : decode to_paste.2.1 108 = .ok (.iload_n 1, 1) := by decide +kernel
theorem d_to_paste_109 : decode to_paste.2.1 109 = .ok (.aload 4, 2) := by decide +kernel
theorem d_to_paste_111 : decode to_paste.2.1 111 = .ok (.invokevirtual 153, 3) := by decide +kernel
theorem d_to_paste_114 : decode to_paste.2.1 114 = .ok (.aload_n 0, 1) := by decide +kernel
theorem d_to_paste_115 : decode to_paste.2.1 115 = .ok (.aload 4, 2) := by decide +kernel
theorem d_to_paste_117 : decode to_paste.2.1 117 = .ok (.iload_n 2, 1) := by decide +kernel
theorem d_to_paste_118 : decode to_paste.2.1 118 = .ok (.iload_n 3, 1) := by decide +kernel
theorem d_to_paste_119 : decode to_paste.2.1 119 = .ok (.invokevirtual 250, 3) := by decide +kernel
theorem d_to_paste_122 : decode to_paste.2.1 122 = .ok (.iload 5, 2) := by decide +kernel
theorem d_to_paste_124 : decode to_paste.2.1 124 = .ok (.ireturn, 1) := by decide +kernel
theorem d_to_cellsThatCome_0 : decode to_cellsThatCome.2.1 0 = .ok (.iconst 0, 1) := by decide +kernel
theorem d_to_cellsThatCome_1 : decode to_cellsThatCome.2.1 1 = .ok (.istore 5, 2) := by decide +kernel
theorem d_to_cellsThatCome_3 : decode to_cellsThatCome.2.1 3 = .ok (.iconst 0, 1) := by decide +kernel
theorem d_to_cellsThatCome_4 : decode to_cellsThatCome.2.1 4 = .ok (.istore 6, 2) := by decide +kernel
theorem d_to_cellsThatCome_6 : decode to_cellsThatCome.2.1 6 = .ok (.iload 6, 2) := by decide +kernel
theorem d_to_cellsThatCome_8 : decode to_cellsThatCome.2.1 8 = .ok (.aload_n 0, 1) := by decide +kernel
theorem d_to_cellsThatCome_9 : decode to_cellsThatCome.2.1 9 = .ok (.getfield 64, 3) := by decide +kernel
theorem d_to_cellsThatCome_12 : decode to_cellsThatCome.2.1 12 = .ok (.getfield 254, 3) := by decide +kernel
theorem d_to_cellsThatCome_15 : decode to_cellsThatCome.2.1 15 = .ok (.if_icmp .ge 26, 3) := by decide +kernel
theorem d_to_cellsThatCome_18 : decode to_cellsThatCome.2.1 18 = .ok (.aload_n 0, 1) := by decide +kernel
theorem d_to_cellsThatCome_19 : decode to_cellsThatCome.2.1 19 = .ok (.aload_n 1, 1) := by decide +kernel
theorem d_to_cellsThatCome_20 : decode to_cellsThatCome.2.1 20 = .ok (.iload_n 2, 1) := by decide +kernel
theorem d_to_cellsThatCome_21 : decode to_cellsThatCome.2.1 21 = .ok (.iload 6, 2) := by decide +kernel
theorem d_to_cellsThatCome_23 : decode to_cellsThatCome.2.1 23 = .ok (.iload_n 3, 1) := by decide +kernel
theorem d_to_cellsThatCome_24 : decode to_cellsThatCome.2.1 24 = .ok (.iload 4, 2) := by decide +kernel
theorem d_to_cellsThatCome_26 : decode to_cellsThatCome.2.1 26 = .ok (.invokevirtual 257, 3) := by decide +kernel
theorem d_to_cellsThatCome_29 : decode to_cellsThatCome.2.1 29 = .ok (.ifCond .eq 6, 3) := by decide +kernel
theorem d_to_cellsThatCome_32 : decode to_cellsThatCome.2.1 32 = .ok (.iinc 5 1, 3) := by decide +kernel
theorem d_to_cellsThatCome_35 : decode to_cellsThatCome.2.1 35 = .ok (.iinc 6 1, 3) := by decide +kernel
theorem d_to_cellsThatCome_38 : decode to_cellsThatCome.2.1 38 = .ok (.goto (-32), 3) := by decide +kernel
theorem d_to_cellsThatCome_41 : decode to_cellsThatCome.2.1 41 = .ok (.iload 5, 2) := by decide +kernel
theorem d_to_cellsThatCome_43 : decode to_cellsThatCome.2.1 43 = .ok (.ireturn, 1) := by decide +kernel
theorem d_to_comes_0 : decode to_comes.2.1 0 = .ok (.aload_n 0, 1) := by decide +kernel
theorem d_to_comes_1 : decode to_comes.2.1 1 = .ok (.getfield 64, 3) := by decide +kernel
theorem d_to_comes_4 : decode to_comes.2.1 4 = .ok (.iload_n 2, 1) := by decide +kernel
theorem d_to_comes_5 : decode to_comes.2.1 5 = .ok (.iload_n 3, 1) := by decide +kernel
theorem d_to_comes_6 : decode to_comes.2.1 6 = .ok (.invokevirtual 261, 3) := by decide +kernel
theorem d_to_comes_9 : decode to_comes.2.1 9 = .ok (.bipush (-2), 2) := by decide +kernel
theorem d_to_comes_11 : decode to_comes.2.1 11 = .ok (.if_icmp .eq 28, 3) := by decide +kernel
theorem d_to_comes_14 : decode to_comes.2.1 14 = .ok (.aload_n 1, 1) := by decide +kernel
theorem d_to_comes_15 : decode to_comes.2.1 15 = .ok (.iload 4, 2) := by decide +kernel
theorem d_to_comes_17 : decode to_comes.2.1 17 = .ok (.i2l, 1) := by decide +kernel
theorem d_to_comes_18 : decode to_comes.2.1 18 = .ok (.iload_n 2, 1) := by decide +kernel
theorem d_to_comes_19 : decode to_comes.2.1 19 = .ok (.i2l, 1) := by decide +kernel
theorem d_to_comes_20 : decode to_comes.2.1 20 = .ok (.ladd, 1) := by decide +kernel
theorem d_to_comes_21 : decode to_comes.2.1 21 = .ok (.iload 5, 2) := by decide +kernel
theorem d_to_comes_23 : decode to_comes.2.1 23 = .ok (.i2l, 1) := by decide +kernel
theorem d_to_comes_24 : decode to_comes.2.1 24 = .ok (.iload_n 3, 1) := by decide +kernel
theorem d_to_comes_25 : decode to_comes.2.1 25 = .ok (.i2l, 1) := by decide +kernel
theorem d_to_comes_26 : decode to_comes.2.1 26 = .ok (.ladd, 1) := by decide +kernel
theorem d_to_comes_27 : decode to_comes.2.1 27 = .ok (.invokevirtual 186, 3) := by decide +kernel
theorem d_to_comes_30 : decode to_comes.2.1 30 = .ok (.bipush (-2), 2) := by decide +kernel
theorem d_to_comes_32 : decode to_comes.2.1 32 = .ok (.if_icmp .eq 7, 3) := by decide +kernel
theorem d_to_comes_35 : decode to_comes.2.1 35 = .ok (.iconst 1, 1) := by decide +kernel
theorem d_to_comes_36 : decode to_comes.2.1 36 = .ok (.goto 4, 3) := by decide +kernel
theorem d_to_comes_39 : decode to_comes.2.1 39 = .ok (.iconst 0, 1) := by decide +kernel
theorem d_to_comes_40 : decode to_comes.2.1 40 = .ok (.ireturn, 1) := by decide +kernel
theorem d_to_pasteRows_0 : decode to_pasteRows.2.1 0 = .ok (.iconst 0, 1) := by decide +kernel
theorem d_to_pasteRows_1 : decode to_pasteRows.2.1 1 = .ok (.istore 4, 2) := by decide +kernel
theorem d_to_pasteRows_3 : decode to_pasteRows.2.1 3 = .ok (.iload 4, 2) := by decide +kernel
theorem d_to_pasteRows_5 : decode to_pasteRows.2.1 5 = .ok (.aload_n 0, 1) := by decide +kernel
theorem d_to_pasteRows_6 : decode to_pasteRows.2.1 6 = .ok (.getfield 64, 3) := by decide +kernel
theorem d_to_pasteRows_9 : decode to_pasteRows.2.1 9 = .ok (.getfield 243, 3) := by decide +kernel
theorem d_to_pasteRows_12 : decode to_pasteRows.2.1 12 = .ok (.if_icmp .ge 90, 3) := by decide +kernel
theorem d_to_pasteRows_15 : decode to_pasteRows.2.1 15 = .ok (.aload_n 0, 1) := by decide +kernel
theorem d_to_pasteRows_16 : decode to_pasteRows.2.1 16 = .ok (.aload_n 1, 1) := by decide +kernel
theorem d_to_pasteRows_17 : decode to_pasteRows.2.1 17 = .ok (.iload 4, 2) := by decide +kernel
theorem d_to_pasteRows_19 : decode to_pasteRows.2.1 19 = .ok (.iload_n 2, 1) := by decide +kernel
theorem d_to_pasteRows_20 : decode to_pasteRows.2.1 20 = .ok (.iload_n 3, 1) := by decide +kernel
theorem d_to_pasteRows_21 : decode to_pasteRows.2.1 21 = .ok (.invokevirtual 246, 3) := by decide +kernel
theorem d_to_pasteRows_24 : decode to_pasteRows.2.1 24 = .ok (.ifCond .le 72, 3) := by decide +kernel
theorem d_to_pasteRows_27 : decode to_pasteRows.2.1 27 = .ok (.aload_n 1, 1) := by decide +kernel
theorem d_to_pasteRows_28 : decode to_pasteRows.2.1 28 = .ok (.iload_n 2, 1) := by decide +kernel
theorem d_to_pasteRows_29 : decode to_pasteRows.2.1 29 = .ok (.iload 4, 2) := by decide +kernel
theorem d_to_pasteRows_31 : decode to_pasteRows.2.1 31 = .ok (.iadd, 1) := by decide +kernel
theorem d_to_pasteRows_32 : decode to_pasteRows.2.1 32 = .ok (.invokevirtual 193, 3) := by decide +kernel
theorem d_to_pasteRows_35 : decode to_pasteRows.2.1 35 = .ok (.istore 5, 2) := by decide +kernel
theorem d_to_pasteRows_37 : decode to_pasteRows.2.1 37 = .ok (.iconst 0, 1) := by decide +kernel
theorem d_to_pasteRows_38 : decode to_pasteRows.2.1 38 = .ok (.istore 6, 2) := by decide +kernel
theorem d_to_pasteRows_40 : decode to_pasteRows.2.1 40 = .ok (.iload 6, 2) := by decide +kernel
theorem d_to_pasteRows_42 : decode to_pasteRows.2.1 42 = .ok (.aload_n 0, 1) := by decide +kernel
theorem d_to_pasteRows_43 : decode to_pasteRows.2.1 43 = .ok (.getfield 64, 3) := by decide +kernel
theorem d_to_pasteRows_46 : decode to_pasteRows.2.1 46 = .ok (.getfield 254, 3) := by decide +kernel
theorem d_to_pasteRows_49 : decode to_pasteRows.2.1 49 = .ok (.if_icmp .ge 47, 3) := by decide +kernel
theorem d_to_pasteRows_52 : decode to_pasteRows.2.1 52 = .ok (.aload_n 0, 1) := by decide +kernel
theorem d_to_pasteRows_53 : decode to_pasteRows.2.1 53 = .ok (.aload_n 1, 1) := by decide +kernel
theorem d_to_pasteRows_54 : decode to_pasteRows.2.1 54 = .ok (.iload 4, 2) := by decide +kernel
theorem d_to_pasteRows_56 : decode to_pasteRows.2.1 56 = .ok (.iload 6, 2) := by decide +kernel
theorem d_to_pasteRows_58 : decode to_pasteRows.2.1 58 = .ok (.iload_n 2, 1) := by decide +kernel
theorem d_to_pasteRows_59 : decode to_pasteRows.2.1 59 = .ok (.iload_n 3, 1) := by decide +kernel
theorem d_to_pasteRows_60 : decode to_pasteRows.2.1 60 = .ok (.invokevirtual 257, 3) := by decide +kernel
theorem d_to_pasteRows_63 : decode to_pasteRows.2.1 63 = .ok (.ifCond .eq 27, 3) := by decide +kernel
theorem d_to_pasteRows_66 : decode to_pasteRows.2.1 66 = .ok (.aload_n 0, 1) := by decide +kernel
theorem d_to_pasteRows_67 : decode to_pasteRows.2.1 67 = .ok (.getfield 42, 3) := by decide +kernel
theorem d_to_pasteRows_70 : decode to_pasteRows.2.1 70 = .ok (.iload 5, 2) := by decide +kernel
theorem d_to_pasteRows_72 : decode to_pasteRows.2.1 72 = .ok (.iload_n 3, 1) := by decide +kernel
theorem d_to_pasteRows_73 : decode to_pasteRows.2.1 73 = .ok (.iload 6, 2) := by decide +kernel
theorem d_to_pasteRows_75 : decode to_pasteRows.2.1 75 = .ok (.iadd, 1) := by decide +kernel
theorem d_to_pasteRows_76 : decode to_pasteRows.2.1 76 = .ok (.aload_n 0, 1) := by decide +kernel
theorem d_to_pasteRows_77 : decode to_pasteRows.2.1 77 = .ok (.getfield 64, 3) := by decide +kernel
theorem d_to_pasteRows_80 : decode to_pasteRows.2.1 80 = .ok (.iload 4, 2) := by decide +kernel
theorem d_to_pasteRows_82 : decode to_pasteRows.2.1 82 = .ok (.iload 6, 2) := by decide +kernel
theorem d_to_pasteRows_84 : decode to_pasteRows.2.1 84 = .ok (.invokevirtual 261, 3) := by decide +kernel
theorem d_to_pasteRows_87 : decode to_pasteRows.2.1 87 = .ok (.invokevirtual 197, 3) := by decide +kernel
theorem d_to_pasteRows_90 : decode to_pasteRows.2.1 90 = .ok (.iinc 6 1, 3) := by decide +kernel
theorem d_to_pasteRows_93 : decode to_pasteRows.2.1 93 = .ok (.goto (-53), 3) := by decide +kernel
theorem d_to_pasteRows_96 : decode to_pasteRows.2.1 96 = .ok (.iinc 4 1, 3) := by decide +kernel
theorem d_to_pasteRows_99 : decode to_pasteRows.2.1 99 = .ok (.goto (-96), 3) := by decide +kernel
theorem d_to_pasteRows_102 : decode to_pasteRows.2.1 102 = .ok (.return_, 1) := by decide +kernel
theorem d_to_rule_0 : decode to_rule.2.1 0 = .ok (.aload_n 0, 1) := by decide +kernel
theorem d_to_rule_1 : decode to_rule.2.1 1 = .ok (.getfield 263, 3) := by decide +kernel
theorem d_to_rule_4 : decode to_rule.2.1 4 = .ok (.bipush 8, 2) := by decide +kernel
theorem d_to_rule_6 : decode to_rule.2.1 6 = .ok (.if_icmp .ge 11, 3) := by decide +kernel
theorem d_to_rule_9 : decode to_rule.2.1 9 = .ok (.iload_n 1, 1) := by decide +kernel
theorem d_to_rule_10 : decode to_rule.2.1 10 = .ok (.iload_n 2, 1) := by decide +kernel
theorem d_to_rule_11 : decode to_rule.2.1 11 = .ok (.invokestatic 266, 3) := by decide +kernel
theorem d_to_rule_14 : decode to_rule.2.1 14 = .ok (.ifCond .ne 5, 3) := by decide +kernel
theorem d_to_rule_17 : decode to_rule.2.1 17 = .ok (.iconst (-1), 1) := by decide +kernel
theorem d_to_rule_18 : decode to_rule.2.1 18 = .ok (.ireturn, 1) := by decide +kernel
theorem d_to_rule_19 : decode to_rule.2.1 19 = .ok (.aload_n 0, 1) := by decide +kernel
theorem d_to_rule_20 : decode to_rule.2.1 20 = .ok (.getfield 80, 3) := by decide +kernel
theorem d_to_rule_23 : decode to_rule.2.1 23 = .ok (.aload_n 0, 1) := by decide +kernel
theorem d_to_rule_24 : decode to_rule.2.1 24 = .ok (.getfield 263, 3) := by decide +kernel
theorem d_to_rule_27 : decode to_rule.2.1 27 = .ok (.new 78, 3) := by decide +kernel
theorem d_to_rule_30 : decode to_rule.2.1 30 = .ok (.dup, 1) := by decide +kernel
theorem d_to_rule_31 : decode to_rule.2.1 31 = .ok (.iload_n 1, 1) := by decide +kernel
theorem d_to_rule_32 : decode to_rule.2.1 32 = .ok (.iload_n 2, 1) := by decide +kernel
theorem d_to_rule_33 : decode to_rule.2.1 33 = .ok (.invokespecial 267, 3) := by decide +kernel
theorem d_to_rule_36 : decode to_rule.2.1 36 = .ok (.aastore, 1) := by decide +kernel
theorem d_to_rule_37 : decode to_rule.2.1 37 = .ok (.aload_n 0, 1) := by decide +kernel
theorem d_to_rule_38 : decode to_rule.2.1 38 = .ok (.dup, 1) := by decide +kernel
theorem d_to_rule_39 : decode to_rule.2.1 39 = .ok (.getfield 263, 3) := by decide +kernel
theorem d_to_rule_42 : decode to_rule.2.1 42 = .ok (.iconst 1, 1) := by decide +kernel
theorem d_to_rule_43 : decode to_rule.2.1 43 = .ok (.iadd, 1) := by decide +kernel
theorem d_to_rule_44 : decode to_rule.2.1 44 = .ok (.putfield 263, 3) := by decide +kernel
theorem d_to_rule_47 : decode to_rule.2.1 47 = .ok (.aload_n 0, 1) := by decide +kernel
theorem d_to_rule_48 : decode to_rule.2.1 48 = .ok (.getfield 263, 3) := by decide +kernel
theorem d_to_rule_51 : decode to_rule.2.1 51 = .ok (.iconst 1, 1) := by decide +kernel
theorem d_to_rule_52 : decode to_rule.2.1 52 = .ok (.isub, 1) := by decide +kernel
theorem d_to_rule_53 : decode to_rule.2.1 53 = .ok (.ireturn, 1) := by decide +kernel
theorem d_to_ruleOf_0 : decode to_ruleOf.2.1 0 = .ok (.iload_n 1, 1) := by decide +kernel
theorem d_to_ruleOf_1 : decode to_ruleOf.2.1 1 = .ok (.ifCond .lt 20, 3) := by decide +kernel
theorem d_to_ruleOf_4 : decode to_ruleOf.2.1 4 = .ok (.iload_n 1, 1) := by decide +kernel
theorem d_to_ruleOf_5 : decode to_ruleOf.2.1 5 = .ok (.aload_n 0, 1) := by decide +kernel
theorem d_to_ruleOf_6 : decode to_ruleOf.2.1 6 = .ok (.getfield 263, 3) := by decide +kernel
theorem d_to_ruleOf_9 : decode to_ruleOf.2.1 9 = .ok (.if_icmp .ge 12, 3) := by decide +kernel
theorem d_to_ruleOf_12 : decode to_ruleOf.2.1 12 = .ok (.aload_n 0, 1) := by decide +kernel
theorem d_to_ruleOf_13 : decode to_ruleOf.2.1 13 = .ok (.getfield 80, 3) := by decide +kernel
theorem d_to_ruleOf_16 : decode to_ruleOf.2.1 16 = .ok (.iload_n 1, 1) := by decide +kernel
theorem d_to_ruleOf_17 : decode to_ruleOf.2.1 17 = .ok (.aaload, 1) := by decide +kernel
theorem d_to_ruleOf_18 : decode to_ruleOf.2.1 18 = .ok (.goto 4, 3) := by decide +kernel
theorem d_to_ruleOf_21 : decode to_ruleOf.2.1 21 = .ok (.aconst_null, 1) := by decide +kernel
theorem d_to_ruleOf_22 : decode to_ruleOf.2.1 22 = .ok (.areturn, 1) := by decide +kernel
theorem d_to_becomes_0 : decode to_becomes.2.1 0 = .ok (.aload_n 0, 1) := by decide +kernel
theorem d_to_becomes_1 : decode to_becomes.2.1 1 = .ok (.iload_n 1, 1) := by decide +kernel
theorem d_to_becomes_2 : decode to_becomes.2.1 2 = .ok (.invokevirtual 269, 3) := by decide +kernel
theorem d_to_becomes_5 : decode to_becomes.2.1 5 = .ok (.astore 7, 2) := by decide +kernel
theorem d_to_becomes_7 : decode to_becomes.2.1 7 = .ok (.aload 7, 2) := by decide +kernel
theorem d_to_becomes_9 : decode to_becomes.2.1 9 = .ok (.ifnull 25, 3) := by decide +kernel
theorem d_to_becomes_12 : decode to_becomes.2.1 12 = .ok (.aload_n 0, 1) := by decide +kernel
theorem d_to_becomes_13 : decode to_becomes.2.1 13 = .ok (.getfield 20, 3) := by decide +kernel
theorem d_to_becomes_16 : decode to_becomes.2.1 16 = .ok (.iload_n 2, 1) := by decide +kernel
theorem d_to_becomes_17 : decode to_becomes.2.1 17 = .ok (.invokevirtual 110, 3) := by decide +kernel
theorem d_to_becomes_20 : decode to_becomes.2.1 20 = .ok (.ifCond .eq 14, 3) := by decide +kernel
theorem d_to_becomes_23 : decode to_becomes.2.1 23 = .ok (.aload 7, 2) := by decide +kernel
theorem d_to_becomes_25 : decode to_becomes.2.1 25 = .ok (.iload_n 3, 1) := by decide +kernel
theorem d_to_becomes_26 : decode to_becomes.2.1 26 = .ok (.iload 4, 2) := by decide +kernel
theorem d_to_becomes_28 : decode to_becomes.2.1 28 = .ok (.invokevirtual 273, 3) := by decide +kernel
theorem d_to_becomes_31 : decode to_becomes.2.1 31 = .ok (.ifCond .ne 5, 3) := by decide +kernel
theorem d_to_becomes_34 : decode to_becomes.2.1 34 = .ok (.iconst 0, 1) := by decide +kernel
theorem d_to_becomes_35 : decode to_becomes.2.1 35 = .ok (.ireturn, 1) := by decide +kernel
theorem d_to_becomes_36 : decode to_becomes.2.1 36 = .ok (.iload 5, 2) := by decide +kernel
theorem d_to_becomes_38 : decode to_becomes.2.1 38 = .ok (.iconst (-1), 1) := by decide +kernel
theorem d_to_becomes_39 : decode to_becomes.2.1 39 = .ok (.if_icmp .eq 16, 3) := by decide +kernel
theorem d_to_becomes_42 : decode to_becomes.2.1 42 = .ok (.aload_n 0, 1) := by decide +kernel
theorem d_to_becomes_43 : decode to_becomes.2.1 43 = .ok (.iload 5, 2) := by decide +kernel
theorem d_to_becomes_45 : decode to_becomes.2.1 45 = .ok (.iload 6, 2) := by decide +kernel
theorem d_to_becomes_47 : decode to_becomes.2.1 47 = .ok (.invokevirtual 180, 3) := by decide +kernel
theorem d_to_becomes_50 : decode to_becomes.2.1 50 = .ok (.ifCond .ne 5, 3) := by decide +kernel
theorem d_to_becomes_53 : decode to_becomes.2.1 53 = .ok (.iconst 0, 1) := by decide +kernel
theorem d_to_becomes_54 : decode to_becomes.2.1 54 = .ok (.ireturn, 1) := by decide +kernel
theorem d_to_becomes_55 : decode to_becomes.2.1 55 = .ok (.aload 7, 2) := by decide +kernel
theorem d_to_becomes_57 : decode to_becomes.2.1 57 = .ok (.iload_n 2, 1) := by decide +kernel
theorem d_to_becomes_58 : decode to_becomes.2.1 58 = .ok (.iload_n 3, 1) := by decide +kernel
theorem d_to_becomes_59 : decode to_becomes.2.1 59 = .ok (.iload 4, 2) := by decide +kernel
theorem d_to_becomes_61 : decode to_becomes.2.1 61 = .ok (.iload 5, 2) := by decide +kernel
theorem d_to_becomes_63 : decode to_becomes.2.1 63 = .ok (.iconst (-1), 1) := by decide +kernel
theorem d_to_becomes_64 : decode to_becomes.2.1 64 = .ok (.if_icmp .ne 7, 3) := by decide +kernel
theorem d_to_becomes_67 : decode to_becomes.2.1 67 = .ok (.iconst (-1), 1) := by decide +kernel
theorem d_to_becomes_68 : decode to_becomes.2.1 68 = .ok (.goto 14, 3) := by decide +kernel
theorem d_to_becomes_71 : decode to_becomes.2.1 71 = .ok (.aload_n 0, 1) := by decide +kernel
theorem d_to_becomes_72 : decode to_becomes.2.1 72 = .ok (.getfield 20, 3) := by decide +kernel
theorem d_to_becomes_75 : decode to_becomes.2.1 75 = .ok (.iload 5, 2) := by decide +kernel
theorem d_to_becomes_77 : decode to_becomes.2.1 77 = .ok (.iload 6, 2) := by decide +kernel
theorem d_to_becomes_79 : decode to_becomes.2.1 79 = .ok (.invokevirtual 183, 3) := by decide +kernel
theorem d_to_becomes_82 : decode to_becomes.2.1 82 = .ok (.invokevirtual 276, 3) := by decide +kernel
theorem d_to_becomes_85 : decode to_becomes.2.1 85 = .ok (.iconst 1, 1) := by decide +kernel
theorem d_to_becomes_86 : decode to_becomes.2.1 86 = .ok (.ireturn, 1) := by decide +kernel
theorem d_to_grow_0 : decode to_grow.2.1 0 = .ok (.aload_n 0, 1) := by decide +kernel
theorem d_to_grow_1 : decode to_grow.2.1 1 = .ok (.iload_n 1, 1) := by decide +kernel
theorem d_to_grow_2 : decode to_grow.2.1 2 = .ok (.invokevirtual 139, 3) := by decide +kernel
theorem d_to_grow_5 : decode to_grow.2.1 5 = .ok (.astore 4, 2) := by decide +kernel
theorem d_to_grow_7 : decode to_grow.2.1 7 = .ok (.aload_n 0, 1) := by decide +kernel
theorem d_to_grow_8 : decode to_grow.2.1 8 = .ok (.iload_n 2, 1) := by decide +kernel
theorem d_to_grow_9 : decode to_grow.2.1 9 = .ok (.invokevirtual 269, 3) := by decide +kernel
theorem d_to_grow_12 : decode to_grow.2.1 12 = .ok (.astore 5, 2) := by decide +kernel
theorem d_to_grow_14 : decode to_grow.2.1 14 = .ok (.aload 4, 2) := by decide +kernel
theorem d_to_grow_16 : decode to_grow.2.1 16 = .ok (.ifnull 17, 3) := by decide +kernel
theorem d_to_grow_19 : decode to_grow.2.1 19 = .ok (.aload 5, 2) := by decide +kernel
theorem d_to_grow_21 : decode to_grow.2.1 21 = .ok (.ifnull 12, 3) := by decide +kernel
theorem d_to_grow_24 : decode to_grow.2.1 24 = .ok (.iload_n 3, 1) := by decide +kernel
theorem d_to_grow_25 : decode to_grow.2.1 25 = .ok (.ifCond .lt 8, 3) := by decide +kernel
theorem d_to_grow_28 : decode to_grow.2.1 28 = .ok (.iload_n 3, 1) := by decide +kernel
theorem d_to_grow_29 : decode to_grow.2.1 29 = .ok (.iconst 5, 1) := by decide +kernel
theorem d_to_grow_30 : decode to_grow.2.1 30 = .ok (.if_icmp .le 5, 3) := by decide +kernel
theorem d_to_grow_33 : decode to_grow.2.1 33 = .ok (.iconst (-1), 1) := by decide +kernel
theorem d_to_grow_34 : decode to_grow.2.1 34 = .ok (.ireturn, 1) := by decide +kernel
theorem d_to_grow_35 : decode to_grow.2.1 35 = .ok (.aload 5, 2) := by decide +kernel
theorem d_to_grow_37 : decode to_grow.2.1 37 = .ok (.getfield 279, 3) := by decide +kernel
theorem d_to_grow_40 : decode to_grow.2.1 40 = .ok (.iload_n 3, 1) := by decide +kernel
theorem d_to_grow_41 : decode to_grow.2.1 41 = .ok (.invokestatic 280, 3) := by decide +kernel
theorem d_to_grow_44 : decode to_grow.2.1 44 = .ok (.istore 6, 2) := by decide +kernel
theorem d_to_grow_46 : decode to_grow.2.1 46 = .ok (.aload 5, 2) := by decide +kernel
theorem d_to_grow_48 : decode to_grow.2.1 48 = .ok (.getfield 283, 3) := by decide +kernel
theorem d_to_grow_51 : decode to_grow.2.1 51 = .ok (.iload_n 3, 1) := by decide +kernel
theorem d_to_grow_52 : decode to_grow.2.1 52 = .ok (.invokestatic 280, 3) := by decide +kernel
theorem d_to_grow_55 : decode to_grow.2.1 55 = .ok (.istore 7, 2) := by decide +kernel
theorem d_to_grow_57 : decode to_grow.2.1 57 = .ok (.aload_n 0, 1) := by decide +kernel
theorem d_to_grow_58 : decode to_grow.2.1 58 = .ok (.getfield 128, 3) := by decide +kernel
theorem d_to_grow_61 : decode to_grow.2.1 61 = .ok (.bipush 16, 2) := by decide +kernel
theorem d_to_grow_63 : decode to_grow.2.1 63 = .ok (.if_icmp .ge 21, 3) := by decide +kernel
theorem d_to_grow_66 : decode to_grow.2.1 66 = .ok (.aload 4, 2) := by decide +kernel
theorem d_to_grow_68 : decode to_grow.2.1 68 = .ok (.getfield 143, 3) := by decide +kernel
theorem d_to_grow_71 : decode to_grow.2.1 71 = .ok (.iload 6, 2) := by decide +kernel
theorem d_to_grow_73 : decode to_grow.2.1 73 = .ok (.imul, 1) := by decide +kernel
theorem d_to_grow_74 : decode to_grow.2.1 74 = .ok (.aload_n 0, 1) := by decide +kernel
theorem d_to_grow_75 : decode to_grow.2.1 75 = .ok (.getfield 42, 3) := by decide +kernel
theorem d_to_grow_78 : decode to_grow.2.1 78 = .ok (.invokevirtual 149, 3) := by decide +kernel
theorem d_to_grow_81 : decode to_grow.2.1 81 = .ok (.if_icmp .le 5, 3) := by decide +kernel
theorem d_to_grow_84 : decode to_grow.2.1 84 = .ok (.iconst (-1), 1) := by decide +kernel
theorem d_to_grow_85 : decode to_grow.2.1 85 = .ok (.ireturn, 1) := by decide +kernel
theorem d_to_grow_86 : decode to_grow.2.1 86 = .ok (.aload 4, 2) := by decide +kernel
theorem d_to_grow_88 : decode to_grow.2.1 88 = .ok (.iload 6, 2) := by decide +kernel
theorem d_to_grow_90 : decode to_grow.2.1 90 = .ok (.iload 7, 2) := by decide +kernel
theorem d_to_grow_92 : decode to_grow.2.1 92 = .ok (.invokevirtual 284, 3) := by decide +kernel
theorem d_to_grow_95 : decode to_grow.2.1 95 = .ok (.ifCond .eq 15, 3) := by decide +kernel
theorem d_to_grow_98 : decode to_grow.2.1 98 = .ok (.aload_n 0, 1) := by decide +kernel
theorem d_to_grow_99 : decode to_grow.2.1 99 = .ok (.aload 4, 2) := by decide +kernel
theorem d_to_grow_101 : decode to_grow.2.1 101 = .ok (.aload 5, 2) := by decide +kernel
theorem d_to_grow_103 : decode to_grow.2.1 103 = .ok (.iload_n 3, 1) := by decide +kernel
theorem d_to_grow_104 : decode to_grow.2.1 104 = .ok (.invokevirtual 287, 3) := by decide +kernel
theorem d_to_grow_107 : decode to_grow.2.1 107 = .ok (.ifCond .ne 5, 3) := by decide +kernel
theorem d_to_grow_110 : decode to_grow.2.1 110 = .ok (.iconst (-1), 1) := by decide +kernel
theorem d_to_grow_111 : decode to_grow.2.1 111 = .ok (.ireturn, 1) := by decide +kernel
theorem d_to_grow_112 : decode to_grow.2.1 112 = .ok (.new 46, 3) := by decide +kernel
theorem d_to_grow_115 : decode to_grow.2.1 115 = .ok (.dup, 1) := by decide +kernel
theorem d_to_grow_116 : decode to_grow.2.1 116 = .ok (.aload_n 0, 1) := by decide +kernel
theorem d_to_grow_117 : decode to_grow.2.1 117 = .ok (.getfield 42, 3) := by decide +kernel
theorem d_to_grow_120 : decode to_grow.2.1 120 = .ok (.invokespecial 132, 3) := by decide +kernel
theorem d_to_grow_123 : decode to_grow.2.1 123 = .ok (.astore 8, 2) := by decide +kernel
theorem d_to_grow_125 : decode to_grow.2.1 125 = .ok (.iconst 0, 1) := by decide +kernel
theorem d_to_grow_126 : decode to_grow.2.1 126 = .ok (.istore 9, 2) := by decide +kernel
theorem d_to_grow_128 : decode to_grow.2.1 128 = .ok (.iload 9, 2) := by decide +kernel
theorem d_to_grow_130 : decode to_grow.2.1 130 = .ok (.aload 4, 2) := by decide +kernel
theorem d_to_grow_132 : decode to_grow.2.1 132 = .ok (.getfield 143, 3) := by decide +kernel
theorem d_to_grow_135 : decode to_grow.2.1 135 = .ok (.iload 6, 2) := by decide +kernel
theorem d_to_grow_137 : decode to_grow.2.1 137 = .ok (.imul, 1) := by decide +kernel
theorem d_to_grow_138 : decode to_grow.2.1 138 = .ok (.if_icmp .ge 27, 3) := by decide +kernel
theorem d_to_grow_141 : decode to_grow.2.1 141 = .ok (.aload 8, 2) := by decide +kernel
theorem d_to_grow_143 : decode to_grow.2.1 143 = .ok (.iload 9, 2) := by decide +kernel
theorem d_to_grow_145 : decode to_grow.2.1 145 = .ok (.aload_n 0, 1) := by decide +kernel
theorem d_to_grow_146 : decode to_grow.2.1 146 = .ok (.aload 4, 2) := by decide +kernel
theorem d_to_grow_148 : decode to_grow.2.1 148 = .ok (.aload 5, 2) := by decide +kernel
theorem d_to_grow_150 : decode to_grow.2.1 150 = .ok (.iload_n 3, 1) := by decide +kernel
theorem d_to_grow_151 : decode to_grow.2.1 151 = .ok (.iload 9, 2) := by decide +kernel
theorem d_to_grow_153 : decode to_grow.2.1 153 = .ok (.invokevirtual 291, 3) := by decide +kernel
theorem d_to_grow_156 : decode to_grow.2.1 156 = .ok (.invokevirtual 160, 3) := by decide +kernel
theorem d_to_grow_159 : decode to_grow.2.1 159 = .ok (.iinc 9 1, 3) := by decide +kernel
theorem d_to_grow_162 : decode to_grow.2.1 162 = .ok (.goto (-34), 3) := by decide +kernel
theorem d_to_grow_165 : decode to_grow.2.1 165 = .ok (.aload_n 0, 1) := by decide +kernel
theorem d_to_grow_166 : decode to_grow.2.1 166 = .ok (.aload 8, 2) := by decide +kernel
theorem d_to_grow_168 : decode to_grow.2.1 168 = .ok (.invokevirtual 135, 3) := by decide +kernel
theorem d_to_grow_171 : decode to_grow.2.1 171 = .ok (.ireturn, 1) := by decide +kernel
theorem d_to_power_0 : decode to_power.2.1 0 = .ok (.iconst 1, 1) := by decide +kernel
theorem d_to_power_1 : decode to_power.2.1 1 = .ok (.istore_n 2, 1) := by decide +kernel
theorem d_to_power_2 : decode to_power.2.1 2 = .ok (.iconst 0, 1) := by decide +kernel
theorem d_to_power_3 : decode to_power.2.1 3 = .ok (.istore_n 3, 1) := by decide +kernel
theorem d_to_power_4 : decode to_power.2.1 4 = .ok (.iload_n 3, 1) := by decide +kernel
theorem d_to_power_5 : decode to_power.2.1 5 = .ok (.iload_n 1, 1) := by decide +kernel
theorem d_to_power_6 : decode to_power.2.1 6 = .ok (.if_icmp .ge 17, 3) := by decide +kernel
theorem d_to_power_9 : decode to_power.2.1 9 = .ok (.iload_n 2, 1) := by decide +kernel
theorem d_to_power_10 : decode to_power.2.1 10 = .ok (.iconst 1, 1) := by decide +kernel
theorem d_to_power_11 : decode to_power.2.1 11 = .ok (.iload_n 0, 1) := by decide +kernel
theorem d_to_power_12 : decode to_power.2.1 12 = .ok (.invokestatic 295, 3) := by decide +kernel
theorem d_to_power_15 : decode to_power.2.1 15 = .ok (.imul, 1) := by decide +kernel
theorem d_to_power_16 : decode to_power.2.1 16 = .ok (.istore_n 2, 1) := by decide +kernel
theorem d_to_power_17 : decode to_power.2.1 17 = .ok (.iinc 3 1, 3) := by decide +kernel
theorem d_to_power_20 : decode to_power.2.1 20 = .ok (.goto (-16), 3) := by decide +kernel
theorem d_to_power_23 : decode to_power.2.1 23 = .ok (.iconst 1, 1) := by decide +kernel
theorem d_to_power_24 : decode to_power.2.1 24 = .ok (.iload_n 2, 1) := by decide +kernel
theorem d_to_power_25 : decode to_power.2.1 25 = .ok (.invokestatic 295, 3) := by decide +kernel
theorem d_to_power_28 : decode to_power.2.1 28 = .ok (.ireturn, 1) := by decide +kernel
theorem d_to_growsStraight_0 : decode to_growsStraight.2.1 0 = .ok (.aload_n 2, 1) := by decide +kernel
theorem d_to_growsStraight_1 : decode to_growsStraight.2.1 1 = .ok (.getfield 279, 3) := by decide +kernel
theorem d_to_growsStraight_4 : decode to_growsStraight.2.1 4 = .ok (.aload_n 2, 1) := by decide +kernel
theorem d_to_growsStraight_5 : decode to_growsStraight.2.1 5 = .ok (.getfield 283, 3) := by decide +kernel
theorem d_to_growsStraight_8 : decode to_growsStraight.2.1 8 = .ok (.if_icmp .ne 5, 3) := by decide +kernel
theorem d_to_growsStraight_11 : decode to_growsStraight.2.1 11 = .ok (.iconst 1, 1) := by decide +kernel
theorem d_to_growsStraight_12 : decode to_growsStraight.2.1 12 = .ok (.ireturn, 1) := by decide +kernel
theorem d_to_growsStraight_13 : decode to_growsStraight.2.1 13 = .ok (.aload_n 2, 1) := by decide +kernel
theorem d_to_growsStraight_14 : decode to_growsStraight.2.1 14 = .ok (.getfield 279, 3) := by decide +kernel
theorem d_to_growsStraight_17 : decode to_growsStraight.2.1 17 = .ok (.iload_n 3, 1) := by decide +kernel
theorem d_to_growsStraight_18 : decode to_growsStraight.2.1 18 = .ok (.invokestatic 280, 3) := by decide +kernel
theorem d_to_growsStraight_21 : decode to_growsStraight.2.1 21 = .ok (.istore 4, 2) := by decide +kernel
theorem d_to_growsStraight_23 : decode to_growsStraight.2.1 23 = .ok (.aload_n 2, 1) := by decide +kernel
theorem d_to_growsStraight_24 : decode to_growsStraight.2.1 24 = .ok (.getfield 283, 3) := by decide +kernel
theorem d_to_growsStraight_27 : decode to_growsStraight.2.1 27 = .ok (.iload_n 3, 1) := by decide +kernel
theorem d_to_growsStraight_28 : decode to_growsStraight.2.1 28 = .ok (.invokestatic 280, 3) := by decide +kernel
theorem d_to_growsStraight_31 : decode to_growsStraight.2.1 31 = .ok (.istore 5, 2) := by decide +kernel
theorem d_to_growsStraight_33 : decode to_growsStraight.2.1 33 = .ok (.iconst 0, 1) := by decide +kernel
theorem d_to_growsStraight_34 : decode to_growsStraight.2.1 34 = .ok (.istore 6, 2) := by decide +kernel
theorem d_to_growsStraight_36 : decode to_growsStraight.2.1 36 = .ok (.iload 6, 2) := by decide +kernel
theorem d_to_growsStraight_38 : decode to_growsStraight.2.1 38 = .ok (.aload_n 1, 1) := by decide +kernel
theorem d_to_growsStraight_39 : decode to_growsStraight.2.1 39 = .ok (.getfield 143, 3) := by decide +kernel
theorem d_to_growsStraight_42 : decode to_growsStraight.2.1 42 = .ok (.iload 4, 2) := by decide +kernel
theorem d_to_growsStraight_44 : decode to_growsStraight.2.1 44 = .ok (.imul, 1) := by decide +kernel
theorem d_to_growsStraight_45 : decode to_growsStraight.2.1 45 = .ok (.if_icmp .ge 75, 3) := by decide +kernel
theorem d_to_growsStraight_48 : decode to_growsStraight.2.1 48 = .ok (.aload_n 1, 1) := by decide +kernel
theorem d_to_growsStraight_49 : decode to_growsStraight.2.1 49 = .ok (.iload 6, 2) := by decide +kernel
theorem d_to_growsStraight_51 : decode to_growsStraight.2.1 51 = .ok (.iload 4, 2) := by decide +kernel
theorem d_to_growsStraight_53 : decode to_growsStraight.2.1 53 = .ok (.idiv, 1) := by decide +kernel
theorem d_to_growsStraight_54 : decode to_growsStraight.2.1 54 = .ok (.invokevirtual 215, 3) := by decide +kernel
theorem d_to_growsStraight_57 : decode to_growsStraight.2.1 57 = .ok (.iload 5, 2) := by decide +kernel
theorem d_to_growsStraight_59 : decode to_growsStraight.2.1 59 = .ok (.imul, 1) := by decide +kernel
theorem d_to_growsStraight_60 : decode to_growsStraight.2.1 60 = .ok (.istore 7, 2) := by decide +kernel
theorem d_to_growsStraight_62 : decode to_growsStraight.2.1 62 = .ok (.iload 7, 2) := by decide +kernel
theorem d_to_growsStraight_64 : decode to_growsStraight.2.1 64 = .ok (.aload_n 1, 1) := by decide +kernel
theorem d_to_growsStraight_65 : decode to_growsStraight.2.1 65 = .ok (.iload 6, 2) := by decide +kernel
theorem d_to_growsStraight_67 : decode to_growsStraight.2.1 67 = .ok (.iload 4, 2) := by decide +kernel
theorem d_to_growsStraight_69 : decode to_growsStraight.2.1 69 = .ok (.idiv, 1) := by decide +kernel
theorem d_to_growsStraight_70 : decode to_growsStraight.2.1 70 = .ok (.invokevirtual 212, 3) := by decide +kernel
theorem d_to_growsStraight_73 : decode to_growsStraight.2.1 73 = .ok (.iload 5, 2) := by decide +kernel
theorem d_to_growsStraight_75 : decode to_growsStraight.2.1 75 = .ok (.imul, 1) := by decide +kernel
theorem d_to_growsStraight_76 : decode to_growsStraight.2.1 76 = .ok (.iadd, 1) := by decide +kernel
theorem d_to_growsStraight_77 : decode to_growsStraight.2.1 77 = .ok (.istore 8, 2) := by decide +kernel
theorem d_to_growsStraight_79 : decode to_growsStraight.2.1 79 = .ok (.iload 7, 2) := by decide +kernel
theorem d_to_growsStraight_81 : decode to_growsStraight.2.1 81 = .ok (.istore 9, 2) := by decide +kernel
theorem d_to_growsStraight_83 : decode to_growsStraight.2.1 83 = .ok (.iload 9, 2) := by decide +kernel
theorem d_to_growsStraight_85 : decode to_growsStraight.2.1 85 = .ok (.iload 8, 2) := by decide +kernel
theorem d_to_growsStraight_87 : decode to_growsStraight.2.1 87 = .ok (.if_icmp .ge 27, 3) := by decide +kernel
theorem d_to_growsStraight_90 : decode to_growsStraight.2.1 90 = .ok (.aload_n 0, 1) := by decide +kernel
theorem d_to_growsStraight_91 : decode to_growsStraight.2.1 91 = .ok (.aload_n 1, 1) := by decide +kernel
theorem d_to_growsStraight_92 : decode to_growsStraight.2.1 92 = .ok (.aload_n 2, 1) := by decide +kernel
theorem d_to_growsStraight_93 : decode to_growsStraight.2.1 93 = .ok (.iload_n 3, 1) := by decide +kernel
theorem d_to_growsStraight_94 : decode to_growsStraight.2.1 94 = .ok (.iload 6, 2) := by decide +kernel
theorem d_to_growsStraight_96 : decode to_growsStraight.2.1 96 = .ok (.iload 9, 2) := by decide +kernel
theorem d_to_growsStraight_98 : decode to_growsStraight.2.1 98 = .ok (.invokevirtual 300, 3) := by decide +kernel
theorem d_to_growsStraight_101 : decode to_growsStraight.2.1 101 = .ok (.bipush (-3), 2) := by decide +kernel
theorem d_to_growsStraight_103 : decode to_growsStraight.2.1 103 = .ok (.if_icmp .ne 5, 3) := by decide +kernel
theorem d_to_growsStraight_106 : decode to_growsStraight.2.1 106 = .ok (.iconst 0, 1) := by decide +kernel
theorem d_to_growsStraight_107 : decode to_growsStraight.2.1 107 = .ok (.ireturn, 1) := by decide +kernel
theorem d_to_growsStraight_108 : decode to_growsStraight.2.1 108 = .ok (.iinc 9 1, 3) := by decide +kernel
theorem d_to_growsStraight_111 : decode to_growsStraight.2.1 111 = .ok (.goto (-28), 3) := by decide +kernel
theorem d_to_growsStraight_114 : decode to_growsStraight.2.1 114 = .ok (.iinc 6 1, 3) := by decide +kernel
theorem d_to_growsStraight_117 : decode to_growsStraight.2.1 117 = .ok (.goto (-81), 3) := by decide +kernel
theorem d_to_growsStraight_120 : decode to_growsStraight.2.1 120 = .ok (.iconst 1, 1) := by decide +kernel
theorem d_to_growsStraight_121 : decode to_growsStraight.2.1 121 = .ok (.ireturn, 1) := by decide +kernel
theorem d_to_grownRow_0 : decode to_grownRow.2.1 0 = .ok (.aload_n 2, 1) := by decide +kernel
theorem d_to_grownRow_1 : decode to_grownRow.2.1 1 = .ok (.getfield 283, 3) := by decide +kernel
theorem d_to_grownRow_4 : decode to_grownRow.2.1 4 = .ok (.iload_n 3, 1) := by decide +kernel
theorem d_to_grownRow_5 : decode to_grownRow.2.1 5 = .ok (.invokestatic 280, 3) := by decide +kernel
theorem d_to_grownRow_8 : decode to_grownRow.2.1 8 = .ok (.istore 5, 2) := by decide +kernel
theorem d_to_grownRow_10 : decode to_grownRow.2.1 10 = .ok (.iload 4, 2) := by decide +kernel
theorem d_to_grownRow_12 : decode to_grownRow.2.1 12 = .ok (.aload_n 2, 1) := by decide +kernel
theorem d_to_grownRow_13 : decode to_grownRow.2.1 13 = .ok (.getfield 279, 3) := by decide +kernel
theorem d_to_grownRow_16 : decode to_grownRow.2.1 16 = .ok (.iload_n 3, 1) := by decide +kernel
theorem d_to_grownRow_17 : decode to_grownRow.2.1 17 = .ok (.invokestatic 280, 3) := by decide +kernel
theorem d_to_grownRow_20 : decode to_grownRow.2.1 20 = .ok (.idiv, 1) := by decide +kernel
theorem d_to_grownRow_21 : decode to_grownRow.2.1 21 = .ok (.istore 6, 2) := by decide +kernel
theorem d_to_grownRow_23 : decode to_grownRow.2.1 23 = .ok (.aload_n 1, 1) := by decide +kernel
theorem d_to_grownRow_24 : decode to_grownRow.2.1 24 = .ok (.iload 6, 2) := by decide +kernel
theorem d_to_grownRow_26 : decode to_grownRow.2.1 26 = .ok (.invokevirtual 215, 3) := by decide +kernel
theorem d_to_grownRow_29 : decode to_grownRow.2.1 29 = .ok (.iload 5, 2) := by decide +kernel
theorem d_to_grownRow_31 : decode to_grownRow.2.1 31 = .ok (.imul, 1) := by decide +kernel
theorem d_to_grownRow_32 : decode to_grownRow.2.1 32 = .ok (.istore 7, 2) := by decide +kernel
theorem d_to_grownRow_34 : decode to_grownRow.2.1 34 = .ok (.aload_n 1, 1) := by decide +kernel
theorem d_to_grownRow_35 : decode to_grownRow.2.1 35 = .ok (.iload 6, 2) := by decide +kernel
theorem d_to_grownRow_37 : decode to_grownRow.2.1 37 = .ok (.invokevirtual 212, 3) := by decide +kernel
theorem d_to_grownRow_40 : decode to_grownRow.2.1 40 = .ok (.iload 5, 2) := by decide +kernel
theorem d_to_grownRow_42 : decode to_grownRow.2.1 42 = .ok (.imul, 1) := by decide +kernel
theorem d_to_grownRow_43 : decode to_grownRow.2.1 43 = .ok (.istore 8, 2) := by decide +kernel
theorem d_to_grownRow_45 : decode to_grownRow.2.1 45 = .ok (.aload_n 0, 1) := by decide +kernel
theorem d_to_grownRow_46 : decode to_grownRow.2.1 46 = .ok (.getfield 42, 3) := by decide +kernel
theorem d_to_grownRow_49 : decode to_grownRow.2.1 49 = .ok (.iload 8, 2) := by decide +kernel
theorem d_to_grownRow_51 : decode to_grownRow.2.1 51 = .ok (.iload 7, 2) := by decide +kernel
theorem d_to_grownRow_53 : decode to_grownRow.2.1 53 = .ok (.invokevirtual 157, 3) := by decide +kernel
theorem d_to_grownRow_56 : decode to_grownRow.2.1 56 = .ok (.istore 9, 2) := by decide +kernel
theorem d_to_grownRow_58 : decode to_grownRow.2.1 58 = .ok (.iload 7, 2) := by decide +kernel
theorem d_to_grownRow_60 : decode to_grownRow.2.1 60 = .ok (.istore 10, 2) := by decide +kernel
theorem d_to_grownRow_62 : decode to_grownRow.2.1 62 = .ok (.iload 10, 2) := by decide +kernel
theorem d_to_grownRow_64 : decode to_grownRow.2.1 64 = .ok (.iload 7, 2) := by decide +kernel
theorem d_to_grownRow_66 : decode to_grownRow.2.1 66 = .ok (.iload 8, 2) := by decide +kernel
theorem d_to_grownRow_68 : decode to_grownRow.2.1 68 = .ok (.iadd, 1) := by decide +kernel
theorem d_to_grownRow_69 : decode to_grownRow.2.1 69 = .ok (.if_icmp .ge 31, 3) := by decide +kernel
theorem d_to_grownRow_72 : decode to_grownRow.2.1 72 = .ok (.aload_n 0, 1) := by decide +kernel
theorem d_to_grownRow_73 : decode to_grownRow.2.1 73 = .ok (.getfield 42, 3) := by decide +kernel
theorem d_to_grownRow_76 : decode to_grownRow.2.1 76 = .ok (.iload 9, 2) := by decide +kernel
theorem d_to_grownRow_78 : decode to_grownRow.2.1 78 = .ok (.iload 10, 2) := by decide +kernel
theorem d_to_grownRow_80 : decode to_grownRow.2.1 80 = .ok (.aload_n 0, 1) := by decide +kernel
theorem d_to_grownRow_81 : decode to_grownRow.2.1 81 = .ok (.aload_n 1, 1) := by decide +kernel
theorem d_to_grownRow_82 : decode to_grownRow.2.1 82 = .ok (.aload_n 2, 1) := by decide +kernel
theorem d_to_grownRow_83 : decode to_grownRow.2.1 83 = .ok (.iload_n 3, 1) := by decide +kernel
theorem d_to_grownRow_84 : decode to_grownRow.2.1 84 = .ok (.iload 4, 2) := by decide +kernel
theorem d_to_grownRow_86 : decode to_grownRow.2.1 86 = .ok (.iload 10, 2) := by decide +kernel
theorem d_to_grownRow_88 : decode to_grownRow.2.1 88 = .ok (.invokevirtual 300, 3) := by decide +kernel
theorem d_to_grownRow_91 : decode to_grownRow.2.1 91 = .ok (.invokevirtual 197, 3) := by decide +kernel
theorem d_to_grownRow_94 : decode to_grownRow.2.1 94 = .ok (.iinc 10 1, 3) := by decide +kernel
theorem d_to_grownRow_97 : decode to_grownRow.2.1 97 = .ok (.goto (-35), 3) := by decide +kernel
theorem d_to_grownRow_100 : decode to_grownRow.2.1 100 = .ok (.iload 9, 2) := by decide +kernel
theorem d_to_grownRow_102 : decode to_grownRow.2.1 102 = .ok (.ireturn, 1) := by decide +kernel
theorem d_to_grownCell_0 : decode to_grownCell.2.1 0 = .ok (.aload_n 2, 1) := by decide +kernel
theorem d_to_grownCell_1 : decode to_grownCell.2.1 1 = .ok (.getfield 279, 3) := by decide +kernel
theorem d_to_grownCell_4 : decode to_grownCell.2.1 4 = .ok (.iload_n 3, 1) := by decide +kernel
theorem d_to_grownCell_5 : decode to_grownCell.2.1 5 = .ok (.invokestatic 280, 3) := by decide +kernel
theorem d_to_grownCell_8 : decode to_grownCell.2.1 8 = .ok (.istore 6, 2) := by decide +kernel
theorem d_to_grownCell_10 : decode to_grownCell.2.1 10 = .ok (.aload_n 2, 1) := by decide +kernel
theorem d_to_grownCell_11 : decode to_grownCell.2.1 11 = .ok (.getfield 283, 3) := by decide +kernel
theorem d_to_grownCell_14 : decode to_grownCell.2.1 14 = .ok (.iload_n 3, 1) := by decide +kernel
theorem d_to_grownCell_15 : decode to_grownCell.2.1 15 = .ok (.invokestatic 280, 3) := by decide +kernel
theorem d_to_grownCell_18 : decode to_grownCell.2.1 18 = .ok (.istore 7, 2) := by decide +kernel
theorem d_to_grownCell_20 : decode to_grownCell.2.1 20 = .ok (.aload_n 1, 1) := by decide +kernel
theorem d_to_grownCell_21 : decode to_grownCell.2.1 21 = .ok (.iload 4, 2) := by decide +kernel
theorem d_to_grownCell_23 : decode to_grownCell.2.1 23 = .ok (.iload 6, 2) := by decide +kernel
theorem d_to_grownCell_25 : decode to_grownCell.2.1 25 = .ok (.idiv, 1) := by decide +kernel
theorem d_to_grownCell_26 : decode to_grownCell.2.1 26 = .ok (.i2l, 1) := by decide +kernel
theorem d_to_grownCell_27 : decode to_grownCell.2.1 27 = .ok (.iload 5, 2) := by decide +kernel
theorem d_to_grownCell_29 : decode to_grownCell.2.1 29 = .ok (.iload 7, 2) := by decide +kernel
theorem d_to_grownCell_31 : decode to_grownCell.2.1 31 = .ok (.invokestatic 304, 3) := by decide +kernel
theorem d_to_grownCell_34 : decode to_grownCell.2.1 34 = .ok (.i2l, 1) := by decide +kernel
theorem d_to_grownCell_35 : decode to_grownCell.2.1 35 = .ok (.invokevirtual 186, 3) := by decide +kernel
theorem d_to_grownCell_38 : decode to_grownCell.2.1 38 = .ok (.istore 8, 2) := by decide +kernel
theorem d_to_grownCell_40 : decode to_grownCell.2.1 40 = .ok (.iload_n 3, 1) := by decide +kernel
theorem d_to_grownCell_41 : decode to_grownCell.2.1 41 = .ok (.iconst 1, 1) := by decide +kernel
theorem d_to_grownCell_42 : decode to_grownCell.2.1 42 = .ok (.isub, 1) := by decide +kernel
theorem d_to_grownCell_43 : decode to_grownCell.2.1 43 = .ok (.istore 9, 2) := by decide +kernel
theorem d_to_grownCell_45 : decode to_grownCell.2.1 45 = .ok (.iload 9, 2) := by decide +kernel
theorem d_to_grownCell_47 : decode to_grownCell.2.1 47 = .ok (.ifCond .lt 69, 3) := by decide +kernel
theorem d_to_grownCell_50 : decode to_grownCell.2.1 50 = .ok (.iload 4, 2) := by decide +kernel
theorem d_to_grownCell_52 : decode to_grownCell.2.1 52 = .ok (.iload 6, 2) := by decide +kernel
theorem d_to_grownCell_54 : decode to_grownCell.2.1 54 = .ok (.irem, 1) := by decide +kernel
theorem d_to_grownCell_55 : decode to_grownCell.2.1 55 = .ok (.istore 10, 2) := by decide +kernel
theorem d_to_grownCell_57 : decode to_grownCell.2.1 57 = .ok (.iload 5, 2) := by decide +kernel
theorem d_to_grownCell_59 : decode to_grownCell.2.1 59 = .ok (.iload 7, 2) := by decide +kernel
theorem d_to_grownCell_61 : decode to_grownCell.2.1 61 = .ok (.invokestatic 307, 3) := by decide +kernel
theorem d_to_grownCell_64 : decode to_grownCell.2.1 64 = .ok (.istore 11, 2) := by decide +kernel
theorem d_to_grownCell_66 : decode to_grownCell.2.1 66 = .ok (.aload_n 2, 1) := by decide +kernel
theorem d_to_grownCell_67 : decode to_grownCell.2.1 67 = .ok (.getfield 279, 3) := by decide +kernel
theorem d_to_grownCell_70 : decode to_grownCell.2.1 70 = .ok (.iload 9, 2) := by decide +kernel
theorem d_to_grownCell_72 : decode to_grownCell.2.1 72 = .ok (.invokestatic 280, 3) := by decide +kernel
theorem d_to_grownCell_75 : decode to_grownCell.2.1 75 = .ok (.istore 6, 2) := by decide +kernel
theorem d_to_grownCell_77 : decode to_grownCell.2.1 77 = .ok (.aload_n 2, 1) := by decide +kernel
theorem d_to_grownCell_78 : decode to_grownCell.2.1 78 = .ok (.getfield 283, 3) := by decide +kernel
theorem d_to_grownCell_81 : decode to_grownCell.2.1 81 = .ok (.iload 9, 2) := by decide +kernel
theorem d_to_grownCell_83 : decode to_grownCell.2.1 83 = .ok (.invokestatic 280, 3) := by decide +kernel
theorem d_to_grownCell_86 : decode to_grownCell.2.1 86 = .ok (.istore 7, 2) := by decide +kernel
theorem d_to_grownCell_88 : decode to_grownCell.2.1 88 = .ok (.aload_n 2, 1) := by decide +kernel
theorem d_to_grownCell_89 : decode to_grownCell.2.1 89 = .ok (.iload 8, 2) := by decide +kernel
theorem d_to_grownCell_91 : decode to_grownCell.2.1 91 = .ok (.iload 10, 2) := by decide +kernel
theorem d_to_grownCell_93 : decode to_grownCell.2.1 93 = .ok (.iload 6, 2) := by decide +kernel
theorem d_to_grownCell_95 : decode to_grownCell.2.1 95 = .ok (.idiv, 1) := by decide +kernel
theorem d_to_grownCell_96 : decode to_grownCell.2.1 96 = .ok (.iload 11, 2) := by decide +kernel
theorem d_to_grownCell_98 : decode to_grownCell.2.1 98 = .ok (.iload 7, 2) := by decide +kernel
theorem d_to_grownCell_100 : decode to_grownCell.2.1 100 = .ok (.idiv, 1) := by decide +kernel
theorem d_to_grownCell_101 : decode to_grownCell.2.1 101 = .ok (.aload_n 0, 1) := by decide +kernel
theorem d_to_grownCell_102 : decode to_grownCell.2.1 102 = .ok (.getfield 20, 3) := by decide +kernel
theorem d_to_grownCell_105 : decode to_grownCell.2.1 105 = .ok (.invokevirtual 310, 3) := by decide +kernel
theorem d_to_grownCell_108 : decode to_grownCell.2.1 108 = .ok (.istore 8, 2) := by decide +kernel
theorem d_to_grownCell_110 : decode to_grownCell.2.1 110 = .ok (.iinc 9 (-1), 3) := by decide +kernel
theorem d_to_grownCell_113 : decode to_grownCell.2.1 113 = .ok (.goto (-68), 3) := by decide +kernel
theorem d_to_grownCell_116 : decode to_grownCell.2.1 116 = .ok (.iload 8, 2) := by decide +kernel
theorem d_to_grownCell_118 : decode to_grownCell.2.1 118 = .ok (.ireturn, 1) := by decide +kernel
theorem d_to_foretold_0 : decode to_foretold.2.1 0 = .ok (.aload_n 0, 1) := by decide +kernel
theorem d_to_foretold_1 : decode to_foretold.2.1 1 = .ok (.iload_n 1, 1) := by decide +kernel
theorem d_to_foretold_2 : decode to_foretold.2.1 2 = .ok (.invokevirtual 269, 3) := by decide +kernel
theorem d_to_foretold_5 : decode to_foretold.2.1 5 = .ok (.astore 5, 2) := by decide +kernel
theorem d_to_foretold_7 : decode to_foretold.2.1 7 = .ok (.aload 5, 2) := by decide +kernel
theorem d_to_foretold_9 : decode to_foretold.2.1 9 = .ok (.ifnull 36, 3) := by decide +kernel
theorem d_to_foretold_12 : decode to_foretold.2.1 12 = .ok (.aload_n 0, 1) := by decide +kernel
theorem d_to_foretold_13 : decode to_foretold.2.1 13 = .ok (.getfield 20, 3) := by decide +kernel
theorem d_to_foretold_16 : decode to_foretold.2.1 16 = .ok (.iload_n 2, 1) := by decide +kernel
theorem d_to_foretold_17 : decode to_foretold.2.1 17 = .ok (.invokevirtual 110, 3) := by decide +kernel
theorem d_to_foretold_20 : decode to_foretold.2.1 20 = .ok (.ifCond .eq 25, 3) := by decide +kernel
theorem d_to_foretold_23 : decode to_foretold.2.1 23 = .ok (.aload_n 0, 1) := by decide +kernel
theorem d_to_foretold_24 : decode to_foretold.2.1 24 = .ok (.getfield 20, 3) := by decide +kernel
theorem d_to_foretold_27 : decode to_foretold.2.1 27 = .ok (.iload 4, 2) := by decide +kernel
theorem d_to_foretold_29 : decode to_foretold.2.1 29 = .ok (.invokevirtual 110, 3) := by decide +kernel
theorem d_to_foretold_32 : decode to_foretold.2.1 32 = .ok (.ifCond .eq 13, 3) := by decide +kernel
theorem d_to_foretold_35 : decode to_foretold.2.1 35 = .ok (.iload_n 3, 1) := by decide +kernel
theorem d_to_foretold_36 : decode to_foretold.2.1 36 = .ok (.ifCond .lt 9, 3) := by decide +kernel
theorem d_to_foretold_39 : decode to_foretold.2.1 39 = .ok (.iload_n 3, 1) := by decide +kernel
theorem d_to_foretold_40 : decode to_foretold.2.1 40 = .ok (.bipush 60, 2) := by decide +kernel
theorem d_to_foretold_42 : decode to_foretold.2.1 42 = .ok (.if_icmp .le 7, 3) := by decide +kernel
theorem d_to_foretold_45 : decode to_foretold.2.1 45 = .ok (.ldc2_w 314, 3) := by decide +kernel
theorem d_to_foretold_48 : decode to_foretold.2.1 48 = .ok (.lreturn, 1) := by decide +kernel
theorem d_to_foretold_49 : decode to_foretold.2.1 49 = .ok (.aload 5, 2) := by decide +kernel
theorem d_to_foretold_51 : decode to_foretold.2.1 51 = .ok (.iload_n 2, 1) := by decide +kernel
theorem d_to_foretold_52 : decode to_foretold.2.1 52 = .ok (.iload_n 3, 1) := by decide +kernel
theorem d_to_foretold_53 : decode to_foretold.2.1 53 = .ok (.iload 4, 2) := by decide +kernel
theorem d_to_foretold_55 : decode to_foretold.2.1 55 = .ok (.invokevirtual 316, 3) := by decide +kernel
theorem d_to_foretold_58 : decode to_foretold.2.1 58 = .ok (.lreturn, 1) := by decide +kernel
theorem d_to_count_0 : decode to_count.2.1 0 = .ok (.aload_n 0, 1) := by decide +kernel
theorem d_to_count_1 : decode to_count.2.1 1 = .ok (.iload_n 1, 1) := by decide +kernel
theorem d_to_count_2 : decode to_count.2.1 2 = .ok (.invokevirtual 139, 3) := by decide +kernel
theorem d_to_count_5 : decode to_count.2.1 5 = .ok (.astore_n 3, 1) := by decide +kernel
theorem d_to_count_6 : decode to_count.2.1 6 = .ok (.aload_n 3, 1) := by decide +kernel
theorem d_to_count_7 : decode to_count.2.1 7 = .ok (.ifnull 19, 3) := by decide +kernel
theorem d_to_count_10 : decode to_count.2.1 10 = .ok (.iload_n 2, 1) := by decide +kernel
theorem d_to_count_11 : decode to_count.2.1 11 = .ok (.iconst (-1), 1) := by decide +kernel
theorem d_to_count_12 : decode to_count.2.1 12 = .ok (.if_icmp .eq 16, 3) := by decide +kernel
theorem d_to_count_15 : decode to_count.2.1 15 = .ok (.aload_n 0, 1) := by decide +kernel
theorem d_to_count_16 : decode to_count.2.1 16 = .ok (.getfield 20, 3) := by decide +kernel
theorem d_to_count_19 : decode to_count.2.1 19 = .ok (.iload_n 2, 1) := by decide +kernel
theorem d_to_count_20 : decode to_count.2.1 20 = .ok (.invokevirtual 110, 3) := by decide +kernel
theorem d_to_count_23 : decode to_count.2.1 23 = .ok (.ifCond .ne 5, 3) := by decide +kernel
theorem d_to_count_26 : decode to_count.2.1 26 = .ok (.iconst (-1), 1) := by decide +kernel
theorem d_to_count_27 : decode to_count.2.1 27 = .ok (.ireturn, 1) := by decide +kernel
theorem d_to_count_28 : decode to_count.2.1 28 = .ok (.iconst 0, 1) := by decide +kernel
theorem d_to_count_29 : decode to_count.2.1 29 = .ok (.istore 4, 2) := by decide +kernel
theorem d_to_count_31 : decode to_count.2.1 31 = .ok (.iconst 0, 1) := by decide +kernel
theorem d_to_count_32 : decode to_count.2.1 32 = .ok (.istore 5, 2) := by decide +kernel
theorem d_to_count_34 : decode to_count.2.1 34 = .ok (.iload 5, 2) := by decide +kernel
theorem d_to_count_36 : decode to_count.2.1 36 = .ok (.aload_n 3, 1) := by decide +kernel
theorem d_to_count_37 : decode to_count.2.1 37 = .ok (.getfield 143, 3) := by decide +kernel
theorem d_to_count_40 : decode to_count.2.1 40 = .ok (.if_icmp .ge 72, 3) := by decide +kernel
theorem d_to_count_43 : decode to_count.2.1 43 = .ok (.aload_n 3, 1) := by decide +kernel
theorem d_to_count_44 : decode to_count.2.1 44 = .ok (.iload 5, 2) := by decide +kernel
theorem d_to_count_46 : decode to_count.2.1 46 = .ok (.invokevirtual 215, 3) := by decide +kernel
theorem d_to_count_49 : decode to_count.2.1 49 = .ok (.istore 6, 2) := by decide +kernel
theorem d_to_count_51 : decode to_count.2.1 51 = .ok (.iload 6, 2) := by decide +kernel
theorem d_to_count_53 : decode to_count.2.1 53 = .ok (.aload_n 3, 1) := by decide +kernel
theorem d_to_count_54 : decode to_count.2.1 54 = .ok (.iload 5, 2) := by decide +kernel
theorem d_to_count_56 : decode to_count.2.1 56 = .ok (.invokevirtual 212, 3) := by decide +kernel
theorem d_to_count_59 : decode to_count.2.1 59 = .ok (.iadd, 1) := by decide +kernel
theorem d_to_count_60 : decode to_count.2.1 60 = .ok (.istore 7, 2) := by decide +kernel
theorem d_to_count_62 : decode to_count.2.1 62 = .ok (.iload 6, 2) := by decide +kernel
theorem d_to_count_64 : decode to_count.2.1 64 = .ok (.istore 8, 2) := by decide +kernel
theorem d_to_count_66 : decode to_count.2.1 66 = .ok (.iload 8, 2) := by decide +kernel
theorem d_to_count_68 : decode to_count.2.1 68 = .ok (.iload 7, 2) := by decide +kernel
theorem d_to_count_70 : decode to_count.2.1 70 = .ok (.if_icmp .ge 36, 3) := by decide +kernel
theorem d_to_count_73 : decode to_count.2.1 73 = .ok (.iload 4, 2) := by decide +kernel
theorem d_to_count_75 : decode to_count.2.1 75 = .ok (.aload_n 3, 1) := by decide +kernel
theorem d_to_count_76 : decode to_count.2.1 76 = .ok (.iload 5, 2) := by decide +kernel
theorem d_to_count_78 : decode to_count.2.1 78 = .ok (.i2l, 1) := by decide +kernel
theorem d_to_count_79 : decode to_count.2.1 79 = .ok (.iload 8, 2) := by decide +kernel
theorem d_to_count_81 : decode to_count.2.1 81 = .ok (.i2l, 1) := by decide +kernel
theorem d_to_count_82 : decode to_count.2.1 82 = .ok (.invokevirtual 186, 3) := by decide +kernel
theorem d_to_count_85 : decode to_count.2.1 85 = .ok (.invokestatic 200, 3) := by decide +kernel
theorem d_to_count_88 : decode to_count.2.1 88 = .ok (.iload_n 2, 1) := by decide +kernel
theorem d_to_count_89 : decode to_count.2.1 89 = .ok (.if_icmp .ne 7, 3) := by decide +kernel
theorem d_to_count_92 : decode to_count.2.1 92 = .ok (.iconst 1, 1) := by decide +kernel
theorem d_to_count_93 : decode to_count.2.1 93 = .ok (.goto 4, 3) := by decide +kernel
theorem d_to_count_96 : decode to_count.2.1 96 = .ok (.iconst 0, 1) := by decide +kernel
theorem d_to_count_97 : decode to_count.2.1 97 = .ok (.iadd, 1) := by decide +kernel
theorem d_to_count_98 : decode to_count.2.1 98 = .ok (.istore 4, 2) := by decide +kernel
theorem d_to_count_100 : decode to_count.2.1 100 = .ok (.iinc 8 1, 3) := by decide +kernel
theorem d_to_count_103 : decode to_count.2.1 103 = .ok (.goto (-37), 3) := by decide +kernel
theorem d_to_count_106 : decode to_count.2.1 106 = .ok (.iinc 5 1, 3) := by decide +kernel
theorem d_to_count_109 : decode to_count.2.1 109 = .ok (.goto (-75), 3) := by decide +kernel
theorem d_to_count_112 : decode to_count.2.1 112 = .ok (.iload 4, 2) := by decide +kernel
theorem d_to_count_114 : decode to_count.2.1 114 = .ok (.ireturn, 1) := by decide +kernel
theorem d_to_fits_0 : decode to_fits.2.1 0 = .ok (.aload_n 0, 1) := by decide +kernel
theorem d_to_fits_1 : decode to_fits.2.1 1 = .ok (.iload_n 1, 1) := by decide +kernel
theorem d_to_fits_2 : decode to_fits.2.1 2 = .ok (.invokevirtual 139, 3) := by decide +kernel
theorem d_to_fits_5 : decode to_fits.2.1 5 = .ok (.astore_n 2, 1) := by decide +kernel
theorem d_to_fits_6 : decode to_fits.2.1 6 = .ok (.aload_n 2, 1) := by decide +kernel
theorem d_to_fits_7 : decode to_fits.2.1 7 = .ok (.ifnonnull 5, 3) := by decide +kernel
theorem d_to_fits_10 : decode to_fits.2.1 10 = .ok (.iconst (-1), 1) := by decide +kernel
theorem d_to_fits_11 : decode to_fits.2.1 11 = .ok (.ireturn, 1) := by decide +kernel
theorem d_to_fits_12 : decode to_fits.2.1 12 = .ok (.iconst 0, 1) := by decide +kernel
theorem d_to_fits_13 : decode to_fits.2.1 13 = .ok (.istore_n 3, 1) := by decide +kernel
theorem d_to_fits_14 : decode to_fits.2.1 14 = .ok (.iconst 0, 1) := by decide +kernel
theorem d_to_fits_15 : decode to_fits.2.1 15 = .ok (.istore 4, 2) := by decide +kernel
theorem d_to_fits_17 : decode to_fits.2.1 17 = .ok (.iload 4, 2) := by decide +kernel
theorem d_to_fits_19 : decode to_fits.2.1 19 = .ok (.aload_n 2, 1) := by decide +kernel
theorem d_to_fits_20 : decode to_fits.2.1 20 = .ok (.getfield 143, 3) := by decide +kernel
theorem d_to_fits_23 : decode to_fits.2.1 23 = .ok (.if_icmp .ge 135, 3) := by decide +kernel
theorem d_to_fits_26 : decode to_fits.2.1 26 = .ok (.aload_n 2, 1) := by decide +kernel
theorem d_to_fits_27 : decode to_fits.2.1 27 = .ok (.iload 4, 2) := by decide +kernel
theorem d_to_fits_29 : decode to_fits.2.1 29 = .ok (.invokevirtual 215, 3) := by decide +kernel
theorem d_to_fits_32 : decode to_fits.2.1 32 = .ok (.istore 5, 2) := by decide +kernel
theorem d_to_fits_34 : decode to_fits.2.1 34 = .ok (.iload 5, 2) := by decide +kernel
theorem d_to_fits_36 : decode to_fits.2.1 36 = .ok (.aload_n 2, 1) := by decide +kernel
theorem d_to_fits_37 : decode to_fits.2.1 37 = .ok (.iload 4, 2) := by decide +kernel
theorem d_to_fits_39 : decode to_fits.2.1 39 = .ok (.invokevirtual 212, 3) := by decide +kernel
theorem d_to_fits_42 : decode to_fits.2.1 42 = .ok (.iadd, 1) := by decide +kernel
theorem d_to_fits_43 : decode to_fits.2.1 43 = .ok (.istore 6, 2) := by decide +kernel
theorem d_to_fits_45 : decode to_fits.2.1 45 = .ok (.iload 5, 2) := by decide +kernel
theorem d_to_fits_47 : decode to_fits.2.1 47 = .ok (.istore 7, 2) := by decide +kernel
theorem d_to_fits_49 : decode to_fits.2.1 49 = .ok (.iload 7, 2) := by decide +kernel
theorem d_to_fits_51 : decode to_fits.2.1 51 = .ok (.iload 6, 2) := by decide +kernel
theorem d_to_fits_53 : decode to_fits.2.1 53 = .ok (.if_icmp .ge 99, 3) := by decide +kernel
theorem d_to_fits_56 : decode to_fits.2.1 56 = .ok (.aload_n 2, 1) := by decide +kernel
theorem d_to_fits_57 : decode to_fits.2.1 57 = .ok (.iload 4, 2) := by decide +kernel
theorem d_to_fits_59 : decode to_fits.2.1 59 = .ok (.i2l, 1) := by decide +kernel
theorem d_to_fits_60 : decode to_fits.2.1 60 = .ok (.iload 7, 2) := by decide +kernel
theorem d_to_fits_62 : decode to_fits.2.1 62 = .ok (.i2l, 1) := by decide +kernel
theorem d_to_fits_63 : decode to_fits.2.1 63 = .ok (.invokevirtual 186, 3) := by decide +kernel
theorem d_to_fits_66 : decode to_fits.2.1 66 = .ok (.istore 8, 2) := by decide +kernel
theorem d_to_fits_68 : decode to_fits.2.1 68 = .ok (.aload_n 0, 1) := by decide +kernel
theorem d_to_fits_69 : decode to_fits.2.1 69 = .ok (.getfield 20, 3) := by decide +kernel
theorem d_to_fits_72 : decode to_fits.2.1 72 = .ok (.iload 8, 2) := by decide +kernel
theorem d_to_fits_74 : decode to_fits.2.1 74 = .ok (.iconst 1, 1) := by decide +kernel
theorem d_to_fits_75 : decode to_fits.2.1 75 = .ok (.aload_n 2, 1) := by decide +kernel
theorem d_to_fits_76 : decode to_fits.2.1 76 = .ok (.iload 4, 2) := by decide +kernel
theorem d_to_fits_78 : decode to_fits.2.1 78 = .ok (.i2l, 1) := by decide +kernel
theorem d_to_fits_79 : decode to_fits.2.1 79 = .ok (.iload 7, 2) := by decide +kernel
theorem d_to_fits_81 : decode to_fits.2.1 81 = .ok (.iconst 1, 1) := by decide +kernel
theorem d_to_fits_82 : decode to_fits.2.1 82 = .ok (.iadd, 1) := by decide +kernel
theorem d_to_fits_83 : decode to_fits.2.1 83 = .ok (.i2l, 1) := by decide +kernel
theorem d_to_fits_84 : decode to_fits.2.1 84 = .ok (.invokevirtual 186, 3) := by decide +kernel
theorem d_to_fits_87 : decode to_fits.2.1 87 = .ok (.invokevirtual 320, 3) := by decide +kernel
theorem d_to_fits_90 : decode to_fits.2.1 90 = .ok (.istore 9, 2) := by decide +kernel
theorem d_to_fits_92 : decode to_fits.2.1 92 = .ok (.aload_n 0, 1) := by decide +kernel
theorem d_to_fits_93 : decode to_fits.2.1 93 = .ok (.getfield 20, 3) := by decide +kernel
theorem d_to_fits_96 : decode to_fits.2.1 96 = .ok (.iload 8, 2) := by decide +kernel
theorem d_to_fits_98 : decode to_fits.2.1 98 = .ok (.iconst 2, 1) := by decide +kernel
theorem d_to_fits_99 : decode to_fits.2.1 99 = .ok (.aload_n 2, 1) := by decide +kernel
theorem d_to_fits_100 : decode to_fits.2.1 100 = .ok (.iload 4, 2) := by decide +kernel
theorem d_to_fits_102 : decode to_fits.2.1 102 = .ok (.iconst 1, 1) := by decide +kernel
theorem d_to_fits_103 : decode to_fits.2.1 103 = .ok (.iadd, 1) := by decide +kernel
theorem d_to_fits_104 : decode to_fits.2.1 104 = .ok (.i2l, 1) := by decide +kernel
theorem d_to_fits_105 : decode to_fits.2.1 105 = .ok (.iload 7, 2) := by decide +kernel
theorem d_to_fits_107 : decode to_fits.2.1 107 = .ok (.i2l, 1) := by decide +kernel
theorem d_to_fits_108 : decode to_fits.2.1 108 = .ok (.invokevirtual 186, 3) := by decide +kernel
theorem d_to_fits_111 : decode to_fits.2.1 111 = .ok (.invokevirtual 320, 3) := by decide +kernel
theorem d_to_fits_114 : decode to_fits.2.1 114 = .ok (.istore 10, 2) := by decide +kernel
theorem d_to_fits_116 : decode to_fits.2.1 116 = .ok (.iload 9, 2) := by decide +kernel
theorem d_to_fits_118 : decode to_fits.2.1 118 = .ok (.ifCond .eq 8, 3) := by decide +kernel
theorem d_to_fits_121 : decode to_fits.2.1 121 = .ok (.iload 10, 2) := by decide +kernel
theorem d_to_fits_123 : decode to_fits.2.1 123 = .ok (.ifCond .ne 20, 3) := by decide +kernel
theorem d_to_fits_126 : decode to_fits.2.1 126 = .ok (.iconst 1, 1) := by decide +kernel
theorem d_to_fits_127 : decode to_fits.2.1 127 = .ok (.iconst 2, 1) := by decide +kernel
theorem d_to_fits_128 : decode to_fits.2.1 128 = .ok (.iload_n 3, 1) := by decide +kernel
theorem d_to_fits_129 : decode to_fits.2.1 129 = .ok (.imul, 1) := by decide +kernel
theorem d_to_fits_130 : decode to_fits.2.1 130 = .ok (.iadd, 1) := by decide +kernel
theorem d_to_fits_131 : decode to_fits.2.1 131 = .ok (.iload 9, 2) := by decide +kernel
theorem d_to_fits_133 : decode to_fits.2.1 133 = .ok (.ifCond .eq 7, 3) := by decide +kernel
theorem d_to_fits_136 : decode to_fits.2.1 136 = .ok (.iconst 1, 1) := by decide +kernel
theorem d_to_fits_137 : decode to_fits.2.1 137 = .ok (.goto 4, 3) := by decide +kernel
theorem d_to_fits_140 : decode to_fits.2.1 140 = .ok (.iconst 0, 1) := by decide +kernel
theorem d_to_fits_141 : decode to_fits.2.1 141 = .ok (.iadd, 1) := by decide +kernel
theorem d_to_fits_142 : decode to_fits.2.1 142 = .ok (.ireturn, 1) := by decide +kernel
theorem d_to_fits_143 : decode to_fits.2.1 143 = .ok (.iinc 3 1, 3) := by decide +kernel
theorem d_to_fits_146 : decode to_fits.2.1 146 = .ok (.iinc 7 1, 3) := by decide +kernel
theorem d_to_fits_149 : decode to_fits.2.1 149 = .ok (.goto (-100), 3) := by decide +kernel
theorem d_to_fits_152 : decode to_fits.2.1 152 = .ok (.iinc 4 1, 3) := by decide +kernel
theorem d_to_fits_155 : decode to_fits.2.1 155 = .ok (.goto (-138), 3) := by decide +kernel
theorem d_to_fits_158 : decode to_fits.2.1 158 = .ok (.iconst 0, 1) := by decide +kernel
theorem d_to_fits_159 : decode to_fits.2.1 159 = .ok (.ireturn, 1) := by decide +kernel
theorem d_to_period_0 : decode to_period.2.1 0 = .ok (.aload_n 0, 1) := by decide +kernel
theorem d_to_period_1 : decode to_period.2.1 1 = .ok (.iload_n 1, 1) := by decide +kernel
theorem d_to_period_2 : decode to_period.2.1 2 = .ok (.invokevirtual 139, 3) := by decide +kernel
theorem d_to_period_5 : decode to_period.2.1 5 = .ok (.astore_n 3, 1) := by decide +kernel
theorem d_to_period_6 : decode to_period.2.1 6 = .ok (.aload_n 3, 1) := by decide +kernel
theorem d_to_period_7 : decode to_period.2.1 7 = .ok (.ifnull 12, 3) := by decide +kernel
theorem d_to_period_10 : decode to_period.2.1 10 = .ok (.iload_n 2, 1) := by decide +kernel
theorem d_to_period_11 : decode to_period.2.1 11 = .ok (.ifCond .lt 8, 3) := by decide +kernel
theorem d_to_period_14 : decode to_period.2.1 14 = .ok (.iload_n 2, 1) := by decide +kernel
theorem d_to_period_15 : decode to_period.2.1 15 = .ok (.iconst 1, 1) := by decide +kernel
theorem d_to_period_16 : decode to_period.2.1 16 = .ok (.if_icmp .le 5, 3) := by decide +kernel
theorem d_to_period_19 : decode to_period.2.1 19 = .ok (.iconst (-1), 1) := by decide +kernel
theorem d_to_period_20 : decode to_period.2.1 20 = .ok (.ireturn, 1) := by decide +kernel
theorem d_to_period_21 : decode to_period.2.1 21 = .ok (.iconst 1, 1) := by decide +kernel
theorem d_to_period_22 : decode to_period.2.1 22 = .ok (.istore 4, 2) := by decide +kernel
theorem d_to_period_24 : decode to_period.2.1 24 = .ok (.iload 4, 2) := by decide +kernel
theorem d_to_period_26 : decode to_period.2.1 26 = .ok (.bipush 60, 2) := by decide +kernel
theorem d_to_period_28 : decode to_period.2.1 28 = .ok (.if_icmp .ge 36, 3) := by decide +kernel
theorem d_to_period_31 : decode to_period.2.1 31 = .ok (.aload_n 3, 1) := by decide +kernel
theorem d_to_period_32 : decode to_period.2.1 32 = .ok (.iload_n 2, 1) := by decide +kernel
theorem d_to_period_33 : decode to_period.2.1 33 = .ok (.ifCond .ne 8, 3) := by decide +kernel
theorem d_to_period_36 : decode to_period.2.1 36 = .ok (.iload 4, 2) := by decide +kernel
theorem d_to_period_38 : decode to_period.2.1 38 = .ok (.goto 4, 3) := by decide +kernel
theorem d_to_period_41 : decode to_period.2.1 41 = .ok (.iconst 0, 1) := by decide +kernel
theorem d_to_period_42 : decode to_period.2.1 42 = .ok (.iload_n 2, 1) := by decide +kernel
theorem d_to_period_43 : decode to_period.2.1 43 = .ok (.ifCond .ne 7, 3) := by decide +kernel
theorem d_to_period_46 : decode to_period.2.1 46 = .ok (.iconst 0, 1) := by decide +kernel
theorem d_to_period_47 : decode to_period.2.1 47 = .ok (.goto 5, 3) := by decide +kernel
theorem d_to_period_50 : decode to_period.2.1 50 = .ok (.iload 4, 2) := by decide +kernel
theorem d_to_period_52 : decode to_period.2.1 52 = .ok (.invokestatic 323, 3) := by decide +kernel
theorem d_to_period_55 : decode to_period.2.1 55 = .ok (.ifCond .ne 9, 3) := by decide +kernel
theorem d_to_period_58 : decode to_period.2.1 58 = .ok (.iinc 4 1, 3) := by decide +kernel
theorem d_to_period_61 : decode to_period.2.1 61 = .ok (.goto (-37), 3) := by decide +kernel
theorem d_to_period_64 : decode to_period.2.1 64 = .ok (.iload 4, 2) := by decide +kernel
theorem d_to_period_66 : decode to_period.2.1 66 = .ok (.ireturn, 1) := by decide +kernel
theorem d_to_repeats_0 : decode to_repeats.2.1 0 = .ok (.iconst 0, 1) := by decide +kernel
theorem d_to_repeats_1 : decode to_repeats.2.1 1 = .ok (.istore_n 3, 1) := by decide +kernel
theorem d_to_repeats_2 : decode to_repeats.2.1 2 = .ok (.iload_n 3, 1) := by decide +kernel
theorem d_to_repeats_3 : decode to_repeats.2.1 3 = .ok (.iload_n 1, 1) := by decide +kernel
theorem d_to_repeats_4 : decode to_repeats.2.1 4 = .ok (.iadd, 1) := by decide +kernel
theorem d_to_repeats_5 : decode to_repeats.2.1 5 = .ok (.aload_n 0, 1) := by decide +kernel
theorem d_to_repeats_6 : decode to_repeats.2.1 6 = .ok (.getfield 143, 3) := by decide +kernel
theorem d_to_repeats_9 : decode to_repeats.2.1 9 = .ok (.if_icmp .ge 81, 3) := by decide +kernel
theorem d_to_repeats_12 : decode to_repeats.2.1 12 = .ok (.aload_n 0, 1) := by decide +kernel
theorem d_to_repeats_13 : decode to_repeats.2.1 13 = .ok (.iload_n 3, 1) := by decide +kernel
theorem d_to_repeats_14 : decode to_repeats.2.1 14 = .ok (.invokevirtual 215, 3) := by decide +kernel
theorem d_to_repeats_17 : decode to_repeats.2.1 17 = .ok (.istore 4, 2) := by decide +kernel
theorem d_to_repeats_19 : decode to_repeats.2.1 19 = .ok (.iload 4, 2) := by decide +kernel
theorem d_to_repeats_21 : decode to_repeats.2.1 21 = .ok (.aload_n 0, 1) := by decide +kernel
theorem d_to_repeats_22 : decode to_repeats.2.1 22 = .ok (.iload_n 3, 1) := by decide +kernel
theorem d_to_repeats_23 : decode to_repeats.2.1 23 = .ok (.invokevirtual 212, 3) := by decide +kernel
theorem d_to_repeats_26 : decode to_repeats.2.1 26 = .ok (.iadd, 1) := by decide +kernel
theorem d_to_repeats_27 : decode to_repeats.2.1 27 = .ok (.istore 5, 2) := by decide +kernel
theorem d_to_repeats_29 : decode to_repeats.2.1 29 = .ok (.iload 4, 2) := by decide +kernel
theorem d_to_repeats_31 : decode to_repeats.2.1 31 = .ok (.istore 6, 2) := by decide +kernel
theorem d_to_repeats_33 : decode to_repeats.2.1 33 = .ok (.iload 6, 2) := by decide +kernel
theorem d_to_repeats_35 : decode to_repeats.2.1 35 = .ok (.iload 5, 2) := by decide +kernel
theorem d_to_repeats_37 : decode to_repeats.2.1 37 = .ok (.if_icmp .ge 47, 3) := by decide +kernel
theorem d_to_repeats_40 : decode to_repeats.2.1 40 = .ok (.aload_n 0, 1) := by decide +kernel
theorem d_to_repeats_41 : decode to_repeats.2.1 41 = .ok (.iload_n 3, 1) := by decide +kernel
theorem d_to_repeats_42 : decode to_repeats.2.1 42 = .ok (.iload_n 1, 1) := by decide +kernel
theorem d_to_repeats_43 : decode to_repeats.2.1 43 = .ok (.iadd, 1) := by decide +kernel
theorem d_to_repeats_44 : decode to_repeats.2.1 44 = .ok (.i2l, 1) := by decide +kernel
theorem d_to_repeats_45 : decode to_repeats.2.1 45 = .ok (.iload 6, 2) := by decide +kernel
theorem d_to_repeats_47 : decode to_repeats.2.1 47 = .ok (.iload_n 2, 1) := by decide +kernel
theorem d_to_repeats_48 : decode to_repeats.2.1 48 = .ok (.iadd, 1) := by decide +kernel
theorem d_to_repeats_49 : decode to_repeats.2.1 49 = .ok (.i2l, 1) := by decide +kernel
theorem d_to_repeats_50 : decode to_repeats.2.1 50 = .ok (.invokevirtual 186, 3) := by decide +kernel
theorem d_to_repeats_53 : decode to_repeats.2.1 53 = .ok (.istore 7, 2) := by decide +kernel
theorem d_to_repeats_55 : decode to_repeats.2.1 55 = .ok (.iload 7, 2) := by decide +kernel
theorem d_to_repeats_57 : decode to_repeats.2.1 57 = .ok (.bipush (-2), 2) := by decide +kernel
theorem d_to_repeats_59 : decode to_repeats.2.1 59 = .ok (.if_icmp .eq 19, 3) := by decide +kernel
theorem d_to_repeats_62 : decode to_repeats.2.1 62 = .ok (.iload 7, 2) := by decide +kernel
theorem d_to_repeats_64 : decode to_repeats.2.1 64 = .ok (.aload_n 0, 1) := by decide +kernel
theorem d_to_repeats_65 : decode to_repeats.2.1 65 = .ok (.iload_n 3, 1) := by decide +kernel
theorem d_to_repeats_66 : decode to_repeats.2.1 66 = .ok (.i2l, 1) := by decide +kernel
theorem d_to_repeats_67 : decode to_repeats.2.1 67 = .ok (.iload 6, 2) := by decide +kernel
theorem d_to_repeats_69 : decode to_repeats.2.1 69 = .ok (.i2l, 1) := by decide +kernel
theorem d_to_repeats_70 : decode to_repeats.2.1 70 = .ok (.invokevirtual 186, 3) := by decide +kernel
theorem d_to_repeats_73 : decode to_repeats.2.1 73 = .ok (.if_icmp .eq 5, 3) := by decide +kernel
theorem d_to_repeats_76 : decode to_repeats.2.1 76 = .ok (.iconst 0, 1) := by decide +kernel
theorem d_to_repeats_77 : decode to_repeats.2.1 77 = .ok (.ireturn, 1) := by decide +kernel
theorem d_to_repeats_78 : decode to_repeats.2.1 78 = .ok (.iinc 6 1, 3) := by decide +kernel
theorem d_to_repeats_81 : decode to_repeats.2.1 81 = .ok (.goto (-48), 3) := by decide +kernel
theorem d_to_repeats_84 : decode to_repeats.2.1 84 = .ok (.iinc 3 1, 3) := by decide +kernel
theorem d_to_repeats_87 : decode to_repeats.2.1 87 = .ok (.goto (-85), 3) := by decide +kernel
theorem d_to_repeats_90 : decode to_repeats.2.1 90 = .ok (.iconst 1, 1) := by decide +kernel
theorem d_to_repeats_91 : decode to_repeats.2.1 91 = .ok (.ireturn, 1) := by decide +kernel
theorem d_to_kept_0 : decode to_kept.2.1 0 = .ok (.aload_n 0, 1) := by decide +kernel
theorem d_to_kept_1 : decode to_kept.2.1 1 = .ok (.iload_n 1, 1) := by decide +kernel
theorem d_to_kept_2 : decode to_kept.2.1 2 = .ok (.invokevirtual 139, 3) := by decide +kernel
theorem d_to_kept_5 : decode to_kept.2.1 5 = .ok (.astore_n 2, 1) := by decide +kernel
theorem d_to_kept_6 : decode to_kept.2.1 6 = .ok (.aload_n 2, 1) := by decide +kernel
theorem d_to_kept_7 : decode to_kept.2.1 7 = .ok (.ifnonnull 5, 3) := by decide +kernel
theorem d_to_kept_10 : decode to_kept.2.1 10 = .ok (.iconst (-1), 1) := by decide +kernel
theorem d_to_kept_11 : decode to_kept.2.1 11 = .ok (.ireturn, 1) := by decide +kernel
theorem d_to_kept_12 : decode to_kept.2.1 12 = .ok (.iconst 0, 1) := by decide +kernel
theorem d_to_kept_13 : decode to_kept.2.1 13 = .ok (.istore_n 3, 1) := by decide +kernel
theorem d_to_kept_14 : decode to_kept.2.1 14 = .ok (.aload_n 2, 1) := by decide +kernel
theorem d_to_kept_15 : decode to_kept.2.1 15 = .ok (.invokevirtual 327, 3) := by decide +kernel
theorem d_to_kept_18 : decode to_kept.2.1 18 = .ok (.ifCond .eq 66, 3) := by decide +kernel
theorem d_to_kept_21 : decode to_kept.2.1 21 = .ok (.aload_n 0, 1) := by decide +kernel
theorem d_to_kept_22 : decode to_kept.2.1 22 = .ok (.getfield 68, 3) := by decide +kernel
theorem d_to_kept_25 : decode to_kept.2.1 25 = .ok (.aload_n 2, 1) := by decide +kernel
theorem d_to_kept_26 : decode to_kept.2.1 26 = .ok (.invokevirtual 328, 3) := by decide +kernel
theorem d_to_kept_29 : decode to_kept.2.1 29 = .ok (.iconst 0, 1) := by decide +kernel
theorem d_to_kept_30 : decode to_kept.2.1 30 = .ok (.istore 4, 2) := by decide +kernel
theorem d_to_kept_32 : decode to_kept.2.1 32 = .ok (.iload 4, 2) := by decide +kernel
theorem d_to_kept_34 : decode to_kept.2.1 34 = .ok (.bipush 8, 2) := by decide +kernel
theorem d_to_kept_36 : decode to_kept.2.1 36 = .ok (.if_icmp .ge 48, 3) := by decide +kernel
theorem d_to_kept_39 : decode to_kept.2.1 39 = .ok (.aload_n 0, 1) := by decide +kernel
theorem d_to_kept_40 : decode to_kept.2.1 40 = .ok (.getfield 71, 3) := by decide +kernel
theorem d_to_kept_43 : decode to_kept.2.1 43 = .ok (.aload_n 0, 1) := by decide +kernel
theorem d_to_kept_44 : decode to_kept.2.1 44 = .ok (.getfield 68, 3) := by decide +kernel
theorem d_to_kept_47 : decode to_kept.2.1 47 = .ok (.iload 4, 2) := by decide +kernel
theorem d_to_kept_49 : decode to_kept.2.1 49 = .ok (.aload_n 0, 1) := by decide +kernel
theorem d_to_kept_50 : decode to_kept.2.1 50 = .ok (.getfield 20, 3) := by decide +kernel
theorem d_to_kept_53 : decode to_kept.2.1 53 = .ok (.invokevirtual 239, 3) := by decide +kernel
theorem d_to_kept_56 : decode to_kept.2.1 56 = .ok (.iload_n 3, 1) := by decide +kernel
theorem d_to_kept_57 : decode to_kept.2.1 57 = .ok (.aload_n 2, 1) := by decide +kernel
theorem d_to_kept_58 : decode to_kept.2.1 58 = .ok (.aload_n 0, 1) := by decide +kernel
theorem d_to_kept_59 : decode to_kept.2.1 59 = .ok (.getfield 71, 3) := by decide +kernel
theorem d_to_kept_62 : decode to_kept.2.1 62 = .ok (.invokevirtual 332, 3) := by decide +kernel
theorem d_to_kept_65 : decode to_kept.2.1 65 = .ok (.ifCond .eq 10, 3) := by decide +kernel
theorem d_to_kept_68 : decode to_kept.2.1 68 = .ok (.iconst 1, 1) := by decide +kernel
theorem d_to_kept_69 : decode to_kept.2.1 69 = .ok (.iload 4, 2) := by decide +kernel
theorem d_to_kept_71 : decode to_kept.2.1 71 = .ok (.ishl, 1) := by decide +kernel
theorem d_to_kept_72 : decode to_kept.2.1 72 = .ok (.goto 4, 3) := by decide +kernel
theorem d_to_kept_75 : decode to_kept.2.1 75 = .ok (.iconst 0, 1) := by decide +kernel
theorem d_to_kept_76 : decode to_kept.2.1 76 = .ok (.ior, 1) := by decide +kernel
theorem d_to_kept_77 : decode to_kept.2.1 77 = .ok (.istore_n 3, 1) := by decide +kernel
theorem d_to_kept_78 : decode to_kept.2.1 78 = .ok (.iinc 4 1, 3) := by decide +kernel
theorem d_to_kept_81 : decode to_kept.2.1 81 = .ok (.goto (-49), 3) := by decide +kernel
theorem d_to_kept_84 : decode to_kept.2.1 84 = .ok (.iload_n 3, 1) := by decide +kernel
theorem d_to_kept_85 : decode to_kept.2.1 85 = .ok (.ireturn, 1) := by decide +kernel
theorem d_to_congruent_0 : decode to_congruent.2.1 0 = .ok (.aload_n 0, 1) := by decide +kernel
theorem d_to_congruent_1 : decode to_congruent.2.1 1 = .ok (.iload_n 1, 1) := by decide +kernel
theorem d_to_congruent_2 : decode to_congruent.2.1 2 = .ok (.invokevirtual 139, 3) := by decide +kernel
theorem d_to_congruent_5 : decode to_congruent.2.1 5 = .ok (.astore_n 3, 1) := by decide +kernel
theorem d_to_congruent_6 : decode to_congruent.2.1 6 = .ok (.aload_n 0, 1) := by decide +kernel
theorem d_to_congruent_7 : decode to_congruent.2.1 7 = .ok (.iload_n 2, 1) := by decide +kernel
theorem d_to_congruent_8 : decode to_congruent.2.1 8 = .ok (.invokevirtual 139, 3) := by decide +kernel
theorem d_to_congruent_11 : decode to_congruent.2.1 11 = .ok (.astore 4, 2) := by decide +kernel
theorem d_to_congruent_13 : decode to_congruent.2.1 13 = .ok (.aload_n 3, 1) := by decide +kernel
theorem d_to_congruent_14 : decode to_congruent.2.1 14 = .ok (.ifnull 23, 3) := by decide +kernel
theorem d_to_congruent_17 : decode to_congruent.2.1 17 = .ok (.aload 4, 2) := by decide +kernel
theorem d_to_congruent_19 : decode to_congruent.2.1 19 = .ok (.ifnull 18, 3) := by decide +kernel
theorem d_to_congruent_22 : decode to_congruent.2.1 22 = .ok (.aload_n 3, 1) := by decide +kernel
theorem d_to_congruent_23 : decode to_congruent.2.1 23 = .ok (.invokevirtual 327, 3) := by decide +kernel
theorem d_to_congruent_26 : decode to_congruent.2.1 26 = .ok (.ifCond .eq 11, 3) := by decide +kernel
theorem d_to_congruent_29 : decode to_congruent.2.1 29 = .ok (.aload 4, 2) := by decide +kernel
theorem d_to_congruent_31 : decode to_congruent.2.1 31 = .ok (.invokevirtual 327, 3) := by decide +kernel
theorem d_to_congruent_34 : decode to_congruent.2.1 34 = .ok (.ifCond .ne 5, 3) := by decide +kernel
theorem d_to_congruent_37 : decode to_congruent.2.1 37 = .ok (.iconst (-1), 1) := by decide +kernel
theorem d_to_congruent_38 : decode to_congruent.2.1 38 = .ok (.ireturn, 1) := by decide +kernel
theorem d_to_congruent_39 : decode to_congruent.2.1 39 = .ok (.aload_n 0, 1) := by decide +kernel
theorem d_to_congruent_40 : decode to_congruent.2.1 40 = .ok (.getfield 68, 3) := by decide +kernel
theorem d_to_congruent_43 : decode to_congruent.2.1 43 = .ok (.aload_n 3, 1) := by decide +kernel
theorem d_to_congruent_44 : decode to_congruent.2.1 44 = .ok (.invokevirtual 328, 3) := by decide +kernel
theorem d_to_congruent_47 : decode to_congruent.2.1 47 = .ok (.iconst 0, 1) := by decide +kernel
theorem d_to_congruent_48 : decode to_congruent.2.1 48 = .ok (.istore 5, 2) := by decide +kernel
theorem d_to_congruent_50 : decode to_congruent.2.1 50 = .ok (.iload 5, 2) := by decide +kernel
theorem d_to_congruent_52 : decode to_congruent.2.1 52 = .ok (.bipush 8, 2) := by decide +kernel
theorem d_to_congruent_54 : decode to_congruent.2.1 54 = .ok (.if_icmp .ge 41, 3) := by decide +kernel
theorem d_to_congruent_57 : decode to_congruent.2.1 57 = .ok (.aload_n 0, 1) := by decide +kernel
theorem d_to_congruent_58 : decode to_congruent.2.1 58 = .ok (.getfield 71, 3) := by decide +kernel
theorem d_to_congruent_61 : decode to_congruent.2.1 61 = .ok (.aload_n 0, 1) := by decide +kernel
theorem d_to_congruent_62 : decode to_congruent.2.1 62 = .ok (.getfield 68, 3) := by decide +kernel
theorem d_to_congruent_65 : decode to_congruent.2.1 65 = .ok (.iload 5, 2) := by decide +kernel
theorem d_to_congruent_67 : decode to_congruent.2.1 67 = .ok (.aload_n 0, 1) := by decide +kernel
theorem d_to_congruent_68 : decode to_congruent.2.1 68 = .ok (.getfield 20, 3) := by decide +kernel
theorem d_to_congruent_71 : decode to_congruent.2.1 71 = .ok (.invokevirtual 239, 3) := by decide +kernel
theorem d_to_congruent_74 : decode to_congruent.2.1 74 = .ok (.aload 4, 2) := by decide +kernel
theorem d_to_congruent_76 : decode to_congruent.2.1 76 = .ok (.aload_n 0, 1) := by decide +kernel
theorem d_to_congruent_77 : decode to_congruent.2.1 77 = .ok (.getfield 71, 3) := by decide +kernel
theorem d_to_congruent_80 : decode to_congruent.2.1 80 = .ok (.invokevirtual 332, 3) := by decide +kernel
theorem d_to_congruent_83 : decode to_congruent.2.1 83 = .ok (.ifCond .eq 6, 3) := by decide +kernel
theorem d_to_congruent_86 : decode to_congruent.2.1 86 = .ok (.iload 5, 2) := by decide +kernel
theorem d_to_congruent_88 : decode to_congruent.2.1 88 = .ok (.ireturn, 1) := by decide +kernel
theorem d_to_congruent_89 : decode to_congruent.2.1 89 = .ok (.iinc 5 1, 3) := by decide +kernel
theorem d_to_congruent_92 : decode to_congruent.2.1 92 = .ok (.goto (-42), 3) := by decide +kernel
theorem d_to_congruent_95 : decode to_congruent.2.1 95 = .ok (.iconst (-1), 1) := by decide +kernel
theorem d_to_congruent_96 : decode to_congruent.2.1 96 = .ok (.ireturn, 1) := by decide +kernel
theorem d_to_find_0 : decode to_find.2.1 0 = .ok (.aload_n 0, 1) := by decide +kernel
theorem d_to_find_1 : decode to_find.2.1 1 = .ok (.iload_n 1, 1) := by decide +kernel
theorem d_to_find_2 : decode to_find.2.1 2 = .ok (.invokevirtual 139, 3) := by decide +kernel
theorem d_to_find_5 : decode to_find.2.1 5 = .ok (.astore 4, 2) := by decide +kernel
theorem d_to_find_7 : decode to_find.2.1 7 = .ok (.aload_n 0, 1) := by decide +kernel
theorem d_to_find_8 : decode to_find.2.1 8 = .ok (.iload_n 2, 1) := by decide +kernel
theorem d_to_find_9 : decode to_find.2.1 9 = .ok (.invokevirtual 139, 3) := by decide +kernel
theorem d_to_find_12 : decode to_find.2.1 12 = .ok (.astore 5, 2) := by decide +kernel
theorem d_to_find_14 : decode to_find.2.1 14 = .ok (.aload 4, 2) := by decide +kernel
theorem d_to_find_16 : decode to_find.2.1 16 = .ok (.ifnull 20, 3) := by decide +kernel
theorem d_to_find_19 : decode to_find.2.1 19 = .ok (.aload 5, 2) := by decide +kernel
theorem d_to_find_21 : decode to_find.2.1 21 = .ok (.ifnull 15, 3) := by decide +kernel
theorem d_to_find_24 : decode to_find.2.1 24 = .ok (.aload 5, 2) := by decide +kernel
theorem d_to_find_26 : decode to_find.2.1 26 = .ok (.invokevirtual 327, 3) := by decide +kernel
theorem d_to_find_29 : decode to_find.2.1 29 = .ok (.ifCond .eq 7, 3) := by decide +kernel
theorem d_to_find_32 : decode to_find.2.1 32 = .ok (.iload_n 3, 1) := by decide +kernel
theorem d_to_find_33 : decode to_find.2.1 33 = .ok (.ifCond .ge 5, 3) := by decide +kernel
theorem d_to_find_36 : decode to_find.2.1 36 = .ok (.iconst (-1), 1) := by decide +kernel
theorem d_to_find_37 : decode to_find.2.1 37 = .ok (.ireturn, 1) := by decide +kernel
theorem d_to_find_38 : decode to_find.2.1 38 = .ok (.aload_n 0, 1) := by decide +kernel
theorem d_to_find_39 : decode to_find.2.1 39 = .ok (.getfield 74, 3) := by decide +kernel
theorem d_to_find_42 : decode to_find.2.1 42 = .ok (.iconst 0, 1) := by decide +kernel
theorem d_to_find_43 : decode to_find.2.1 43 = .ok (.invokestatic 336, 3) := by decide +kernel
theorem d_to_find_46 : decode to_find.2.1 46 = .ok (.aload_n 0, 1) := by decide +kernel
theorem d_to_find_47 : decode to_find.2.1 47 = .ok (.getfield 68, 3) := by decide +kernel
theorem d_to_find_50 : decode to_find.2.1 50 = .ok (.aload 5, 2) := by decide +kernel
theorem d_to_find_52 : decode to_find.2.1 52 = .ok (.invokevirtual 328, 3) := by decide +kernel
theorem d_to_find_55 : decode to_find.2.1 55 = .ok (.iconst 0, 1) := by decide +kernel
theorem d_to_find_56 : decode to_find.2.1 56 = .ok (.istore 6, 2) := by decide +kernel
theorem d_to_find_58 : decode to_find.2.1 58 = .ok (.iload 6, 2) := by decide +kernel
theorem d_to_find_60 : decode to_find.2.1 60 = .ok (.bipush 8, 2) := by decide +kernel
theorem d_to_find_62 : decode to_find.2.1 62 = .ok (.if_icmp .ge 34, 3) := by decide +kernel
theorem d_to_find_65 : decode to_find.2.1 65 = .ok (.aload_n 0, 1) := by decide +kernel
theorem d_to_find_66 : decode to_find.2.1 66 = .ok (.getfield 71, 3) := by decide +kernel
theorem d_to_find_69 : decode to_find.2.1 69 = .ok (.aload_n 0, 1) := by decide +kernel
theorem d_to_find_70 : decode to_find.2.1 70 = .ok (.getfield 68, 3) := by decide +kernel
theorem d_to_find_73 : decode to_find.2.1 73 = .ok (.iload 6, 2) := by decide +kernel
theorem d_to_find_75 : decode to_find.2.1 75 = .ok (.aload_n 0, 1) := by decide +kernel
theorem d_to_find_76 : decode to_find.2.1 76 = .ok (.getfield 20, 3) := by decide +kernel
theorem d_to_find_79 : decode to_find.2.1 79 = .ok (.invokevirtual 239, 3) := by decide +kernel
theorem d_to_find_82 : decode to_find.2.1 82 = .ok (.aload_n 0, 1) := by decide +kernel
theorem d_to_find_83 : decode to_find.2.1 83 = .ok (.aload 4, 2) := by decide +kernel
theorem d_to_find_85 : decode to_find.2.1 85 = .ok (.iload 6, 2) := by decide +kernel
theorem d_to_find_87 : decode to_find.2.1 87 = .ok (.invokevirtual 342, 3) := by decide +kernel
theorem d_to_find_90 : decode to_find.2.1 90 = .ok (.iinc 6 1, 3) := by decide +kernel
theorem d_to_find_93 : decode to_find.2.1 93 = .ok (.goto (-35), 3) := by decide +kernel
theorem d_to_find_96 : decode to_find.2.1 96 = .ok (.aload_n 0, 1) := by decide +kernel
theorem d_to_find_97 : decode to_find.2.1 97 = .ok (.iload_n 3, 1) := by decide +kernel
theorem d_to_find_98 : decode to_find.2.1 98 = .ok (.invokevirtual 346, 3) := by decide +kernel
theorem d_to_find_101 : decode to_find.2.1 101 = .ok (.ireturn, 1) := by decide +kernel
theorem d_to_markFound_0 : decode to_markFound.2.1 0 = .ok (.iconst 0, 1) := by decide +kernel
theorem d_to_markFound_1 : decode to_markFound.2.1 1 = .ok (.istore_n 3, 1) := by decide +kernel
theorem d_to_markFound_2 : decode to_markFound.2.1 2 = .ok (.iload_n 3, 1) := by decide +kernel
theorem d_to_markFound_3 : decode to_markFound.2.1 3 = .ok (.aload_n 0, 1) := by decide +kernel
theorem d_to_markFound_4 : decode to_markFound.2.1 4 = .ok (.getfield 71, 3) := by decide +kernel
theorem d_to_markFound_7 : decode to_markFound.2.1 7 = .ok (.getfield 243, 3) := by decide +kernel
theorem d_to_markFound_10 : decode to_markFound.2.1 10 = .ok (.iadd, 1) := by decide +kernel
theorem d_to_markFound_11 : decode to_markFound.2.1 11 = .ok (.aload_n 1, 1) := by decide +kernel
theorem d_to_markFound_12 : decode to_markFound.2.1 12 = .ok (.getfield 143, 3) := by decide +kernel
theorem d_to_markFound_15 : decode to_markFound.2.1 15 = .ok (.if_icmp .gt 96, 3) := by decide +kernel
theorem d_to_markFound_18 : decode to_markFound.2.1 18 = .ok (.aload_n 1, 1) := by decide +kernel
theorem d_to_markFound_19 : decode to_markFound.2.1 19 = .ok (.iload_n 3, 1) := by decide +kernel
theorem d_to_markFound_20 : decode to_markFound.2.1 20 = .ok (.invokevirtual 215, 3) := by decide +kernel
theorem d_to_markFound_23 : decode to_markFound.2.1 23 = .ok (.istore 4, 2) := by decide +kernel
theorem d_to_markFound_25 : decode to_markFound.2.1 25 = .ok (.aload_n 1, 1) := by decide +kernel
theorem d_to_markFound_26 : decode to_markFound.2.1 26 = .ok (.iload_n 3, 1) := by decide +kernel
theorem d_to_markFound_27 : decode to_markFound.2.1 27 = .ok (.invokevirtual 212, 3) := by decide +kernel
theorem d_to_markFound_30 : decode to_markFound.2.1 30 = .ok (.aload_n 0, 1) := by decide +kernel
theorem d_to_markFound_31 : decode to_markFound.2.1 31 = .ok (.getfield 71, 3) := by decide +kernel
theorem d_to_markFound_34 : decode to_markFound.2.1 34 = .ok (.getfield 254, 3) := by decide +kernel
theorem d_to_markFound_37 : decode to_markFound.2.1 37 = .ok (.isub, 1) := by decide +kernel
theorem d_to_markFound_38 : decode to_markFound.2.1 38 = .ok (.istore 5, 2) := by decide +kernel
theorem d_to_markFound_40 : decode to_markFound.2.1 40 = .ok (.iconst 0, 1) := by decide +kernel
theorem d_to_markFound_41 : decode to_markFound.2.1 41 = .ok (.istore 6, 2) := by decide +kernel
theorem d_to_markFound_43 : decode to_markFound.2.1 43 = .ok (.iload 6, 2) := by decide +kernel
theorem d_to_markFound_45 : decode to_markFound.2.1 45 = .ok (.iload 5, 2) := by decide +kernel
theorem d_to_markFound_47 : decode to_markFound.2.1 47 = .ok (.if_icmp .gt 58, 3) := by decide +kernel
theorem d_to_markFound_50 : decode to_markFound.2.1 50 = .ok (.iload_n 3, 1) := by decide +kernel
theorem d_to_markFound_51 : decode to_markFound.2.1 51 = .ok (.bipush 60, 2) := by decide +kernel
theorem d_to_markFound_53 : decode to_markFound.2.1 53 = .ok (.imul, 1) := by decide +kernel
theorem d_to_markFound_54 : decode to_markFound.2.1 54 = .ok (.iload 6, 2) := by decide +kernel
theorem d_to_markFound_56 : decode to_markFound.2.1 56 = .ok (.iadd, 1) := by decide +kernel
theorem d_to_markFound_57 : decode to_markFound.2.1 57 = .ok (.istore 7, 2) := by decide +kernel
theorem d_to_markFound_59 : decode to_markFound.2.1 59 = .ok (.iload 7, 2) := by decide +kernel
theorem d_to_markFound_61 : decode to_markFound.2.1 61 = .ok (.aload_n 0, 1) := by decide +kernel
theorem d_to_markFound_62 : decode to_markFound.2.1 62 = .ok (.getfield 74, 3) := by decide +kernel
theorem d_to_markFound_65 : decode to_markFound.2.1 65 = .ok (.arraylength, 1) := by decide +kernel
theorem d_to_markFound_66 : decode to_markFound.2.1 66 = .ok (.if_icmp .ge 33, 3) := by decide +kernel
theorem d_to_markFound_69 : decode to_markFound.2.1 69 = .ok (.aload_n 1, 1) := by decide +kernel
theorem d_to_markFound_70 : decode to_markFound.2.1 70 = .ok (.aload_n 0, 1) := by decide +kernel
theorem d_to_markFound_71 : decode to_markFound.2.1 71 = .ok (.getfield 71, 3) := by decide +kernel
theorem d_to_markFound_74 : decode to_markFound.2.1 74 = .ok (.iload_n 3, 1) := by decide +kernel
theorem d_to_markFound_75 : decode to_markFound.2.1 75 = .ok (.iload 4, 2) := by decide +kernel
theorem d_to_markFound_77 : decode to_markFound.2.1 77 = .ok (.iload 6, 2) := by decide +kernel
theorem d_to_markFound_79 : decode to_markFound.2.1 79 = .ok (.iadd, 1) := by decide +kernel
theorem d_to_markFound_80 : decode to_markFound.2.1 80 = .ok (.invokevirtual 349, 3) := by decide +kernel
theorem d_to_markFound_83 : decode to_markFound.2.1 83 = .ok (.ifCond .eq 16, 3) := by decide +kernel
theorem d_to_markFound_86 : decode to_markFound.2.1 86 = .ok (.aload_n 0, 1) := by decide +kernel
theorem d_to_markFound_87 : decode to_markFound.2.1 87 = .ok (.getfield 74, 3) := by decide +kernel
theorem d_to_markFound_90 : decode to_markFound.2.1 90 = .ok (.iload 7, 2) := by decide +kernel
theorem d_to_markFound_92 : decode to_markFound.2.1 92 = .ok (.dup2, 1) := by decide +kernel
theorem d_to_markFound_93 : decode to_markFound.2.1 93 = .ok (.iaload, 1) := by decide +kernel
theorem d_to_markFound_94 : decode to_markFound.2.1 94 = .ok (.iconst 1, 1) := by decide +kernel
theorem d_to_markFound_95 : decode to_markFound.2.1 95 = .ok (.iload_n 2, 1) := by decide +kernel
theorem d_to_markFound_96 : decode to_markFound.2.1 96 = .ok (.ishl, 1) := by decide +kernel
theorem d_to_markFound_97 : decode to_markFound.2.1 97 = .ok (.ior, 1) := by decide +kernel
theorem d_to_markFound_98 : decode to_markFound.2.1 98 = .ok (.iastore, 1) := by decide +kernel
theorem d_to_markFound_99 : decode to_markFound.2.1 99 = .ok (.iinc 6 1, 3) := by decide +kernel
theorem d_to_markFound_102 : decode to_markFound.2.1 102 = .ok (.goto (-59), 3) := by decide +kernel
theorem d_to_markFound_105 : decode to_markFound.2.1 105 = .ok (.iinc 3 1, 3) := by decide +kernel
theorem d_to_markFound_108 : decode to_markFound.2.1 108 = .ok (.goto (-106), 3) := by decide +kernel
theorem d_to_markFound_111 : decode to_markFound.2.1 111 = .ok (.return_, 1) := by decide +kernel
theorem d_to_foundAt_0 : decode to_foundAt.2.1 0 = .ok (.iconst 0, 1) := by decide +kernel
theorem d_to_foundAt_1 : decode to_foundAt.2.1 1 = .ok (.istore_n 2, 1) := by decide +kernel
theorem d_to_foundAt_2 : decode to_foundAt.2.1 2 = .ok (.iconst 0, 1) := by decide +kernel
theorem d_to_foundAt_3 : decode to_foundAt.2.1 3 = .ok (.istore_n 3, 1) := by decide +kernel
theorem d_to_foundAt_4 : decode to_foundAt.2.1 4 = .ok (.iload_n 3, 1) := by decide +kernel
theorem d_to_foundAt_5 : decode to_foundAt.2.1 5 = .ok (.aload_n 0, 1) := by decide +kernel
theorem d_to_foundAt_6 : decode to_foundAt.2.1 6 = .ok (.getfield 74, 3) := by decide +kernel
theorem d_to_foundAt_9 : decode to_foundAt.2.1 9 = .ok (.arraylength, 1) := by decide +kernel
theorem d_to_foundAt_10 : decode to_foundAt.2.1 10 = .ok (.if_icmp .ge 71, 3) := by decide +kernel
theorem d_to_foundAt_13 : decode to_foundAt.2.1 13 = .ok (.aload_n 0, 1) := by decide +kernel
theorem d_to_foundAt_14 : decode to_foundAt.2.1 14 = .ok (.getfield 74, 3) := by decide +kernel
theorem d_to_foundAt_17 : decode to_foundAt.2.1 17 = .ok (.iload_n 3, 1) := by decide +kernel
theorem d_to_foundAt_18 : decode to_foundAt.2.1 18 = .ok (.iaload, 1) := by decide +kernel
theorem d_to_foundAt_19 : decode to_foundAt.2.1 19 = .ok (.invokestatic 353, 3) := by decide +kernel
theorem d_to_foundAt_22 : decode to_foundAt.2.1 22 = .ok (.istore 4, 2) := by decide +kernel
theorem d_to_foundAt_24 : decode to_foundAt.2.1 24 = .ok (.iload 4, 2) := by decide +kernel
theorem d_to_foundAt_26 : decode to_foundAt.2.1 26 = .ok (.iload_n 1, 1) := by decide +kernel
theorem d_to_foundAt_27 : decode to_foundAt.2.1 27 = .ok (.iload_n 2, 1) := by decide +kernel
theorem d_to_foundAt_28 : decode to_foundAt.2.1 28 = .ok (.isub, 1) := by decide +kernel
theorem d_to_foundAt_29 : decode to_foundAt.2.1 29 = .ok (.if_icmp .le 41, 3) := by decide +kernel
theorem d_to_foundAt_32 : decode to_foundAt.2.1 32 = .ok (.iload_n 3, 1) := by decide +kernel
theorem d_to_foundAt_33 : decode to_foundAt.2.1 33 = .ok (.bipush 60, 2) := by decide +kernel
theorem d_to_foundAt_35 : decode to_foundAt.2.1 35 = .ok (.idiv, 1) := by decide +kernel
theorem d_to_foundAt_36 : decode to_foundAt.2.1 36 = .ok (.istore 5, 2) := by decide +kernel
theorem d_to_foundAt_38 : decode to_foundAt.2.1 38 = .ok (.iload_n 3, 1) := by decide +kernel
theorem d_to_foundAt_39 : decode to_foundAt.2.1 39 = .ok (.bipush 60, 2) := by decide +kernel
theorem d_to_foundAt_41 : decode to_foundAt.2.1 41 = .ok (.irem, 1) := by decide +kernel
theorem d_to_foundAt_42 : decode to_foundAt.2.1 42 = .ok (.istore 6, 2) := by decide +kernel
theorem d_to_foundAt_44 : decode to_foundAt.2.1 44 = .ok (.sipush 1000, 3) := by decide +kernel
theorem d_to_foundAt_47 : decode to_foundAt.2.1 47 = .ok (.iload 5, 2) := by decide +kernel
theorem d_to_foundAt_49 : decode to_foundAt.2.1 49 = .ok (.imul, 1) := by decide +kernel
theorem d_to_foundAt_50 : decode to_foundAt.2.1 50 = .ok (.bipush 10, 2) := by decide +kernel
theorem d_to_foundAt_52 : decode to_foundAt.2.1 52 = .ok (.iload 6, 2) := by decide +kernel
theorem d_to_foundAt_54 : decode to_foundAt.2.1 54 = .ok (.imul, 1) := by decide +kernel
theorem d_to_foundAt_55 : decode to_foundAt.2.1 55 = .ok (.iadd, 1) := by decide +kernel
theorem d_to_foundAt_56 : decode to_foundAt.2.1 56 = .ok (.aload_n 0, 1) := by decide +kernel
theorem d_to_foundAt_57 : decode to_foundAt.2.1 57 = .ok (.getfield 74, 3) := by decide +kernel
theorem d_to_foundAt_60 : decode to_foundAt.2.1 60 = .ok (.iload_n 3, 1) := by decide +kernel
theorem d_to_foundAt_61 : decode to_foundAt.2.1 61 = .ok (.iaload, 1) := by decide +kernel
theorem d_to_foundAt_62 : decode to_foundAt.2.1 62 = .ok (.iload_n 1, 1) := by decide +kernel
theorem d_to_foundAt_63 : decode to_foundAt.2.1 63 = .ok (.iload_n 2, 1) := by decide +kernel
theorem d_to_foundAt_64 : decode to_foundAt.2.1 64 = .ok (.isub, 1) := by decide +kernel
theorem d_to_foundAt_65 : decode to_foundAt.2.1 65 = .ok (.invokestatic 358, 3) := by decide +kernel
theorem d_to_foundAt_68 : decode to_foundAt.2.1 68 = .ok (.iadd, 1) := by decide +kernel
theorem d_to_foundAt_69 : decode to_foundAt.2.1 69 = .ok (.ireturn, 1) := by decide +kernel
theorem d_to_foundAt_70 : decode to_foundAt.2.1 70 = .ok (.iload_n 2, 1) := by decide +kernel
theorem d_to_foundAt_71 : decode to_foundAt.2.1 71 = .ok (.iload 4, 2) := by decide +kernel
theorem d_to_foundAt_73 : decode to_foundAt.2.1 73 = .ok (.iadd, 1) := by decide +kernel
theorem d_to_foundAt_74 : decode to_foundAt.2.1 74 = .ok (.istore_n 2, 1) := by decide +kernel
theorem d_to_foundAt_75 : decode to_foundAt.2.1 75 = .ok (.iinc 3 1, 3) := by decide +kernel
theorem d_to_foundAt_78 : decode to_foundAt.2.1 78 = .ok (.goto (-74), 3) := by decide +kernel
theorem d_to_foundAt_81 : decode to_foundAt.2.1 81 = .ok (.iconst (-1), 1) := by decide +kernel
theorem d_to_foundAt_82 : decode to_foundAt.2.1 82 = .ok (.ireturn, 1) := by decide +kernel
theorem d_to_bitAt_0 : decode to_bitAt.2.1 0 = .ok (.iconst 0, 1) := by decide +kernel
theorem d_to_bitAt_1 : decode to_bitAt.2.1 1 = .ok (.istore_n 2, 1) := by decide +kernel
theorem d_to_bitAt_2 : decode to_bitAt.2.1 2 = .ok (.iconst 0, 1) := by decide +kernel
theorem d_to_bitAt_3 : decode to_bitAt.2.1 3 = .ok (.istore_n 3, 1) := by decide +kernel
theorem d_to_bitAt_4 : decode to_bitAt.2.1 4 = .ok (.iload_n 3, 1) := by decide +kernel
theorem d_to_bitAt_5 : decode to_bitAt.2.1 5 = .ok (.bipush 8, 2) := by decide +kernel
theorem d_to_bitAt_7 : decode to_bitAt.2.1 7 = .ok (.if_icmp .ge 28, 3) := by decide +kernel
theorem d_to_bitAt_10 : decode to_bitAt.2.1 10 = .ok (.iload_n 0, 1) := by decide +kernel
theorem d_to_bitAt_11 : decode to_bitAt.2.1 11 = .ok (.iload_n 3, 1) := by decide +kernel
theorem d_to_bitAt_12 : decode to_bitAt.2.1 12 = .ok (.ishr, 1) := by decide +kernel
theorem d_to_bitAt_13 : decode to_bitAt.2.1 13 = .ok (.iconst 1, 1) := by decide +kernel
theorem d_to_bitAt_14 : decode to_bitAt.2.1 14 = .ok (.iand, 1) := by decide +kernel
theorem d_to_bitAt_15 : decode to_bitAt.2.1 15 = .ok (.iconst 1, 1) := by decide +kernel
theorem d_to_bitAt_16 : decode to_bitAt.2.1 16 = .ok (.if_icmp .ne 13, 3) := by decide +kernel
theorem d_to_bitAt_19 : decode to_bitAt.2.1 19 = .ok (.iload_n 2, 1) := by decide +kernel
theorem d_to_bitAt_20 : decode to_bitAt.2.1 20 = .ok (.iload_n 1, 1) := by decide +kernel
theorem d_to_bitAt_21 : decode to_bitAt.2.1 21 = .ok (.if_icmp .ne 5, 3) := by decide +kernel
theorem d_to_bitAt_24 : decode to_bitAt.2.1 24 = .ok (.iload_n 3, 1) := by decide +kernel
theorem d_to_bitAt_25 : decode to_bitAt.2.1 25 = .ok (.ireturn, 1) := by decide +kernel
theorem d_to_bitAt_26 : decode to_bitAt.2.1 26 = .ok (.iinc 2 1, 3) := by decide +kernel
theorem d_to_bitAt_29 : decode to_bitAt.2.1 29 = .ok (.iinc 3 1, 3) := by decide +kernel
theorem d_to_bitAt_32 : decode to_bitAt.2.1 32 = .ok (.goto (-28), 3) := by decide +kernel
theorem d_to_bitAt_35 : decode to_bitAt.2.1 35 = .ok (.iconst (-1), 1) := by decide +kernel
theorem d_to_bitAt_36 : decode to_bitAt.2.1 36 = .ok (.ireturn, 1) := by decide +kernel
theorem d_to_floor_0 : decode to_floor.2.1 0 = .ok (.aload_n 0, 1) := by decide +kernel
theorem d_to_floor_1 : decode to_floor.2.1 1 = .ok (.getfield 361, 3) := by decide +kernel
theorem d_to_floor_4 : decode to_floor.2.1 4 = .ok (.bipush 6, 2) := by decide +kernel
theorem d_to_floor_6 : decode to_floor.2.1 6 = .ok (.if_icmp .ge 11, 3) := by decide +kernel
theorem d_to_floor_9 : decode to_floor.2.1 9 = .ok (.iload_n 1, 1) := by decide +kernel
theorem d_to_floor_10 : decode to_floor.2.1 10 = .ok (.iload_n 2, 1) := by decide +kernel
theorem d_to_floor_11 : decode to_floor.2.1 11 = .ok (.invokestatic 364, 3) := by decide +kernel
theorem d_to_floor_14 : decode to_floor.2.1 14 = .ok (.ifCond .ne 5, 3) := by decide +kernel
theorem d_to_floor_17 : decode to_floor.2.1 17 = .ok (.iconst (-1), 1) := by decide +kernel
theorem d_to_floor_18 : decode to_floor.2.1 18 = .ok (.ireturn, 1) := by decide +kernel
theorem d_to_floor_19 : decode to_floor.2.1 19 = .ok (.aload_n 0, 1) := by decide +kernel
theorem d_to_floor_20 : decode to_floor.2.1 20 = .ok (.getfield 86, 3) := by decide +kernel
theorem d_to_floor_23 : decode to_floor.2.1 23 = .ok (.aload_n 0, 1) := by decide +kernel
theorem d_to_floor_24 : decode to_floor.2.1 24 = .ok (.getfield 361, 3) := by decide +kernel
theorem d_to_floor_27 : decode to_floor.2.1 27 = .ok (.new 84, 3) := by decide +kernel
theorem d_to_floor_30 : decode to_floor.2.1 30 = .ok (.dup, 1) := by decide +kernel
theorem d_to_floor_31 : decode to_floor.2.1 31 = .ok (.iload_n 1, 1) := by decide +kernel
theorem d_to_floor_32 : decode to_floor.2.1 32 = .ok (.iload_n 2, 1) := by decide +kernel
theorem d_to_floor_33 : decode to_floor.2.1 33 = .ok (.invokespecial 365, 3) := by decide +kernel
theorem d_to_floor_36 : decode to_floor.2.1 36 = .ok (.aastore, 1) := by decide +kernel
theorem d_to_floor_37 : decode to_floor.2.1 37 = .ok (.aload_n 0, 1) := by decide +kernel
theorem d_to_floor_38 : decode to_floor.2.1 38 = .ok (.dup, 1) := by decide +kernel
theorem d_to_floor_39 : decode to_floor.2.1 39 = .ok (.getfield 361, 3) := by decide +kernel
theorem d_to_floor_42 : decode to_floor.2.1 42 = .ok (.iconst 1, 1) := by decide +kernel
theorem d_to_floor_43 : decode to_floor.2.1 43 = .ok (.iadd, 1) := by decide +kernel
theorem d_to_floor_44 : decode to_floor.2.1 44 = .ok (.putfield 361, 3) := by decide +kernel
theorem d_to_floor_47 : decode to_floor.2.1 47 = .ok (.aload_n 0, 1) := by decide +kernel
theorem d_to_floor_48 : decode to_floor.2.1 48 = .ok (.getfield 361, 3) := by decide +kernel
theorem d_to_floor_51 : decode to_floor.2.1 51 = .ok (.iconst 1, 1) := by decide +kernel
theorem d_to_floor_52 : decode to_floor.2.1 52 = .ok (.isub, 1) := by decide +kernel
theorem d_to_floor_53 : decode to_floor.2.1 53 = .ok (.ireturn, 1) := by decide +kernel
theorem d_to_floorOf_0 : decode to_floorOf.2.1 0 = .ok (.iload_n 1, 1) := by decide +kernel
theorem d_to_floorOf_1 : decode to_floorOf.2.1 1 = .ok (.ifCond .lt 20, 3) := by decide +kernel
theorem d_to_floorOf_4 : decode to_floorOf.2.1 4 = .ok (.iload_n 1, 1) := by decide +kernel
theorem d_to_floorOf_5 : decode to_floorOf.2.1 5 = .ok (.aload_n 0, 1) := by decide +kernel
theorem d_to_floorOf_6 : decode to_floorOf.2.1 6 = .ok (.getfield 361, 3) := by decide +kernel
theorem d_to_floorOf_9 : decode to_floorOf.2.1 9 = .ok (.if_icmp .ge 12, 3) := by decide +kernel
theorem d_to_floorOf_12 : decode to_floorOf.2.1 12 = .ok (.aload_n 0, 1) := by decide +kernel
theorem d_to_floorOf_13 : decode to_floorOf.2.1 13 = .ok (.getfield 86, 3) := by decide +kernel
theorem d_to_floorOf_16 : decode to_floorOf.2.1 16 = .ok (.iload_n 1, 1) := by decide +kernel
theorem d_to_floorOf_17 : decode to_floorOf.2.1 17 = .ok (.aaload, 1) := by decide +kernel
theorem d_to_floorOf_18 : decode to_floorOf.2.1 18 = .ok (.goto 4, 3) := by decide +kernel
theorem d_to_floorOf_21 : decode to_floorOf.2.1 21 = .ok (.aconst_null, 1) := by decide +kernel
theorem d_to_floorOf_22 : decode to_floorOf.2.1 22 = .ok (.areturn, 1) := by decide +kernel
theorem d_to_place_0 : decode to_place.2.1 0 = .ok (.aload_n 0, 1) := by decide +kernel
theorem d_to_place_1 : decode to_place.2.1 1 = .ok (.iload_n 1, 1) := by decide +kernel
theorem d_to_place_2 : decode to_place.2.1 2 = .ok (.invokevirtual 366, 3) := by decide +kernel
theorem d_to_place_5 : decode to_place.2.1 5 = .ok (.astore 6, 2) := by decide +kernel
theorem d_to_place_7 : decode to_place.2.1 7 = .ok (.aload 6, 2) := by decide +kernel
theorem d_to_place_9 : decode to_place.2.1 9 = .ok (.ifnull 13, 3) := by decide +kernel
theorem d_to_place_12 : decode to_place.2.1 12 = .ok (.aload 6, 2) := by decide +kernel
theorem d_to_place_14 : decode to_place.2.1 14 = .ok (.iload_n 2, 1) := by decide +kernel
theorem d_to_place_15 : decode to_place.2.1 15 = .ok (.iload_n 3, 1) := by decide +kernel
theorem d_to_place_16 : decode to_place.2.1 16 = .ok (.invokevirtual 370, 3) := by decide +kernel
theorem d_to_place_19 : decode to_place.2.1 19 = .ok (.ifCond .ne 5, 3) := by decide +kernel
theorem d_to_place_22 : decode to_place.2.1 22 = .ok (.iconst 0, 1) := by decide +kernel
theorem d_to_place_23 : decode to_place.2.1 23 = .ok (.ireturn, 1) := by decide +kernel
theorem d_to_place_24 : decode to_place.2.1 24 = .ok (.iload 4, 2) := by decide +kernel
theorem d_to_place_26 : decode to_place.2.1 26 = .ok (.iconst (-1), 1) := by decide +kernel
theorem d_to_place_27 : decode to_place.2.1 27 = .ok (.if_icmp .eq 10, 3) := by decide +kernel
theorem d_to_place_30 : decode to_place.2.1 30 = .ok (.iload 4, 2) := by decide +kernel
theorem d_to_place_32 : decode to_place.2.1 32 = .ok (.bipush (-2), 2) := by decide +kernel
theorem d_to_place_34 : decode to_place.2.1 34 = .ok (.if_icmp .ne 14, 3) := by decide +kernel
theorem d_to_place_37 : decode to_place.2.1 37 = .ok (.aload 6, 2) := by decide +kernel
theorem d_to_place_39 : decode to_place.2.1 39 = .ok (.iload_n 2, 1) := by decide +kernel
theorem d_to_place_40 : decode to_place.2.1 40 = .ok (.iload_n 3, 1) := by decide +kernel
theorem d_to_place_41 : decode to_place.2.1 41 = .ok (.iload 4, 2) := by decide +kernel
theorem d_to_place_43 : decode to_place.2.1 43 = .ok (.invokevirtual 371, 3) := by decide +kernel
theorem d_to_place_46 : decode to_place.2.1 46 = .ok (.iconst 1, 1) := by decide +kernel
theorem d_to_place_47 : decode to_place.2.1 47 = .ok (.ireturn, 1) := by decide +kernel
theorem d_to_place_48 : decode to_place.2.1 48 = .ok (.aload_n 0, 1) := by decide +kernel
theorem d_to_place_49 : decode to_place.2.1 49 = .ok (.iload 4, 2) := by decide +kernel
theorem d_to_place_51 : decode to_place.2.1 51 = .ok (.iload 5, 2) := by decide +kernel
theorem d_to_place_53 : decode to_place.2.1 53 = .ok (.invokevirtual 180, 3) := by decide +kernel
theorem d_to_place_56 : decode to_place.2.1 56 = .ok (.ifCond .ne 5, 3) := by decide +kernel
theorem d_to_place_59 : decode to_place.2.1 59 = .ok (.iconst 0, 1) := by decide +kernel
theorem d_to_place_60 : decode to_place.2.1 60 = .ok (.ireturn, 1) := by decide +kernel
theorem d_to_place_61 : decode to_place.2.1 61 = .ok (.aload 6, 2) := by decide +kernel
theorem d_to_place_63 : decode to_place.2.1 63 = .ok (.iload_n 2, 1) := by decide +kernel
theorem d_to_place_64 : decode to_place.2.1 64 = .ok (.iload_n 3, 1) := by decide +kernel
theorem d_to_place_65 : decode to_place.2.1 65 = .ok (.bipush 8, 2) := by decide +kernel
theorem d_to_place_67 : decode to_place.2.1 67 = .ok (.iload 4, 2) := by decide +kernel
theorem d_to_place_69 : decode to_place.2.1 69 = .ok (.imul, 1) := by decide +kernel
theorem d_to_place_70 : decode to_place.2.1 70 = .ok (.aload_n 0, 1) := by decide +kernel
theorem d_to_place_71 : decode to_place.2.1 71 = .ok (.getfield 20, 3) := by decide +kernel
theorem d_to_place_74 : decode to_place.2.1 74 = .ok (.iload 4, 2) := by decide +kernel
theorem d_to_place_76 : decode to_place.2.1 76 = .ok (.iload 5, 2) := by decide +kernel
theorem d_to_place_78 : decode to_place.2.1 78 = .ok (.invokevirtual 117, 3) := by decide +kernel
theorem d_to_place_81 : decode to_place.2.1 81 = .ok (.iadd, 1) := by decide +kernel
theorem d_to_place_82 : decode to_place.2.1 82 = .ok (.invokevirtual 371, 3) := by decide +kernel
theorem d_to_place_85 : decode to_place.2.1 85 = .ok (.iconst 1, 1) := by decide +kernel
theorem d_to_place_86 : decode to_place.2.1 86 = .ok (.ireturn, 1) := by decide +kernel
theorem d_to_stock_0 : decode to_stock.2.1 0 = .ok (.aload_n 0, 1) := by decide +kernel
theorem d_to_stock_1 : decode to_stock.2.1 1 = .ok (.iload_n 1, 1) := by decide +kernel
theorem d_to_stock_2 : decode to_stock.2.1 2 = .ok (.invokevirtual 366, 3) := by decide +kernel
theorem d_to_stock_5 : decode to_stock.2.1 5 = .ok (.astore 4, 2) := by decide +kernel
theorem d_to_stock_7 : decode to_stock.2.1 7 = .ok (.aload 4, 2) := by decide +kernel
theorem d_to_stock_9 : decode to_stock.2.1 9 = .ok (.ifnull 24, 3) := by decide +kernel
theorem d_to_stock_12 : decode to_stock.2.1 12 = .ok (.aload_n 0, 1) := by decide +kernel
theorem d_to_stock_13 : decode to_stock.2.1 13 = .ok (.getfield 20, 3) := by decide +kernel
theorem d_to_stock_16 : decode to_stock.2.1 16 = .ok (.iload_n 2, 1) := by decide +kernel
theorem d_to_stock_17 : decode to_stock.2.1 17 = .ok (.invokevirtual 110, 3) := by decide +kernel
theorem d_to_stock_20 : decode to_stock.2.1 20 = .ok (.ifCond .eq 13, 3) := by decide +kernel
theorem d_to_stock_23 : decode to_stock.2.1 23 = .ok (.iload_n 3, 1) := by decide +kernel
theorem d_to_stock_24 : decode to_stock.2.1 24 = .ok (.ifCond .lt 9, 3) := by decide +kernel
theorem d_to_stock_27 : decode to_stock.2.1 27 = .ok (.iload_n 3, 1) := by decide +kernel
theorem d_to_stock_28 : decode to_stock.2.1 28 = .ok (.bipush 99, 2) := by decide +kernel
theorem d_to_stock_30 : decode to_stock.2.1 30 = .ok (.if_icmp .le 5, 3) := by decide +kernel
theorem d_to_stock_33 : decode to_stock.2.1 33 = .ok (.iconst 0, 1) := by decide +kernel
theorem d_to_stock_34 : decode to_stock.2.1 34 = .ok (.ireturn, 1) := by decide +kernel
theorem d_to_stock_35 : decode to_stock.2.1 35 = .ok (.aload 4, 2) := by decide +kernel
theorem d_to_stock_37 : decode to_stock.2.1 37 = .ok (.iload_n 2, 1) := by decide +kernel
theorem d_to_stock_38 : decode to_stock.2.1 38 = .ok (.iload_n 3, 1) := by decide +kernel
theorem d_to_stock_39 : decode to_stock.2.1 39 = .ok (.invokevirtual 374, 3) := by decide +kernel
theorem d_to_stock_42 : decode to_stock.2.1 42 = .ok (.iconst 1, 1) := by decide +kernel
theorem d_to_stock_43 : decode to_stock.2.1 43 = .ok (.ireturn, 1) := by decide +kernel
theorem d_to_fill_0 : decode to_fill.2.1 0 = .ok (.aload_n 0, 1) := by decide +kernel
theorem d_to_fill_1 : decode to_fill.2.1 1 = .ok (.iload_n 1, 1) := by decide +kernel
theorem d_to_fill_2 : decode to_fill.2.1 2 = .ok (.invokevirtual 366, 3) := by decide +kernel
theorem d_to_fill_5 : decode to_fill.2.1 5 = .ok (.astore_n 2, 1) := by decide +kernel
theorem d_to_fill_6 : decode to_fill.2.1 6 = .ok (.aload_n 2, 1) := by decide +kernel
theorem d_to_fill_7 : decode to_fill.2.1 7 = .ok (.ifnonnull 5, 3) := by decide +kernel
theorem d_to_fill_10 : decode to_fill.2.1 10 = .ok (.iconst (-1), 1) := by decide +kernel
theorem d_to_fill_11 : decode to_fill.2.1 11 = .ok (.ireturn, 1) := by decide +kernel
theorem d_to_fill_12 : decode to_fill.2.1 12 = .ok (.aload_n 0, 1) := by decide +kernel
theorem d_to_fill_13 : decode to_fill.2.1 13 = .ok (.getfield 35, 3) := by decide +kernel
theorem d_to_fill_16 : decode to_fill.2.1 16 = .ok (.aload_n 2, 1) := by decide +kernel
theorem d_to_fill_17 : decode to_fill.2.1 17 = .ok (.iconst 0, 1) := by decide +kernel
theorem d_to_fill_18 : decode to_fill.2.1 18 = .ok (.invokevirtual 377, 3) := by decide +kernel
theorem d_to_fill_21 : decode to_fill.2.1 21 = .ok (.aload_n 0, 1) := by decide +kernel
theorem d_to_fill_22 : decode to_fill.2.1 22 = .ok (.getfield 35, 3) := by decide +kernel
theorem d_to_fill_25 : decode to_fill.2.1 25 = .ok (.aload_n 2, 1) := by decide +kernel
theorem d_to_fill_26 : decode to_fill.2.1 26 = .ok (.iconst 1, 1) := by decide +kernel
theorem d_to_fill_27 : decode to_fill.2.1 27 = .ok (.invokevirtual 381, 3) := by decide +kernel
theorem d_to_fill_30 : decode to_fill.2.1 30 = .ok (.aload_n 0, 1) := by decide +kernel
theorem d_to_fill_31 : decode to_fill.2.1 31 = .ok (.getfield 35, 3) := by decide +kernel
theorem d_to_fill_34 : decode to_fill.2.1 34 = .ok (.getfield 385, 3) := by decide +kernel
theorem d_to_fill_37 : decode to_fill.2.1 37 = .ok (.ifCond .le 5, 3) := by decide +kernel
theorem d_to_fill_40 : decode to_fill.2.1 40 = .ok (.iconst 1, 1) := by decide +kernel
theorem d_to_fill_41 : decode to_fill.2.1 41 = .ok (.ireturn, 1) := by decide +kernel
theorem d_to_fill_42 : decode to_fill.2.1 42 = .ok (.aload_n 0, 1) := by decide +kernel
theorem d_to_fill_43 : decode to_fill.2.1 43 = .ok (.getfield 35, 3) := by decide +kernel
theorem d_to_fill_46 : decode to_fill.2.1 46 = .ok (.getfield 388, 3) := by decide +kernel
theorem d_to_fill_49 : decode to_fill.2.1 49 = .ok (.ifCond .eq 7, 3) := by decide +kernel
theorem d_to_fill_52 : decode to_fill.2.1 52 = .ok (.iconst 0, 1) := by decide +kernel
theorem d_to_fill_53 : decode to_fill.2.1 53 = .ok (.goto 4, 3) := by decide +kernel
theorem d_to_fill_56 : decode to_fill.2.1 56 = .ok (.iconst 2, 1) := by decide +kernel
theorem d_to_fill_57 : decode to_fill.2.1 57 = .ok (.ireturn, 1) := by decide +kernel
theorem d_to_fills_0 : decode to_fills.2.1 0 = .ok (.aload_n 0, 1) := by decide +kernel
theorem d_to_fills_1 : decode to_fills.2.1 1 = .ok (.iload_n 1, 1) := by decide +kernel
theorem d_to_fills_2 : decode to_fills.2.1 2 = .ok (.invokevirtual 366, 3) := by decide +kernel
theorem d_to_fills_5 : decode to_fills.2.1 5 = .ok (.astore_n 3, 1) := by decide +kernel
theorem d_to_fills_6 : decode to_fills.2.1 6 = .ok (.aload_n 3, 1) := by decide +kernel
theorem d_to_fills_7 : decode to_fills.2.1 7 = .ok (.ifnull 15, 3) := by decide +kernel
theorem d_to_fills_10 : decode to_fills.2.1 10 = .ok (.iload_n 2, 1) := by decide +kernel
theorem d_to_fills_11 : decode to_fills.2.1 11 = .ok (.iconst 1, 1) := by decide +kernel
theorem d_to_fills_12 : decode to_fills.2.1 12 = .ok (.if_icmp .lt 10, 3) := by decide +kernel
theorem d_to_fills_15 : decode to_fills.2.1 15 = .ok (.iload_n 2, 1) := by decide +kernel
theorem d_to_fills_16 : decode to_fills.2.1 16 = .ok (.sipush 1000, 3) := by decide +kernel
theorem d_to_fills_19 : decode to_fills.2.1 19 = .ok (.if_icmp .le 5, 3) := by decide +kernel
theorem d_to_fills_22 : decode to_fills.2.1 22 = .ok (.iconst (-1), 1) := by decide +kernel
theorem d_to_fills_23 : decode to_fills.2.1 23 = .ok (.ireturn, 1) := by decide +kernel
theorem d_to_fills_24 : decode to_fills.2.1 24 = .ok (.aload_n 0, 1) := by decide +kernel
theorem d_to_fills_25 : decode to_fills.2.1 25 = .ok (.getfield 35, 3) := by decide +kernel
theorem d_to_fills_28 : decode to_fills.2.1 28 = .ok (.aload_n 3, 1) := by decide +kernel
theorem d_to_fills_29 : decode to_fills.2.1 29 = .ok (.iconst 0, 1) := by decide +kernel
theorem d_to_fills_30 : decode to_fills.2.1 30 = .ok (.invokevirtual 377, 3) := by decide +kernel
theorem d_to_fills_33 : decode to_fills.2.1 33 = .ok (.aload_n 0, 1) := by decide +kernel
theorem d_to_fills_34 : decode to_fills.2.1 34 = .ok (.getfield 35, 3) := by decide +kernel
theorem d_to_fills_37 : decode to_fills.2.1 37 = .ok (.aload_n 3, 1) := by decide +kernel
theorem d_to_fills_38 : decode to_fills.2.1 38 = .ok (.iload_n 2, 1) := by decide +kernel
theorem d_to_fills_39 : decode to_fills.2.1 39 = .ok (.invokevirtual 381, 3) := by decide +kernel
theorem d_to_fills_42 : decode to_fills.2.1 42 = .ok (.aload_n 0, 1) := by decide +kernel
theorem d_to_fills_43 : decode to_fills.2.1 43 = .ok (.getfield 35, 3) := by decide +kernel
theorem d_to_fills_46 : decode to_fills.2.1 46 = .ok (.getfield 388, 3) := by decide +kernel
theorem d_to_fills_49 : decode to_fills.2.1 49 = .ok (.ifCond .eq 13, 3) := by decide +kernel
theorem d_to_fills_52 : decode to_fills.2.1 52 = .ok (.aload_n 0, 1) := by decide +kernel
theorem d_to_fills_53 : decode to_fills.2.1 53 = .ok (.getfield 35, 3) := by decide +kernel
theorem d_to_fills_56 : decode to_fills.2.1 56 = .ok (.getfield 385, 3) := by decide +kernel
theorem d_to_fills_59 : decode to_fills.2.1 59 = .ok (.goto 5, 3) := by decide +kernel
theorem d_to_fills_62 : decode to_fills.2.1 62 = .ok (.bipush (-2), 2) := by decide +kernel
theorem d_to_fills_64 : decode to_fills.2.1 64 = .ok (.ireturn, 1) := by decide +kernel
theorem d_to_cheapest_0 : decode to_cheapest.2.1 0 = .ok (.aload_n 0, 1) := by decide +kernel
theorem d_to_cheapest_1 : decode to_cheapest.2.1 1 = .ok (.iload_n 1, 1) := by decide +kernel
theorem d_to_cheapest_2 : decode to_cheapest.2.1 2 = .ok (.invokevirtual 366, 3) := by decide +kernel
theorem d_to_cheapest_5 : decode to_cheapest.2.1 5 = .ok (.astore_n 2, 1) := by decide +kernel
theorem d_to_cheapest_6 : decode to_cheapest.2.1 6 = .ok (.aload_n 2, 1) := by decide +kernel
theorem d_to_cheapest_7 : decode to_cheapest.2.1 7 = .ok (.ifnonnull 5, 3) := by decide +kernel
theorem d_to_cheapest_10 : decode to_cheapest.2.1 10 = .ok (.iconst (-1), 1) := by decide +kernel
theorem d_to_cheapest_11 : decode to_cheapest.2.1 11 = .ok (.ireturn, 1) := by decide +kernel
theorem d_to_cheapest_12 : decode to_cheapest.2.1 12 = .ok (.aload_n 0, 1) := by decide +kernel
theorem d_to_cheapest_13 : decode to_cheapest.2.1 13 = .ok (.getfield 35, 3) := by decide +kernel
theorem d_to_cheapest_16 : decode to_cheapest.2.1 16 = .ok (.aload_n 2, 1) := by decide +kernel
theorem d_to_cheapest_17 : decode to_cheapest.2.1 17 = .ok (.iconst 1, 1) := by decide +kernel
theorem d_to_cheapest_18 : decode to_cheapest.2.1 18 = .ok (.invokevirtual 377, 3) := by decide +kernel
theorem d_to_cheapest_21 : decode to_cheapest.2.1 21 = .ok (.aload_n 0, 1) := by decide +kernel
theorem d_to_cheapest_22 : decode to_cheapest.2.1 22 = .ok (.getfield 35, 3) := by decide +kernel
theorem d_to_cheapest_25 : decode to_cheapest.2.1 25 = .ok (.aload_n 2, 1) := by decide +kernel
theorem d_to_cheapest_26 : decode to_cheapest.2.1 26 = .ok (.ldc_w 392, 3) := by decide +kernel
theorem d_to_cheapest_29 : decode to_cheapest.2.1 29 = .ok (.invokevirtual 381, 3) := by decide +kernel
theorem d_to_cheapest_32 : decode to_cheapest.2.1 32 = .ok (.aload_n 0, 1) := by decide +kernel
theorem d_to_cheapest_33 : decode to_cheapest.2.1 33 = .ok (.getfield 35, 3) := by decide +kernel
theorem d_to_cheapest_36 : decode to_cheapest.2.1 36 = .ok (.getfield 388, 3) := by decide +kernel
theorem d_to_cheapest_39 : decode to_cheapest.2.1 39 = .ok (.ifCond .ne 6, 3) := by decide +kernel
theorem d_to_cheapest_42 : decode to_cheapest.2.1 42 = .ok (.bipush (-3), 2) := by decide +kernel
theorem d_to_cheapest_44 : decode to_cheapest.2.1 44 = .ok (.ireturn, 1) := by decide +kernel
theorem d_to_cheapest_45 : decode to_cheapest.2.1 45 = .ok (.aload_n 0, 1) := by decide +kernel
theorem d_to_cheapest_46 : decode to_cheapest.2.1 46 = .ok (.getfield 35, 3) := by decide +kernel
theorem d_to_cheapest_49 : decode to_cheapest.2.1 49 = .ok (.getfield 385, 3) := by decide +kernel
theorem d_to_cheapest_52 : decode to_cheapest.2.1 52 = .ok (.ifCond .le 13, 3) := by decide +kernel
theorem d_to_cheapest_55 : decode to_cheapest.2.1 55 = .ok (.aload_n 0, 1) := by decide +kernel
theorem d_to_cheapest_56 : decode to_cheapest.2.1 56 = .ok (.getfield 35, 3) := by decide +kernel
theorem d_to_cheapest_59 : decode to_cheapest.2.1 59 = .ok (.getfield 393, 3) := by decide +kernel
theorem d_to_cheapest_62 : decode to_cheapest.2.1 62 = .ok (.goto 5, 3) := by decide +kernel
theorem d_to_cheapest_65 : decode to_cheapest.2.1 65 = .ok (.bipush (-2), 2) := by decide +kernel
theorem d_to_cheapest_67 : decode to_cheapest.2.1 67 = .ok (.ireturn, 1) := by decide +kernel
theorem d_to_forced_0 : decode to_forced.2.1 0 = .ok (.aload_n 0, 1) := by decide +kernel
theorem d_to_forced_1 : decode to_forced.2.1 1 = .ok (.iload_n 1, 1) := by decide +kernel
theorem d_to_forced_2 : decode to_forced.2.1 2 = .ok (.invokevirtual 366, 3) := by decide +kernel
theorem d_to_forced_5 : decode to_forced.2.1 5 = .ok (.astore_n 2, 1) := by decide +kernel
theorem d_to_forced_6 : decode to_forced.2.1 6 = .ok (.aload_n 2, 1) := by decide +kernel
theorem d_to_forced_7 : decode to_forced.2.1 7 = .ok (.ifnonnull 5, 3) := by decide +kernel
theorem d_to_forced_10 : decode to_forced.2.1 10 = .ok (.iconst (-1), 1) := by decide +kernel
theorem d_to_forced_11 : decode to_forced.2.1 11 = .ok (.ireturn, 1) := by decide +kernel
theorem d_to_forced_12 : decode to_forced.2.1 12 = .ok (.aload_n 0, 1) := by decide +kernel
theorem d_to_forced_13 : decode to_forced.2.1 13 = .ok (.getfield 26, 3) := by decide +kernel
theorem d_to_forced_16 : decode to_forced.2.1 16 = .ok (.aload_n 2, 1) := by decide +kernel
theorem d_to_forced_17 : decode to_forced.2.1 17 = .ok (.invokevirtual 396, 3) := by decide +kernel
theorem d_to_forced_20 : decode to_forced.2.1 20 = .ok (.aload_n 0, 1) := by decide +kernel
theorem d_to_forced_21 : decode to_forced.2.1 21 = .ok (.getfield 26, 3) := by decide +kernel
theorem d_to_forced_24 : decode to_forced.2.1 24 = .ok (.invokevirtual 399, 3) := by decide +kernel
theorem d_to_forced_27 : decode to_forced.2.1 27 = .ok (.istore_n 3, 1) := by decide +kernel
theorem d_to_forced_28 : decode to_forced.2.1 28 = .ok (.aload_n 0, 1) := by decide +kernel
theorem d_to_forced_29 : decode to_forced.2.1 29 = .ok (.getfield 26, 3) := by decide +kernel
theorem d_to_forced_32 : decode to_forced.2.1 32 = .ok (.aload_n 2, 1) := by decide +kernel
theorem d_to_forced_33 : decode to_forced.2.1 33 = .ok (.invokevirtual 402, 3) := by decide +kernel
theorem d_to_forced_36 : decode to_forced.2.1 36 = .ok (.iload_n 3, 1) := by decide +kernel
theorem d_to_forced_37 : decode to_forced.2.1 37 = .ok (.ireturn, 1) := by decide +kernel
theorem d_to_shown_0 : decode to_shown.2.1 0 = .ok (.aload_n 0, 1) := by decide +kernel
theorem d_to_shown_1 : decode to_shown.2.1 1 = .ok (.iload_n 1, 1) := by decide +kernel
theorem d_to_shown_2 : decode to_shown.2.1 2 = .ok (.invokevirtual 366, 3) := by decide +kernel
theorem d_to_shown_5 : decode to_shown.2.1 5 = .ok (.astore 4, 2) := by decide +kernel
theorem d_to_shown_7 : decode to_shown.2.1 7 = .ok (.aload 4, 2) := by decide +kernel
theorem d_to_shown_9 : decode to_shown.2.1 9 = .ok (.ifnull 13, 3) := by decide +kernel
theorem d_to_shown_12 : decode to_shown.2.1 12 = .ok (.aload 4, 2) := by decide +kernel
theorem d_to_shown_14 : decode to_shown.2.1 14 = .ok (.iload_n 2, 1) := by decide +kernel
theorem d_to_shown_15 : decode to_shown.2.1 15 = .ok (.iload_n 3, 1) := by decide +kernel
theorem d_to_shown_16 : decode to_shown.2.1 16 = .ok (.invokevirtual 370, 3) := by decide +kernel
theorem d_to_shown_19 : decode to_shown.2.1 19 = .ok (.ifCond .ne 8, 3) := by decide +kernel
theorem d_to_shown_22 : decode to_shown.2.1 22 = .ok (.bipush (-2), 2) := by decide +kernel
theorem d_to_shown_24 : decode to_shown.2.1 24 = .ok (.goto 10, 3) := by decide +kernel
theorem d_to_shown_27 : decode to_shown.2.1 27 = .ok (.aload 4, 2) := by decide +kernel
theorem d_to_shown_29 : decode to_shown.2.1 29 = .ok (.iload_n 2, 1) := by decide +kernel
theorem d_to_shown_30 : decode to_shown.2.1 30 = .ok (.iload_n 3, 1) := by decide +kernel
theorem d_to_shown_31 : decode to_shown.2.1 31 = .ok (.invokevirtual 405, 3) := by decide +kernel
theorem d_to_shown_34 : decode to_shown.2.1 34 = .ok (.ireturn, 1) := by decide +kernel
theorem d_to_undo_0 : decode to_undo.2.1 0 = .ok (.aload_n 0, 1) := by decide +kernel
theorem d_to_undo_1 : decode to_undo.2.1 1 = .ok (.getfield 55, 3) := by decide +kernel
theorem d_to_undo_4 : decode to_undo.2.1 4 = .ok (.getfield 408, 3) := by decide +kernel
theorem d_to_undo_7 : decode to_undo.2.1 7 = .ok (.ifCond .ne 5, 3) := by decide +kernel
theorem d_to_undo_10 : decode to_undo.2.1 10 = .ok (.iconst (-1), 1) := by decide +kernel
theorem d_to_undo_11 : decode to_undo.2.1 11 = .ok (.ireturn, 1) := by decide +kernel
theorem d_to_undo_12 : decode to_undo.2.1 12 = .ok (.aload_n 0, 1) := by decide +kernel
theorem d_to_undo_13 : decode to_undo.2.1 13 = .ok (.aload_n 0, 1) := by decide +kernel
theorem d_to_undo_14 : decode to_undo.2.1 14 = .ok (.getfield 55, 3) := by decide +kernel
theorem d_to_undo_17 : decode to_undo.2.1 17 = .ok (.invokevirtual 411, 3) := by decide +kernel
theorem d_to_undo_20 : decode to_undo.2.1 20 = .ok (.invokevirtual 139, 3) := by decide +kernel
theorem d_to_undo_23 : decode to_undo.2.1 23 = .ok (.astore_n 1, 1) := by decide +kernel
theorem d_to_undo_24 : decode to_undo.2.1 24 = .ok (.aload_n 1, 1) := by decide +kernel
theorem d_to_undo_25 : decode to_undo.2.1 25 = .ok (.ifnull 11, 3) := by decide +kernel
theorem d_to_undo_28 : decode to_undo.2.1 28 = .ok (.aload_n 0, 1) := by decide +kernel
theorem d_to_undo_29 : decode to_undo.2.1 29 = .ok (.getfield 55, 3) := by decide +kernel
theorem d_to_undo_32 : decode to_undo.2.1 32 = .ok (.aload_n 1, 1) := by decide +kernel
theorem d_to_undo_33 : decode to_undo.2.1 33 = .ok (.invokevirtual 414, 3) := by decide +kernel
theorem d_to_undo_36 : decode to_undo.2.1 36 = .ok (.aload_n 0, 1) := by decide +kernel
theorem d_to_undo_37 : decode to_undo.2.1 37 = .ok (.getfield 55, 3) := by decide +kernel
theorem d_to_undo_40 : decode to_undo.2.1 40 = .ok (.getfield 408, 3) := by decide +kernel
theorem d_to_undo_43 : decode to_undo.2.1 43 = .ok (.ireturn, 1) := by decide +kernel
theorem d_to_about_0 : decode to_about.2.1 0 = .ok (.iload_n 1, 1) := by decide +kernel
theorem d_to_about_1 : decode to_about.2.1 1 = .ok (.tableswitch 114 0 8 #[51, 59, 64, 69, 74, 82, 90, 98, 106], 51) := by decide +kernel
theorem d_to_about_52 : decode to_about.2.1 52 = .ok (.aload_n 0, 1) := by decide +kernel
theorem d_to_about_53 : decode to_about.2.1 53 = .ok (.getfield 20, 3) := by decide +kernel
theorem d_to_about_56 : decode to_about.2.1 56 = .ok (.getfield 417, 3) := by decide +kernel
theorem d_to_about_59 : decode to_about.2.1 59 = .ok (.ireturn, 1) := by decide +kernel
theorem d_to_about_60 : decode to_about.2.1 60 = .ok (.aload_n 0, 1) := by decide +kernel
theorem d_to_about_61 : decode to_about.2.1 61 = .ok (.getfield 128, 3) := by decide +kernel
theorem d_to_about_64 : decode to_about.2.1 64 = .ok (.ireturn, 1) := by decide +kernel
theorem d_to_about_65 : decode to_about.2.1 65 = .ok (.aload_n 0, 1) := by decide +kernel
theorem d_to_about_66 : decode to_about.2.1 66 = .ok (.getfield 263, 3) := by decide +kernel
theorem d_to_about_69 : decode to_about.2.1 69 = .ok (.ireturn, 1) := by decide +kernel
theorem d_to_about_70 : decode to_about.2.1 70 = .ok (.aload_n 0, 1) := by decide +kernel
theorem d_to_about_71 : decode to_about.2.1 71 = .ok (.getfield 361, 3) := by decide +kernel
theorem d_to_about_74 : decode to_about.2.1 74 = .ok (.ireturn, 1) := by decide +kernel
theorem d_to_about_75 : decode to_about.2.1 75 = .ok (.aload_n 0, 1) := by decide +kernel
theorem d_to_about_76 : decode to_about.2.1 76 = .ok (.getfield 42, 3) := by decide +kernel
theorem d_to_about_79 : decode to_about.2.1 79 = .ok (.getfield 418, 3) := by decide +kernel
theorem d_to_about_82 : decode to_about.2.1 82 = .ok (.ireturn, 1) := by decide +kernel
theorem d_to_about_83 : decode to_about.2.1 83 = .ok (.aload_n 0, 1) := by decide +kernel
theorem d_to_about_84 : decode to_about.2.1 84 = .ok (.getfield 64, 3) := by decide +kernel
theorem d_to_about_87 : decode to_about.2.1 87 = .ok (.getfield 243, 3) := by decide +kernel
theorem d_to_about_90 : decode to_about.2.1 90 = .ok (.ireturn, 1) := by decide +kernel
theorem d_to_about_91 : decode to_about.2.1 91 = .ok (.aload_n 0, 1) := by decide +kernel
theorem d_to_about_92 : decode to_about.2.1 92 = .ok (.getfield 64, 3) := by decide +kernel
theorem d_to_about_95 : decode to_about.2.1 95 = .ok (.getfield 254, 3) := by decide +kernel
theorem d_to_about_98 : decode to_about.2.1 98 = .ok (.ireturn, 1) := by decide +kernel
theorem d_to_about_99 : decode to_about.2.1 99 = .ok (.aload_n 0, 1) := by decide +kernel
theorem d_to_about_100 : decode to_about.2.1 100 = .ok (.getfield 55, 3) := by decide +kernel
theorem d_to_about_103 : decode to_about.2.1 103 = .ok (.getfield 408, 3) := by decide +kernel
theorem d_to_about_106 : decode to_about.2.1 106 = .ok (.ireturn, 1) := by decide +kernel
theorem d_to_about_107 : decode to_about.2.1 107 = .ok (.aload_n 0, 1) := by decide +kernel
theorem d_to_about_108 : decode to_about.2.1 108 = .ok (.getfield 35, 3) := by decide +kernel
theorem d_to_about_111 : decode to_about.2.1 111 = .ok (.getfield 421, 3) := by decide +kernel
theorem d_to_about_114 : decode to_about.2.1 114 = .ok (.ireturn, 1) := by decide +kernel
theorem d_to_about_115 : decode to_about.2.1 115 = .ok (.iconst (-1), 1) := by decide +kernel
theorem d_to_about_116 : decode to_about.2.1 116 = .ok (.ireturn, 1) := by decide +kernel
theorem d_rm_init_0 : decode rm_init.2.1 0 = .ok (.aload_n 0, 1) := by decide +kernel
theorem d_rm_init_1 : decode rm_init.2.1 1 = .ok (.invokespecial 1, 3) := by decide +kernel
theorem d_rm_init_4 : decode rm_init.2.1 4 = .ok (.aload_n 0, 1) := by decide +kernel
theorem d_rm_init_5 : decode rm_init.2.1 5 = .ok (.bipush 40, 2) := by decide +kernel
theorem d_rm_init_7 : decode rm_init.2.1 7 = .ok (.newarray .int, 2) := by decide +kernel
theorem d_rm_init_9 : decode rm_init.2.1 9 = .ok (.putfield 7, 3) := by decide +kernel
theorem d_rm_init_12 : decode rm_init.2.1 12 = .ok (.aload_n 0, 1) := by decide +kernel
theorem d_rm_init_13 : decode rm_init.2.1 13 = .ok (.bipush 40, 2) := by decide +kernel
theorem d_rm_init_15 : decode rm_init.2.1 15 = .ok (.newarray .int, 2) := by decide +kernel
theorem d_rm_init_17 : decode rm_init.2.1 17 = .ok (.putfield 13, 3) := by decide +kernel
theorem d_rm_init_20 : decode rm_init.2.1 20 = .ok (.aload_n 0, 1) := by decide +kernel
theorem d_rm_init_21 : decode rm_init.2.1 21 = .ok (.bipush 40, 2) := by decide +kernel
theorem d_rm_init_23 : decode rm_init.2.1 23 = .ok (.newarray .int, 2) := by decide +kernel
theorem d_rm_init_25 : decode rm_init.2.1 25 = .ok (.putfield 16, 3) := by decide +kernel
theorem d_rm_init_28 : decode rm_init.2.1 28 = .ok (.aload_n 0, 1) := by decide +kernel
theorem d_rm_init_29 : decode rm_init.2.1 29 = .ok (.bipush 40, 2) := by decide +kernel
theorem d_rm_init_31 : decode rm_init.2.1 31 = .ok (.newarray .boolean, 2) := by decide +kernel
theorem d_rm_init_33 : decode rm_init.2.1 33 = .ok (.putfield 19, 3) := by decide +kernel
theorem d_rm_init_36 : decode rm_init.2.1 36 = .ok (.aload_n 0, 1) := by decide +kernel
theorem d_rm_init_37 : decode rm_init.2.1 37 = .ok (.bipush 40, 2) := by decide +kernel
theorem d_rm_init_39 : decode rm_init.2.1 39 = .ok (.newarray .long, 2) := by decide +kernel
theorem d_rm_init_41 : decode rm_init.2.1 41 = .ok (.putfield 23, 3) := by decide +kernel
theorem d_rm_init_44 : decode rm_init.2.1 44 = .ok (.aload_n 0, 1) := by decide +kernel
theorem d_rm_init_45 : decode rm_init.2.1 45 = .ok (.sipush 6000, 3) := by decide +kernel
theorem d_rm_init_48 : decode rm_init.2.1 48 = .ok (.newarray .int, 2) := by decide +kernel
theorem d_rm_init_50 : decode rm_init.2.1 50 = .ok (.putfield 27, 3) := by decide +kernel
theorem d_rm_init_53 : decode rm_init.2.1 53 = .ok (.aload_n 0, 1) := by decide +kernel
theorem d_rm_init_54 : decode rm_init.2.1 54 = .ok (.sipush 6000, 3) := by decide +kernel
theorem d_rm_init_57 : decode rm_init.2.1 57 = .ok (.newarray .int, 2) := by decide +kernel
theorem d_rm_init_59 : decode rm_init.2.1 59 = .ok (.putfield 30, 3) := by decide +kernel
theorem d_rm_init_62 : decode rm_init.2.1 62 = .ok (.aload_n 0, 1) := by decide +kernel
theorem d_rm_init_63 : decode rm_init.2.1 63 = .ok (.ldc 33, 2) := by decide +kernel
theorem d_rm_init_65 : decode rm_init.2.1 65 = .ok (.newarray .int, 2) := by decide +kernel
theorem d_rm_init_67 : decode rm_init.2.1 67 = .ok (.putfield 34, 3) := by decide +kernel
theorem d_rm_init_70 : decode rm_init.2.1 70 = .ok (.aload_n 0, 1) := by decide +kernel
theorem d_rm_init_71 : decode rm_init.2.1 71 = .ok (.sipush 960, 3) := by decide +kernel
theorem d_rm_init_74 : decode rm_init.2.1 74 = .ok (.newarray .int, 2) := by decide +kernel
theorem d_rm_init_76 : decode rm_init.2.1 76 = .ok (.putfield 37, 3) := by decide +kernel
theorem d_rm_init_79 : decode rm_init.2.1 79 = .ok (.aload_n 0, 1) := by decide +kernel
theorem d_rm_init_80 : decode rm_init.2.1 80 = .ok (.bipush 16, 2) := by decide +kernel
theorem d_rm_init_82 : decode rm_init.2.1 82 = .ok (.newarray .int, 2) := by decide +kernel
theorem d_rm_init_84 : decode rm_init.2.1 84 = .ok (.putfield 40, 3) := by decide +kernel
theorem d_rm_init_87 : decode rm_init.2.1 87 = .ok (.aload_n 0, 1) := by decide +kernel
theorem d_rm_init_88 : decode rm_init.2.1 88 = .ok (.bipush 40, 2) := by decide +kernel
theorem d_rm_init_90 : decode rm_init.2.1 90 = .ok (.newarray .int, 2) := by decide +kernel
theorem d_rm_init_92 : decode rm_init.2.1 92 = .ok (.putfield 43, 3) := by decide +kernel
theorem d_rm_init_95 : decode rm_init.2.1 95 = .ok (.aload_n 0, 1) := by decide +kernel
theorem d_rm_init_96 : decode rm_init.2.1 96 = .ok (.bipush 40, 2) := by decide +kernel
theorem d_rm_init_98 : decode rm_init.2.1 98 = .ok (.newarray .int, 2) := by decide +kernel
theorem d_rm_init_100 : decode rm_init.2.1 100 = .ok (.putfield 46, 3) := by decide +kernel
theorem d_rm_init_103 : decode rm_init.2.1 103 = .ok (.aload_n 0, 1) := by decide +kernel
theorem d_rm_init_104 : decode rm_init.2.1 104 = .ok (.sipush 2400, 3) := by decide +kernel
theorem d_rm_init_107 : decode rm_init.2.1 107 = .ok (.newarray .int, 2) := by decide +kernel
theorem d_rm_init_109 : decode rm_init.2.1 109 = .ok (.putfield 49, 3) := by decide +kernel
theorem d_rm_init_112 : decode rm_init.2.1 112 = .ok (.aload_n 0, 1) := by decide +kernel
theorem d_rm_init_113 : decode rm_init.2.1 113 = .ok (.sipush 400, 3) := by decide +kernel
theorem d_rm_init_116 : decode rm_init.2.1 116 = .ok (.newarray .int, 2) := by decide +kernel
theorem d_rm_init_118 : decode rm_init.2.1 118 = .ok (.putfield 52, 3) := by decide +kernel
theorem d_rm_init_121 : decode rm_init.2.1 121 = .ok (.aload_n 0, 1) := by decide +kernel
theorem d_rm_init_122 : decode rm_init.2.1 122 = .ok (.sipush 400, 3) := by decide +kernel
theorem d_rm_init_125 : decode rm_init.2.1 125 = .ok (.newarray .int, 2) := by decide +kernel
theorem d_rm_init_127 : decode rm_init.2.1 127 = .ok (.putfield 55, 3) := by decide +kernel
theorem d_rm_init_130 : decode rm_init.2.1 130 = .ok (.aload_n 0, 1) := by decide +kernel
theorem d_rm_init_131 : decode rm_init.2.1 131 = .ok (.sipush 400, 3) := by decide +kernel
theorem d_rm_init_134 : decode rm_init.2.1 134 = .ok (.newarray .boolean, 2) := by decide +kernel
theorem d_rm_init_136 : decode rm_init.2.1 136 = .ok (.putfield 58, 3) := by decide +kernel
theorem d_rm_init_139 : decode rm_init.2.1 139 = .ok (.aload_n 0, 1) := by decide +kernel
theorem d_rm_init_140 : decode rm_init.2.1 140 = .ok (.sipush 400, 3) := by decide +kernel
theorem d_rm_init_143 : decode rm_init.2.1 143 = .ok (.newarray .boolean, 2) := by decide +kernel
theorem d_rm_init_145 : decode rm_init.2.1 145 = .ok (.putfield 61, 3) := by decide +kernel
theorem d_rm_init_148 : decode rm_init.2.1 148 = .ok (.aload_n 0, 1) := by decide +kernel
theorem d_rm_init_149 : decode rm_init.2.1 149 = .ok (.bipush 8, 2) := by decide +kernel
theorem d_rm_init_151 : decode rm_init.2.1 151 = .ok (.newarray .int, 2) := by decide +kernel
theorem d_rm_init_153 : decode rm_init.2.1 153 = .ok (.putfield 64, 3) := by decide +kernel
theorem d_rm_init_156 : decode rm_init.2.1 156 = .ok (.aload_n 0, 1) := by decide +kernel
theorem d_rm_init_157 : decode rm_init.2.1 157 = .ok (.bipush 8, 2) := by decide +kernel
theorem d_rm_init_159 : decode rm_init.2.1 159 = .ok (.newarray .int, 2) := by decide +kernel
theorem d_rm_init_161 : decode rm_init.2.1 161 = .ok (.putfield 67, 3) := by decide +kernel
theorem d_rm_init_164 : decode rm_init.2.1 164 = .ok (.aload_n 0, 1) := by decide +kernel
theorem d_rm_init_165 : decode rm_init.2.1 165 = .ok (.sipush 5120, 3) := by decide +kernel
theorem d_rm_init_168 : decode rm_init.2.1 168 = .ok (.newarray .int, 2) := by decide +kernel
theorem d_rm_init_170 : decode rm_init.2.1 170 = .ok (.putfield 70, 3) := by decide +kernel
theorem d_rm_init_173 : decode rm_init.2.1 173 = .ok (.aload_n 0, 1) := by decide +kernel
theorem d_rm_init_174 : decode rm_init.2.1 174 = .ok (.sipush 7200, 3) := by decide +kernel
theorem d_rm_init_177 : decode rm_init.2.1 177 = .ok (.newarray .int, 2) := by decide +kernel
theorem d_rm_init_179 : decode rm_init.2.1 179 = .ok (.putfield 73, 3) := by decide +kernel
theorem d_rm_init_182 : decode rm_init.2.1 182 = .ok (.aload_n 0, 1) := by decide +kernel
theorem d_rm_init_183 : decode rm_init.2.1 183 = .ok (.bipush 120, 2) := by decide +kernel
theorem d_rm_init_185 : decode rm_init.2.1 185 = .ok (.newarray .int, 2) := by decide +kernel
theorem d_rm_init_187 : decode rm_init.2.1 187 = .ok (.putfield 76, 3) := by decide +kernel
theorem d_rm_init_190 : decode rm_init.2.1 190 = .ok (.aload_n 0, 1) := by decide +kernel
theorem d_rm_init_191 : decode rm_init.2.1 191 = .ok (.bipush 120, 2) := by decide +kernel
theorem d_rm_init_193 : decode rm_init.2.1 193 = .ok (.newarray .int, 2) := by decide +kernel
theorem d_rm_init_195 : decode rm_init.2.1 195 = .ok (.putfield 79, 3) := by decide +kernel
theorem d_rm_init_198 : decode rm_init.2.1 198 = .ok (.aload_n 0, 1) := by decide +kernel
theorem d_rm_init_199 : decode rm_init.2.1 199 = .ok (.bipush 40, 2) := by decide +kernel
theorem d_rm_init_201 : decode rm_init.2.1 201 = .ok (.newarray .long, 2) := by decide +kernel
theorem d_rm_init_203 : decode rm_init.2.1 203 = .ok (.putfield 82, 3) := by decide +kernel
theorem d_rm_init_206 : decode rm_init.2.1 206 = .ok (.aload_n 0, 1) := by decide +kernel
theorem d_rm_init_207 : decode rm_init.2.1 207 = .ok (.bipush 40, 2) := by decide +kernel
theorem d_rm_init_209 : decode rm_init.2.1 209 = .ok (.newarray .long, 2) := by decide +kernel
theorem d_rm_init_211 : decode rm_init.2.1 211 = .ok (.putfield 85, 3) := by decide +kernel
theorem d_rm_init_214 : decode rm_init.2.1 214 = .ok (.aload_n 0, 1) := by decide +kernel
theorem d_rm_init_215 : decode rm_init.2.1 215 = .ok (.bipush 6, 2) := by decide +kernel
theorem d_rm_init_217 : decode rm_init.2.1 217 = .ok (.newarray .int, 2) := by decide +kernel
theorem d_rm_init_219 : decode rm_init.2.1 219 = .ok (.putfield 88, 3) := by decide +kernel
theorem d_rm_init_222 : decode rm_init.2.1 222 = .ok (.aload_n 0, 1) := by decide +kernel
theorem d_rm_init_223 : decode rm_init.2.1 223 = .ok (.bipush 6, 2) := by decide +kernel
theorem d_rm_init_225 : decode rm_init.2.1 225 = .ok (.newarray .int, 2) := by decide +kernel
theorem d_rm_init_227 : decode rm_init.2.1 227 = .ok (.putfield 91, 3) := by decide +kernel
theorem d_rm_init_230 : decode rm_init.2.1 230 = .ok (.aload_n 0, 1) := by decide +kernel
theorem d_rm_init_231 : decode rm_init.2.1 231 = .ok (.sipush 384, 3) := by decide +kernel
theorem d_rm_init_234 : decode rm_init.2.1 234 = .ok (.newarray .int, 2) := by decide +kernel
theorem d_rm_init_236 : decode rm_init.2.1 236 = .ok (.putfield 94, 3) := by decide +kernel
theorem d_rm_init_239 : decode rm_init.2.1 239 = .ok (.aload_n 0, 1) := by decide +kernel
theorem d_rm_init_240 : decode rm_init.2.1 240 = .ok (.sipush 384, 3) := by decide +kernel
theorem d_rm_init_243 : decode rm_init.2.1 243 = .ok (.newarray .int, 2) := by decide +kernel
theorem d_rm_init_245 : decode rm_init.2.1 245 = .ok (.putfield 97, 3) := by decide +kernel
theorem d_rm_init_248 : decode rm_init.2.1 248 = .ok (.aload_n 0, 1) := by decide +kernel
theorem d_rm_init_249 : decode rm_init.2.1 249 = .ok (.sipush 240, 3) := by decide +kernel
theorem d_rm_init_252 : decode rm_init.2.1 252 = .ok (.newarray .int, 2) := by decide +kernel
theorem d_rm_init_254 : decode rm_init.2.1 254 = .ok (.putfield 100, 3) := by decide +kernel
theorem d_rm_init_257 : decode rm_init.2.1 257 = .ok (.aload_n 0, 1) := by decide +kernel
theorem d_rm_init_258 : decode rm_init.2.1 258 = .ok (.bipush 64, 2) := by decide +kernel
theorem d_rm_init_260 : decode rm_init.2.1 260 = .ok (.newarray .int, 2) := by decide +kernel
theorem d_rm_init_262 : decode rm_init.2.1 262 = .ok (.putfield 103, 3) := by decide +kernel
theorem d_rm_init_265 : decode rm_init.2.1 265 = .ok (.aload_n 0, 1) := by decide +kernel
theorem d_rm_init_266 : decode rm_init.2.1 266 = .ok (.bipush 40, 2) := by decide +kernel
theorem d_rm_init_268 : decode rm_init.2.1 268 = .ok (.newarray .int, 2) := by decide +kernel
theorem d_rm_init_270 : decode rm_init.2.1 270 = .ok (.putfield 106, 3) := by decide +kernel
theorem d_rm_init_273 : decode rm_init.2.1 273 = .ok (.aload_n 0, 1) := by decide +kernel
theorem d_rm_init_274 : decode rm_init.2.1 274 = .ok (.bipush 64, 2) := by decide +kernel
theorem d_rm_init_276 : decode rm_init.2.1 276 = .ok (.newarray .int, 2) := by decide +kernel
theorem d_rm_init_278 : decode rm_init.2.1 278 = .ok (.putfield 109, 3) := by decide +kernel
theorem d_rm_init_281 : decode rm_init.2.1 281 = .ok (.aload_n 0, 1) := by decide +kernel
theorem d_rm_init_282 : decode rm_init.2.1 282 = .ok (.bipush 65, 2) := by decide +kernel
theorem d_rm_init_284 : decode rm_init.2.1 284 = .ok (.newarray .int, 2) := by decide +kernel
theorem d_rm_init_286 : decode rm_init.2.1 286 = .ok (.putfield 112, 3) := by decide +kernel
theorem d_rm_init_289 : decode rm_init.2.1 289 = .ok (.aload_n 0, 1) := by decide +kernel
theorem d_rm_init_290 : decode rm_init.2.1 290 = .ok (.bipush 65, 2) := by decide +kernel
theorem d_rm_init_292 : decode rm_init.2.1 292 = .ok (.newarray .int, 2) := by decide +kernel
theorem d_rm_init_294 : decode rm_init.2.1 294 = .ok (.putfield 115, 3) := by decide +kernel
theorem d_rm_init_297 : decode rm_init.2.1 297 = .ok (.return_, 1) := by decide +kernel
theorem d_rm_plain_0 : decode rm_plain.2.1 0 = .ok (.lconst 0, 1) := by decide +kernel
theorem d_rm_plain_1 : decode rm_plain.2.1 1 = .ok (.lstore_n 2, 1) := by decide +kernel
theorem d_rm_plain_2 : decode rm_plain.2.1 2 = .ok (.bipush 56, 2) := by decide +kernel
theorem d_rm_plain_4 : decode rm_plain.2.1 4 = .ok (.istore 4, 2) := by decide +kernel
theorem d_rm_plain_6 : decode rm_plain.2.1 6 = .ok (.iload 4, 2) := by decide +kernel
theorem d_rm_plain_8 : decode rm_plain.2.1 8 = .ok (.ifCond .lt 57, 3) := by decide +kernel
theorem d_rm_plain_11 : decode rm_plain.2.1 11 = .ok (.lload_n 0, 1) := by decide +kernel
theorem d_rm_plain_12 : decode rm_plain.2.1 12 = .ok (.iload 4, 2) := by decide +kernel
theorem d_rm_plain_14 : decode rm_plain.2.1 14 = .ok (.lshr, 1) := by decide +kernel
theorem d_rm_plain_15 : decode rm_plain.2.1 15 = .ok (.ldc2_w 118, 3) := by decide +kernel
theorem d_rm_plain_18 : decode rm_plain.2.1 18 = .ok (.land, 1) := by decide +kernel
theorem d_rm_plain_19 : decode rm_plain.2.1 19 = .ok (.lstore 5, 2) := by decide +kernel
theorem d_rm_plain_21 : decode rm_plain.2.1 21 = .ok (.lload 5, 2) := by decide +kernel
theorem d_rm_plain_23 : decode rm_plain.2.1 23 = .ok (.lconst 0, 1) := by decide +kernel
theorem d_rm_plain_24 : decode rm_plain.2.1 24 = .ok (.lcmp, 1) := by decide +kernel
theorem d_rm_plain_25 : decode rm_plain.2.1 25 = .ok (.ifCond .ne 6, 3) := by decide +kernel
theorem d_rm_plain_28 : decode rm_plain.2.1 28 = .ok (.goto 31, 3) := by decide +kernel
theorem d_rm_plain_31 : decode rm_plain.2.1 31 = .ok (.lload 5, 2) := by decide +kernel
theorem d_rm_plain_33 : decode rm_plain.2.1 33 = .ok (.ldc2_w 120, 3) := by decide +kernel
theorem d_rm_plain_36 : decode rm_plain.2.1 36 = .ok (.lcmp, 1) := by decide +kernel
theorem d_rm_plain_37 : decode rm_plain.2.1 37 = .ok (.ifCond .lt 12, 3) := by decide +kernel
theorem d_rm_plain_40 : decode rm_plain.2.1 40 = .ok (.lload 5, 2) := by decide +kernel
theorem d_rm_plain_42 : decode rm_plain.2.1 42 = .ok (.ldc2_w 122, 3) := by decide +kernel
theorem d_rm_plain_45 : decode rm_plain.2.1 45 = .ok (.lcmp, 1) := by decide +kernel
theorem d_rm_plain_46 : decode rm_plain.2.1 46 = .ok (.ifCond .le 5, 3) := by decide +kernel
theorem d_rm_plain_49 : decode rm_plain.2.1 49 = .ok (.lconst 0, 1) := by decide +kernel
theorem d_rm_plain_50 : decode rm_plain.2.1 50 = .ok (.lreturn, 1) := by decide +kernel
theorem d_rm_plain_51 : decode rm_plain.2.1 51 = .ok (.lload_n 2, 1) := by decide +kernel
theorem d_rm_plain_52 : decode rm_plain.2.1 52 = .ok (.bipush 8, 2) := by decide +kernel
theorem d_rm_plain_54 : decode rm_plain.2.1 54 = .ok (.lshl, 1) := by decide +kernel
theorem d_rm_plain_55 : decode rm_plain.2.1 55 = .ok (.lload 5, 2) := by decide +kernel
theorem d_rm_plain_57 : decode rm_plain.2.1 57 = .ok (.lor, 1) := by decide +kernel
theorem d_rm_plain_58 : decode rm_plain.2.1 58 = .ok (.lstore_n 2, 1) := by decide +kernel
theorem d_rm_plain_59 : decode rm_plain.2.1 59 = .ok (.iinc 4 (-8), 3) := by decide +kernel
theorem d_rm_plain_62 : decode rm_plain.2.1 62 = .ok (.goto (-56), 3) := by decide +kernel
theorem d_rm_plain_65 : decode rm_plain.2.1 65 = .ok (.lload_n 2, 1) := by decide +kernel
theorem d_rm_plain_66 : decode rm_plain.2.1 66 = .ok (.lreturn, 1) := by decide +kernel
theorem d_rm_kind_0 : decode rm_kind.2.1 0 = .ok (.lload 5, 2) := by decide +kernel
theorem d_rm_kind_2 : decode rm_kind.2.1 2 = .ok (.invokestatic 124, 3) := by decide +kernel
theorem d_rm_kind_5 : decode rm_kind.2.1 5 = .ok (.lstore 7, 2) := by decide +kernel
theorem d_rm_kind_7 : decode rm_kind.2.1 7 = .ok (.iload_n 1, 1) := by decide +kernel
theorem d_rm_kind_8 : decode rm_kind.2.1 8 = .ok (.bipush 15, 2) := by decide +kernel
theorem d_rm_kind_10 : decode rm_kind.2.1 10 = .ok (.iand, 1) := by decide +kernel
theorem d_rm_kind_11 : decode rm_kind.2.1 11 = .ok (.istore 9, 2) := by decide +kernel
theorem d_rm_kind_13 : decode rm_kind.2.1 13 = .ok (.aload_n 0, 1) := by decide +kernel
theorem d_rm_kind_14 : decode rm_kind.2.1 14 = .ok (.getfield 128, 3) := by decide +kernel
theorem d_rm_kind_17 : decode rm_kind.2.1 17 = .ok (.bipush 40, 2) := by decide +kernel
theorem d_rm_kind_19 : decode rm_kind.2.1 19 = .ok (.if_icmp .ge 49, 3) := by decide +kernel
theorem d_rm_kind_22 : decode rm_kind.2.1 22 = .ok (.iload_n 1, 1) := by decide +kernel
theorem d_rm_kind_23 : decode rm_kind.2.1 23 = .ok (.ldc 132, 2) := by decide +kernel
theorem d_rm_kind_25 : decode rm_kind.2.1 25 = .ok (.iand, 1) := by decide +kernel
theorem d_rm_kind_26 : decode rm_kind.2.1 26 = .ok (.ifCond .ne 42, 3) := by decide +kernel
theorem d_rm_kind_29 : decode rm_kind.2.1 29 = .ok (.iload_n 2, 1) := by decide +kernel
theorem d_rm_kind_30 : decode rm_kind.2.1 30 = .ok (.iconst 1, 1) := by decide +kernel
theorem d_rm_kind_31 : decode rm_kind.2.1 31 = .ok (.if_icmp .eq 13, 3) := by decide +kernel
theorem d_rm_kind_34 : decode rm_kind.2.1 34 = .ok (.iload_n 2, 1) := by decide +kernel
theorem d_rm_kind_35 : decode rm_kind.2.1 35 = .ok (.iconst 2, 1) := by decide +kernel
theorem d_rm_kind_36 : decode rm_kind.2.1 36 = .ok (.if_icmp .eq 8, 3) := by decide +kernel
theorem d_rm_kind_39 : decode rm_kind.2.1 39 = .ok (.iload_n 2, 1) := by decide +kernel
theorem d_rm_kind_40 : decode rm_kind.2.1 40 = .ok (.iconst 4, 1) := by decide +kernel
theorem d_rm_kind_41 : decode rm_kind.2.1 41 = .ok (.if_icmp .ne 27, 3) := by decide +kernel
theorem d_rm_kind_44 : decode rm_kind.2.1 44 = .ok (.iload 4, 2) := by decide +kernel
theorem d_rm_kind_46 : decode rm_kind.2.1 46 = .ok (.ifCond .lt 22, 3) := by decide +kernel
theorem d_rm_kind_49 : decode rm_kind.2.1 49 = .ok (.iload 4, 2) := by decide +kernel
theorem d_rm_kind_51 : decode rm_kind.2.1 51 = .ok (.sipush 1000, 3) := by decide +kernel
theorem d_rm_kind_54 : decode rm_kind.2.1 54 = .ok (.if_icmp .gt 14, 3) := by decide +kernel
theorem d_rm_kind_57 : decode rm_kind.2.1 57 = .ok (.lload 7, 2) := by decide +kernel
theorem d_rm_kind_59 : decode rm_kind.2.1 59 = .ok (.lconst 0, 1) := by decide +kernel
theorem d_rm_kind_60 : decode rm_kind.2.1 60 = .ok (.lcmp, 1) := by decide +kernel
theorem d_rm_kind_61 : decode rm_kind.2.1 61 = .ok (.ifCond .eq 7, 3) := by decide +kernel
theorem d_rm_kind_64 : decode rm_kind.2.1 64 = .ok (.iconst 1, 1) := by decide +kernel
theorem d_rm_kind_65 : decode rm_kind.2.1 65 = .ok (.goto 4, 3) := by decide +kernel
theorem d_rm_kind_68 : decode rm_kind.2.1 68 = .ok (.iconst 0, 1) := by decide +kernel
theorem d_rm_kind_69 : decode rm_kind.2.1 69 = .ok (.istore 10, 2) := by decide +kernel
theorem d_rm_kind_71 : decode rm_kind.2.1 71 = .ok (.iload_n 2, 1) := by decide +kernel
theorem d_rm_kind_72 : decode rm_kind.2.1 72 = .ok (.iconst 1, 1) := by decide +kernel
theorem d_rm_kind_73 : decode rm_kind.2.1 73 = .ok (.if_icmp .ne 25, 3) := by decide +kernel
theorem d_rm_kind_76 : decode rm_kind.2.1 76 = .ok (.iload 10, 2) := by decide +kernel
theorem d_rm_kind_78 : decode rm_kind.2.1 78 = .ok (.ifCond .eq 17, 3) := by decide +kernel
theorem d_rm_kind_81 : decode rm_kind.2.1 81 = .ok (.iload_n 1, 1) := by decide +kernel
theorem d_rm_kind_82 : decode rm_kind.2.1 82 = .ok (.iload 9, 2) := by decide +kernel
theorem d_rm_kind_84 : decode rm_kind.2.1 84 = .ok (.sipush 4369, 3) := by decide +kernel
theorem d_rm_kind_87 : decode rm_kind.2.1 87 = .ok (.imul, 1) := by decide +kernel
theorem d_rm_kind_88 : decode rm_kind.2.1 88 = .ok (.if_icmp .ne 7, 3) := by decide +kernel
theorem d_rm_kind_91 : decode rm_kind.2.1 91 = .ok (.iconst 1, 1) := by decide +kernel
theorem d_rm_kind_92 : decode rm_kind.2.1 92 = .ok (.goto 4, 3) := by decide +kernel
theorem d_rm_kind_95 : decode rm_kind.2.1 95 = .ok (.iconst 0, 1) := by decide +kernel
theorem d_rm_kind_96 : decode rm_kind.2.1 96 = .ok (.istore 10, 2) := by decide +kernel
theorem d_rm_kind_98 : decode rm_kind.2.1 98 = .ok (.iload_n 2, 1) := by decide +kernel
theorem d_rm_kind_99 : decode rm_kind.2.1 99 = .ok (.iconst 2, 1) := by decide +kernel
theorem d_rm_kind_100 : decode rm_kind.2.1 100 = .ok (.if_icmp .ne 27, 3) := by decide +kernel
theorem d_rm_kind_103 : decode rm_kind.2.1 103 = .ok (.iload 10, 2) := by decide +kernel
theorem d_rm_kind_105 : decode rm_kind.2.1 105 = .ok (.ifCond .eq 19, 3) := by decide +kernel
theorem d_rm_kind_108 : decode rm_kind.2.1 108 = .ok (.iload_n 1, 1) := by decide +kernel
theorem d_rm_kind_109 : decode rm_kind.2.1 109 = .ok (.sipush 255, 3) := by decide +kernel
theorem d_rm_kind_112 : decode rm_kind.2.1 112 = .ok (.iand, 1) := by decide +kernel
theorem d_rm_kind_113 : decode rm_kind.2.1 113 = .ok (.iload_n 1, 1) := by decide +kernel
theorem d_rm_kind_114 : decode rm_kind.2.1 114 = .ok (.bipush 8, 2) := by decide +kernel
theorem d_rm_kind_116 : decode rm_kind.2.1 116 = .ok (.ishr, 1) := by decide +kernel
theorem d_rm_kind_117 : decode rm_kind.2.1 117 = .ok (.if_icmp .ne 7, 3) := by decide +kernel
theorem d_rm_kind_120 : decode rm_kind.2.1 120 = .ok (.iconst 1, 1) := by decide +kernel
theorem d_rm_kind_121 : decode rm_kind.2.1 121 = .ok (.goto 4, 3) := by decide +kernel
theorem d_rm_kind_124 : decode rm_kind.2.1 124 = .ok (.iconst 0, 1) := by decide +kernel
theorem d_rm_kind_125 : decode rm_kind.2.1 125 = .ok (.istore 10, 2) := by decide +kernel
theorem d_rm_kind_127 : decode rm_kind.2.1 127 = .ok (.iload 10, 2) := by decide +kernel
theorem d_rm_kind_129 : decode rm_kind.2.1 129 = .ok (.ifCond .eq 12, 3) := by decide +kernel
theorem d_rm_kind_132 : decode rm_kind.2.1 132 = .ok (.aload_n 0, 1) := by decide +kernel
theorem d_rm_kind_133 : decode rm_kind.2.1 133 = .ok (.lload 5, 2) := by decide +kernel
theorem d_rm_kind_135 : decode rm_kind.2.1 135 = .ok (.invokevirtual 133, 3) := by decide +kernel
theorem d_rm_kind_138 : decode rm_kind.2.1 138 = .ok (.ifCond .lt 5, 3) := by decide +kernel
theorem d_rm_kind_141 : decode rm_kind.2.1 141 = .ok (.iconst (-1), 1) := by decide +kernel
theorem d_rm_kind_142 : decode rm_kind.2.1 142 = .ok (.ireturn, 1) := by decide +kernel
theorem d_rm_kind_143 : decode rm_kind.2.1 143 = .ok (.aload_n 0, 1) := by decide +kernel
theorem d_rm_kind_144 : decode rm_kind.2.1 144 = .ok (.getfield 7, 3) := by decide +kernel
theorem d_rm_kind_147 : decode rm_kind.2.1 147 = .ok (.aload_n 0, 1) := by decide +kernel
theorem d_rm_kind_148 : decode rm_kind.2.1 148 = .ok (.getfield 128, 3) := by decide +kernel
theorem d_rm_kind_151 : decode rm_kind.2.1 151 = .ok (.iload_n 1, 1) := by decide +kernel
theorem d_rm_kind_152 : decode rm_kind.2.1 152 = .ok (.iastore, 1) := by decide +kernel
theorem d_rm_kind_153 : decode rm_kind.2.1 153 = .ok (.aload_n 0, 1) := by decide +kernel
theorem d_rm_kind_154 : decode rm_kind.2.1 154 = .ok (.getfield 13, 3) := by decide +kernel
theorem d_rm_kind_157 : decode rm_kind.2.1 157 = .ok (.aload_n 0, 1) := by decide +kernel
theorem d_rm_kind_158 : decode rm_kind.2.1 158 = .ok (.getfield 128, 3) := by decide +kernel
theorem d_rm_kind_161 : decode rm_kind.2.1 161 = .ok (.iload_n 2, 1) := by decide +kernel
theorem d_rm_kind_162 : decode rm_kind.2.1 162 = .ok (.iastore, 1) := by decide +kernel
theorem d_rm_kind_163 : decode rm_kind.2.1 163 = .ok (.aload_n 0, 1) := by decide +kernel
theorem d_rm_kind_164 : decode rm_kind.2.1 164 = .ok (.getfield 19, 3) := by decide +kernel
theorem d_rm_kind_167 : decode rm_kind.2.1 167 = .ok (.aload_n 0, 1) := by decide +kernel
theorem d_rm_kind_168 : decode rm_kind.2.1 168 = .ok (.getfield 128, 3) := by decide +kernel
theorem d_rm_kind_171 : decode rm_kind.2.1 171 = .ok (.iload_n 3, 1) := by decide +kernel
theorem d_rm_kind_172 : decode rm_kind.2.1 172 = .ok (.bastore, 1) := by decide +kernel
theorem d_rm_kind_173 : decode rm_kind.2.1 173 = .ok (.aload_n 0, 1) := by decide +kernel
theorem d_rm_kind_174 : decode rm_kind.2.1 174 = .ok (.getfield 16, 3) := by decide +kernel
theorem d_rm_kind_177 : decode rm_kind.2.1 177 = .ok (.aload_n 0, 1) := by decide +kernel
theorem d_rm_kind_178 : decode rm_kind.2.1 178 = .ok (.getfield 128, 3) := by decide +kernel
theorem d_rm_kind_181 : decode rm_kind.2.1 181 = .ok (.iload 4, 2) := by decide +kernel
theorem d_rm_kind_183 : decode rm_kind.2.1 183 = .ok (.iastore, 1) := by decide +kernel
theorem d_rm_kind_184 : decode rm_kind.2.1 184 = .ok (.aload_n 0, 1) := by decide +kernel
theorem d_rm_kind_185 : decode rm_kind.2.1 185 = .ok (.getfield 23, 3) := by decide +kernel
theorem d_rm_kind_188 : decode rm_kind.2.1 188 = .ok (.aload_n 0, 1) := by decide +kernel
theorem d_rm_kind_189 : decode rm_kind.2.1 189 = .ok (.getfield 128, 3) := by decide +kernel
theorem d_rm_kind_192 : decode rm_kind.2.1 192 = .ok (.lload 7, 2) := by decide +kernel
theorem d_rm_kind_194 : decode rm_kind.2.1 194 = .ok (.lastore, 1) := by decide +kernel
theorem d_rm_kind_195 : decode rm_kind.2.1 195 = .ok (.aload_n 0, 1) := by decide +kernel
theorem d_rm_kind_196 : decode rm_kind.2.1 196 = .ok (.dup, 1) := by decide +kernel
theorem d_rm_kind_197 : decode rm_kind.2.1 197 = .ok (.getfield 128, 3) := by decide +kernel
theorem d_rm_kind_200 : decode rm_kind.2.1 200 = .ok (.iconst 1, 1) := by decide +kernel
theorem d_rm_kind_201 : decode rm_kind.2.1 201 = .ok (.iadd, 1) := by decide +kernel
theorem d_rm_kind_202 : decode rm_kind.2.1 202 = .ok (.putfield 128, 3) := by decide +kernel
theorem d_rm_kind_205 : decode rm_kind.2.1 205 = .ok (.aload_n 0, 1) := by decide +kernel
theorem d_rm_kind_206 : decode rm_kind.2.1 206 = .ok (.getfield 128, 3) := by decide +kernel
theorem d_rm_kind_209 : decode rm_kind.2.1 209 = .ok (.iconst 1, 1) := by decide +kernel
theorem d_rm_kind_210 : decode rm_kind.2.1 210 = .ok (.isub, 1) := by decide +kernel
theorem d_rm_kind_211 : decode rm_kind.2.1 211 = .ok (.ireturn, 1) := by decide +kernel
theorem d_rm_named_0 : decode rm_named.2.1 0 = .ok (.lload_n 1, 1) := by decide +kernel
theorem d_rm_named_1 : decode rm_named.2.1 1 = .ok (.invokestatic 124, 3) := by decide +kernel
theorem d_rm_named_4 : decode rm_named.2.1 4 = .ok (.lstore_n 3, 1) := by decide +kernel
theorem d_rm_named_5 : decode rm_named.2.1 5 = .ok (.iconst 0, 1) := by decide +kernel
theorem d_rm_named_6 : decode rm_named.2.1 6 = .ok (.istore 5, 2) := by decide +kernel
theorem d_rm_named_8 : decode rm_named.2.1 8 = .ok (.iload 5, 2) := by decide +kernel
theorem d_rm_named_10 : decode rm_named.2.1 10 = .ok (.aload_n 0, 1) := by decide +kernel
theorem d_rm_named_11 : decode rm_named.2.1 11 = .ok (.getfield 128, 3) := by decide +kernel
theorem d_rm_named_14 : decode rm_named.2.1 14 = .ok (.if_icmp .ge 30, 3) := by decide +kernel
theorem d_rm_named_17 : decode rm_named.2.1 17 = .ok (.lload_n 3, 1) := by decide +kernel
theorem d_rm_named_18 : decode rm_named.2.1 18 = .ok (.lconst 0, 1) := by decide +kernel
theorem d_rm_named_19 : decode rm_named.2.1 19 = .ok (.lcmp, 1) := by decide +kernel
theorem d_rm_named_20 : decode rm_named.2.1 20 = .ok (.ifCond .eq 24, 3) := by decide +kernel
theorem d_rm_named_23 : decode rm_named.2.1 23 = .ok (.aload_n 0, 1) := by decide +kernel
theorem d_rm_named_24 : decode rm_named.2.1 24 = .ok (.getfield 23, 3) := by decide +kernel
theorem d_rm_named_27 : decode rm_named.2.1 27 = .ok (.iload 5, 2) := by decide +kernel
theorem d_rm_named_29 : decode rm_named.2.1 29 = .ok (.laload, 1) := by decide +kernel
theorem d_rm_named_30 : decode rm_named.2.1 30 = .ok (.lload_n 3, 1) := by decide +kernel
theorem d_rm_named_31 : decode rm_named.2.1 31 = .ok (.lcmp, 1) := by decide +kernel
theorem d_rm_named_32 : decode rm_named.2.1 32 = .ok (.ifCond .ne 6, 3) := by decide +kernel
theorem d_rm_named_35 : decode rm_named.2.1 35 = .ok (.iload 5, 2) := by decide +kernel
theorem d_rm_named_37 : decode rm_named.2.1 37 = .ok (.ireturn, 1) := by decide +kernel
theorem d_rm_named_38 : decode rm_named.2.1 38 = .ok (.iinc 5 1, 3) := by decide +kernel
theorem d_rm_named_41 : decode rm_named.2.1 41 = .ok (.goto (-33), 3) := by decide +kernel
theorem d_rm_named_44 : decode rm_named.2.1 44 = .ok (.iconst (-1), 1) := by decide +kernel
theorem d_rm_named_45 : decode rm_named.2.1 45 = .ok (.ireturn, 1) := by decide +kernel
theorem d_rm_isMove_0 : decode rm_isMove.2.1 0 = .ok (.iload_n 0, 1) := by decide +kernel
theorem d_rm_isMove_1 : decode rm_isMove.2.1 1 = .ok (.ifCond .lt 13, 3) := by decide +kernel
theorem d_rm_isMove_4 : decode rm_isMove.2.1 4 = .ok (.iload_n 0, 1) := by decide +kernel
theorem d_rm_isMove_5 : decode rm_isMove.2.1 5 = .ok (.bipush 8, 2) := by decide +kernel
theorem d_rm_isMove_7 : decode rm_isMove.2.1 7 = .ok (.if_icmp .ge 7, 3) := by decide +kernel
theorem d_rm_isMove_10 : decode rm_isMove.2.1 10 = .ok (.iconst 1, 1) := by decide +kernel
theorem d_rm_isMove_11 : decode rm_isMove.2.1 11 = .ok (.goto 4, 3) := by decide +kernel
theorem d_rm_isMove_14 : decode rm_isMove.2.1 14 = .ok (.iconst 0, 1) := by decide +kernel
theorem d_rm_isMove_15 : decode rm_isMove.2.1 15 = .ok (.ireturn, 1) := by decide +kernel
theorem d_rm_isKind_0 : decode rm_isKind.2.1 0 = .ok (.iload_n 1, 1) := by decide +kernel
theorem d_rm_isKind_1 : decode rm_isKind.2.1 1 = .ok (.ifCond .lt 15, 3) := by decide +kernel
theorem d_rm_isKind_4 : decode rm_isKind.2.1 4 = .ok (.iload_n 1, 1) := by decide +kernel
theorem d_rm_isKind_5 : decode rm_isKind.2.1 5 = .ok (.aload_n 0, 1) := by decide +kernel
theorem d_rm_isKind_6 : decode rm_isKind.2.1 6 = .ok (.getfield 128, 3) := by decide +kernel
theorem d_rm_isKind_9 : decode rm_isKind.2.1 9 = .ok (.if_icmp .ge 7, 3) := by decide +kernel
theorem d_rm_isKind_12 : decode rm_isKind.2.1 12 = .ok (.iconst 1, 1) := by decide +kernel
theorem d_rm_isKind_13 : decode rm_isKind.2.1 13 = .ok (.goto 4, 3) := by decide +kernel
theorem d_rm_isKind_16 : decode rm_isKind.2.1 16 = .ok (.iconst 0, 1) := by decide +kernel
theorem d_rm_isKind_17 : decode rm_isKind.2.1 17 = .ok (.ireturn, 1) := by decide +kernel
theorem d_rm_lies_0 : decode rm_lies.2.1 0 = .ok (.aload_n 0, 1) := by decide +kernel
theorem d_rm_lies_1 : decode rm_lies.2.1 1 = .ok (.getfield 19, 3) := by decide +kernel
theorem d_rm_lies_4 : decode rm_lies.2.1 4 = .ok (.iload_n 1, 1) := by decide +kernel
theorem d_rm_lies_5 : decode rm_lies.2.1 5 = .ok (.baload, 1) := by decide +kernel
theorem d_rm_lies_6 : decode rm_lies.2.1 6 = .ok (.ifCond .eq 9, 3) := by decide +kernel
theorem d_rm_lies_9 : decode rm_lies.2.1 9 = .ok (.iload_n 2, 1) := by decide +kernel
theorem d_rm_lies_10 : decode rm_lies.2.1 10 = .ok (.iconst 4, 1) := by decide +kernel
theorem d_rm_lies_11 : decode rm_lies.2.1 11 = .ok (.iand, 1) := by decide +kernel
theorem d_rm_lies_12 : decode rm_lies.2.1 12 = .ok (.goto 4, 3) := by decide +kernel
theorem d_rm_lies_15 : decode rm_lies.2.1 15 = .ok (.iconst 0, 1) := by decide +kernel
theorem d_rm_lies_16 : decode rm_lies.2.1 16 = .ok (.iload_n 2, 1) := by decide +kernel
theorem d_rm_lies_17 : decode rm_lies.2.1 17 = .ok (.iconst 3, 1) := by decide +kernel
