/-! decode rows, by program -/
theorem d_rm_isFound_133 : decode rm_isFound.2.1 133 = .ok (.goto 4, 3) := by decide +kernel
theorem d_rm_isFound_136 : decode rm_isFound.2.1 136 = .ok (.iconst 0, 1) := by decide +kernel
theorem d_rm_isFound_137 : decode rm_isFound.2.1 137 = .ok (.istore 8, 2) := by decide +kernel
theorem d_rm_isFound_139 : decode rm_isFound.2.1 139 = .ok (.iinc 9 1, 3) := by decide +kernel
theorem d_rm_isFound_142 : decode rm_isFound.2.1 142 = .ok (.goto (-90), 3) := by decide +kernel
theorem d_rm_isFound_145 : decode rm_isFound.2.1 145 = .ok (.iload 8, 2) := by decide +kernel
theorem d_rm_isFound_147 : decode rm_isFound.2.1 147 = .ok (.ireturn, 1) := by decide +kernel
theorem d_rm_find_0 : decode rm_find.2.1 0 = .ok (.aload_n 0, 1) := by decide +kernel
theorem d_rm_find_1 : decode rm_find.2.1 1 = .ok (.iload_n 1, 1) := by decide +kernel
theorem d_rm_find_2 : decode rm_find.2.1 2 = .ok (.invokevirtual 187, 3) := by decide +kernel
theorem d_rm_find_5 : decode rm_find.2.1 5 = .ok (.ifCond .eq 23, 3) := by decide +kernel
theorem d_rm_find_8 : decode rm_find.2.1 8 = .ok (.aload_n 0, 1) := by decide +kernel
theorem d_rm_find_9 : decode rm_find.2.1 9 = .ok (.iload_n 2, 1) := by decide +kernel
theorem d_rm_find_10 : decode rm_find.2.1 10 = .ok (.invokevirtual 187, 3) := by decide +kernel
theorem d_rm_find_13 : decode rm_find.2.1 13 = .ok (.ifCond .eq 15, 3) := by decide +kernel
theorem d_rm_find_16 : decode rm_find.2.1 16 = .ok (.aload_n 0, 1) := by decide +kernel
theorem d_rm_find_17 : decode rm_find.2.1 17 = .ok (.iload_n 2, 1) := by decide +kernel
theorem d_rm_find_18 : decode rm_find.2.1 18 = .ok (.invokevirtual 275, 3) := by decide +kernel
theorem d_rm_find_21 : decode rm_find.2.1 21 = .ok (.ifCond .eq 7, 3) := by decide +kernel
theorem d_rm_find_24 : decode rm_find.2.1 24 = .ok (.iload_n 3, 1) := by decide +kernel
theorem d_rm_find_25 : decode rm_find.2.1 25 = .ok (.ifCond .ge 5, 3) := by decide +kernel
theorem d_rm_find_28 : decode rm_find.2.1 28 = .ok (.iconst (-1), 1) := by decide +kernel
theorem d_rm_find_29 : decode rm_find.2.1 29 = .ok (.ireturn, 1) := by decide +kernel
theorem d_rm_find_30 : decode rm_find.2.1 30 = .ok (.iload_n 3, 1) := by decide +kernel
theorem d_rm_find_31 : decode rm_find.2.1 31 = .ok (.istore 4, 2) := by decide +kernel
theorem d_rm_find_33 : decode rm_find.2.1 33 = .ok (.iconst 0, 1) := by decide +kernel
theorem d_rm_find_34 : decode rm_find.2.1 34 = .ok (.istore 5, 2) := by decide +kernel
theorem d_rm_find_36 : decode rm_find.2.1 36 = .ok (.iload 5, 2) := by decide +kernel
theorem d_rm_find_38 : decode rm_find.2.1 38 = .ok (.aload_n 0, 1) := by decide +kernel
theorem d_rm_find_39 : decode rm_find.2.1 39 = .ok (.getfield 40, 3) := by decide +kernel
theorem d_rm_find_42 : decode rm_find.2.1 42 = .ok (.iload_n 1, 1) := by decide +kernel
theorem d_rm_find_43 : decode rm_find.2.1 43 = .ok (.iaload, 1) := by decide +kernel
theorem d_rm_find_44 : decode rm_find.2.1 44 = .ok (.if_icmp .ge 105, 3) := by decide +kernel
theorem d_rm_find_47 : decode rm_find.2.1 47 = .ok (.aload_n 0, 1) := by decide +kernel
theorem d_rm_find_48 : decode rm_find.2.1 48 = .ok (.iload_n 1, 1) := by decide +kernel
theorem d_rm_find_49 : decode rm_find.2.1 49 = .ok (.iload 5, 2) := by decide +kernel
theorem d_rm_find_51 : decode rm_find.2.1 51 = .ok (.invokevirtual 175, 3) := by decide +kernel
theorem d_rm_find_54 : decode rm_find.2.1 54 = .ok (.istore 6, 2) := by decide +kernel
theorem d_rm_find_56 : decode rm_find.2.1 56 = .ok (.iconst 0, 1) := by decide +kernel
theorem d_rm_find_57 : decode rm_find.2.1 57 = .ok (.istore 7, 2) := by decide +kernel
theorem d_rm_find_59 : decode rm_find.2.1 59 = .ok (.iload 7, 2) := by decide +kernel
theorem d_rm_find_61 : decode rm_find.2.1 61 = .ok (.aload_n 0, 1) := by decide +kernel
theorem d_rm_find_62 : decode rm_find.2.1 62 = .ok (.getfield 27, 3) := by decide +kernel
theorem d_rm_find_65 : decode rm_find.2.1 65 = .ok (.iload 6, 2) := by decide +kernel
theorem d_rm_find_67 : decode rm_find.2.1 67 = .ok (.iaload, 1) := by decide +kernel
theorem d_rm_find_68 : decode rm_find.2.1 68 = .ok (.if_icmp .ge 75, 3) := by decide +kernel
theorem d_rm_find_71 : decode rm_find.2.1 71 = .ok (.iconst 0, 1) := by decide +kernel
theorem d_rm_find_72 : decode rm_find.2.1 72 = .ok (.istore 8, 2) := by decide +kernel
theorem d_rm_find_74 : decode rm_find.2.1 74 = .ok (.iload 8, 2) := by decide +kernel
theorem d_rm_find_76 : decode rm_find.2.1 76 = .ok (.bipush 8, 2) := by decide +kernel
theorem d_rm_find_78 : decode rm_find.2.1 78 = .ok (.if_icmp .ge 59, 3) := by decide +kernel
theorem d_rm_find_81 : decode rm_find.2.1 81 = .ok (.aload_n 0, 1) := by decide +kernel
theorem d_rm_find_82 : decode rm_find.2.1 82 = .ok (.iload_n 1, 1) := by decide +kernel
theorem d_rm_find_83 : decode rm_find.2.1 83 = .ok (.iload_n 2, 1) := by decide +kernel
theorem d_rm_find_84 : decode rm_find.2.1 84 = .ok (.iload 5, 2) := by decide +kernel
theorem d_rm_find_86 : decode rm_find.2.1 86 = .ok (.aload_n 0, 1) := by decide +kernel
theorem d_rm_find_87 : decode rm_find.2.1 87 = .ok (.getfield 30, 3) := by decide +kernel
theorem d_rm_find_90 : decode rm_find.2.1 90 = .ok (.iload 6, 2) := by decide +kernel
theorem d_rm_find_92 : decode rm_find.2.1 92 = .ok (.iaload, 1) := by decide +kernel
theorem d_rm_find_93 : decode rm_find.2.1 93 = .ok (.iload 7, 2) := by decide +kernel
theorem d_rm_find_95 : decode rm_find.2.1 95 = .ok (.iadd, 1) := by decide +kernel
theorem d_rm_find_96 : decode rm_find.2.1 96 = .ok (.iload 8, 2) := by decide +kernel
theorem d_rm_find_98 : decode rm_find.2.1 98 = .ok (.invokevirtual 281, 3) := by decide +kernel
theorem d_rm_find_101 : decode rm_find.2.1 101 = .ok (.ifCond .ne 6, 3) := by decide +kernel
theorem d_rm_find_104 : decode rm_find.2.1 104 = .ok (.goto 27, 3) := by decide +kernel
theorem d_rm_find_107 : decode rm_find.2.1 107 = .ok (.iload 4, 2) := by decide +kernel
theorem d_rm_find_109 : decode rm_find.2.1 109 = .ok (.ifCond .ne 19, 3) := by decide +kernel
theorem d_rm_find_112 : decode rm_find.2.1 112 = .ok (.sipush 1000, 3) := by decide +kernel
theorem d_rm_find_115 : decode rm_find.2.1 115 = .ok (.iload 5, 2) := by decide +kernel
theorem d_rm_find_117 : decode rm_find.2.1 117 = .ok (.imul, 1) := by decide +kernel
theorem d_rm_find_118 : decode rm_find.2.1 118 = .ok (.bipush 10, 2) := by decide +kernel
theorem d_rm_find_120 : decode rm_find.2.1 120 = .ok (.iload 7, 2) := by decide +kernel
theorem d_rm_find_122 : decode rm_find.2.1 122 = .ok (.imul, 1) := by decide +kernel
theorem d_rm_find_123 : decode rm_find.2.1 123 = .ok (.iadd, 1) := by decide +kernel
theorem d_rm_find_124 : decode rm_find.2.1 124 = .ok (.iload 8, 2) := by decide +kernel
theorem d_rm_find_126 : decode rm_find.2.1 126 = .ok (.iadd, 1) := by decide +kernel
theorem d_rm_find_127 : decode rm_find.2.1 127 = .ok (.ireturn, 1) := by decide +kernel
theorem d_rm_find_128 : decode rm_find.2.1 128 = .ok (.iinc 4 (-1), 3) := by decide +kernel
theorem d_rm_find_131 : decode rm_find.2.1 131 = .ok (.iinc 8 1, 3) := by decide +kernel
theorem d_rm_find_134 : decode rm_find.2.1 134 = .ok (.goto (-60), 3) := by decide +kernel
theorem d_rm_find_137 : decode rm_find.2.1 137 = .ok (.iinc 7 1, 3) := by decide +kernel
theorem d_rm_find_140 : decode rm_find.2.1 140 = .ok (.goto (-81), 3) := by decide +kernel
theorem d_rm_find_143 : decode rm_find.2.1 143 = .ok (.iinc 5 1, 3) := by decide +kernel
theorem d_rm_find_146 : decode rm_find.2.1 146 = .ok (.goto (-110), 3) := by decide +kernel
theorem d_rm_find_149 : decode rm_find.2.1 149 = .ok (.iconst (-1), 1) := by decide +kernel
theorem d_rm_find_150 : decode rm_find.2.1 150 = .ok (.ireturn, 1) := by decide +kernel
theorem d_rm_isFloor_0 : decode rm_isFloor.2.1 0 = .ok (.iload_n 1, 1) := by decide +kernel
theorem d_rm_isFloor_1 : decode rm_isFloor.2.1 1 = .ok (.ifCond .lt 15, 3) := by decide +kernel
theorem d_rm_isFloor_4 : decode rm_isFloor.2.1 4 = .ok (.iload_n 1, 1) := by decide +kernel
theorem d_rm_isFloor_5 : decode rm_isFloor.2.1 5 = .ok (.aload_n 0, 1) := by decide +kernel
theorem d_rm_isFloor_6 : decode rm_isFloor.2.1 6 = .ok (.getfield 285, 3) := by decide +kernel
theorem d_rm_isFloor_9 : decode rm_isFloor.2.1 9 = .ok (.if_icmp .ge 7, 3) := by decide +kernel
theorem d_rm_isFloor_12 : decode rm_isFloor.2.1 12 = .ok (.iconst 1, 1) := by decide +kernel
theorem d_rm_isFloor_13 : decode rm_isFloor.2.1 13 = .ok (.goto 4, 3) := by decide +kernel
theorem d_rm_isFloor_16 : decode rm_isFloor.2.1 16 = .ok (.iconst 0, 1) := by decide +kernel
theorem d_rm_isFloor_17 : decode rm_isFloor.2.1 17 = .ok (.ireturn, 1) := by decide +kernel
theorem d_rm_floor_0 : decode rm_floor.2.1 0 = .ok (.aload_n 0, 1) := by decide +kernel
theorem d_rm_floor_1 : decode rm_floor.2.1 1 = .ok (.getfield 285, 3) := by decide +kernel
theorem d_rm_floor_4 : decode rm_floor.2.1 4 = .ok (.bipush 6, 2) := by decide +kernel
theorem d_rm_floor_6 : decode rm_floor.2.1 6 = .ok (.if_icmp .eq 25, 3) := by decide +kernel
theorem d_rm_floor_9 : decode rm_floor.2.1 9 = .ok (.iload_n 1, 1) := by decide +kernel
theorem d_rm_floor_10 : decode rm_floor.2.1 10 = .ok (.iconst 1, 1) := by decide +kernel
theorem d_rm_floor_11 : decode rm_floor.2.1 11 = .ok (.if_icmp .lt 20, 3) := by decide +kernel
theorem d_rm_floor_14 : decode rm_floor.2.1 14 = .ok (.iload_n 1, 1) := by decide +kernel
theorem d_rm_floor_15 : decode rm_floor.2.1 15 = .ok (.bipush 8, 2) := by decide +kernel
theorem d_rm_floor_17 : decode rm_floor.2.1 17 = .ok (.if_icmp .gt 14, 3) := by decide +kernel
theorem d_rm_floor_20 : decode rm_floor.2.1 20 = .ok (.iload_n 2, 1) := by decide +kernel
theorem d_rm_floor_21 : decode rm_floor.2.1 21 = .ok (.iconst 1, 1) := by decide +kernel
theorem d_rm_floor_22 : decode rm_floor.2.1 22 = .ok (.if_icmp .lt 9, 3) := by decide +kernel
theorem d_rm_floor_25 : decode rm_floor.2.1 25 = .ok (.iload_n 2, 1) := by decide +kernel
theorem d_rm_floor_26 : decode rm_floor.2.1 26 = .ok (.bipush 8, 2) := by decide +kernel
theorem d_rm_floor_28 : decode rm_floor.2.1 28 = .ok (.if_icmp .le 5, 3) := by decide +kernel
theorem d_rm_floor_31 : decode rm_floor.2.1 31 = .ok (.iconst (-1), 1) := by decide +kernel
theorem d_rm_floor_32 : decode rm_floor.2.1 32 = .ok (.ireturn, 1) := by decide +kernel
theorem d_rm_floor_33 : decode rm_floor.2.1 33 = .ok (.aload_n 0, 1) := by decide +kernel
theorem d_rm_floor_34 : decode rm_floor.2.1 34 = .ok (.getfield 88, 3) := by decide +kernel
theorem d_rm_floor_37 : decode rm_floor.2.1 37 = .ok (.aload_n 0, 1) := by decide +kernel
theorem d_rm_floor_38 : decode rm_floor.2.1 38 = .ok (.getfield 285, 3) := by decide +kernel
theorem d_rm_floor_41 : decode rm_floor.2.1 41 = .ok (.iload_n 1, 1) := by decide +kernel
theorem d_rm_floor_42 : decode rm_floor.2.1 42 = .ok (.iastore, 1) := by decide +kernel
theorem d_rm_floor_43 : decode rm_floor.2.1 43 = .ok (.aload_n 0, 1) := by decide +kernel
theorem d_rm_floor_44 : decode rm_floor.2.1 44 = .ok (.getfield 91, 3) := by decide +kernel
theorem d_rm_floor_47 : decode rm_floor.2.1 47 = .ok (.aload_n 0, 1) := by decide +kernel
theorem d_rm_floor_48 : decode rm_floor.2.1 48 = .ok (.getfield 285, 3) := by decide +kernel
theorem d_rm_floor_51 : decode rm_floor.2.1 51 = .ok (.iload_n 2, 1) := by decide +kernel
theorem d_rm_floor_52 : decode rm_floor.2.1 52 = .ok (.iastore, 1) := by decide +kernel
theorem d_rm_floor_53 : decode rm_floor.2.1 53 = .ok (.iconst 0, 1) := by decide +kernel
theorem d_rm_floor_54 : decode rm_floor.2.1 54 = .ok (.istore_n 3, 1) := by decide +kernel
theorem d_rm_floor_55 : decode rm_floor.2.1 55 = .ok (.iload_n 3, 1) := by decide +kernel
theorem d_rm_floor_56 : decode rm_floor.2.1 56 = .ok (.bipush 64, 2) := by decide +kernel
theorem d_rm_floor_58 : decode rm_floor.2.1 58 = .ok (.if_icmp .ge 39, 3) := by decide +kernel
theorem d_rm_floor_61 : decode rm_floor.2.1 61 = .ok (.aload_n 0, 1) := by decide +kernel
theorem d_rm_floor_62 : decode rm_floor.2.1 62 = .ok (.getfield 94, 3) := by decide +kernel
theorem d_rm_floor_65 : decode rm_floor.2.1 65 = .ok (.bipush 64, 2) := by decide +kernel
theorem d_rm_floor_67 : decode rm_floor.2.1 67 = .ok (.aload_n 0, 1) := by decide +kernel
theorem d_rm_floor_68 : decode rm_floor.2.1 68 = .ok (.getfield 285, 3) := by decide +kernel
theorem d_rm_floor_71 : decode rm_floor.2.1 71 = .ok (.imul, 1) := by decide +kernel
theorem d_rm_floor_72 : decode rm_floor.2.1 72 = .ok (.iload_n 3, 1) := by decide +kernel
theorem d_rm_floor_73 : decode rm_floor.2.1 73 = .ok (.iadd, 1) := by decide +kernel
theorem d_rm_floor_74 : decode rm_floor.2.1 74 = .ok (.iconst 0, 1) := by decide +kernel
theorem d_rm_floor_75 : decode rm_floor.2.1 75 = .ok (.iastore, 1) := by decide +kernel
theorem d_rm_floor_76 : decode rm_floor.2.1 76 = .ok (.aload_n 0, 1) := by decide +kernel
theorem d_rm_floor_77 : decode rm_floor.2.1 77 = .ok (.getfield 97, 3) := by decide +kernel
theorem d_rm_floor_80 : decode rm_floor.2.1 80 = .ok (.bipush 64, 2) := by decide +kernel
theorem d_rm_floor_82 : decode rm_floor.2.1 82 = .ok (.aload_n 0, 1) := by decide +kernel
theorem d_rm_floor_83 : decode rm_floor.2.1 83 = .ok (.getfield 285, 3) := by decide +kernel
theorem d_rm_floor_86 : decode rm_floor.2.1 86 = .ok (.imul, 1) := by decide +kernel
theorem d_rm_floor_87 : decode rm_floor.2.1 87 = .ok (.iload_n 3, 1) := by decide +kernel
theorem d_rm_floor_88 : decode rm_floor.2.1 88 = .ok (.iadd, 1) := by decide +kernel
theorem d_rm_floor_89 : decode rm_floor.2.1 89 = .ok (.iconst 0, 1) := by decide +kernel
theorem d_rm_floor_90 : decode rm_floor.2.1 90 = .ok (.iastore, 1) := by decide +kernel
theorem d_rm_floor_91 : decode rm_floor.2.1 91 = .ok (.iinc 3 1, 3) := by decide +kernel
theorem d_rm_floor_94 : decode rm_floor.2.1 94 = .ok (.goto (-39), 3) := by decide +kernel
theorem d_rm_floor_97 : decode rm_floor.2.1 97 = .ok (.iconst 0, 1) := by decide +kernel
theorem d_rm_floor_98 : decode rm_floor.2.1 98 = .ok (.istore_n 3, 1) := by decide +kernel
theorem d_rm_floor_99 : decode rm_floor.2.1 99 = .ok (.iload_n 3, 1) := by decide +kernel
theorem d_rm_floor_100 : decode rm_floor.2.1 100 = .ok (.bipush 40, 2) := by decide +kernel
theorem d_rm_floor_102 : decode rm_floor.2.1 102 = .ok (.if_icmp .ge 24, 3) := by decide +kernel
theorem d_rm_floor_105 : decode rm_floor.2.1 105 = .ok (.aload_n 0, 1) := by decide +kernel
theorem d_rm_floor_106 : decode rm_floor.2.1 106 = .ok (.getfield 100, 3) := by decide +kernel
theorem d_rm_floor_109 : decode rm_floor.2.1 109 = .ok (.bipush 40, 2) := by decide +kernel
theorem d_rm_floor_111 : decode rm_floor.2.1 111 = .ok (.aload_n 0, 1) := by decide +kernel
theorem d_rm_floor_112 : decode rm_floor.2.1 112 = .ok (.getfield 285, 3) := by decide +kernel
theorem d_rm_floor_115 : decode rm_floor.2.1 115 = .ok (.imul, 1) := by decide +kernel
theorem d_rm_floor_116 : decode rm_floor.2.1 116 = .ok (.iload_n 3, 1) := by decide +kernel
theorem d_rm_floor_117 : decode rm_floor.2.1 117 = .ok (.iadd, 1) := by decide +kernel
theorem d_rm_floor_118 : decode rm_floor.2.1 118 = .ok (.iconst 0, 1) := by decide +kernel
theorem d_rm_floor_119 : decode rm_floor.2.1 119 = .ok (.iastore, 1) := by decide +kernel
theorem d_rm_floor_120 : decode rm_floor.2.1 120 = .ok (.iinc 3 1, 3) := by decide +kernel
theorem d_rm_floor_123 : decode rm_floor.2.1 123 = .ok (.goto (-24), 3) := by decide +kernel
theorem d_rm_floor_126 : decode rm_floor.2.1 126 = .ok (.aload_n 0, 1) := by decide +kernel
theorem d_rm_floor_127 : decode rm_floor.2.1 127 = .ok (.dup, 1) := by decide +kernel
theorem d_rm_floor_128 : decode rm_floor.2.1 128 = .ok (.getfield 285, 3) := by decide +kernel
theorem d_rm_floor_131 : decode rm_floor.2.1 131 = .ok (.iconst 1, 1) := by decide +kernel
theorem d_rm_floor_132 : decode rm_floor.2.1 132 = .ok (.iadd, 1) := by decide +kernel
theorem d_rm_floor_133 : decode rm_floor.2.1 133 = .ok (.putfield 285, 3) := by decide +kernel
theorem d_rm_floor_136 : decode rm_floor.2.1 136 = .ok (.aload_n 0, 1) := by decide +kernel
theorem d_rm_floor_137 : decode rm_floor.2.1 137 = .ok (.getfield 285, 3) := by decide +kernel
theorem d_rm_floor_140 : decode rm_floor.2.1 140 = .ok (.iconst 1, 1) := by decide +kernel
theorem d_rm_floor_141 : decode rm_floor.2.1 141 = .ok (.isub, 1) := by decide +kernel
theorem d_rm_floor_142 : decode rm_floor.2.1 142 = .ok (.ireturn, 1) := by decide +kernel
theorem d_rm_isPlace_0 : decode rm_isPlace.2.1 0 = .ok (.aload_n 0, 1) := by decide +kernel
theorem d_rm_isPlace_1 : decode rm_isPlace.2.1 1 = .ok (.iload_n 1, 1) := by decide +kernel
theorem d_rm_isPlace_2 : decode rm_isPlace.2.1 2 = .ok (.invokevirtual 288, 3) := by decide +kernel
theorem d_rm_isPlace_5 : decode rm_isPlace.2.1 5 = .ok (.ifCond .eq 35, 3) := by decide +kernel
theorem d_rm_isPlace_8 : decode rm_isPlace.2.1 8 = .ok (.iload_n 2, 1) := by decide +kernel
theorem d_rm_isPlace_9 : decode rm_isPlace.2.1 9 = .ok (.ifCond .lt 31, 3) := by decide +kernel
theorem d_rm_isPlace_12 : decode rm_isPlace.2.1 12 = .ok (.iload_n 2, 1) := by decide +kernel
theorem d_rm_isPlace_13 : decode rm_isPlace.2.1 13 = .ok (.aload_n 0, 1) := by decide +kernel
theorem d_rm_isPlace_14 : decode rm_isPlace.2.1 14 = .ok (.getfield 88, 3) := by decide +kernel
theorem d_rm_isPlace_17 : decode rm_isPlace.2.1 17 = .ok (.iload_n 1, 1) := by decide +kernel
theorem d_rm_isPlace_18 : decode rm_isPlace.2.1 18 = .ok (.iaload, 1) := by decide +kernel
theorem d_rm_isPlace_19 : decode rm_isPlace.2.1 19 = .ok (.if_icmp .ge 21, 3) := by decide +kernel
theorem d_rm_isPlace_22 : decode rm_isPlace.2.1 22 = .ok (.iload_n 3, 1) := by decide +kernel
theorem d_rm_isPlace_23 : decode rm_isPlace.2.1 23 = .ok (.ifCond .lt 17, 3) := by decide +kernel
theorem d_rm_isPlace_26 : decode rm_isPlace.2.1 26 = .ok (.iload_n 3, 1) := by decide +kernel
theorem d_rm_isPlace_27 : decode rm_isPlace.2.1 27 = .ok (.aload_n 0, 1) := by decide +kernel
theorem d_rm_isPlace_28 : decode rm_isPlace.2.1 28 = .ok (.getfield 91, 3) := by decide +kernel
theorem d_rm_isPlace_31 : decode rm_isPlace.2.1 31 = .ok (.iload_n 1, 1) := by decide +kernel
theorem d_rm_isPlace_32 : decode rm_isPlace.2.1 32 = .ok (.iaload, 1) := by decide +kernel
theorem d_rm_isPlace_33 : decode rm_isPlace.2.1 33 = .ok (.if_icmp .ge 7, 3) := by decide +kernel
theorem d_rm_isPlace_36 : decode rm_isPlace.2.1 36 = .ok (.iconst 1, 1) := by decide +kernel
theorem d_rm_isPlace_37 : decode rm_isPlace.2.1 37 = .ok (.goto 4, 3) := by decide +kernel
theorem d_rm_isPlace_40 : decode rm_isPlace.2.1 40 = .ok (.iconst 0, 1) := by decide +kernel
theorem d_rm_isPlace_41 : decode rm_isPlace.2.1 41 = .ok (.ireturn, 1) := by decide +kernel
theorem d_rm_place_0 : decode rm_place.2.1 0 = .ok (.aload_n 0, 1) := by decide +kernel
theorem d_rm_place_1 : decode rm_place.2.1 1 = .ok (.iload_n 1, 1) := by decide +kernel
theorem d_rm_place_2 : decode rm_place.2.1 2 = .ok (.iload_n 2, 1) := by decide +kernel
theorem d_rm_place_3 : decode rm_place.2.1 3 = .ok (.iload_n 3, 1) := by decide +kernel
theorem d_rm_place_4 : decode rm_place.2.1 4 = .ok (.invokevirtual 291, 3) := by decide +kernel
theorem d_rm_place_7 : decode rm_place.2.1 7 = .ok (.ifCond .eq 33, 3) := by decide +kernel
theorem d_rm_place_10 : decode rm_place.2.1 10 = .ok (.iload 4, 2) := by decide +kernel
theorem d_rm_place_12 : decode rm_place.2.1 12 = .ok (.bipush (-2), 2) := by decide +kernel
theorem d_rm_place_14 : decode rm_place.2.1 14 = .ok (.if_icmp .eq 28, 3) := by decide +kernel
theorem d_rm_place_17 : decode rm_place.2.1 17 = .ok (.iload 4, 2) := by decide +kernel
theorem d_rm_place_19 : decode rm_place.2.1 19 = .ok (.iconst (-1), 1) := by decide +kernel
theorem d_rm_place_20 : decode rm_place.2.1 20 = .ok (.if_icmp .eq 22, 3) := by decide +kernel
theorem d_rm_place_23 : decode rm_place.2.1 23 = .ok (.aload_n 0, 1) := by decide +kernel
theorem d_rm_place_24 : decode rm_place.2.1 24 = .ok (.iload 4, 2) := by decide +kernel
theorem d_rm_place_26 : decode rm_place.2.1 26 = .ok (.invokevirtual 145, 3) := by decide +kernel
theorem d_rm_place_29 : decode rm_place.2.1 29 = .ok (.ifCond .eq 11, 3) := by decide +kernel
theorem d_rm_place_32 : decode rm_place.2.1 32 = .ok (.iload 5, 2) := by decide +kernel
theorem d_rm_place_34 : decode rm_place.2.1 34 = .ok (.invokestatic 137, 3) := by decide +kernel
theorem d_rm_place_37 : decode rm_place.2.1 37 = .ok (.ifCond .ne 5, 3) := by decide +kernel
theorem d_rm_place_40 : decode rm_place.2.1 40 = .ok (.iconst 0, 1) := by decide +kernel
theorem d_rm_place_41 : decode rm_place.2.1 41 = .ok (.ireturn, 1) := by decide +kernel
theorem d_rm_place_42 : decode rm_place.2.1 42 = .ok (.bipush 64, 2) := by decide +kernel
theorem d_rm_place_44 : decode rm_place.2.1 44 = .ok (.iload_n 1, 1) := by decide +kernel
theorem d_rm_place_45 : decode rm_place.2.1 45 = .ok (.imul, 1) := by decide +kernel
theorem d_rm_place_46 : decode rm_place.2.1 46 = .ok (.bipush 8, 2) := by decide +kernel
theorem d_rm_place_48 : decode rm_place.2.1 48 = .ok (.iload_n 2, 1) := by decide +kernel
theorem d_rm_place_49 : decode rm_place.2.1 49 = .ok (.imul, 1) := by decide +kernel
theorem d_rm_place_50 : decode rm_place.2.1 50 = .ok (.iadd, 1) := by decide +kernel
theorem d_rm_place_51 : decode rm_place.2.1 51 = .ok (.iload_n 3, 1) := by decide +kernel
theorem d_rm_place_52 : decode rm_place.2.1 52 = .ok (.iadd, 1) := by decide +kernel
theorem d_rm_place_53 : decode rm_place.2.1 53 = .ok (.istore 6, 2) := by decide +kernel
theorem d_rm_place_55 : decode rm_place.2.1 55 = .ok (.aload_n 0, 1) := by decide +kernel
theorem d_rm_place_56 : decode rm_place.2.1 56 = .ok (.getfield 94, 3) := by decide +kernel
theorem d_rm_place_59 : decode rm_place.2.1 59 = .ok (.iload 6, 2) := by decide +kernel
theorem d_rm_place_61 : decode rm_place.2.1 61 = .ok (.iload 4, 2) := by decide +kernel
theorem d_rm_place_63 : decode rm_place.2.1 63 = .ok (.bipush (-2), 2) := by decide +kernel
theorem d_rm_place_65 : decode rm_place.2.1 65 = .ok (.if_icmp .ne 8, 3) := by decide +kernel
theorem d_rm_place_68 : decode rm_place.2.1 68 = .ok (.bipush (-2), 2) := by decide +kernel
theorem d_rm_place_70 : decode rm_place.2.1 70 = .ok (.goto 27, 3) := by decide +kernel
theorem d_rm_place_73 : decode rm_place.2.1 73 = .ok (.iload 4, 2) := by decide +kernel
theorem d_rm_place_75 : decode rm_place.2.1 75 = .ok (.iconst (-1), 1) := by decide +kernel
theorem d_rm_place_76 : decode rm_place.2.1 76 = .ok (.if_icmp .ne 7, 3) := by decide +kernel
theorem d_rm_place_79 : decode rm_place.2.1 79 = .ok (.iconst 0, 1) := by decide +kernel
theorem d_rm_place_80 : decode rm_place.2.1 80 = .ok (.goto 17, 3) := by decide +kernel
theorem d_rm_place_83 : decode rm_place.2.1 83 = .ok (.iload 4, 2) := by decide +kernel
theorem d_rm_place_85 : decode rm_place.2.1 85 = .ok (.aload_n 0, 1) := by decide +kernel
theorem d_rm_place_86 : decode rm_place.2.1 86 = .ok (.iload 4, 2) := by decide +kernel
theorem d_rm_place_88 : decode rm_place.2.1 88 = .ok (.iload 5, 2) := by decide +kernel
theorem d_rm_place_90 : decode rm_place.2.1 90 = .ok (.invokevirtual 148, 3) := by decide +kernel
theorem d_rm_place_93 : decode rm_place.2.1 93 = .ok (.iconst 0, 1) := by decide +kernel
theorem d_rm_place_94 : decode rm_place.2.1 94 = .ok (.invokestatic 166, 3) := by decide +kernel
theorem d_rm_place_97 : decode rm_place.2.1 97 = .ok (.iastore, 1) := by decide +kernel
theorem d_rm_place_98 : decode rm_place.2.1 98 = .ok (.aload_n 0, 1) := by decide +kernel
theorem d_rm_place_99 : decode rm_place.2.1 99 = .ok (.getfield 97, 3) := by decide +kernel
theorem d_rm_place_102 : decode rm_place.2.1 102 = .ok (.iload 6, 2) := by decide +kernel
theorem d_rm_place_104 : decode rm_place.2.1 104 = .ok (.iconst 0, 1) := by decide +kernel
theorem d_rm_place_105 : decode rm_place.2.1 105 = .ok (.iastore, 1) := by decide +kernel
theorem d_rm_place_106 : decode rm_place.2.1 106 = .ok (.iconst 1, 1) := by decide +kernel
theorem d_rm_place_107 : decode rm_place.2.1 107 = .ok (.ireturn, 1) := by decide +kernel
theorem d_rm_stock_0 : decode rm_stock.2.1 0 = .ok (.aload_n 0, 1) := by decide +kernel
theorem d_rm_stock_1 : decode rm_stock.2.1 1 = .ok (.iload_n 1, 1) := by decide +kernel
theorem d_rm_stock_2 : decode rm_stock.2.1 2 = .ok (.invokevirtual 288, 3) := by decide +kernel
theorem d_rm_stock_5 : decode rm_stock.2.1 5 = .ok (.ifCond .eq 21, 3) := by decide +kernel
theorem d_rm_stock_8 : decode rm_stock.2.1 8 = .ok (.aload_n 0, 1) := by decide +kernel
theorem d_rm_stock_9 : decode rm_stock.2.1 9 = .ok (.iload_n 2, 1) := by decide +kernel
theorem d_rm_stock_10 : decode rm_stock.2.1 10 = .ok (.invokevirtual 145, 3) := by decide +kernel
theorem d_rm_stock_13 : decode rm_stock.2.1 13 = .ok (.ifCond .eq 13, 3) := by decide +kernel
theorem d_rm_stock_16 : decode rm_stock.2.1 16 = .ok (.iload_n 3, 1) := by decide +kernel
theorem d_rm_stock_17 : decode rm_stock.2.1 17 = .ok (.ifCond .lt 9, 3) := by decide +kernel
theorem d_rm_stock_20 : decode rm_stock.2.1 20 = .ok (.iload_n 3, 1) := by decide +kernel
theorem d_rm_stock_21 : decode rm_stock.2.1 21 = .ok (.bipush 99, 2) := by decide +kernel
theorem d_rm_stock_23 : decode rm_stock.2.1 23 = .ok (.if_icmp .le 5, 3) := by decide +kernel
theorem d_rm_stock_26 : decode rm_stock.2.1 26 = .ok (.iconst 0, 1) := by decide +kernel
theorem d_rm_stock_27 : decode rm_stock.2.1 27 = .ok (.ireturn, 1) := by decide +kernel
theorem d_rm_stock_28 : decode rm_stock.2.1 28 = .ok (.aload_n 0, 1) := by decide +kernel
theorem d_rm_stock_29 : decode rm_stock.2.1 29 = .ok (.getfield 100, 3) := by decide +kernel
theorem d_rm_stock_32 : decode rm_stock.2.1 32 = .ok (.bipush 40, 2) := by decide +kernel
theorem d_rm_stock_34 : decode rm_stock.2.1 34 = .ok (.iload_n 1, 1) := by decide +kernel
theorem d_rm_stock_35 : decode rm_stock.2.1 35 = .ok (.imul, 1) := by decide +kernel
theorem d_rm_stock_36 : decode rm_stock.2.1 36 = .ok (.iload_n 2, 1) := by decide +kernel
theorem d_rm_stock_37 : decode rm_stock.2.1 37 = .ok (.iadd, 1) := by decide +kernel
theorem d_rm_stock_38 : decode rm_stock.2.1 38 = .ok (.iload_n 3, 1) := by decide +kernel
theorem d_rm_stock_39 : decode rm_stock.2.1 39 = .ok (.iastore, 1) := by decide +kernel
theorem d_rm_stock_40 : decode rm_stock.2.1 40 = .ok (.iconst 1, 1) := by decide +kernel
theorem d_rm_stock_41 : decode rm_stock.2.1 41 = .ok (.ireturn, 1) := by decide +kernel
theorem d_rm_shown_0 : decode rm_shown.2.1 0 = .ok (.aload_n 0, 1) := by decide +kernel
theorem d_rm_shown_1 : decode rm_shown.2.1 1 = .ok (.iload_n 1, 1) := by decide +kernel
theorem d_rm_shown_2 : decode rm_shown.2.1 2 = .ok (.iload_n 2, 1) := by decide +kernel
theorem d_rm_shown_3 : decode rm_shown.2.1 3 = .ok (.iload_n 3, 1) := by decide +kernel
theorem d_rm_shown_4 : decode rm_shown.2.1 4 = .ok (.invokevirtual 291, 3) := by decide +kernel
theorem d_rm_shown_7 : decode rm_shown.2.1 7 = .ok (.ifCond .ne 6, 3) := by decide +kernel
theorem d_rm_shown_10 : decode rm_shown.2.1 10 = .ok (.bipush (-2), 2) := by decide +kernel
theorem d_rm_shown_12 : decode rm_shown.2.1 12 = .ok (.ireturn, 1) := by decide +kernel
theorem d_rm_shown_13 : decode rm_shown.2.1 13 = .ok (.bipush 64, 2) := by decide +kernel
theorem d_rm_shown_15 : decode rm_shown.2.1 15 = .ok (.iload_n 1, 1) := by decide +kernel
theorem d_rm_shown_16 : decode rm_shown.2.1 16 = .ok (.imul, 1) := by decide +kernel
theorem d_rm_shown_17 : decode rm_shown.2.1 17 = .ok (.bipush 8, 2) := by decide +kernel
theorem d_rm_shown_19 : decode rm_shown.2.1 19 = .ok (.iload_n 2, 1) := by decide +kernel
theorem d_rm_shown_20 : decode rm_shown.2.1 20 = .ok (.imul, 1) := by decide +kernel
theorem d_rm_shown_21 : decode rm_shown.2.1 21 = .ok (.iadd, 1) := by decide +kernel
theorem d_rm_shown_22 : decode rm_shown.2.1 22 = .ok (.iload_n 3, 1) := by decide +kernel
theorem d_rm_shown_23 : decode rm_shown.2.1 23 = .ok (.iadd, 1) := by decide +kernel
theorem d_rm_shown_24 : decode rm_shown.2.1 24 = .ok (.istore 4, 2) := by decide +kernel
theorem d_rm_shown_26 : decode rm_shown.2.1 26 = .ok (.aload_n 0, 1) := by decide +kernel
theorem d_rm_shown_27 : decode rm_shown.2.1 27 = .ok (.getfield 94, 3) := by decide +kernel
theorem d_rm_shown_30 : decode rm_shown.2.1 30 = .ok (.iload 4, 2) := by decide +kernel
theorem d_rm_shown_32 : decode rm_shown.2.1 32 = .ok (.iaload, 1) := by decide +kernel
theorem d_rm_shown_33 : decode rm_shown.2.1 33 = .ok (.ifCond .le 13, 3) := by decide +kernel
theorem d_rm_shown_36 : decode rm_shown.2.1 36 = .ok (.aload_n 0, 1) := by decide +kernel
theorem d_rm_shown_37 : decode rm_shown.2.1 37 = .ok (.getfield 94, 3) := by decide +kernel
theorem d_rm_shown_40 : decode rm_shown.2.1 40 = .ok (.iload 4, 2) := by decide +kernel
theorem d_rm_shown_42 : decode rm_shown.2.1 42 = .ok (.iaload, 1) := by decide +kernel
theorem d_rm_shown_43 : decode rm_shown.2.1 43 = .ok (.goto 10, 3) := by decide +kernel
theorem d_rm_shown_46 : decode rm_shown.2.1 46 = .ok (.aload_n 0, 1) := by decide +kernel
theorem d_rm_shown_47 : decode rm_shown.2.1 47 = .ok (.getfield 97, 3) := by decide +kernel
theorem d_rm_shown_50 : decode rm_shown.2.1 50 = .ok (.iload 4, 2) := by decide +kernel
theorem d_rm_shown_52 : decode rm_shown.2.1 52 = .ok (.iaload, 1) := by decide +kernel
theorem d_rm_shown_53 : decode rm_shown.2.1 53 = .ok (.istore 5, 2) := by decide +kernel
theorem d_rm_shown_55 : decode rm_shown.2.1 55 = .ok (.aload_n 0, 1) := by decide +kernel
theorem d_rm_shown_56 : decode rm_shown.2.1 56 = .ok (.getfield 94, 3) := by decide +kernel
theorem d_rm_shown_59 : decode rm_shown.2.1 59 = .ok (.iload 4, 2) := by decide +kernel
theorem d_rm_shown_61 : decode rm_shown.2.1 61 = .ok (.iaload, 1) := by decide +kernel
theorem d_rm_shown_62 : decode rm_shown.2.1 62 = .ok (.bipush (-2), 2) := by decide +kernel
theorem d_rm_shown_64 : decode rm_shown.2.1 64 = .ok (.if_icmp .ne 8, 3) := by decide +kernel
theorem d_rm_shown_67 : decode rm_shown.2.1 67 = .ok (.bipush (-2), 2) := by decide +kernel
theorem d_rm_shown_69 : decode rm_shown.2.1 69 = .ok (.goto 26, 3) := by decide +kernel
theorem d_rm_shown_72 : decode rm_shown.2.1 72 = .ok (.iload 5, 2) := by decide +kernel
theorem d_rm_shown_74 : decode rm_shown.2.1 74 = .ok (.ifCond .ne 7, 3) := by decide +kernel
theorem d_rm_shown_77 : decode rm_shown.2.1 77 = .ok (.iconst (-1), 1) := by decide +kernel
theorem d_rm_shown_78 : decode rm_shown.2.1 78 = .ok (.goto 17, 3) := by decide +kernel
theorem d_rm_shown_81 : decode rm_shown.2.1 81 = .ok (.bipush 8, 2) := by decide +kernel
theorem d_rm_shown_83 : decode rm_shown.2.1 83 = .ok (.iload 5, 2) := by decide +kernel
theorem d_rm_shown_85 : decode rm_shown.2.1 85 = .ok (.invokestatic 156, 3) := by decide +kernel
theorem d_rm_shown_88 : decode rm_shown.2.1 88 = .ok (.imul, 1) := by decide +kernel
theorem d_rm_shown_89 : decode rm_shown.2.1 89 = .ok (.iload 5, 2) := by decide +kernel
theorem d_rm_shown_91 : decode rm_shown.2.1 91 = .ok (.invokestatic 160, 3) := by decide +kernel
theorem d_rm_shown_94 : decode rm_shown.2.1 94 = .ok (.iadd, 1) := by decide +kernel
theorem d_rm_shown_95 : decode rm_shown.2.1 95 = .ok (.ireturn, 1) := by decide +kernel
theorem d_rm_lyingAt_0 : decode rm_lyingAt.2.1 0 = .ok (.iload_n 1, 1) := by decide +kernel
theorem d_rm_lyingAt_1 : decode rm_lyingAt.2.1 1 = .ok (.ifCond .lt 33, 3) := by decide +kernel
theorem d_rm_lyingAt_4 : decode rm_lyingAt.2.1 4 = .ok (.iload_n 2, 1) := by decide +kernel
theorem d_rm_lyingAt_5 : decode rm_lyingAt.2.1 5 = .ok (.ifCond .lt 29, 3) := by decide +kernel
theorem d_rm_lyingAt_8 : decode rm_lyingAt.2.1 8 = .ok (.iload_n 1, 1) := by decide +kernel
theorem d_rm_lyingAt_9 : decode rm_lyingAt.2.1 9 = .ok (.aload_n 0, 1) := by decide +kernel
theorem d_rm_lyingAt_10 : decode rm_lyingAt.2.1 10 = .ok (.getfield 88, 3) := by decide +kernel
theorem d_rm_lyingAt_13 : decode rm_lyingAt.2.1 13 = .ok (.aload_n 0, 1) := by decide +kernel
theorem d_rm_lyingAt_14 : decode rm_lyingAt.2.1 14 = .ok (.getfield 294, 3) := by decide +kernel
theorem d_rm_lyingAt_17 : decode rm_lyingAt.2.1 17 = .ok (.iaload, 1) := by decide +kernel
theorem d_rm_lyingAt_18 : decode rm_lyingAt.2.1 18 = .ok (.if_icmp .ge 16, 3) := by decide +kernel
theorem d_rm_lyingAt_21 : decode rm_lyingAt.2.1 21 = .ok (.iload_n 2, 1) := by decide +kernel
theorem d_rm_lyingAt_22 : decode rm_lyingAt.2.1 22 = .ok (.aload_n 0, 1) := by decide +kernel
theorem d_rm_lyingAt_23 : decode rm_lyingAt.2.1 23 = .ok (.getfield 91, 3) := by decide +kernel
theorem d_rm_lyingAt_26 : decode rm_lyingAt.2.1 26 = .ok (.aload_n 0, 1) := by decide +kernel
theorem d_rm_lyingAt_27 : decode rm_lyingAt.2.1 27 = .ok (.getfield 294, 3) := by decide +kernel
theorem d_rm_lyingAt_30 : decode rm_lyingAt.2.1 30 = .ok (.iaload, 1) := by decide +kernel
theorem d_rm_lyingAt_31 : decode rm_lyingAt.2.1 31 = .ok (.if_icmp .lt 5, 3) := by decide +kernel
theorem d_rm_lyingAt_34 : decode rm_lyingAt.2.1 34 = .ok (.iconst 0, 1) := by decide +kernel
theorem d_rm_lyingAt_35 : decode rm_lyingAt.2.1 35 = .ok (.ireturn, 1) := by decide +kernel
theorem d_rm_lyingAt_36 : decode rm_lyingAt.2.1 36 = .ok (.aload_n 0, 1) := by decide +kernel
theorem d_rm_lyingAt_37 : decode rm_lyingAt.2.1 37 = .ok (.getfield 94, 3) := by decide +kernel
theorem d_rm_lyingAt_40 : decode rm_lyingAt.2.1 40 = .ok (.bipush 64, 2) := by decide +kernel
theorem d_rm_lyingAt_42 : decode rm_lyingAt.2.1 42 = .ok (.aload_n 0, 1) := by decide +kernel
theorem d_rm_lyingAt_43 : decode rm_lyingAt.2.1 43 = .ok (.getfield 294, 3) := by decide +kernel
theorem d_rm_lyingAt_46 : decode rm_lyingAt.2.1 46 = .ok (.imul, 1) := by decide +kernel
theorem d_rm_lyingAt_47 : decode rm_lyingAt.2.1 47 = .ok (.bipush 8, 2) := by decide +kernel
theorem d_rm_lyingAt_49 : decode rm_lyingAt.2.1 49 = .ok (.iload_n 1, 1) := by decide +kernel
theorem d_rm_lyingAt_50 : decode rm_lyingAt.2.1 50 = .ok (.imul, 1) := by decide +kernel
theorem d_rm_lyingAt_51 : decode rm_lyingAt.2.1 51 = .ok (.iadd, 1) := by decide +kernel
theorem d_rm_lyingAt_52 : decode rm_lyingAt.2.1 52 = .ok (.iload_n 2, 1) := by decide +kernel
theorem d_rm_lyingAt_53 : decode rm_lyingAt.2.1 53 = .ok (.iadd, 1) := by decide +kernel
theorem d_rm_lyingAt_54 : decode rm_lyingAt.2.1 54 = .ok (.iaload, 1) := by decide +kernel
theorem d_rm_lyingAt_55 : decode rm_lyingAt.2.1 55 = .ok (.istore_n 3, 1) := by decide +kernel
theorem d_rm_lyingAt_56 : decode rm_lyingAt.2.1 56 = .ok (.iload_n 3, 1) := by decide +kernel
theorem d_rm_lyingAt_57 : decode rm_lyingAt.2.1 57 = .ok (.ifCond .le 7, 3) := by decide +kernel
theorem d_rm_lyingAt_60 : decode rm_lyingAt.2.1 60 = .ok (.iload_n 3, 1) := by decide +kernel
theorem d_rm_lyingAt_61 : decode rm_lyingAt.2.1 61 = .ok (.goto 24, 3) := by decide +kernel
theorem d_rm_lyingAt_64 : decode rm_lyingAt.2.1 64 = .ok (.iload_n 3, 1) := by decide +kernel
theorem d_rm_lyingAt_65 : decode rm_lyingAt.2.1 65 = .ok (.bipush (-2), 2) := by decide +kernel
theorem d_rm_lyingAt_67 : decode rm_lyingAt.2.1 67 = .ok (.if_icmp .ne 7, 3) := by decide +kernel
theorem d_rm_lyingAt_70 : decode rm_lyingAt.2.1 70 = .ok (.iconst 0, 1) := by decide +kernel
theorem d_rm_lyingAt_71 : decode rm_lyingAt.2.1 71 = .ok (.goto 14, 3) := by decide +kernel
theorem d_rm_lyingAt_74 : decode rm_lyingAt.2.1 74 = .ok (.aload_n 0, 1) := by decide +kernel
theorem d_rm_lyingAt_75 : decode rm_lyingAt.2.1 75 = .ok (.getfield 103, 3) := by decide +kernel
theorem d_rm_lyingAt_78 : decode rm_lyingAt.2.1 78 = .ok (.bipush 8, 2) := by decide +kernel
theorem d_rm_lyingAt_80 : decode rm_lyingAt.2.1 80 = .ok (.iload_n 1, 1) := by decide +kernel
theorem d_rm_lyingAt_81 : decode rm_lyingAt.2.1 81 = .ok (.imul, 1) := by decide +kernel
theorem d_rm_lyingAt_82 : decode rm_lyingAt.2.1 82 = .ok (.iload_n 2, 1) := by decide +kernel
theorem d_rm_lyingAt_83 : decode rm_lyingAt.2.1 83 = .ok (.iadd, 1) := by decide +kernel
theorem d_rm_lyingAt_84 : decode rm_lyingAt.2.1 84 = .ok (.iaload, 1) := by decide +kernel
theorem d_rm_lyingAt_85 : decode rm_lyingAt.2.1 85 = .ok (.ireturn, 1) := by decide +kernel
theorem d_rm_mayLie_0 : decode rm_mayLie.2.1 0 = .ok (.iload_n 1, 1) := by decide +kernel
theorem d_rm_mayLie_1 : decode rm_mayLie.2.1 1 = .ok (.bipush 8, 2) := by decide +kernel
theorem d_rm_mayLie_3 : decode rm_mayLie.2.1 3 = .ok (.idiv, 1) := by decide +kernel
theorem d_rm_mayLie_4 : decode rm_mayLie.2.1 4 = .ok (.istore_n 3, 1) := by decide +kernel
theorem d_rm_mayLie_5 : decode rm_mayLie.2.1 5 = .ok (.iload_n 1, 1) := by decide +kernel
theorem d_rm_mayLie_6 : decode rm_mayLie.2.1 6 = .ok (.bipush 8, 2) := by decide +kernel
theorem d_rm_mayLie_8 : decode rm_mayLie.2.1 8 = .ok (.irem, 1) := by decide +kernel
theorem d_rm_mayLie_9 : decode rm_mayLie.2.1 9 = .ok (.istore 4, 2) := by decide +kernel
theorem d_rm_mayLie_11 : decode rm_mayLie.2.1 11 = .ok (.aload_n 0, 1) := by decide +kernel
theorem d_rm_mayLie_12 : decode rm_mayLie.2.1 12 = .ok (.iload_n 2, 1) := by decide +kernel
theorem d_rm_mayLie_13 : decode rm_mayLie.2.1 13 = .ok (.aload_n 0, 1) := by decide +kernel
theorem d_rm_mayLie_14 : decode rm_mayLie.2.1 14 = .ok (.iload_n 3, 1) := by decide +kernel
theorem d_rm_mayLie_15 : decode rm_mayLie.2.1 15 = .ok (.iconst 1, 1) := by decide +kernel
theorem d_rm_mayLie_16 : decode rm_mayLie.2.1 16 = .ok (.isub, 1) := by decide +kernel
theorem d_rm_mayLie_17 : decode rm_mayLie.2.1 17 = .ok (.iload 4, 2) := by decide +kernel
theorem d_rm_mayLie_19 : decode rm_mayLie.2.1 19 = .ok (.invokevirtual 297, 3) := by decide +kernel
theorem d_rm_mayLie_22 : decode rm_mayLie.2.1 22 = .ok (.iconst 0, 1) := by decide +kernel
theorem d_rm_mayLie_23 : decode rm_mayLie.2.1 23 = .ok (.invokevirtual 263, 3) := by decide +kernel
theorem d_rm_mayLie_26 : decode rm_mayLie.2.1 26 = .ok (.ifCond .eq 61, 3) := by decide +kernel
theorem d_rm_mayLie_29 : decode rm_mayLie.2.1 29 = .ok (.aload_n 0, 1) := by decide +kernel
theorem d_rm_mayLie_30 : decode rm_mayLie.2.1 30 = .ok (.iload_n 2, 1) := by decide +kernel
theorem d_rm_mayLie_31 : decode rm_mayLie.2.1 31 = .ok (.aload_n 0, 1) := by decide +kernel
theorem d_rm_mayLie_32 : decode rm_mayLie.2.1 32 = .ok (.iload_n 3, 1) := by decide +kernel
theorem d_rm_mayLie_33 : decode rm_mayLie.2.1 33 = .ok (.iload 4, 2) := by decide +kernel
theorem d_rm_mayLie_35 : decode rm_mayLie.2.1 35 = .ok (.iconst 1, 1) := by decide +kernel
theorem d_rm_mayLie_36 : decode rm_mayLie.2.1 36 = .ok (.iadd, 1) := by decide +kernel
theorem d_rm_mayLie_37 : decode rm_mayLie.2.1 37 = .ok (.invokevirtual 297, 3) := by decide +kernel
theorem d_rm_mayLie_40 : decode rm_mayLie.2.1 40 = .ok (.iconst 1, 1) := by decide +kernel
theorem d_rm_mayLie_41 : decode rm_mayLie.2.1 41 = .ok (.invokevirtual 263, 3) := by decide +kernel
theorem d_rm_mayLie_44 : decode rm_mayLie.2.1 44 = .ok (.ifCond .eq 43, 3) := by decide +kernel
theorem d_rm_mayLie_47 : decode rm_mayLie.2.1 47 = .ok (.aload_n 0, 1) := by decide +kernel
theorem d_rm_mayLie_48 : decode rm_mayLie.2.1 48 = .ok (.iload_n 2, 1) := by decide +kernel
theorem d_rm_mayLie_49 : decode rm_mayLie.2.1 49 = .ok (.aload_n 0, 1) := by decide +kernel
theorem d_rm_mayLie_50 : decode rm_mayLie.2.1 50 = .ok (.iload_n 3, 1) := by decide +kernel
theorem d_rm_mayLie_51 : decode rm_mayLie.2.1 51 = .ok (.iconst 1, 1) := by decide +kernel
theorem d_rm_mayLie_52 : decode rm_mayLie.2.1 52 = .ok (.iadd, 1) := by decide +kernel
theorem d_rm_mayLie_53 : decode rm_mayLie.2.1 53 = .ok (.iload 4, 2) := by decide +kernel
theorem d_rm_mayLie_55 : decode rm_mayLie.2.1 55 = .ok (.invokevirtual 297, 3) := by decide +kernel
theorem d_rm_mayLie_58 : decode rm_mayLie.2.1 58 = .ok (.iconst 2, 1) := by decide +kernel
theorem d_rm_mayLie_59 : decode rm_mayLie.2.1 59 = .ok (.invokevirtual 263, 3) := by decide +kernel
theorem d_rm_mayLie_62 : decode rm_mayLie.2.1 62 = .ok (.ifCond .eq 25, 3) := by decide +kernel
theorem d_rm_mayLie_65 : decode rm_mayLie.2.1 65 = .ok (.aload_n 0, 1) := by decide +kernel
theorem d_rm_mayLie_66 : decode rm_mayLie.2.1 66 = .ok (.iload_n 2, 1) := by decide +kernel
theorem d_rm_mayLie_67 : decode rm_mayLie.2.1 67 = .ok (.aload_n 0, 1) := by decide +kernel
theorem d_rm_mayLie_68 : decode rm_mayLie.2.1 68 = .ok (.iload_n 3, 1) := by decide +kernel
theorem d_rm_mayLie_69 : decode rm_mayLie.2.1 69 = .ok (.iload 4, 2) := by decide +kernel
theorem d_rm_mayLie_71 : decode rm_mayLie.2.1 71 = .ok (.iconst 1, 1) := by decide +kernel
theorem d_rm_mayLie_72 : decode rm_mayLie.2.1 72 = .ok (.isub, 1) := by decide +kernel
theorem d_rm_mayLie_73 : decode rm_mayLie.2.1 73 = .ok (.invokevirtual 297, 3) := by decide +kernel
theorem d_rm_mayLie_76 : decode rm_mayLie.2.1 76 = .ok (.iconst 3, 1) := by decide +kernel
theorem d_rm_mayLie_77 : decode rm_mayLie.2.1 77 = .ok (.invokevirtual 263, 3) := by decide +kernel
theorem d_rm_mayLie_80 : decode rm_mayLie.2.1 80 = .ok (.ifCond .eq 7, 3) := by decide +kernel
theorem d_rm_mayLie_83 : decode rm_mayLie.2.1 83 = .ok (.iconst 1, 1) := by decide +kernel
theorem d_rm_mayLie_84 : decode rm_mayLie.2.1 84 = .ok (.goto 4, 3) := by decide +kernel
theorem d_rm_mayLie_87 : decode rm_mayLie.2.1 87 = .ok (.iconst 0, 1) := by decide +kernel
theorem d_rm_mayLie_88 : decode rm_mayLie.2.1 88 = .ok (.ireturn, 1) := by decide +kernel
theorem d_rm_nextFitting_0 : decode rm_nextFitting.2.1 0 = .ok (.iload_n 2, 1) := by decide +kernel
theorem d_rm_nextFitting_1 : decode rm_nextFitting.2.1 1 = .ok (.istore_n 3, 1) := by decide +kernel
theorem d_rm_nextFitting_2 : decode rm_nextFitting.2.1 2 = .ok (.iload_n 3, 1) := by decide +kernel
theorem d_rm_nextFitting_3 : decode rm_nextFitting.2.1 3 = .ok (.bipush 8, 2) := by decide +kernel
theorem d_rm_nextFitting_5 : decode rm_nextFitting.2.1 5 = .ok (.aload_n 0, 1) := by decide +kernel
theorem d_rm_nextFitting_6 : decode rm_nextFitting.2.1 6 = .ok (.getfield 128, 3) := by decide +kernel
theorem d_rm_nextFitting_9 : decode rm_nextFitting.2.1 9 = .ok (.imul, 1) := by decide +kernel
theorem d_rm_nextFitting_10 : decode rm_nextFitting.2.1 10 = .ok (.if_icmp .ge 62, 3) := by decide +kernel
theorem d_rm_nextFitting_13 : decode rm_nextFitting.2.1 13 = .ok (.iload_n 3, 1) := by decide +kernel
theorem d_rm_nextFitting_14 : decode rm_nextFitting.2.1 14 = .ok (.bipush 8, 2) := by decide +kernel
theorem d_rm_nextFitting_16 : decode rm_nextFitting.2.1 16 = .ok (.idiv, 1) := by decide +kernel
theorem d_rm_nextFitting_17 : decode rm_nextFitting.2.1 17 = .ok (.istore 4, 2) := by decide +kernel
theorem d_rm_nextFitting_19 : decode rm_nextFitting.2.1 19 = .ok (.aload_n 0, 1) := by decide +kernel
theorem d_rm_nextFitting_20 : decode rm_nextFitting.2.1 20 = .ok (.getfield 106, 3) := by decide +kernel
theorem d_rm_nextFitting_23 : decode rm_nextFitting.2.1 23 = .ok (.iload 4, 2) := by decide +kernel
theorem d_rm_nextFitting_25 : decode rm_nextFitting.2.1 25 = .ok (.iaload, 1) := by decide +kernel
theorem d_rm_nextFitting_26 : decode rm_nextFitting.2.1 26 = .ok (.ifCond .le 40, 3) := by decide +kernel
theorem d_rm_nextFitting_29 : decode rm_nextFitting.2.1 29 = .ok (.aload_n 0, 1) := by decide +kernel
theorem d_rm_nextFitting_30 : decode rm_nextFitting.2.1 30 = .ok (.iload 4, 2) := by decide +kernel
theorem d_rm_nextFitting_32 : decode rm_nextFitting.2.1 32 = .ok (.iload_n 3, 1) := by decide +kernel
theorem d_rm_nextFitting_33 : decode rm_nextFitting.2.1 33 = .ok (.bipush 8, 2) := by decide +kernel
theorem d_rm_nextFitting_35 : decode rm_nextFitting.2.1 35 = .ok (.irem, 1) := by decide +kernel
theorem d_rm_nextFitting_36 : decode rm_nextFitting.2.1 36 = .ok (.invokevirtual 148, 3) := by decide +kernel
theorem d_rm_nextFitting_39 : decode rm_nextFitting.2.1 39 = .ok (.iload_n 3, 1) := by decide +kernel
theorem d_rm_nextFitting_40 : decode rm_nextFitting.2.1 40 = .ok (.bipush 8, 2) := by decide +kernel
theorem d_rm_nextFitting_42 : decode rm_nextFitting.2.1 42 = .ok (.irem, 1) := by decide +kernel
theorem d_rm_nextFitting_43 : decode rm_nextFitting.2.1 43 = .ok (.if_icmp .ne 23, 3) := by decide +kernel
theorem d_rm_nextFitting_46 : decode rm_nextFitting.2.1 46 = .ok (.aload_n 0, 1) := by decide +kernel
theorem d_rm_nextFitting_47 : decode rm_nextFitting.2.1 47 = .ok (.iload_n 1, 1) := by decide +kernel
theorem d_rm_nextFitting_48 : decode rm_nextFitting.2.1 48 = .ok (.iload 4, 2) := by decide +kernel
theorem d_rm_nextFitting_50 : decode rm_nextFitting.2.1 50 = .ok (.iload_n 3, 1) := by decide +kernel
theorem d_rm_nextFitting_51 : decode rm_nextFitting.2.1 51 = .ok (.bipush 8, 2) := by decide +kernel
theorem d_rm_nextFitting_53 : decode rm_nextFitting.2.1 53 = .ok (.irem, 1) := by decide +kernel
theorem d_rm_nextFitting_54 : decode rm_nextFitting.2.1 54 = .ok (.iconst 0, 1) := by decide +kernel
theorem d_rm_nextFitting_55 : decode rm_nextFitting.2.1 55 = .ok (.invokestatic 166, 3) := by decide +kernel
theorem d_rm_nextFitting_58 : decode rm_nextFitting.2.1 58 = .ok (.invokevirtual 300, 3) := by decide +kernel
theorem d_rm_nextFitting_61 : decode rm_nextFitting.2.1 61 = .ok (.ifCond .eq 5, 3) := by decide +kernel
theorem d_rm_nextFitting_64 : decode rm_nextFitting.2.1 64 = .ok (.iload_n 3, 1) := by decide +kernel
theorem d_rm_nextFitting_65 : decode rm_nextFitting.2.1 65 = .ok (.ireturn, 1) := by decide +kernel
theorem d_rm_nextFitting_66 : decode rm_nextFitting.2.1 66 = .ok (.iinc 3 1, 3) := by decide +kernel
theorem d_rm_nextFitting_69 : decode rm_nextFitting.2.1 69 = .ok (.goto (-67), 3) := by decide +kernel
theorem d_rm_nextFitting_72 : decode rm_nextFitting.2.1 72 = .ok (.iconst (-1), 1) := by decide +kernel
theorem d_rm_nextFitting_73 : decode rm_nextFitting.2.1 73 = .ok (.ireturn, 1) := by decide +kernel
theorem d_rm_fitting_0 : decode rm_fitting.2.1 0 = .ok (.iconst 0, 1) := by decide +kernel
theorem d_rm_fitting_1 : decode rm_fitting.2.1 1 = .ok (.istore_n 2, 1) := by decide +kernel
theorem d_rm_fitting_2 : decode rm_fitting.2.1 2 = .ok (.aload_n 0, 1) := by decide +kernel
theorem d_rm_fitting_3 : decode rm_fitting.2.1 3 = .ok (.iload_n 1, 1) := by decide +kernel
theorem d_rm_fitting_4 : decode rm_fitting.2.1 4 = .ok (.iconst 0, 1) := by decide +kernel
theorem d_rm_fitting_5 : decode rm_fitting.2.1 5 = .ok (.invokevirtual 304, 3) := by decide +kernel
theorem d_rm_fitting_8 : decode rm_fitting.2.1 8 = .ok (.istore_n 3, 1) := by decide +kernel
theorem d_rm_fitting_9 : decode rm_fitting.2.1 9 = .ok (.iload_n 3, 1) := by decide +kernel
theorem d_rm_fitting_10 : decode rm_fitting.2.1 10 = .ok (.ifCond .lt 18, 3) := by decide +kernel
theorem d_rm_fitting_13 : decode rm_fitting.2.1 13 = .ok (.iinc 2 1, 3) := by decide +kernel
theorem d_rm_fitting_16 : decode rm_fitting.2.1 16 = .ok (.aload_n 0, 1) := by decide +kernel
theorem d_rm_fitting_17 : decode rm_fitting.2.1 17 = .ok (.iload_n 1, 1) := by decide +kernel
theorem d_rm_fitting_18 : decode rm_fitting.2.1 18 = .ok (.iload_n 3, 1) := by decide +kernel
theorem d_rm_fitting_19 : decode rm_fitting.2.1 19 = .ok (.iconst 1, 1) := by decide +kernel
theorem d_rm_fitting_20 : decode rm_fitting.2.1 20 = .ok (.iadd, 1) := by decide +kernel
theorem d_rm_fitting_21 : decode rm_fitting.2.1 21 = .ok (.invokevirtual 304, 3) := by decide +kernel
theorem d_rm_fitting_24 : decode rm_fitting.2.1 24 = .ok (.istore_n 3, 1) := by decide +kernel
theorem d_rm_fitting_25 : decode rm_fitting.2.1 25 = .ok (.goto (-16), 3) := by decide +kernel
theorem d_rm_fitting_28 : decode rm_fitting.2.1 28 = .ok (.iload_n 2, 1) := by decide +kernel
theorem d_rm_fitting_29 : decode rm_fitting.2.1 29 = .ok (.ireturn, 1) := by decide +kernel
theorem d_rm_starts_0 : decode rm_starts.2.1 0 = .ok (.aload_n 0, 1) := by decide +kernel
theorem d_rm_starts_1 : decode rm_starts.2.1 1 = .ok (.iload_n 1, 1) := by decide +kernel
theorem d_rm_starts_2 : decode rm_starts.2.1 2 = .ok (.putfield 294, 3) := by decide +kernel
theorem d_rm_starts_5 : decode rm_starts.2.1 5 = .ok (.aload_n 0, 1) := by decide +kernel
theorem d_rm_starts_6 : decode rm_starts.2.1 6 = .ok (.iconst 0, 1) := by decide +kernel
theorem d_rm_starts_7 : decode rm_starts.2.1 7 = .ok (.putfield 307, 3) := by decide +kernel
theorem d_rm_starts_10 : decode rm_starts.2.1 10 = .ok (.iconst 0, 1) := by decide +kernel
theorem d_rm_starts_11 : decode rm_starts.2.1 11 = .ok (.istore_n 2, 1) := by decide +kernel
theorem d_rm_starts_12 : decode rm_starts.2.1 12 = .ok (.iload_n 2, 1) := by decide +kernel
theorem d_rm_starts_13 : decode rm_starts.2.1 13 = .ok (.aload_n 0, 1) := by decide +kernel
theorem d_rm_starts_14 : decode rm_starts.2.1 14 = .ok (.getfield 128, 3) := by decide +kernel
theorem d_rm_starts_17 : decode rm_starts.2.1 17 = .ok (.if_icmp .ge 26, 3) := by decide +kernel
theorem d_rm_starts_20 : decode rm_starts.2.1 20 = .ok (.aload_n 0, 1) := by decide +kernel
theorem d_rm_starts_21 : decode rm_starts.2.1 21 = .ok (.getfield 106, 3) := by decide +kernel
theorem d_rm_starts_24 : decode rm_starts.2.1 24 = .ok (.iload_n 2, 1) := by decide +kernel
theorem d_rm_starts_25 : decode rm_starts.2.1 25 = .ok (.aload_n 0, 1) := by decide +kernel
theorem d_rm_starts_26 : decode rm_starts.2.1 26 = .ok (.getfield 100, 3) := by decide +kernel
theorem d_rm_starts_29 : decode rm_starts.2.1 29 = .ok (.bipush 40, 2) := by decide +kernel
theorem d_rm_starts_31 : decode rm_starts.2.1 31 = .ok (.iload_n 1, 1) := by decide +kernel
theorem d_rm_starts_32 : decode rm_starts.2.1 32 = .ok (.imul, 1) := by decide +kernel
theorem d_rm_starts_33 : decode rm_starts.2.1 33 = .ok (.iload_n 2, 1) := by decide +kernel
theorem d_rm_starts_34 : decode rm_starts.2.1 34 = .ok (.iadd, 1) := by decide +kernel
theorem d_rm_starts_35 : decode rm_starts.2.1 35 = .ok (.iaload, 1) := by decide +kernel
theorem d_rm_starts_36 : decode rm_starts.2.1 36 = .ok (.iastore, 1) := by decide +kernel
theorem d_rm_starts_37 : decode rm_starts.2.1 37 = .ok (.iinc 2 1, 3) := by decide +kernel
theorem d_rm_starts_40 : decode rm_starts.2.1 40 = .ok (.goto (-28), 3) := by decide +kernel
theorem d_rm_starts_43 : decode rm_starts.2.1 43 = .ok (.iconst 1, 1) := by decide +kernel
theorem d_rm_starts_44 : decode rm_starts.2.1 44 = .ok (.istore_n 2, 1) := by decide +kernel
theorem d_rm_starts_45 : decode rm_starts.2.1 45 = .ok (.iconst 0, 1) := by decide +kernel
theorem d_rm_starts_46 : decode rm_starts.2.1 46 = .ok (.istore_n 3, 1) := by decide +kernel
theorem d_rm_starts_47 : decode rm_starts.2.1 47 = .ok (.iload_n 3, 1) := by decide +kernel
theorem d_rm_starts_48 : decode rm_starts.2.1 48 = .ok (.aload_n 0, 1) := by decide +kernel
theorem d_rm_starts_49 : decode rm_starts.2.1 49 = .ok (.getfield 88, 3) := by decide +kernel
theorem d_rm_starts_52 : decode rm_starts.2.1 52 = .ok (.iload_n 1, 1) := by decide +kernel
theorem d_rm_starts_53 : decode rm_starts.2.1 53 = .ok (.iaload, 1) := by decide +kernel
theorem d_rm_starts_54 : decode rm_starts.2.1 54 = .ok (.if_icmp .ge 99, 3) := by decide +kernel
theorem d_rm_starts_57 : decode rm_starts.2.1 57 = .ok (.iconst 0, 1) := by decide +kernel
theorem d_rm_starts_58 : decode rm_starts.2.1 58 = .ok (.istore 4, 2) := by decide +kernel
theorem d_rm_starts_60 : decode rm_starts.2.1 60 = .ok (.iload 4, 2) := by decide +kernel
theorem d_rm_starts_62 : decode rm_starts.2.1 62 = .ok (.aload_n 0, 1) := by decide +kernel
theorem d_rm_starts_63 : decode rm_starts.2.1 63 = .ok (.getfield 91, 3) := by decide +kernel
theorem d_rm_starts_66 : decode rm_starts.2.1 66 = .ok (.iload_n 1, 1) := by decide +kernel
theorem d_rm_starts_67 : decode rm_starts.2.1 67 = .ok (.iaload, 1) := by decide +kernel
theorem d_rm_starts_68 : decode rm_starts.2.1 68 = .ok (.if_icmp .ge 79, 3) := by decide +kernel
theorem d_rm_starts_71 : decode rm_starts.2.1 71 = .ok (.bipush 8, 2) := by decide +kernel
theorem d_rm_starts_73 : decode rm_starts.2.1 73 = .ok (.iload_n 3, 1) := by decide +kernel
theorem d_rm_starts_74 : decode rm_starts.2.1 74 = .ok (.imul, 1) := by decide +kernel
theorem d_rm_starts_75 : decode rm_starts.2.1 75 = .ok (.iload 4, 2) := by decide +kernel
theorem d_rm_starts_77 : decode rm_starts.2.1 77 = .ok (.iadd, 1) := by decide +kernel
theorem d_rm_starts_78 : decode rm_starts.2.1 78 = .ok (.istore 5, 2) := by decide +kernel
theorem d_rm_starts_80 : decode rm_starts.2.1 80 = .ok (.aload_n 0, 1) := by decide +kernel
theorem d_rm_starts_81 : decode rm_starts.2.1 81 = .ok (.getfield 103, 3) := by decide +kernel
theorem d_rm_starts_84 : decode rm_starts.2.1 84 = .ok (.iload 5, 2) := by decide +kernel
theorem d_rm_starts_86 : decode rm_starts.2.1 86 = .ok (.iconst 0, 1) := by decide +kernel
theorem d_rm_starts_87 : decode rm_starts.2.1 87 = .ok (.iastore, 1) := by decide +kernel
theorem d_rm_starts_88 : decode rm_starts.2.1 88 = .ok (.aload_n 0, 1) := by decide +kernel
theorem d_rm_starts_89 : decode rm_starts.2.1 89 = .ok (.getfield 97, 3) := by decide +kernel
theorem d_rm_starts_92 : decode rm_starts.2.1 92 = .ok (.bipush 64, 2) := by decide +kernel
theorem d_rm_starts_94 : decode rm_starts.2.1 94 = .ok (.iload_n 1, 1) := by decide +kernel
theorem d_rm_starts_95 : decode rm_starts.2.1 95 = .ok (.imul, 1) := by decide +kernel
theorem d_rm_starts_96 : decode rm_starts.2.1 96 = .ok (.iload 5, 2) := by decide +kernel
theorem d_rm_starts_98 : decode rm_starts.2.1 98 = .ok (.iadd, 1) := by decide +kernel
theorem d_rm_starts_99 : decode rm_starts.2.1 99 = .ok (.iconst 0, 1) := by decide +kernel
theorem d_rm_starts_100 : decode rm_starts.2.1 100 = .ok (.iastore, 1) := by decide +kernel
theorem d_rm_starts_101 : decode rm_starts.2.1 101 = .ok (.aload_n 0, 1) := by decide +kernel
theorem d_rm_starts_102 : decode rm_starts.2.1 102 = .ok (.getfield 94, 3) := by decide +kernel
theorem d_rm_starts_105 : decode rm_starts.2.1 105 = .ok (.bipush 64, 2) := by decide +kernel
theorem d_rm_starts_107 : decode rm_starts.2.1 107 = .ok (.iload_n 1, 1) := by decide +kernel
theorem d_rm_starts_108 : decode rm_starts.2.1 108 = .ok (.imul, 1) := by decide +kernel
theorem d_rm_starts_109 : decode rm_starts.2.1 109 = .ok (.iload 5, 2) := by decide +kernel
theorem d_rm_starts_111 : decode rm_starts.2.1 111 = .ok (.iadd, 1) := by decide +kernel
theorem d_rm_starts_112 : decode rm_starts.2.1 112 = .ok (.iaload, 1) := by decide +kernel
theorem d_rm_starts_113 : decode rm_starts.2.1 113 = .ok (.istore 6, 2) := by decide +kernel
theorem d_rm_starts_115 : decode rm_starts.2.1 115 = .ok (.iload 6, 2) := by decide +kernel
theorem d_rm_starts_117 : decode rm_starts.2.1 117 = .ok (.ifCond .ne 24, 3) := by decide +kernel
theorem d_rm_starts_120 : decode rm_starts.2.1 120 = .ok (.aload_n 0, 1) := by decide +kernel
theorem d_rm_starts_121 : decode rm_starts.2.1 121 = .ok (.getfield 109, 3) := by decide +kernel
theorem d_rm_starts_124 : decode rm_starts.2.1 124 = .ok (.aload_n 0, 1) := by decide +kernel
theorem d_rm_starts_125 : decode rm_starts.2.1 125 = .ok (.getfield 307, 3) := by decide +kernel
theorem d_rm_starts_128 : decode rm_starts.2.1 128 = .ok (.iload 5, 2) := by decide +kernel
theorem d_rm_starts_130 : decode rm_starts.2.1 130 = .ok (.iastore, 1) := by decide +kernel
theorem d_rm_starts_131 : decode rm_starts.2.1 131 = .ok (.aload_n 0, 1) := by decide +kernel
theorem d_rm_starts_132 : decode rm_starts.2.1 132 = .ok (.dup, 1) := by decide +kernel
theorem d_rm_starts_133 : decode rm_starts.2.1 133 = .ok (.getfield 307, 3) := by decide +kernel
theorem d_rm_starts_136 : decode rm_starts.2.1 136 = .ok (.iconst 1, 1) := by decide +kernel
theorem d_rm_starts_137 : decode rm_starts.2.1 137 = .ok (.iadd, 1) := by decide +kernel
theorem d_rm_starts_138 : decode rm_starts.2.1 138 = .ok (.putfield 307, 3) := by decide +kernel
theorem d_rm_starts_141 : decode rm_starts.2.1 141 = .ok (.iinc 4 1, 3) := by decide +kernel
theorem d_rm_starts_144 : decode rm_starts.2.1 144 = .ok (.goto (-84), 3) := by decide +kernel
theorem d_rm_starts_147 : decode rm_starts.2.1 147 = .ok (.iinc 3 1, 3) := by decide +kernel
theorem d_rm_starts_150 : decode rm_starts.2.1 150 = .ok (.goto (-103), 3) := by decide +kernel
theorem d_rm_starts_153 : decode rm_starts.2.1 153 = .ok (.iconst 0, 1) := by decide +kernel
theorem d_rm_starts_154 : decode rm_starts.2.1 154 = .ok (.istore_n 3, 1) := by decide +kernel
theorem d_rm_starts_155 : decode rm_starts.2.1 155 = .ok (.iload_n 3, 1) := by decide +kernel
theorem d_rm_starts_156 : decode rm_starts.2.1 156 = .ok (.bipush 64, 2) := by decide +kernel
theorem d_rm_starts_158 : decode rm_starts.2.1 158 = .ok (.if_icmp .ge 78, 3) := by decide +kernel
theorem d_rm_starts_161 : decode rm_starts.2.1 161 = .ok (.iload_n 3, 1) := by decide +kernel
theorem d_rm_starts_162 : decode rm_starts.2.1 162 = .ok (.bipush 8, 2) := by decide +kernel
theorem d_rm_starts_164 : decode rm_starts.2.1 164 = .ok (.idiv, 1) := by decide +kernel
theorem d_rm_starts_165 : decode rm_starts.2.1 165 = .ok (.aload_n 0, 1) := by decide +kernel
theorem d_rm_starts_166 : decode rm_starts.2.1 166 = .ok (.getfield 88, 3) := by decide +kernel
theorem d_rm_starts_169 : decode rm_starts.2.1 169 = .ok (.iload_n 1, 1) := by decide +kernel
theorem d_rm_starts_170 : decode rm_starts.2.1 170 = .ok (.iaload, 1) := by decide +kernel
theorem d_rm_starts_171 : decode rm_starts.2.1 171 = .ok (.if_icmp .ge 59, 3) := by decide +kernel
theorem d_rm_starts_174 : decode rm_starts.2.1 174 = .ok (.iload_n 3, 1) := by decide +kernel
theorem d_rm_starts_175 : decode rm_starts.2.1 175 = .ok (.bipush 8, 2) := by decide +kernel
theorem d_rm_starts_177 : decode rm_starts.2.1 177 = .ok (.irem, 1) := by decide +kernel
theorem d_rm_starts_178 : decode rm_starts.2.1 178 = .ok (.aload_n 0, 1) := by decide +kernel
theorem d_rm_starts_179 : decode rm_starts.2.1 179 = .ok (.getfield 91, 3) := by decide +kernel
theorem d_rm_starts_182 : decode rm_starts.2.1 182 = .ok (.iload_n 1, 1) := by decide +kernel
theorem d_rm_starts_183 : decode rm_starts.2.1 183 = .ok (.iaload, 1) := by decide +kernel
theorem d_rm_starts_184 : decode rm_starts.2.1 184 = .ok (.if_icmp .ge 46, 3) := by decide +kernel
theorem d_rm_starts_187 : decode rm_starts.2.1 187 = .ok (.aload_n 0, 1) := by decide +kernel
theorem d_rm_starts_188 : decode rm_starts.2.1 188 = .ok (.getfield 94, 3) := by decide +kernel
theorem d_rm_starts_191 : decode rm_starts.2.1 191 = .ok (.bipush 64, 2) := by decide +kernel
theorem d_rm_starts_193 : decode rm_starts.2.1 193 = .ok (.iload_n 1, 1) := by decide +kernel
theorem d_rm_starts_194 : decode rm_starts.2.1 194 = .ok (.imul, 1) := by decide +kernel
theorem d_rm_starts_195 : decode rm_starts.2.1 195 = .ok (.iload_n 3, 1) := by decide +kernel
theorem d_rm_starts_196 : decode rm_starts.2.1 196 = .ok (.iadd, 1) := by decide +kernel
theorem d_rm_starts_197 : decode rm_starts.2.1 197 = .ok (.iaload, 1) := by decide +kernel
theorem d_rm_starts_198 : decode rm_starts.2.1 198 = .ok (.ifCond .le 32, 3) := by decide +kernel
theorem d_rm_starts_201 : decode rm_starts.2.1 201 = .ok (.iload_n 2, 1) := by decide +kernel
theorem d_rm_starts_202 : decode rm_starts.2.1 202 = .ok (.ifCond .eq 26, 3) := by decide +kernel
theorem d_rm_starts_205 : decode rm_starts.2.1 205 = .ok (.aload_n 0, 1) := by decide +kernel
theorem d_rm_starts_206 : decode rm_starts.2.1 206 = .ok (.iload_n 3, 1) := by decide +kernel
theorem d_rm_starts_207 : decode rm_starts.2.1 207 = .ok (.aload_n 0, 1) := by decide +kernel
theorem d_rm_starts_208 : decode rm_starts.2.1 208 = .ok (.getfield 94, 3) := by decide +kernel
theorem d_rm_starts_211 : decode rm_starts.2.1 211 = .ok (.bipush 64, 2) := by decide +kernel
theorem d_rm_starts_213 : decode rm_starts.2.1 213 = .ok (.iload_n 1, 1) := by decide +kernel
theorem d_rm_starts_214 : decode rm_starts.2.1 214 = .ok (.imul, 1) := by decide +kernel
theorem d_rm_starts_215 : decode rm_starts.2.1 215 = .ok (.iload_n 3, 1) := by decide +kernel
theorem d_rm_starts_216 : decode rm_starts.2.1 216 = .ok (.iadd, 1) := by decide +kernel
theorem d_rm_starts_217 : decode rm_starts.2.1 217 = .ok (.iaload, 1) := by decide +kernel
theorem d_rm_starts_218 : decode rm_starts.2.1 218 = .ok (.invokevirtual 300, 3) := by decide +kernel
theorem d_rm_starts_221 : decode rm_starts.2.1 221 = .ok (.ifCond .eq 7, 3) := by decide +kernel
theorem d_rm_starts_224 : decode rm_starts.2.1 224 = .ok (.iconst 1, 1) := by decide +kernel
theorem d_rm_starts_225 : decode rm_starts.2.1 225 = .ok (.goto 4, 3) := by decide +kernel
theorem d_rm_starts_228 : decode rm_starts.2.1 228 = .ok (.iconst 0, 1) := by decide +kernel
theorem d_rm_starts_229 : decode rm_starts.2.1 229 = .ok (.istore_n 2, 1) := by decide +kernel
theorem d_rm_starts_230 : decode rm_starts.2.1 230 = .ok (.iinc 3 1, 3) := by decide +kernel
theorem d_rm_starts_233 : decode rm_starts.2.1 233 = .ok (.goto (-78), 3) := by decide +kernel
theorem d_rm_starts_236 : decode rm_starts.2.1 236 = .ok (.iload_n 2, 1) := by decide +kernel
theorem d_rm_starts_237 : decode rm_starts.2.1 237 = .ok (.ireturn, 1) := by decide +kernel
theorem d_rm_show_0 : decode rm_show.2.1 0 = .ok (.iconst 0, 1) := by decide +kernel
theorem d_rm_show_1 : decode rm_show.2.1 1 = .ok (.istore_n 1, 1) := by decide +kernel
theorem d_rm_show_2 : decode rm_show.2.1 2 = .ok (.iload_n 1, 1) := by decide +kernel
theorem d_rm_show_3 : decode rm_show.2.1 3 = .ok (.aload_n 0, 1) := by decide +kernel
theorem d_rm_show_4 : decode rm_show.2.1 4 = .ok (.getfield 307, 3) := by decide +kernel
theorem d_rm_show_7 : decode rm_show.2.1 7 = .ok (.if_icmp .ge 39, 3) := by decide +kernel
theorem d_rm_show_10 : decode rm_show.2.1 10 = .ok (.aload_n 0, 1) := by decide +kernel
theorem d_rm_show_11 : decode rm_show.2.1 11 = .ok (.getfield 97, 3) := by decide +kernel
theorem d_rm_show_14 : decode rm_show.2.1 14 = .ok (.bipush 64, 2) := by decide +kernel
theorem d_rm_show_16 : decode rm_show.2.1 16 = .ok (.aload_n 0, 1) := by decide +kernel
theorem d_rm_show_17 : decode rm_show.2.1 17 = .ok (.getfield 294, 3) := by decide +kernel
theorem d_rm_show_20 : decode rm_show.2.1 20 = .ok (.imul, 1) := by decide +kernel
theorem d_rm_show_21 : decode rm_show.2.1 21 = .ok (.aload_n 0, 1) := by decide +kernel
theorem d_rm_show_22 : decode rm_show.2.1 22 = .ok (.getfield 109, 3) := by decide +kernel
theorem d_rm_show_25 : decode rm_show.2.1 25 = .ok (.iload_n 1, 1) := by decide +kernel
theorem d_rm_show_26 : decode rm_show.2.1 26 = .ok (.iaload, 1) := by decide +kernel
theorem d_rm_show_27 : decode rm_show.2.1 27 = .ok (.iadd, 1) := by decide +kernel
theorem d_rm_show_28 : decode rm_show.2.1 28 = .ok (.aload_n 0, 1) := by decide +kernel
theorem d_rm_show_29 : decode rm_show.2.1 29 = .ok (.getfield 103, 3) := by decide +kernel
theorem d_rm_show_32 : decode rm_show.2.1 32 = .ok (.aload_n 0, 1) := by decide +kernel
theorem d_rm_show_33 : decode rm_show.2.1 33 = .ok (.getfield 109, 3) := by decide +kernel
theorem d_rm_show_36 : decode rm_show.2.1 36 = .ok (.iload_n 1, 1) := by decide +kernel
theorem d_rm_show_37 : decode rm_show.2.1 37 = .ok (.iaload, 1) := by decide +kernel
theorem d_rm_show_38 : decode rm_show.2.1 38 = .ok (.iaload, 1) := by decide +kernel
theorem d_rm_show_39 : decode rm_show.2.1 39 = .ok (.iastore, 1) := by decide +kernel
theorem d_rm_show_40 : decode rm_show.2.1 40 = .ok (.iinc 1 1, 3) := by decide +kernel
theorem d_rm_show_43 : decode rm_show.2.1 43 = .ok (.goto (-41), 3) := by decide +kernel
theorem d_rm_show_46 : decode rm_show.2.1 46 = .ok (.return_, 1) := by decide +kernel
theorem d_rm_nextPlace_0 : decode rm_nextPlace.2.1 0 = .ok (.iconst (-1), 1) := by decide +kernel
theorem d_rm_nextPlace_1 : decode rm_nextPlace.2.1 1 = .ok (.istore_n 1, 1) := by decide +kernel
theorem d_rm_nextPlace_2 : decode rm_nextPlace.2.1 2 = .ok (.iconst 0, 1) := by decide +kernel
theorem d_rm_nextPlace_3 : decode rm_nextPlace.2.1 3 = .ok (.istore_n 2, 1) := by decide +kernel
theorem d_rm_nextPlace_4 : decode rm_nextPlace.2.1 4 = .ok (.iconst 0, 1) := by decide +kernel
theorem d_rm_nextPlace_5 : decode rm_nextPlace.2.1 5 = .ok (.istore_n 3, 1) := by decide +kernel
theorem d_rm_nextPlace_6 : decode rm_nextPlace.2.1 6 = .ok (.iload_n 3, 1) := by decide +kernel
theorem d_rm_nextPlace_7 : decode rm_nextPlace.2.1 7 = .ok (.aload_n 0, 1) := by decide +kernel
theorem d_rm_nextPlace_8 : decode rm_nextPlace.2.1 8 = .ok (.getfield 307, 3) := by decide +kernel
theorem d_rm_nextPlace_11 : decode rm_nextPlace.2.1 11 = .ok (.if_icmp .ge 58, 3) := by decide +kernel
theorem d_rm_nextPlace_14 : decode rm_nextPlace.2.1 14 = .ok (.aload_n 0, 1) := by decide +kernel
theorem d_rm_nextPlace_15 : decode rm_nextPlace.2.1 15 = .ok (.getfield 103, 3) := by decide +kernel
theorem d_rm_nextPlace_18 : decode rm_nextPlace.2.1 18 = .ok (.aload_n 0, 1) := by decide +kernel
theorem d_rm_nextPlace_19 : decode rm_nextPlace.2.1 19 = .ok (.getfield 109, 3) := by decide +kernel
theorem d_rm_nextPlace_22 : decode rm_nextPlace.2.1 22 = .ok (.iload_n 3, 1) := by decide +kernel
theorem d_rm_nextPlace_23 : decode rm_nextPlace.2.1 23 = .ok (.iaload, 1) := by decide +kernel
theorem d_rm_nextPlace_24 : decode rm_nextPlace.2.1 24 = .ok (.iaload, 1) := by decide +kernel
theorem d_rm_nextPlace_25 : decode rm_nextPlace.2.1 25 = .ok (.ifCond .eq 6, 3) := by decide +kernel
theorem d_rm_nextPlace_28 : decode rm_nextPlace.2.1 28 = .ok (.goto 35, 3) := by decide +kernel
theorem d_rm_nextPlace_31 : decode rm_nextPlace.2.1 31 = .ok (.aload_n 0, 1) := by decide +kernel
theorem d_rm_nextPlace_32 : decode rm_nextPlace.2.1 32 = .ok (.aload_n 0, 1) := by decide +kernel
theorem d_rm_nextPlace_33 : decode rm_nextPlace.2.1 33 = .ok (.getfield 109, 3) := by decide +kernel
theorem d_rm_nextPlace_36 : decode rm_nextPlace.2.1 36 = .ok (.iload_n 3, 1) := by decide +kernel
theorem d_rm_nextPlace_37 : decode rm_nextPlace.2.1 37 = .ok (.iaload, 1) := by decide +kernel
theorem d_rm_nextPlace_38 : decode rm_nextPlace.2.1 38 = .ok (.invokevirtual 310, 3) := by decide +kernel
theorem d_rm_nextPlace_41 : decode rm_nextPlace.2.1 41 = .ok (.istore 4, 2) := by decide +kernel
theorem d_rm_nextPlace_43 : decode rm_nextPlace.2.1 43 = .ok (.iload_n 1, 1) := by decide +kernel
theorem d_rm_nextPlace_44 : decode rm_nextPlace.2.1 44 = .ok (.ifCond .lt 9, 3) := by decide +kernel
theorem d_rm_nextPlace_47 : decode rm_nextPlace.2.1 47 = .ok (.iload 4, 2) := by decide +kernel
theorem d_rm_nextPlace_49 : decode rm_nextPlace.2.1 49 = .ok (.iload_n 2, 1) := by decide +kernel
theorem d_rm_nextPlace_50 : decode rm_nextPlace.2.1 50 = .ok (.if_icmp .ge 13, 3) := by decide +kernel
theorem d_rm_nextPlace_53 : decode rm_nextPlace.2.1 53 = .ok (.aload_n 0, 1) := by decide +kernel
theorem d_rm_nextPlace_54 : decode rm_nextPlace.2.1 54 = .ok (.getfield 109, 3) := by decide +kernel
theorem d_rm_nextPlace_57 : decode rm_nextPlace.2.1 57 = .ok (.iload_n 3, 1) := by decide +kernel
theorem d_rm_nextPlace_58 : decode rm_nextPlace.2.1 58 = .ok (.iaload, 1) := by decide +kernel
theorem d_rm_nextPlace_59 : decode rm_nextPlace.2.1 59 = .ok (.istore_n 1, 1) := by decide +kernel
theorem d_rm_nextPlace_60 : decode rm_nextPlace.2.1 60 = .ok (.iload 4, 2) := by decide +kernel
theorem d_rm_nextPlace_62 : decode rm_nextPlace.2.1 62 = .ok (.istore_n 2, 1) := by decide +kernel
theorem d_rm_nextPlace_63 : decode rm_nextPlace.2.1 63 = .ok (.iinc 3 1, 3) := by decide +kernel
theorem d_rm_nextPlace_66 : decode rm_nextPlace.2.1 66 = .ok (.goto (-60), 3) := by decide +kernel
theorem d_rm_nextPlace_69 : decode rm_nextPlace.2.1 69 = .ok (.iload_n 1, 1) := by decide +kernel
theorem d_rm_nextPlace_70 : decode rm_nextPlace.2.1 70 = .ok (.ireturn, 1) := by decide +kernel
theorem d_rm_lay_0 : decode rm_lay.2.1 0 = .ok (.aload_n 0, 1) := by decide +kernel
theorem d_rm_lay_1 : decode rm_lay.2.1 1 = .ok (.getfield 103, 3) := by decide +kernel
theorem d_rm_lay_4 : decode rm_lay.2.1 4 = .ok (.iload_n 1, 1) := by decide +kernel
theorem d_rm_lay_5 : decode rm_lay.2.1 5 = .ok (.iload_n 2, 1) := by decide +kernel
theorem d_rm_lay_6 : decode rm_lay.2.1 6 = .ok (.bipush 8, 2) := by decide +kernel
theorem d_rm_lay_8 : decode rm_lay.2.1 8 = .ok (.idiv, 1) := by decide +kernel
theorem d_rm_lay_9 : decode rm_lay.2.1 9 = .ok (.iload_n 2, 1) := by decide +kernel
theorem d_rm_lay_10 : decode rm_lay.2.1 10 = .ok (.bipush 8, 2) := by decide +kernel
theorem d_rm_lay_12 : decode rm_lay.2.1 12 = .ok (.irem, 1) := by decide +kernel
theorem d_rm_lay_13 : decode rm_lay.2.1 13 = .ok (.iconst 0, 1) := by decide +kernel
theorem d_rm_lay_14 : decode rm_lay.2.1 14 = .ok (.invokestatic 166, 3) := by decide +kernel
theorem d_rm_lay_17 : decode rm_lay.2.1 17 = .ok (.iastore, 1) := by decide +kernel
theorem d_rm_lay_18 : decode rm_lay.2.1 18 = .ok (.aload_n 0, 1) := by decide +kernel
theorem d_rm_lay_19 : decode rm_lay.2.1 19 = .ok (.getfield 106, 3) := by decide +kernel
theorem d_rm_lay_22 : decode rm_lay.2.1 22 = .ok (.iload_n 2, 1) := by decide +kernel
theorem d_rm_lay_23 : decode rm_lay.2.1 23 = .ok (.bipush 8, 2) := by decide +kernel
theorem d_rm_lay_25 : decode rm_lay.2.1 25 = .ok (.idiv, 1) := by decide +kernel
theorem d_rm_lay_26 : decode rm_lay.2.1 26 = .ok (.dup2, 1) := by decide +kernel
theorem d_rm_lay_27 : decode rm_lay.2.1 27 = .ok (.iaload, 1) := by decide +kernel
theorem d_rm_lay_28 : decode rm_lay.2.1 28 = .ok (.iconst 1, 1) := by decide +kernel
theorem d_rm_lay_29 : decode rm_lay.2.1 29 = .ok (.isub, 1) := by decide +kernel
theorem d_rm_lay_30 : decode rm_lay.2.1 30 = .ok (.iastore, 1) := by decide +kernel
theorem d_rm_lay_31 : decode rm_lay.2.1 31 = .ok (.aload_n 0, 1) := by decide +kernel
theorem d_rm_lay_32 : decode rm_lay.2.1 32 = .ok (.dup, 1) := by decide +kernel
theorem d_rm_lay_33 : decode rm_lay.2.1 33 = .ok (.getfield 313, 3) := by decide +kernel
theorem d_rm_lay_36 : decode rm_lay.2.1 36 = .ok (.aload_n 0, 1) := by decide +kernel
theorem d_rm_lay_37 : decode rm_lay.2.1 37 = .ok (.getfield 16, 3) := by decide +kernel
theorem d_rm_lay_40 : decode rm_lay.2.1 40 = .ok (.iload_n 2, 1) := by decide +kernel
theorem d_rm_lay_41 : decode rm_lay.2.1 41 = .ok (.bipush 8, 2) := by decide +kernel
theorem d_rm_lay_43 : decode rm_lay.2.1 43 = .ok (.idiv, 1) := by decide +kernel
theorem d_rm_lay_44 : decode rm_lay.2.1 44 = .ok (.iaload, 1) := by decide +kernel
theorem d_rm_lay_45 : decode rm_lay.2.1 45 = .ok (.iadd, 1) := by decide +kernel
theorem d_rm_lay_46 : decode rm_lay.2.1 46 = .ok (.putfield 313, 3) := by decide +kernel
theorem d_rm_lay_49 : decode rm_lay.2.1 49 = .ok (.return_, 1) := by decide +kernel
theorem d_rm_takeBack_0 : decode rm_takeBack.2.1 0 = .ok (.aload_n 0, 1) := by decide +kernel
theorem d_rm_takeBack_1 : decode rm_takeBack.2.1 1 = .ok (.getfield 103, 3) := by decide +kernel
theorem d_rm_takeBack_4 : decode rm_takeBack.2.1 4 = .ok (.iload_n 1, 1) := by decide +kernel
theorem d_rm_takeBack_5 : decode rm_takeBack.2.1 5 = .ok (.iaload, 1) := by decide +kernel
theorem d_rm_takeBack_6 : decode rm_takeBack.2.1 6 = .ok (.invokestatic 156, 3) := by decide +kernel
theorem d_rm_takeBack_9 : decode rm_takeBack.2.1 9 = .ok (.istore_n 2, 1) := by decide +kernel
theorem d_rm_takeBack_10 : decode rm_takeBack.2.1 10 = .ok (.aload_n 0, 1) := by decide +kernel
theorem d_rm_takeBack_11 : decode rm_takeBack.2.1 11 = .ok (.getfield 103, 3) := by decide +kernel
theorem d_rm_takeBack_14 : decode rm_takeBack.2.1 14 = .ok (.iload_n 1, 1) := by decide +kernel
theorem d_rm_takeBack_15 : decode rm_takeBack.2.1 15 = .ok (.iconst 0, 1) := by decide +kernel
theorem d_rm_takeBack_16 : decode rm_takeBack.2.1 16 = .ok (.iastore, 1) := by decide +kernel
theorem d_rm_takeBack_17 : decode rm_takeBack.2.1 17 = .ok (.aload_n 0, 1) := by decide +kernel
theorem d_rm_takeBack_18 : decode rm_takeBack.2.1 18 = .ok (.getfield 106, 3) := by decide +kernel
theorem d_rm_takeBack_21 : decode rm_takeBack.2.1 21 = .ok (.iload_n 2, 1) := by decide +kernel
theorem d_rm_takeBack_22 : decode rm_takeBack.2.1 22 = .ok (.dup2, 1) := by decide +kernel
theorem d_rm_takeBack_23 : decode rm_takeBack.2.1 23 = .ok (.iaload, 1) := by decide +kernel
theorem d_rm_takeBack_24 : decode rm_takeBack.2.1 24 = .ok (.iconst 1, 1) := by decide +kernel
theorem d_rm_takeBack_25 : decode rm_takeBack.2.1 25 = .ok (.iadd, 1) := by decide +kernel
theorem d_rm_takeBack_26 : decode rm_takeBack.2.1 26 = .ok (.iastore, 1) := by decide +kernel
theorem d_rm_takeBack_27 : decode rm_takeBack.2.1 27 = .ok (.aload_n 0, 1) := by decide +kernel
theorem d_rm_takeBack_28 : decode rm_takeBack.2.1 28 = .ok (.dup, 1) := by decide +kernel
theorem d_rm_takeBack_29 : decode rm_takeBack.2.1 29 = .ok (.getfield 313, 3) := by decide +kernel
theorem d_rm_takeBack_32 : decode rm_takeBack.2.1 32 = .ok (.aload_n 0, 1) := by decide +kernel
theorem d_rm_takeBack_33 : decode rm_takeBack.2.1 33 = .ok (.getfield 16, 3) := by decide +kernel
theorem d_rm_takeBack_36 : decode rm_takeBack.2.1 36 = .ok (.iload_n 2, 1) := by decide +kernel
theorem d_rm_takeBack_37 : decode rm_takeBack.2.1 37 = .ok (.iaload, 1) := by decide +kernel
theorem d_rm_takeBack_38 : decode rm_takeBack.2.1 38 = .ok (.isub, 1) := by decide +kernel
theorem d_rm_takeBack_39 : decode rm_takeBack.2.1 39 = .ok (.putfield 313, 3) := by decide +kernel
theorem d_rm_takeBack_42 : decode rm_takeBack.2.1 42 = .ok (.return_, 1) := by decide +kernel
theorem d_rm_leastCost_0 : decode rm_leastCost.2.1 0 = .ok (.iconst 0, 1) := by decide +kernel
theorem d_rm_leastCost_1 : decode rm_leastCost.2.1 1 = .ok (.istore_n 1, 1) := by decide +kernel
theorem d_rm_leastCost_2 : decode rm_leastCost.2.1 2 = .ok (.iconst 0, 1) := by decide +kernel
theorem d_rm_leastCost_3 : decode rm_leastCost.2.1 3 = .ok (.istore_n 2, 1) := by decide +kernel
theorem d_rm_leastCost_4 : decode rm_leastCost.2.1 4 = .ok (.iconst 0, 1) := by decide +kernel
theorem d_rm_leastCost_5 : decode rm_leastCost.2.1 5 = .ok (.istore_n 3, 1) := by decide +kernel
theorem d_rm_leastCost_6 : decode rm_leastCost.2.1 6 = .ok (.iload_n 3, 1) := by decide +kernel
theorem d_rm_leastCost_7 : decode rm_leastCost.2.1 7 = .ok (.aload_n 0, 1) := by decide +kernel
theorem d_rm_leastCost_8 : decode rm_leastCost.2.1 8 = .ok (.getfield 128, 3) := by decide +kernel
theorem d_rm_leastCost_11 : decode rm_leastCost.2.1 11 = .ok (.if_icmp .ge 52, 3) := by decide +kernel
theorem d_rm_leastCost_14 : decode rm_leastCost.2.1 14 = .ok (.aload_n 0, 1) := by decide +kernel
theorem d_rm_leastCost_15 : decode rm_leastCost.2.1 15 = .ok (.getfield 100, 3) := by decide +kernel
theorem d_rm_leastCost_18 : decode rm_leastCost.2.1 18 = .ok (.bipush 40, 2) := by decide +kernel
theorem d_rm_leastCost_20 : decode rm_leastCost.2.1 20 = .ok (.aload_n 0, 1) := by decide +kernel
theorem d_rm_leastCost_21 : decode rm_leastCost.2.1 21 = .ok (.getfield 294, 3) := by decide +kernel
theorem d_rm_leastCost_24 : decode rm_leastCost.2.1 24 = .ok (.imul, 1) := by decide +kernel
theorem d_rm_leastCost_25 : decode rm_leastCost.2.1 25 = .ok (.iload_n 3, 1) := by decide +kernel
theorem d_rm_leastCost_26 : decode rm_leastCost.2.1 26 = .ok (.iadd, 1) := by decide +kernel
theorem d_rm_leastCost_27 : decode rm_leastCost.2.1 27 = .ok (.iaload, 1) := by decide +kernel
theorem d_rm_leastCost_28 : decode rm_leastCost.2.1 28 = .ok (.ifCond .eq 29, 3) := by decide +kernel
theorem d_rm_leastCost_31 : decode rm_leastCost.2.1 31 = .ok (.iload_n 2, 1) := by decide +kernel
theorem d_rm_leastCost_32 : decode rm_leastCost.2.1 32 = .ok (.ifCond .eq 16, 3) := by decide +kernel
theorem d_rm_leastCost_35 : decode rm_leastCost.2.1 35 = .ok (.aload_n 0, 1) := by decide +kernel
theorem d_rm_leastCost_36 : decode rm_leastCost.2.1 36 = .ok (.getfield 16, 3) := by decide +kernel
theorem d_rm_leastCost_39 : decode rm_leastCost.2.1 39 = .ok (.iload_n 3, 1) := by decide +kernel
theorem d_rm_leastCost_40 : decode rm_leastCost.2.1 40 = .ok (.iaload, 1) := by decide +kernel
theorem d_rm_leastCost_41 : decode rm_leastCost.2.1 41 = .ok (.iload_n 1, 1) := by decide +kernel
theorem d_rm_leastCost_42 : decode rm_leastCost.2.1 42 = .ok (.if_icmp .lt 6, 3) := by decide +kernel
theorem d_rm_leastCost_45 : decode rm_leastCost.2.1 45 = .ok (.goto 12, 3) := by decide +kernel
theorem d_rm_leastCost_48 : decode rm_leastCost.2.1 48 = .ok (.aload_n 0, 1) := by decide +kernel
theorem d_rm_leastCost_49 : decode rm_leastCost.2.1 49 = .ok (.getfield 16, 3) := by decide +kernel
theorem d_rm_leastCost_52 : decode rm_leastCost.2.1 52 = .ok (.iload_n 3, 1) := by decide +kernel
theorem d_rm_leastCost_53 : decode rm_leastCost.2.1 53 = .ok (.iaload, 1) := by decide +kernel
theorem d_rm_leastCost_54 : decode rm_leastCost.2.1 54 = .ok (.istore_n 1, 1) := by decide +kernel
theorem d_rm_leastCost_55 : decode rm_leastCost.2.1 55 = .ok (.iconst 1, 1) := by decide +kernel
theorem d_rm_leastCost_56 : decode rm_leastCost.2.1 56 = .ok (.istore_n 2, 1) := by decide +kernel
theorem d_rm_leastCost_57 : decode rm_leastCost.2.1 57 = .ok (.iinc 3 1, 3) := by decide +kernel
theorem d_rm_leastCost_60 : decode rm_leastCost.2.1 60 = .ok (.goto (-54), 3) := by decide +kernel
theorem d_rm_leastCost_63 : decode rm_leastCost.2.1 63 = .ok (.iload_n 1, 1) := by decide +kernel
theorem d_rm_leastCost_64 : decode rm_leastCost.2.1 64 = .ok (.ireturn, 1) := by decide +kernel
theorem d_rm_search_0 : decode rm_search.2.1 0 = .ok (.aload_n 0, 1) := by decide +kernel
theorem d_rm_search_1 : decode rm_search.2.1 1 = .ok (.iconst 0, 1) := by decide +kernel
theorem d_rm_search_2 : decode rm_search.2.1 2 = .ok (.putfield 316, 3) := by decide +kernel
theorem d_rm_search_5 : decode rm_search.2.1 5 = .ok (.aload_n 0, 1) := by decide +kernel
theorem d_rm_search_6 : decode rm_search.2.1 6 = .ok (.iconst 0, 1) := by decide +kernel
theorem d_rm_search_7 : decode rm_search.2.1 7 = .ok (.putfield 319, 3) := by decide +kernel
theorem d_rm_search_10 : decode rm_search.2.1 10 = .ok (.aload_n 0, 1) := by decide +kernel
theorem d_rm_search_11 : decode rm_search.2.1 11 = .ok (.iconst 0, 1) := by decide +kernel
theorem d_rm_search_12 : decode rm_search.2.1 12 = .ok (.putfield 313, 3) := by decide +kernel
theorem d_rm_search_15 : decode rm_search.2.1 15 = .ok (.aload_n 0, 1) := by decide +kernel
theorem d_rm_search_16 : decode rm_search.2.1 16 = .ok (.iconst (-1), 1) := by decide +kernel
theorem d_rm_search_17 : decode rm_search.2.1 17 = .ok (.putfield 322, 3) := by decide +kernel
theorem d_rm_search_20 : decode rm_search.2.1 20 = .ok (.aload_n 0, 1) := by decide +kernel
theorem d_rm_search_21 : decode rm_search.2.1 21 = .ok (.iconst 0, 1) := by decide +kernel
theorem d_rm_search_22 : decode rm_search.2.1 22 = .ok (.putfield 325, 3) := by decide +kernel
theorem d_rm_search_25 : decode rm_search.2.1 25 = .ok (.aload_n 0, 1) := by decide +kernel
theorem d_rm_search_26 : decode rm_search.2.1 26 = .ok (.iconst 0, 1) := by decide +kernel
theorem d_rm_search_27 : decode rm_search.2.1 27 = .ok (.putfield 329, 3) := by decide +kernel
theorem d_rm_search_30 : decode rm_search.2.1 30 = .ok (.iload_n 2, 1) := by decide +kernel
theorem d_rm_search_31 : decode rm_search.2.1 31 = .ok (.ifCond .eq 10, 3) := by decide +kernel
theorem d_rm_search_34 : decode rm_search.2.1 34 = .ok (.aload_n 0, 1) := by decide +kernel
theorem d_rm_search_35 : decode rm_search.2.1 35 = .ok (.invokevirtual 332, 3) := by decide +kernel
theorem d_rm_search_38 : decode rm_search.2.1 38 = .ok (.goto 4, 3) := by decide +kernel
theorem d_rm_search_41 : decode rm_search.2.1 41 = .ok (.iconst 0, 1) := by decide +kernel
theorem d_rm_search_42 : decode rm_search.2.1 42 = .ok (.istore_n 3, 1) := by decide +kernel
theorem d_rm_search_43 : decode rm_search.2.1 43 = .ok (.iconst 1, 1) := by decide +kernel
theorem d_rm_search_44 : decode rm_search.2.1 44 = .ok (.istore 4, 2) := by decide +kernel
theorem d_rm_search_46 : decode rm_search.2.1 46 = .ok (.aload_n 0, 1) := by decide +kernel
theorem d_rm_search_47 : decode rm_search.2.1 47 = .ok (.getfield 319, 3) := by decide +kernel
theorem d_rm_search_50 : decode rm_search.2.1 50 = .ok (.iload_n 1, 1) := by decide +kernel
theorem d_rm_search_51 : decode rm_search.2.1 51 = .ok (.if_icmp .ge 326, 3) := by decide +kernel
theorem d_rm_search_54 : decode rm_search.2.1 54 = .ok (.aload_n 0, 1) := by decide +kernel
theorem d_rm_search_55 : decode rm_search.2.1 55 = .ok (.getfield 325, 3) := by decide +kernel
theorem d_rm_search_58 : decode rm_search.2.1 58 = .ok (.ifCond .ne 319, 3) := by decide +kernel
theorem d_rm_search_61 : decode rm_search.2.1 61 = .ok (.iload 4, 2) := by decide +kernel
theorem d_rm_search_63 : decode rm_search.2.1 63 = .ok (.ifCond .ne 10, 3) := by decide +kernel
theorem d_rm_search_66 : decode rm_search.2.1 66 = .ok (.aload_n 0, 1) := by decide +kernel
theorem d_rm_search_67 : decode rm_search.2.1 67 = .ok (.getfield 329, 3) := by decide +kernel
theorem d_rm_search_70 : decode rm_search.2.1 70 = .ok (.ifCond .le 307, 3) := by decide +kernel
theorem d_rm_search_73 : decode rm_search.2.1 73 = .ok (.iload 4, 2) := by decide +kernel
theorem d_rm_search_75 : decode rm_search.2.1 75 = .ok (.ifCond .eq 73, 3) := by decide +kernel
theorem d_rm_search_78 : decode rm_search.2.1 78 = .ok (.aload_n 0, 1) := by decide +kernel
theorem d_rm_search_79 : decode rm_search.2.1 79 = .ok (.invokevirtual 335, 3) := by decide +kernel
theorem d_rm_search_82 : decode rm_search.2.1 82 = .ok (.istore 5, 2) := by decide +kernel
theorem d_rm_search_84 : decode rm_search.2.1 84 = .ok (.iload 5, 2) := by decide +kernel
theorem d_rm_search_86 : decode rm_search.2.1 86 = .ok (.ifCond .ge 31, 3) := by decide +kernel
theorem d_rm_search_89 : decode rm_search.2.1 89 = .ok (.aload_n 0, 1) := by decide +kernel
theorem d_rm_search_90 : decode rm_search.2.1 90 = .ok (.dup, 1) := by decide +kernel
theorem d_rm_search_91 : decode rm_search.2.1 91 = .ok (.getfield 319, 3) := by decide +kernel
theorem d_rm_search_94 : decode rm_search.2.1 94 = .ok (.iconst 1, 1) := by decide +kernel
theorem d_rm_search_95 : decode rm_search.2.1 95 = .ok (.iadd, 1) := by decide +kernel
theorem d_rm_search_96 : decode rm_search.2.1 96 = .ok (.putfield 319, 3) := by decide +kernel
theorem d_rm_search_99 : decode rm_search.2.1 99 = .ok (.aload_n 0, 1) := by decide +kernel
theorem d_rm_search_100 : decode rm_search.2.1 100 = .ok (.aload_n 0, 1) := by decide +kernel
theorem d_rm_search_101 : decode rm_search.2.1 101 = .ok (.getfield 313, 3) := by decide +kernel
theorem d_rm_search_104 : decode rm_search.2.1 104 = .ok (.putfield 322, 3) := by decide +kernel
theorem d_rm_search_107 : decode rm_search.2.1 107 = .ok (.aload_n 0, 1) := by decide +kernel
theorem d_rm_search_108 : decode rm_search.2.1 108 = .ok (.invokevirtual 338, 3) := by decide +kernel
theorem d_rm_search_111 : decode rm_search.2.1 111 = .ok (.iconst 0, 1) := by decide +kernel
theorem d_rm_search_112 : decode rm_search.2.1 112 = .ok (.istore 4, 2) := by decide +kernel
theorem d_rm_search_114 : decode rm_search.2.1 114 = .ok (.goto (-68), 3) := by decide +kernel
theorem d_rm_search_117 : decode rm_search.2.1 117 = .ok (.aload_n 0, 1) := by decide +kernel
theorem d_rm_search_118 : decode rm_search.2.1 118 = .ok (.getfield 112, 3) := by decide +kernel
theorem d_rm_search_121 : decode rm_search.2.1 121 = .ok (.aload_n 0, 1) := by decide +kernel
theorem d_rm_search_122 : decode rm_search.2.1 122 = .ok (.getfield 329, 3) := by decide +kernel
theorem d_rm_search_125 : decode rm_search.2.1 125 = .ok (.iload 5, 2) := by decide +kernel
theorem d_rm_search_127 : decode rm_search.2.1 127 = .ok (.iastore, 1) := by decide +kernel
theorem d_rm_search_128 : decode rm_search.2.1 128 = .ok (.aload_n 0, 1) := by decide +kernel
theorem d_rm_search_129 : decode rm_search.2.1 129 = .ok (.getfield 115, 3) := by decide +kernel
theorem d_rm_search_132 : decode rm_search.2.1 132 = .ok (.aload_n 0, 1) := by decide +kernel
theorem d_rm_search_133 : decode rm_search.2.1 133 = .ok (.getfield 329, 3) := by decide +kernel
theorem d_rm_search_136 : decode rm_search.2.1 136 = .ok (.iconst (-1), 1) := by decide +kernel
theorem d_rm_search_137 : decode rm_search.2.1 137 = .ok (.iastore, 1) := by decide +kernel
theorem d_rm_search_138 : decode rm_search.2.1 138 = .ok (.aload_n 0, 1) := by decide +kernel
theorem d_rm_search_139 : decode rm_search.2.1 139 = .ok (.dup, 1) := by decide +kernel
theorem d_rm_search_140 : decode rm_search.2.1 140 = .ok (.getfield 329, 3) := by decide +kernel
theorem d_rm_search_143 : decode rm_search.2.1 143 = .ok (.iconst 1, 1) := by decide +kernel
theorem d_rm_search_144 : decode rm_search.2.1 144 = .ok (.iadd, 1) := by decide +kernel
theorem d_rm_search_145 : decode rm_search.2.1 145 = .ok (.putfield 329, 3) := by decide +kernel
theorem d_rm_search_148 : decode rm_search.2.1 148 = .ok (.aload_n 0, 1) := by decide +kernel
theorem d_rm_search_149 : decode rm_search.2.1 149 = .ok (.getfield 329, 3) := by decide +kernel
theorem d_rm_search_152 : decode rm_search.2.1 152 = .ok (.iconst 1, 1) := by decide +kernel
theorem d_rm_search_153 : decode rm_search.2.1 153 = .ok (.isub, 1) := by decide +kernel
theorem d_rm_search_154 : decode rm_search.2.1 154 = .ok (.istore 5, 2) := by decide +kernel
theorem d_rm_search_156 : decode rm_search.2.1 156 = .ok (.aload_n 0, 1) := by decide +kernel
theorem d_rm_search_157 : decode rm_search.2.1 157 = .ok (.getfield 103, 3) := by decide +kernel
theorem d_rm_search_160 : decode rm_search.2.1 160 = .ok (.aload_n 0, 1) := by decide +kernel
theorem d_rm_search_161 : decode rm_search.2.1 161 = .ok (.getfield 112, 3) := by decide +kernel
theorem d_rm_search_164 : decode rm_search.2.1 164 = .ok (.iload 5, 2) := by decide +kernel
theorem d_rm_search_166 : decode rm_search.2.1 166 = .ok (.iaload, 1) := by decide +kernel
theorem d_rm_search_167 : decode rm_search.2.1 167 = .ok (.iaload, 1) := by decide +kernel
theorem d_rm_search_168 : decode rm_search.2.1 168 = .ok (.ifCond .eq 14, 3) := by decide +kernel
theorem d_rm_search_171 : decode rm_search.2.1 171 = .ok (.aload_n 0, 1) := by decide +kernel
theorem d_rm_search_172 : decode rm_search.2.1 172 = .ok (.aload_n 0, 1) := by decide +kernel
theorem d_rm_search_173 : decode rm_search.2.1 173 = .ok (.getfield 112, 3) := by decide +kernel
theorem d_rm_search_176 : decode rm_search.2.1 176 = .ok (.iload 5, 2) := by decide +kernel
theorem d_rm_search_178 : decode rm_search.2.1 178 = .ok (.iaload, 1) := by decide +kernel
theorem d_rm_search_179 : decode rm_search.2.1 179 = .ok (.invokevirtual 341, 3) := by decide +kernel
theorem d_rm_search_182 : decode rm_search.2.1 182 = .ok (.aload_n 0, 1) := by decide +kernel
theorem d_rm_search_183 : decode rm_search.2.1 183 = .ok (.aload_n 0, 1) := by decide +kernel
theorem d_rm_search_184 : decode rm_search.2.1 184 = .ok (.getfield 112, 3) := by decide +kernel
theorem d_rm_search_187 : decode rm_search.2.1 187 = .ok (.iload 5, 2) := by decide +kernel
theorem d_rm_search_189 : decode rm_search.2.1 189 = .ok (.iaload, 1) := by decide +kernel
theorem d_rm_search_190 : decode rm_search.2.1 190 = .ok (.aload_n 0, 1) := by decide +kernel
theorem d_rm_search_191 : decode rm_search.2.1 191 = .ok (.getfield 115, 3) := by decide +kernel
theorem d_rm_search_194 : decode rm_search.2.1 194 = .ok (.iload 5, 2) := by decide +kernel
theorem d_rm_search_196 : decode rm_search.2.1 196 = .ok (.iaload, 1) := by decide +kernel
theorem d_rm_search_197 : decode rm_search.2.1 197 = .ok (.iconst 1, 1) := by decide +kernel
theorem d_rm_search_198 : decode rm_search.2.1 198 = .ok (.iadd, 1) := by decide +kernel
theorem d_rm_search_199 : decode rm_search.2.1 199 = .ok (.invokevirtual 304, 3) := by decide +kernel
theorem d_rm_search_202 : decode rm_search.2.1 202 = .ok (.istore 6, 2) := by decide +kernel
theorem d_rm_search_204 : decode rm_search.2.1 204 = .ok (.iload 6, 2) := by decide +kernel
theorem d_rm_search_206 : decode rm_search.2.1 206 = .ok (.ifCond .lt 68, 3) := by decide +kernel
theorem d_rm_search_209 : decode rm_search.2.1 209 = .ok (.iload_n 2, 1) := by decide +kernel
theorem d_rm_search_210 : decode rm_search.2.1 210 = .ok (.ifCond .eq 64, 3) := by decide +kernel
theorem d_rm_search_213 : decode rm_search.2.1 213 = .ok (.aload_n 0, 1) := by decide +kernel
theorem d_rm_search_214 : decode rm_search.2.1 214 = .ok (.getfield 322, 3) := by decide +kernel
theorem d_rm_search_217 : decode rm_search.2.1 217 = .ok (.ifCond .lt 57, 3) := by decide +kernel
theorem d_rm_search_220 : decode rm_search.2.1 220 = .ok (.aload_n 0, 1) := by decide +kernel
theorem d_rm_search_221 : decode rm_search.2.1 221 = .ok (.getfield 313, 3) := by decide +kernel
theorem d_rm_search_224 : decode rm_search.2.1 224 = .ok (.aload_n 0, 1) := by decide +kernel
theorem d_rm_search_225 : decode rm_search.2.1 225 = .ok (.getfield 16, 3) := by decide +kernel
theorem d_rm_search_228 : decode rm_search.2.1 228 = .ok (.iload 6, 2) := by decide +kernel
theorem d_rm_search_230 : decode rm_search.2.1 230 = .ok (.bipush 8, 2) := by decide +kernel
theorem d_rm_search_232 : decode rm_search.2.1 232 = .ok (.idiv, 1) := by decide +kernel
theorem d_rm_search_233 : decode rm_search.2.1 233 = .ok (.iaload, 1) := by decide +kernel
theorem d_rm_search_234 : decode rm_search.2.1 234 = .ok (.iadd, 1) := by decide +kernel
theorem d_rm_search_235 : decode rm_search.2.1 235 = .ok (.iload_n 3, 1) := by decide +kernel
theorem d_rm_search_236 : decode rm_search.2.1 236 = .ok (.aload_n 0, 1) := by decide +kernel
theorem d_rm_search_237 : decode rm_search.2.1 237 = .ok (.getfield 307, 3) := by decide +kernel
theorem d_rm_search_240 : decode rm_search.2.1 240 = .ok (.aload_n 0, 1) := by decide +kernel
theorem d_rm_search_241 : decode rm_search.2.1 241 = .ok (.getfield 329, 3) := by decide +kernel
theorem d_rm_search_244 : decode rm_search.2.1 244 = .ok (.isub, 1) := by decide +kernel
theorem d_rm_search_245 : decode rm_search.2.1 245 = .ok (.imul, 1) := by decide +kernel
theorem d_rm_search_246 : decode rm_search.2.1 246 = .ok (.iadd, 1) := by decide +kernel
theorem d_rm_search_247 : decode rm_search.2.1 247 = .ok (.aload_n 0, 1) := by decide +kernel
theorem d_rm_search_248 : decode rm_search.2.1 248 = .ok (.getfield 322, 3) := by decide +kernel
theorem d_rm_search_251 : decode rm_search.2.1 251 = .ok (.if_icmp .lt 23, 3) := by decide +kernel
theorem d_rm_search_254 : decode rm_search.2.1 254 = .ok (.aload_n 0, 1) := by decide +kernel
theorem d_rm_search_255 : decode rm_search.2.1 255 = .ok (.aload_n 0, 1) := by decide +kernel
theorem d_rm_search_256 : decode rm_search.2.1 256 = .ok (.getfield 112, 3) := by decide +kernel
theorem d_rm_search_259 : decode rm_search.2.1 259 = .ok (.iload 5, 2) := by decide +kernel
theorem d_rm_search_261 : decode rm_search.2.1 261 = .ok (.iaload, 1) := by decide +kernel
theorem d_rm_search_262 : decode rm_search.2.1 262 = .ok (.iload 6, 2) := by decide +kernel
theorem d_rm_search_264 : decode rm_search.2.1 264 = .ok (.iconst 1, 1) := by decide +kernel
theorem d_rm_search_265 : decode rm_search.2.1 265 = .ok (.iadd, 1) := by decide +kernel
theorem d_rm_search_266 : decode rm_search.2.1 266 = .ok (.invokevirtual 304, 3) := by decide +kernel
theorem d_rm_search_269 : decode rm_search.2.1 269 = .ok (.istore 6, 2) := by decide +kernel
theorem d_rm_search_271 : decode rm_search.2.1 271 = .ok (.goto (-67), 3) := by decide +kernel
theorem d_rm_search_274 : decode rm_search.2.1 274 = .ok (.iload 6, 2) := by decide +kernel
theorem d_rm_search_276 : decode rm_search.2.1 276 = .ok (.ifCond .lt 7, 3) := by decide +kernel
theorem d_rm_search_279 : decode rm_search.2.1 279 = .ok (.iconst 1, 1) := by decide +kernel
theorem d_rm_search_280 : decode rm_search.2.1 280 = .ok (.goto 4, 3) := by decide +kernel
theorem d_rm_search_283 : decode rm_search.2.1 283 = .ok (.iconst 0, 1) := by decide +kernel
theorem d_rm_search_284 : decode rm_search.2.1 284 = .ok (.istore 4, 2) := by decide +kernel
theorem d_rm_search_286 : decode rm_search.2.1 286 = .ok (.iload 4, 2) := by decide +kernel
theorem d_rm_search_288 : decode rm_search.2.1 288 = .ok (.ifCond .ne 16, 3) := by decide +kernel
theorem d_rm_search_291 : decode rm_search.2.1 291 = .ok (.aload_n 0, 1) := by decide +kernel
theorem d_rm_search_292 : decode rm_search.2.1 292 = .ok (.dup, 1) := by decide +kernel
theorem d_rm_search_293 : decode rm_search.2.1 293 = .ok (.getfield 329, 3) := by decide +kernel
theorem d_rm_search_296 : decode rm_search.2.1 296 = .ok (.iconst 1, 1) := by decide +kernel
theorem d_rm_search_297 : decode rm_search.2.1 297 = .ok (.isub, 1) := by decide +kernel
theorem d_rm_search_298 : decode rm_search.2.1 298 = .ok (.putfield 329, 3) := by decide +kernel
theorem d_rm_search_301 : decode rm_search.2.1 301 = .ok (.goto (-255), 3) := by decide +kernel
theorem d_rm_search_304 : decode rm_search.2.1 304 = .ok (.aload_n 0, 1) := by decide +kernel
theorem d_rm_search_305 : decode rm_search.2.1 305 = .ok (.getfield 316, 3) := by decide +kernel
theorem d_rm_search_308 : decode rm_search.2.1 308 = .ok (.sipush 30000, 3) := by decide +kernel
theorem d_rm_search_311 : decode rm_search.2.1 311 = .ok (.if_icmp .eq 13, 3) := by decide +kernel
theorem d_rm_search_314 : decode rm_search.2.1 314 = .ok (.aload_n 0, 1) := by decide +kernel
theorem d_rm_search_315 : decode rm_search.2.1 315 = .ok (.getfield 344, 3) := by decide +kernel
theorem d_rm_search_318 : decode rm_search.2.1 318 = .ok (.ldc_w 347, 3) := by decide +kernel
theorem d_rm_search_321 : decode rm_search.2.1 321 = .ok (.if_icmp .ne 11, 3) := by decide +kernel
theorem d_rm_search_324 : decode rm_search.2.1 324 = .ok (.aload_n 0, 1) := by decide +kernel
theorem d_rm_search_325 : decode rm_search.2.1 325 = .ok (.iconst 1, 1) := by decide +kernel
theorem d_rm_search_326 : decode rm_search.2.1 326 = .ok (.putfield 325, 3) := by decide +kernel
theorem d_rm_search_329 : decode rm_search.2.1 329 = .ok (.goto (-283), 3) := by decide +kernel
theorem d_rm_search_332 : decode rm_search.2.1 332 = .ok (.aload_n 0, 1) := by decide +kernel
theorem d_rm_search_333 : decode rm_search.2.1 333 = .ok (.dup, 1) := by decide +kernel
theorem d_rm_search_334 : decode rm_search.2.1 334 = .ok (.getfield 316, 3) := by decide +kernel
theorem d_rm_search_337 : decode rm_search.2.1 337 = .ok (.iconst 1, 1) := by decide +kernel
theorem d_rm_search_338 : decode rm_search.2.1 338 = .ok (.iadd, 1) := by decide +kernel
theorem d_rm_search_339 : decode rm_search.2.1 339 = .ok (.putfield 316, 3) := by decide +kernel
theorem d_rm_search_342 : decode rm_search.2.1 342 = .ok (.aload_n 0, 1) := by decide +kernel
theorem d_rm_search_343 : decode rm_search.2.1 343 = .ok (.dup, 1) := by decide +kernel
theorem d_rm_search_344 : decode rm_search.2.1 344 = .ok (.getfield 344, 3) := by decide +kernel
theorem d_rm_search_347 : decode rm_search.2.1 347 = .ok (.iconst 1, 1) := by decide +kernel
theorem d_rm_search_348 : decode rm_search.2.1 348 = .ok (.iadd, 1) := by decide +kernel
theorem d_rm_search_349 : decode rm_search.2.1 349 = .ok (.putfield 344, 3) := by decide +kernel
theorem d_rm_search_352 : decode rm_search.2.1 352 = .ok (.aload_n 0, 1) := by decide +kernel
theorem d_rm_search_353 : decode rm_search.2.1 353 = .ok (.getfield 115, 3) := by decide +kernel
theorem d_rm_search_356 : decode rm_search.2.1 356 = .ok (.iload 5, 2) := by decide +kernel
theorem d_rm_search_358 : decode rm_search.2.1 358 = .ok (.iload 6, 2) := by decide +kernel
theorem d_rm_search_360 : decode rm_search.2.1 360 = .ok (.iastore, 1) := by decide +kernel
theorem d_rm_search_361 : decode rm_search.2.1 361 = .ok (.aload_n 0, 1) := by decide +kernel
theorem d_rm_search_362 : decode rm_search.2.1 362 = .ok (.aload_n 0, 1) := by decide +kernel
theorem d_rm_search_363 : decode rm_search.2.1 363 = .ok (.getfield 112, 3) := by decide +kernel
theorem d_rm_search_366 : decode rm_search.2.1 366 = .ok (.iload 5, 2) := by decide +kernel
theorem d_rm_search_368 : decode rm_search.2.1 368 = .ok (.iaload, 1) := by decide +kernel
theorem d_rm_search_369 : decode rm_search.2.1 369 = .ok (.iload 6, 2) := by decide +kernel
theorem d_rm_search_371 : decode rm_search.2.1 371 = .ok (.invokevirtual 348, 3) := by decide +kernel
theorem d_rm_search_374 : decode rm_search.2.1 374 = .ok (.goto (-328), 3) := by decide +kernel
theorem d_rm_search_377 : decode rm_search.2.1 377 = .ok (.return_, 1) := by decide +kernel
theorem d_rm_fill_0 : decode rm_fill.2.1 0 = .ok (.aload_n 0, 1) := by decide +kernel
theorem d_rm_fill_1 : decode rm_fill.2.1 1 = .ok (.iload_n 1, 1) := by decide +kernel
theorem d_rm_fill_2 : decode rm_fill.2.1 2 = .ok (.invokevirtual 288, 3) := by decide +kernel
theorem d_rm_fill_5 : decode rm_fill.2.1 5 = .ok (.ifCond .ne 5, 3) := by decide +kernel
theorem d_rm_fill_8 : decode rm_fill.2.1 8 = .ok (.iconst (-1), 1) := by decide +kernel
theorem d_rm_fill_9 : decode rm_fill.2.1 9 = .ok (.ireturn, 1) := by decide +kernel
theorem d_rm_fill_10 : decode rm_fill.2.1 10 = .ok (.aload_n 0, 1) := by decide +kernel
theorem d_rm_fill_11 : decode rm_fill.2.1 11 = .ok (.iload_n 1, 1) := by decide +kernel
theorem d_rm_fill_12 : decode rm_fill.2.1 12 = .ok (.invokevirtual 351, 3) := by decide +kernel
theorem d_rm_fill_15 : decode rm_fill.2.1 15 = .ok (.ifCond .ne 5, 3) := by decide +kernel
theorem d_rm_fill_18 : decode rm_fill.2.1 18 = .ok (.iconst 0, 1) := by decide +kernel
theorem d_rm_fill_19 : decode rm_fill.2.1 19 = .ok (.ireturn, 1) := by decide +kernel
theorem d_rm_fill_20 : decode rm_fill.2.1 20 = .ok (.aload_n 0, 1) := by decide +kernel
theorem d_rm_fill_21 : decode rm_fill.2.1 21 = .ok (.iconst 1, 1) := by decide +kernel
theorem d_rm_fill_22 : decode rm_fill.2.1 22 = .ok (.iconst 0, 1) := by decide +kernel
theorem d_rm_fill_23 : decode rm_fill.2.1 23 = .ok (.invokevirtual 354, 3) := by decide +kernel
theorem d_rm_fill_26 : decode rm_fill.2.1 26 = .ok (.aload_n 0, 1) := by decide +kernel
theorem d_rm_fill_27 : decode rm_fill.2.1 27 = .ok (.getfield 319, 3) := by decide +kernel
theorem d_rm_fill_30 : decode rm_fill.2.1 30 = .ok (.ifCond .le 7, 3) := by decide +kernel
theorem d_rm_fill_33 : decode rm_fill.2.1 33 = .ok (.iconst 1, 1) := by decide +kernel
theorem d_rm_fill_34 : decode rm_fill.2.1 34 = .ok (.goto 15, 3) := by decide +kernel
theorem d_rm_fill_37 : decode rm_fill.2.1 37 = .ok (.aload_n 0, 1) := by decide +kernel
theorem d_rm_fill_38 : decode rm_fill.2.1 38 = .ok (.getfield 325, 3) := by decide +kernel
theorem d_rm_fill_41 : decode rm_fill.2.1 41 = .ok (.ifCond .eq 7, 3) := by decide +kernel
theorem d_rm_fill_44 : decode rm_fill.2.1 44 = .ok (.iconst 2, 1) := by decide +kernel
theorem d_rm_fill_45 : decode rm_fill.2.1 45 = .ok (.goto 4, 3) := by decide +kernel
theorem d_rm_fill_48 : decode rm_fill.2.1 48 = .ok (.iconst 0, 1) := by decide +kernel
theorem d_rm_fill_49 : decode rm_fill.2.1 49 = .ok (.ireturn, 1) := by decide +kernel
theorem d_rm_fills_0 : decode rm_fills.2.1 0 = .ok (.aload_n 0, 1) := by decide +kernel
theorem d_rm_fills_1 : decode rm_fills.2.1 1 = .ok (.iload_n 1, 1) := by decide +kernel
theorem d_rm_fills_2 : decode rm_fills.2.1 2 = .ok (.invokevirtual 288, 3) := by decide +kernel
theorem d_rm_fills_5 : decode rm_fills.2.1 5 = .ok (.ifCond .eq 15, 3) := by decide +kernel
theorem d_rm_fills_8 : decode rm_fills.2.1 8 = .ok (.iload_n 2, 1) := by decide +kernel
theorem d_rm_fills_9 : decode rm_fills.2.1 9 = .ok (.iconst 1, 1) := by decide +kernel
theorem d_rm_fills_10 : decode rm_fills.2.1 10 = .ok (.if_icmp .lt 10, 3) := by decide +kernel
theorem d_rm_fills_13 : decode rm_fills.2.1 13 = .ok (.iload_n 2, 1) := by decide +kernel
theorem d_rm_fills_14 : decode rm_fills.2.1 14 = .ok (.sipush 1000, 3) := by decide +kernel
theorem d_rm_fills_17 : decode rm_fills.2.1 17 = .ok (.if_icmp .le 5, 3) := by decide +kernel
theorem d_rm_fills_20 : decode rm_fills.2.1 20 = .ok (.iconst (-1), 1) := by decide +kernel
theorem d_rm_fills_21 : decode rm_fills.2.1 21 = .ok (.ireturn, 1) := by decide +kernel
theorem d_rm_fills_22 : decode rm_fills.2.1 22 = .ok (.aload_n 0, 1) := by decide +kernel
theorem d_rm_fills_23 : decode rm_fills.2.1 23 = .ok (.iload_n 1, 1) := by decide +kernel
theorem d_rm_fills_24 : decode rm_fills.2.1 24 = .ok (.invokevirtual 351, 3) := by decide +kernel
theorem d_rm_fills_27 : decode rm_fills.2.1 27 = .ok (.ifCond .ne 5, 3) := by decide +kernel
theorem d_rm_fills_30 : decode rm_fills.2.1 30 = .ok (.iconst 0, 1) := by decide +kernel
theorem d_rm_fills_31 : decode rm_fills.2.1 31 = .ok (.ireturn, 1) := by decide +kernel
theorem d_rm_fills_32 : decode rm_fills.2.1 32 = .ok (.aload_n 0, 1) := by decide +kernel
theorem d_rm_fills_33 : decode rm_fills.2.1 33 = .ok (.iload_n 2, 1) := by decide +kernel
theorem d_rm_fills_34 : decode rm_fills.2.1 34 = .ok (.iconst 0, 1) := by decide +kernel
theorem d_rm_fills_35 : decode rm_fills.2.1 35 = .ok (.invokevirtual 354, 3) := by decide +kernel
theorem d_rm_fills_38 : decode rm_fills.2.1 38 = .ok (.aload_n 0, 1) := by decide +kernel
theorem d_rm_fills_39 : decode rm_fills.2.1 39 = .ok (.getfield 325, 3) := by decide +kernel
theorem d_rm_fills_42 : decode rm_fills.2.1 42 = .ok (.ifCond .eq 8, 3) := by decide +kernel
theorem d_rm_fills_45 : decode rm_fills.2.1 45 = .ok (.bipush (-2), 2) := by decide +kernel
theorem d_rm_fills_47 : decode rm_fills.2.1 47 = .ok (.goto 7, 3) := by decide +kernel
theorem d_rm_fills_50 : decode rm_fills.2.1 50 = .ok (.aload_n 0, 1) := by decide +kernel
theorem d_rm_fills_51 : decode rm_fills.2.1 51 = .ok (.getfield 319, 3) := by decide +kernel
theorem d_rm_fills_54 : decode rm_fills.2.1 54 = .ok (.ireturn, 1) := by decide +kernel
theorem d_rm_cheapest_0 : decode rm_cheapest.2.1 0 = .ok (.aload_n 0, 1) := by decide +kernel
theorem d_rm_cheapest_1 : decode rm_cheapest.2.1 1 = .ok (.iload_n 1, 1) := by decide +kernel
theorem d_rm_cheapest_2 : decode rm_cheapest.2.1 2 = .ok (.invokevirtual 288, 3) := by decide +kernel
theorem d_rm_cheapest_5 : decode rm_cheapest.2.1 5 = .ok (.ifCond .ne 5, 3) := by decide +kernel
theorem d_rm_cheapest_8 : decode rm_cheapest.2.1 8 = .ok (.iconst (-1), 1) := by decide +kernel
theorem d_rm_cheapest_9 : decode rm_cheapest.2.1 9 = .ok (.ireturn, 1) := by decide +kernel
theorem d_rm_cheapest_10 : decode rm_cheapest.2.1 10 = .ok (.aload_n 0, 1) := by decide +kernel
theorem d_rm_cheapest_11 : decode rm_cheapest.2.1 11 = .ok (.iload_n 1, 1) := by decide +kernel
theorem d_rm_cheapest_12 : decode rm_cheapest.2.1 12 = .ok (.invokevirtual 351, 3) := by decide +kernel
theorem d_rm_cheapest_15 : decode rm_cheapest.2.1 15 = .ok (.ifCond .ne 6, 3) := by decide +kernel
theorem d_rm_cheapest_18 : decode rm_cheapest.2.1 18 = .ok (.bipush (-2), 2) := by decide +kernel
theorem d_rm_cheapest_20 : decode rm_cheapest.2.1 20 = .ok (.ireturn, 1) := by decide +kernel
theorem d_rm_cheapest_21 : decode rm_cheapest.2.1 21 = .ok (.aload_n 0, 1) := by decide +kernel
theorem d_rm_cheapest_22 : decode rm_cheapest.2.1 22 = .ok (.ldc_w 358, 3) := by decide +kernel
theorem d_rm_cheapest_25 : decode rm_cheapest.2.1 25 = .ok (.iconst 1, 1) := by decide +kernel
theorem d_rm_cheapest_26 : decode rm_cheapest.2.1 26 = .ok (.invokevirtual 354, 3) := by decide +kernel
theorem d_rm_cheapest_29 : decode rm_cheapest.2.1 29 = .ok (.aload_n 0, 1) := by decide +kernel
theorem d_rm_cheapest_30 : decode rm_cheapest.2.1 30 = .ok (.getfield 325, 3) := by decide +kernel
theorem d_rm_cheapest_33 : decode rm_cheapest.2.1 33 = .ok (.ifCond .eq 8, 3) := by decide +kernel
theorem d_rm_cheapest_36 : decode rm_cheapest.2.1 36 = .ok (.bipush (-3), 2) := by decide +kernel
theorem d_rm_cheapest_38 : decode rm_cheapest.2.1 38 = .ok (.goto 19, 3) := by decide +kernel
theorem d_rm_cheapest_41 : decode rm_cheapest.2.1 41 = .ok (.aload_n 0, 1) := by decide +kernel
theorem d_rm_cheapest_42 : decode rm_cheapest.2.1 42 = .ok (.getfield 319, 3) := by decide +kernel
theorem d_rm_cheapest_45 : decode rm_cheapest.2.1 45 = .ok (.ifCond .le 10, 3) := by decide +kernel
theorem d_rm_cheapest_48 : decode rm_cheapest.2.1 48 = .ok (.aload_n 0, 1) := by decide +kernel
theorem d_rm_cheapest_49 : decode rm_cheapest.2.1 49 = .ok (.getfield 322, 3) := by decide +kernel
theorem d_rm_cheapest_52 : decode rm_cheapest.2.1 52 = .ok (.goto 5, 3) := by decide +kernel
theorem d_rm_cheapest_55 : decode rm_cheapest.2.1 55 = .ok (.bipush (-2), 2) := by decide +kernel
theorem d_rm_cheapest_57 : decode rm_cheapest.2.1 57 = .ok (.ireturn, 1) := by decide +kernel
theorem d_rm_forced_0 : decode rm_forced.2.1 0 = .ok (.aload_n 0, 1) := by decide +kernel
theorem d_rm_forced_1 : decode rm_forced.2.1 1 = .ok (.iload_n 1, 1) := by decide +kernel
theorem d_rm_forced_2 : decode rm_forced.2.1 2 = .ok (.invokevirtual 288, 3) := by decide +kernel
theorem d_rm_forced_5 : decode rm_forced.2.1 5 = .ok (.ifCond .ne 5, 3) := by decide +kernel
theorem d_rm_forced_8 : decode rm_forced.2.1 8 = .ok (.iconst (-1), 1) := by decide +kernel
theorem d_rm_forced_9 : decode rm_forced.2.1 9 = .ok (.ireturn, 1) := by decide +kernel
theorem d_rm_forced_10 : decode rm_forced.2.1 10 = .ok (.aload_n 0, 1) := by decide +kernel
theorem d_rm_forced_11 : decode rm_forced.2.1 11 = .ok (.iload_n 1, 1) := by decide +kernel
theorem d_rm_forced_12 : decode rm_forced.2.1 12 = .ok (.invokevirtual 351, 3) := by decide +kernel
theorem d_rm_forced_15 : decode rm_forced.2.1 15 = .ok (.istore_n 2, 1) := by decide +kernel
theorem d_rm_forced_16 : decode rm_forced.2.1 16 = .ok (.iconst 0, 1) := by decide +kernel
theorem d_rm_forced_17 : decode rm_forced.2.1 17 = .ok (.istore_n 3, 1) := by decide +kernel
theorem d_rm_forced_18 : decode rm_forced.2.1 18 = .ok (.iconst 1, 1) := by decide +kernel
theorem d_rm_forced_19 : decode rm_forced.2.1 19 = .ok (.istore 4, 2) := by decide +kernel
theorem d_rm_forced_21 : decode rm_forced.2.1 21 = .ok (.iload 4, 2) := by decide +kernel
theorem d_rm_forced_23 : decode rm_forced.2.1 23 = .ok (.ifCond .le 177, 3) := by decide +kernel
theorem d_rm_forced_26 : decode rm_forced.2.1 26 = .ok (.iconst 0, 1) := by decide +kernel
theorem d_rm_forced_27 : decode rm_forced.2.1 27 = .ok (.istore 4, 2) := by decide +kernel
theorem d_rm_forced_29 : decode rm_forced.2.1 29 = .ok (.iconst 0, 1) := by decide +kernel
theorem d_rm_forced_30 : decode rm_forced.2.1 30 = .ok (.istore 5, 2) := by decide +kernel
theorem d_rm_forced_32 : decode rm_forced.2.1 32 = .ok (.iload 5, 2) := by decide +kernel
theorem d_rm_forced_34 : decode rm_forced.2.1 34 = .ok (.aload_n 0, 1) := by decide +kernel
theorem d_rm_forced_35 : decode rm_forced.2.1 35 = .ok (.getfield 307, 3) := by decide +kernel
theorem d_rm_forced_38 : decode rm_forced.2.1 38 = .ok (.if_icmp .ge 62, 3) := by decide +kernel
theorem d_rm_forced_41 : decode rm_forced.2.1 41 = .ok (.aload_n 0, 1) := by decide +kernel
theorem d_rm_forced_42 : decode rm_forced.2.1 42 = .ok (.getfield 115, 3) := by decide +kernel
theorem d_rm_forced_45 : decode rm_forced.2.1 45 = .ok (.iload 5, 2) := by decide +kernel
theorem d_rm_forced_47 : decode rm_forced.2.1 47 = .ok (.aload_n 0, 1) := by decide +kernel
theorem d_rm_forced_48 : decode rm_forced.2.1 48 = .ok (.getfield 103, 3) := by decide +kernel
theorem d_rm_forced_51 : decode rm_forced.2.1 51 = .ok (.aload_n 0, 1) := by decide +kernel
theorem d_rm_forced_52 : decode rm_forced.2.1 52 = .ok (.getfield 109, 3) := by decide +kernel
theorem d_rm_forced_55 : decode rm_forced.2.1 55 = .ok (.iload 5, 2) := by decide +kernel
theorem d_rm_forced_57 : decode rm_forced.2.1 57 = .ok (.iaload, 1) := by decide +kernel
theorem d_rm_forced_58 : decode rm_forced.2.1 58 = .ok (.iaload, 1) := by decide +kernel
theorem d_rm_forced_59 : decode rm_forced.2.1 59 = .ok (.ifCond .ne 33, 3) := by decide +kernel
theorem d_rm_forced_62 : decode rm_forced.2.1 62 = .ok (.aload_n 0, 1) := by decide +kernel
theorem d_rm_forced_63 : decode rm_forced.2.1 63 = .ok (.aload_n 0, 1) := by decide +kernel
theorem d_rm_forced_64 : decode rm_forced.2.1 64 = .ok (.getfield 109, 3) := by decide +kernel
theorem d_rm_forced_67 : decode rm_forced.2.1 67 = .ok (.iload 5, 2) := by decide +kernel
theorem d_rm_forced_69 : decode rm_forced.2.1 69 = .ok (.iaload, 1) := by decide +kernel
theorem d_rm_forced_70 : decode rm_forced.2.1 70 = .ok (.invokevirtual 310, 3) := by decide +kernel
theorem d_rm_forced_73 : decode rm_forced.2.1 73 = .ok (.iconst 1, 1) := by decide +kernel
theorem d_rm_forced_74 : decode rm_forced.2.1 74 = .ok (.if_icmp .ne 18, 3) := by decide +kernel
theorem d_rm_forced_77 : decode rm_forced.2.1 77 = .ok (.aload_n 0, 1) := by decide +kernel
theorem d_rm_forced_78 : decode rm_forced.2.1 78 = .ok (.aload_n 0, 1) := by decide +kernel
theorem d_rm_forced_79 : decode rm_forced.2.1 79 = .ok (.getfield 109, 3) := by decide +kernel
theorem d_rm_forced_82 : decode rm_forced.2.1 82 = .ok (.iload 5, 2) := by decide +kernel
theorem d_rm_forced_84 : decode rm_forced.2.1 84 = .ok (.iaload, 1) := by decide +kernel
theorem d_rm_forced_85 : decode rm_forced.2.1 85 = .ok (.iconst 0, 1) := by decide +kernel
theorem d_rm_forced_86 : decode rm_forced.2.1 86 = .ok (.invokevirtual 304, 3) := by decide +kernel
theorem d_rm_forced_89 : decode rm_forced.2.1 89 = .ok (.goto 4, 3) := by decide +kernel
theorem d_rm_forced_92 : decode rm_forced.2.1 92 = .ok (.iconst (-1), 1) := by decide +kernel
theorem d_rm_forced_93 : decode rm_forced.2.1 93 = .ok (.iastore, 1) := by decide +kernel
theorem d_rm_forced_94 : decode rm_forced.2.1 94 = .ok (.iinc 5 1, 3) := by decide +kernel
theorem d_rm_forced_97 : decode rm_forced.2.1 97 = .ok (.goto (-65), 3) := by decide +kernel
theorem d_rm_forced_100 : decode rm_forced.2.1 100 = .ok (.iconst 0, 1) := by decide +kernel
theorem d_rm_forced_101 : decode rm_forced.2.1 101 = .ok (.istore 5, 2) := by decide +kernel
theorem d_rm_forced_103 : decode rm_forced.2.1 103 = .ok (.iload 5, 2) := by decide +kernel
theorem d_rm_forced_105 : decode rm_forced.2.1 105 = .ok (.aload_n 0, 1) := by decide +kernel
theorem d_rm_forced_106 : decode rm_forced.2.1 106 = .ok (.getfield 307, 3) := by decide +kernel
theorem d_rm_forced_109 : decode rm_forced.2.1 109 = .ok (.if_icmp .ge 83, 3) := by decide +kernel
theorem d_rm_forced_112 : decode rm_forced.2.1 112 = .ok (.aload_n 0, 1) := by decide +kernel
theorem d_rm_forced_113 : decode rm_forced.2.1 113 = .ok (.getfield 115, 3) := by decide +kernel
theorem d_rm_forced_116 : decode rm_forced.2.1 116 = .ok (.iload 5, 2) := by decide +kernel
theorem d_rm_forced_118 : decode rm_forced.2.1 118 = .ok (.iaload, 1) := by decide +kernel
theorem d_rm_forced_119 : decode rm_forced.2.1 119 = .ok (.istore 6, 2) := by decide +kernel
theorem d_rm_forced_121 : decode rm_forced.2.1 121 = .ok (.iload 6, 2) := by decide +kernel
theorem d_rm_forced_123 : decode rm_forced.2.1 123 = .ok (.ifCond .lt 63, 3) := by decide +kernel
theorem d_rm_forced_126 : decode rm_forced.2.1 126 = .ok (.aload_n 0, 1) := by decide +kernel
theorem d_rm_forced_127 : decode rm_forced.2.1 127 = .ok (.getfield 106, 3) := by decide +kernel
theorem d_rm_forced_130 : decode rm_forced.2.1 130 = .ok (.iload 6, 2) := by decide +kernel
theorem d_rm_forced_132 : decode rm_forced.2.1 132 = .ok (.bipush 8, 2) := by decide +kernel
theorem d_rm_forced_134 : decode rm_forced.2.1 134 = .ok (.idiv, 1) := by decide +kernel
theorem d_rm_forced_135 : decode rm_forced.2.1 135 = .ok (.iaload, 1) := by decide +kernel
theorem d_rm_forced_136 : decode rm_forced.2.1 136 = .ok (.ifCond .eq 50, 3) := by decide +kernel
theorem d_rm_forced_139 : decode rm_forced.2.1 139 = .ok (.aload_n 0, 1) := by decide +kernel
theorem d_rm_forced_140 : decode rm_forced.2.1 140 = .ok (.aload_n 0, 1) := by decide +kernel
theorem d_rm_forced_141 : decode rm_forced.2.1 141 = .ok (.getfield 109, 3) := by decide +kernel
theorem d_rm_forced_144 : decode rm_forced.2.1 144 = .ok (.iload 5, 2) := by decide +kernel
theorem d_rm_forced_146 : decode rm_forced.2.1 146 = .ok (.iaload, 1) := by decide +kernel
theorem d_rm_forced_147 : decode rm_forced.2.1 147 = .ok (.iload 6, 2) := by decide +kernel
theorem d_rm_forced_149 : decode rm_forced.2.1 149 = .ok (.bipush 8, 2) := by decide +kernel
theorem d_rm_forced_151 : decode rm_forced.2.1 151 = .ok (.idiv, 1) := by decide +kernel
theorem d_rm_forced_152 : decode rm_forced.2.1 152 = .ok (.iload 6, 2) := by decide +kernel
theorem d_rm_forced_154 : decode rm_forced.2.1 154 = .ok (.bipush 8, 2) := by decide +kernel
theorem d_rm_forced_156 : decode rm_forced.2.1 156 = .ok (.irem, 1) := by decide +kernel
theorem d_rm_forced_157 : decode rm_forced.2.1 157 = .ok (.iconst 0, 1) := by decide +kernel
theorem d_rm_forced_158 : decode rm_forced.2.1 158 = .ok (.invokestatic 166, 3) := by decide +kernel
theorem d_rm_forced_161 : decode rm_forced.2.1 161 = .ok (.invokevirtual 300, 3) := by decide +kernel
theorem d_rm_forced_164 : decode rm_forced.2.1 164 = .ok (.ifCond .ne 6, 3) := by decide +kernel
theorem d_rm_forced_167 : decode rm_forced.2.1 167 = .ok (.goto 19, 3) := by decide +kernel
theorem d_rm_forced_170 : decode rm_forced.2.1 170 = .ok (.aload_n 0, 1) := by decide +kernel
theorem d_rm_forced_171 : decode rm_forced.2.1 171 = .ok (.aload_n 0, 1) := by decide +kernel
theorem d_rm_forced_172 : decode rm_forced.2.1 172 = .ok (.getfield 109, 3) := by decide +kernel
theorem d_rm_forced_175 : decode rm_forced.2.1 175 = .ok (.iload 5, 2) := by decide +kernel
theorem d_rm_forced_177 : decode rm_forced.2.1 177 = .ok (.iaload, 1) := by decide +kernel
theorem d_rm_forced_178 : decode rm_forced.2.1 178 = .ok (.iload 6, 2) := by decide +kernel
theorem d_rm_forced_180 : decode rm_forced.2.1 180 = .ok (.invokevirtual 348, 3) := by decide +kernel
theorem d_rm_forced_183 : decode rm_forced.2.1 183 = .ok (.iinc 4 1, 3) := by decide +kernel
theorem d_rm_forced_186 : decode rm_forced.2.1 186 = .ok (.iinc 5 1, 3) := by decide +kernel
theorem d_rm_forced_189 : decode rm_forced.2.1 189 = .ok (.goto (-86), 3) := by decide +kernel
theorem d_rm_forced_192 : decode rm_forced.2.1 192 = .ok (.iload_n 3, 1) := by decide +kernel
theorem d_rm_forced_193 : decode rm_forced.2.1 193 = .ok (.iload 4, 2) := by decide +kernel
theorem d_rm_forced_195 : decode rm_forced.2.1 195 = .ok (.iadd, 1) := by decide +kernel
theorem d_rm_forced_196 : decode rm_forced.2.1 196 = .ok (.istore_n 3, 1) := by decide +kernel
theorem d_rm_forced_197 : decode rm_forced.2.1 197 = .ok (.goto (-176), 3) := by decide +kernel
theorem d_rm_forced_200 : decode rm_forced.2.1 200 = .ok (.aload_n 0, 1) := by decide +kernel
theorem d_rm_forced_201 : decode rm_forced.2.1 201 = .ok (.invokevirtual 338, 3) := by decide +kernel
theorem d_rm_forced_204 : decode rm_forced.2.1 204 = .ok (.iload_n 3, 1) := by decide +kernel
theorem d_rm_forced_205 : decode rm_forced.2.1 205 = .ok (.ireturn, 1) := by decide +kernel
theorem d_rm_about_0 : decode rm_about.2.1 0 = .ok (.iload_n 1, 1) := by decide +kernel
theorem d_rm_about_1 : decode rm_about.2.1 1 = .ok (.tableswitch 96 0 8 #[51, 56, 61, 66, 71, 76, 81, 86, 91], 51) := by decide +kernel
theorem d_rm_about_52 : decode rm_about.2.1 52 = .ok (.aload_n 0, 1) := by decide +kernel
theorem d_rm_about_53 : decode rm_about.2.1 53 = .ok (.getfield 128, 3) := by decide +kernel
theorem d_rm_about_56 : decode rm_about.2.1 56 = .ok (.ireturn, 1) := by decide +kernel
theorem d_rm_about_57 : decode rm_about.2.1 57 = .ok (.aload_n 0, 1) := by decide +kernel
theorem d_rm_about_58 : decode rm_about.2.1 58 = .ok (.getfield 169, 3) := by decide +kernel
theorem d_rm_about_61 : decode rm_about.2.1 61 = .ok (.ireturn, 1) := by decide +kernel
theorem d_rm_about_62 : decode rm_about.2.1 62 = .ok (.aload_n 0, 1) := by decide +kernel
theorem d_rm_about_63 : decode rm_about.2.1 63 = .ok (.getfield 238, 3) := by decide +kernel
theorem d_rm_about_66 : decode rm_about.2.1 66 = .ok (.ireturn, 1) := by decide +kernel
theorem d_rm_about_67 : decode rm_about.2.1 67 = .ok (.aload_n 0, 1) := by decide +kernel
theorem d_rm_about_68 : decode rm_about.2.1 68 = .ok (.getfield 285, 3) := by decide +kernel
theorem d_rm_about_71 : decode rm_about.2.1 71 = .ok (.ireturn, 1) := by decide +kernel
theorem d_rm_about_72 : decode rm_about.2.1 72 = .ok (.aload_n 0, 1) := by decide +kernel
theorem d_rm_about_73 : decode rm_about.2.1 73 = .ok (.getfield 172, 3) := by decide +kernel
theorem d_rm_about_76 : decode rm_about.2.1 76 = .ok (.ireturn, 1) := by decide +kernel
theorem d_rm_about_77 : decode rm_about.2.1 77 = .ok (.aload_n 0, 1) := by decide +kernel
theorem d_rm_about_78 : decode rm_about.2.1 78 = .ok (.getfield 221, 3) := by decide +kernel
theorem d_rm_about_81 : decode rm_about.2.1 81 = .ok (.ireturn, 1) := by decide +kernel
theorem d_rm_about_82 : decode rm_about.2.1 82 = .ok (.aload_n 0, 1) := by decide +kernel
theorem d_rm_about_83 : decode rm_about.2.1 83 = .ok (.getfield 224, 3) := by decide +kernel
theorem d_rm_about_86 : decode rm_about.2.1 86 = .ok (.ireturn, 1) := by decide +kernel
theorem d_rm_about_87 : decode rm_about.2.1 87 = .ok (.aload_n 0, 1) := by decide +kernel
theorem d_rm_about_88 : decode rm_about.2.1 88 = .ok (.getfield 184, 3) := by decide +kernel
theorem d_rm_about_91 : decode rm_about.2.1 91 = .ok (.ireturn, 1) := by decide +kernel
theorem d_rm_about_92 : decode rm_about.2.1 92 = .ok (.aload_n 0, 1) := by decide +kernel
theorem d_rm_about_93 : decode rm_about.2.1 93 = .ok (.getfield 344, 3) := by decide +kernel
theorem d_rm_about_96 : decode rm_about.2.1 96 = .ok (.ireturn, 1) := by decide +kernel
theorem d_rm_about_97 : decode rm_about.2.1 97 = .ok (.iconst (-1), 1) := by decide +kernel
theorem d_rm_about_98 : decode rm_about.2.1 98 = .ok (.ireturn, 1) := by decide +kernel
theorem d_jd_ntzI_0 : decode jd_ntzI.2.1 0 = .ok (.iload_n 0, 1) := by decide +kernel
theorem d_jd_ntzI_1 : decode jd_ntzI.2.1 1 = .ok (.iconst (-1), 1) := by decide +kernel
theorem d_jd_ntzI_2 : decode jd_ntzI.2.1 2 = .ok (.ixor, 1) := by decide +kernel
theorem d_jd_ntzI_3 : decode jd_ntzI.2.1 3 = .ok (.iload_n 0, 1) := by decide +kernel
theorem d_jd_ntzI_4 : decode jd_ntzI.2.1 4 = .ok (.iconst 1, 1) := by decide +kernel
theorem d_jd_ntzI_5 : decode jd_ntzI.2.1 5 = .ok (.isub, 1) := by decide +kernel
theorem d_jd_ntzI_6 : decode jd_ntzI.2.1 6 = .ok (.iand, 1) := by decide +kernel
theorem d_jd_ntzI_7 : decode jd_ntzI.2.1 7 = .ok (.istore_n 0, 1) := by decide +kernel
theorem d_jd_ntzI_8 : decode jd_ntzI.2.1 8 = .ok (.iload_n 0, 1) := by decide +kernel
theorem d_jd_ntzI_9 : decode jd_ntzI.2.1 9 = .ok (.ifCond .gt 8, 3) := by decide +kernel
theorem d_jd_ntzI_12 : decode jd_ntzI.2.1 12 = .ok (.iload_n 0, 1) := by decide +kernel
theorem d_jd_ntzI_13 : decode jd_ntzI.2.1 13 = .ok (.bipush 32, 2) := by decide +kernel
theorem d_jd_ntzI_15 : decode jd_ntzI.2.1 15 = .ok (.iand, 1) := by decide +kernel
theorem d_jd_ntzI_16 : decode jd_ntzI.2.1 16 = .ok (.ireturn, 1) := by decide +kernel
theorem d_jd_ntzI_17 : decode jd_ntzI.2.1 17 = .ok (.iconst 1, 1) := by decide +kernel
theorem d_jd_ntzI_18 : decode jd_ntzI.2.1 18 = .ok (.istore_n 1, 1) := by decide +kernel
theorem d_jd_ntzI_19 : decode jd_ntzI.2.1 19 = .ok (.iload_n 0, 1) := by decide +kernel
theorem d_jd_ntzI_20 : decode jd_ntzI.2.1 20 = .ok (.ldc_w 264, 3) := by decide +kernel
theorem d_jd_ntzI_23 : decode jd_ntzI.2.1 23 = .ok (.if_icmp .le 11, 3) := by decide +kernel
theorem d_jd_ntzI_26 : decode jd_ntzI.2.1 26 = .ok (.iinc 1 16, 3) := by decide +kernel
theorem d_jd_ntzI_29 : decode jd_ntzI.2.1 29 = .ok (.iload_n 0, 1) := by decide +kernel
theorem d_jd_ntzI_30 : decode jd_ntzI.2.1 30 = .ok (.bipush 16, 2) := by decide +kernel
theorem d_jd_ntzI_32 : decode jd_ntzI.2.1 32 = .ok (.iushr, 1) := by decide +kernel
theorem d_jd_ntzI_33 : decode jd_ntzI.2.1 33 = .ok (.istore_n 0, 1) := by decide +kernel
theorem d_jd_ntzI_34 : decode jd_ntzI.2.1 34 = .ok (.iload_n 0, 1) := by decide +kernel
theorem d_jd_ntzI_35 : decode jd_ntzI.2.1 35 = .ok (.sipush 256, 3) := by decide +kernel
theorem d_jd_ntzI_38 : decode jd_ntzI.2.1 38 = .ok (.if_icmp .le 11, 3) := by decide +kernel
theorem d_jd_ntzI_41 : decode jd_ntzI.2.1 41 = .ok (.iinc 1 8, 3) := by decide +kernel
theorem d_jd_ntzI_44 : decode jd_ntzI.2.1 44 = .ok (.iload_n 0, 1) := by decide +kernel
theorem d_jd_ntzI_45 : decode jd_ntzI.2.1 45 = .ok (.bipush 8, 2) := by decide +kernel
theorem d_jd_ntzI_47 : decode jd_ntzI.2.1 47 = .ok (.iushr, 1) := by decide +kernel
theorem d_jd_ntzI_48 : decode jd_ntzI.2.1 48 = .ok (.istore_n 0, 1) := by decide +kernel
theorem d_jd_ntzI_49 : decode jd_ntzI.2.1 49 = .ok (.iload_n 0, 1) := by decide +kernel
theorem d_jd_ntzI_50 : decode jd_ntzI.2.1 50 = .ok (.bipush 16, 2) := by decide +kernel
theorem d_jd_ntzI_52 : decode jd_ntzI.2.1 52 = .ok (.if_icmp .le 10, 3) := by decide +kernel
theorem d_jd_ntzI_55 : decode jd_ntzI.2.1 55 = .ok (.iinc 1 4, 3) := by decide +kernel
theorem d_jd_ntzI_58 : decode jd_ntzI.2.1 58 = .ok (.iload_n 0, 1) := by decide +kernel
theorem d_jd_ntzI_59 : decode jd_ntzI.2.1 59 = .ok (.iconst 4, 1) := by decide +kernel
theorem d_jd_ntzI_60 : decode jd_ntzI.2.1 60 = .ok (.iushr, 1) := by decide +kernel
theorem d_jd_ntzI_61 : decode jd_ntzI.2.1 61 = .ok (.istore_n 0, 1) := by decide +kernel
theorem d_jd_ntzI_62 : decode jd_ntzI.2.1 62 = .ok (.iload_n 0, 1) := by decide +kernel
theorem d_jd_ntzI_63 : decode jd_ntzI.2.1 63 = .ok (.iconst 4, 1) := by decide +kernel
theorem d_jd_ntzI_64 : decode jd_ntzI.2.1 64 = .ok (.if_icmp .le 10, 3) := by decide +kernel
theorem d_jd_ntzI_67 : decode jd_ntzI.2.1 67 = .ok (.iinc 1 2, 3) := by decide +kernel
theorem d_jd_ntzI_70 : decode jd_ntzI.2.1 70 = .ok (.iload_n 0, 1) := by decide +kernel
theorem d_jd_ntzI_71 : decode jd_ntzI.2.1 71 = .ok (.iconst 2, 1) := by decide +kernel
theorem d_jd_ntzI_72 : decode jd_ntzI.2.1 72 = .ok (.iushr, 1) := by decide +kernel
theorem d_jd_ntzI_73 : decode jd_ntzI.2.1 73 = .ok (.istore_n 0, 1) := by decide +kernel
theorem d_jd_ntzI_74 : decode jd_ntzI.2.1 74 = .ok (.iload_n 1, 1) := by decide +kernel
theorem d_jd_ntzI_75 : decode jd_ntzI.2.1 75 = .ok (.iload_n 0, 1) := by decide +kernel
theorem d_jd_ntzI_76 : decode jd_ntzI.2.1 76 = .ok (.iconst 1, 1) := by decide +kernel
theorem d_jd_ntzI_77 : decode jd_ntzI.2.1 77 = .ok (.iushr, 1) := by decide +kernel
theorem d_jd_ntzI_78 : decode jd_ntzI.2.1 78 = .ok (.iadd, 1) := by decide +kernel
theorem d_jd_ntzI_79 : decode jd_ntzI.2.1 79 = .ok (.ireturn, 1) := by decide +kernel
theorem d_jd_bcI_0 : decode jd_bcI.2.1 0 = .ok (.iload_n 0, 1) := by decide +kernel
theorem d_jd_bcI_1 : decode jd_bcI.2.1 1 = .ok (.iload_n 0, 1) := by decide +kernel
theorem d_jd_bcI_2 : decode jd_bcI.2.1 2 = .ok (.iconst 1, 1) := by decide +kernel
theorem d_jd_bcI_3 : decode jd_bcI.2.1 3 = .ok (.iushr, 1) := by decide +kernel
theorem d_jd_bcI_4 : decode jd_bcI.2.1 4 = .ok (.ldc_w 265, 3) := by decide +kernel
theorem d_jd_bcI_7 : decode jd_bcI.2.1 7 = .ok (.iand, 1) := by decide +kernel
theorem d_jd_bcI_8 : decode jd_bcI.2.1 8 = .ok (.isub, 1) := by decide +kernel
theorem d_jd_bcI_9 : decode jd_bcI.2.1 9 = .ok (.istore_n 0, 1) := by decide +kernel
theorem d_jd_bcI_10 : decode jd_bcI.2.1 10 = .ok (.iload_n 0, 1) := by decide +kernel
theorem d_jd_bcI_11 : decode jd_bcI.2.1 11 = .ok (.ldc_w 266, 3) := by decide +kernel
theorem d_jd_bcI_14 : decode jd_bcI.2.1 14 = .ok (.iand, 1) := by decide +kernel
theorem d_jd_bcI_15 : decode jd_bcI.2.1 15 = .ok (.iload_n 0, 1) := by decide +kernel
theorem d_jd_bcI_16 : decode jd_bcI.2.1 16 = .ok (.iconst 2, 1) := by decide +kernel
theorem d_jd_bcI_17 : decode jd_bcI.2.1 17 = .ok (.iushr, 1) := by decide +kernel
theorem d_jd_bcI_18 : decode jd_bcI.2.1 18 = .ok (.ldc_w 266, 3) := by decide +kernel
theorem d_jd_bcI_21 : decode jd_bcI.2.1 21 = .ok (.iand, 1) := by decide +kernel
theorem d_jd_bcI_22 : decode jd_bcI.2.1 22 = .ok (.iadd, 1) := by decide +kernel
theorem d_jd_bcI_23 : decode jd_bcI.2.1 23 = .ok (.istore_n 0, 1) := by decide +kernel
theorem d_jd_bcI_24 : decode jd_bcI.2.1 24 = .ok (.iload_n 0, 1) := by decide +kernel
theorem d_jd_bcI_25 : decode jd_bcI.2.1 25 = .ok (.iload_n 0, 1) := by decide +kernel
theorem d_jd_bcI_26 : decode jd_bcI.2.1 26 = .ok (.iconst 4, 1) := by decide +kernel
theorem d_jd_bcI_27 : decode jd_bcI.2.1 27 = .ok (.iushr, 1) := by decide +kernel
theorem d_jd_bcI_28 : decode jd_bcI.2.1 28 = .ok (.iadd, 1) := by decide +kernel
theorem d_jd_bcI_29 : decode jd_bcI.2.1 29 = .ok (.ldc_w 267, 3) := by decide +kernel
theorem d_jd_bcI_32 : decode jd_bcI.2.1 32 = .ok (.iand, 1) := by decide +kernel
theorem d_jd_bcI_33 : decode jd_bcI.2.1 33 = .ok (.istore_n 0, 1) := by decide +kernel
theorem d_jd_bcI_34 : decode jd_bcI.2.1 34 = .ok (.iload_n 0, 1) := by decide +kernel
theorem d_jd_bcI_35 : decode jd_bcI.2.1 35 = .ok (.iload_n 0, 1) := by decide +kernel
theorem d_jd_bcI_36 : decode jd_bcI.2.1 36 = .ok (.bipush 8, 2) := by decide +kernel
theorem d_jd_bcI_38 : decode jd_bcI.2.1 38 = .ok (.iushr, 1) := by decide +kernel
theorem d_jd_bcI_39 : decode jd_bcI.2.1 39 = .ok (.iadd, 1) := by decide +kernel
theorem d_jd_bcI_40 : decode jd_bcI.2.1 40 = .ok (.istore_n 0, 1) := by decide +kernel
theorem d_jd_bcI_41 : decode jd_bcI.2.1 41 = .ok (.iload_n 0, 1) := by decide +kernel
theorem d_jd_bcI_42 : decode jd_bcI.2.1 42 = .ok (.iload_n 0, 1) := by decide +kernel
theorem d_jd_bcI_43 : decode jd_bcI.2.1 43 = .ok (.bipush 16, 2) := by decide +kernel
theorem d_jd_bcI_45 : decode jd_bcI.2.1 45 = .ok (.iushr, 1) := by decide +kernel
theorem d_jd_bcI_46 : decode jd_bcI.2.1 46 = .ok (.iadd, 1) := by decide +kernel
theorem d_jd_bcI_47 : decode jd_bcI.2.1 47 = .ok (.istore_n 0, 1) := by decide +kernel
theorem d_jd_bcI_48 : decode jd_bcI.2.1 48 = .ok (.iload_n 0, 1) := by decide +kernel
theorem d_jd_bcI_49 : decode jd_bcI.2.1 49 = .ok (.bipush 63, 2) := by decide +kernel
theorem d_jd_bcI_51 : decode jd_bcI.2.1 51 = .ok (.iand, 1) := by decide +kernel
theorem d_jd_bcI_52 : decode jd_bcI.2.1 52 = .ok (.ireturn, 1) := by decide +kernel
theorem d_jd_ntzL_0 : decode jd_ntzL.2.1 0 = .ok (.lload_n 0, 1) := by decide +kernel
theorem d_jd_ntzL_1 : decode jd_ntzL.2.1 1 = .ok (.l2i, 1) := by decide +kernel
theorem d_jd_ntzL_2 : decode jd_ntzL.2.1 2 = .ok (.istore_n 2, 1) := by decide +kernel
theorem d_jd_ntzL_3 : decode jd_ntzL.2.1 3 = .ok (.iload_n 2, 1) := by decide +kernel
theorem d_jd_ntzL_4 : decode jd_ntzL.2.1 4 = .ok (.ifCond .ne 17, 3) := by decide +kernel
theorem d_jd_ntzL_7 : decode jd_ntzL.2.1 7 = .ok (.bipush 32, 2) := by decide +kernel
theorem d_jd_ntzL_9 : decode jd_ntzL.2.1 9 = .ok (.lload_n 0, 1) := by decide +kernel
theorem d_jd_ntzL_10 : decode jd_ntzL.2.1 10 = .ok (.bipush 32, 2) := by decide +kernel
theorem d_jd_ntzL_12 : decode jd_ntzL.2.1 12 = .ok (.lushr, 1) := by decide +kernel
theorem d_jd_ntzL_13 : decode jd_ntzL.2.1 13 = .ok (.l2i, 1) := by decide +kernel
theorem d_jd_ntzL_14 : decode jd_ntzL.2.1 14 = .ok (.invokestatic 311, 3) := by decide +kernel
theorem d_jd_ntzL_17 : decode jd_ntzL.2.1 17 = .ok (.iadd, 1) := by decide +kernel
theorem d_jd_ntzL_18 : decode jd_ntzL.2.1 18 = .ok (.goto 7, 3) := by decide +kernel
theorem d_jd_ntzL_21 : decode jd_ntzL.2.1 21 = .ok (.iload_n 2, 1) := by decide +kernel
theorem d_jd_ntzL_22 : decode jd_ntzL.2.1 22 = .ok (.invokestatic 311, 3) := by decide +kernel
theorem d_jd_ntzL_25 : decode jd_ntzL.2.1 25 = .ok (.ireturn, 1) := by decide +kernel
theorem d_jd_bcL_0 : decode jd_bcL.2.1 0 = .ok (.lload_n 0, 1) := by decide +kernel
theorem d_jd_bcL_1 : decode jd_bcL.2.1 1 = .ok (.lload_n 0, 1) := by decide +kernel
theorem d_jd_bcL_2 : decode jd_bcL.2.1 2 = .ok (.iconst 1, 1) := by decide +kernel
theorem d_jd_bcL_3 : decode jd_bcL.2.1 3 = .ok (.lushr, 1) := by decide +kernel
theorem d_jd_bcL_4 : decode jd_bcL.2.1 4 = .ok (.ldc2_w 314, 3) := by decide +kernel
theorem d_jd_bcL_7 : decode jd_bcL.2.1 7 = .ok (.land, 1) := by decide +kernel
theorem d_jd_bcL_8 : decode jd_bcL.2.1 8 = .ok (.lsub, 1) := by decide +kernel
theorem d_jd_bcL_9 : decode jd_bcL.2.1 9 = .ok (.lstore_n 0, 1) := by decide +kernel
theorem d_jd_bcL_10 : decode jd_bcL.2.1 10 = .ok (.lload_n 0, 1) := by decide +kernel
theorem d_jd_bcL_11 : decode jd_bcL.2.1 11 = .ok (.ldc2_w 316, 3) := by decide +kernel
theorem d_jd_bcL_14 : decode jd_bcL.2.1 14 = .ok (.land, 1) := by decide +kernel
theorem d_jd_bcL_15 : decode jd_bcL.2.1 15 = .ok (.lload_n 0, 1) := by decide +kernel
theorem d_jd_bcL_16 : decode jd_bcL.2.1 16 = .ok (.iconst 2, 1) := by decide +kernel
theorem d_jd_bcL_17 : decode jd_bcL.2.1 17 = .ok (.lushr, 1) := by decide +kernel
theorem d_jd_bcL_18 : decode jd_bcL.2.1 18 = .ok (.ldc2_w 316, 3) := by decide +kernel
theorem d_jd_bcL_21 : decode jd_bcL.2.1 21 = .ok (.land, 1) := by decide +kernel
theorem d_jd_bcL_22 : decode jd_bcL.2.1 22 = .ok (.ladd, 1) := by decide +kernel
theorem d_jd_bcL_23 : decode jd_bcL.2.1 23 = .ok (.lstore_n 0, 1) := by decide +kernel
theorem d_jd_bcL_24 : decode jd_bcL.2.1 24 = .ok (.lload_n 0, 1) := by decide +kernel
theorem d_jd_bcL_25 : decode jd_bcL.2.1 25 = .ok (.lload_n 0, 1) := by decide +kernel
theorem d_jd_bcL_26 : decode jd_bcL.2.1 26 = .ok (.iconst 4, 1) := by decide +kernel
theorem d_jd_bcL_27 : decode jd_bcL.2.1 27 = .ok (.lushr, 1) := by decide +kernel
theorem d_jd_bcL_28 : decode jd_bcL.2.1 28 = .ok (.ladd, 1) := by decide +kernel
theorem d_jd_bcL_29 : decode jd_bcL.2.1 29 = .ok (.ldc2_w 318, 3) := by decide +kernel
theorem d_jd_bcL_32 : decode jd_bcL.2.1 32 = .ok (.land, 1) := by decide +kernel
theorem d_jd_bcL_33 : decode jd_bcL.2.1 33 = .ok (.lstore_n 0, 1) := by decide +kernel
theorem d_jd_bcL_34 : decode jd_bcL.2.1 34 = .ok (.lload_n 0, 1) := by decide +kernel
theorem d_jd_bcL_35 : decode jd_bcL.2.1 35 = .ok (.lload_n 0, 1) := by decide +kernel
theorem d_jd_bcL_36 : decode jd_bcL.2.1 36 = .ok (.bipush 8, 2) := by decide +kernel
theorem d_jd_bcL_38 : decode jd_bcL.2.1 38 = .ok (.lushr, 1) := by decide +kernel
theorem d_jd_bcL_39 : decode jd_bcL.2.1 39 = .ok (.ladd, 1) := by decide +kernel
theorem d_jd_bcL_40 : decode jd_bcL.2.1 40 = .ok (.lstore_n 0, 1) := by decide +kernel
theorem d_jd_bcL_41 : decode jd_bcL.2.1 41 = .ok (.lload_n 0, 1) := by decide +kernel
theorem d_jd_bcL_42 : decode jd_bcL.2.1 42 = .ok (.lload_n 0, 1) := by decide +kernel
theorem d_jd_bcL_43 : decode jd_bcL.2.1 43 = .ok (.bipush 16, 2) := by decide +kernel
theorem d_jd_bcL_45 : decode jd_bcL.2.1 45 = .ok (.lushr, 1) := by decide +kernel
theorem d_jd_bcL_46 : decode jd_bcL.2.1 46 = .ok (.ladd, 1) := by decide +kernel
theorem d_jd_bcL_47 : decode jd_bcL.2.1 47 = .ok (.lstore_n 0, 1) := by decide +kernel
theorem d_jd_bcL_48 : decode jd_bcL.2.1 48 = .ok (.lload_n 0, 1) := by decide +kernel
theorem d_jd_bcL_49 : decode jd_bcL.2.1 49 = .ok (.lload_n 0, 1) := by decide +kernel
theorem d_jd_bcL_50 : decode jd_bcL.2.1 50 = .ok (.bipush 32, 2) := by decide +kernel
theorem d_jd_bcL_52 : decode jd_bcL.2.1 52 = .ok (.lushr, 1) := by decide +kernel
theorem d_jd_bcL_53 : decode jd_bcL.2.1 53 = .ok (.ladd, 1) := by decide +kernel
theorem d_jd_bcL_54 : decode jd_bcL.2.1 54 = .ok (.lstore_n 0, 1) := by decide +kernel
theorem d_jd_bcL_55 : decode jd_bcL.2.1 55 = .ok (.lload_n 0, 1) := by decide +kernel
theorem d_jd_bcL_56 : decode jd_bcL.2.1 56 = .ok (.l2i, 1) := by decide +kernel
theorem d_jd_bcL_57 : decode jd_bcL.2.1 57 = .ok (.bipush 127, 2) := by decide +kernel
theorem d_jd_bcL_59 : decode jd_bcL.2.1 59 = .ok (.iand, 1) := by decide +kernel
theorem d_jd_bcL_60 : decode jd_bcL.2.1 60 = .ok (.ireturn, 1) := by decide +kernel
theorem d_jd_floorDiv_0 : decode jd_floorDiv.2.1 0 = .ok (.iload_n 0, 1) := by decide +kernel
theorem d_jd_floorDiv_1 : decode jd_floorDiv.2.1 1 = .ok (.iload_n 1, 1) := by decide +kernel
theorem d_jd_floorDiv_2 : decode jd_floorDiv.2.1 2 = .ok (.idiv, 1) := by decide +kernel
theorem d_jd_floorDiv_3 : decode jd_floorDiv.2.1 3 = .ok (.istore_n 2, 1) := by decide +kernel
theorem d_jd_floorDiv_4 : decode jd_floorDiv.2.1 4 = .ok (.iload_n 0, 1) := by decide +kernel
theorem d_jd_floorDiv_5 : decode jd_floorDiv.2.1 5 = .ok (.iload_n 1, 1) := by decide +kernel
theorem d_jd_floorDiv_6 : decode jd_floorDiv.2.1 6 = .ok (.ixor, 1) := by decide +kernel
theorem d_jd_floorDiv_7 : decode jd_floorDiv.2.1 7 = .ok (.ifCond .ge 14, 3) := by decide +kernel
theorem d_jd_floorDiv_10 : decode jd_floorDiv.2.1 10 = .ok (.iload_n 2, 1) := by decide +kernel
theorem d_jd_floorDiv_11 : decode jd_floorDiv.2.1 11 = .ok (.iload_n 1, 1) := by decide +kernel
theorem d_jd_floorDiv_12 : decode jd_floorDiv.2.1 12 = .ok (.imul, 1) := by decide +kernel
theorem d_jd_floorDiv_13 : decode jd_floorDiv.2.1 13 = .ok (.iload_n 0, 1) := by decide +kernel
theorem d_jd_floorDiv_14 : decode jd_floorDiv.2.1 14 = .ok (.if_icmp .eq 7, 3) := by decide +kernel
theorem d_jd_floorDiv_17 : decode jd_floorDiv.2.1 17 = .ok (.iload_n 2, 1) := by decide +kernel
theorem d_jd_floorDiv_18 : decode jd_floorDiv.2.1 18 = .ok (.iconst 1, 1) := by decide +kernel
theorem d_jd_floorDiv_19 : decode jd_floorDiv.2.1 19 = .ok (.isub, 1) := by decide +kernel
theorem d_jd_floorDiv_20 : decode jd_floorDiv.2.1 20 = .ok (.ireturn, 1) := by decide +kernel
theorem d_jd_floorDiv_21 : decode jd_floorDiv.2.1 21 = .ok (.iload_n 2, 1) := by decide +kernel
theorem d_jd_floorDiv_22 : decode jd_floorDiv.2.1 22 = .ok (.ireturn, 1) := by decide +kernel
theorem d_jd_floorMod_0 : decode jd_floorMod.2.1 0 = .ok (.iload_n 0, 1) := by decide +kernel
theorem d_jd_floorMod_1 : decode jd_floorMod.2.1 1 = .ok (.iload_n 1, 1) := by decide +kernel
theorem d_jd_floorMod_2 : decode jd_floorMod.2.1 2 = .ok (.irem, 1) := by decide +kernel
theorem d_jd_floorMod_3 : decode jd_floorMod.2.1 3 = .ok (.istore_n 2, 1) := by decide +kernel
theorem d_jd_floorMod_4 : decode jd_floorMod.2.1 4 = .ok (.iload_n 0, 1) := by decide +kernel
theorem d_jd_floorMod_5 : decode jd_floorMod.2.1 5 = .ok (.iload_n 1, 1) := by decide +kernel
theorem d_jd_floorMod_6 : decode jd_floorMod.2.1 6 = .ok (.ixor, 1) := by decide +kernel
theorem d_jd_floorMod_7 : decode jd_floorMod.2.1 7 = .ok (.ifCond .ge 11, 3) := by decide +kernel
theorem d_jd_floorMod_10 : decode jd_floorMod.2.1 10 = .ok (.iload_n 2, 1) := by decide +kernel
theorem d_jd_floorMod_11 : decode jd_floorMod.2.1 11 = .ok (.ifCond .eq 7, 3) := by decide +kernel
theorem d_jd_floorMod_14 : decode jd_floorMod.2.1 14 = .ok (.iload_n 2, 1) := by decide +kernel
theorem d_jd_floorMod_15 : decode jd_floorMod.2.1 15 = .ok (.iload_n 1, 1) := by decide +kernel
theorem d_jd_floorMod_16 : decode jd_floorMod.2.1 16 = .ok (.iadd, 1) := by decide +kernel
theorem d_jd_floorMod_17 : decode jd_floorMod.2.1 17 = .ok (.ireturn, 1) := by decide +kernel
theorem d_jd_floorMod_18 : decode jd_floorMod.2.1 18 = .ok (.iload_n 2, 1) := by decide +kernel
theorem d_jd_floorMod_19 : decode jd_floorMod.2.1 19 = .ok (.ireturn, 1) := by decide +kernel
theorem d_jd_max_0 : decode jd_max.2.1 0 = .ok (.iload_n 0, 1) := by decide +kernel
theorem d_jd_max_1 : decode jd_max.2.1 1 = .ok (.iload_n 1, 1) := by decide +kernel
theorem d_jd_max_2 : decode jd_max.2.1 2 = .ok (.if_icmp .lt 7, 3) := by decide +kernel
theorem d_jd_max_5 : decode jd_max.2.1 5 = .ok (.iload_n 0, 1) := by decide +kernel
theorem d_jd_max_6 : decode jd_max.2.1 6 = .ok (.goto 4, 3) := by decide +kernel
theorem d_jd_max_9 : decode jd_max.2.1 9 = .ok (.iload_n 1, 1) := by decide +kernel
theorem d_jd_max_10 : decode jd_max.2.1 10 = .ok (.ireturn, 1) := by decide +kernel
theorem d_jd_min_0 : decode jd_min.2.1 0 = .ok (.iload_n 0, 1) := by decide +kernel
theorem d_jd_min_1 : decode jd_min.2.1 1 = .ok (.iload_n 1, 1) := by decide +kernel
theorem d_jd_min_2 : decode jd_min.2.1 2 = .ok (.if_icmp .gt 7, 3) := by decide +kernel
theorem d_jd_min_5 : decode jd_min.2.1 5 = .ok (.iload_n 0, 1) := by decide +kernel
theorem d_jd_min_6 : decode jd_min.2.1 6 = .ok (.goto 4, 3) := by decide +kernel
theorem d_jd_min_9 : decode jd_min.2.1 9 = .ok (.iload_n 1, 1) := by decide +kernel
theorem d_jd_min_10 : decode jd_min.2.1 10 = .ok (.ireturn, 1) := by decide +kernel
theorem d_jd_fillL_0 : decode jd_fillL.2.1 0 = .ok (.iconst 0, 1) := by decide +kernel
theorem d_jd_fillL_1 : decode jd_fillL.2.1 1 = .ok (.istore_n 3, 1) := by decide +kernel
theorem d_jd_fillL_2 : decode jd_fillL.2.1 2 = .ok (.aload_n 0, 1) := by decide +kernel
theorem d_jd_fillL_3 : decode jd_fillL.2.1 3 = .ok (.arraylength, 1) := by decide +kernel
theorem d_jd_fillL_4 : decode jd_fillL.2.1 4 = .ok (.istore 4, 2) := by decide +kernel
theorem d_jd_fillL_6 : decode jd_fillL.2.1 6 = .ok (.iload_n 3, 1) := by decide +kernel
theorem d_jd_fillL_7 : decode jd_fillL.2.1 7 = .ok (.iload 4, 2) := by decide +kernel
theorem d_jd_fillL_9 : decode jd_fillL.2.1 9 = .ok (.if_icmp .ge 13, 3) := by decide +kernel
theorem d_jd_fillL_12 : decode jd_fillL.2.1 12 = .ok (.aload_n 0, 1) := by decide +kernel
theorem d_jd_fillL_13 : decode jd_fillL.2.1 13 = .ok (.iload_n 3, 1) := by decide +kernel
theorem d_jd_fillL_14 : decode jd_fillL.2.1 14 = .ok (.lload_n 1, 1) := by decide +kernel
theorem d_jd_fillL_15 : decode jd_fillL.2.1 15 = .ok (.lastore, 1) := by decide +kernel
theorem d_jd_fillL_16 : decode jd_fillL.2.1 16 = .ok (.iinc 3 1, 3) := by decide +kernel
theorem d_jd_fillL_19 : decode jd_fillL.2.1 19 = .ok (.goto (-13), 3) := by decide +kernel
theorem d_jd_fillL_22 : decode jd_fillL.2.1 22 = .ok (.return_, 1) := by decide +kernel
theorem d_jd_fillI_0 : decode jd_fillI.2.1 0 = .ok (.iconst 0, 1) := by decide +kernel
theorem d_jd_fillI_1 : decode jd_fillI.2.1 1 = .ok (.istore_n 2, 1) := by decide +kernel
theorem d_jd_fillI_2 : decode jd_fillI.2.1 2 = .ok (.aload_n 0, 1) := by decide +kernel
theorem d_jd_fillI_3 : decode jd_fillI.2.1 3 = .ok (.arraylength, 1) := by decide +kernel
theorem d_jd_fillI_4 : decode jd_fillI.2.1 4 = .ok (.istore_n 3, 1) := by decide +kernel
theorem d_jd_fillI_5 : decode jd_fillI.2.1 5 = .ok (.iload_n 2, 1) := by decide +kernel
theorem d_jd_fillI_6 : decode jd_fillI.2.1 6 = .ok (.iload_n 3, 1) := by decide +kernel
theorem d_jd_fillI_7 : decode jd_fillI.2.1 7 = .ok (.if_icmp .ge 13, 3) := by decide +kernel
theorem d_jd_fillI_10 : decode jd_fillI.2.1 10 = .ok (.aload_n 0, 1) := by decide +kernel
theorem d_jd_fillI_11 : decode jd_fillI.2.1 11 = .ok (.iload_n 2, 1) := by decide +kernel
theorem d_jd_fillI_12 : decode jd_fillI.2.1 12 = .ok (.iload_n 1, 1) := by decide +kernel
theorem d_jd_fillI_13 : decode jd_fillI.2.1 13 = .ok (.iastore, 1) := by decide +kernel
theorem d_jd_fillI_14 : decode jd_fillI.2.1 14 = .ok (.iinc 2 1, 3) := by decide +kernel
theorem d_jd_fillI_17 : decode jd_fillI.2.1 17 = .ok (.goto (-12), 3) := by decide +kernel
theorem d_jd_fillI_20 : decode jd_fillI.2.1 20 = .ok (.return_, 1) := by decide +kernel
theorem d_law_0 : decode law.2.1 0 = .ok (.new 7, 3) := by decide +kernel
theorem d_law_3 : decode law.2.1 3 = .ok (.dup, 1) := by decide +kernel
theorem d_law_4 : decode law.2.1 4 = .ok (.invokespecial 9, 3) := by decide +kernel
theorem d_law_7 : decode law.2.1 7 = .ok (.astore_n 1, 1) := by decide +kernel
theorem d_law_8 : decode law.2.1 8 = .ok (.new 10, 3) := by decide +kernel
theorem d_law_11 : decode law.2.1 11 = .ok (.dup, 1) := by decide +kernel
theorem d_law_12 : decode law.2.1 12 = .ok (.invokespecial 12, 3) := by decide +kernel
theorem d_law_15 : decode law.2.1 15 = .ok (.astore_n 2, 1) := by decide +kernel
theorem d_law_16 : decode law.2.1 16 = .ok (.iconst 0, 1) := by decide +kernel
theorem d_law_17 : decode law.2.1 17 = .ok (.istore_n 3, 1) := by decide +kernel
theorem d_law_18 : decode law.2.1 18 = .ok (.iload_n 3, 1) := by decide +kernel
theorem d_law_19 : decode law.2.1 19 = .ok (.aload_n 0, 1) := by decide +kernel
theorem d_law_20 : decode law.2.1 20 = .ok (.arraylength, 1) := by decide +kernel
theorem d_law_21 : decode law.2.1 21 = .ok (.bipush 7, 2) := by decide +kernel
theorem d_law_23 : decode law.2.1 23 = .ok (.isub, 1) := by decide +kernel
theorem d_law_24 : decode law.2.1 24 = .ok (.if_icmp .gt 1690, 3) := by decide +kernel
theorem d_law_27 : decode law.2.1 27 = .ok (.aload_n 0, 1) := by decide +kernel
theorem d_law_28 : decode law.2.1 28 = .ok (.iload_n 3, 1) := by decide +kernel
theorem d_law_29 : decode law.2.1 29 = .ok (.iaload, 1) := by decide +kernel
theorem d_law_30 : decode law.2.1 30 = .ok (.bipush 63, 2) := by decide +kernel
theorem d_law_32 : decode law.2.1 32 = .ok (.iand, 1) := by decide +kernel
theorem d_law_33 : decode law.2.1 33 = .ok (.tableswitch 1675 0 36 #[163, 274, 327, 370, 403, 416, 469, 502, 545, 608, 661, 714, 757, 810, 833, 896, 919, 962, 995, 1070, 1113, 1167, 1200, 1223, 1256, 1279, 1312, 1355, 1388, 1451, 1494, 1517, 1550, 1573, 1596, 1639, 1652], 163) := by decide +kernel
theorem d_law_196 : decode law.2.1 196 = .ok (.aload_n 1, 1) := by decide +kernel
theorem d_law_197 : decode law.2.1 197 = .ok (.aload_n 0, 1) := by decide +kernel
theorem d_law_198 : decode law.2.1 198 = .ok (.iload_n 3, 1) := by decide +kernel
theorem d_law_199 : decode law.2.1 199 = .ok (.iconst 1, 1) := by decide +kernel
theorem d_law_200 : decode law.2.1 200 = .ok (.iadd, 1) := by decide +kernel
theorem d_law_201 : decode law.2.1 201 = .ok (.iaload, 1) := by decide +kernel
theorem d_law_202 : decode law.2.1 202 = .ok (.aload_n 0, 1) := by decide +kernel
theorem d_law_203 : decode law.2.1 203 = .ok (.iload_n 3, 1) := by decide +kernel
theorem d_law_204 : decode law.2.1 204 = .ok (.iconst 2, 1) := by decide +kernel
theorem d_law_205 : decode law.2.1 205 = .ok (.iadd, 1) := by decide +kernel
theorem d_law_206 : decode law.2.1 206 = .ok (.iaload, 1) := by decide +kernel
theorem d_law_207 : decode law.2.1 207 = .ok (.aload_n 0, 1) := by decide +kernel
theorem d_law_208 : decode law.2.1 208 = .ok (.iload_n 3, 1) := by decide +kernel
theorem d_law_209 : decode law.2.1 209 = .ok (.iconst 3, 1) := by decide +kernel
theorem d_law_210 : decode law.2.1 210 = .ok (.iadd, 1) := by decide +kernel
theorem d_law_211 : decode law.2.1 211 = .ok (.iaload, 1) := by decide +kernel
theorem d_law_212 : decode law.2.1 212 = .ok (.ifCond .eq 7, 3) := by decide +kernel
theorem d_law_215 : decode law.2.1 215 = .ok (.iconst 1, 1) := by decide +kernel
theorem d_law_216 : decode law.2.1 216 = .ok (.goto 4, 3) := by decide +kernel
theorem d_law_219 : decode law.2.1 219 = .ok (.iconst 0, 1) := by decide +kernel
theorem d_law_220 : decode law.2.1 220 = .ok (.aload_n 0, 1) := by decide +kernel
theorem d_law_221 : decode law.2.1 221 = .ok (.iload_n 3, 1) := by decide +kernel
theorem d_law_222 : decode law.2.1 222 = .ok (.iconst 4, 1) := by decide +kernel
theorem d_law_223 : decode law.2.1 223 = .ok (.iadd, 1) := by decide +kernel
theorem d_law_224 : decode law.2.1 224 = .ok (.iaload, 1) := by decide +kernel
theorem d_law_225 : decode law.2.1 225 = .ok (.aload_n 0, 1) := by decide +kernel
theorem d_law_226 : decode law.2.1 226 = .ok (.iload_n 3, 1) := by decide +kernel
theorem d_law_227 : decode law.2.1 227 = .ok (.iconst 5, 1) := by decide +kernel
theorem d_law_228 : decode law.2.1 228 = .ok (.iadd, 1) := by decide +kernel
theorem d_law_229 : decode law.2.1 229 = .ok (.iaload, 1) := by decide +kernel
theorem d_law_230 : decode law.2.1 230 = .ok (.i2l, 1) := by decide +kernel
theorem d_law_231 : decode law.2.1 231 = .ok (.bipush 32, 2) := by decide +kernel
theorem d_law_233 : decode law.2.1 233 = .ok (.lshl, 1) := by decide +kernel
theorem d_law_234 : decode law.2.1 234 = .ok (.aload_n 0, 1) := by decide +kernel
theorem d_law_235 : decode law.2.1 235 = .ok (.iload_n 3, 1) := by decide +kernel
theorem d_law_236 : decode law.2.1 236 = .ok (.bipush 6, 2) := by decide +kernel
theorem d_law_238 : decode law.2.1 238 = .ok (.iadd, 1) := by decide +kernel
theorem d_law_239 : decode law.2.1 239 = .ok (.iaload, 1) := by decide +kernel
theorem d_law_240 : decode law.2.1 240 = .ok (.i2l, 1) := by decide +kernel
theorem d_law_241 : decode law.2.1 241 = .ok (.ldc2_w 13, 3) := by decide +kernel
theorem d_law_244 : decode law.2.1 244 = .ok (.land, 1) := by decide +kernel
theorem d_law_245 : decode law.2.1 245 = .ok (.lor, 1) := by decide +kernel
theorem d_law_246 : decode law.2.1 246 = .ok (.invokevirtual 15, 3) := by decide +kernel
theorem d_law_249 : decode law.2.1 249 = .ok (.aload_n 2, 1) := by decide +kernel
theorem d_law_250 : decode law.2.1 250 = .ok (.aload_n 0, 1) := by decide +kernel
theorem d_law_251 : decode law.2.1 251 = .ok (.iload_n 3, 1) := by decide +kernel
theorem d_law_252 : decode law.2.1 252 = .ok (.iconst 1, 1) := by decide +kernel
theorem d_law_253 : decode law.2.1 253 = .ok (.iadd, 1) := by decide +kernel
theorem d_law_254 : decode law.2.1 254 = .ok (.iaload, 1) := by decide +kernel
theorem d_law_255 : decode law.2.1 255 = .ok (.aload_n 0, 1) := by decide +kernel
theorem d_law_256 : decode law.2.1 256 = .ok (.iload_n 3, 1) := by decide +kernel
theorem d_law_257 : decode law.2.1 257 = .ok (.iconst 2, 1) := by decide +kernel
theorem d_law_258 : decode law.2.1 258 = .ok (.iadd, 1) := by decide +kernel
theorem d_law_259 : decode law.2.1 259 = .ok (.iaload, 1) := by decide +kernel
theorem d_law_260 : decode law.2.1 260 = .ok (.aload_n 0, 1) := by decide +kernel
theorem d_law_261 : decode law.2.1 261 = .ok (.iload_n 3, 1) := by decide +kernel
theorem d_law_262 : decode law.2.1 262 = .ok (.iconst 3, 1) := by decide +kernel
theorem d_law_263 : decode law.2.1 263 = .ok (.iadd, 1) := by decide +kernel
theorem d_law_264 : decode law.2.1 264 = .ok (.iaload, 1) := by decide +kernel
theorem d_law_265 : decode law.2.1 265 = .ok (.ifCond .eq 7, 3) := by decide +kernel
theorem d_law_268 : decode law.2.1 268 = .ok (.iconst 1, 1) := by decide +kernel
theorem d_law_269 : decode law.2.1 269 = .ok (.goto 4, 3) := by decide +kernel
theorem d_law_272 : decode law.2.1 272 = .ok (.iconst 0, 1) := by decide +kernel
theorem d_law_273 : decode law.2.1 273 = .ok (.aload_n 0, 1) := by decide +kernel
theorem d_law_274 : decode law.2.1 274 = .ok (.iload_n 3, 1) := by decide +kernel
theorem d_law_275 : decode law.2.1 275 = .ok (.iconst 4, 1) := by decide +kernel
theorem d_law_276 : decode law.2.1 276 = .ok (.iadd, 1) := by decide +kernel
theorem d_law_277 : decode law.2.1 277 = .ok (.iaload, 1) := by decide +kernel
theorem d_law_278 : decode law.2.1 278 = .ok (.aload_n 0, 1) := by decide +kernel
theorem d_law_279 : decode law.2.1 279 = .ok (.iload_n 3, 1) := by decide +kernel
theorem d_law_280 : decode law.2.1 280 = .ok (.iconst 5, 1) := by decide +kernel
theorem d_law_281 : decode law.2.1 281 = .ok (.iadd, 1) := by decide +kernel
theorem d_law_282 : decode law.2.1 282 = .ok (.iaload, 1) := by decide +kernel
theorem d_law_283 : decode law.2.1 283 = .ok (.i2l, 1) := by decide +kernel
theorem d_law_284 : decode law.2.1 284 = .ok (.bipush 32, 2) := by decide +kernel
theorem d_law_286 : decode law.2.1 286 = .ok (.lshl, 1) := by decide +kernel
theorem d_law_287 : decode law.2.1 287 = .ok (.aload_n 0, 1) := by decide +kernel
theorem d_law_288 : decode law.2.1 288 = .ok (.iload_n 3, 1) := by decide +kernel
theorem d_law_289 : decode law.2.1 289 = .ok (.bipush 6, 2) := by decide +kernel
theorem d_law_291 : decode law.2.1 291 = .ok (.iadd, 1) := by decide +kernel
theorem d_law_292 : decode law.2.1 292 = .ok (.iaload, 1) := by decide +kernel
theorem d_law_293 : decode law.2.1 293 = .ok (.i2l, 1) := by decide +kernel
theorem d_law_294 : decode law.2.1 294 = .ok (.ldc2_w 13, 3) := by decide +kernel
theorem d_law_297 : decode law.2.1 297 = .ok (.land, 1) := by decide +kernel
theorem d_law_298 : decode law.2.1 298 = .ok (.lor, 1) := by decide +kernel
theorem d_law_299 : decode law.2.1 299 = .ok (.invokevirtual 19, 3) := by decide +kernel
theorem d_law_302 : decode law.2.1 302 = .ok (.if_icmp .eq 1406, 3) := by decide +kernel
theorem d_law_305 : decode law.2.1 305 = .ok (.iconst 0, 1) := by decide +kernel
theorem d_law_306 : decode law.2.1 306 = .ok (.ireturn, 1) := by decide +kernel
theorem d_law_307 : decode law.2.1 307 = .ok (.aload_n 1, 1) := by decide +kernel
theorem d_law_308 : decode law.2.1 308 = .ok (.aload_n 0, 1) := by decide +kernel
theorem d_law_309 : decode law.2.1 309 = .ok (.iload_n 3, 1) := by decide +kernel
theorem d_law_310 : decode law.2.1 310 = .ok (.iconst 1, 1) := by decide +kernel
theorem d_law_311 : decode law.2.1 311 = .ok (.iadd, 1) := by decide +kernel
theorem d_law_312 : decode law.2.1 312 = .ok (.iaload, 1) := by decide +kernel
theorem d_law_313 : decode law.2.1 313 = .ok (.i2l, 1) := by decide +kernel
theorem d_law_314 : decode law.2.1 314 = .ok (.bipush 32, 2) := by decide +kernel
theorem d_law_316 : decode law.2.1 316 = .ok (.lshl, 1) := by decide +kernel
theorem d_law_317 : decode law.2.1 317 = .ok (.aload_n 0, 1) := by decide +kernel
theorem d_law_318 : decode law.2.1 318 = .ok (.iload_n 3, 1) := by decide +kernel
theorem d_law_319 : decode law.2.1 319 = .ok (.iconst 2, 1) := by decide +kernel
theorem d_law_320 : decode law.2.1 320 = .ok (.iadd, 1) := by decide +kernel
theorem d_law_321 : decode law.2.1 321 = .ok (.iaload, 1) := by decide +kernel
theorem d_law_322 : decode law.2.1 322 = .ok (.i2l, 1) := by decide +kernel
theorem d_law_323 : decode law.2.1 323 = .ok (.ldc2_w 13, 3) := by decide +kernel
theorem d_law_326 : decode law.2.1 326 = .ok (.land, 1) := by decide +kernel
theorem d_law_327 : decode law.2.1 327 = .ok (.lor, 1) := by decide +kernel
theorem d_law_328 : decode law.2.1 328 = .ok (.invokevirtual 20, 3) := by decide +kernel
theorem d_law_331 : decode law.2.1 331 = .ok (.aload_n 2, 1) := by decide +kernel
theorem d_law_332 : decode law.2.1 332 = .ok (.aload_n 0, 1) := by decide +kernel
theorem d_law_333 : decode law.2.1 333 = .ok (.iload_n 3, 1) := by decide +kernel
theorem d_law_334 : decode law.2.1 334 = .ok (.iconst 1, 1) := by decide +kernel
theorem d_law_335 : decode law.2.1 335 = .ok (.iadd, 1) := by decide +kernel
theorem d_law_336 : decode law.2.1 336 = .ok (.iaload, 1) := by decide +kernel
theorem d_law_337 : decode law.2.1 337 = .ok (.i2l, 1) := by decide +kernel
theorem d_law_338 : decode law.2.1 338 = .ok (.bipush 32, 2) := by decide +kernel
theorem d_law_340 : decode law.2.1 340 = .ok (.lshl, 1) := by decide +kernel
theorem d_law_341 : decode law.2.1 341 = .ok (.aload_n 0, 1) := by decide +kernel
theorem d_law_342 : decode law.2.1 342 = .ok (.iload_n 3, 1) := by decide +kernel
theorem d_law_343 : decode law.2.1 343 = .ok (.iconst 2, 1) := by decide +kernel
theorem d_law_344 : decode law.2.1 344 = .ok (.iadd, 1) := by decide +kernel
theorem d_law_345 : decode law.2.1 345 = .ok (.iaload, 1) := by decide +kernel
theorem d_law_346 : decode law.2.1 346 = .ok (.i2l, 1) := by decide +kernel
theorem d_law_347 : decode law.2.1 347 = .ok (.ldc2_w 13, 3) := by decide +kernel
theorem d_law_350 : decode law.2.1 350 = .ok (.land, 1) := by decide +kernel
theorem d_law_351 : decode law.2.1 351 = .ok (.lor, 1) := by decide +kernel
theorem d_law_352 : decode law.2.1 352 = .ok (.invokevirtual 24, 3) := by decide +kernel
theorem d_law_355 : decode law.2.1 355 = .ok (.if_icmp .eq 1353, 3) := by decide +kernel
theorem d_law_358 : decode law.2.1 358 = .ok (.iconst 0, 1) := by decide +kernel
theorem d_law_359 : decode law.2.1 359 = .ok (.ireturn, 1) := by decide +kernel
theorem d_law_360 : decode law.2.1 360 = .ok (.aload_n 1, 1) := by decide +kernel
theorem d_law_361 : decode law.2.1 361 = .ok (.aload_n 0, 1) := by decide +kernel
theorem d_law_362 : decode law.2.1 362 = .ok (.iload_n 3, 1) := by decide +kernel
theorem d_law_363 : decode law.2.1 363 = .ok (.iconst 1, 1) := by decide +kernel
theorem d_law_364 : decode law.2.1 364 = .ok (.iadd, 1) := by decide +kernel
theorem d_law_365 : decode law.2.1 365 = .ok (.iaload, 1) := by decide +kernel
theorem d_law_366 : decode law.2.1 366 = .ok (.aload_n 0, 1) := by decide +kernel
theorem d_law_367 : decode law.2.1 367 = .ok (.iload_n 3, 1) := by decide +kernel
theorem d_law_368 : decode law.2.1 368 = .ok (.iconst 2, 1) := by decide +kernel
theorem d_law_369 : decode law.2.1 369 = .ok (.iadd, 1) := by decide +kernel
theorem d_law_370 : decode law.2.1 370 = .ok (.iaload, 1) := by decide +kernel
theorem d_law_371 : decode law.2.1 371 = .ok (.aload_n 0, 1) := by decide +kernel
theorem d_law_372 : decode law.2.1 372 = .ok (.iload_n 3, 1) := by decide +kernel
theorem d_law_373 : decode law.2.1 373 = .ok (.iconst 3, 1) := by decide +kernel
theorem d_law_374 : decode law.2.1 374 = .ok (.iadd, 1) := by decide +kernel
theorem d_law_375 : decode law.2.1 375 = .ok (.iaload, 1) := by decide +kernel
theorem d_law_376 : decode law.2.1 376 = .ok (.invokevirtual 25, 3) := by decide +kernel
theorem d_law_379 : decode law.2.1 379 = .ok (.aload_n 2, 1) := by decide +kernel
theorem d_law_380 : decode law.2.1 380 = .ok (.aload_n 0, 1) := by decide +kernel
theorem d_law_381 : decode law.2.1 381 = .ok (.iload_n 3, 1) := by decide +kernel
theorem d_law_382 : decode law.2.1 382 = .ok (.iconst 1, 1) := by decide +kernel
theorem d_law_383 : decode law.2.1 383 = .ok (.iadd, 1) := by decide +kernel
theorem d_law_384 : decode law.2.1 384 = .ok (.iaload, 1) := by decide +kernel
theorem d_law_385 : decode law.2.1 385 = .ok (.aload_n 0, 1) := by decide +kernel
theorem d_law_386 : decode law.2.1 386 = .ok (.iload_n 3, 1) := by decide +kernel
theorem d_law_387 : decode law.2.1 387 = .ok (.iconst 2, 1) := by decide +kernel
theorem d_law_388 : decode law.2.1 388 = .ok (.iadd, 1) := by decide +kernel
theorem d_law_389 : decode law.2.1 389 = .ok (.iaload, 1) := by decide +kernel
theorem d_law_390 : decode law.2.1 390 = .ok (.aload_n 0, 1) := by decide +kernel
theorem d_law_391 : decode law.2.1 391 = .ok (.iload_n 3, 1) := by decide +kernel
theorem d_law_392 : decode law.2.1 392 = .ok (.iconst 3, 1) := by decide +kernel
theorem d_law_393 : decode law.2.1 393 = .ok (.iadd, 1) := by decide +kernel
theorem d_law_394 : decode law.2.1 394 = .ok (.iaload, 1) := by decide +kernel
theorem d_law_395 : decode law.2.1 395 = .ok (.invokevirtual 29, 3) := by decide +kernel
theorem d_law_398 : decode law.2.1 398 = .ok (.if_icmp .eq 1310, 3) := by decide +kernel
theorem d_law_401 : decode law.2.1 401 = .ok (.iconst 0, 1) := by decide +kernel
theorem d_law_402 : decode law.2.1 402 = .ok (.ireturn, 1) := by decide +kernel
theorem d_law_403 : decode law.2.1 403 = .ok (.aload_n 1, 1) := by decide +kernel
theorem d_law_404 : decode law.2.1 404 = .ok (.aload_n 0, 1) := by decide +kernel
theorem d_law_405 : decode law.2.1 405 = .ok (.iload_n 3, 1) := by decide +kernel
theorem d_law_406 : decode law.2.1 406 = .ok (.iconst 1, 1) := by decide +kernel
theorem d_law_407 : decode law.2.1 407 = .ok (.iadd, 1) := by decide +kernel
theorem d_law_408 : decode law.2.1 408 = .ok (.iaload, 1) := by decide +kernel
theorem d_law_409 : decode law.2.1 409 = .ok (.aload_n 0, 1) := by decide +kernel
theorem d_law_410 : decode law.2.1 410 = .ok (.iload_n 3, 1) := by decide +kernel
theorem d_law_411 : decode law.2.1 411 = .ok (.iconst 2, 1) := by decide +kernel
theorem d_law_412 : decode law.2.1 412 = .ok (.iadd, 1) := by decide +kernel
theorem d_law_413 : decode law.2.1 413 = .ok (.iaload, 1) := by decide +kernel
theorem d_law_414 : decode law.2.1 414 = .ok (.invokevirtual 30, 3) := by decide +kernel
theorem d_law_417 : decode law.2.1 417 = .ok (.aload_n 2, 1) := by decide +kernel
theorem d_law_418 : decode law.2.1 418 = .ok (.aload_n 0, 1) := by decide +kernel
theorem d_law_419 : decode law.2.1 419 = .ok (.iload_n 3, 1) := by decide +kernel
theorem d_law_420 : decode law.2.1 420 = .ok (.iconst 1, 1) := by decide +kernel
theorem d_law_421 : decode law.2.1 421 = .ok (.iadd, 1) := by decide +kernel
theorem d_law_422 : decode law.2.1 422 = .ok (.iaload, 1) := by decide +kernel
theorem d_law_423 : decode law.2.1 423 = .ok (.aload_n 0, 1) := by decide +kernel
theorem d_law_424 : decode law.2.1 424 = .ok (.iload_n 3, 1) := by decide +kernel
theorem d_law_425 : decode law.2.1 425 = .ok (.iconst 2, 1) := by decide +kernel
theorem d_law_426 : decode law.2.1 426 = .ok (.iadd, 1) := by decide +kernel
theorem d_law_427 : decode law.2.1 427 = .ok (.iaload, 1) := by decide +kernel
theorem d_law_428 : decode law.2.1 428 = .ok (.invokevirtual 34, 3) := by decide +kernel
theorem d_law_431 : decode law.2.1 431 = .ok (.if_icmp .eq 1277, 3) := by decide +kernel
theorem d_law_434 : decode law.2.1 434 = .ok (.iconst 0, 1) := by decide +kernel
theorem d_law_435 : decode law.2.1 435 = .ok (.ireturn, 1) := by decide +kernel
theorem d_law_436 : decode law.2.1 436 = .ok (.aload_n 1, 1) := by decide +kernel
theorem d_law_437 : decode law.2.1 437 = .ok (.invokevirtual 35, 3) := by decide +kernel
theorem d_law_440 : decode law.2.1 440 = .ok (.aload_n 2, 1) := by decide +kernel
theorem d_law_441 : decode law.2.1 441 = .ok (.invokevirtual 39, 3) := by decide +kernel
theorem d_law_444 : decode law.2.1 444 = .ok (.if_icmp .eq 1264, 3) := by decide +kernel
theorem d_law_447 : decode law.2.1 447 = .ok (.iconst 0, 1) := by decide +kernel
theorem d_law_448 : decode law.2.1 448 = .ok (.ireturn, 1) := by decide +kernel
theorem d_law_449 : decode law.2.1 449 = .ok (.aload_n 1, 1) := by decide +kernel
theorem d_law_450 : decode law.2.1 450 = .ok (.aload_n 0, 1) := by decide +kernel
theorem d_law_451 : decode law.2.1 451 = .ok (.iload_n 3, 1) := by decide +kernel
theorem d_law_452 : decode law.2.1 452 = .ok (.iconst 1, 1) := by decide +kernel
theorem d_law_453 : decode law.2.1 453 = .ok (.iadd, 1) := by decide +kernel
theorem d_law_454 : decode law.2.1 454 = .ok (.iaload, 1) := by decide +kernel
theorem d_law_455 : decode law.2.1 455 = .ok (.aload_n 0, 1) := by decide +kernel
theorem d_law_456 : decode law.2.1 456 = .ok (.iload_n 3, 1) := by decide +kernel
theorem d_law_457 : decode law.2.1 457 = .ok (.iconst 2, 1) := by decide +kernel
theorem d_law_458 : decode law.2.1 458 = .ok (.iadd, 1) := by decide +kernel
theorem d_law_459 : decode law.2.1 459 = .ok (.iaload, 1) := by decide +kernel
theorem d_law_460 : decode law.2.1 460 = .ok (.aload_n 0, 1) := by decide +kernel
theorem d_law_461 : decode law.2.1 461 = .ok (.iload_n 3, 1) := by decide +kernel
theorem d_law_462 : decode law.2.1 462 = .ok (.iconst 3, 1) := by decide +kernel
theorem d_law_463 : decode law.2.1 463 = .ok (.iadd, 1) := by decide +kernel
theorem d_law_464 : decode law.2.1 464 = .ok (.iaload, 1) := by decide +kernel
theorem d_law_465 : decode law.2.1 465 = .ok (.aload_n 0, 1) := by decide +kernel
theorem d_law_466 : decode law.2.1 466 = .ok (.iload_n 3, 1) := by decide +kernel
theorem d_law_467 : decode law.2.1 467 = .ok (.iconst 4, 1) := by decide +kernel
theorem d_law_468 : decode law.2.1 468 = .ok (.iadd, 1) := by decide +kernel
theorem d_law_469 : decode law.2.1 469 = .ok (.iaload, 1) := by decide +kernel
theorem d_law_470 : decode law.2.1 470 = .ok (.invokevirtual 40, 3) := by decide +kernel
theorem d_law_473 : decode law.2.1 473 = .ok (.aload_n 2, 1) := by decide +kernel
theorem d_law_474 : decode law.2.1 474 = .ok (.aload_n 0, 1) := by decide +kernel
theorem d_law_475 : decode law.2.1 475 = .ok (.iload_n 3, 1) := by decide +kernel
theorem d_law_476 : decode law.2.1 476 = .ok (.iconst 1, 1) := by decide +kernel
theorem d_law_477 : decode law.2.1 477 = .ok (.iadd, 1) := by decide +kernel
theorem d_law_478 : decode law.2.1 478 = .ok (.iaload, 1) := by decide +kernel
theorem d_law_479 : decode law.2.1 479 = .ok (.aload_n 0, 1) := by decide +kernel
theorem d_law_480 : decode law.2.1 480 = .ok (.iload_n 3, 1) := by decide +kernel
theorem d_law_481 : decode law.2.1 481 = .ok (.iconst 2, 1) := by decide +kernel
theorem d_law_482 : decode law.2.1 482 = .ok (.iadd, 1) := by decide +kernel
theorem d_law_483 : decode law.2.1 483 = .ok (.iaload, 1) := by decide +kernel
theorem d_law_484 : decode law.2.1 484 = .ok (.aload_n 0, 1) := by decide +kernel
theorem d_law_485 : decode law.2.1 485 = .ok (.iload_n 3, 1) := by decide +kernel
theorem d_law_486 : decode law.2.1 486 = .ok (.iconst 3, 1) := by decide +kernel
theorem d_law_487 : decode law.2.1 487 = .ok (.iadd, 1) := by decide +kernel
theorem d_law_488 : decode law.2.1 488 = .ok (.iaload, 1) := by decide +kernel
theorem d_law_489 : decode law.2.1 489 = .ok (.aload_n 0, 1) := by decide +kernel
theorem d_law_490 : decode law.2.1 490 = .ok (.iload_n 3, 1) := by decide +kernel
theorem d_law_491 : decode law.2.1 491 = .ok (.iconst 4, 1) := by decide +kernel
theorem d_law_492 : decode law.2.1 492 = .ok (.iadd, 1) := by decide +kernel
theorem d_law_493 : decode law.2.1 493 = .ok (.iaload, 1) := by decide +kernel
theorem d_law_494 : decode law.2.1 494 = .ok (.invokevirtual 44, 3) := by decide +kernel
theorem d_law_497 : decode law.2.1 497 = .ok (.if_icmp .eq 1211, 3) := by decide +kernel
theorem d_law_500 : decode law.2.1 500 = .ok (.iconst 0, 1) := by decide +kernel
theorem d_law_501 : decode law.2.1 501 = .ok (.ireturn, 1) := by decide +kernel
theorem d_law_502 : decode law.2.1 502 = .ok (.aload_n 1, 1) := by decide +kernel
theorem d_law_503 : decode law.2.1 503 = .ok (.aload_n 0, 1) := by decide +kernel
theorem d_law_504 : decode law.2.1 504 = .ok (.iload_n 3, 1) := by decide +kernel
theorem d_law_505 : decode law.2.1 505 = .ok (.iconst 1, 1) := by decide +kernel
theorem d_law_506 : decode law.2.1 506 = .ok (.iadd, 1) := by decide +kernel
theorem d_law_507 : decode law.2.1 507 = .ok (.iaload, 1) := by decide +kernel
theorem d_law_508 : decode law.2.1 508 = .ok (.aload_n 0, 1) := by decide +kernel
theorem d_law_509 : decode law.2.1 509 = .ok (.iload_n 3, 1) := by decide +kernel
theorem d_law_510 : decode law.2.1 510 = .ok (.iconst 2, 1) := by decide +kernel
theorem d_law_511 : decode law.2.1 511 = .ok (.iadd, 1) := by decide +kernel
theorem d_law_512 : decode law.2.1 512 = .ok (.iaload, 1) := by decide +kernel
theorem d_law_513 : decode law.2.1 513 = .ok (.invokevirtual 45, 3) := by decide +kernel
theorem d_law_516 : decode law.2.1 516 = .ok (.aload_n 2, 1) := by decide +kernel
theorem d_law_517 : decode law.2.1 517 = .ok (.aload_n 0, 1) := by decide +kernel
theorem d_law_518 : decode law.2.1 518 = .ok (.iload_n 3, 1) := by decide +kernel
theorem d_law_519 : decode law.2.1 519 = .ok (.iconst 1, 1) := by decide +kernel
theorem d_law_520 : decode law.2.1 520 = .ok (.iadd, 1) := by decide +kernel
theorem d_law_521 : decode law.2.1 521 = .ok (.iaload, 1) := by decide +kernel
theorem d_law_522 : decode law.2.1 522 = .ok (.aload_n 0, 1) := by decide +kernel
theorem d_law_523 : decode law.2.1 523 = .ok (.iload_n 3, 1) := by decide +kernel
theorem d_law_524 : decode law.2.1 524 = .ok (.iconst 2, 1) := by decide +kernel
theorem d_law_525 : decode law.2.1 525 = .ok (.iadd, 1) := by decide +kernel
theorem d_law_526 : decode law.2.1 526 = .ok (.iaload, 1) := by decide +kernel
theorem d_law_527 : decode law.2.1 527 = .ok (.invokevirtual 49, 3) := by decide +kernel
theorem d_law_530 : decode law.2.1 530 = .ok (.if_icmp .eq 1178, 3) := by decide +kernel
theorem d_law_533 : decode law.2.1 533 = .ok (.iconst 0, 1) := by decide +kernel
theorem d_law_534 : decode law.2.1 534 = .ok (.ireturn, 1) := by decide +kernel
theorem d_law_535 : decode law.2.1 535 = .ok (.aload_n 1, 1) := by decide +kernel
theorem d_law_536 : decode law.2.1 536 = .ok (.aload_n 0, 1) := by decide +kernel
theorem d_law_537 : decode law.2.1 537 = .ok (.iload_n 3, 1) := by decide +kernel
theorem d_law_538 : decode law.2.1 538 = .ok (.iconst 1, 1) := by decide +kernel
theorem d_law_539 : decode law.2.1 539 = .ok (.iadd, 1) := by decide +kernel
theorem d_law_540 : decode law.2.1 540 = .ok (.iaload, 1) := by decide +kernel
theorem d_law_541 : decode law.2.1 541 = .ok (.aload_n 0, 1) := by decide +kernel
theorem d_law_542 : decode law.2.1 542 = .ok (.iload_n 3, 1) := by decide +kernel
theorem d_law_543 : decode law.2.1 543 = .ok (.iconst 2, 1) := by decide +kernel
theorem d_law_544 : decode law.2.1 544 = .ok (.iadd, 1) := by decide +kernel
theorem d_law_545 : decode law.2.1 545 = .ok (.iaload, 1) := by decide +kernel
theorem d_law_546 : decode law.2.1 546 = .ok (.aload_n 0, 1) := by decide +kernel
theorem d_law_547 : decode law.2.1 547 = .ok (.iload_n 3, 1) := by decide +kernel
theorem d_law_548 : decode law.2.1 548 = .ok (.iconst 3, 1) := by decide +kernel
theorem d_law_549 : decode law.2.1 549 = .ok (.iadd, 1) := by decide +kernel
theorem d_law_550 : decode law.2.1 550 = .ok (.iaload, 1) := by decide +kernel
theorem d_law_551 : decode law.2.1 551 = .ok (.invokevirtual 50, 3) := by decide +kernel
theorem d_law_554 : decode law.2.1 554 = .ok (.aload_n 2, 1) := by decide +kernel
theorem d_law_555 : decode law.2.1 555 = .ok (.aload_n 0, 1) := by decide +kernel
theorem d_law_556 : decode law.2.1 556 = .ok (.iload_n 3, 1) := by decide +kernel
theorem d_law_557 : decode law.2.1 557 = .ok (.iconst 1, 1) := by decide +kernel
theorem d_law_558 : decode law.2.1 558 = .ok (.iadd, 1) := by decide +kernel
theorem d_law_559 : decode law.2.1 559 = .ok (.iaload, 1) := by decide +kernel
theorem d_law_560 : decode law.2.1 560 = .ok (.aload_n 0, 1) := by decide +kernel
theorem d_law_561 : decode law.2.1 561 = .ok (.iload_n 3, 1) := by decide +kernel
theorem d_law_562 : decode law.2.1 562 = .ok (.iconst 2, 1) := by decide +kernel
theorem d_law_563 : decode law.2.1 563 = .ok (.iadd, 1) := by decide +kernel
theorem d_law_564 : decode law.2.1 564 = .ok (.iaload, 1) := by decide +kernel
theorem d_law_565 : decode law.2.1 565 = .ok (.aload_n 0, 1) := by decide +kernel
theorem d_law_566 : decode law.2.1 566 = .ok (.iload_n 3, 1) := by decide +kernel
theorem d_law_567 : decode law.2.1 567 = .ok (.iconst 3, 1) := by decide +kernel
theorem d_law_568 : decode law.2.1 568 = .ok (.iadd, 1) := by decide +kernel
theorem d_law_569 : decode law.2.1 569 = .ok (.iaload, 1) := by decide +kernel
theorem d_law_570 : decode law.2.1 570 = .ok (.invokevirtual 54, 3) := by decide +kernel
theorem d_law_573 : decode law.2.1 573 = .ok (.if_icmp .eq 1135, 3) := by decide +kernel
theorem d_law_576 : decode law.2.1 576 = .ok (.iconst 0, 1) := by decide +kernel
theorem d_law_577 : decode law.2.1 577 = .ok (.ireturn, 1) := by decide +kernel
theorem d_law_578 : decode law.2.1 578 = .ok (.aload_n 1, 1) := by decide +kernel
theorem d_law_579 : decode law.2.1 579 = .ok (.aload_n 0, 1) := by decide +kernel
theorem d_law_580 : decode law.2.1 580 = .ok (.iload_n 3, 1) := by decide +kernel
theorem d_law_581 : decode law.2.1 581 = .ok (.iconst 1, 1) := by decide +kernel
theorem d_law_582 : decode law.2.1 582 = .ok (.iadd, 1) := by decide +kernel
theorem d_law_583 : decode law.2.1 583 = .ok (.iaload, 1) := by decide +kernel
theorem d_law_584 : decode law.2.1 584 = .ok (.aload_n 0, 1) := by decide +kernel
theorem d_law_585 : decode law.2.1 585 = .ok (.iload_n 3, 1) := by decide +kernel
theorem d_law_586 : decode law.2.1 586 = .ok (.iconst 2, 1) := by decide +kernel
theorem d_law_587 : decode law.2.1 587 = .ok (.iadd, 1) := by decide +kernel
theorem d_law_588 : decode law.2.1 588 = .ok (.iaload, 1) := by decide +kernel
theorem d_law_589 : decode law.2.1 589 = .ok (.aload_n 0, 1) := by decide +kernel
theorem d_law_590 : decode law.2.1 590 = .ok (.iload_n 3, 1) := by decide +kernel
theorem d_law_591 : decode law.2.1 591 = .ok (.iconst 3, 1) := by decide +kernel
theorem d_law_592 : decode law.2.1 592 = .ok (.iadd, 1) := by decide +kernel
theorem d_law_593 : decode law.2.1 593 = .ok (.iaload, 1) := by decide +kernel
theorem d_law_594 : decode law.2.1 594 = .ok (.aload_n 0, 1) := by decide +kernel
theorem d_law_595 : decode law.2.1 595 = .ok (.iload_n 3, 1) := by decide +kernel
theorem d_law_596 : decode law.2.1 596 = .ok (.iconst 4, 1) := by decide +kernel
theorem d_law_597 : decode law.2.1 597 = .ok (.iadd, 1) := by decide +kernel
theorem d_law_598 : decode law.2.1 598 = .ok (.iaload, 1) := by decide +kernel
theorem d_law_599 : decode law.2.1 599 = .ok (.aload_n 0, 1) := by decide +kernel
theorem d_law_600 : decode law.2.1 600 = .ok (.iload_n 3, 1) := by decide +kernel
theorem d_law_601 : decode law.2.1 601 = .ok (.iconst 5, 1) := by decide +kernel
theorem d_law_602 : decode law.2.1 602 = .ok (.iadd, 1) := by decide +kernel
theorem d_law_603 : decode law.2.1 603 = .ok (.iaload, 1) := by decide +kernel
theorem d_law_604 : decode law.2.1 604 = .ok (.invokevirtual 55, 3) := by decide +kernel
theorem d_law_607 : decode law.2.1 607 = .ok (.aload_n 2, 1) := by decide +kernel
theorem d_law_608 : decode law.2.1 608 = .ok (.aload_n 0, 1) := by decide +kernel
theorem d_law_609 : decode law.2.1 609 = .ok (.iload_n 3, 1) := by decide +kernel
theorem d_law_610 : decode law.2.1 610 = .ok (.iconst 1, 1) := by decide +kernel
theorem d_law_611 : decode law.2.1 611 = .ok (.iadd, 1) := by decide +kernel
theorem d_law_612 : decode law.2.1 612 = .ok (.iaload, 1) := by decide +kernel
theorem d_law_613 : decode law.2.1 613 = .ok (.aload_n 0, 1) := by decide +kernel
theorem d_law_614 : decode law.2.1 614 = .ok (.iload_n 3, 1) := by decide +kernel
theorem d_law_615 : decode law.2.1 615 = .ok (.iconst 2, 1) := by decide +kernel
theorem d_law_616 : decode law.2.1 616 = .ok (.iadd, 1) := by decide +kernel
theorem d_law_617 : decode law.2.1 617 = .ok (.iaload, 1) := by decide +kernel
theorem d_law_618 : decode law.2.1 618 = .ok (.aload_n 0, 1) := by decide +kernel
theorem d_law_619 : decode law.2.1 619 = .ok (.iload_n 3, 1) := by decide +kernel
theorem d_law_620 : decode law.2.1 620 = .ok (.iconst 3, 1) := by decide +kernel
theorem d_law_621 : decode law.2.1 621 = .ok (.iadd, 1) := by decide +kernel
theorem d_law_622 : decode law.2.1 622 = .ok (.iaload, 1) := by decide +kernel
theorem d_law_623 : decode law.2.1 623 = .ok (.aload_n 0, 1) := by decide +kernel
theorem d_law_624 : decode law.2.1 624 = .ok (.iload_n 3, 1) := by decide +kernel
theorem d_law_625 : decode law.2.1 625 = .ok (.iconst 4, 1) := by decide +kernel
theorem d_law_626 : decode law.2.1 626 = .ok (.iadd, 1) := by decide +kernel
theorem d_law_627 : decode law.2.1 627 = .ok (.iaload, 1) := by decide +kernel
theorem d_law_628 : decode law.2.1 628 = .ok (.aload_n 0, 1) := by decide +kernel
theorem d_law_629 : decode law.2.1 629 = .ok (.iload_n 3, 1) := by decide +kernel
theorem d_law_630 : decode law.2.1 630 = .ok (.iconst 5, 1) := by decide +kernel
theorem d_law_631 : decode law.2.1 631 = .ok (.iadd, 1) := by decide +kernel
theorem d_law_632 : decode law.2.1 632 = .ok (.iaload, 1) := by decide +kernel
theorem d_law_633 : decode law.2.1 633 = .ok (.invokevirtual 59, 3) := by decide +kernel
theorem d_law_636 : decode law.2.1 636 = .ok (.if_icmp .eq 1072, 3) := by decide +kernel
theorem d_law_639 : decode law.2.1 639 = .ok (.iconst 0, 1) := by decide +kernel
theorem d_law_640 : decode law.2.1 640 = .ok (.ireturn, 1) := by decide +kernel
theorem d_law_641 : decode law.2.1 641 = .ok (.aload_n 1, 1) := by decide +kernel
theorem d_law_642 : decode law.2.1 642 = .ok (.aload_n 0, 1) := by decide +kernel
theorem d_law_643 : decode law.2.1 643 = .ok (.iload_n 3, 1) := by decide +kernel
theorem d_law_644 : decode law.2.1 644 = .ok (.iconst 1, 1) := by decide +kernel
theorem d_law_645 : decode law.2.1 645 = .ok (.iadd, 1) := by decide +kernel
theorem d_law_646 : decode law.2.1 646 = .ok (.iaload, 1) := by decide +kernel
theorem d_law_647 : decode law.2.1 647 = .ok (.aload_n 0, 1) := by decide +kernel
theorem d_law_648 : decode law.2.1 648 = .ok (.iload_n 3, 1) := by decide +kernel
theorem d_law_649 : decode law.2.1 649 = .ok (.iconst 2, 1) := by decide +kernel
theorem d_law_650 : decode law.2.1 650 = .ok (.iadd, 1) := by decide +kernel
theorem d_law_651 : decode law.2.1 651 = .ok (.iaload, 1) := by decide +kernel
theorem d_law_652 : decode law.2.1 652 = .ok (.aload_n 0, 1) := by decide +kernel
theorem d_law_653 : decode law.2.1 653 = .ok (.iload_n 3, 1) := by decide +kernel
theorem d_law_654 : decode law.2.1 654 = .ok (.iconst 3, 1) := by decide +kernel
theorem d_law_655 : decode law.2.1 655 = .ok (.iadd, 1) := by decide +kernel
theorem d_law_656 : decode law.2.1 656 = .ok (.iaload, 1) := by decide +kernel
theorem d_law_657 : decode law.2.1 657 = .ok (.aload_n 0, 1) := by decide +kernel
theorem d_law_658 : decode law.2.1 658 = .ok (.iload_n 3, 1) := by decide +kernel
theorem d_law_659 : decode law.2.1 659 = .ok (.iconst 4, 1) := by decide +kernel
theorem d_law_660 : decode law.2.1 660 = .ok (.iadd, 1) := by decide +kernel
theorem d_law_661 : decode law.2.1 661 = .ok (.iaload, 1) := by decide +kernel
theorem d_law_662 : decode law.2.1 662 = .ok (.invokevirtual 60, 3) := by decide +kernel
theorem d_law_665 : decode law.2.1 665 = .ok (.aload_n 2, 1) := by decide +kernel
theorem d_law_666 : decode law.2.1 666 = .ok (.aload_n 0, 1) := by decide +kernel
theorem d_law_667 : decode law.2.1 667 = .ok (.iload_n 3, 1) := by decide +kernel
theorem d_law_668 : decode law.2.1 668 = .ok (.iconst 1, 1) := by decide +kernel
theorem d_law_669 : decode law.2.1 669 = .ok (.iadd, 1) := by decide +kernel
theorem d_law_670 : decode law.2.1 670 = .ok (.iaload, 1) := by decide +kernel
theorem d_law_671 : decode law.2.1 671 = .ok (.aload_n 0, 1) := by decide +kernel
theorem d_law_672 : decode law.2.1 672 = .ok (.iload_n 3, 1) := by decide +kernel
theorem d_law_673 : decode law.2.1 673 = .ok (.iconst 2, 1) := by decide +kernel
theorem d_law_674 : decode law.2.1 674 = .ok (.iadd, 1) := by decide +kernel
theorem d_law_675 : decode law.2.1 675 = .ok (.iaload, 1) := by decide +kernel
theorem d_law_676 : decode law.2.1 676 = .ok (.aload_n 0, 1) := by decide +kernel
theorem d_law_677 : decode law.2.1 677 = .ok (.iload_n 3, 1) := by decide +kernel
theorem d_law_678 : decode law.2.1 678 = .ok (.iconst 3, 1) := by decide +kernel
theorem d_law_679 : decode law.2.1 679 = .ok (.iadd, 1) := by decide +kernel
theorem d_law_680 : decode law.2.1 680 = .ok (.iaload, 1) := by decide +kernel
theorem d_law_681 : decode law.2.1 681 = .ok (.aload_n 0, 1) := by decide +kernel
theorem d_law_682 : decode law.2.1 682 = .ok (.iload_n 3, 1) := by decide +kernel
theorem d_law_683 : decode law.2.1 683 = .ok (.iconst 4, 1) := by decide +kernel
theorem d_law_684 : decode law.2.1 684 = .ok (.iadd, 1) := by decide +kernel
theorem d_law_685 : decode law.2.1 685 = .ok (.iaload, 1) := by decide +kernel
theorem d_law_686 : decode law.2.1 686 = .ok (.invokevirtual 63, 3) := by decide +kernel
theorem d_law_689 : decode law.2.1 689 = .ok (.if_icmp .eq 1019, 3) := by decide +kernel
theorem d_law_692 : decode law.2.1 692 = .ok (.iconst 0, 1) := by decide +kernel
theorem d_law_693 : decode law.2.1 693 = .ok (.ireturn, 1) := by decide +kernel
theorem d_law_694 : decode law.2.1 694 = .ok (.aload_n 1, 1) := by decide +kernel
theorem d_law_695 : decode law.2.1 695 = .ok (.aload_n 0, 1) := by decide +kernel
theorem d_law_696 : decode law.2.1 696 = .ok (.iload_n 3, 1) := by decide +kernel
theorem d_law_697 : decode law.2.1 697 = .ok (.iconst 1, 1) := by decide +kernel
theorem d_law_698 : decode law.2.1 698 = .ok (.iadd, 1) := by decide +kernel
theorem d_law_699 : decode law.2.1 699 = .ok (.iaload, 1) := by decide +kernel
theorem d_law_700 : decode law.2.1 700 = .ok (.aload_n 0, 1) := by decide +kernel
theorem d_law_701 : decode law.2.1 701 = .ok (.iload_n 3, 1) := by decide +kernel
theorem d_law_702 : decode law.2.1 702 = .ok (.iconst 2, 1) := by decide +kernel
theorem d_law_703 : decode law.2.1 703 = .ok (.iadd, 1) := by decide +kernel
theorem d_law_704 : decode law.2.1 704 = .ok (.iaload, 1) := by decide +kernel
theorem d_law_705 : decode law.2.1 705 = .ok (.aload_n 0, 1) := by decide +kernel
theorem d_law_706 : decode law.2.1 706 = .ok (.iload_n 3, 1) := by decide +kernel
theorem d_law_707 : decode law.2.1 707 = .ok (.iconst 3, 1) := by decide +kernel
theorem d_law_708 : decode law.2.1 708 = .ok (.iadd, 1) := by decide +kernel
theorem d_law_709 : decode law.2.1 709 = .ok (.iaload, 1) := by decide +kernel
theorem d_law_710 : decode law.2.1 710 = .ok (.aload_n 0, 1) := by decide +kernel
theorem d_law_711 : decode law.2.1 711 = .ok (.iload_n 3, 1) := by decide +kernel
theorem d_law_712 : decode law.2.1 712 = .ok (.iconst 4, 1) := by decide +kernel
theorem d_law_713 : decode law.2.1 713 = .ok (.iadd, 1) := by decide +kernel
theorem d_law_714 : decode law.2.1 714 = .ok (.iaload, 1) := by decide +kernel
theorem d_law_715 : decode law.2.1 715 = .ok (.invokevirtual 64, 3) := by decide +kernel
theorem d_law_718 : decode law.2.1 718 = .ok (.aload_n 2, 1) := by decide +kernel
theorem d_law_719 : decode law.2.1 719 = .ok (.aload_n 0, 1) := by decide +kernel
theorem d_law_720 : decode law.2.1 720 = .ok (.iload_n 3, 1) := by decide +kernel
theorem d_law_721 : decode law.2.1 721 = .ok (.iconst 1, 1) := by decide +kernel
theorem d_law_722 : decode law.2.1 722 = .ok (.iadd, 1) := by decide +kernel
theorem d_law_723 : decode law.2.1 723 = .ok (.iaload, 1) := by decide +kernel
theorem d_law_724 : decode law.2.1 724 = .ok (.aload_n 0, 1) := by decide +kernel
theorem d_law_725 : decode law.2.1 725 = .ok (.iload_n 3, 1) := by decide +kernel
theorem d_law_726 : decode law.2.1 726 = .ok (.iconst 2, 1) := by decide +kernel
theorem d_law_727 : decode law.2.1 727 = .ok (.iadd, 1) := by decide +kernel
theorem d_law_728 : decode law.2.1 728 = .ok (.iaload, 1) := by decide +kernel
theorem d_law_729 : decode law.2.1 729 = .ok (.aload_n 0, 1) := by decide +kernel
theorem d_law_730 : decode law.2.1 730 = .ok (.iload_n 3, 1) := by decide +kernel
theorem d_law_731 : decode law.2.1 731 = .ok (.iconst 3, 1) := by decide +kernel
theorem d_law_732 : decode law.2.1 732 = .ok (.iadd, 1) := by decide +kernel
theorem d_law_733 : decode law.2.1 733 = .ok (.iaload, 1) := by decide +kernel
theorem d_law_734 : decode law.2.1 734 = .ok (.aload_n 0, 1) := by decide +kernel
theorem d_law_735 : decode law.2.1 735 = .ok (.iload_n 3, 1) := by decide +kernel
theorem d_law_736 : decode law.2.1 736 = .ok (.iconst 4, 1) := by decide +kernel
theorem d_law_737 : decode law.2.1 737 = .ok (.iadd, 1) := by decide +kernel
theorem d_law_738 : decode law.2.1 738 = .ok (.iaload, 1) := by decide +kernel
theorem d_law_739 : decode law.2.1 739 = .ok (.invokevirtual 68, 3) := by decide +kernel
theorem d_law_742 : decode law.2.1 742 = .ok (.if_icmp .eq 966, 3) := by decide +kernel
theorem d_law_745 : decode law.2.1 745 = .ok (.iconst 0, 1) := by decide +kernel
theorem d_law_746 : decode law.2.1 746 = .ok (.ireturn, 1) := by decide +kernel
theorem d_law_747 : decode law.2.1 747 = .ok (.aload_n 1, 1) := by decide +kernel
theorem d_law_748 : decode law.2.1 748 = .ok (.aload_n 0, 1) := by decide +kernel
theorem d_law_749 : decode law.2.1 749 = .ok (.iload_n 3, 1) := by decide +kernel
theorem d_law_750 : decode law.2.1 750 = .ok (.iconst 1, 1) := by decide +kernel
theorem d_law_751 : decode law.2.1 751 = .ok (.iadd, 1) := by decide +kernel
theorem d_law_752 : decode law.2.1 752 = .ok (.iaload, 1) := by decide +kernel
theorem d_law_753 : decode law.2.1 753 = .ok (.aload_n 0, 1) := by decide +kernel
theorem d_law_754 : decode law.2.1 754 = .ok (.iload_n 3, 1) := by decide +kernel
theorem d_law_755 : decode law.2.1 755 = .ok (.iconst 2, 1) := by decide +kernel
theorem d_law_756 : decode law.2.1 756 = .ok (.iadd, 1) := by decide +kernel
theorem d_law_757 : decode law.2.1 757 = .ok (.iaload, 1) := by decide +kernel
theorem d_law_758 : decode law.2.1 758 = .ok (.aload_n 0, 1) := by decide +kernel
theorem d_law_759 : decode law.2.1 759 = .ok (.iload_n 3, 1) := by decide +kernel
theorem d_law_760 : decode law.2.1 760 = .ok (.iconst 3, 1) := by decide +kernel
theorem d_law_761 : decode law.2.1 761 = .ok (.iadd, 1) := by decide +kernel
theorem d_law_762 : decode law.2.1 762 = .ok (.iaload, 1) := by decide +kernel
theorem d_law_763 : decode law.2.1 763 = .ok (.invokevirtual 69, 3) := by decide +kernel
theorem d_law_766 : decode law.2.1 766 = .ok (.aload_n 2, 1) := by decide +kernel
theorem d_law_767 : decode law.2.1 767 = .ok (.aload_n 0, 1) := by decide +kernel
theorem d_law_768 : decode law.2.1 768 = .ok (.iload_n 3, 1) := by decide +kernel
theorem d_law_769 : decode law.2.1 769 = .ok (.iconst 1, 1) := by decide +kernel
theorem d_law_770 : decode law.2.1 770 = .ok (.iadd, 1) := by decide +kernel
theorem d_law_771 : decode law.2.1 771 = .ok (.iaload, 1) := by decide +kernel
theorem d_law_772 : decode law.2.1 772 = .ok (.aload_n 0, 1) := by decide +kernel
theorem d_law_773 : decode law.2.1 773 = .ok (.iload_n 3, 1) := by decide +kernel
theorem d_law_774 : decode law.2.1 774 = .ok (.iconst 2, 1) := by decide +kernel
theorem d_law_775 : decode law.2.1 775 = .ok (.iadd, 1) := by decide +kernel
theorem d_law_776 : decode law.2.1 776 = .ok (.iaload, 1) := by decide +kernel
theorem d_law_777 : decode law.2.1 777 = .ok (.aload_n 0, 1) := by decide +kernel
theorem d_law_778 : decode law.2.1 778 = .ok (.iload_n 3, 1) := by decide +kernel
theorem d_law_779 : decode law.2.1 779 = .ok (.iconst 3, 1) := by decide +kernel
theorem d_law_780 : decode law.2.1 780 = .ok (.iadd, 1) := by decide +kernel
theorem d_law_781 : decode law.2.1 781 = .ok (.iaload, 1) := by decide +kernel
theorem d_law_782 : decode law.2.1 782 = .ok (.invokevirtual 72, 3) := by decide +kernel
theorem d_law_785 : decode law.2.1 785 = .ok (.if_icmp .eq 923, 3) := by decide +kernel
theorem d_law_788 : decode law.2.1 788 = .ok (.iconst 0, 1) := by decide +kernel
theorem d_law_789 : decode law.2.1 789 = .ok (.ireturn, 1) := by decide +kernel
theorem d_law_790 : decode law.2.1 790 = .ok (.aload_n 1, 1) := by decide +kernel
theorem d_law_791 : decode law.2.1 791 = .ok (.aload_n 0, 1) := by decide +kernel
theorem d_law_792 : decode law.2.1 792 = .ok (.iload_n 3, 1) := by decide +kernel
theorem d_law_793 : decode law.2.1 793 = .ok (.iconst 1, 1) := by decide +kernel
theorem d_law_794 : decode law.2.1 794 = .ok (.iadd, 1) := by decide +kernel
theorem d_law_795 : decode law.2.1 795 = .ok (.iaload, 1) := by decide +kernel
theorem d_law_796 : decode law.2.1 796 = .ok (.aload_n 0, 1) := by decide +kernel
theorem d_law_797 : decode law.2.1 797 = .ok (.iload_n 3, 1) := by decide +kernel
theorem d_law_798 : decode law.2.1 798 = .ok (.iconst 2, 1) := by decide +kernel
theorem d_law_799 : decode law.2.1 799 = .ok (.iadd, 1) := by decide +kernel
theorem d_law_800 : decode law.2.1 800 = .ok (.iaload, 1) := by decide +kernel
theorem d_law_801 : decode law.2.1 801 = .ok (.aload_n 0, 1) := by decide +kernel
theorem d_law_802 : decode law.2.1 802 = .ok (.iload_n 3, 1) := by decide +kernel
theorem d_law_803 : decode law.2.1 803 = .ok (.iconst 3, 1) := by decide +kernel
theorem d_law_804 : decode law.2.1 804 = .ok (.iadd, 1) := by decide +kernel
theorem d_law_805 : decode law.2.1 805 = .ok (.iaload, 1) := by decide +kernel
theorem d_law_806 : decode law.2.1 806 = .ok (.aload_n 0, 1) := by decide +kernel
theorem d_law_807 : decode law.2.1 807 = .ok (.iload_n 3, 1) := by decide +kernel
theorem d_law_808 : decode law.2.1 808 = .ok (.iconst 4, 1) := by decide +kernel
theorem d_law_809 : decode law.2.1 809 = .ok (.iadd, 1) := by decide +kernel
theorem d_law_810 : decode law.2.1 810 = .ok (.iaload, 1) := by decide +kernel
theorem d_law_811 : decode law.2.1 811 = .ok (.invokevirtual 73, 3) := by decide +kernel
theorem d_law_814 : decode law.2.1 814 = .ok (.aload_n 2, 1) := by decide +kernel
theorem d_law_815 : decode law.2.1 815 = .ok (.aload_n 0, 1) := by decide +kernel
theorem d_law_816 : decode law.2.1 816 = .ok (.iload_n 3, 1) := by decide +kernel
theorem d_law_817 : decode law.2.1 817 = .ok (.iconst 1, 1) := by decide +kernel
theorem d_law_818 : decode law.2.1 818 = .ok (.iadd, 1) := by decide +kernel
theorem d_law_819 : decode law.2.1 819 = .ok (.iaload, 1) := by decide +kernel
theorem d_law_820 : decode law.2.1 820 = .ok (.aload_n 0, 1) := by decide +kernel
theorem d_law_821 : decode law.2.1 821 = .ok (.iload_n 3, 1) := by decide +kernel
theorem d_law_822 : decode law.2.1 822 = .ok (.iconst 2, 1) := by decide +kernel
theorem d_law_823 : decode law.2.1 823 = .ok (.iadd, 1) := by decide +kernel
theorem d_law_824 : decode law.2.1 824 = .ok (.iaload, 1) := by decide +kernel
theorem d_law_825 : decode law.2.1 825 = .ok (.aload_n 0, 1) := by decide +kernel
theorem d_law_826 : decode law.2.1 826 = .ok (.iload_n 3, 1) := by decide +kernel
theorem d_law_827 : decode law.2.1 827 = .ok (.iconst 3, 1) := by decide +kernel
theorem d_law_828 : decode law.2.1 828 = .ok (.iadd, 1) := by decide +kernel
theorem d_law_829 : decode law.2.1 829 = .ok (.iaload, 1) := by decide +kernel
theorem d_law_830 : decode law.2.1 830 = .ok (.aload_n 0, 1) := by decide +kernel
theorem d_law_831 : decode law.2.1 831 = .ok (.iload_n 3, 1) := by decide +kernel
theorem d_law_832 : decode law.2.1 832 = .ok (.iconst 4, 1) := by decide +kernel
theorem d_law_833 : decode law.2.1 833 = .ok (.iadd, 1) := by decide +kernel
theorem d_law_834 : decode law.2.1 834 = .ok (.iaload, 1) := by decide +kernel
theorem d_law_835 : decode law.2.1 835 = .ok (.invokevirtual 76, 3) := by decide +kernel
theorem d_law_838 : decode law.2.1 838 = .ok (.if_icmp .eq 870, 3) := by decide +kernel
theorem d_law_841 : decode law.2.1 841 = .ok (.iconst 0, 1) := by decide +kernel
theorem d_law_842 : decode law.2.1 842 = .ok (.ireturn, 1) := by decide +kernel
theorem d_law_843 : decode law.2.1 843 = .ok (.aload_n 1, 1) := by decide +kernel
theorem d_law_844 : decode law.2.1 844 = .ok (.aload_n 0, 1) := by decide +kernel
theorem d_law_845 : decode law.2.1 845 = .ok (.iload_n 3, 1) := by decide +kernel
theorem d_law_846 : decode law.2.1 846 = .ok (.iconst 1, 1) := by decide +kernel
theorem d_law_847 : decode law.2.1 847 = .ok (.iadd, 1) := by decide +kernel
theorem d_law_848 : decode law.2.1 848 = .ok (.iaload, 1) := by decide +kernel
theorem d_law_849 : decode law.2.1 849 = .ok (.invokevirtual 77, 3) := by decide +kernel
theorem d_law_852 : decode law.2.1 852 = .ok (.aload_n 2, 1) := by decide +kernel
theorem d_law_853 : decode law.2.1 853 = .ok (.aload_n 0, 1) := by decide +kernel
theorem d_law_854 : decode law.2.1 854 = .ok (.iload_n 3, 1) := by decide +kernel
theorem d_law_855 : decode law.2.1 855 = .ok (.iconst 1, 1) := by decide +kernel
theorem d_law_856 : decode law.2.1 856 = .ok (.iadd, 1) := by decide +kernel
theorem d_law_857 : decode law.2.1 857 = .ok (.iaload, 1) := by decide +kernel
theorem d_law_858 : decode law.2.1 858 = .ok (.invokevirtual 81, 3) := by decide +kernel
theorem d_law_861 : decode law.2.1 861 = .ok (.if_icmp .eq 847, 3) := by decide +kernel
theorem d_law_864 : decode law.2.1 864 = .ok (.iconst 0, 1) := by decide +kernel
theorem d_law_865 : decode law.2.1 865 = .ok (.ireturn, 1) := by decide +kernel
theorem d_law_866 : decode law.2.1 866 = .ok (.aload_n 1, 1) := by decide +kernel
theorem d_law_867 : decode law.2.1 867 = .ok (.aload_n 0, 1) := by decide +kernel
theorem d_law_868 : decode law.2.1 868 = .ok (.iload_n 3, 1) := by decide +kernel
theorem d_law_869 : decode law.2.1 869 = .ok (.iconst 1, 1) := by decide +kernel
theorem d_law_870 : decode law.2.1 870 = .ok (.iadd, 1) := by decide +kernel
theorem d_law_871 : decode law.2.1 871 = .ok (.iaload, 1) := by decide +kernel
theorem d_law_872 : decode law.2.1 872 = .ok (.aload_n 0, 1) := by decide +kernel
theorem d_law_873 : decode law.2.1 873 = .ok (.iload_n 3, 1) := by decide +kernel
theorem d_law_874 : decode law.2.1 874 = .ok (.iconst 2, 1) := by decide +kernel
theorem d_law_875 : decode law.2.1 875 = .ok (.iadd, 1) := by decide +kernel
theorem d_law_876 : decode law.2.1 876 = .ok (.iaload, 1) := by decide +kernel
theorem d_law_877 : decode law.2.1 877 = .ok (.aload_n 0, 1) := by decide +kernel
theorem d_law_878 : decode law.2.1 878 = .ok (.iload_n 3, 1) := by decide +kernel
theorem d_law_879 : decode law.2.1 879 = .ok (.iconst 3, 1) := by decide +kernel
theorem d_law_880 : decode law.2.1 880 = .ok (.iadd, 1) := by decide +kernel
theorem d_law_881 : decode law.2.1 881 = .ok (.iaload, 1) := by decide +kernel
theorem d_law_882 : decode law.2.1 882 = .ok (.aload_n 0, 1) := by decide +kernel
theorem d_law_883 : decode law.2.1 883 = .ok (.iload_n 3, 1) := by decide +kernel
theorem d_law_884 : decode law.2.1 884 = .ok (.iconst 4, 1) := by decide +kernel
theorem d_law_885 : decode law.2.1 885 = .ok (.iadd, 1) := by decide +kernel
theorem d_law_886 : decode law.2.1 886 = .ok (.iaload, 1) := by decide +kernel
theorem d_law_887 : decode law.2.1 887 = .ok (.aload_n 0, 1) := by decide +kernel
theorem d_law_888 : decode law.2.1 888 = .ok (.iload_n 3, 1) := by decide +kernel
theorem d_law_889 : decode law.2.1 889 = .ok (.iconst 5, 1) := by decide +kernel
theorem d_law_890 : decode law.2.1 890 = .ok (.iadd, 1) := by decide +kernel
theorem d_law_891 : decode law.2.1 891 = .ok (.iaload, 1) := by decide +kernel
theorem d_law_892 : decode law.2.1 892 = .ok (.invokevirtual 82, 3) := by decide +kernel
theorem d_law_895 : decode law.2.1 895 = .ok (.aload_n 2, 1) := by decide +kernel
theorem d_law_896 : decode law.2.1 896 = .ok (.aload_n 0, 1) := by decide +kernel
theorem d_law_897 : decode law.2.1 897 = .ok (.iload_n 3, 1) := by decide +kernel
theorem d_law_898 : decode law.2.1 898 = .ok (.iconst 1, 1) := by decide +kernel
theorem d_law_899 : decode law.2.1 899 = .ok (.iadd, 1) := by decide +kernel
theorem d_law_900 : decode law.2.1 900 = .ok (.iaload, 1) := by decide +kernel
theorem d_law_901 : decode law.2.1 901 = .ok (.aload_n 0, 1) := by decide +kernel
theorem d_law_902 : decode law.2.1 902 = .ok (.iload_n 3, 1) := by decide +kernel
theorem d_law_903 : decode law.2.1 903 = .ok (.iconst 2, 1) := by decide +kernel
theorem d_law_904 : decode law.2.1 904 = .ok (.iadd, 1) := by decide +kernel
theorem d_law_905 : decode law.2.1 905 = .ok (.iaload, 1) := by decide +kernel
theorem d_law_906 : decode law.2.1 906 = .ok (.aload_n 0, 1) := by decide +kernel
theorem d_law_907 : decode law.2.1 907 = .ok (.iload_n 3, 1) := by decide +kernel
theorem d_law_908 : decode law.2.1 908 = .ok (.iconst 3, 1) := by decide +kernel
theorem d_law_909 : decode law.2.1 909 = .ok (.iadd, 1) := by decide +kernel
theorem d_law_910 : decode law.2.1 910 = .ok (.iaload, 1) := by decide +kernel
theorem d_law_911 : decode law.2.1 911 = .ok (.aload_n 0, 1) := by decide +kernel
theorem d_law_912 : decode law.2.1 912 = .ok (.iload_n 3, 1) := by decide +kernel
theorem d_law_913 : decode law.2.1 913 = .ok (.iconst 4, 1) := by decide +kernel
theorem d_law_914 : decode law.2.1 914 = .ok (.iadd, 1) := by decide +kernel
theorem d_law_915 : decode law.2.1 915 = .ok (.iaload, 1) := by decide +kernel
theorem d_law_916 : decode law.2.1 916 = .ok (.aload_n 0, 1) := by decide +kernel
theorem d_law_917 : decode law.2.1 917 = .ok (.iload_n 3, 1) := by decide +kernel
theorem d_law_918 : decode law.2.1 918 = .ok (.iconst 5, 1) := by decide +kernel
theorem d_law_919 : decode law.2.1 919 = .ok (.iadd, 1) := by decide +kernel
theorem d_law_920 : decode law.2.1 920 = .ok (.iaload, 1) := by decide +kernel
theorem d_law_921 : decode law.2.1 921 = .ok (.invokevirtual 86, 3) := by decide +kernel
theorem d_law_924 : decode law.2.1 924 = .ok (.if_icmp .eq 784, 3) := by decide +kernel
theorem d_law_927 : decode law.2.1 927 = .ok (.iconst 0, 1) := by decide +kernel
theorem d_law_928 : decode law.2.1 928 = .ok (.ireturn, 1) := by decide +kernel
theorem d_law_929 : decode law.2.1 929 = .ok (.aload_n 1, 1) := by decide +kernel
theorem d_law_930 : decode law.2.1 930 = .ok (.aload_n 0, 1) := by decide +kernel
theorem d_law_931 : decode law.2.1 931 = .ok (.iload_n 3, 1) := by decide +kernel
theorem d_law_932 : decode law.2.1 932 = .ok (.iconst 1, 1) := by decide +kernel
theorem d_law_933 : decode law.2.1 933 = .ok (.iadd, 1) := by decide +kernel
theorem d_law_934 : decode law.2.1 934 = .ok (.iaload, 1) := by decide +kernel
theorem d_law_935 : decode law.2.1 935 = .ok (.invokevirtual 87, 3) := by decide +kernel
theorem d_law_938 : decode law.2.1 938 = .ok (.aload_n 2, 1) := by decide +kernel
theorem d_law_939 : decode law.2.1 939 = .ok (.aload_n 0, 1) := by decide +kernel
theorem d_law_940 : decode law.2.1 940 = .ok (.iload_n 3, 1) := by decide +kernel
theorem d_law_941 : decode law.2.1 941 = .ok (.iconst 1, 1) := by decide +kernel
theorem d_law_942 : decode law.2.1 942 = .ok (.iadd, 1) := by decide +kernel
theorem d_law_943 : decode law.2.1 943 = .ok (.iaload, 1) := by decide +kernel
theorem d_law_944 : decode law.2.1 944 = .ok (.invokevirtual 91, 3) := by decide +kernel
theorem d_law_947 : decode law.2.1 947 = .ok (.if_icmp .eq 761, 3) := by decide +kernel
theorem d_law_950 : decode law.2.1 950 = .ok (.iconst 0, 1) := by decide +kernel
theorem d_law_951 : decode law.2.1 951 = .ok (.ireturn, 1) := by decide +kernel
theorem d_law_952 : decode law.2.1 952 = .ok (.aload_n 1, 1) := by decide +kernel
theorem d_law_953 : decode law.2.1 953 = .ok (.aload_n 0, 1) := by decide +kernel
theorem d_law_954 : decode law.2.1 954 = .ok (.iload_n 3, 1) := by decide +kernel
theorem d_law_955 : decode law.2.1 955 = .ok (.iconst 1, 1) := by decide +kernel
theorem d_law_956 : decode law.2.1 956 = .ok (.iadd, 1) := by decide +kernel
theorem d_law_957 : decode law.2.1 957 = .ok (.iaload, 1) := by decide +kernel
theorem d_law_958 : decode law.2.1 958 = .ok (.aload_n 0, 1) := by decide +kernel
theorem d_law_959 : decode law.2.1 959 = .ok (.iload_n 3, 1) := by decide +kernel
theorem d_law_960 : decode law.2.1 960 = .ok (.iconst 2, 1) := by decide +kernel
theorem d_law_961 : decode law.2.1 961 = .ok (.iadd, 1) := by decide +kernel
theorem d_law_962 : decode law.2.1 962 = .ok (.iaload, 1) := by decide +kernel
theorem d_law_963 : decode law.2.1 963 = .ok (.aload_n 0, 1) := by decide +kernel
theorem d_law_964 : decode law.2.1 964 = .ok (.iload_n 3, 1) := by decide +kernel
theorem d_law_965 : decode law.2.1 965 = .ok (.iconst 3, 1) := by decide +kernel
theorem d_law_966 : decode law.2.1 966 = .ok (.iadd, 1) := by decide +kernel
theorem d_law_967 : decode law.2.1 967 = .ok (.iaload, 1) := by decide +kernel
theorem d_law_968 : decode law.2.1 968 = .ok (.invokevirtual 92, 3) := by decide +kernel
theorem d_law_971 : decode law.2.1 971 = .ok (.aload_n 2, 1) := by decide +kernel
theorem d_law_972 : decode law.2.1 972 = .ok (.aload_n 0, 1) := by decide +kernel
theorem d_law_973 : decode law.2.1 973 = .ok (.iload_n 3, 1) := by decide +kernel
theorem d_law_974 : decode law.2.1 974 = .ok (.iconst 1, 1) := by decide +kernel
theorem d_law_975 : decode law.2.1 975 = .ok (.iadd, 1) := by decide +kernel
theorem d_law_976 : decode law.2.1 976 = .ok (.iaload, 1) := by decide +kernel
theorem d_law_977 : decode law.2.1 977 = .ok (.aload_n 0, 1) := by decide +kernel
theorem d_law_978 : decode law.2.1 978 = .ok (.iload_n 3, 1) := by decide +kernel
theorem d_law_979 : decode law.2.1 979 = .ok (.iconst 2, 1) := by decide +kernel
theorem d_law_980 : decode law.2.1 980 = .ok (.iadd, 1) := by decide +kernel
theorem d_law_981 : decode law.2.1 981 = .ok (.iaload, 1) := by decide +kernel
theorem d_law_982 : decode law.2.1 982 = .ok (.aload_n 0, 1) := by decide +kernel
theorem d_law_983 : decode law.2.1 983 = .ok (.iload_n 3, 1) := by decide +kernel
theorem d_law_984 : decode law.2.1 984 = .ok (.iconst 3, 1) := by decide +kernel
theorem d_law_985 : decode law.2.1 985 = .ok (.iadd, 1) := by decide +kernel
theorem d_law_986 : decode law.2.1 986 = .ok (.iaload, 1) := by decide +kernel
theorem d_law_987 : decode law.2.1 987 = .ok (.invokevirtual 95, 3) := by decide +kernel
theorem d_law_990 : decode law.2.1 990 = .ok (.if_icmp .eq 718, 3) := by decide +kernel
theorem d_law_993 : decode law.2.1 993 = .ok (.iconst 0, 1) := by decide +kernel
theorem d_law_994 : decode law.2.1 994 = .ok (.ireturn, 1) := by decide +kernel
theorem d_law_995 : decode law.2.1 995 = .ok (.aload_n 1, 1) := by decide +kernel
theorem d_law_996 : decode law.2.1 996 = .ok (.aload_n 0, 1) := by decide +kernel
theorem d_law_997 : decode law.2.1 997 = .ok (.iload_n 3, 1) := by decide +kernel
theorem d_law_998 : decode law.2.1 998 = .ok (.iconst 1, 1) := by decide +kernel
theorem d_law_999 : decode law.2.1 999 = .ok (.iadd, 1) := by decide +kernel
theorem d_law_1000 : decode law.2.1 1000 = .ok (.iaload, 1) := by decide +kernel
theorem d_law_1001 : decode law.2.1 1001 = .ok (.aload_n 0, 1) := by decide +kernel
theorem d_law_1002 : decode law.2.1 1002 = .ok (.iload_n 3, 1) := by decide +kernel
theorem d_law_1003 : decode law.2.1 1003 = .ok (.iconst 2, 1) := by decide +kernel
theorem d_law_1004 : decode law.2.1 1004 = .ok (.iadd, 1) := by decide +kernel
theorem d_law_1005 : decode law.2.1 1005 = .ok (.iaload, 1) := by decide +kernel
theorem d_law_1006 : decode law.2.1 1006 = .ok (.invokevirtual 96, 3) := by decide +kernel
theorem d_law_1009 : decode law.2.1 1009 = .ok (.aload_n 2, 1) := by decide +kernel
theorem d_law_1010 : decode law.2.1 1010 = .ok (.aload_n 0, 1) := by decide +kernel
theorem d_law_1011 : decode law.2.1 1011 = .ok (.iload_n 3, 1) := by decide +kernel
theorem d_law_1012 : decode law.2.1 1012 = .ok (.iconst 1, 1) := by decide +kernel
theorem d_law_1013 : decode law.2.1 1013 = .ok (.iadd, 1) := by decide +kernel
theorem d_law_1014 : decode law.2.1 1014 = .ok (.iaload, 1) := by decide +kernel
theorem d_law_1015 : decode law.2.1 1015 = .ok (.aload_n 0, 1) := by decide +kernel
theorem d_law_1016 : decode law.2.1 1016 = .ok (.iload_n 3, 1) := by decide +kernel
theorem d_law_1017 : decode law.2.1 1017 = .ok (.iconst 2, 1) := by decide +kernel
theorem d_law_1018 : decode law.2.1 1018 = .ok (.iadd, 1) := by decide +kernel
theorem d_law_1019 : decode law.2.1 1019 = .ok (.iaload, 1) := by decide +kernel
theorem d_law_1020 : decode law.2.1 1020 = .ok (.invokevirtual 99, 3) := by decide +kernel
theorem d_law_1023 : decode law.2.1 1023 = .ok (.if_icmp .eq 685, 3) := by decide +kernel
theorem d_law_1026 : decode law.2.1 1026 = .ok (.iconst 0, 1) := by decide +kernel
theorem d_law_1027 : decode law.2.1 1027 = .ok (.ireturn, 1) := by decide +kernel
theorem d_law_1028 : decode law.2.1 1028 = .ok (.aload_n 1, 1) := by decide +kernel
theorem d_law_1029 : decode law.2.1 1029 = .ok (.aload_n 0, 1) := by decide +kernel
theorem d_law_1030 : decode law.2.1 1030 = .ok (.iload_n 3, 1) := by decide +kernel
theorem d_law_1031 : decode law.2.1 1031 = .ok (.iconst 1, 1) := by decide +kernel
theorem d_law_1032 : decode law.2.1 1032 = .ok (.iadd, 1) := by decide +kernel
theorem d_law_1033 : decode law.2.1 1033 = .ok (.iaload, 1) := by decide +kernel
theorem d_law_1034 : decode law.2.1 1034 = .ok (.aload_n 0, 1) := by decide +kernel
theorem d_law_1035 : decode law.2.1 1035 = .ok (.iload_n 3, 1) := by decide +kernel
theorem d_law_1036 : decode law.2.1 1036 = .ok (.iconst 2, 1) := by decide +kernel
theorem d_law_1037 : decode law.2.1 1037 = .ok (.iadd, 1) := by decide +kernel
theorem d_law_1038 : decode law.2.1 1038 = .ok (.iaload, 1) := by decide +kernel
theorem d_law_1039 : decode law.2.1 1039 = .ok (.aload_n 0, 1) := by decide +kernel
theorem d_law_1040 : decode law.2.1 1040 = .ok (.iload_n 3, 1) := by decide +kernel
theorem d_law_1041 : decode law.2.1 1041 = .ok (.iconst 3, 1) := by decide +kernel
theorem d_law_1042 : decode law.2.1 1042 = .ok (.iadd, 1) := by decide +kernel
theorem d_law_1043 : decode law.2.1 1043 = .ok (.iaload, 1) := by decide +kernel
theorem d_law_1044 : decode law.2.1 1044 = .ok (.aload_n 0, 1) := by decide +kernel
theorem d_law_1045 : decode law.2.1 1045 = .ok (.iload_n 3, 1) := by decide +kernel
theorem d_law_1046 : decode law.2.1 1046 = .ok (.iconst 4, 1) := by decide +kernel
theorem d_law_1047 : decode law.2.1 1047 = .ok (.iadd, 1) := by decide +kernel
theorem d_law_1048 : decode law.2.1 1048 = .ok (.iaload, 1) := by decide +kernel
theorem d_law_1049 : decode law.2.1 1049 = .ok (.aload_n 0, 1) := by decide +kernel
theorem d_law_1050 : decode law.2.1 1050 = .ok (.iload_n 3, 1) := by decide +kernel
theorem d_law_1051 : decode law.2.1 1051 = .ok (.iconst 5, 1) := by decide +kernel
theorem d_law_1052 : decode law.2.1 1052 = .ok (.iadd, 1) := by decide +kernel
theorem d_law_1053 : decode law.2.1 1053 = .ok (.iaload, 1) := by decide +kernel
theorem d_law_1054 : decode law.2.1 1054 = .ok (.aload_n 0, 1) := by decide +kernel
theorem d_law_1055 : decode law.2.1 1055 = .ok (.iload_n 3, 1) := by decide +kernel
theorem d_law_1056 : decode law.2.1 1056 = .ok (.bipush 6, 2) := by decide +kernel
theorem d_law_1058 : decode law.2.1 1058 = .ok (.iadd, 1) := by decide +kernel
theorem d_law_1059 : decode law.2.1 1059 = .ok (.iaload, 1) := by decide +kernel
theorem d_law_1060 : decode law.2.1 1060 = .ok (.invokevirtual 100, 3) := by decide +kernel
theorem d_law_1063 : decode law.2.1 1063 = .ok (.aload_n 2, 1) := by decide +kernel
theorem d_law_1064 : decode law.2.1 1064 = .ok (.aload_n 0, 1) := by decide +kernel
theorem d_law_1065 : decode law.2.1 1065 = .ok (.iload_n 3, 1) := by decide +kernel
theorem d_law_1066 : decode law.2.1 1066 = .ok (.iconst 1, 1) := by decide +kernel
theorem d_law_1067 : decode law.2.1 1067 = .ok (.iadd, 1) := by decide +kernel
theorem d_law_1068 : decode law.2.1 1068 = .ok (.iaload, 1) := by decide +kernel
theorem d_law_1069 : decode law.2.1 1069 = .ok (.aload_n 0, 1) := by decide +kernel
theorem d_law_1070 : decode law.2.1 1070 = .ok (.iload_n 3, 1) := by decide +kernel
theorem d_law_1071 : decode law.2.1 1071 = .ok (.iconst 2, 1) := by decide +kernel
theorem d_law_1072 : decode law.2.1 1072 = .ok (.iadd, 1) := by decide +kernel
theorem d_law_1073 : decode law.2.1 1073 = .ok (.iaload, 1) := by decide +kernel
theorem d_law_1074 : decode law.2.1 1074 = .ok (.aload_n 0, 1) := by decide +kernel
theorem d_law_1075 : decode law.2.1 1075 = .ok (.iload_n 3, 1) := by decide +kernel
theorem d_law_1076 : decode law.2.1 1076 = .ok (.iconst 3, 1) := by decide +kernel
theorem d_law_1077 : decode law.2.1 1077 = .ok (.iadd, 1) := by decide +kernel
theorem d_law_1078 : decode law.2.1 1078 = .ok (.iaload, 1) := by decide +kernel
theorem d_law_1079 : decode law.2.1 1079 = .ok (.aload_n 0, 1) := by decide +kernel
theorem d_law_1080 : decode law.2.1 1080 = .ok (.iload_n 3, 1) := by decide +kernel
theorem d_law_1081 : decode law.2.1 1081 = .ok (.iconst 4, 1) := by decide +kernel
theorem d_law_1082 : decode law.2.1 1082 = .ok (.iadd, 1) := by decide +kernel
theorem d_law_1083 : decode law.2.1 1083 = .ok (.iaload, 1) := by decide +kernel
theorem d_law_1084 : decode law.2.1 1084 = .ok (.aload_n 0, 1) := by decide +kernel
theorem d_law_1085 : decode law.2.1 1085 = .ok (.iload_n 3, 1) := by decide +kernel
theorem d_law_1086 : decode law.2.1 1086 = .ok (.iconst 5, 1) := by decide +kernel
theorem d_law_1087 : decode law.2.1 1087 = .ok (.iadd, 1) := by decide +kernel
theorem d_law_1088 : decode law.2.1 1088 = .ok (.iaload, 1) := by decide +kernel
theorem d_law_1089 : decode law.2.1 1089 = .ok (.aload_n 0, 1) := by decide +kernel
theorem d_law_1090 : decode law.2.1 1090 = .ok (.iload_n 3, 1) := by decide +kernel
theorem d_law_1091 : decode law.2.1 1091 = .ok (.bipush 6, 2) := by decide +kernel
theorem d_law_1093 : decode law.2.1 1093 = .ok (.iadd, 1) := by decide +kernel
theorem d_law_1094 : decode law.2.1 1094 = .ok (.iaload, 1) := by decide +kernel
theorem d_law_1095 : decode law.2.1 1095 = .ok (.invokevirtual 104, 3) := by decide +kernel
theorem d_law_1098 : decode law.2.1 1098 = .ok (.if_icmp .eq 610, 3) := by decide +kernel
theorem d_law_1101 : decode law.2.1 1101 = .ok (.iconst 0, 1) := by decide +kernel
theorem d_law_1102 : decode law.2.1 1102 = .ok (.ireturn, 1) := by decide +kernel
theorem d_law_1103 : decode law.2.1 1103 = .ok (.aload_n 1, 1) := by decide +kernel
theorem d_law_1104 : decode law.2.1 1104 = .ok (.aload_n 0, 1) := by decide +kernel
theorem d_law_1105 : decode law.2.1 1105 = .ok (.iload_n 3, 1) := by decide +kernel
theorem d_law_1106 : decode law.2.1 1106 = .ok (.iconst 1, 1) := by decide +kernel
theorem d_law_1107 : decode law.2.1 1107 = .ok (.iadd, 1) := by decide +kernel
theorem d_law_1108 : decode law.2.1 1108 = .ok (.iaload, 1) := by decide +kernel
theorem d_law_1109 : decode law.2.1 1109 = .ok (.aload_n 0, 1) := by decide +kernel
theorem d_law_1110 : decode law.2.1 1110 = .ok (.iload_n 3, 1) := by decide +kernel
theorem d_law_1111 : decode law.2.1 1111 = .ok (.iconst 2, 1) := by decide +kernel
theorem d_law_1112 : decode law.2.1 1112 = .ok (.iadd, 1) := by decide +kernel
theorem d_law_1113 : decode law.2.1 1113 = .ok (.iaload, 1) := by decide +kernel
theorem d_law_1114 : decode law.2.1 1114 = .ok (.aload_n 0, 1) := by decide +kernel
theorem d_law_1115 : decode law.2.1 1115 = .ok (.iload_n 3, 1) := by decide +kernel
theorem d_law_1116 : decode law.2.1 1116 = .ok (.iconst 3, 1) := by decide +kernel
theorem d_law_1117 : decode law.2.1 1117 = .ok (.iadd, 1) := by decide +kernel
theorem d_law_1118 : decode law.2.1 1118 = .ok (.iaload, 1) := by decide +kernel
theorem d_law_1119 : decode law.2.1 1119 = .ok (.invokevirtual 105, 3) := by decide +kernel
theorem d_law_1122 : decode law.2.1 1122 = .ok (.aload_n 2, 1) := by decide +kernel
theorem d_law_1123 : decode law.2.1 1123 = .ok (.aload_n 0, 1) := by decide +kernel
theorem d_law_1124 : decode law.2.1 1124 = .ok (.iload_n 3, 1) := by decide +kernel
theorem d_law_1125 : decode law.2.1 1125 = .ok (.iconst 1, 1) := by decide +kernel
theorem d_law_1126 : decode law.2.1 1126 = .ok (.iadd, 1) := by decide +kernel
theorem d_law_1127 : decode law.2.1 1127 = .ok (.iaload, 1) := by decide +kernel
theorem d_law_1128 : decode law.2.1 1128 = .ok (.aload_n 0, 1) := by decide +kernel
theorem d_law_1129 : decode law.2.1 1129 = .ok (.iload_n 3, 1) := by decide +kernel
theorem d_law_1130 : decode law.2.1 1130 = .ok (.iconst 2, 1) := by decide +kernel
theorem d_law_1131 : decode law.2.1 1131 = .ok (.iadd, 1) := by decide +kernel
theorem d_law_1132 : decode law.2.1 1132 = .ok (.iaload, 1) := by decide +kernel
theorem d_law_1133 : decode law.2.1 1133 = .ok (.aload_n 0, 1) := by decide +kernel
theorem d_law_1134 : decode law.2.1 1134 = .ok (.iload_n 3, 1) := by decide +kernel
theorem d_law_1135 : decode law.2.1 1135 = .ok (.iconst 3, 1) := by decide +kernel
theorem d_law_1136 : decode law.2.1 1136 = .ok (.iadd, 1) := by decide +kernel
theorem d_law_1137 : decode law.2.1 1137 = .ok (.iaload, 1) := by decide +kernel
theorem d_law_1138 : decode law.2.1 1138 = .ok (.invokevirtual 108, 3) := by decide +kernel
theorem d_law_1141 : decode law.2.1 1141 = .ok (.if_icmp .eq 567, 3) := by decide +kernel
theorem d_law_1144 : decode law.2.1 1144 = .ok (.iconst 0, 1) := by decide +kernel
theorem d_law_1145 : decode law.2.1 1145 = .ok (.ireturn, 1) := by decide +kernel
theorem d_law_1146 : decode law.2.1 1146 = .ok (.aload_n 1, 1) := by decide +kernel
theorem d_law_1147 : decode law.2.1 1147 = .ok (.aload_n 0, 1) := by decide +kernel
theorem d_law_1148 : decode law.2.1 1148 = .ok (.iload_n 3, 1) := by decide +kernel
theorem d_law_1149 : decode law.2.1 1149 = .ok (.iconst 1, 1) := by decide +kernel
theorem d_law_1150 : decode law.2.1 1150 = .ok (.iadd, 1) := by decide +kernel
theorem d_law_1151 : decode law.2.1 1151 = .ok (.iaload, 1) := by decide +kernel
theorem d_law_1152 : decode law.2.1 1152 = .ok (.aload_n 0, 1) := by decide +kernel
theorem d_law_1153 : decode law.2.1 1153 = .ok (.iload_n 3, 1) := by decide +kernel
theorem d_law_1154 : decode law.2.1 1154 = .ok (.iconst 2, 1) := by decide +kernel
theorem d_law_1155 : decode law.2.1 1155 = .ok (.iadd, 1) := by decide +kernel
theorem d_law_1156 : decode law.2.1 1156 = .ok (.iaload, 1) := by decide +kernel
theorem d_law_1157 : decode law.2.1 1157 = .ok (.aload_n 0, 1) := by decide +kernel
theorem d_law_1158 : decode law.2.1 1158 = .ok (.iload_n 3, 1) := by decide +kernel
theorem d_law_1159 : decode law.2.1 1159 = .ok (.iconst 3, 1) := by decide +kernel
theorem d_law_1160 : decode law.2.1 1160 = .ok (.iadd, 1) := by decide +kernel
theorem d_law_1161 : decode law.2.1 1161 = .ok (.iaload, 1) := by decide +kernel
theorem d_law_1162 : decode law.2.1 1162 = .ok (.aload_n 0, 1) := by decide +kernel
theorem d_law_1163 : decode law.2.1 1163 = .ok (.iload_n 3, 1) := by decide +kernel
theorem d_law_1164 : decode law.2.1 1164 = .ok (.iconst 4, 1) := by decide +kernel
theorem d_law_1165 : decode law.2.1 1165 = .ok (.iadd, 1) := by decide +kernel
theorem d_law_1166 : decode law.2.1 1166 = .ok (.iaload, 1) := by decide +kernel
theorem d_law_1167 : decode law.2.1 1167 = .ok (.invokevirtual 109, 3) := by decide +kernel
theorem d_law_1170 : decode law.2.1 1170 = .ok (.aload_n 2, 1) := by decide +kernel
theorem d_law_1171 : decode law.2.1 1171 = .ok (.aload_n 0, 1) := by decide +kernel
theorem d_law_1172 : decode law.2.1 1172 = .ok (.iload_n 3, 1) := by decide +kernel
theorem d_law_1173 : decode law.2.1 1173 = .ok (.iconst 1, 1) := by decide +kernel
theorem d_law_1174 : decode law.2.1 1174 = .ok (.iadd, 1) := by decide +kernel
theorem d_law_1175 : decode law.2.1 1175 = .ok (.iaload, 1) := by decide +kernel
theorem d_law_1176 : decode law.2.1 1176 = .ok (.aload_n 0, 1) := by decide +kernel
theorem d_law_1177 : decode law.2.1 1177 = .ok (.iload_n 3, 1) := by decide +kernel
theorem d_law_1178 : decode law.2.1 1178 = .ok (.iconst 2, 1) := by decide +kernel
theorem d_law_1179 : decode law.2.1 1179 = .ok (.iadd, 1) := by decide +kernel
theorem d_law_1180 : decode law.2.1 1180 = .ok (.iaload, 1) := by decide +kernel
theorem d_law_1181 : decode law.2.1 1181 = .ok (.aload_n 0, 1) := by decide +kernel
theorem d_law_1182 : decode law.2.1 1182 = .ok (.iload_n 3, 1) := by decide +kernel
theorem d_law_1183 : decode law.2.1 1183 = .ok (.iconst 3, 1) := by decide +kernel
theorem d_law_1184 : decode law.2.1 1184 = .ok (.iadd, 1) := by decide +kernel
theorem d_law_1185 : decode law.2.1 1185 = .ok (.iaload, 1) := by decide +kernel
theorem d_law_1186 : decode law.2.1 1186 = .ok (.aload_n 0, 1) := by decide +kernel
theorem d_law_1187 : decode law.2.1 1187 = .ok (.iload_n 3, 1) := by decide +kernel
theorem d_law_1188 : decode law.2.1 1188 = .ok (.iconst 4, 1) := by decide +kernel
theorem d_law_1189 : decode law.2.1 1189 = .ok (.iadd, 1) := by decide +kernel
theorem d_law_1190 : decode law.2.1 1190 = .ok (.iaload, 1) := by decide +kernel
theorem d_law_1191 : decode law.2.1 1191 = .ok (.invokevirtual 113, 3) := by decide +kernel
theorem d_law_1194 : decode law.2.1 1194 = .ok (.lcmp, 1) := by decide +kernel
theorem d_law_1195 : decode law.2.1 1195 = .ok (.ifCond .eq 513, 3) := by decide +kernel
theorem d_law_1198 : decode law.2.1 1198 = .ok (.iconst 0, 1) := by decide +kernel
theorem d_law_1199 : decode law.2.1 1199 = .ok (.ireturn, 1) := by decide +kernel
theorem d_law_1200 : decode law.2.1 1200 = .ok (.aload_n 1, 1) := by decide +kernel
theorem d_law_1201 : decode law.2.1 1201 = .ok (.aload_n 0, 1) := by decide +kernel
theorem d_law_1202 : decode law.2.1 1202 = .ok (.iload_n 3, 1) := by decide +kernel
theorem d_law_1203 : decode law.2.1 1203 = .ok (.iconst 1, 1) := by decide +kernel
theorem d_law_1204 : decode law.2.1 1204 = .ok (.iadd, 1) := by decide +kernel
theorem d_law_1205 : decode law.2.1 1205 = .ok (.iaload, 1) := by decide +kernel
theorem d_law_1206 : decode law.2.1 1206 = .ok (.aload_n 0, 1) := by decide +kernel
theorem d_law_1207 : decode law.2.1 1207 = .ok (.iload_n 3, 1) := by decide +kernel
theorem d_law_1208 : decode law.2.1 1208 = .ok (.iconst 2, 1) := by decide +kernel
theorem d_law_1209 : decode law.2.1 1209 = .ok (.iadd, 1) := by decide +kernel
theorem d_law_1210 : decode law.2.1 1210 = .ok (.iaload, 1) := by decide +kernel
theorem d_law_1211 : decode law.2.1 1211 = .ok (.invokevirtual 114, 3) := by decide +kernel
theorem d_law_1214 : decode law.2.1 1214 = .ok (.aload_n 2, 1) := by decide +kernel
theorem d_law_1215 : decode law.2.1 1215 = .ok (.aload_n 0, 1) := by decide +kernel
theorem d_law_1216 : decode law.2.1 1216 = .ok (.iload_n 3, 1) := by decide +kernel
theorem d_law_1217 : decode law.2.1 1217 = .ok (.iconst 1, 1) := by decide +kernel
theorem d_law_1218 : decode law.2.1 1218 = .ok (.iadd, 1) := by decide +kernel
theorem d_law_1219 : decode law.2.1 1219 = .ok (.iaload, 1) := by decide +kernel
theorem d_law_1220 : decode law.2.1 1220 = .ok (.aload_n 0, 1) := by decide +kernel
theorem d_law_1221 : decode law.2.1 1221 = .ok (.iload_n 3, 1) := by decide +kernel
theorem d_law_1222 : decode law.2.1 1222 = .ok (.iconst 2, 1) := by decide +kernel
theorem d_law_1223 : decode law.2.1 1223 = .ok (.iadd, 1) := by decide +kernel
theorem d_law_1224 : decode law.2.1 1224 = .ok (.iaload, 1) := by decide +kernel
theorem d_law_1225 : decode law.2.1 1225 = .ok (.invokevirtual 117, 3) := by decide +kernel
theorem d_law_1228 : decode law.2.1 1228 = .ok (.if_icmp .eq 480, 3) := by decide +kernel
theorem d_law_1231 : decode law.2.1 1231 = .ok (.iconst 0, 1) := by decide +kernel
theorem d_law_1232 : decode law.2.1 1232 = .ok (.ireturn, 1) := by decide +kernel
theorem d_law_1233 : decode law.2.1 1233 = .ok (.aload_n 1, 1) := by decide +kernel
theorem d_law_1234 : decode law.2.1 1234 = .ok (.aload_n 0, 1) := by decide +kernel
theorem d_law_1235 : decode law.2.1 1235 = .ok (.iload_n 3, 1) := by decide +kernel
theorem d_law_1236 : decode law.2.1 1236 = .ok (.iconst 1, 1) := by decide +kernel
theorem d_law_1237 : decode law.2.1 1237 = .ok (.iadd, 1) := by decide +kernel
theorem d_law_1238 : decode law.2.1 1238 = .ok (.iaload, 1) := by decide +kernel
theorem d_law_1239 : decode law.2.1 1239 = .ok (.invokevirtual 118, 3) := by decide +kernel
theorem d_law_1242 : decode law.2.1 1242 = .ok (.aload_n 2, 1) := by decide +kernel
theorem d_law_1243 : decode law.2.1 1243 = .ok (.aload_n 0, 1) := by decide +kernel
theorem d_law_1244 : decode law.2.1 1244 = .ok (.iload_n 3, 1) := by decide +kernel
theorem d_law_1245 : decode law.2.1 1245 = .ok (.iconst 1, 1) := by decide +kernel
theorem d_law_1246 : decode law.2.1 1246 = .ok (.iadd, 1) := by decide +kernel
theorem d_law_1247 : decode law.2.1 1247 = .ok (.iaload, 1) := by decide +kernel
theorem d_law_1248 : decode law.2.1 1248 = .ok (.invokevirtual 121, 3) := by decide +kernel
theorem d_law_1251 : decode law.2.1 1251 = .ok (.if_icmp .eq 457, 3) := by decide +kernel
theorem d_law_1254 : decode law.2.1 1254 = .ok (.iconst 0, 1) := by decide +kernel
theorem d_law_1255 : decode law.2.1 1255 = .ok (.ireturn, 1) := by decide +kernel
theorem d_law_1256 : decode law.2.1 1256 = .ok (.aload_n 1, 1) := by decide +kernel
theorem d_law_1257 : decode law.2.1 1257 = .ok (.aload_n 0, 1) := by decide +kernel
theorem d_law_1258 : decode law.2.1 1258 = .ok (.iload_n 3, 1) := by decide +kernel
theorem d_law_1259 : decode law.2.1 1259 = .ok (.iconst 1, 1) := by decide +kernel
theorem d_law_1260 : decode law.2.1 1260 = .ok (.iadd, 1) := by decide +kernel
theorem d_law_1261 : decode law.2.1 1261 = .ok (.iaload, 1) := by decide +kernel
theorem d_law_1262 : decode law.2.1 1262 = .ok (.aload_n 0, 1) := by decide +kernel
theorem d_law_1263 : decode law.2.1 1263 = .ok (.iload_n 3, 1) := by decide +kernel
theorem d_law_1264 : decode law.2.1 1264 = .ok (.iconst 2, 1) := by decide +kernel
theorem d_law_1265 : decode law.2.1 1265 = .ok (.iadd, 1) := by decide +kernel
theorem d_law_1266 : decode law.2.1 1266 = .ok (.iaload, 1) := by decide +kernel
theorem d_law_1267 : decode law.2.1 1267 = .ok (.invokevirtual 122, 3) := by decide +kernel
theorem d_law_1270 : decode law.2.1 1270 = .ok (.aload_n 2, 1) := by decide +kernel
theorem d_law_1271 : decode law.2.1 1271 = .ok (.aload_n 0, 1) := by decide +kernel
theorem d_law_1272 : decode law.2.1 1272 = .ok (.iload_n 3, 1) := by decide +kernel
theorem d_law_1273 : decode law.2.1 1273 = .ok (.iconst 1, 1) := by decide +kernel
theorem d_law_1274 : decode law.2.1 1274 = .ok (.iadd, 1) := by decide +kernel
theorem d_law_1275 : decode law.2.1 1275 = .ok (.iaload, 1) := by decide +kernel
theorem d_law_1276 : decode law.2.1 1276 = .ok (.aload_n 0, 1) := by decide +kernel
theorem d_law_1277 : decode law.2.1 1277 = .ok (.iload_n 3, 1) := by decide +kernel
theorem d_law_1278 : decode law.2.1 1278 = .ok (.iconst 2, 1) := by decide +kernel
theorem d_law_1279 : decode law.2.1 1279 = .ok (.iadd, 1) := by decide +kernel
theorem d_law_1280 : decode law.2.1 1280 = .ok (.iaload, 1) := by decide +kernel
theorem d_law_1281 : decode law.2.1 1281 = .ok (.invokevirtual 125, 3) := by decide +kernel
theorem d_law_1284 : decode law.2.1 1284 = .ok (.if_icmp .eq 424, 3) := by decide +kernel
theorem d_law_1287 : decode law.2.1 1287 = .ok (.iconst 0, 1) := by decide +kernel
theorem d_law_1288 : decode law.2.1 1288 = .ok (.ireturn, 1) := by decide +kernel
theorem d_law_1289 : decode law.2.1 1289 = .ok (.aload_n 1, 1) := by decide +kernel
theorem d_law_1290 : decode law.2.1 1290 = .ok (.aload_n 0, 1) := by decide +kernel
theorem d_law_1291 : decode law.2.1 1291 = .ok (.iload_n 3, 1) := by decide +kernel
theorem d_law_1292 : decode law.2.1 1292 = .ok (.iconst 1, 1) := by decide +kernel
theorem d_law_1293 : decode law.2.1 1293 = .ok (.iadd, 1) := by decide +kernel
theorem d_law_1294 : decode law.2.1 1294 = .ok (.iaload, 1) := by decide +kernel
theorem d_law_1295 : decode law.2.1 1295 = .ok (.invokevirtual 126, 3) := by decide +kernel
theorem d_law_1298 : decode law.2.1 1298 = .ok (.aload_n 2, 1) := by decide +kernel
theorem d_law_1299 : decode law.2.1 1299 = .ok (.aload_n 0, 1) := by decide +kernel
theorem d_law_1300 : decode law.2.1 1300 = .ok (.iload_n 3, 1) := by decide +kernel
theorem d_law_1301 : decode law.2.1 1301 = .ok (.iconst 1, 1) := by decide +kernel
theorem d_law_1302 : decode law.2.1 1302 = .ok (.iadd, 1) := by decide +kernel
theorem d_law_1303 : decode law.2.1 1303 = .ok (.iaload, 1) := by decide +kernel
theorem d_law_1304 : decode law.2.1 1304 = .ok (.invokevirtual 129, 3) := by decide +kernel
theorem d_law_1307 : decode law.2.1 1307 = .ok (.if_icmp .eq 401, 3) := by decide +kernel
theorem d_law_1310 : decode law.2.1 1310 = .ok (.iconst 0, 1) := by decide +kernel
theorem d_law_1311 : decode law.2.1 1311 = .ok (.ireturn, 1) := by decide +kernel
theorem d_law_1312 : decode law.2.1 1312 = .ok (.aload_n 1, 1) := by decide +kernel
theorem d_law_1313 : decode law.2.1 1313 = .ok (.aload_n 0, 1) := by decide +kernel
theorem d_law_1314 : decode law.2.1 1314 = .ok (.iload_n 3, 1) := by decide +kernel
theorem d_law_1315 : decode law.2.1 1315 = .ok (.iconst 1, 1) := by decide +kernel
theorem d_law_1316 : decode law.2.1 1316 = .ok (.iadd, 1) := by decide +kernel
theorem d_law_1317 : decode law.2.1 1317 = .ok (.iaload, 1) := by decide +kernel
theorem d_law_1318 : decode law.2.1 1318 = .ok (.aload_n 0, 1) := by decide +kernel
theorem d_law_1319 : decode law.2.1 1319 = .ok (.iload_n 3, 1) := by decide +kernel
theorem d_law_1320 : decode law.2.1 1320 = .ok (.iconst 2, 1) := by decide +kernel
theorem d_law_1321 : decode law.2.1 1321 = .ok (.iadd, 1) := by decide +kernel
theorem d_law_1322 : decode law.2.1 1322 = .ok (.iaload, 1) := by decide +kernel
theorem d_law_1323 : decode law.2.1 1323 = .ok (.invokevirtual 130, 3) := by decide +kernel
theorem d_law_1326 : decode law.2.1 1326 = .ok (.aload_n 2, 1) := by decide +kernel
theorem d_law_1327 : decode law.2.1 1327 = .ok (.aload_n 0, 1) := by decide +kernel
theorem d_law_1328 : decode law.2.1 1328 = .ok (.iload_n 3, 1) := by decide +kernel
theorem d_law_1329 : decode law.2.1 1329 = .ok (.iconst 1, 1) := by decide +kernel
theorem d_law_1330 : decode law.2.1 1330 = .ok (.iadd, 1) := by decide +kernel
theorem d_law_1331 : decode law.2.1 1331 = .ok (.iaload, 1) := by decide +kernel
theorem d_law_1332 : decode law.2.1 1332 = .ok (.aload_n 0, 1) := by decide +kernel
theorem d_law_1333 : decode law.2.1 1333 = .ok (.iload_n 3, 1) := by decide +kernel
theorem d_law_1334 : decode law.2.1 1334 = .ok (.iconst 2, 1) := by decide +kernel
theorem d_law_1335 : decode law.2.1 1335 = .ok (.iadd, 1) := by decide +kernel
theorem d_law_1336 : decode law.2.1 1336 = .ok (.iaload, 1) := by decide +kernel
theorem d_law_1337 : decode law.2.1 1337 = .ok (.invokevirtual 133, 3) := by decide +kernel
theorem d_law_1340 : decode law.2.1 1340 = .ok (.if_icmp .eq 368, 3) := by decide +kernel
theorem d_law_1343 : decode law.2.1 1343 = .ok (.iconst 0, 1) := by decide +kernel
theorem d_law_1344 : decode law.2.1 1344 = .ok (.ireturn, 1) := by decide +kernel
theorem d_law_1345 : decode law.2.1 1345 = .ok (.aload_n 1, 1) := by decide +kernel
theorem d_law_1346 : decode law.2.1 1346 = .ok (.aload_n 0, 1) := by decide +kernel
theorem d_law_1347 : decode law.2.1 1347 = .ok (.iload_n 3, 1) := by decide +kernel
theorem d_law_1348 : decode law.2.1 1348 = .ok (.iconst 1, 1) := by decide +kernel
theorem d_law_1349 : decode law.2.1 1349 = .ok (.iadd, 1) := by decide +kernel
theorem d_law_1350 : decode law.2.1 1350 = .ok (.iaload, 1) := by decide +kernel
theorem d_law_1351 : decode law.2.1 1351 = .ok (.aload_n 0, 1) := by decide +kernel
theorem d_law_1352 : decode law.2.1 1352 = .ok (.iload_n 3, 1) := by decide +kernel
theorem d_law_1353 : decode law.2.1 1353 = .ok (.iconst 2, 1) := by decide +kernel
theorem d_law_1354 : decode law.2.1 1354 = .ok (.iadd, 1) := by decide +kernel
theorem d_law_1355 : decode law.2.1 1355 = .ok (.iaload, 1) := by decide +kernel
theorem d_law_1356 : decode law.2.1 1356 = .ok (.aload_n 0, 1) := by decide +kernel
theorem d_law_1357 : decode law.2.1 1357 = .ok (.iload_n 3, 1) := by decide +kernel
theorem d_law_1358 : decode law.2.1 1358 = .ok (.iconst 3, 1) := by decide +kernel
theorem d_law_1359 : decode law.2.1 1359 = .ok (.iadd, 1) := by decide +kernel
theorem d_law_1360 : decode law.2.1 1360 = .ok (.iaload, 1) := by decide +kernel
theorem d_law_1361 : decode law.2.1 1361 = .ok (.invokevirtual 134, 3) := by decide +kernel
theorem d_law_1364 : decode law.2.1 1364 = .ok (.aload_n 2, 1) := by decide +kernel
theorem d_law_1365 : decode law.2.1 1365 = .ok (.aload_n 0, 1) := by decide +kernel
theorem d_law_1366 : decode law.2.1 1366 = .ok (.iload_n 3, 1) := by decide +kernel
theorem d_law_1367 : decode law.2.1 1367 = .ok (.iconst 1, 1) := by decide +kernel
theorem d_law_1368 : decode law.2.1 1368 = .ok (.iadd, 1) := by decide +kernel
theorem d_law_1369 : decode law.2.1 1369 = .ok (.iaload, 1) := by decide +kernel
theorem d_law_1370 : decode law.2.1 1370 = .ok (.aload_n 0, 1) := by decide +kernel
theorem d_law_1371 : decode law.2.1 1371 = .ok (.iload_n 3, 1) := by decide +kernel
theorem d_law_1372 : decode law.2.1 1372 = .ok (.iconst 2, 1) := by decide +kernel
theorem d_law_1373 : decode law.2.1 1373 = .ok (.iadd, 1) := by decide +kernel
theorem d_law_1374 : decode law.2.1 1374 = .ok (.iaload, 1) := by decide +kernel
theorem d_law_1375 : decode law.2.1 1375 = .ok (.aload_n 0, 1) := by decide +kernel
theorem d_law_1376 : decode law.2.1 1376 = .ok (.iload_n 3, 1) := by decide +kernel
theorem d_law_1377 : decode law.2.1 1377 = .ok (.iconst 3, 1) := by decide +kernel
theorem d_law_1378 : decode law.2.1 1378 = .ok (.iadd, 1) := by decide +kernel
theorem d_law_1379 : decode law.2.1 1379 = .ok (.iaload, 1) := by decide +kernel
theorem d_law_1380 : decode law.2.1 1380 = .ok (.invokevirtual 137, 3) := by decide +kernel
theorem d_law_1383 : decode law.2.1 1383 = .ok (.if_icmp .eq 325, 3) := by decide +kernel
theorem d_law_1386 : decode law.2.1 1386 = .ok (.iconst 0, 1) := by decide +kernel
theorem d_law_1387 : decode law.2.1 1387 = .ok (.ireturn, 1) := by decide +kernel
theorem d_law_1388 : decode law.2.1 1388 = .ok (.aload_n 1, 1) := by decide +kernel
theorem d_law_1389 : decode law.2.1 1389 = .ok (.aload_n 0, 1) := by decide +kernel
theorem d_law_1390 : decode law.2.1 1390 = .ok (.iload_n 3, 1) := by decide +kernel
theorem d_law_1391 : decode law.2.1 1391 = .ok (.iconst 1, 1) := by decide +kernel
theorem d_law_1392 : decode law.2.1 1392 = .ok (.iadd, 1) := by decide +kernel
theorem d_law_1393 : decode law.2.1 1393 = .ok (.iaload, 1) := by decide +kernel
theorem d_law_1394 : decode law.2.1 1394 = .ok (.aload_n 0, 1) := by decide +kernel
theorem d_law_1395 : decode law.2.1 1395 = .ok (.iload_n 3, 1) := by decide +kernel
theorem d_law_1396 : decode law.2.1 1396 = .ok (.iconst 2, 1) := by decide +kernel
theorem d_law_1397 : decode law.2.1 1397 = .ok (.iadd, 1) := by decide +kernel
theorem d_law_1398 : decode law.2.1 1398 = .ok (.iaload, 1) := by decide +kernel
theorem d_law_1399 : decode law.2.1 1399 = .ok (.invokevirtual 138, 3) := by decide +kernel
theorem d_law_1402 : decode law.2.1 1402 = .ok (.aload_n 2, 1) := by decide +kernel
theorem d_law_1403 : decode law.2.1 1403 = .ok (.aload_n 0, 1) := by decide +kernel
theorem d_law_1404 : decode law.2.1 1404 = .ok (.iload_n 3, 1) := by decide +kernel
theorem d_law_1405 : decode law.2.1 1405 = .ok (.iconst 1, 1) := by decide +kernel
theorem d_law_1406 : decode law.2.1 1406 = .ok (.iadd, 1) := by decide +kernel
theorem d_law_1407 : decode law.2.1 1407 = .ok (.iaload, 1) := by decide +kernel
theorem d_law_1408 : decode law.2.1 1408 = .ok (.aload_n 0, 1) := by decide +kernel
theorem d_law_1409 : decode law.2.1 1409 = .ok (.iload_n 3, 1) := by decide +kernel
theorem d_law_1410 : decode law.2.1 1410 = .ok (.iconst 2, 1) := by decide +kernel
theorem d_law_1411 : decode law.2.1 1411 = .ok (.iadd, 1) := by decide +kernel
theorem d_law_1412 : decode law.2.1 1412 = .ok (.iaload, 1) := by decide +kernel
theorem d_law_1413 : decode law.2.1 1413 = .ok (.invokevirtual 141, 3) := by decide +kernel
theorem d_law_1416 : decode law.2.1 1416 = .ok (.if_icmp .eq 292, 3) := by decide +kernel
theorem d_law_1419 : decode law.2.1 1419 = .ok (.iconst 0, 1) := by decide +kernel
theorem d_law_1420 : decode law.2.1 1420 = .ok (.ireturn, 1) := by decide +kernel
theorem d_law_1421 : decode law.2.1 1421 = .ok (.aload_n 1, 1) := by decide +kernel
theorem d_law_1422 : decode law.2.1 1422 = .ok (.aload_n 0, 1) := by decide +kernel
theorem d_law_1423 : decode law.2.1 1423 = .ok (.iload_n 3, 1) := by decide +kernel
theorem d_law_1424 : decode law.2.1 1424 = .ok (.iconst 1, 1) := by decide +kernel
theorem d_law_1425 : decode law.2.1 1425 = .ok (.iadd, 1) := by decide +kernel
theorem d_law_1426 : decode law.2.1 1426 = .ok (.iaload, 1) := by decide +kernel
theorem d_law_1427 : decode law.2.1 1427 = .ok (.aload_n 0, 1) := by decide +kernel
theorem d_law_1428 : decode law.2.1 1428 = .ok (.iload_n 3, 1) := by decide +kernel
theorem d_law_1429 : decode law.2.1 1429 = .ok (.iconst 2, 1) := by decide +kernel
theorem d_law_1430 : decode law.2.1 1430 = .ok (.iadd, 1) := by decide +kernel
theorem d_law_1431 : decode law.2.1 1431 = .ok (.iaload, 1) := by decide +kernel
theorem d_law_1432 : decode law.2.1 1432 = .ok (.aload_n 0, 1) := by decide +kernel
theorem d_law_1433 : decode law.2.1 1433 = .ok (.iload_n 3, 1) := by decide +kernel
theorem d_law_1434 : decode law.2.1 1434 = .ok (.iconst 3, 1) := by decide +kernel
theorem d_law_1435 : decode law.2.1 1435 = .ok (.iadd, 1) := by decide +kernel
theorem d_law_1436 : decode law.2.1 1436 = .ok (.iaload, 1) := by decide +kernel
theorem d_law_1437 : decode law.2.1 1437 = .ok (.aload_n 0, 1) := by decide +kernel
theorem d_law_1438 : decode law.2.1 1438 = .ok (.iload_n 3, 1) := by decide +kernel
theorem d_law_1439 : decode law.2.1 1439 = .ok (.iconst 4, 1) := by decide +kernel
theorem d_law_1440 : decode law.2.1 1440 = .ok (.iadd, 1) := by decide +kernel
theorem d_law_1441 : decode law.2.1 1441 = .ok (.iaload, 1) := by decide +kernel
theorem d_law_1442 : decode law.2.1 1442 = .ok (.aload_n 0, 1) := by decide +kernel
theorem d_law_1443 : decode law.2.1 1443 = .ok (.iload_n 3, 1) := by decide +kernel
theorem d_law_1444 : decode law.2.1 1444 = .ok (.iconst 5, 1) := by decide +kernel
theorem d_law_1445 : decode law.2.1 1445 = .ok (.iadd, 1) := by decide +kernel
theorem d_law_1446 : decode law.2.1 1446 = .ok (.iaload, 1) := by decide +kernel
theorem d_law_1447 : decode law.2.1 1447 = .ok (.invokevirtual 142, 3) := by decide +kernel
theorem d_law_1450 : decode law.2.1 1450 = .ok (.aload_n 2, 1) := by decide +kernel
theorem d_law_1451 : decode law.2.1 1451 = .ok (.aload_n 0, 1) := by decide +kernel
theorem d_law_1452 : decode law.2.1 1452 = .ok (.iload_n 3, 1) := by decide +kernel
theorem d_law_1453 : decode law.2.1 1453 = .ok (.iconst 1, 1) := by decide +kernel
theorem d_law_1454 : decode law.2.1 1454 = .ok (.iadd, 1) := by decide +kernel
theorem d_law_1455 : decode law.2.1 1455 = .ok (.iaload, 1) := by decide +kernel
theorem d_law_1456 : decode law.2.1 1456 = .ok (.aload_n 0, 1) := by decide +kernel
theorem d_law_1457 : decode law.2.1 1457 = .ok (.iload_n 3, 1) := by decide +kernel
theorem d_law_1458 : decode law.2.1 1458 = .ok (.iconst 2, 1) := by decide +kernel
theorem d_law_1459 : decode law.2.1 1459 = .ok (.iadd, 1) := by decide +kernel
theorem d_law_1460 : decode law.2.1 1460 = .ok (.iaload, 1) := by decide +kernel
theorem d_law_1461 : decode law.2.1 1461 = .ok (.aload_n 0, 1) := by decide +kernel
theorem d_law_1462 : decode law.2.1 1462 = .ok (.iload_n 3, 1) := by decide +kernel
theorem d_law_1463 : decode law.2.1 1463 = .ok (.iconst 3, 1) := by decide +kernel
theorem d_law_1464 : decode law.2.1 1464 = .ok (.iadd, 1) := by decide +kernel
theorem d_law_1465 : decode law.2.1 1465 = .ok (.iaload, 1) := by decide +kernel
theorem d_law_1466 : decode law.2.1 1466 = .ok (.aload_n 0, 1) := by decide +kernel
theorem d_law_1467 : decode law.2.1 1467 = .ok (.iload_n 3, 1) := by decide +kernel
theorem d_law_1468 : decode law.2.1 1468 = .ok (.iconst 4, 1) := by decide +kernel
theorem d_law_1469 : decode law.2.1 1469 = .ok (.iadd, 1) := by decide +kernel
theorem d_law_1470 : decode law.2.1 1470 = .ok (.iaload, 1) := by decide +kernel
theorem d_law_1471 : decode law.2.1 1471 = .ok (.aload_n 0, 1) := by decide +kernel
theorem d_law_1472 : decode law.2.1 1472 = .ok (.iload_n 3, 1) := by decide +kernel
theorem d_law_1473 : decode law.2.1 1473 = .ok (.iconst 5, 1) := by decide +kernel
theorem d_law_1474 : decode law.2.1 1474 = .ok (.iadd, 1) := by decide +kernel
theorem d_law_1475 : decode law.2.1 1475 = .ok (.iaload, 1) := by decide +kernel
theorem d_law_1476 : decode law.2.1 1476 = .ok (.invokevirtual 145, 3) := by decide +kernel
theorem d_law_1479 : decode law.2.1 1479 = .ok (.if_icmp .eq 229, 3) := by decide +kernel
theorem d_law_1482 : decode law.2.1 1482 = .ok (.iconst 0, 1) := by decide +kernel
theorem d_law_1483 : decode law.2.1 1483 = .ok (.ireturn, 1) := by decide +kernel
theorem d_law_1484 : decode law.2.1 1484 = .ok (.aload_n 1, 1) := by decide +kernel
theorem d_law_1485 : decode law.2.1 1485 = .ok (.aload_n 0, 1) := by decide +kernel
theorem d_law_1486 : decode law.2.1 1486 = .ok (.iload_n 3, 1) := by decide +kernel
theorem d_law_1487 : decode law.2.1 1487 = .ok (.iconst 1, 1) := by decide +kernel
theorem d_law_1488 : decode law.2.1 1488 = .ok (.iadd, 1) := by decide +kernel
theorem d_law_1489 : decode law.2.1 1489 = .ok (.iaload, 1) := by decide +kernel
theorem d_law_1490 : decode law.2.1 1490 = .ok (.aload_n 0, 1) := by decide +kernel
theorem d_law_1491 : decode law.2.1 1491 = .ok (.iload_n 3, 1) := by decide +kernel
theorem d_law_1492 : decode law.2.1 1492 = .ok (.iconst 2, 1) := by decide +kernel
theorem d_law_1493 : decode law.2.1 1493 = .ok (.iadd, 1) := by decide +kernel
theorem d_law_1494 : decode law.2.1 1494 = .ok (.iaload, 1) := by decide +kernel
theorem d_law_1495 : decode law.2.1 1495 = .ok (.aload_n 0, 1) := by decide +kernel
theorem d_law_1496 : decode law.2.1 1496 = .ok (.iload_n 3, 1) := by decide +kernel
theorem d_law_1497 : decode law.2.1 1497 = .ok (.iconst 3, 1) := by decide +kernel
theorem d_law_1498 : decode law.2.1 1498 = .ok (.iadd, 1) := by decide +kernel
theorem d_law_1499 : decode law.2.1 1499 = .ok (.iaload, 1) := by decide +kernel
theorem d_law_1500 : decode law.2.1 1500 = .ok (.invokevirtual 146, 3) := by decide +kernel
theorem d_law_1503 : decode law.2.1 1503 = .ok (.aload_n 2, 1) := by decide +kernel
theorem d_law_1504 : decode law.2.1 1504 = .ok (.aload_n 0, 1) := by decide +kernel
theorem d_law_1505 : decode law.2.1 1505 = .ok (.iload_n 3, 1) := by decide +kernel
theorem d_law_1506 : decode law.2.1 1506 = .ok (.iconst 1, 1) := by decide +kernel
theorem d_law_1507 : decode law.2.1 1507 = .ok (.iadd, 1) := by decide +kernel
theorem d_law_1508 : decode law.2.1 1508 = .ok (.iaload, 1) := by decide +kernel
theorem d_law_1509 : decode law.2.1 1509 = .ok (.aload_n 0, 1) := by decide +kernel
theorem d_law_1510 : decode law.2.1 1510 = .ok (.iload_n 3, 1) := by decide +kernel
theorem d_law_1511 : decode law.2.1 1511 = .ok (.iconst 2, 1) := by decide +kernel
theorem d_law_1512 : decode law.2.1 1512 = .ok (.iadd, 1) := by decide +kernel
theorem d_law_1513 : decode law.2.1 1513 = .ok (.iaload, 1) := by decide +kernel
theorem d_law_1514 : decode law.2.1 1514 = .ok (.aload_n 0, 1) := by decide +kernel
theorem d_law_1515 : decode law.2.1 1515 = .ok (.iload_n 3, 1) := by decide +kernel
theorem d_law_1516 : decode law.2.1 1516 = .ok (.iconst 3, 1) := by decide +kernel
theorem d_law_1517 : decode law.2.1 1517 = .ok (.iadd, 1) := by decide +kernel
theorem d_law_1518 : decode law.2.1 1518 = .ok (.iaload, 1) := by decide +kernel
theorem d_law_1519 : decode law.2.1 1519 = .ok (.invokevirtual 149, 3) := by decide +kernel
theorem d_law_1522 : decode law.2.1 1522 = .ok (.if_icmp .eq 186, 3) := by decide +kernel
theorem d_law_1525 : decode law.2.1 1525 = .ok (.iconst 0, 1) := by decide +kernel
theorem d_law_1526 : decode law.2.1 1526 = .ok (.ireturn, 1) := by decide +kernel
theorem d_law_1527 : decode law.2.1 1527 = .ok (.aload_n 1, 1) := by decide +kernel
theorem d_law_1528 : decode law.2.1 1528 = .ok (.aload_n 0, 1) := by decide +kernel
theorem d_law_1529 : decode law.2.1 1529 = .ok (.iload_n 3, 1) := by decide +kernel
theorem d_law_1530 : decode law.2.1 1530 = .ok (.iconst 1, 1) := by decide +kernel
theorem d_law_1531 : decode law.2.1 1531 = .ok (.iadd, 1) := by decide +kernel
theorem d_law_1532 : decode law.2.1 1532 = .ok (.iaload, 1) := by decide +kernel
theorem d_law_1533 : decode law.2.1 1533 = .ok (.invokevirtual 150, 3) := by decide +kernel
theorem d_law_1536 : decode law.2.1 1536 = .ok (.aload_n 2, 1) := by decide +kernel
theorem d_law_1537 : decode law.2.1 1537 = .ok (.aload_n 0, 1) := by decide +kernel
theorem d_law_1538 : decode law.2.1 1538 = .ok (.iload_n 3, 1) := by decide +kernel
theorem d_law_1539 : decode law.2.1 1539 = .ok (.iconst 1, 1) := by decide +kernel
theorem d_law_1540 : decode law.2.1 1540 = .ok (.iadd, 1) := by decide +kernel
theorem d_law_1541 : decode law.2.1 1541 = .ok (.iaload, 1) := by decide +kernel
theorem d_law_1542 : decode law.2.1 1542 = .ok (.invokevirtual 153, 3) := by decide +kernel
theorem d_law_1545 : decode law.2.1 1545 = .ok (.if_icmp .eq 163, 3) := by decide +kernel
theorem d_law_1548 : decode law.2.1 1548 = .ok (.iconst 0, 1) := by decide +kernel
theorem d_law_1549 : decode law.2.1 1549 = .ok (.ireturn, 1) := by decide +kernel
theorem d_law_1550 : decode law.2.1 1550 = .ok (.aload_n 1, 1) := by decide +kernel
theorem d_law_1551 : decode law.2.1 1551 = .ok (.aload_n 0, 1) := by decide +kernel
theorem d_law_1552 : decode law.2.1 1552 = .ok (.iload_n 3, 1) := by decide +kernel
theorem d_law_1553 : decode law.2.1 1553 = .ok (.iconst 1, 1) := by decide +kernel
theorem d_law_1554 : decode law.2.1 1554 = .ok (.iadd, 1) := by decide +kernel
theorem d_law_1555 : decode law.2.1 1555 = .ok (.iaload, 1) := by decide +kernel
theorem d_law_1556 : decode law.2.1 1556 = .ok (.aload_n 0, 1) := by decide +kernel
theorem d_law_1557 : decode law.2.1 1557 = .ok (.iload_n 3, 1) := by decide +kernel
theorem d_law_1558 : decode law.2.1 1558 = .ok (.iconst 2, 1) := by decide +kernel
theorem d_law_1559 : decode law.2.1 1559 = .ok (.iadd, 1) := by decide +kernel
theorem d_law_1560 : decode law.2.1 1560 = .ok (.iaload, 1) := by decide +kernel
theorem d_law_1561 : decode law.2.1 1561 = .ok (.invokevirtual 154, 3) := by decide +kernel
theorem d_law_1564 : decode law.2.1 1564 = .ok (.aload_n 2, 1) := by decide +kernel
theorem d_law_1565 : decode law.2.1 1565 = .ok (.aload_n 0, 1) := by decide +kernel
theorem d_law_1566 : decode law.2.1 1566 = .ok (.iload_n 3, 1) := by decide +kernel
theorem d_law_1567 : decode law.2.1 1567 = .ok (.iconst 1, 1) := by decide +kernel
theorem d_law_1568 : decode law.2.1 1568 = .ok (.iadd, 1) := by decide +kernel
theorem d_law_1569 : decode law.2.1 1569 = .ok (.iaload, 1) := by decide +kernel
theorem d_law_1570 : decode law.2.1 1570 = .ok (.aload_n 0, 1) := by decide +kernel
theorem d_law_1571 : decode law.2.1 1571 = .ok (.iload_n 3, 1) := by decide +kernel
theorem d_law_1572 : decode law.2.1 1572 = .ok (.iconst 2, 1) := by decide +kernel
theorem d_law_1573 : decode law.2.1 1573 = .ok (.iadd, 1) := by decide +kernel
theorem d_law_1574 : decode law.2.1 1574 = .ok (.iaload, 1) := by decide +kernel
theorem d_law_1575 : decode law.2.1 1575 = .ok (.invokevirtual 157, 3) := by decide +kernel
theorem d_law_1578 : decode law.2.1 1578 = .ok (.if_icmp .eq 130, 3) := by decide +kernel
theorem d_law_1581 : decode law.2.1 1581 = .ok (.iconst 0, 1) := by decide +kernel
theorem d_law_1582 : decode law.2.1 1582 = .ok (.ireturn, 1) := by decide +kernel
theorem d_law_1583 : decode law.2.1 1583 = .ok (.aload_n 1, 1) := by decide +kernel
theorem d_law_1584 : decode law.2.1 1584 = .ok (.aload_n 0, 1) := by decide +kernel
theorem d_law_1585 : decode law.2.1 1585 = .ok (.iload_n 3, 1) := by decide +kernel
theorem d_law_1586 : decode law.2.1 1586 = .ok (.iconst 1, 1) := by decide +kernel
theorem d_law_1587 : decode law.2.1 1587 = .ok (.iadd, 1) := by decide +kernel
theorem d_law_1588 : decode law.2.1 1588 = .ok (.iaload, 1) := by decide +kernel
theorem d_law_1589 : decode law.2.1 1589 = .ok (.invokevirtual 158, 3) := by decide +kernel
theorem d_law_1592 : decode law.2.1 1592 = .ok (.aload_n 2, 1) := by decide +kernel
theorem d_law_1593 : decode law.2.1 1593 = .ok (.aload_n 0, 1) := by decide +kernel
theorem d_law_1594 : decode law.2.1 1594 = .ok (.iload_n 3, 1) := by decide +kernel
theorem d_law_1595 : decode law.2.1 1595 = .ok (.iconst 1, 1) := by decide +kernel
theorem d_law_1596 : decode law.2.1 1596 = .ok (.iadd, 1) := by decide +kernel
theorem d_law_1597 : decode law.2.1 1597 = .ok (.iaload, 1) := by decide +kernel
theorem d_law_1598 : decode law.2.1 1598 = .ok (.invokevirtual 161, 3) := by decide +kernel
theorem d_law_1601 : decode law.2.1 1601 = .ok (.if_icmp .eq 107, 3) := by decide +kernel
theorem d_law_1604 : decode law.2.1 1604 = .ok (.iconst 0, 1) := by decide +kernel
theorem d_law_1605 : decode law.2.1 1605 = .ok (.ireturn, 1) := by decide +kernel
theorem d_law_1606 : decode law.2.1 1606 = .ok (.aload_n 1, 1) := by decide +kernel
theorem d_law_1607 : decode law.2.1 1607 = .ok (.aload_n 0, 1) := by decide +kernel
theorem d_law_1608 : decode law.2.1 1608 = .ok (.iload_n 3, 1) := by decide +kernel
theorem d_law_1609 : decode law.2.1 1609 = .ok (.iconst 1, 1) := by decide +kernel
theorem d_law_1610 : decode law.2.1 1610 = .ok (.iadd, 1) := by decide +kernel
theorem d_law_1611 : decode law.2.1 1611 = .ok (.iaload, 1) := by decide +kernel
theorem d_law_1612 : decode law.2.1 1612 = .ok (.invokevirtual 162, 3) := by decide +kernel
theorem d_law_1615 : decode law.2.1 1615 = .ok (.aload_n 2, 1) := by decide +kernel
theorem d_law_1616 : decode law.2.1 1616 = .ok (.aload_n 0, 1) := by decide +kernel
theorem d_law_1617 : decode law.2.1 1617 = .ok (.iload_n 3, 1) := by decide +kernel
theorem d_law_1618 : decode law.2.1 1618 = .ok (.iconst 1, 1) := by decide +kernel
theorem d_law_1619 : decode law.2.1 1619 = .ok (.iadd, 1) := by decide +kernel
theorem d_law_1620 : decode law.2.1 1620 = .ok (.iaload, 1) := by decide +kernel
theorem d_law_1621 : decode law.2.1 1621 = .ok (.invokevirtual 165, 3) := by decide +kernel
theorem d_law_1624 : decode law.2.1 1624 = .ok (.if_icmp .eq 84, 3) := by decide +kernel
theorem d_law_1627 : decode law.2.1 1627 = .ok (.iconst 0, 1) := by decide +kernel
theorem d_law_1628 : decode law.2.1 1628 = .ok (.ireturn, 1) := by decide +kernel
theorem d_law_1629 : decode law.2.1 1629 = .ok (.aload_n 1, 1) := by decide +kernel
theorem d_law_1630 : decode law.2.1 1630 = .ok (.aload_n 0, 1) := by decide +kernel
theorem d_law_1631 : decode law.2.1 1631 = .ok (.iload_n 3, 1) := by decide +kernel
theorem d_law_1632 : decode law.2.1 1632 = .ok (.iconst 1, 1) := by decide +kernel
theorem d_law_1633 : decode law.2.1 1633 = .ok (.iadd, 1) := by decide +kernel
theorem d_law_1634 : decode law.2.1 1634 = .ok (.iaload, 1) := by decide +kernel
theorem d_law_1635 : decode law.2.1 1635 = .ok (.aload_n 0, 1) := by decide +kernel
theorem d_law_1636 : decode law.2.1 1636 = .ok (.iload_n 3, 1) := by decide +kernel
theorem d_law_1637 : decode law.2.1 1637 = .ok (.iconst 2, 1) := by decide +kernel
theorem d_law_1638 : decode law.2.1 1638 = .ok (.iadd, 1) := by decide +kernel
theorem d_law_1639 : decode law.2.1 1639 = .ok (.iaload, 1) := by decide +kernel
theorem d_law_1640 : decode law.2.1 1640 = .ok (.aload_n 0, 1) := by decide +kernel
theorem d_law_1641 : decode law.2.1 1641 = .ok (.iload_n 3, 1) := by decide +kernel
theorem d_law_1642 : decode law.2.1 1642 = .ok (.iconst 3, 1) := by decide +kernel
theorem d_law_1643 : decode law.2.1 1643 = .ok (.iadd, 1) := by decide +kernel
theorem d_law_1644 : decode law.2.1 1644 = .ok (.iaload, 1) := by decide +kernel
theorem d_law_1645 : decode law.2.1 1645 = .ok (.invokevirtual 166, 3) := by decide +kernel
theorem d_law_1648 : decode law.2.1 1648 = .ok (.aload_n 2, 1) := by decide +kernel
theorem d_law_1649 : decode law.2.1 1649 = .ok (.aload_n 0, 1) := by decide +kernel
theorem d_law_1650 : decode law.2.1 1650 = .ok (.iload_n 3, 1) := by decide +kernel
theorem d_law_1651 : decode law.2.1 1651 = .ok (.iconst 1, 1) := by decide +kernel
theorem d_law_1652 : decode law.2.1 1652 = .ok (.iadd, 1) := by decide +kernel
theorem d_law_1653 : decode law.2.1 1653 = .ok (.iaload, 1) := by decide +kernel
theorem d_law_1654 : decode law.2.1 1654 = .ok (.aload_n 0, 1) := by decide +kernel
theorem d_law_1655 : decode law.2.1 1655 = .ok (.iload_n 3, 1) := by decide +kernel
theorem d_law_1656 : decode law.2.1 1656 = .ok (.iconst 2, 1) := by decide +kernel
theorem d_law_1657 : decode law.2.1 1657 = .ok (.iadd, 1) := by decide +kernel
theorem d_law_1658 : decode law.2.1 1658 = .ok (.iaload, 1) := by decide +kernel
theorem d_law_1659 : decode law.2.1 1659 = .ok (.aload_n 0, 1) := by decide +kernel
theorem d_law_1660 : decode law.2.1 1660 = .ok (.iload_n 3, 1) := by decide +kernel
theorem d_law_1661 : decode law.2.1 1661 = .ok (.iconst 3, 1) := by decide +kernel
theorem d_law_1662 : decode law.2.1 1662 = .ok (.iadd, 1) := by decide +kernel
theorem d_law_1663 : decode law.2.1 1663 = .ok (.iaload, 1) := by decide +kernel
theorem d_law_1664 : decode law.2.1 1664 = .ok (.invokevirtual 169, 3) := by decide +kernel
theorem d_law_1667 : decode law.2.1 1667 = .ok (.if_icmp .eq 41, 3) := by decide +kernel
theorem d_law_1670 : decode law.2.1 1670 = .ok (.iconst 0, 1) := by decide +kernel
theorem d_law_1671 : decode law.2.1 1671 = .ok (.ireturn, 1) := by decide +kernel
theorem d_law_1672 : decode law.2.1 1672 = .ok (.aload_n 1, 1) := by decide +kernel
theorem d_law_1673 : decode law.2.1 1673 = .ok (.invokevirtual 170, 3) := by decide +kernel
theorem d_law_1676 : decode law.2.1 1676 = .ok (.aload_n 2, 1) := by decide +kernel
theorem d_law_1677 : decode law.2.1 1677 = .ok (.invokevirtual 173, 3) := by decide +kernel
theorem d_law_1680 : decode law.2.1 1680 = .ok (.if_icmp .eq 28, 3) := by decide +kernel
theorem d_law_1683 : decode law.2.1 1683 = .ok (.iconst 0, 1) := by decide +kernel
theorem d_law_1684 : decode law.2.1 1684 = .ok (.ireturn, 1) := by decide +kernel
theorem d_law_1685 : decode law.2.1 1685 = .ok (.aload_n 1, 1) := by decide +kernel
theorem d_law_1686 : decode law.2.1 1686 = .ok (.aload_n 0, 1) := by decide +kernel
theorem d_law_1687 : decode law.2.1 1687 = .ok (.iload_n 3, 1) := by decide +kernel
theorem d_law_1688 : decode law.2.1 1688 = .ok (.iconst 1, 1) := by decide +kernel
theorem d_law_1689 : decode law.2.1 1689 = .ok (.iadd, 1) := by decide +kernel
theorem d_law_1690 : decode law.2.1 1690 = .ok (.iaload, 1) := by decide +kernel
theorem d_law_1691 : decode law.2.1 1691 = .ok (.invokevirtual 174, 3) := by decide +kernel
theorem d_law_1694 : decode law.2.1 1694 = .ok (.aload_n 2, 1) := by decide +kernel
theorem d_law_1695 : decode law.2.1 1695 = .ok (.aload_n 0, 1) := by decide +kernel
theorem d_law_1696 : decode law.2.1 1696 = .ok (.iload_n 3, 1) := by decide +kernel
theorem d_law_1697 : decode law.2.1 1697 = .ok (.iconst 1, 1) := by decide +kernel
theorem d_law_1698 : decode law.2.1 1698 = .ok (.iadd, 1) := by decide +kernel
theorem d_law_1699 : decode law.2.1 1699 = .ok (.iaload, 1) := by decide +kernel
theorem d_law_1700 : decode law.2.1 1700 = .ok (.invokevirtual 177, 3) := by decide +kernel
theorem d_law_1703 : decode law.2.1 1703 = .ok (.if_icmp .eq 5, 3) := by decide +kernel
theorem d_law_1706 : decode law.2.1 1706 = .ok (.iconst 0, 1) := by decide +kernel
theorem d_law_1707 : decode law.2.1 1707 = .ok (.ireturn, 1) := by decide +kernel
theorem d_law_1708 : decode law.2.1 1708 = .ok (.iinc 3 7, 3) := by decide +kernel
theorem d_law_1711 : decode law.2.1 1711 = .ok (.goto (-1693), 3) := by decide +kernel
theorem d_law_1714 : decode law.2.1 1714 = .ok (.iconst 1, 1) := by decide +kernel
theorem d_law_1715 : decode law.2.1 1715 = .ok (.ireturn, 1) := by decide +kernel
