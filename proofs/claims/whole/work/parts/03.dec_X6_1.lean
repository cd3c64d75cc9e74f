theorem dX6_fewestAt_11 : decode cX6_fewestAt 11 = .ok (.iload_n 3, 1) := by decide +kernel
theorem dX6_fewestAt_12 : decode cX6_fewestAt 12 = .ok (.invokevirtual 92, 3) := by decide +kernel
theorem dX6_fewestAt_15 : decode cX6_fewestAt 15 = .ok (.ifCond .eq 34, 3) := by decide +kernel
theorem dX6_fewestAt_18 : decode cX6_fewestAt 18 = .ok (.aload_n 0, 1) := by decide +kernel
theorem dX6_fewestAt_19 : decode cX6_fewestAt 19 = .ok (.iload_n 3, 1) := by decide +kernel
theorem dX6_fewestAt_20 : decode cX6_fewestAt 20 = .ok (.invokevirtual 96, 3) := by decide +kernel
theorem dX6_fewestAt_23 : decode cX6_fewestAt 23 = .ok (.aload_n 0, 1) := by decide +kernel
theorem dX6_fewestAt_24 : decode cX6_fewestAt 24 = .ok (.getfield 30, 3) := by decide +kernel
theorem dX6_fewestAt_27 : decode cX6_fewestAt 27 = .ok (.iload_n 1, 1) := by decide +kernel
theorem dX6_fewestAt_28 : decode cX6_fewestAt 28 = .ok (.iload_n 3, 1) := by decide +kernel
theorem dX6_fewestAt_29 : decode cX6_fewestAt 29 = .ok (.iadd, 1) := by decide +kernel
theorem dX6_fewestAt_30 : decode cX6_fewestAt 30 = .ok (.iaload, 1) := by decide +kernel
theorem dX6_fewestAt_31 : decode cX6_fewestAt 31 = .ok (.iadd, 1) := by decide +kernel
theorem dX6_fewestAt_32 : decode cX6_fewestAt 32 = .ok (.aload_n 0, 1) := by decide +kernel
theorem dX6_fewestAt_33 : decode cX6_fewestAt 33 = .ok (.getfield 30, 3) := by decide +kernel
theorem dX6_fewestAt_36 : decode cX6_fewestAt 36 = .ok (.iload_n 1, 1) := by decide +kernel
theorem dX6_fewestAt_37 : decode cX6_fewestAt 37 = .ok (.iaload, 1) := by decide +kernel
theorem dX6_fewestAt_38 : decode cX6_fewestAt 38 = .ok (.if_icmp .ne 11, 3) := by decide +kernel
theorem dX6_fewestAt_41 : decode cX6_fewestAt 41 = .ok (.aload_n 0, 1) := by decide +kernel
theorem dX6_fewestAt_42 : decode cX6_fewestAt 42 = .ok (.iload_n 1, 1) := by decide +kernel
theorem dX6_fewestAt_43 : decode cX6_fewestAt 43 = .ok (.iload_n 3, 1) := by decide +kernel
theorem dX6_fewestAt_44 : decode cX6_fewestAt 44 = .ok (.invokevirtual 118, 3) := by decide +kernel
theorem dX6_fewestAt_47 : decode cX6_fewestAt 47 = .ok (.iload_n 3, 1) := by decide +kernel
theorem dX6_fewestAt_48 : decode cX6_fewestAt 48 = .ok (.ireturn, 1) := by decide +kernel
theorem dX6_fewestAt_49 : decode cX6_fewestAt 49 = .ok (.iinc 3 (-1), 3) := by decide +kernel
theorem dX6_fewestAt_52 : decode cX6_fewestAt 52 = .ok (.goto (-48), 3) := by decide +kernel
theorem dX6_fewestAt_55 : decode cX6_fewestAt 55 = .ok (.aload_n 0, 1) := by decide +kernel
theorem dX6_fewestAt_56 : decode cX6_fewestAt 56 = .ok (.iload_n 1, 1) := by decide +kernel
theorem dX6_fewestAt_57 : decode cX6_fewestAt 57 = .ok (.iload_n 2, 1) := by decide +kernel
theorem dX6_fewestAt_58 : decode cX6_fewestAt 58 = .ok (.aload_n 0, 1) := by decide +kernel
theorem dX6_fewestAt_59 : decode cX6_fewestAt 59 = .ok (.invokevirtual 100, 3) := by decide +kernel
theorem dX6_fewestAt_62 : decode cX6_fewestAt 62 = .ok (.invokevirtual 104, 3) := by decide +kernel
theorem dX6_fewestAt_65 : decode cX6_fewestAt 65 = .ok (.istore_n 3, 1) := by decide +kernel
theorem dX6_fewestAt_66 : decode cX6_fewestAt 66 = .ok (.aload_n 0, 1) := by decide +kernel
theorem dX6_fewestAt_67 : decode cX6_fewestAt 67 = .ok (.invokevirtual 108, 3) := by decide +kernel
theorem dX6_fewestAt_70 : decode cX6_fewestAt 70 = .ok (.aload_n 0, 1) := by decide +kernel
theorem dX6_fewestAt_71 : decode cX6_fewestAt 71 = .ok (.getfield 30, 3) := by decide +kernel
theorem dX6_fewestAt_74 : decode cX6_fewestAt 74 = .ok (.iload_n 1, 1) := by decide +kernel
theorem dX6_fewestAt_75 : decode cX6_fewestAt 75 = .ok (.iload_n 3, 1) := by decide +kernel
theorem dX6_fewestAt_76 : decode cX6_fewestAt 76 = .ok (.iadd, 1) := by decide +kernel
theorem dX6_fewestAt_77 : decode cX6_fewestAt 77 = .ok (.iaload, 1) := by decide +kernel
theorem dX6_fewestAt_78 : decode cX6_fewestAt 78 = .ok (.iadd, 1) := by decide +kernel
theorem dX6_fewestAt_79 : decode cX6_fewestAt 79 = .ok (.aload_n 0, 1) := by decide +kernel
theorem dX6_fewestAt_80 : decode cX6_fewestAt 80 = .ok (.getfield 30, 3) := by decide +kernel
theorem dX6_fewestAt_83 : decode cX6_fewestAt 83 = .ok (.iload_n 1, 1) := by decide +kernel
theorem dX6_fewestAt_84 : decode cX6_fewestAt 84 = .ok (.iaload, 1) := by decide +kernel
theorem dX6_fewestAt_85 : decode cX6_fewestAt 85 = .ok (.if_icmp .eq 9, 3) := by decide +kernel
theorem dX6_fewestAt_88 : decode cX6_fewestAt 88 = .ok (.iinc 3 (-1), 3) := by decide +kernel
theorem dX6_fewestAt_91 : decode cX6_fewestAt 91 = .ok (.goto (-25), 3) := by decide +kernel
theorem dX6_fewestAt_94 : decode cX6_fewestAt 94 = .ok (.aload_n 0, 1) := by decide +kernel
theorem dX6_fewestAt_95 : decode cX6_fewestAt 95 = .ok (.iload_n 1, 1) := by decide +kernel
theorem dX6_fewestAt_96 : decode cX6_fewestAt 96 = .ok (.iload_n 3, 1) := by decide +kernel
theorem dX6_fewestAt_97 : decode cX6_fewestAt 97 = .ok (.invokevirtual 121, 3) := by decide +kernel
theorem dX6_fewestAt_100 : decode cX6_fewestAt 100 = .ok (.iload_n 3, 1) := by decide +kernel
theorem dX6_fewestAt_101 : decode cX6_fewestAt 101 = .ok (.ireturn, 1) := by decide +kernel
theorem dX6_greedy_0 : decode cX6_greedy 0 = .ok (.aload_n 0, 1) := by decide +kernel
theorem dX6_greedy_1 : decode cX6_greedy 1 = .ok (.getfield 43, 3) := by decide +kernel
theorem dX6_greedy_4 : decode cX6_greedy 4 = .ok (.iconst 2, 1) := by decide +kernel
theorem dX6_greedy_5 : decode cX6_greedy 5 = .ok (.if_icmp .ne 12, 3) := by decide +kernel
theorem dX6_greedy_8 : decode cX6_greedy 8 = .ok (.aload_n 0, 1) := by decide +kernel
theorem dX6_greedy_9 : decode cX6_greedy 9 = .ok (.iload_n 1, 1) := by decide +kernel
theorem dX6_greedy_10 : decode cX6_greedy 10 = .ok (.iload_n 2, 1) := by decide +kernel
theorem dX6_greedy_11 : decode cX6_greedy 11 = .ok (.invokevirtual 87, 3) := by decide +kernel
theorem dX6_greedy_14 : decode cX6_greedy 14 = .ok (.goto 4, 3) := by decide +kernel
theorem dX6_greedy_17 : decode cX6_greedy 17 = .ok (.iload_n 2, 1) := by decide +kernel
theorem dX6_greedy_18 : decode cX6_greedy 18 = .ok (.istore_n 3, 1) := by decide +kernel
theorem dX6_greedy_19 : decode cX6_greedy 19 = .ok (.iload_n 1, 1) := by decide +kernel
theorem dX6_greedy_20 : decode cX6_greedy 20 = .ok (.istore 4, 2) := by decide +kernel
theorem dX6_greedy_22 : decode cX6_greedy 22 = .ok (.iload 4, 2) := by decide +kernel
theorem dX6_greedy_24 : decode cX6_greedy 24 = .ok (.iload_n 3, 1) := by decide +kernel
theorem dX6_greedy_25 : decode cX6_greedy 25 = .ok (.if_icmp .ge 130, 3) := by decide +kernel
theorem dX6_greedy_28 : decode cX6_greedy 28 = .ok (.aload_n 0, 1) := by decide +kernel
theorem dX6_greedy_29 : decode cX6_greedy 29 = .ok (.iload 4, 2) := by decide +kernel
theorem dX6_greedy_31 : decode cX6_greedy 31 = .ok (.iload_n 2, 1) := by decide +kernel
theorem dX6_greedy_32 : decode cX6_greedy 32 = .ok (.aload_n 0, 1) := by decide +kernel
theorem dX6_greedy_33 : decode cX6_greedy 33 = .ok (.invokevirtual 100, 3) := by decide +kernel
theorem dX6_greedy_36 : decode cX6_greedy 36 = .ok (.invokevirtual 104, 3) := by decide +kernel
theorem dX6_greedy_39 : decode cX6_greedy 39 = .ok (.istore 5, 2) := by decide +kernel
theorem dX6_greedy_41 : decode cX6_greedy 41 = .ok (.aload_n 0, 1) := by decide +kernel
theorem dX6_greedy_42 : decode cX6_greedy 42 = .ok (.getfield 43, 3) := by decide +kernel
theorem dX6_greedy_45 : decode cX6_greedy 45 = .ok (.ifCond .ne 36, 3) := by decide +kernel
theorem dX6_greedy_48 : decode cX6_greedy 48 = .ok (.iload 5, 2) := by decide +kernel
theorem dX6_greedy_50 : decode cX6_greedy 50 = .ok (.aload_n 0, 1) := by decide +kernel
theorem dX6_greedy_51 : decode cX6_greedy 51 = .ok (.getfield 7, 3) := by decide +kernel
theorem dX6_greedy_54 : decode cX6_greedy 54 = .ok (.imul, 1) := by decide +kernel
theorem dX6_greedy_55 : decode cX6_greedy 55 = .ok (.iconst 2, 1) := by decide +kernel
theorem dX6_greedy_56 : decode cX6_greedy 56 = .ok (.aload_n 0, 1) := by decide +kernel
theorem dX6_greedy_57 : decode cX6_greedy 57 = .ok (.getfield 7, 3) := by decide +kernel
theorem dX6_greedy_60 : decode cX6_greedy 60 = .ok (.iadd, 1) := by decide +kernel
theorem dX6_greedy_61 : decode cX6_greedy 61 = .ok (.if_icmp .gt 12, 3) := by decide +kernel
theorem dX6_greedy_64 : decode cX6_greedy 64 = .ok (.aload_n 0, 1) := by decide +kernel
theorem dX6_greedy_65 : decode cX6_greedy 65 = .ok (.iload 4, 2) := by decide +kernel
theorem dX6_greedy_67 : decode cX6_greedy 67 = .ok (.invokevirtual 83, 3) := by decide +kernel
theorem dX6_greedy_70 : decode cX6_greedy 70 = .ok (.ifCond .eq 7, 3) := by decide +kernel
theorem dX6_greedy_73 : decode cX6_greedy 73 = .ok (.iconst 1, 1) := by decide +kernel
theorem dX6_greedy_74 : decode cX6_greedy 74 = .ok (.goto 40, 3) := by decide +kernel
theorem dX6_greedy_77 : decode cX6_greedy 77 = .ok (.iconst 0, 1) := by decide +kernel
theorem dX6_greedy_78 : decode cX6_greedy 78 = .ok (.goto 36, 3) := by decide +kernel
theorem dX6_greedy_81 : decode cX6_greedy 81 = .ok (.aload_n 0, 1) := by decide +kernel
theorem dX6_greedy_82 : decode cX6_greedy 82 = .ok (.getfield 43, 3) := by decide +kernel
theorem dX6_greedy_85 : decode cX6_greedy 85 = .ok (.iconst 1, 1) := by decide +kernel
theorem dX6_greedy_86 : decode cX6_greedy 86 = .ok (.if_icmp .ne 17, 3) := by decide +kernel
theorem dX6_greedy_89 : decode cX6_greedy 89 = .ok (.iload 5, 2) := by decide +kernel
theorem dX6_greedy_91 : decode cX6_greedy 91 = .ok (.iconst 1, 1) := by decide +kernel
theorem dX6_greedy_92 : decode cX6_greedy 92 = .ok (.if_icmp .le 7, 3) := by decide +kernel
theorem dX6_greedy_95 : decode cX6_greedy 95 = .ok (.iconst 1, 1) := by decide +kernel
theorem dX6_greedy_96 : decode cX6_greedy 96 = .ok (.goto 18, 3) := by decide +kernel
theorem dX6_greedy_99 : decode cX6_greedy 99 = .ok (.iconst 0, 1) := by decide +kernel
theorem dX6_greedy_100 : decode cX6_greedy 100 = .ok (.goto 14, 3) := by decide +kernel
theorem dX6_greedy_103 : decode cX6_greedy 103 = .ok (.iload 5, 2) := by decide +kernel
theorem dX6_greedy_105 : decode cX6_greedy 105 = .ok (.iconst 2, 1) := by decide +kernel
theorem dX6_greedy_106 : decode cX6_greedy 106 = .ok (.if_icmp .le 7, 3) := by decide +kernel
theorem dX6_greedy_109 : decode cX6_greedy 109 = .ok (.iconst 1, 1) := by decide +kernel
theorem dX6_greedy_110 : decode cX6_greedy 110 = .ok (.goto 4, 3) := by decide +kernel
theorem dX6_greedy_113 : decode cX6_greedy 113 = .ok (.iconst 0, 1) := by decide +kernel
theorem dX6_greedy_114 : decode cX6_greedy 114 = .ok (.istore 6, 2) := by decide +kernel
theorem dX6_greedy_116 : decode cX6_greedy 116 = .ok (.iload 6, 2) := by decide +kernel
theorem dX6_greedy_118 : decode cX6_greedy 118 = .ok (.ifCond .eq 21, 3) := by decide +kernel
theorem dX6_greedy_121 : decode cX6_greedy 121 = .ok (.aload_n 0, 1) := by decide +kernel
theorem dX6_greedy_122 : decode cX6_greedy 122 = .ok (.iload 4, 2) := by decide +kernel
theorem dX6_greedy_124 : decode cX6_greedy 124 = .ok (.iload 5, 2) := by decide +kernel
theorem dX6_greedy_126 : decode cX6_greedy 126 = .ok (.invokevirtual 121, 3) := by decide +kernel
theorem dX6_greedy_129 : decode cX6_greedy 129 = .ok (.iload 4, 2) := by decide +kernel
theorem dX6_greedy_131 : decode cX6_greedy 131 = .ok (.iload 5, 2) := by decide +kernel
theorem dX6_greedy_133 : decode cX6_greedy 133 = .ok (.iadd, 1) := by decide +kernel
theorem dX6_greedy_134 : decode cX6_greedy 134 = .ok (.istore 4, 2) := by decide +kernel
theorem dX6_greedy_136 : decode cX6_greedy 136 = .ok (.goto 16, 3) := by decide +kernel
theorem dX6_greedy_139 : decode cX6_greedy 139 = .ok (.iload 4, 2) := by decide +kernel
theorem dX6_greedy_141 : decode cX6_greedy 141 = .ok (.aload_n 0, 1) := by decide +kernel
theorem dX6_greedy_142 : decode cX6_greedy 142 = .ok (.iload 4, 2) := by decide +kernel
theorem dX6_greedy_144 : decode cX6_greedy 144 = .ok (.iload_n 3, 1) := by decide +kernel
theorem dX6_greedy_145 : decode cX6_greedy 145 = .ok (.iload_n 2, 1) := by decide +kernel
theorem dX6_greedy_146 : decode cX6_greedy 146 = .ok (.invokevirtual 124, 3) := by decide +kernel
theorem dX6_greedy_149 : decode cX6_greedy 149 = .ok (.iadd, 1) := by decide +kernel
theorem dX6_greedy_150 : decode cX6_greedy 150 = .ok (.istore 4, 2) := by decide +kernel
theorem dX6_greedy_152 : decode cX6_greedy 152 = .ok (.goto (-130), 3) := by decide +kernel
theorem dX6_greedy_155 : decode cX6_greedy 155 = .ok (.aload_n 0, 1) := by decide +kernel
theorem dX6_greedy_156 : decode cX6_greedy 156 = .ok (.getfield 43, 3) := by decide +kernel
theorem dX6_greedy_159 : decode cX6_greedy 159 = .ok (.iconst 2, 1) := by decide +kernel
theorem dX6_greedy_160 : decode cX6_greedy 160 = .ok (.if_icmp .ne 13, 3) := by decide +kernel
theorem dX6_greedy_163 : decode cX6_greedy 163 = .ok (.aload_n 0, 1) := by decide +kernel
theorem dX6_greedy_164 : decode cX6_greedy 164 = .ok (.iconst 0, 1) := by decide +kernel
theorem dX6_greedy_165 : decode cX6_greedy 165 = .ok (.invokevirtual 75, 3) := by decide +kernel
theorem dX6_greedy_168 : decode cX6_greedy 168 = .ok (.aload_n 0, 1) := by decide +kernel
theorem dX6_greedy_169 : decode cX6_greedy 169 = .ok (.iconst 0, 1) := by decide +kernel
theorem dX6_greedy_170 : decode cX6_greedy 170 = .ok (.invokevirtual 75, 3) := by decide +kernel
theorem dX6_greedy_173 : decode cX6_greedy 173 = .ok (.return_, 1) := by decide +kernel
theorem dX6_greedyThemselves_0 : decode cX6_greedyThemselves 0 = .ok (.iconst 1, 1) := by decide +kernel
theorem dX6_greedyThemselves_1 : decode cX6_greedyThemselves 1 = .ok (.istore 4, 2) := by decide +kernel
theorem dX6_greedyThemselves_3 : decode cX6_greedyThemselves 3 = .ok (.aload_n 0, 1) := by decide +kernel
theorem dX6_greedyThemselves_4 : decode cX6_greedyThemselves 4 = .ok (.getfield 43, 3) := by decide +kernel
theorem dX6_greedyThemselves_7 : decode cX6_greedyThemselves 7 = .ok (.iconst 1, 1) := by decide +kernel
theorem dX6_greedyThemselves_8 : decode cX6_greedyThemselves 8 = .ok (.if_icmp .ne 39, 3) := by decide +kernel
theorem dX6_greedyThemselves_11 : decode cX6_greedyThemselves 11 = .ok (.iload_n 1, 1) := by decide +kernel
theorem dX6_greedyThemselves_12 : decode cX6_greedyThemselves 12 = .ok (.iload 4, 2) := by decide +kernel
theorem dX6_greedyThemselves_14 : decode cX6_greedyThemselves 14 = .ok (.iadd, 1) := by decide +kernel
theorem dX6_greedyThemselves_15 : decode cX6_greedyThemselves 15 = .ok (.iload_n 3, 1) := by decide +kernel
theorem dX6_greedyThemselves_16 : decode cX6_greedyThemselves 16 = .ok (.if_icmp .ge 89, 3) := by decide +kernel
theorem dX6_greedyThemselves_19 : decode cX6_greedyThemselves 19 = .ok (.iload 4, 2) := by decide +kernel
theorem dX6_greedyThemselves_21 : decode cX6_greedyThemselves 21 = .ok (.sipush 128, 3) := by decide +kernel
theorem dX6_greedyThemselves_24 : decode cX6_greedyThemselves 24 = .ok (.if_icmp .ge 81, 3) := by decide +kernel
theorem dX6_greedyThemselves_27 : decode cX6_greedyThemselves 27 = .ok (.aload_n 0, 1) := by decide +kernel
theorem dX6_greedyThemselves_28 : decode cX6_greedyThemselves 28 = .ok (.iload_n 1, 1) := by decide +kernel
theorem dX6_greedyThemselves_29 : decode cX6_greedyThemselves 29 = .ok (.iload 4, 2) := by decide +kernel
theorem dX6_greedyThemselves_31 : decode cX6_greedyThemselves 31 = .ok (.iadd, 1) := by decide +kernel
theorem dX6_greedyThemselves_32 : decode cX6_greedyThemselves 32 = .ok (.iload_n 3, 1) := by decide +kernel
theorem dX6_greedyThemselves_33 : decode cX6_greedyThemselves 33 = .ok (.iconst 2, 1) := by decide +kernel
theorem dX6_greedyThemselves_34 : decode cX6_greedyThemselves 34 = .ok (.invokevirtual 104, 3) := by decide +kernel
theorem dX6_greedyThemselves_37 : decode cX6_greedyThemselves 37 = .ok (.iconst 2, 1) := by decide +kernel
theorem dX6_greedyThemselves_38 : decode cX6_greedyThemselves 38 = .ok (.if_icmp .ge 67, 3) := by decide +kernel
theorem dX6_greedyThemselves_41 : decode cX6_greedyThemselves 41 = .ok (.iinc 4 1, 3) := by decide +kernel
theorem dX6_greedyThemselves_44 : decode cX6_greedyThemselves 44 = .ok (.goto (-33), 3) := by decide +kernel
theorem dX6_greedyThemselves_47 : decode cX6_greedyThemselves 47 = .ok (.aload_n 0, 1) := by decide +kernel
theorem dX6_greedyThemselves_48 : decode cX6_greedyThemselves 48 = .ok (.getfield 43, 3) := by decide +kernel
theorem dX6_greedyThemselves_51 : decode cX6_greedyThemselves 51 = .ok (.iconst 2, 1) := by decide +kernel
theorem dX6_greedyThemselves_52 : decode cX6_greedyThemselves 52 = .ok (.if_icmp .ne 53, 3) := by decide +kernel
theorem dX6_greedyThemselves_55 : decode cX6_greedyThemselves 55 = .ok (.iload_n 1, 1) := by decide +kernel
theorem dX6_greedyThemselves_56 : decode cX6_greedyThemselves 56 = .ok (.iload 4, 2) := by decide +kernel
theorem dX6_greedyThemselves_58 : decode cX6_greedyThemselves 58 = .ok (.iadd, 1) := by decide +kernel
theorem dX6_greedyThemselves_59 : decode cX6_greedyThemselves 59 = .ok (.iload_n 2, 1) := by decide +kernel
theorem dX6_greedyThemselves_60 : decode cX6_greedyThemselves 60 = .ok (.if_icmp .ge 31, 3) := by decide +kernel
theorem dX6_greedyThemselves_63 : decode cX6_greedyThemselves 63 = .ok (.iload 4, 2) := by decide +kernel
theorem dX6_greedyThemselves_65 : decode cX6_greedyThemselves 65 = .ok (.sipush 255, 3) := by decide +kernel
theorem dX6_greedyThemselves_68 : decode cX6_greedyThemselves 68 = .ok (.if_icmp .ge 23, 3) := by decide +kernel
theorem dX6_greedyThemselves_71 : decode cX6_greedyThemselves 71 = .ok (.aload_n 0, 1) := by decide +kernel
theorem dX6_greedyThemselves_72 : decode cX6_greedyThemselves 72 = .ok (.iload_n 1, 1) := by decide +kernel
theorem dX6_greedyThemselves_73 : decode cX6_greedyThemselves 73 = .ok (.iload 4, 2) := by decide +kernel
theorem dX6_greedyThemselves_75 : decode cX6_greedyThemselves 75 = .ok (.iadd, 1) := by decide +kernel
theorem dX6_greedyThemselves_76 : decode cX6_greedyThemselves 76 = .ok (.iload_n 3, 1) := by decide +kernel
theorem dX6_greedyThemselves_77 : decode cX6_greedyThemselves 77 = .ok (.iconst 3, 1) := by decide +kernel
theorem dX6_greedyThemselves_78 : decode cX6_greedyThemselves 78 = .ok (.invokevirtual 104, 3) := by decide +kernel
theorem dX6_greedyThemselves_81 : decode cX6_greedyThemselves 81 = .ok (.iconst 3, 1) := by decide +kernel
theorem dX6_greedyThemselves_82 : decode cX6_greedyThemselves 82 = .ok (.if_icmp .ge 9, 3) := by decide +kernel
theorem dX6_greedyThemselves_85 : decode cX6_greedyThemselves 85 = .ok (.iinc 4 1, 3) := by decide +kernel
theorem dX6_greedyThemselves_88 : decode cX6_greedyThemselves 88 = .ok (.goto (-33), 3) := by decide +kernel
theorem dX6_greedyThemselves_91 : decode cX6_greedyThemselves 91 = .ok (.iload 4, 2) := by decide +kernel
theorem dX6_greedyThemselves_93 : decode cX6_greedyThemselves 93 = .ok (.iconst 3, 1) := by decide +kernel
theorem dX6_greedyThemselves_94 : decode cX6_greedyThemselves 94 = .ok (.if_icmp .ge 11, 3) := by decide +kernel
theorem dX6_greedyThemselves_97 : decode cX6_greedyThemselves 97 = .ok (.aload_n 0, 1) := by decide +kernel
theorem dX6_greedyThemselves_98 : decode cX6_greedyThemselves 98 = .ok (.iload_n 1, 1) := by decide +kernel
theorem dX6_greedyThemselves_99 : decode cX6_greedyThemselves 99 = .ok (.iconst 1, 1) := by decide +kernel
theorem dX6_greedyThemselves_100 : decode cX6_greedyThemselves 100 = .ok (.invokevirtual 121, 3) := by decide +kernel
theorem dX6_greedyThemselves_103 : decode cX6_greedyThemselves 103 = .ok (.iconst 1, 1) := by decide +kernel
theorem dX6_greedyThemselves_104 : decode cX6_greedyThemselves 104 = .ok (.ireturn, 1) := by decide +kernel
theorem dX6_greedyThemselves_105 : decode cX6_greedyThemselves 105 = .ok (.aload_n 0, 1) := by decide +kernel
theorem dX6_greedyThemselves_106 : decode cX6_greedyThemselves 106 = .ok (.iload_n 1, 1) := by decide +kernel
theorem dX6_greedyThemselves_107 : decode cX6_greedyThemselves 107 = .ok (.iload 4, 2) := by decide +kernel
theorem dX6_greedyThemselves_109 : decode cX6_greedyThemselves 109 = .ok (.invokevirtual 118, 3) := by decide +kernel
theorem dX6_greedyThemselves_112 : decode cX6_greedyThemselves 112 = .ok (.iload 4, 2) := by decide +kernel
theorem dX6_greedyThemselves_114 : decode cX6_greedyThemselves 114 = .ok (.ireturn, 1) := by decide +kernel
theorem dX6_packAll_0 : decode cX6_packAll 0 = .ok (.aload_n 0, 1) := by decide +kernel
theorem dX6_packAll_1 : decode cX6_packAll 1 = .ok (.iconst 0, 1) := by decide +kernel
theorem dX6_packAll_2 : decode cX6_packAll 2 = .ok (.putfield 72, 3) := by decide +kernel
theorem dX6_packAll_5 : decode cX6_packAll 5 = .ok (.aload_n 0, 1) := by decide +kernel
theorem dX6_packAll_6 : decode cX6_packAll 6 = .ok (.invokevirtual 127, 3) := by decide +kernel
theorem dX6_packAll_9 : decode cX6_packAll 9 = .ok (.aload_n 0, 1) := by decide +kernel
theorem dX6_packAll_10 : decode cX6_packAll 10 = .ok (.getfield 43, 3) := by decide +kernel
theorem dX6_packAll_13 : decode cX6_packAll 13 = .ok (.iconst 2, 1) := by decide +kernel
theorem dX6_packAll_14 : decode cX6_packAll 14 = .ok (.if_icmp .ne 56, 3) := by decide +kernel
theorem dX6_packAll_17 : decode cX6_packAll 17 = .ok (.iconst 0, 1) := by decide +kernel
theorem dX6_packAll_18 : decode cX6_packAll 18 = .ok (.istore_n 2, 1) := by decide +kernel
theorem dX6_packAll_19 : decode cX6_packAll 19 = .ok (.iload_n 2, 1) := by decide +kernel
theorem dX6_packAll_20 : decode cX6_packAll 20 = .ok (.aload_n 0, 1) := by decide +kernel
theorem dX6_packAll_21 : decode cX6_packAll 21 = .ok (.getfield 61, 3) := by decide +kernel
theorem dX6_packAll_24 : decode cX6_packAll 24 = .ok (.aload_n 0, 1) := by decide +kernel
theorem dX6_packAll_25 : decode cX6_packAll 25 = .ok (.getfield 13, 3) := by decide +kernel
theorem dX6_packAll_28 : decode cX6_packAll 28 = .ok (.idiv, 1) := by decide +kernel
theorem dX6_packAll_29 : decode cX6_packAll 29 = .ok (.if_icmp .ge 28, 3) := by decide +kernel
theorem dX6_packAll_32 : decode cX6_packAll 32 = .ok (.aload_n 0, 1) := by decide +kernel
theorem dX6_packAll_33 : decode cX6_packAll 33 = .ok (.iload_n 1, 1) := by decide +kernel
theorem dX6_packAll_34 : decode cX6_packAll 34 = .ok (.iload_n 2, 1) := by decide +kernel
theorem dX6_packAll_35 : decode cX6_packAll 35 = .ok (.aload_n 0, 1) := by decide +kernel
theorem dX6_packAll_36 : decode cX6_packAll 36 = .ok (.getfield 13, 3) := by decide +kernel
theorem dX6_packAll_39 : decode cX6_packAll 39 = .ok (.imul, 1) := by decide +kernel
theorem dX6_packAll_40 : decode cX6_packAll 40 = .ok (.iload_n 2, 1) := by decide +kernel
theorem dX6_packAll_41 : decode cX6_packAll 41 = .ok (.iconst 1, 1) := by decide +kernel
theorem dX6_packAll_42 : decode cX6_packAll 42 = .ok (.iadd, 1) := by decide +kernel
theorem dX6_packAll_43 : decode cX6_packAll 43 = .ok (.aload_n 0, 1) := by decide +kernel
theorem dX6_packAll_44 : decode cX6_packAll 44 = .ok (.getfield 13, 3) := by decide +kernel
theorem dX6_packAll_47 : decode cX6_packAll 47 = .ok (.imul, 1) := by decide +kernel
theorem dX6_packAll_48 : decode cX6_packAll 48 = .ok (.invokevirtual 130, 3) := by decide +kernel
theorem dX6_packAll_51 : decode cX6_packAll 51 = .ok (.iinc 2 1, 3) := by decide +kernel
theorem dX6_packAll_54 : decode cX6_packAll 54 = .ok (.goto (-35), 3) := by decide +kernel
theorem dX6_packAll_57 : decode cX6_packAll 57 = .ok (.aload_n 0, 1) := by decide +kernel
theorem dX6_packAll_58 : decode cX6_packAll 58 = .ok (.iconst 0, 1) := by decide +kernel
theorem dX6_packAll_59 : decode cX6_packAll 59 = .ok (.invokevirtual 75, 3) := by decide +kernel
theorem dX6_packAll_62 : decode cX6_packAll 62 = .ok (.aload_n 0, 1) := by decide +kernel
theorem dX6_packAll_63 : decode cX6_packAll 63 = .ok (.iconst 1, 1) := by decide +kernel
theorem dX6_packAll_64 : decode cX6_packAll 64 = .ok (.invokevirtual 75, 3) := by decide +kernel
theorem dX6_packAll_67 : decode cX6_packAll 67 = .ok (.goto 33, 3) := by decide +kernel
theorem dX6_packAll_70 : decode cX6_packAll 70 = .ok (.aload_n 0, 1) := by decide +kernel
theorem dX6_packAll_71 : decode cX6_packAll 71 = .ok (.iload_n 1, 1) := by decide +kernel
theorem dX6_packAll_72 : decode cX6_packAll 72 = .ok (.iconst 0, 1) := by decide +kernel
theorem dX6_packAll_73 : decode cX6_packAll 73 = .ok (.aload_n 0, 1) := by decide +kernel
theorem dX6_packAll_74 : decode cX6_packAll 74 = .ok (.getfield 61, 3) := by decide +kernel
theorem dX6_packAll_77 : decode cX6_packAll 77 = .ok (.invokevirtual 130, 3) := by decide +kernel
theorem dX6_packAll_80 : decode cX6_packAll 80 = .ok (.aload_n 0, 1) := by decide +kernel
theorem dX6_packAll_81 : decode cX6_packAll 81 = .ok (.getfield 43, 3) := by decide +kernel
theorem dX6_packAll_84 : decode cX6_packAll 84 = .ok (.ifCond .ne 16, 3) := by decide +kernel
theorem dX6_packAll_87 : decode cX6_packAll 87 = .ok (.aload_n 0, 1) := by decide +kernel
theorem dX6_packAll_88 : decode cX6_packAll 88 = .ok (.aload_n 0, 1) := by decide +kernel
theorem dX6_packAll_89 : decode cX6_packAll 89 = .ok (.getfield 55, 3) := by decide +kernel
theorem dX6_packAll_92 : decode cX6_packAll 92 = .ok (.invokevirtual 75, 3) := by decide +kernel
theorem dX6_packAll_95 : decode cX6_packAll 95 = .ok (.aload_n 0, 1) := by decide +kernel
theorem dX6_packAll_96 : decode cX6_packAll 96 = .ok (.iconst 0, 1) := by decide +kernel
theorem dX6_packAll_97 : decode cX6_packAll 97 = .ok (.invokevirtual 75, 3) := by decide +kernel
theorem dX6_packAll_100 : decode cX6_packAll 100 = .ok (.return_, 1) := by decide +kernel
theorem dX6_part_0 : decode cX6_part 0 = .ok (.iload_n 1, 1) := by decide +kernel
theorem dX6_part_1 : decode cX6_part 1 = .ok (.ifCond .ne 12, 3) := by decide +kernel
theorem dX6_part_4 : decode cX6_part 4 = .ok (.aload_n 0, 1) := by decide +kernel
theorem dX6_part_5 : decode cX6_part 5 = .ok (.iload_n 2, 1) := by decide +kernel
theorem dX6_part_6 : decode cX6_part 6 = .ok (.iload_n 3, 1) := by decide +kernel
theorem dX6_part_7 : decode cX6_part 7 = .ok (.invokevirtual 134, 3) := by decide +kernel
theorem dX6_part_10 : decode cX6_part 10 = .ok (.goto 9, 3) := by decide +kernel
theorem dX6_part_13 : decode cX6_part 13 = .ok (.aload_n 0, 1) := by decide +kernel
theorem dX6_part_14 : decode cX6_part 14 = .ok (.iload_n 2, 1) := by decide +kernel
theorem dX6_part_15 : decode cX6_part 15 = .ok (.iload_n 3, 1) := by decide +kernel
theorem dX6_part_16 : decode cX6_part 16 = .ok (.invokevirtual 137, 3) := by decide +kernel
theorem dX6_part_19 : decode cX6_part 19 = .ok (.return_, 1) := by decide +kernel
theorem dX6_isWhole_0 : decode cX6_isWhole 0 = .ok (.iload_n 1, 1) := by decide +kernel
theorem dX6_isWhole_1 : decode cX6_isWhole 1 = .ok (.aload_n 0, 1) := by decide +kernel
theorem dX6_isWhole_2 : decode cX6_isWhole 2 = .ok (.getfield 43, 3) := by decide +kernel
theorem dX6_isWhole_5 : decode cX6_isWhole 5 = .ok (.iconst 2, 1) := by decide +kernel
theorem dX6_isWhole_6 : decode cX6_isWhole 6 = .ok (.if_icmp .ne 10, 3) := by decide +kernel
theorem dX6_isWhole_9 : decode cX6_isWhole 9 = .ok (.aload_n 0, 1) := by decide +kernel
theorem dX6_isWhole_10 : decode cX6_isWhole 10 = .ok (.getfield 13, 3) := by decide +kernel
theorem dX6_isWhole_13 : decode cX6_isWhole 13 = .ok (.goto 7, 3) := by decide +kernel
theorem dX6_isWhole_16 : decode cX6_isWhole 16 = .ok (.aload_n 0, 1) := by decide +kernel
theorem dX6_isWhole_17 : decode cX6_isWhole 17 = .ok (.getfield 7, 3) := by decide +kernel
theorem dX6_isWhole_20 : decode cX6_isWhole 20 = .ok (.irem, 1) := by decide +kernel
theorem dX6_isWhole_21 : decode cX6_isWhole 21 = .ok (.ifCond .ne 7, 3) := by decide +kernel
theorem dX6_isWhole_24 : decode cX6_isWhole 24 = .ok (.iconst 1, 1) := by decide +kernel
theorem dX6_isWhole_25 : decode cX6_isWhole 25 = .ok (.goto 4, 3) := by decide +kernel
theorem dX6_isWhole_28 : decode cX6_isWhole 28 = .ok (.iconst 0, 1) := by decide +kernel
theorem dX6_isWhole_29 : decode cX6_isWhole 29 = .ok (.ireturn, 1) := by decide +kernel
theorem dX6_pack_0 : decode cX6_pack 0 = .ok (.aload_n 0, 1) := by decide +kernel
theorem dX6_pack_1 : decode cX6_pack 1 = .ok (.iconst 0, 1) := by decide +kernel
theorem dX6_pack_2 : decode cX6_pack 2 = .ok (.putfield 46, 3) := by decide +kernel
theorem dX6_pack_5 : decode cX6_pack 5 = .ok (.aload_n 0, 1) := by decide +kernel
theorem dX6_pack_6 : decode cX6_pack 6 = .ok (.iload_n 1, 1) := by decide +kernel
theorem dX6_pack_7 : decode cX6_pack 7 = .ok (.invokevirtual 140, 3) := by decide +kernel
theorem dX6_pack_10 : decode cX6_pack 10 = .ok (.istore_n 2, 1) := by decide +kernel
theorem dX6_pack_11 : decode cX6_pack 11 = .ok (.iload_n 2, 1) := by decide +kernel
theorem dX6_pack_12 : decode cX6_pack 12 = .ok (.ifCond .ge 5, 3) := by decide +kernel
theorem dX6_pack_15 : decode cX6_pack 15 = .ok (.iload_n 2, 1) := by decide +kernel
theorem dX6_pack_16 : decode cX6_pack 16 = .ok (.ireturn, 1) := by decide +kernel
theorem dX6_pack_17 : decode cX6_pack 17 = .ok (.iconst 0, 1) := by decide +kernel
theorem dX6_pack_18 : decode cX6_pack 18 = .ok (.istore_n 3, 1) := by decide +kernel
theorem dX6_pack_19 : decode cX6_pack 19 = .ok (.iload_n 3, 1) := by decide +kernel
theorem dX6_pack_20 : decode cX6_pack 20 = .ok (.iload_n 2, 1) := by decide +kernel
theorem dX6_pack_21 : decode cX6_pack 21 = .ok (.if_icmp .ge 21, 3) := by decide +kernel
theorem dX6_pack_24 : decode cX6_pack 24 = .ok (.aload_n 0, 1) := by decide +kernel
theorem dX6_pack_25 : decode cX6_pack 25 = .ok (.getfield 20, 3) := by decide +kernel
theorem dX6_pack_28 : decode cX6_pack 28 = .ok (.iload_n 3, 1) := by decide +kernel
theorem dX6_pack_29 : decode cX6_pack 29 = .ok (.aload_n 0, 1) := by decide +kernel
theorem dX6_pack_30 : decode cX6_pack 30 = .ok (.getfield 33, 3) := by decide +kernel
theorem dX6_pack_33 : decode cX6_pack 33 = .ok (.iload_n 3, 1) := by decide +kernel
theorem dX6_pack_34 : decode cX6_pack 34 = .ok (.iaload, 1) := by decide +kernel
theorem dX6_pack_35 : decode cX6_pack 35 = .ok (.iastore, 1) := by decide +kernel
theorem dX6_pack_36 : decode cX6_pack 36 = .ok (.iinc 3 1, 3) := by decide +kernel
theorem dX6_pack_39 : decode cX6_pack 39 = .ok (.goto (-20), 3) := by decide +kernel
theorem dX6_pack_42 : decode cX6_pack 42 = .ok (.aload_n 0, 1) := by decide +kernel
theorem dX6_pack_43 : decode cX6_pack 43 = .ok (.iload_n 2, 1) := by decide +kernel
theorem dX6_pack_44 : decode cX6_pack 44 = .ok (.putfield 52, 3) := by decide +kernel
theorem dX6_pack_47 : decode cX6_pack 47 = .ok (.iload_n 2, 1) := by decide +kernel
theorem dX6_pack_48 : decode cX6_pack 48 = .ok (.ireturn, 1) := by decide +kernel
theorem dX6_size_0 : decode cX6_size 0 = .ok (.aload_n 0, 1) := by decide +kernel
theorem dX6_size_1 : decode cX6_size 1 = .ok (.iconst 0, 1) := by decide +kernel
theorem dX6_size_2 : decode cX6_size 2 = .ok (.putfield 46, 3) := by decide +kernel
theorem dX6_size_5 : decode cX6_size 5 = .ok (.iload_n 1, 1) := by decide +kernel
theorem dX6_size_6 : decode cX6_size 6 = .ok (.iconst 0, 1) := by decide +kernel
theorem dX6_size_7 : decode cX6_size 7 = .ok (.iconst 1, 1) := by decide +kernel
theorem dX6_size_8 : decode cX6_size 8 = .ok (.invokestatic 39, 3) := by decide +kernel
theorem dX6_size_11 : decode cX6_size 11 = .ok (.ifCond .ne 5, 3) := by decide +kernel
theorem dX6_size_14 : decode cX6_size 14 = .ok (.iconst (-1), 1) := by decide +kernel
theorem dX6_size_15 : decode cX6_size 15 = .ok (.ireturn, 1) := by decide +kernel
theorem dX6_size_16 : decode cX6_size 16 = .ok (.aload_n 0, 1) := by decide +kernel
theorem dX6_size_17 : decode cX6_size 17 = .ok (.aload_n 0, 1) := by decide +kernel
theorem dX6_size_18 : decode cX6_size 18 = .ok (.getfield 49, 3) := by decide +kernel
theorem dX6_size_21 : decode cX6_size 21 = .ok (.invokevirtual 143, 3) := by decide +kernel
theorem dX6_size_24 : decode cX6_size 24 = .ok (.ifCond .ne 6, 3) := by decide +kernel
theorem dX6_size_27 : decode cX6_size 27 = .ok (.bipush (-3), 2) := by decide +kernel
theorem dX6_size_29 : decode cX6_size 29 = .ok (.ireturn, 1) := by decide +kernel
theorem dX6_size_30 : decode cX6_size 30 = .ok (.aload_n 0, 1) := by decide +kernel
theorem dX6_size_31 : decode cX6_size 31 = .ok (.iload_n 1, 1) := by decide +kernel
theorem dX6_size_32 : decode cX6_size 32 = .ok (.invokevirtual 146, 3) := by decide +kernel
theorem dX6_size_35 : decode cX6_size 35 = .ok (.aload_n 0, 1) := by decide +kernel
theorem dX6_size_36 : decode cX6_size 36 = .ok (.getfield 72, 3) := by decide +kernel
theorem dX6_size_39 : decode cX6_size 39 = .ok (.ireturn, 1) := by decide +kernel
theorem dX6_fails_0 : decode cX6_fails 0 = .ok (.aload_n 0, 1) := by decide +kernel
theorem dX6_fails_1 : decode cX6_fails 1 = .ok (.iload_n 1, 1) := by decide +kernel
theorem dX6_fails_2 : decode cX6_fails 2 = .ok (.putfield 149, 3) := by decide +kernel
theorem dX6_fails_5 : decode cX6_fails 5 = .ok (.bipush (-10), 2) := by decide +kernel
theorem dX6_fails_7 : decode cX6_fails 7 = .ok (.iload_n 2, 1) := by decide +kernel
theorem dX6_fails_8 : decode cX6_fails 8 = .ok (.isub, 1) := by decide +kernel
theorem dX6_fails_9 : decode cX6_fails 9 = .ok (.ireturn, 1) := by decide +kernel
theorem dX6_open_0 : decode cX6_open 0 = .ok (.aload_n 0, 1) := by decide +kernel
theorem dX6_open_1 : decode cX6_open 1 = .ok (.iconst 0, 1) := by decide +kernel
theorem dX6_open_2 : decode cX6_open 2 = .ok (.putfield 46, 3) := by decide +kernel
theorem dX6_open_5 : decode cX6_open 5 = .ok (.aload_n 0, 1) := by decide +kernel
theorem dX6_open_6 : decode cX6_open 6 = .ok (.iconst 0, 1) := by decide +kernel
theorem dX6_open_7 : decode cX6_open 7 = .ok (.putfield 149, 3) := by decide +kernel
theorem dX6_open_10 : decode cX6_open 10 = .ok (.aload_n 0, 1) := by decide +kernel
theorem dX6_open_11 : decode cX6_open 11 = .ok (.iconst 0, 1) := by decide +kernel
theorem dX6_open_12 : decode cX6_open 12 = .ok (.putfield 152, 3) := by decide +kernel
theorem dX6_open_15 : decode cX6_open 15 = .ok (.aload_n 0, 1) := by decide +kernel
theorem dX6_open_16 : decode cX6_open 16 = .ok (.iconst 0, 1) := by decide +kernel
theorem dX6_open_17 : decode cX6_open 17 = .ok (.putfield 155, 3) := by decide +kernel
theorem dX6_open_20 : decode cX6_open 20 = .ok (.aload_n 0, 1) := by decide +kernel
theorem dX6_open_21 : decode cX6_open 21 = .ok (.iconst 0, 1) := by decide +kernel
theorem dX6_open_22 : decode cX6_open 22 = .ok (.putfield 158, 3) := by decide +kernel
theorem dX6_open_25 : decode cX6_open 25 = .ok (.aload_n 0, 1) := by decide +kernel
theorem dX6_open_26 : decode cX6_open 26 = .ok (.iconst 0, 1) := by decide +kernel
theorem dX6_open_27 : decode cX6_open 27 = .ok (.putfield 161, 3) := by decide +kernel
theorem dX6_open_30 : decode cX6_open 30 = .ok (.aload_n 0, 1) := by decide +kernel
theorem dX6_open_31 : decode cX6_open 31 = .ok (.iconst 0, 1) := by decide +kernel
theorem dX6_open_32 : decode cX6_open 32 = .ok (.putfield 164, 3) := by decide +kernel
theorem dX6_open_35 : decode cX6_open 35 = .ok (.iconst 0, 1) := by decide +kernel
theorem dX6_open_36 : decode cX6_open 36 = .ok (.istore_n 1, 1) := by decide +kernel
theorem dX6_open_37 : decode cX6_open 37 = .ok (.iload_n 1, 1) := by decide +kernel
theorem dX6_open_38 : decode cX6_open 38 = .ok (.sipush 256, 3) := by decide +kernel
theorem dX6_open_41 : decode cX6_open 41 = .ok (.if_icmp .ge 16, 3) := by decide +kernel
theorem dX6_open_44 : decode cX6_open 44 = .ok (.aload_n 0, 1) := by decide +kernel
theorem dX6_open_45 : decode cX6_open 45 = .ok (.getfield 36, 3) := by decide +kernel
theorem dX6_open_48 : decode cX6_open 48 = .ok (.iload_n 1, 1) := by decide +kernel
theorem dX6_open_49 : decode cX6_open 49 = .ok (.iconst 0, 1) := by decide +kernel
theorem dX6_open_50 : decode cX6_open 50 = .ok (.iastore, 1) := by decide +kernel
theorem dX6_open_51 : decode cX6_open 51 = .ok (.iinc 1 1, 3) := by decide +kernel
theorem dX6_open_54 : decode cX6_open 54 = .ok (.goto (-17), 3) := by decide +kernel
theorem dX6_open_57 : decode cX6_open 57 = .ok (.aload_n 0, 1) := by decide +kernel
theorem dX6_open_58 : decode cX6_open 58 = .ok (.getfield 164, 3) := by decide +kernel
theorem dX6_open_61 : decode cX6_open 61 = .ok (.ifCond .ne 46, 3) := by decide +kernel
theorem dX6_open_64 : decode cX6_open 64 = .ok (.aload_n 0, 1) := by decide +kernel
theorem dX6_open_65 : decode cX6_open 65 = .ok (.getfield 43, 3) := by decide +kernel
theorem dX6_open_68 : decode cX6_open 68 = .ok (.ifCond .ne 10, 3) := by decide +kernel
theorem dX6_open_71 : decode cX6_open 71 = .ok (.aload_n 0, 1) := by decide +kernel
theorem dX6_open_72 : decode cX6_open 72 = .ok (.invokevirtual 168, 3) := by decide +kernel
theorem dX6_open_75 : decode cX6_open 75 = .ok (.goto 22, 3) := by decide +kernel
theorem dX6_open_78 : decode cX6_open 78 = .ok (.aload_n 0, 1) := by decide +kernel
theorem dX6_open_79 : decode cX6_open 79 = .ok (.getfield 43, 3) := by decide +kernel
theorem dX6_open_82 : decode cX6_open 82 = .ok (.iconst 1, 1) := by decide +kernel
theorem dX6_open_83 : decode cX6_open 83 = .ok (.if_icmp .ne 10, 3) := by decide +kernel
theorem dX6_open_86 : decode cX6_open 86 = .ok (.aload_n 0, 1) := by decide +kernel
theorem dX6_open_87 : decode cX6_open 87 = .ok (.invokevirtual 171, 3) := by decide +kernel
theorem dX6_open_90 : decode cX6_open 90 = .ok (.goto 7, 3) := by decide +kernel
theorem dX6_open_93 : decode cX6_open 93 = .ok (.aload_n 0, 1) := by decide +kernel
theorem dX6_open_94 : decode cX6_open 94 = .ok (.invokevirtual 174, 3) := by decide +kernel
theorem dX6_open_97 : decode cX6_open 97 = .ok (.istore_n 1, 1) := by decide +kernel
theorem dX6_open_98 : decode cX6_open 98 = .ok (.iload_n 1, 1) := by decide +kernel
theorem dX6_open_99 : decode cX6_open 99 = .ok (.ifCond .ge 5, 3) := by decide +kernel
theorem dX6_open_102 : decode cX6_open 102 = .ok (.iload_n 1, 1) := by decide +kernel
theorem dX6_open_103 : decode cX6_open 103 = .ok (.ireturn, 1) := by decide +kernel
theorem dX6_open_104 : decode cX6_open 104 = .ok (.goto (-47), 3) := by decide +kernel
theorem dX6_open_107 : decode cX6_open 107 = .ok (.aload_n 0, 1) := by decide +kernel
theorem dX6_open_108 : decode cX6_open 108 = .ok (.getfield 155, 3) := by decide +kernel
theorem dX6_open_111 : decode cX6_open 111 = .ok (.aload_n 0, 1) := by decide +kernel
theorem dX6_open_112 : decode cX6_open 112 = .ok (.getfield 52, 3) := by decide +kernel
theorem dX6_open_115 : decode cX6_open 115 = .ok (.if_icmp .ge 13, 3) := by decide +kernel
theorem dX6_open_118 : decode cX6_open 118 = .ok (.aload_n 0, 1) := by decide +kernel
theorem dX6_open_119 : decode cX6_open 119 = .ok (.iconst 5, 1) := by decide +kernel
theorem dX6_open_120 : decode cX6_open 120 = .ok (.aload_n 0, 1) := by decide +kernel
theorem dX6_open_121 : decode cX6_open 121 = .ok (.getfield 155, 3) := by decide +kernel
theorem dX6_open_124 : decode cX6_open 124 = .ok (.invokevirtual 177, 3) := by decide +kernel
theorem dX6_open_127 : decode cX6_open 127 = .ok (.ireturn, 1) := by decide +kernel
theorem dX6_open_128 : decode cX6_open 128 = .ok (.aload_n 0, 1) := by decide +kernel
theorem dX6_open_129 : decode cX6_open 129 = .ok (.aload_n 0, 1) := by decide +kernel
theorem dX6_open_130 : decode cX6_open 130 = .ok (.getfield 152, 3) := by decide +kernel
theorem dX6_open_133 : decode cX6_open 133 = .ok (.putfield 49, 3) := by decide +kernel
theorem dX6_open_136 : decode cX6_open 136 = .ok (.iconst 0, 1) := by decide +kernel
theorem dX6_open_137 : decode cX6_open 137 = .ok (.istore_n 1, 1) := by decide +kernel
theorem dX6_open_138 : decode cX6_open 138 = .ok (.iload_n 1, 1) := by decide +kernel
theorem dX6_open_139 : decode cX6_open 139 = .ok (.aload_n 0, 1) := by decide +kernel
theorem dX6_open_140 : decode cX6_open 140 = .ok (.getfield 152, 3) := by decide +kernel
theorem dX6_open_143 : decode cX6_open 143 = .ok (.if_icmp .ge 21, 3) := by decide +kernel
theorem dX6_open_146 : decode cX6_open 146 = .ok (.aload_n 0, 1) := by decide +kernel
theorem dX6_open_147 : decode cX6_open 147 = .ok (.getfield 16, 3) := by decide +kernel
theorem dX6_open_150 : decode cX6_open 150 = .ok (.iload_n 1, 1) := by decide +kernel
theorem dX6_open_151 : decode cX6_open 151 = .ok (.aload_n 0, 1) := by decide +kernel
theorem dX6_open_152 : decode cX6_open 152 = .ok (.getfield 36, 3) := by decide +kernel
theorem dX6_open_155 : decode cX6_open 155 = .ok (.iload_n 1, 1) := by decide +kernel
theorem dX6_open_156 : decode cX6_open 156 = .ok (.iaload, 1) := by decide +kernel
theorem dX6_open_157 : decode cX6_open 157 = .ok (.iastore, 1) := by decide +kernel
theorem dX6_open_158 : decode cX6_open 158 = .ok (.iinc 1 1, 3) := by decide +kernel
theorem dX6_open_161 : decode cX6_open 161 = .ok (.goto (-23), 3) := by decide +kernel
theorem dX6_open_164 : decode cX6_open 164 = .ok (.iconst 1, 1) := by decide +kernel
theorem dX6_open_165 : decode cX6_open 165 = .ok (.istore_n 1, 1) := by decide +kernel
theorem dX6_open_166 : decode cX6_open 166 = .ok (.aload_n 0, 1) := by decide +kernel
theorem dX6_open_167 : decode cX6_open 167 = .ok (.getfield 58, 3) := by decide +kernel
theorem dX6_open_170 : decode cX6_open 170 = .ok (.iconst 1, 1) := by decide +kernel
theorem dX6_open_171 : decode cX6_open 171 = .ok (.if_icmp .ne 87, 3) := by decide +kernel
theorem dX6_open_174 : decode cX6_open 174 = .ok (.iload_n 1, 1) := by decide +kernel
theorem dX6_open_175 : decode cX6_open 175 = .ok (.aload_n 0, 1) := by decide +kernel
theorem dX6_open_176 : decode cX6_open 176 = .ok (.getfield 152, 3) := by decide +kernel
theorem dX6_open_179 : decode cX6_open 179 = .ok (.aload_n 0, 1) := by decide +kernel
theorem dX6_open_180 : decode cX6_open 180 = .ok (.getfield 7, 3) := by decide +kernel
theorem dX6_open_183 : decode cX6_open 183 = .ok (.idiv, 1) := by decide +kernel
theorem dX6_open_184 : decode cX6_open 184 = .ok (.if_icmp .ge 74, 3) := by decide +kernel
theorem dX6_open_187 : decode cX6_open 187 = .ok (.aload_n 0, 1) := by decide +kernel
theorem dX6_open_188 : decode cX6_open 188 = .ok (.iload_n 1, 1) := by decide +kernel
theorem dX6_open_189 : decode cX6_open 189 = .ok (.invokevirtual 64, 3) := by decide +kernel
theorem dX6_open_192 : decode cX6_open 192 = .ok (.aload_n 0, 1) := by decide +kernel
theorem dX6_open_193 : decode cX6_open 193 = .ok (.iload_n 1, 1) := by decide +kernel
theorem dX6_open_194 : decode cX6_open 194 = .ok (.iconst 1, 1) := by decide +kernel
theorem dX6_open_195 : decode cX6_open 195 = .ok (.isub, 1) := by decide +kernel
theorem dX6_open_196 : decode cX6_open 196 = .ok (.invokevirtual 64, 3) := by decide +kernel
theorem dX6_open_199 : decode cX6_open 199 = .ok (.ladd, 1) := by decide +kernel
theorem dX6_open_200 : decode cX6_open 200 = .ok (.lstore_n 2, 1) := by decide +kernel
theorem dX6_open_201 : decode cX6_open 201 = .ok (.iconst 0, 1) := by decide +kernel
theorem dX6_open_202 : decode cX6_open 202 = .ok (.istore 4, 2) := by decide +kernel
theorem dX6_open_204 : decode cX6_open 204 = .ok (.iload 4, 2) := by decide +kernel
theorem dX6_open_206 : decode cX6_open 206 = .ok (.aload_n 0, 1) := by decide +kernel
theorem dX6_open_207 : decode cX6_open 207 = .ok (.getfield 7, 3) := by decide +kernel
theorem dX6_open_210 : decode cX6_open 210 = .ok (.if_icmp .ge 42, 3) := by decide +kernel
theorem dX6_open_213 : decode cX6_open 213 = .ok (.aload_n 0, 1) := by decide +kernel
theorem dX6_open_214 : decode cX6_open 214 = .ok (.getfield 16, 3) := by decide +kernel
theorem dX6_open_217 : decode cX6_open 217 = .ok (.aload_n 0, 1) := by decide +kernel
theorem dX6_open_218 : decode cX6_open 218 = .ok (.getfield 7, 3) := by decide +kernel
theorem dX6_open_221 : decode cX6_open 221 = .ok (.iload_n 1, 1) := by decide +kernel
theorem dX6_open_222 : decode cX6_open 222 = .ok (.imul, 1) := by decide +kernel
theorem dX6_open_223 : decode cX6_open 223 = .ok (.iload 4, 2) := by decide +kernel
theorem dX6_open_225 : decode cX6_open 225 = .ok (.iadd, 1) := by decide +kernel
theorem dX6_open_226 : decode cX6_open 226 = .ok (.lload_n 2, 1) := by decide +kernel
theorem dX6_open_227 : decode cX6_open 227 = .ok (.bipush 8, 2) := by decide +kernel
theorem dX6_open_229 : decode cX6_open 229 = .ok (.aload_n 0, 1) := by decide +kernel
theorem dX6_open_230 : decode cX6_open 230 = .ok (.getfield 7, 3) := by decide +kernel
theorem dX6_open_233 : decode cX6_open 233 = .ok (.iconst 1, 1) := by decide +kernel
theorem dX6_open_234 : decode cX6_open 234 = .ok (.isub, 1) := by decide +kernel
theorem dX6_open_235 : decode cX6_open 235 = .ok (.iload 4, 2) := by decide +kernel
theorem dX6_open_237 : decode cX6_open 237 = .ok (.isub, 1) := by decide +kernel
theorem dX6_open_238 : decode cX6_open 238 = .ok (.imul, 1) := by decide +kernel
theorem dX6_open_239 : decode cX6_open 239 = .ok (.lshr, 1) := by decide +kernel
theorem dX6_open_240 : decode cX6_open 240 = .ok (.ldc2_w 180, 3) := by decide +kernel
theorem dX6_open_243 : decode cX6_open 243 = .ok (.land, 1) := by decide +kernel
theorem dX6_open_244 : decode cX6_open 244 = .ok (.l2i, 1) := by decide +kernel
theorem dX6_open_245 : decode cX6_open 245 = .ok (.iastore, 1) := by decide +kernel
theorem dX6_open_246 : decode cX6_open 246 = .ok (.iinc 4 1, 3) := by decide +kernel
theorem dX6_open_249 : decode cX6_open 249 = .ok (.goto (-45), 3) := by decide +kernel
theorem dX6_open_252 : decode cX6_open 252 = .ok (.iinc 1 1, 3) := by decide +kernel
theorem dX6_open_255 : decode cX6_open 255 = .ok (.goto (-89), 3) := by decide +kernel
theorem dX6_open_258 : decode cX6_open 258 = .ok (.aload_n 0, 1) := by decide +kernel
theorem dX6_open_259 : decode cX6_open 259 = .ok (.getfield 49, 3) := by decide +kernel
theorem dX6_open_262 : decode cX6_open 262 = .ok (.ireturn, 1) := by decide +kernel
theorem dX6_puts_0 : decode cX6_puts 0 = .ok (.aload_n 0, 1) := by decide +kernel
theorem dX6_puts_1 : decode cX6_puts 1 = .ok (.getfield 152, 3) := by decide +kernel
theorem dX6_puts_4 : decode cX6_puts 4 = .ok (.iload_n 2, 1) := by decide +kernel
theorem dX6_puts_5 : decode cX6_puts 5 = .ok (.iload_n 3, 1) := by decide +kernel
theorem dX6_puts_6 : decode cX6_puts 6 = .ok (.imul, 1) := by decide +kernel
theorem dX6_puts_7 : decode cX6_puts 7 = .ok (.iadd, 1) := by decide +kernel
theorem dX6_puts_8 : decode cX6_puts 8 = .ok (.sipush 240, 3) := by decide +kernel
theorem dX6_puts_11 : decode cX6_puts 11 = .ok (.if_icmp .le 13, 3) := by decide +kernel
theorem dX6_puts_14 : decode cX6_puts 14 = .ok (.aload_n 0, 1) := by decide +kernel
theorem dX6_puts_15 : decode cX6_puts 15 = .ok (.iconst 4, 1) := by decide +kernel
theorem dX6_puts_16 : decode cX6_puts 16 = .ok (.aload_n 0, 1) := by decide +kernel
theorem dX6_puts_17 : decode cX6_puts 17 = .ok (.getfield 155, 3) := by decide +kernel
theorem dX6_puts_20 : decode cX6_puts 20 = .ok (.invokevirtual 177, 3) := by decide +kernel
theorem dX6_puts_23 : decode cX6_puts 23 = .ok (.ireturn, 1) := by decide +kernel
theorem dX6_puts_24 : decode cX6_puts 24 = .ok (.iconst 0, 1) := by decide +kernel
theorem dX6_puts_25 : decode cX6_puts 25 = .ok (.istore 4, 2) := by decide +kernel
theorem dX6_puts_27 : decode cX6_puts 27 = .ok (.iload 4, 2) := by decide +kernel
theorem dX6_puts_29 : decode cX6_puts 29 = .ok (.iload_n 3, 1) := by decide +kernel
theorem dX6_puts_30 : decode cX6_puts 30 = .ok (.if_icmp .ge 52, 3) := by decide +kernel
theorem dX6_puts_33 : decode cX6_puts 33 = .ok (.iconst 0, 1) := by decide +kernel
theorem dX6_puts_34 : decode cX6_puts 34 = .ok (.istore 5, 2) := by decide +kernel
theorem dX6_puts_36 : decode cX6_puts 36 = .ok (.iload 5, 2) := by decide +kernel
theorem dX6_puts_38 : decode cX6_puts 38 = .ok (.iload_n 2, 1) := by decide +kernel
theorem dX6_puts_39 : decode cX6_puts 39 = .ok (.if_icmp .ge 37, 3) := by decide +kernel
theorem dX6_puts_42 : decode cX6_puts 42 = .ok (.aload_n 0, 1) := by decide +kernel
theorem dX6_puts_43 : decode cX6_puts 43 = .ok (.getfield 36, 3) := by decide +kernel
theorem dX6_puts_46 : decode cX6_puts 46 = .ok (.aload_n 0, 1) := by decide +kernel
theorem dX6_puts_47 : decode cX6_puts 47 = .ok (.getfield 152, 3) := by decide +kernel
theorem dX6_puts_50 : decode cX6_puts 50 = .ok (.aload_n 0, 1) := by decide +kernel
theorem dX6_puts_51 : decode cX6_puts 51 = .ok (.getfield 20, 3) := by decide +kernel
theorem dX6_puts_54 : decode cX6_puts 54 = .ok (.iload_n 1, 1) := by decide +kernel
theorem dX6_puts_55 : decode cX6_puts 55 = .ok (.iload 5, 2) := by decide +kernel
theorem dX6_puts_57 : decode cX6_puts 57 = .ok (.iadd, 1) := by decide +kernel
theorem dX6_puts_58 : decode cX6_puts 58 = .ok (.iaload, 1) := by decide +kernel
theorem dX6_puts_59 : decode cX6_puts 59 = .ok (.iastore, 1) := by decide +kernel
theorem dX6_puts_60 : decode cX6_puts 60 = .ok (.aload_n 0, 1) := by decide +kernel
theorem dX6_puts_61 : decode cX6_puts 61 = .ok (.dup, 1) := by decide +kernel
theorem dX6_puts_62 : decode cX6_puts 62 = .ok (.getfield 152, 3) := by decide +kernel
theorem dX6_puts_65 : decode cX6_puts 65 = .ok (.iconst 1, 1) := by decide +kernel
theorem dX6_puts_66 : decode cX6_puts 66 = .ok (.iadd, 1) := by decide +kernel
theorem dX6_puts_67 : decode cX6_puts 67 = .ok (.putfield 152, 3) := by decide +kernel
theorem dX6_puts_70 : decode cX6_puts 70 = .ok (.iinc 5 1, 3) := by decide +kernel
theorem dX6_puts_73 : decode cX6_puts 73 = .ok (.goto (-37), 3) := by decide +kernel
theorem dX6_puts_76 : decode cX6_puts 76 = .ok (.iinc 4 1, 3) := by decide +kernel
theorem dX6_puts_79 : decode cX6_puts 79 = .ok (.goto (-52), 3) := by decide +kernel
theorem dX6_puts_82 : decode cX6_puts 82 = .ok (.iconst 0, 1) := by decide +kernel
theorem dX6_puts_83 : decode cX6_puts 83 = .ok (.ireturn, 1) := by decide +kernel
theorem dX6_openMarked_0 : decode cX6_openMarked 0 = .ok (.aload_n 0, 1) := by decide +kernel
theorem dX6_openMarked_1 : decode cX6_openMarked 1 = .ok (.getfield 155, 3) := by decide +kernel
theorem dX6_openMarked_4 : decode cX6_openMarked 4 = .ok (.aload_n 0, 1) := by decide +kernel
theorem dX6_openMarked_5 : decode cX6_openMarked 5 = .ok (.getfield 52, 3) := by decide +kernel
theorem dX6_openMarked_8 : decode cX6_openMarked 8 = .ok (.if_icmp .ne 13, 3) := by decide +kernel
theorem dX6_openMarked_11 : decode cX6_openMarked 11 = .ok (.aload_n 0, 1) := by decide +kernel
theorem dX6_openMarked_12 : decode cX6_openMarked 12 = .ok (.iconst 1, 1) := by decide +kernel
theorem dX6_openMarked_13 : decode cX6_openMarked 13 = .ok (.aload_n 0, 1) := by decide +kernel
theorem dX6_openMarked_14 : decode cX6_openMarked 14 = .ok (.getfield 155, 3) := by decide +kernel
theorem dX6_openMarked_17 : decode cX6_openMarked 17 = .ok (.invokevirtual 177, 3) := by decide +kernel
theorem dX6_openMarked_20 : decode cX6_openMarked 20 = .ok (.ireturn, 1) := by decide +kernel
theorem dX6_openMarked_21 : decode cX6_openMarked 21 = .ok (.aload_n 0, 1) := by decide +kernel
theorem dX6_openMarked_22 : decode cX6_openMarked 22 = .ok (.getfield 20, 3) := by decide +kernel
theorem dX6_openMarked_25 : decode cX6_openMarked 25 = .ok (.aload_n 0, 1) := by decide +kernel
theorem dX6_openMarked_26 : decode cX6_openMarked 26 = .ok (.getfield 155, 3) := by decide +kernel
theorem dX6_openMarked_29 : decode cX6_openMarked 29 = .ok (.iaload, 1) := by decide +kernel
theorem dX6_openMarked_30 : decode cX6_openMarked 30 = .ok (.aload_n 0, 1) := by decide +kernel
theorem dX6_openMarked_31 : decode cX6_openMarked 31 = .ok (.getfield 55, 3) := by decide +kernel
theorem dX6_openMarked_34 : decode cX6_openMarked 34 = .ok (.if_icmp .ne 7, 3) := by decide +kernel
theorem dX6_openMarked_37 : decode cX6_openMarked 37 = .ok (.iconst 1, 1) := by decide +kernel
theorem dX6_openMarked_38 : decode cX6_openMarked 38 = .ok (.goto 4, 3) := by decide +kernel
theorem dX6_openMarked_41 : decode cX6_openMarked 41 = .ok (.iconst 0, 1) := by decide +kernel
theorem dX6_openMarked_42 : decode cX6_openMarked 42 = .ok (.istore_n 1, 1) := by decide +kernel
theorem dX6_openMarked_43 : decode cX6_openMarked 43 = .ok (.iload_n 1, 1) := by decide +kernel
theorem dX6_openMarked_44 : decode cX6_openMarked 44 = .ok (.ifCond .eq 47, 3) := by decide +kernel
theorem dX6_openMarked_47 : decode cX6_openMarked 47 = .ok (.aload_n 0, 1) := by decide +kernel
theorem dX6_openMarked_48 : decode cX6_openMarked 48 = .ok (.getfield 155, 3) := by decide +kernel
theorem dX6_openMarked_51 : decode cX6_openMarked 51 = .ok (.iconst 1, 1) := by decide +kernel
theorem dX6_openMarked_52 : decode cX6_openMarked 52 = .ok (.iadd, 1) := by decide +kernel
theorem dX6_openMarked_53 : decode cX6_openMarked 53 = .ok (.aload_n 0, 1) := by decide +kernel
theorem dX6_openMarked_54 : decode cX6_openMarked 54 = .ok (.getfield 52, 3) := by decide +kernel
theorem dX6_openMarked_57 : decode cX6_openMarked 57 = .ok (.if_icmp .ge 34, 3) := by decide +kernel
theorem dX6_openMarked_60 : decode cX6_openMarked 60 = .ok (.aload_n 0, 1) := by decide +kernel
theorem dX6_openMarked_61 : decode cX6_openMarked 61 = .ok (.getfield 20, 3) := by decide +kernel
theorem dX6_openMarked_64 : decode cX6_openMarked 64 = .ok (.aload_n 0, 1) := by decide +kernel
theorem dX6_openMarked_65 : decode cX6_openMarked 65 = .ok (.getfield 155, 3) := by decide +kernel
theorem dX6_openMarked_68 : decode cX6_openMarked 68 = .ok (.iconst 1, 1) := by decide +kernel
theorem dX6_openMarked_69 : decode cX6_openMarked 69 = .ok (.iadd, 1) := by decide +kernel
theorem dX6_openMarked_70 : decode cX6_openMarked 70 = .ok (.iaload, 1) := by decide +kernel
theorem dX6_openMarked_71 : decode cX6_openMarked 71 = .ok (.ifCond .ne 20, 3) := by decide +kernel
theorem dX6_openMarked_74 : decode cX6_openMarked 74 = .ok (.aload_n 0, 1) := by decide +kernel
theorem dX6_openMarked_75 : decode cX6_openMarked 75 = .ok (.dup, 1) := by decide +kernel
theorem dX6_openMarked_76 : decode cX6_openMarked 76 = .ok (.getfield 155, 3) := by decide +kernel
theorem dX6_openMarked_79 : decode cX6_openMarked 79 = .ok (.iconst 2, 1) := by decide +kernel
theorem dX6_openMarked_80 : decode cX6_openMarked 80 = .ok (.iadd, 1) := by decide +kernel
theorem dX6_openMarked_81 : decode cX6_openMarked 81 = .ok (.putfield 155, 3) := by decide +kernel
theorem dX6_openMarked_84 : decode cX6_openMarked 84 = .ok (.aload_n 0, 1) := by decide +kernel
theorem dX6_openMarked_85 : decode cX6_openMarked 85 = .ok (.iconst 1, 1) := by decide +kernel
theorem dX6_openMarked_86 : decode cX6_openMarked 86 = .ok (.putfield 164, 3) := by decide +kernel
theorem dX6_openMarked_89 : decode cX6_openMarked 89 = .ok (.iconst 0, 1) := by decide +kernel
theorem dX6_openMarked_90 : decode cX6_openMarked 90 = .ok (.ireturn, 1) := by decide +kernel
theorem dX6_openMarked_91 : decode cX6_openMarked 91 = .ok (.iload_n 1, 1) := by decide +kernel
theorem dX6_openMarked_92 : decode cX6_openMarked 92 = .ok (.ifCond .eq 12, 3) := by decide +kernel
theorem dX6_openMarked_95 : decode cX6_openMarked 95 = .ok (.aload_n 0, 1) := by decide +kernel
theorem dX6_openMarked_96 : decode cX6_openMarked 96 = .ok (.getfield 155, 3) := by decide +kernel
theorem dX6_openMarked_99 : decode cX6_openMarked 99 = .ok (.iconst 2, 1) := by decide +kernel
theorem dX6_openMarked_100 : decode cX6_openMarked 100 = .ok (.iadd, 1) := by decide +kernel
theorem dX6_openMarked_101 : decode cX6_openMarked 101 = .ok (.goto 7, 3) := by decide +kernel
theorem dX6_openMarked_104 : decode cX6_openMarked 104 = .ok (.aload_n 0, 1) := by decide +kernel
theorem dX6_openMarked_105 : decode cX6_openMarked 105 = .ok (.getfield 155, 3) := by decide +kernel
theorem dX6_openMarked_108 : decode cX6_openMarked 108 = .ok (.istore_n 2, 1) := by decide +kernel
theorem dX6_openMarked_109 : decode cX6_openMarked 109 = .ok (.iload_n 2, 1) := by decide +kernel
theorem dX6_openMarked_110 : decode cX6_openMarked 110 = .ok (.aload_n 0, 1) := by decide +kernel
theorem dX6_openMarked_111 : decode cX6_openMarked 111 = .ok (.getfield 7, 3) := by decide +kernel
theorem dX6_openMarked_114 : decode cX6_openMarked 114 = .ok (.iadd, 1) := by decide +kernel
theorem dX6_openMarked_115 : decode cX6_openMarked 115 = .ok (.aload_n 0, 1) := by decide +kernel
theorem dX6_openMarked_116 : decode cX6_openMarked 116 = .ok (.getfield 52, 3) := by decide +kernel
theorem dX6_openMarked_119 : decode cX6_openMarked 119 = .ok (.if_icmp .le 13, 3) := by decide +kernel
theorem dX6_openMarked_122 : decode cX6_openMarked 122 = .ok (.aload_n 0, 1) := by decide +kernel
theorem dX6_openMarked_123 : decode cX6_openMarked 123 = .ok (.iconst 2, 1) := by decide +kernel
theorem dX6_openMarked_124 : decode cX6_openMarked 124 = .ok (.aload_n 0, 1) := by decide +kernel
theorem dX6_openMarked_125 : decode cX6_openMarked 125 = .ok (.getfield 155, 3) := by decide +kernel
theorem dX6_openMarked_128 : decode cX6_openMarked 128 = .ok (.invokevirtual 177, 3) := by decide +kernel
theorem dX6_openMarked_131 : decode cX6_openMarked 131 = .ok (.ireturn, 1) := by decide +kernel
theorem dX6_openMarked_132 : decode cX6_openMarked 132 = .ok (.aload_n 0, 1) := by decide +kernel
theorem dX6_openMarked_133 : decode cX6_openMarked 133 = .ok (.iload_n 2, 1) := by decide +kernel
theorem dX6_openMarked_134 : decode cX6_openMarked 134 = .ok (.aload_n 0, 1) := by decide +kernel
theorem dX6_openMarked_135 : decode cX6_openMarked 135 = .ok (.getfield 7, 3) := by decide +kernel
theorem dX6_openMarked_138 : decode cX6_openMarked 138 = .ok (.iload_n 1, 1) := by decide +kernel
theorem dX6_openMarked_139 : decode cX6_openMarked 139 = .ok (.ifCond .eq 17, 3) := by decide +kernel
theorem dX6_openMarked_142 : decode cX6_openMarked 142 = .ok (.aload_n 0, 1) := by decide +kernel
theorem dX6_openMarked_143 : decode cX6_openMarked 143 = .ok (.getfield 20, 3) := by decide +kernel
theorem dX6_openMarked_146 : decode cX6_openMarked 146 = .ok (.aload_n 0, 1) := by decide +kernel
theorem dX6_openMarked_147 : decode cX6_openMarked 147 = .ok (.getfield 155, 3) := by decide +kernel
theorem dX6_openMarked_150 : decode cX6_openMarked 150 = .ok (.iconst 1, 1) := by decide +kernel
theorem dX6_openMarked_151 : decode cX6_openMarked 151 = .ok (.iadd, 1) := by decide +kernel
theorem dX6_openMarked_152 : decode cX6_openMarked 152 = .ok (.iaload, 1) := by decide +kernel
theorem dX6_openMarked_153 : decode cX6_openMarked 153 = .ok (.goto 4, 3) := by decide +kernel
theorem dX6_openMarked_156 : decode cX6_openMarked 156 = .ok (.iconst 1, 1) := by decide +kernel
theorem dX6_openMarked_157 : decode cX6_openMarked 157 = .ok (.invokevirtual 182, 3) := by decide +kernel
theorem dX6_openMarked_160 : decode cX6_openMarked 160 = .ok (.istore_n 3, 1) := by decide +kernel
theorem dX6_openMarked_161 : decode cX6_openMarked 161 = .ok (.aload_n 0, 1) := by decide +kernel
theorem dX6_openMarked_162 : decode cX6_openMarked 162 = .ok (.iload_n 3, 1) := by decide +kernel
theorem dX6_openMarked_163 : decode cX6_openMarked 163 = .ok (.ifCond .ge 10, 3) := by decide +kernel
theorem dX6_openMarked_166 : decode cX6_openMarked 166 = .ok (.aload_n 0, 1) := by decide +kernel
theorem dX6_openMarked_167 : decode cX6_openMarked 167 = .ok (.getfield 155, 3) := by decide +kernel
theorem dX6_openMarked_170 : decode cX6_openMarked 170 = .ok (.goto 9, 3) := by decide +kernel
theorem dX6_openMarked_173 : decode cX6_openMarked 173 = .ok (.iload_n 2, 1) := by decide +kernel
theorem dX6_openMarked_174 : decode cX6_openMarked 174 = .ok (.aload_n 0, 1) := by decide +kernel
theorem dX6_openMarked_175 : decode cX6_openMarked 175 = .ok (.getfield 7, 3) := by decide +kernel
theorem dX6_openMarked_178 : decode cX6_openMarked 178 = .ok (.iadd, 1) := by decide +kernel
theorem dX6_openMarked_179 : decode cX6_openMarked 179 = .ok (.putfield 155, 3) := by decide +kernel
theorem dX6_openMarked_182 : decode cX6_openMarked 182 = .ok (.iload_n 3, 1) := by decide +kernel
theorem dX6_openMarked_183 : decode cX6_openMarked 183 = .ok (.ireturn, 1) := by decide +kernel
theorem dX6_openSigned_0 : decode cX6_openSigned 0 = .ok (.aload_n 0, 1) := by decide +kernel
theorem dX6_openSigned_1 : decode cX6_openSigned 1 = .ok (.getfield 155, 3) := by decide +kernel
theorem dX6_openSigned_4 : decode cX6_openSigned 4 = .ok (.aload_n 0, 1) := by decide +kernel
theorem dX6_openSigned_5 : decode cX6_openSigned 5 = .ok (.getfield 52, 3) := by decide +kernel
theorem dX6_openSigned_8 : decode cX6_openSigned 8 = .ok (.if_icmp .ne 10, 3) := by decide +kernel
theorem dX6_openSigned_11 : decode cX6_openSigned 11 = .ok (.aload_n 0, 1) := by decide +kernel
theorem dX6_openSigned_12 : decode cX6_openSigned 12 = .ok (.iconst 1, 1) := by decide +kernel
theorem dX6_openSigned_13 : decode cX6_openSigned 13 = .ok (.putfield 164, 3) := by decide +kernel
theorem dX6_openSigned_16 : decode cX6_openSigned 16 = .ok (.iconst 0, 1) := by decide +kernel
theorem dX6_openSigned_17 : decode cX6_openSigned 17 = .ok (.ireturn, 1) := by decide +kernel
theorem dX6_openSigned_18 : decode cX6_openSigned 18 = .ok (.aload_n 0, 1) := by decide +kernel
theorem dX6_openSigned_19 : decode cX6_openSigned 19 = .ok (.getfield 20, 3) := by decide +kernel
theorem dX6_openSigned_22 : decode cX6_openSigned 22 = .ok (.aload_n 0, 1) := by decide +kernel
theorem dX6_openSigned_23 : decode cX6_openSigned 23 = .ok (.getfield 155, 3) := by decide +kernel
theorem dX6_openSigned_26 : decode cX6_openSigned 26 = .ok (.iaload, 1) := by decide +kernel
theorem dX6_openSigned_27 : decode cX6_openSigned 27 = .ok (.sipush 128, 3) := by decide +kernel
theorem dX6_openSigned_30 : decode cX6_openSigned 30 = .ok (.if_icmp .ge 15, 3) := by decide +kernel
theorem dX6_openSigned_33 : decode cX6_openSigned 33 = .ok (.aload_n 0, 1) := by decide +kernel
theorem dX6_openSigned_34 : decode cX6_openSigned 34 = .ok (.getfield 20, 3) := by decide +kernel
theorem dX6_openSigned_37 : decode cX6_openSigned 37 = .ok (.aload_n 0, 1) := by decide +kernel
theorem dX6_openSigned_38 : decode cX6_openSigned 38 = .ok (.getfield 155, 3) := by decide +kernel
theorem dX6_openSigned_41 : decode cX6_openSigned 41 = .ok (.iaload, 1) := by decide +kernel
theorem dX6_openSigned_42 : decode cX6_openSigned 42 = .ok (.goto 16, 3) := by decide +kernel
theorem dX6_openSigned_45 : decode cX6_openSigned 45 = .ok (.aload_n 0, 1) := by decide +kernel
theorem dX6_openSigned_46 : decode cX6_openSigned 46 = .ok (.getfield 20, 3) := by decide +kernel
theorem dX6_openSigned_49 : decode cX6_openSigned 49 = .ok (.aload_n 0, 1) := by decide +kernel
theorem dX6_openSigned_50 : decode cX6_openSigned 50 = .ok (.getfield 155, 3) := by decide +kernel
theorem dX6_openSigned_53 : decode cX6_openSigned 53 = .ok (.iaload, 1) := by decide +kernel
theorem dX6_openSigned_54 : decode cX6_openSigned 54 = .ok (.sipush 256, 3) := by decide +kernel
theorem dX6_openSigned_57 : decode cX6_openSigned 57 = .ok (.isub, 1) := by decide +kernel
theorem dX6_openSigned_58 : decode cX6_openSigned 58 = .ok (.istore_n 1, 1) := by decide +kernel
theorem dX6_openSigned_59 : decode cX6_openSigned 59 = .ok (.iload_n 1, 1) := by decide +kernel
theorem dX6_openSigned_60 : decode cX6_openSigned 60 = .ok (.bipush (-128), 2) := by decide +kernel
theorem dX6_openSigned_62 : decode cX6_openSigned 62 = .ok (.if_icmp .ne 15, 3) := by decide +kernel
theorem dX6_openSigned_65 : decode cX6_openSigned 65 = .ok (.aload_n 0, 1) := by decide +kernel
theorem dX6_openSigned_66 : decode cX6_openSigned 66 = .ok (.dup, 1) := by decide +kernel
theorem dX6_openSigned_67 : decode cX6_openSigned 67 = .ok (.getfield 155, 3) := by decide +kernel
theorem dX6_openSigned_70 : decode cX6_openSigned 70 = .ok (.iconst 1, 1) := by decide +kernel
theorem dX6_openSigned_71 : decode cX6_openSigned 71 = .ok (.iadd, 1) := by decide +kernel
theorem dX6_openSigned_72 : decode cX6_openSigned 72 = .ok (.putfield 155, 3) := by decide +kernel
theorem dX6_openSigned_75 : decode cX6_openSigned 75 = .ok (.iconst 0, 1) := by decide +kernel
theorem dX6_openSigned_76 : decode cX6_openSigned 76 = .ok (.ireturn, 1) := by decide +kernel
theorem dX6_openSigned_77 : decode cX6_openSigned 77 = .ok (.iload_n 1, 1) := by decide +kernel
theorem dX6_openSigned_78 : decode cX6_openSigned 78 = .ok (.ifCond .ge 10, 3) := by decide +kernel
theorem dX6_openSigned_81 : decode cX6_openSigned 81 = .ok (.aload_n 0, 1) := by decide +kernel
theorem dX6_openSigned_82 : decode cX6_openSigned 82 = .ok (.getfield 7, 3) := by decide +kernel
theorem dX6_openSigned_85 : decode cX6_openSigned 85 = .ok (.goto 11, 3) := by decide +kernel
theorem dX6_openSigned_88 : decode cX6_openSigned 88 = .ok (.iload_n 1, 1) := by decide +kernel
theorem dX6_openSigned_89 : decode cX6_openSigned 89 = .ok (.iconst 1, 1) := by decide +kernel
theorem dX6_openSigned_90 : decode cX6_openSigned 90 = .ok (.iadd, 1) := by decide +kernel
theorem dX6_openSigned_91 : decode cX6_openSigned 91 = .ok (.aload_n 0, 1) := by decide +kernel
theorem dX6_openSigned_92 : decode cX6_openSigned 92 = .ok (.getfield 7, 3) := by decide +kernel
theorem dX6_openSigned_95 : decode cX6_openSigned 95 = .ok (.imul, 1) := by decide +kernel
theorem dX6_openSigned_96 : decode cX6_openSigned 96 = .ok (.istore_n 2, 1) := by decide +kernel
theorem dX6_openSigned_97 : decode cX6_openSigned 97 = .ok (.aload_n 0, 1) := by decide +kernel
theorem dX6_openSigned_98 : decode cX6_openSigned 98 = .ok (.getfield 155, 3) := by decide +kernel
theorem dX6_openSigned_101 : decode cX6_openSigned 101 = .ok (.iconst 1, 1) := by decide +kernel
theorem dX6_openSigned_102 : decode cX6_openSigned 102 = .ok (.iadd, 1) := by decide +kernel
theorem dX6_openSigned_103 : decode cX6_openSigned 103 = .ok (.iload_n 2, 1) := by decide +kernel
theorem dX6_openSigned_104 : decode cX6_openSigned 104 = .ok (.iadd, 1) := by decide +kernel
theorem dX6_openSigned_105 : decode cX6_openSigned 105 = .ok (.aload_n 0, 1) := by decide +kernel
theorem dX6_openSigned_106 : decode cX6_openSigned 106 = .ok (.getfield 52, 3) := by decide +kernel
theorem dX6_openSigned_109 : decode cX6_openSigned 109 = .ok (.if_icmp .le 13, 3) := by decide +kernel
theorem dX6_openSigned_112 : decode cX6_openSigned 112 = .ok (.aload_n 0, 1) := by decide +kernel
theorem dX6_openSigned_113 : decode cX6_openSigned 113 = .ok (.iconst 2, 1) := by decide +kernel
theorem dX6_openSigned_114 : decode cX6_openSigned 114 = .ok (.aload_n 0, 1) := by decide +kernel
theorem dX6_openSigned_115 : decode cX6_openSigned 115 = .ok (.getfield 155, 3) := by decide +kernel
theorem dX6_openSigned_118 : decode cX6_openSigned 118 = .ok (.invokevirtual 177, 3) := by decide +kernel
theorem dX6_openSigned_121 : decode cX6_openSigned 121 = .ok (.ireturn, 1) := by decide +kernel
theorem dX6_openSigned_122 : decode cX6_openSigned 122 = .ok (.aload_n 0, 1) := by decide +kernel
theorem dX6_openSigned_123 : decode cX6_openSigned 123 = .ok (.aload_n 0, 1) := by decide +kernel
theorem dX6_openSigned_124 : decode cX6_openSigned 124 = .ok (.getfield 155, 3) := by decide +kernel
theorem dX6_openSigned_127 : decode cX6_openSigned 127 = .ok (.iconst 1, 1) := by decide +kernel
theorem dX6_openSigned_128 : decode cX6_openSigned 128 = .ok (.iadd, 1) := by decide +kernel
theorem dX6_openSigned_129 : decode cX6_openSigned 129 = .ok (.iload_n 2, 1) := by decide +kernel
theorem dX6_openSigned_130 : decode cX6_openSigned 130 = .ok (.iload_n 1, 1) := by decide +kernel
theorem dX6_openSigned_131 : decode cX6_openSigned 131 = .ok (.ifCond .ge 9, 3) := by decide +kernel
theorem dX6_openSigned_134 : decode cX6_openSigned 134 = .ok (.iconst 1, 1) := by decide +kernel
theorem dX6_openSigned_135 : decode cX6_openSigned 135 = .ok (.iload_n 1, 1) := by decide +kernel
theorem dX6_openSigned_136 : decode cX6_openSigned 136 = .ok (.isub, 1) := by decide +kernel
theorem dX6_openSigned_137 : decode cX6_openSigned 137 = .ok (.goto 4, 3) := by decide +kernel
theorem dX6_openSigned_140 : decode cX6_openSigned 140 = .ok (.iconst 1, 1) := by decide +kernel
theorem dX6_openSigned_141 : decode cX6_openSigned 141 = .ok (.invokevirtual 182, 3) := by decide +kernel
theorem dX6_openSigned_144 : decode cX6_openSigned 144 = .ok (.istore_n 3, 1) := by decide +kernel
theorem dX6_openSigned_145 : decode cX6_openSigned 145 = .ok (.aload_n 0, 1) := by decide +kernel
theorem dX6_openSigned_146 : decode cX6_openSigned 146 = .ok (.iload_n 3, 1) := by decide +kernel
theorem dX6_openSigned_147 : decode cX6_openSigned 147 = .ok (.ifCond .ge 10, 3) := by decide +kernel
theorem dX6_openSigned_150 : decode cX6_openSigned 150 = .ok (.aload_n 0, 1) := by decide +kernel
theorem dX6_openSigned_151 : decode cX6_openSigned 151 = .ok (.getfield 155, 3) := by decide +kernel
theorem dX6_openSigned_154 : decode cX6_openSigned 154 = .ok (.goto 11, 3) := by decide +kernel
theorem dX6_openSigned_157 : decode cX6_openSigned 157 = .ok (.aload_n 0, 1) := by decide +kernel
theorem dX6_openSigned_158 : decode cX6_openSigned 158 = .ok (.getfield 155, 3) := by decide +kernel
theorem dX6_openSigned_161 : decode cX6_openSigned 161 = .ok (.iconst 1, 1) := by decide +kernel
theorem dX6_openSigned_162 : decode cX6_openSigned 162 = .ok (.iadd, 1) := by decide +kernel
theorem dX6_openSigned_163 : decode cX6_openSigned 163 = .ok (.iload_n 2, 1) := by decide +kernel
theorem dX6_openSigned_164 : decode cX6_openSigned 164 = .ok (.iadd, 1) := by decide +kernel
theorem dX6_openSigned_165 : decode cX6_openSigned 165 = .ok (.putfield 155, 3) := by decide +kernel
theorem dX6_openSigned_168 : decode cX6_openSigned 168 = .ok (.iload_n 3, 1) := by decide +kernel
theorem dX6_openSigned_169 : decode cX6_openSigned 169 = .ok (.ireturn, 1) := by decide +kernel
theorem dX6_rowFaults_0 : decode cX6_rowFaults 0 = .ok (.aload_n 0, 1) := by decide +kernel
theorem dX6_rowFaults_1 : decode cX6_rowFaults 1 = .ok (.getfield 158, 3) := by decide +kernel
theorem dX6_rowFaults_4 : decode cX6_rowFaults 4 = .ok (.iload_n 1, 1) := by decide +kernel
theorem dX6_rowFaults_5 : decode cX6_rowFaults 5 = .ok (.iadd, 1) := by decide +kernel
theorem dX6_rowFaults_6 : decode cX6_rowFaults 6 = .ok (.aload_n 0, 1) := by decide +kernel
theorem dX6_rowFaults_7 : decode cX6_rowFaults 7 = .ok (.getfield 13, 3) := by decide +kernel
theorem dX6_rowFaults_10 : decode cX6_rowFaults 10 = .ok (.if_icmp .le 15, 3) := by decide +kernel
theorem dX6_rowFaults_13 : decode cX6_rowFaults 13 = .ok (.aload_n 0, 1) := by decide +kernel
theorem dX6_rowFaults_14 : decode cX6_rowFaults 14 = .ok (.iconst 3, 1) := by decide +kernel
theorem dX6_rowFaults_15 : decode cX6_rowFaults 15 = .ok (.aload_n 0, 1) := by decide +kernel
theorem dX6_rowFaults_16 : decode cX6_rowFaults 16 = .ok (.getfield 155, 3) := by decide +kernel
theorem dX6_rowFaults_19 : decode cX6_rowFaults 19 = .ok (.invokevirtual 177, 3) := by decide +kernel
theorem dX6_rowFaults_22 : decode cX6_rowFaults 22 = .ok (.goto 33, 3) := by decide +kernel
theorem dX6_rowFaults_25 : decode cX6_rowFaults 25 = .ok (.aload_n 0, 1) := by decide +kernel
theorem dX6_rowFaults_26 : decode cX6_rowFaults 26 = .ok (.getfield 161, 3) := by decide +kernel
theorem dX6_rowFaults_29 : decode cX6_rowFaults 29 = .ok (.iconst 1, 1) := by decide +kernel
theorem dX6_rowFaults_30 : decode cX6_rowFaults 30 = .ok (.iadd, 1) := by decide +kernel
theorem dX6_rowFaults_31 : decode cX6_rowFaults 31 = .ok (.aload_n 0, 1) := by decide +kernel
theorem dX6_rowFaults_32 : decode cX6_rowFaults 32 = .ok (.getfield 13, 3) := by decide +kernel
theorem dX6_rowFaults_35 : decode cX6_rowFaults 35 = .ok (.imul, 1) := by decide +kernel
theorem dX6_rowFaults_36 : decode cX6_rowFaults 36 = .ok (.sipush 240, 3) := by decide +kernel
theorem dX6_rowFaults_39 : decode cX6_rowFaults 39 = .ok (.if_icmp .le 15, 3) := by decide +kernel
theorem dX6_rowFaults_42 : decode cX6_rowFaults 42 = .ok (.aload_n 0, 1) := by decide +kernel
theorem dX6_rowFaults_43 : decode cX6_rowFaults 43 = .ok (.iconst 4, 1) := by decide +kernel
theorem dX6_rowFaults_44 : decode cX6_rowFaults 44 = .ok (.aload_n 0, 1) := by decide +kernel
theorem dX6_rowFaults_45 : decode cX6_rowFaults 45 = .ok (.getfield 155, 3) := by decide +kernel
theorem dX6_rowFaults_48 : decode cX6_rowFaults 48 = .ok (.invokevirtual 177, 3) := by decide +kernel
theorem dX6_rowFaults_51 : decode cX6_rowFaults 51 = .ok (.goto 4, 3) := by decide +kernel
theorem dX6_rowFaults_54 : decode cX6_rowFaults 54 = .ok (.iconst 0, 1) := by decide +kernel
theorem dX6_rowFaults_55 : decode cX6_rowFaults 55 = .ok (.ireturn, 1) := by decide +kernel
theorem dX6_rowIs_0 : decode cX6_rowIs 0 = .ok (.aload_n 0, 1) := by decide +kernel
theorem dX6_rowIs_1 : decode cX6_rowIs 1 = .ok (.aload_n 0, 1) := by decide +kernel
theorem dX6_rowIs_2 : decode cX6_rowIs 2 = .ok (.getfield 161, 3) := by decide +kernel
theorem dX6_rowIs_5 : decode cX6_rowIs 5 = .ok (.iconst 1, 1) := by decide +kernel
theorem dX6_rowIs_6 : decode cX6_rowIs 6 = .ok (.iadd, 1) := by decide +kernel
theorem dX6_rowIs_7 : decode cX6_rowIs 7 = .ok (.aload_n 0, 1) := by decide +kernel
theorem dX6_rowIs_8 : decode cX6_rowIs 8 = .ok (.getfield 13, 3) := by decide +kernel
theorem dX6_rowIs_11 : decode cX6_rowIs 11 = .ok (.imul, 1) := by decide +kernel
theorem dX6_rowIs_12 : decode cX6_rowIs 12 = .ok (.aload_n 0, 1) := by decide +kernel
theorem dX6_rowIs_13 : decode cX6_rowIs 13 = .ok (.getfield 152, 3) := by decide +kernel
theorem dX6_rowIs_16 : decode cX6_rowIs 16 = .ok (.if_icmp .le 17, 3) := by decide +kernel
theorem dX6_rowIs_19 : decode cX6_rowIs 19 = .ok (.aload_n 0, 1) := by decide +kernel
theorem dX6_rowIs_20 : decode cX6_rowIs 20 = .ok (.getfield 161, 3) := by decide +kernel
theorem dX6_rowIs_23 : decode cX6_rowIs 23 = .ok (.iconst 1, 1) := by decide +kernel
theorem dX6_rowIs_24 : decode cX6_rowIs 24 = .ok (.iadd, 1) := by decide +kernel
theorem dX6_rowIs_25 : decode cX6_rowIs 25 = .ok (.aload_n 0, 1) := by decide +kernel
theorem dX6_rowIs_26 : decode cX6_rowIs 26 = .ok (.getfield 13, 3) := by decide +kernel
theorem dX6_rowIs_29 : decode cX6_rowIs 29 = .ok (.imul, 1) := by decide +kernel
theorem dX6_rowIs_30 : decode cX6_rowIs 30 = .ok (.goto 7, 3) := by decide +kernel
theorem dX6_rowIs_33 : decode cX6_rowIs 33 = .ok (.aload_n 0, 1) := by decide +kernel
theorem dX6_rowIs_34 : decode cX6_rowIs 34 = .ok (.getfield 152, 3) := by decide +kernel
theorem dX6_rowIs_37 : decode cX6_rowIs 37 = .ok (.putfield 152, 3) := by decide +kernel
theorem dX6_rowIs_40 : decode cX6_rowIs 40 = .ok (.return_, 1) := by decide +kernel
theorem dX6_openRows_0 : decode cX6_openRows 0 = .ok (.aload_n 0, 1) := by decide +kernel
theorem dX6_openRows_1 : decode cX6_openRows 1 = .ok (.getfield 155, 3) := by decide +kernel
theorem dX6_openRows_4 : decode cX6_openRows 4 = .ok (.aload_n 0, 1) := by decide +kernel
theorem dX6_openRows_5 : decode cX6_openRows 5 = .ok (.getfield 52, 3) := by decide +kernel
theorem dX6_openRows_8 : decode cX6_openRows 8 = .ok (.if_icmp .ne 13, 3) := by decide +kernel
theorem dX6_openRows_11 : decode cX6_openRows 11 = .ok (.aload_n 0, 1) := by decide +kernel
theorem dX6_openRows_12 : decode cX6_openRows 12 = .ok (.iconst 1, 1) := by decide +kernel
theorem dX6_openRows_13 : decode cX6_openRows 13 = .ok (.aload_n 0, 1) := by decide +kernel
theorem dX6_openRows_14 : decode cX6_openRows 14 = .ok (.getfield 155, 3) := by decide +kernel
theorem dX6_openRows_17 : decode cX6_openRows 17 = .ok (.invokevirtual 177, 3) := by decide +kernel
theorem dX6_openRows_20 : decode cX6_openRows 20 = .ok (.ireturn, 1) := by decide +kernel
theorem dX6_openRows_21 : decode cX6_openRows 21 = .ok (.aload_n 0, 1) := by decide +kernel
theorem dX6_openRows_22 : decode cX6_openRows 22 = .ok (.getfield 155, 3) := by decide +kernel
theorem dX6_openRows_25 : decode cX6_openRows 25 = .ok (.iconst 1, 1) := by decide +kernel
theorem dX6_openRows_26 : decode cX6_openRows 26 = .ok (.iadd, 1) := by decide +kernel
theorem dX6_openRows_27 : decode cX6_openRows 27 = .ok (.aload_n 0, 1) := by decide +kernel
theorem dX6_openRows_28 : decode cX6_openRows 28 = .ok (.getfield 52, 3) := by decide +kernel
theorem dX6_openRows_31 : decode cX6_openRows 31 = .ok (.if_icmp .ne 13, 3) := by decide +kernel
theorem dX6_openRows_34 : decode cX6_openRows 34 = .ok (.aload_n 0, 1) := by decide +kernel
theorem dX6_openRows_35 : decode cX6_openRows 35 = .ok (.iconst 2, 1) := by decide +kernel
theorem dX6_openRows_36 : decode cX6_openRows 36 = .ok (.aload_n 0, 1) := by decide +kernel
theorem dX6_openRows_37 : decode cX6_openRows 37 = .ok (.getfield 155, 3) := by decide +kernel
theorem dX6_openRows_40 : decode cX6_openRows 40 = .ok (.invokevirtual 177, 3) := by decide +kernel
theorem dX6_openRows_43 : decode cX6_openRows 43 = .ok (.ireturn, 1) := by decide +kernel
theorem dX6_openRows_44 : decode cX6_openRows 44 = .ok (.aload_n 0, 1) := by decide +kernel
theorem dX6_openRows_45 : decode cX6_openRows 45 = .ok (.getfield 20, 3) := by decide +kernel
theorem dX6_openRows_48 : decode cX6_openRows 48 = .ok (.aload_n 0, 1) := by decide +kernel
theorem dX6_openRows_49 : decode cX6_openRows 49 = .ok (.getfield 155, 3) := by decide +kernel
theorem dX6_openRows_52 : decode cX6_openRows 52 = .ok (.iaload, 1) := by decide +kernel
theorem dX6_openRows_53 : decode cX6_openRows 53 = .ok (.istore_n 1, 1) := by decide +kernel
theorem dX6_openRows_54 : decode cX6_openRows 54 = .ok (.aload_n 0, 1) := by decide +kernel
theorem dX6_openRows_55 : decode cX6_openRows 55 = .ok (.getfield 20, 3) := by decide +kernel
theorem dX6_openRows_58 : decode cX6_openRows 58 = .ok (.aload_n 0, 1) := by decide +kernel
theorem dX6_openRows_59 : decode cX6_openRows 59 = .ok (.getfield 155, 3) := by decide +kernel
theorem dX6_openRows_62 : decode cX6_openRows 62 = .ok (.iconst 1, 1) := by decide +kernel
theorem dX6_openRows_63 : decode cX6_openRows 63 = .ok (.iadd, 1) := by decide +kernel
theorem dX6_openRows_64 : decode cX6_openRows 64 = .ok (.iaload, 1) := by decide +kernel
theorem dX6_openRows_65 : decode cX6_openRows 65 = .ok (.istore_n 2, 1) := by decide +kernel
theorem dX6_openRows_66 : decode cX6_openRows 66 = .ok (.iload_n 1, 1) := by decide +kernel
theorem dX6_openRows_67 : decode cX6_openRows 67 = .ok (.ifCond .le 79, 3) := by decide +kernel
theorem dX6_openRows_70 : decode cX6_openRows 70 = .ok (.aload_n 0, 1) := by decide +kernel
theorem dX6_openRows_71 : decode cX6_openRows 71 = .ok (.iload_n 1, 1) := by decide +kernel
theorem dX6_openRows_72 : decode cX6_openRows 72 = .ok (.invokevirtual 185, 3) := by decide +kernel
theorem dX6_openRows_75 : decode cX6_openRows 75 = .ok (.istore_n 3, 1) := by decide +kernel
theorem dX6_openRows_76 : decode cX6_openRows 76 = .ok (.iload_n 3, 1) := by decide +kernel
theorem dX6_openRows_77 : decode cX6_openRows 77 = .ok (.ifCond .ge 5, 3) := by decide +kernel
theorem dX6_openRows_80 : decode cX6_openRows 80 = .ok (.iload_n 3, 1) := by decide +kernel
theorem dX6_openRows_81 : decode cX6_openRows 81 = .ok (.ireturn, 1) := by decide +kernel
theorem dX6_openRows_82 : decode cX6_openRows 82 = .ok (.iconst 0, 1) := by decide +kernel
theorem dX6_openRows_83 : decode cX6_openRows 83 = .ok (.istore 4, 2) := by decide +kernel
theorem dX6_openRows_85 : decode cX6_openRows 85 = .ok (.iload 4, 2) := by decide +kernel
theorem dX6_openRows_87 : decode cX6_openRows 87 = .ok (.iload_n 1, 1) := by decide +kernel
theorem dX6_openRows_88 : decode cX6_openRows 88 = .ok (.if_icmp .ge 32, 3) := by decide +kernel
theorem dX6_openRows_91 : decode cX6_openRows 91 = .ok (.aload_n 0, 1) := by decide +kernel
theorem dX6_openRows_92 : decode cX6_openRows 92 = .ok (.getfield 36, 3) := by decide +kernel
theorem dX6_openRows_95 : decode cX6_openRows 95 = .ok (.aload_n 0, 1) := by decide +kernel
theorem dX6_openRows_96 : decode cX6_openRows 96 = .ok (.getfield 161, 3) := by decide +kernel
theorem dX6_openRows_99 : decode cX6_openRows 99 = .ok (.aload_n 0, 1) := by decide +kernel
theorem dX6_openRows_100 : decode cX6_openRows 100 = .ok (.getfield 13, 3) := by decide +kernel
theorem dX6_openRows_103 : decode cX6_openRows 103 = .ok (.imul, 1) := by decide +kernel
theorem dX6_openRows_104 : decode cX6_openRows 104 = .ok (.aload_n 0, 1) := by decide +kernel
theorem dX6_openRows_105 : decode cX6_openRows 105 = .ok (.getfield 158, 3) := by decide +kernel
theorem dX6_openRows_108 : decode cX6_openRows 108 = .ok (.iadd, 1) := by decide +kernel
theorem dX6_openRows_109 : decode cX6_openRows 109 = .ok (.iload 4, 2) := by decide +kernel
theorem dX6_openRows_111 : decode cX6_openRows 111 = .ok (.iadd, 1) := by decide +kernel
theorem dX6_openRows_112 : decode cX6_openRows 112 = .ok (.iload_n 2, 1) := by decide +kernel
theorem dX6_openRows_113 : decode cX6_openRows 113 = .ok (.iastore, 1) := by decide +kernel
theorem dX6_openRows_114 : decode cX6_openRows 114 = .ok (.iinc 4 1, 3) := by decide +kernel
theorem dX6_openRows_117 : decode cX6_openRows 117 = .ok (.goto (-32), 3) := by decide +kernel
theorem dX6_openRows_120 : decode cX6_openRows 120 = .ok (.aload_n 0, 1) := by decide +kernel
theorem dX6_openRows_121 : decode cX6_openRows 121 = .ok (.dup, 1) := by decide +kernel
theorem dX6_openRows_122 : decode cX6_openRows 122 = .ok (.getfield 158, 3) := by decide +kernel
theorem dX6_openRows_125 : decode cX6_openRows 125 = .ok (.iload_n 1, 1) := by decide +kernel
theorem dX6_openRows_126 : decode cX6_openRows 126 = .ok (.iadd, 1) := by decide +kernel
theorem dX6_openRows_127 : decode cX6_openRows 127 = .ok (.putfield 158, 3) := by decide +kernel
theorem dX6_openRows_130 : decode cX6_openRows 130 = .ok (.aload_n 0, 1) := by decide +kernel
theorem dX6_openRows_131 : decode cX6_openRows 131 = .ok (.invokevirtual 188, 3) := by decide +kernel
theorem dX6_openRows_134 : decode cX6_openRows 134 = .ok (.aload_n 0, 1) := by decide +kernel
theorem dX6_openRows_135 : decode cX6_openRows 135 = .ok (.dup, 1) := by decide +kernel
theorem dX6_openRows_136 : decode cX6_openRows 136 = .ok (.getfield 155, 3) := by decide +kernel
theorem dX6_openRows_139 : decode cX6_openRows 139 = .ok (.iconst 2, 1) := by decide +kernel
theorem dX6_openRows_140 : decode cX6_openRows 140 = .ok (.iadd, 1) := by decide +kernel
theorem dX6_openRows_141 : decode cX6_openRows 141 = .ok (.putfield 155, 3) := by decide +kernel
theorem dX6_openRows_144 : decode cX6_openRows 144 = .ok (.iconst 0, 1) := by decide +kernel
theorem dX6_openRows_145 : decode cX6_openRows 145 = .ok (.ireturn, 1) := by decide +kernel
theorem dX6_openRows_146 : decode cX6_openRows 146 = .ok (.iload_n 2, 1) := by decide +kernel
theorem dX6_openRows_147 : decode cX6_openRows 147 = .ok (.ifCond .ne 10, 3) := by decide +kernel
theorem dX6_openRows_150 : decode cX6_openRows 150 = .ok (.aload_n 0, 1) := by decide +kernel
theorem dX6_openRows_151 : decode cX6_openRows 151 = .ok (.invokevirtual 191, 3) := by decide +kernel
theorem dX6_openRows_154 : decode cX6_openRows 154 = .ok (.goto 32, 3) := by decide +kernel
theorem dX6_openRows_157 : decode cX6_openRows 157 = .ok (.iload_n 2, 1) := by decide +kernel
theorem dX6_openRows_158 : decode cX6_openRows 158 = .ok (.iconst 1, 1) := by decide +kernel
theorem dX6_openRows_159 : decode cX6_openRows 159 = .ok (.if_icmp .ne 10, 3) := by decide +kernel
theorem dX6_openRows_162 : decode cX6_openRows 162 = .ok (.aload_n 0, 1) := by decide +kernel
theorem dX6_openRows_163 : decode cX6_openRows 163 = .ok (.invokevirtual 194, 3) := by decide +kernel
