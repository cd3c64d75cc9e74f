theorem dX3_init_0 : decode cX3_init 0 = .ok (.aload_n 0, 1) := by decide +kernel
theorem dX3_init_1 : decode cX3_init 1 = .ok (.invokespecial 3, 3) := by decide +kernel
theorem dX3_init_4 : decode cX3_init 4 = .ok (.aload_n 0, 1) := by decide +kernel
theorem dX3_init_5 : decode cX3_init 5 = .ok (.sipush 400, 3) := by decide +kernel
theorem dX3_init_8 : decode cX3_init 8 = .ok (.newarray .byte, 2) := by decide +kernel
theorem dX3_init_10 : decode cX3_init 10 = .ok (.putfield 9, 3) := by decide +kernel
theorem dX3_init_13 : decode cX3_init 13 = .ok (.aload_n 0, 1) := by decide +kernel
theorem dX3_init_14 : decode cX3_init 14 = .ok (.iconst 0, 1) := by decide +kernel
theorem dX3_init_15 : decode cX3_init 15 = .ok (.putfield 15, 3) := by decide +kernel
theorem dX3_init_18 : decode cX3_init 18 = .ok (.aload_n 0, 1) := by decide +kernel
theorem dX3_init_19 : decode cX3_init 19 = .ok (.iconst 0, 1) := by decide +kernel
theorem dX3_init_20 : decode cX3_init 20 = .ok (.putfield 19, 3) := by decide +kernel
theorem dX3_init_23 : decode cX3_init 23 = .ok (.aload_n 0, 1) := by decide +kernel
theorem dX3_init_24 : decode cX3_init 24 = .ok (.aload_n 1, 1) := by decide +kernel
theorem dX3_init_25 : decode cX3_init 25 = .ok (.putfield 22, 3) := by decide +kernel
theorem dX3_init_28 : decode cX3_init 28 = .ok (.aload_n 0, 1) := by decide +kernel
theorem dX3_init_29 : decode cX3_init 29 = .ok (.aload_n 2, 1) := by decide +kernel
theorem dX3_init_30 : decode cX3_init 30 = .ok (.putfield 26, 3) := by decide +kernel
theorem dX3_init_33 : decode cX3_init 33 = .ok (.return_, 1) := by decide +kernel
theorem dX3_fill_0 : decode cX3_fill 0 = .ok (.aload_n 0, 1) := by decide +kernel
theorem dX3_fill_1 : decode cX3_fill 1 = .ok (.getfield 9, 3) := by decide +kernel
theorem dX3_fill_4 : decode cX3_fill 4 = .ok (.iconst 0, 1) := by decide +kernel
theorem dX3_fill_5 : decode cX3_fill 5 = .ok (.invokestatic 30, 3) := by decide +kernel
theorem dX3_fill_8 : decode cX3_fill 8 = .ok (.aload_n 0, 1) := by decide +kernel
theorem dX3_fill_9 : decode cX3_fill 9 = .ok (.iconst 0, 1) := by decide +kernel
theorem dX3_fill_10 : decode cX3_fill 10 = .ok (.iload_n 1, 1) := by decide +kernel
theorem dX3_fill_11 : decode cX3_fill 11 = .ok (.sipush 400, 3) := by decide +kernel
theorem dX3_fill_14 : decode cX3_fill 14 = .ok (.invokestatic 36, 3) := by decide +kernel
theorem dX3_fill_17 : decode cX3_fill 17 = .ok (.invokestatic 42, 3) := by decide +kernel
theorem dX3_fill_20 : decode cX3_fill 20 = .ok (.putfield 15, 3) := by decide +kernel
theorem dX3_fill_23 : decode cX3_fill 23 = .ok (.aload_n 0, 1) := by decide +kernel
theorem dX3_fill_24 : decode cX3_fill 24 = .ok (.iconst 0, 1) := by decide +kernel
theorem dX3_fill_25 : decode cX3_fill 25 = .ok (.putfield 19, 3) := by decide +kernel
theorem dX3_fill_28 : decode cX3_fill 28 = .ok (.iload_n 1, 1) := by decide +kernel
theorem dX3_fill_29 : decode cX3_fill 29 = .ok (.ifCond .ge 5, 3) := by decide +kernel
theorem dX3_fill_32 : decode cX3_fill 32 = .ok (.iconst 2, 1) := by decide +kernel
theorem dX3_fill_33 : decode cX3_fill 33 = .ok (.ireturn, 1) := by decide +kernel
theorem dX3_fill_34 : decode cX3_fill 34 = .ok (.aload_n 0, 1) := by decide +kernel
theorem dX3_fill_35 : decode cX3_fill 35 = .ok (.iconst 0, 1) := by decide +kernel
theorem dX3_fill_36 : decode cX3_fill 36 = .ok (.putfield 45, 3) := by decide +kernel
theorem dX3_fill_39 : decode cX3_fill 39 = .ok (.aload_n 0, 1) := by decide +kernel
theorem dX3_fill_40 : decode cX3_fill 40 = .ok (.iconst 0, 1) := by decide +kernel
theorem dX3_fill_41 : decode cX3_fill 41 = .ok (.putfield 48, 3) := by decide +kernel
theorem dX3_fill_44 : decode cX3_fill 44 = .ok (.aload_n 0, 1) := by decide +kernel
theorem dX3_fill_45 : decode cX3_fill 45 = .ok (.iconst 0, 1) := by decide +kernel
theorem dX3_fill_46 : decode cX3_fill 46 = .ok (.putfield 52, 3) := by decide +kernel
theorem dX3_fill_49 : decode cX3_fill 49 = .ok (.aload_n 0, 1) := by decide +kernel
theorem dX3_fill_50 : decode cX3_fill 50 = .ok (.iconst 0, 1) := by decide +kernel
theorem dX3_fill_51 : decode cX3_fill 51 = .ok (.putfield 55, 3) := by decide +kernel
theorem dX3_fill_54 : decode cX3_fill 54 = .ok (.iconst 0, 1) := by decide +kernel
theorem dX3_fill_55 : decode cX3_fill 55 = .ok (.istore_n 2, 1) := by decide +kernel
theorem dX3_fill_56 : decode cX3_fill 56 = .ok (.iload_n 2, 1) := by decide +kernel
theorem dX3_fill_57 : decode cX3_fill 57 = .ok (.sipush 1000, 3) := by decide +kernel
theorem dX3_fill_60 : decode cX3_fill 60 = .ok (.if_icmp .gt 25, 3) := by decide +kernel
theorem dX3_fill_63 : decode cX3_fill 63 = .ok (.aload_n 0, 1) := by decide +kernel
theorem dX3_fill_64 : decode cX3_fill 64 = .ok (.getfield 48, 3) := by decide +kernel
theorem dX3_fill_67 : decode cX3_fill 67 = .ok (.ifCond .ne 18, 3) := by decide +kernel
theorem dX3_fill_70 : decode cX3_fill 70 = .ok (.aload_n 0, 1) := by decide +kernel
theorem dX3_fill_71 : decode cX3_fill 71 = .ok (.invokevirtual 58, 3) := by decide +kernel
theorem dX3_fill_74 : decode cX3_fill 74 = .ok (.ifCond .ne 5, 3) := by decide +kernel
theorem dX3_fill_77 : decode cX3_fill 77 = .ok (.iconst 1, 1) := by decide +kernel
theorem dX3_fill_78 : decode cX3_fill 78 = .ok (.ireturn, 1) := by decide +kernel
theorem dX3_fill_79 : decode cX3_fill 79 = .ok (.iinc 2 1, 3) := by decide +kernel
theorem dX3_fill_82 : decode cX3_fill 82 = .ok (.goto (-26), 3) := by decide +kernel
theorem dX3_fill_85 : decode cX3_fill 85 = .ok (.iconst 0, 1) := by decide +kernel
theorem dX3_fill_86 : decode cX3_fill 86 = .ok (.ireturn, 1) := by decide +kernel
theorem dX3_copiesPiece_0 : decode cX3_copiesPiece 0 = .ok (.aload_n 0, 1) := by decide +kernel
theorem dX3_copiesPiece_1 : decode cX3_copiesPiece 1 = .ok (.getfield 22, 3) := by decide +kernel
theorem dX3_copiesPiece_4 : decode cX3_copiesPiece 4 = .ok (.getfield 62, 3) := by decide +kernel
theorem dX3_copiesPiece_7 : decode cX3_copiesPiece 7 = .ok (.lookupswitch 35 #[(0, 25), (1, 30)], 25) := by decide +kernel
theorem dX3_copiesPiece_32 : decode cX3_copiesPiece 32 = .ok (.aload_n 0, 1) := by decide +kernel
theorem dX3_copiesPiece_33 : decode cX3_copiesPiece 33 = .ok (.invokevirtual 67, 3) := by decide +kernel
theorem dX3_copiesPiece_36 : decode cX3_copiesPiece 36 = .ok (.ireturn, 1) := by decide +kernel
theorem dX3_copiesPiece_37 : decode cX3_copiesPiece 37 = .ok (.aload_n 0, 1) := by decide +kernel
theorem dX3_copiesPiece_38 : decode cX3_copiesPiece 38 = .ok (.invokevirtual 70, 3) := by decide +kernel
theorem dX3_copiesPiece_41 : decode cX3_copiesPiece 41 = .ok (.ireturn, 1) := by decide +kernel
theorem dX3_copiesPiece_42 : decode cX3_copiesPiece 42 = .ok (.aload_n 0, 1) := by decide +kernel
theorem dX3_copiesPiece_43 : decode cX3_copiesPiece 43 = .ok (.invokevirtual 73, 3) := by decide +kernel
theorem dX3_copiesPiece_46 : decode cX3_copiesPiece 46 = .ok (.ireturn, 1) := by decide +kernel
theorem dX3_copiesMarked_0 : decode cX3_copiesMarked 0 = .ok (.aload_n 0, 1) := by decide +kernel
theorem dX3_copiesMarked_1 : decode cX3_copiesMarked 1 = .ok (.getfield 45, 3) := by decide +kernel
theorem dX3_copiesMarked_4 : decode cX3_copiesMarked 4 = .ok (.aload_n 0, 1) := by decide +kernel
theorem dX3_copiesMarked_5 : decode cX3_copiesMarked 5 = .ok (.getfield 26, 3) := by decide +kernel
theorem dX3_copiesMarked_8 : decode cX3_copiesMarked 8 = .ok (.getfield 76, 3) := by decide +kernel
theorem dX3_copiesMarked_11 : decode cX3_copiesMarked 11 = .ok (.if_icmp .lt 5, 3) := by decide +kernel
theorem dX3_copiesMarked_14 : decode cX3_copiesMarked 14 = .ok (.iconst 0, 1) := by decide +kernel
theorem dX3_copiesMarked_15 : decode cX3_copiesMarked 15 = .ok (.ireturn, 1) := by decide +kernel
theorem dX3_copiesMarked_16 : decode cX3_copiesMarked 16 = .ok (.aload_n 0, 1) := by decide +kernel
theorem dX3_copiesMarked_17 : decode cX3_copiesMarked 17 = .ok (.getfield 22, 3) := by decide +kernel
theorem dX3_copiesMarked_20 : decode cX3_copiesMarked 20 = .ok (.getfield 79, 3) := by decide +kernel
theorem dX3_copiesMarked_23 : decode cX3_copiesMarked 23 = .ok (.istore_n 1, 1) := by decide +kernel
theorem dX3_copiesMarked_24 : decode cX3_copiesMarked 24 = .ok (.aload_n 0, 1) := by decide +kernel
theorem dX3_copiesMarked_25 : decode cX3_copiesMarked 25 = .ok (.getfield 26, 3) := by decide +kernel
theorem dX3_copiesMarked_28 : decode cX3_copiesMarked 28 = .ok (.aload_n 0, 1) := by decide +kernel
theorem dX3_copiesMarked_29 : decode cX3_copiesMarked 29 = .ok (.getfield 45, 3) := by decide +kernel
theorem dX3_copiesMarked_32 : decode cX3_copiesMarked 32 = .ok (.invokevirtual 82, 3) := by decide +kernel
theorem dX3_copiesMarked_35 : decode cX3_copiesMarked 35 = .ok (.aload_n 0, 1) := by decide +kernel
theorem dX3_copiesMarked_36 : decode cX3_copiesMarked 36 = .ok (.getfield 22, 3) := by decide +kernel
theorem dX3_copiesMarked_39 : decode cX3_copiesMarked 39 = .ok (.getfield 86, 3) := by decide +kernel
theorem dX3_copiesMarked_42 : decode cX3_copiesMarked 42 = .ok (.if_icmp .eq 14, 3) := by decide +kernel
theorem dX3_copiesMarked_45 : decode cX3_copiesMarked 45 = .ok (.aload_n 0, 1) := by decide +kernel
theorem dX3_copiesMarked_46 : decode cX3_copiesMarked 46 = .ok (.aload_n 0, 1) := by decide +kernel
theorem dX3_copiesMarked_47 : decode cX3_copiesMarked 47 = .ok (.getfield 45, 3) := by decide +kernel
theorem dX3_copiesMarked_50 : decode cX3_copiesMarked 50 = .ok (.iload_n 1, 1) := by decide +kernel
theorem dX3_copiesMarked_51 : decode cX3_copiesMarked 51 = .ok (.iconst 1, 1) := by decide +kernel
theorem dX3_copiesMarked_52 : decode cX3_copiesMarked 52 = .ok (.invokevirtual 89, 3) := by decide +kernel
theorem dX3_copiesMarked_55 : decode cX3_copiesMarked 55 = .ok (.ireturn, 1) := by decide +kernel
theorem dX3_copiesMarked_56 : decode cX3_copiesMarked 56 = .ok (.aload_n 0, 1) := by decide +kernel
theorem dX3_copiesMarked_57 : decode cX3_copiesMarked 57 = .ok (.getfield 45, 3) := by decide +kernel
theorem dX3_copiesMarked_60 : decode cX3_copiesMarked 60 = .ok (.iconst 1, 1) := by decide +kernel
theorem dX3_copiesMarked_61 : decode cX3_copiesMarked 61 = .ok (.iadd, 1) := by decide +kernel
theorem dX3_copiesMarked_62 : decode cX3_copiesMarked 62 = .ok (.aload_n 0, 1) := by decide +kernel
theorem dX3_copiesMarked_63 : decode cX3_copiesMarked 63 = .ok (.getfield 26, 3) := by decide +kernel
theorem dX3_copiesMarked_66 : decode cX3_copiesMarked 66 = .ok (.getfield 76, 3) := by decide +kernel
theorem dX3_copiesMarked_69 : decode cX3_copiesMarked 69 = .ok (.if_icmp .lt 5, 3) := by decide +kernel
theorem dX3_copiesMarked_72 : decode cX3_copiesMarked 72 = .ok (.iconst 0, 1) := by decide +kernel
theorem dX3_copiesMarked_73 : decode cX3_copiesMarked 73 = .ok (.ireturn, 1) := by decide +kernel
theorem dX3_copiesMarked_74 : decode cX3_copiesMarked 74 = .ok (.aload_n 0, 1) := by decide +kernel
theorem dX3_copiesMarked_75 : decode cX3_copiesMarked 75 = .ok (.getfield 26, 3) := by decide +kernel
theorem dX3_copiesMarked_78 : decode cX3_copiesMarked 78 = .ok (.aload_n 0, 1) := by decide +kernel
theorem dX3_copiesMarked_79 : decode cX3_copiesMarked 79 = .ok (.getfield 45, 3) := by decide +kernel
theorem dX3_copiesMarked_82 : decode cX3_copiesMarked 82 = .ok (.iconst 1, 1) := by decide +kernel
theorem dX3_copiesMarked_83 : decode cX3_copiesMarked 83 = .ok (.iadd, 1) := by decide +kernel
theorem dX3_copiesMarked_84 : decode cX3_copiesMarked 84 = .ok (.invokevirtual 82, 3) := by decide +kernel
theorem dX3_copiesMarked_87 : decode cX3_copiesMarked 87 = .ok (.istore_n 2, 1) := by decide +kernel
theorem dX3_copiesMarked_88 : decode cX3_copiesMarked 88 = .ok (.aload_n 0, 1) := by decide +kernel
theorem dX3_copiesMarked_89 : decode cX3_copiesMarked 89 = .ok (.iload_n 2, 1) := by decide +kernel
theorem dX3_copiesMarked_90 : decode cX3_copiesMarked 90 = .ok (.ifCond .ne 7, 3) := by decide +kernel
theorem dX3_copiesMarked_93 : decode cX3_copiesMarked 93 = .ok (.iconst 1, 1) := by decide +kernel
theorem dX3_copiesMarked_94 : decode cX3_copiesMarked 94 = .ok (.goto 4, 3) := by decide +kernel
theorem dX3_copiesMarked_97 : decode cX3_copiesMarked 97 = .ok (.iconst 0, 1) := by decide +kernel
theorem dX3_copiesMarked_98 : decode cX3_copiesMarked 98 = .ok (.putfield 48, 3) := by decide +kernel
theorem dX3_copiesMarked_101 : decode cX3_copiesMarked 101 = .ok (.aload_n 0, 1) := by decide +kernel
theorem dX3_copiesMarked_102 : decode cX3_copiesMarked 102 = .ok (.getfield 48, 3) := by decide +kernel
theorem dX3_copiesMarked_105 : decode cX3_copiesMarked 105 = .ok (.ifCond .ne 18, 3) := by decide +kernel
theorem dX3_copiesMarked_108 : decode cX3_copiesMarked 108 = .ok (.aload_n 0, 1) := by decide +kernel
theorem dX3_copiesMarked_109 : decode cX3_copiesMarked 109 = .ok (.aload_n 0, 1) := by decide +kernel
theorem dX3_copiesMarked_110 : decode cX3_copiesMarked 110 = .ok (.getfield 45, 3) := by decide +kernel
theorem dX3_copiesMarked_113 : decode cX3_copiesMarked 113 = .ok (.iconst 2, 1) := by decide +kernel
theorem dX3_copiesMarked_114 : decode cX3_copiesMarked 114 = .ok (.iadd, 1) := by decide +kernel
theorem dX3_copiesMarked_115 : decode cX3_copiesMarked 115 = .ok (.iload_n 1, 1) := by decide +kernel
theorem dX3_copiesMarked_116 : decode cX3_copiesMarked 116 = .ok (.iload_n 2, 1) := by decide +kernel
theorem dX3_copiesMarked_117 : decode cX3_copiesMarked 117 = .ok (.invokevirtual 89, 3) := by decide +kernel
theorem dX3_copiesMarked_120 : decode cX3_copiesMarked 120 = .ok (.ifCond .eq 7, 3) := by decide +kernel
theorem dX3_copiesMarked_123 : decode cX3_copiesMarked 123 = .ok (.iconst 1, 1) := by decide +kernel
theorem dX3_copiesMarked_124 : decode cX3_copiesMarked 124 = .ok (.goto 4, 3) := by decide +kernel
theorem dX3_copiesMarked_127 : decode cX3_copiesMarked 127 = .ok (.iconst 0, 1) := by decide +kernel
theorem dX3_copiesMarked_128 : decode cX3_copiesMarked 128 = .ok (.ireturn, 1) := by decide +kernel
theorem dX3_copiesSigned_0 : decode cX3_copiesSigned 0 = .ok (.aload_n 0, 1) := by decide +kernel
theorem dX3_copiesSigned_1 : decode cX3_copiesSigned 1 = .ok (.getfield 45, 3) := by decide +kernel
theorem dX3_copiesSigned_4 : decode cX3_copiesSigned 4 = .ok (.aload_n 0, 1) := by decide +kernel
theorem dX3_copiesSigned_5 : decode cX3_copiesSigned 5 = .ok (.getfield 26, 3) := by decide +kernel
theorem dX3_copiesSigned_8 : decode cX3_copiesSigned 8 = .ok (.getfield 76, 3) := by decide +kernel
theorem dX3_copiesSigned_11 : decode cX3_copiesSigned 11 = .ok (.if_icmp .lt 10, 3) := by decide +kernel
theorem dX3_copiesSigned_14 : decode cX3_copiesSigned 14 = .ok (.aload_n 0, 1) := by decide +kernel
theorem dX3_copiesSigned_15 : decode cX3_copiesSigned 15 = .ok (.iconst 1, 1) := by decide +kernel
theorem dX3_copiesSigned_16 : decode cX3_copiesSigned 16 = .ok (.putfield 48, 3) := by decide +kernel
theorem dX3_copiesSigned_19 : decode cX3_copiesSigned 19 = .ok (.iconst 1, 1) := by decide +kernel
theorem dX3_copiesSigned_20 : decode cX3_copiesSigned 20 = .ok (.ireturn, 1) := by decide +kernel
theorem dX3_copiesSigned_21 : decode cX3_copiesSigned 21 = .ok (.aload_n 0, 1) := by decide +kernel
theorem dX3_copiesSigned_22 : decode cX3_copiesSigned 22 = .ok (.getfield 22, 3) := by decide +kernel
theorem dX3_copiesSigned_25 : decode cX3_copiesSigned 25 = .ok (.getfield 79, 3) := by decide +kernel
theorem dX3_copiesSigned_28 : decode cX3_copiesSigned 28 = .ok (.istore_n 1, 1) := by decide +kernel
theorem dX3_copiesSigned_29 : decode cX3_copiesSigned 29 = .ok (.aload_n 0, 1) := by decide +kernel
theorem dX3_copiesSigned_30 : decode cX3_copiesSigned 30 = .ok (.getfield 26, 3) := by decide +kernel
theorem dX3_copiesSigned_33 : decode cX3_copiesSigned 33 = .ok (.aload_n 0, 1) := by decide +kernel
theorem dX3_copiesSigned_34 : decode cX3_copiesSigned 34 = .ok (.getfield 45, 3) := by decide +kernel
theorem dX3_copiesSigned_37 : decode cX3_copiesSigned 37 = .ok (.invokevirtual 82, 3) := by decide +kernel
theorem dX3_copiesSigned_40 : decode cX3_copiesSigned 40 = .ok (.i2b, 1) := by decide +kernel
theorem dX3_copiesSigned_41 : decode cX3_copiesSigned 41 = .ok (.istore_n 2, 1) := by decide +kernel
theorem dX3_copiesSigned_42 : decode cX3_copiesSigned 42 = .ok (.iload_n 2, 1) := by decide +kernel
theorem dX3_copiesSigned_43 : decode cX3_copiesSigned 43 = .ok (.bipush (-128), 2) := by decide +kernel
theorem dX3_copiesSigned_45 : decode cX3_copiesSigned 45 = .ok (.if_icmp .ne 15, 3) := by decide +kernel
theorem dX3_copiesSigned_48 : decode cX3_copiesSigned 48 = .ok (.aload_n 0, 1) := by decide +kernel
theorem dX3_copiesSigned_49 : decode cX3_copiesSigned 49 = .ok (.dup, 1) := by decide +kernel
theorem dX3_copiesSigned_50 : decode cX3_copiesSigned 50 = .ok (.getfield 45, 3) := by decide +kernel
theorem dX3_copiesSigned_53 : decode cX3_copiesSigned 53 = .ok (.iconst 1, 1) := by decide +kernel
theorem dX3_copiesSigned_54 : decode cX3_copiesSigned 54 = .ok (.iadd, 1) := by decide +kernel
theorem dX3_copiesSigned_55 : decode cX3_copiesSigned 55 = .ok (.putfield 45, 3) := by decide +kernel
theorem dX3_copiesSigned_58 : decode cX3_copiesSigned 58 = .ok (.iconst 1, 1) := by decide +kernel
theorem dX3_copiesSigned_59 : decode cX3_copiesSigned 59 = .ok (.ireturn, 1) := by decide +kernel
theorem dX3_copiesSigned_60 : decode cX3_copiesSigned 60 = .ok (.iload_n 2, 1) := by decide +kernel
theorem dX3_copiesSigned_61 : decode cX3_copiesSigned 61 = .ok (.ifCond .lt 22, 3) := by decide +kernel
theorem dX3_copiesSigned_64 : decode cX3_copiesSigned 64 = .ok (.aload_n 0, 1) := by decide +kernel
theorem dX3_copiesSigned_65 : decode cX3_copiesSigned 65 = .ok (.aload_n 0, 1) := by decide +kernel
theorem dX3_copiesSigned_66 : decode cX3_copiesSigned 66 = .ok (.getfield 45, 3) := by decide +kernel
theorem dX3_copiesSigned_69 : decode cX3_copiesSigned 69 = .ok (.iconst 1, 1) := by decide +kernel
theorem dX3_copiesSigned_70 : decode cX3_copiesSigned 70 = .ok (.iadd, 1) := by decide +kernel
theorem dX3_copiesSigned_71 : decode cX3_copiesSigned 71 = .ok (.iload_n 2, 1) := by decide +kernel
theorem dX3_copiesSigned_72 : decode cX3_copiesSigned 72 = .ok (.iconst 1, 1) := by decide +kernel
theorem dX3_copiesSigned_73 : decode cX3_copiesSigned 73 = .ok (.iadd, 1) := by decide +kernel
theorem dX3_copiesSigned_74 : decode cX3_copiesSigned 74 = .ok (.iload_n 1, 1) := by decide +kernel
theorem dX3_copiesSigned_75 : decode cX3_copiesSigned 75 = .ok (.imul, 1) := by decide +kernel
theorem dX3_copiesSigned_76 : decode cX3_copiesSigned 76 = .ok (.iconst 1, 1) := by decide +kernel
theorem dX3_copiesSigned_77 : decode cX3_copiesSigned 77 = .ok (.invokevirtual 89, 3) := by decide +kernel
theorem dX3_copiesSigned_80 : decode cX3_copiesSigned 80 = .ok (.goto 17, 3) := by decide +kernel
theorem dX3_copiesSigned_83 : decode cX3_copiesSigned 83 = .ok (.aload_n 0, 1) := by decide +kernel
theorem dX3_copiesSigned_84 : decode cX3_copiesSigned 84 = .ok (.aload_n 0, 1) := by decide +kernel
theorem dX3_copiesSigned_85 : decode cX3_copiesSigned 85 = .ok (.getfield 45, 3) := by decide +kernel
theorem dX3_copiesSigned_88 : decode cX3_copiesSigned 88 = .ok (.iconst 1, 1) := by decide +kernel
theorem dX3_copiesSigned_89 : decode cX3_copiesSigned 89 = .ok (.iadd, 1) := by decide +kernel
theorem dX3_copiesSigned_90 : decode cX3_copiesSigned 90 = .ok (.iload_n 1, 1) := by decide +kernel
theorem dX3_copiesSigned_91 : decode cX3_copiesSigned 91 = .ok (.iconst 1, 1) := by decide +kernel
theorem dX3_copiesSigned_92 : decode cX3_copiesSigned 92 = .ok (.iload_n 2, 1) := by decide +kernel
theorem dX3_copiesSigned_93 : decode cX3_copiesSigned 93 = .ok (.isub, 1) := by decide +kernel
theorem dX3_copiesSigned_94 : decode cX3_copiesSigned 94 = .ok (.invokevirtual 89, 3) := by decide +kernel
theorem dX3_copiesSigned_97 : decode cX3_copiesSigned 97 = .ok (.ireturn, 1) := by decide +kernel
theorem dX3_copiesRows_0 : decode cX3_copiesRows 0 = .ok (.aload_n 0, 1) := by decide +kernel
theorem dX3_copiesRows_1 : decode cX3_copiesRows 1 = .ok (.getfield 45, 3) := by decide +kernel
theorem dX3_copiesRows_4 : decode cX3_copiesRows 4 = .ok (.iconst 1, 1) := by decide +kernel
theorem dX3_copiesRows_5 : decode cX3_copiesRows 5 = .ok (.iadd, 1) := by decide +kernel
theorem dX3_copiesRows_6 : decode cX3_copiesRows 6 = .ok (.aload_n 0, 1) := by decide +kernel
theorem dX3_copiesRows_7 : decode cX3_copiesRows 7 = .ok (.getfield 26, 3) := by decide +kernel
theorem dX3_copiesRows_10 : decode cX3_copiesRows 10 = .ok (.getfield 76, 3) := by decide +kernel
theorem dX3_copiesRows_13 : decode cX3_copiesRows 13 = .ok (.if_icmp .lt 5, 3) := by decide +kernel
theorem dX3_copiesRows_16 : decode cX3_copiesRows 16 = .ok (.iconst 0, 1) := by decide +kernel
theorem dX3_copiesRows_17 : decode cX3_copiesRows 17 = .ok (.ireturn, 1) := by decide +kernel
theorem dX3_copiesRows_18 : decode cX3_copiesRows 18 = .ok (.aload_n 0, 1) := by decide +kernel
theorem dX3_copiesRows_19 : decode cX3_copiesRows 19 = .ok (.getfield 26, 3) := by decide +kernel
theorem dX3_copiesRows_22 : decode cX3_copiesRows 22 = .ok (.aload_n 0, 1) := by decide +kernel
theorem dX3_copiesRows_23 : decode cX3_copiesRows 23 = .ok (.getfield 45, 3) := by decide +kernel
theorem dX3_copiesRows_26 : decode cX3_copiesRows 26 = .ok (.invokevirtual 82, 3) := by decide +kernel
theorem dX3_copiesRows_29 : decode cX3_copiesRows 29 = .ok (.istore_n 1, 1) := by decide +kernel
theorem dX3_copiesRows_30 : decode cX3_copiesRows 30 = .ok (.aload_n 0, 1) := by decide +kernel
theorem dX3_copiesRows_31 : decode cX3_copiesRows 31 = .ok (.getfield 26, 3) := by decide +kernel
theorem dX3_copiesRows_34 : decode cX3_copiesRows 34 = .ok (.aload_n 0, 1) := by decide +kernel
theorem dX3_copiesRows_35 : decode cX3_copiesRows 35 = .ok (.getfield 45, 3) := by decide +kernel
theorem dX3_copiesRows_38 : decode cX3_copiesRows 38 = .ok (.iconst 1, 1) := by decide +kernel
theorem dX3_copiesRows_39 : decode cX3_copiesRows 39 = .ok (.iadd, 1) := by decide +kernel
theorem dX3_copiesRows_40 : decode cX3_copiesRows 40 = .ok (.invokevirtual 82, 3) := by decide +kernel
theorem dX3_copiesRows_43 : decode cX3_copiesRows 43 = .ok (.istore_n 2, 1) := by decide +kernel
theorem dX3_copiesRows_44 : decode cX3_copiesRows 44 = .ok (.iload_n 1, 1) := by decide +kernel
theorem dX3_copiesRows_45 : decode cX3_copiesRows 45 = .ok (.ifCond .le 16, 3) := by decide +kernel
theorem dX3_copiesRows_48 : decode cX3_copiesRows 48 = .ok (.aload_n 0, 1) := by decide +kernel
theorem dX3_copiesRows_49 : decode cX3_copiesRows 49 = .ok (.aload_n 0, 1) := by decide +kernel
theorem dX3_copiesRows_50 : decode cX3_copiesRows 50 = .ok (.getfield 45, 3) := by decide +kernel
theorem dX3_copiesRows_53 : decode cX3_copiesRows 53 = .ok (.iconst 1, 1) := by decide +kernel
theorem dX3_copiesRows_54 : decode cX3_copiesRows 54 = .ok (.iadd, 1) := by decide +kernel
theorem dX3_copiesRows_55 : decode cX3_copiesRows 55 = .ok (.iconst 1, 1) := by decide +kernel
theorem dX3_copiesRows_56 : decode cX3_copiesRows 56 = .ok (.iload_n 1, 1) := by decide +kernel
theorem dX3_copiesRows_57 : decode cX3_copiesRows 57 = .ok (.invokevirtual 89, 3) := by decide +kernel
theorem dX3_copiesRows_60 : decode cX3_copiesRows 60 = .ok (.ireturn, 1) := by decide +kernel
theorem dX3_copiesRows_61 : decode cX3_copiesRows 61 = .ok (.iload_n 2, 1) := by decide +kernel
theorem dX3_copiesRows_62 : decode cX3_copiesRows 62 = .ok (.tableswitch 65 0 2 #[26, 53, 60], 26) := by decide +kernel
theorem dX3_copiesRows_88 : decode cX3_copiesRows 88 = .ok (.aload_n 0, 1) := by decide +kernel
theorem dX3_copiesRows_89 : decode cX3_copiesRows 89 = .ok (.dup, 1) := by decide +kernel
theorem dX3_copiesRows_90 : decode cX3_copiesRows 90 = .ok (.getfield 52, 3) := by decide +kernel
theorem dX3_copiesRows_93 : decode cX3_copiesRows 93 = .ok (.iconst 1, 1) := by decide +kernel
theorem dX3_copiesRows_94 : decode cX3_copiesRows 94 = .ok (.iadd, 1) := by decide +kernel
theorem dX3_copiesRows_95 : decode cX3_copiesRows 95 = .ok (.putfield 52, 3) := by decide +kernel
theorem dX3_copiesRows_98 : decode cX3_copiesRows 98 = .ok (.aload_n 0, 1) := by decide +kernel
theorem dX3_copiesRows_99 : decode cX3_copiesRows 99 = .ok (.iconst 0, 1) := by decide +kernel
theorem dX3_copiesRows_100 : decode cX3_copiesRows 100 = .ok (.putfield 55, 3) := by decide +kernel
theorem dX3_copiesRows_103 : decode cX3_copiesRows 103 = .ok (.aload_n 0, 1) := by decide +kernel
theorem dX3_copiesRows_104 : decode cX3_copiesRows 104 = .ok (.dup, 1) := by decide +kernel
theorem dX3_copiesRows_105 : decode cX3_copiesRows 105 = .ok (.getfield 45, 3) := by decide +kernel
theorem dX3_copiesRows_108 : decode cX3_copiesRows 108 = .ok (.iconst 2, 1) := by decide +kernel
theorem dX3_copiesRows_109 : decode cX3_copiesRows 109 = .ok (.iadd, 1) := by decide +kernel
theorem dX3_copiesRows_110 : decode cX3_copiesRows 110 = .ok (.putfield 45, 3) := by decide +kernel
theorem dX3_copiesRows_113 : decode cX3_copiesRows 113 = .ok (.iconst 1, 1) := by decide +kernel
theorem dX3_copiesRows_114 : decode cX3_copiesRows 114 = .ok (.ireturn, 1) := by decide +kernel
theorem dX3_copiesRows_115 : decode cX3_copiesRows 115 = .ok (.aload_n 0, 1) := by decide +kernel
theorem dX3_copiesRows_116 : decode cX3_copiesRows 116 = .ok (.iconst 1, 1) := by decide +kernel
theorem dX3_copiesRows_117 : decode cX3_copiesRows 117 = .ok (.putfield 48, 3) := by decide +kernel
theorem dX3_copiesRows_120 : decode cX3_copiesRows 120 = .ok (.iconst 1, 1) := by decide +kernel
theorem dX3_copiesRows_121 : decode cX3_copiesRows 121 = .ok (.ireturn, 1) := by decide +kernel
theorem dX3_copiesRows_122 : decode cX3_copiesRows 122 = .ok (.aload_n 0, 1) := by decide +kernel
theorem dX3_copiesRows_123 : decode cX3_copiesRows 123 = .ok (.invokevirtual 93, 3) := by decide +kernel
theorem dX3_copiesRows_126 : decode cX3_copiesRows 126 = .ok (.ireturn, 1) := by decide +kernel
theorem dX3_copiesRows_127 : decode cX3_copiesRows 127 = .ok (.aload_n 0, 1) := by decide +kernel
theorem dX3_copiesRows_128 : decode cX3_copiesRows 128 = .ok (.aload_n 0, 1) := by decide +kernel
theorem dX3_copiesRows_129 : decode cX3_copiesRows 129 = .ok (.getfield 45, 3) := by decide +kernel
theorem dX3_copiesRows_132 : decode cX3_copiesRows 132 = .ok (.iconst 2, 1) := by decide +kernel
theorem dX3_copiesRows_133 : decode cX3_copiesRows 133 = .ok (.iadd, 1) := by decide +kernel
theorem dX3_copiesRows_134 : decode cX3_copiesRows 134 = .ok (.iload_n 2, 1) := by decide +kernel
theorem dX3_copiesRows_135 : decode cX3_copiesRows 135 = .ok (.iconst 1, 1) := by decide +kernel
theorem dX3_copiesRows_136 : decode cX3_copiesRows 136 = .ok (.invokevirtual 89, 3) := by decide +kernel
theorem dX3_copiesRows_139 : decode cX3_copiesRows 139 = .ok (.istore_n 3, 1) := by decide +kernel
theorem dX3_copiesRows_140 : decode cX3_copiesRows 140 = .ok (.aload_n 0, 1) := by decide +kernel
theorem dX3_copiesRows_141 : decode cX3_copiesRows 141 = .ok (.dup, 1) := by decide +kernel
theorem dX3_copiesRows_142 : decode cX3_copiesRows 142 = .ok (.getfield 45, 3) := by decide +kernel
theorem dX3_copiesRows_145 : decode cX3_copiesRows 145 = .ok (.iload_n 2, 1) := by decide +kernel
theorem dX3_copiesRows_146 : decode cX3_copiesRows 146 = .ok (.iconst 1, 1) := by decide +kernel
theorem dX3_copiesRows_147 : decode cX3_copiesRows 147 = .ok (.iand, 1) := by decide +kernel
theorem dX3_copiesRows_148 : decode cX3_copiesRows 148 = .ok (.iadd, 1) := by decide +kernel
theorem dX3_copiesRows_149 : decode cX3_copiesRows 149 = .ok (.putfield 45, 3) := by decide +kernel
theorem dX3_copiesRows_152 : decode cX3_copiesRows 152 = .ok (.iload_n 3, 1) := by decide +kernel
theorem dX3_copiesRows_153 : decode cX3_copiesRows 153 = .ok (.ireturn, 1) := by decide +kernel
theorem dX3_goesOn_0 : decode cX3_goesOn 0 = .ok (.aload_n 0, 1) := by decide +kernel
theorem dX3_goesOn_1 : decode cX3_goesOn 1 = .ok (.getfield 45, 3) := by decide +kernel
theorem dX3_goesOn_4 : decode cX3_goesOn 4 = .ok (.iconst 3, 1) := by decide +kernel
theorem dX3_goesOn_5 : decode cX3_goesOn 5 = .ok (.iadd, 1) := by decide +kernel
theorem dX3_goesOn_6 : decode cX3_goesOn 6 = .ok (.aload_n 0, 1) := by decide +kernel
theorem dX3_goesOn_7 : decode cX3_goesOn 7 = .ok (.getfield 26, 3) := by decide +kernel
theorem dX3_goesOn_10 : decode cX3_goesOn 10 = .ok (.getfield 76, 3) := by decide +kernel
theorem dX3_goesOn_13 : decode cX3_goesOn 13 = .ok (.if_icmp .lt 5, 3) := by decide +kernel
theorem dX3_goesOn_16 : decode cX3_goesOn 16 = .ok (.iconst 0, 1) := by decide +kernel
theorem dX3_goesOn_17 : decode cX3_goesOn 17 = .ok (.ireturn, 1) := by decide +kernel
theorem dX3_goesOn_18 : decode cX3_goesOn 18 = .ok (.aload_n 0, 1) := by decide +kernel
theorem dX3_goesOn_19 : decode cX3_goesOn 19 = .ok (.dup, 1) := by decide +kernel
theorem dX3_goesOn_20 : decode cX3_goesOn 20 = .ok (.getfield 55, 3) := by decide +kernel
theorem dX3_goesOn_23 : decode cX3_goesOn 23 = .ok (.aload_n 0, 1) := by decide +kernel
theorem dX3_goesOn_24 : decode cX3_goesOn 24 = .ok (.getfield 26, 3) := by decide +kernel
theorem dX3_goesOn_27 : decode cX3_goesOn 27 = .ok (.aload_n 0, 1) := by decide +kernel
theorem dX3_goesOn_28 : decode cX3_goesOn 28 = .ok (.getfield 45, 3) := by decide +kernel
theorem dX3_goesOn_31 : decode cX3_goesOn 31 = .ok (.iconst 2, 1) := by decide +kernel
theorem dX3_goesOn_32 : decode cX3_goesOn 32 = .ok (.iadd, 1) := by decide +kernel
theorem dX3_goesOn_33 : decode cX3_goesOn 33 = .ok (.invokevirtual 82, 3) := by decide +kernel
theorem dX3_goesOn_36 : decode cX3_goesOn 36 = .ok (.iadd, 1) := by decide +kernel
theorem dX3_goesOn_37 : decode cX3_goesOn 37 = .ok (.putfield 55, 3) := by decide +kernel
theorem dX3_goesOn_40 : decode cX3_goesOn 40 = .ok (.aload_n 0, 1) := by decide +kernel
theorem dX3_goesOn_41 : decode cX3_goesOn 41 = .ok (.dup, 1) := by decide +kernel
theorem dX3_goesOn_42 : decode cX3_goesOn 42 = .ok (.getfield 52, 3) := by decide +kernel
theorem dX3_goesOn_45 : decode cX3_goesOn 45 = .ok (.aload_n 0, 1) := by decide +kernel
theorem dX3_goesOn_46 : decode cX3_goesOn 46 = .ok (.getfield 26, 3) := by decide +kernel
theorem dX3_goesOn_49 : decode cX3_goesOn 49 = .ok (.aload_n 0, 1) := by decide +kernel
theorem dX3_goesOn_50 : decode cX3_goesOn 50 = .ok (.getfield 45, 3) := by decide +kernel
theorem dX3_goesOn_53 : decode cX3_goesOn 53 = .ok (.iconst 3, 1) := by decide +kernel
theorem dX3_goesOn_54 : decode cX3_goesOn 54 = .ok (.iadd, 1) := by decide +kernel
theorem dX3_goesOn_55 : decode cX3_goesOn 55 = .ok (.invokevirtual 82, 3) := by decide +kernel
theorem dX3_goesOn_58 : decode cX3_goesOn 58 = .ok (.iadd, 1) := by decide +kernel
theorem dX3_goesOn_59 : decode cX3_goesOn 59 = .ok (.putfield 52, 3) := by decide +kernel
theorem dX3_goesOn_62 : decode cX3_goesOn 62 = .ok (.aload_n 0, 1) := by decide +kernel
theorem dX3_goesOn_63 : decode cX3_goesOn 63 = .ok (.dup, 1) := by decide +kernel
theorem dX3_goesOn_64 : decode cX3_goesOn 64 = .ok (.getfield 45, 3) := by decide +kernel
theorem dX3_goesOn_67 : decode cX3_goesOn 67 = .ok (.iconst 4, 1) := by decide +kernel
theorem dX3_goesOn_68 : decode cX3_goesOn 68 = .ok (.iadd, 1) := by decide +kernel
theorem dX3_goesOn_69 : decode cX3_goesOn 69 = .ok (.putfield 45, 3) := by decide +kernel
theorem dX3_goesOn_72 : decode cX3_goesOn 72 = .ok (.iconst 1, 1) := by decide +kernel
theorem dX3_goesOn_73 : decode cX3_goesOn 73 = .ok (.ireturn, 1) := by decide +kernel
theorem dX3_copiesTimes_0 : decode cX3_copiesTimes 0 = .ok (.iconst 0, 1) := by decide +kernel
theorem dX3_copiesTimes_1 : decode cX3_copiesTimes 1 = .ok (.istore 4, 2) := by decide +kernel
theorem dX3_copiesTimes_3 : decode cX3_copiesTimes 3 = .ok (.iload 4, 2) := by decide +kernel
theorem dX3_copiesTimes_5 : decode cX3_copiesTimes 5 = .ok (.iload_n 3, 1) := by decide +kernel
theorem dX3_copiesTimes_6 : decode cX3_copiesTimes 6 = .ok (.if_icmp .ge 20, 3) := by decide +kernel
theorem dX3_copiesTimes_9 : decode cX3_copiesTimes 9 = .ok (.aload_n 0, 1) := by decide +kernel
theorem dX3_copiesTimes_10 : decode cX3_copiesTimes 10 = .ok (.iload_n 1, 1) := by decide +kernel
theorem dX3_copiesTimes_11 : decode cX3_copiesTimes 11 = .ok (.iload_n 2, 1) := by decide +kernel
theorem dX3_copiesTimes_12 : decode cX3_copiesTimes 12 = .ok (.invokevirtual 96, 3) := by decide +kernel
theorem dX3_copiesTimes_15 : decode cX3_copiesTimes 15 = .ok (.ifCond .ne 5, 3) := by decide +kernel
theorem dX3_copiesTimes_18 : decode cX3_copiesTimes 18 = .ok (.iconst 0, 1) := by decide +kernel
theorem dX3_copiesTimes_19 : decode cX3_copiesTimes 19 = .ok (.ireturn, 1) := by decide +kernel
theorem dX3_copiesTimes_20 : decode cX3_copiesTimes 20 = .ok (.iinc 4 1, 3) := by decide +kernel
theorem dX3_copiesTimes_23 : decode cX3_copiesTimes 23 = .ok (.goto (-20), 3) := by decide +kernel
theorem dX3_copiesTimes_26 : decode cX3_copiesTimes 26 = .ok (.aload_n 0, 1) := by decide +kernel
theorem dX3_copiesTimes_27 : decode cX3_copiesTimes 27 = .ok (.iload_n 1, 1) := by decide +kernel
theorem dX3_copiesTimes_28 : decode cX3_copiesTimes 28 = .ok (.iload_n 2, 1) := by decide +kernel
theorem dX3_copiesTimes_29 : decode cX3_copiesTimes 29 = .ok (.iadd, 1) := by decide +kernel
theorem dX3_copiesTimes_30 : decode cX3_copiesTimes 30 = .ok (.putfield 45, 3) := by decide +kernel
theorem dX3_copiesTimes_33 : decode cX3_copiesTimes 33 = .ok (.iconst 1, 1) := by decide +kernel
theorem dX3_copiesTimes_34 : decode cX3_copiesTimes 34 = .ok (.ireturn, 1) := by decide +kernel
theorem dX3_copies_0 : decode cX3_copies 0 = .ok (.aload_n 0, 1) := by decide +kernel
theorem dX3_copies_1 : decode cX3_copies 1 = .ok (.getfield 52, 3) := by decide +kernel
theorem dX3_copies_4 : decode cX3_copies 4 = .ok (.aload_n 0, 1) := by decide +kernel
theorem dX3_copies_5 : decode cX3_copies 5 = .ok (.getfield 22, 3) := by decide +kernel
theorem dX3_copies_8 : decode cX3_copies 8 = .ok (.getfield 100, 3) := by decide +kernel
theorem dX3_copies_11 : decode cX3_copies 11 = .ok (.imul, 1) := by decide +kernel
theorem dX3_copies_12 : decode cX3_copies 12 = .ok (.aload_n 0, 1) := by decide +kernel
theorem dX3_copies_13 : decode cX3_copies 13 = .ok (.getfield 55, 3) := by decide +kernel
theorem dX3_copies_16 : decode cX3_copies 16 = .ok (.iadd, 1) := by decide +kernel
theorem dX3_copies_17 : decode cX3_copies 17 = .ok (.istore_n 3, 1) := by decide +kernel
theorem dX3_copies_18 : decode cX3_copies 18 = .ok (.iload_n 2, 1) := by decide +kernel
theorem dX3_copies_19 : decode cX3_copies 19 = .ok (.aload_n 0, 1) := by decide +kernel
theorem dX3_copies_20 : decode cX3_copies 20 = .ok (.getfield 26, 3) := by decide +kernel
theorem dX3_copies_23 : decode cX3_copies 23 = .ok (.getfield 76, 3) := by decide +kernel
theorem dX3_copies_26 : decode cX3_copies 26 = .ok (.iload_n 1, 1) := by decide +kernel
theorem dX3_copies_27 : decode cX3_copies 27 = .ok (.isub, 1) := by decide +kernel
theorem dX3_copies_28 : decode cX3_copies 28 = .ok (.if_icmp .gt 13, 3) := by decide +kernel
theorem dX3_copies_31 : decode cX3_copies 31 = .ok (.iload_n 2, 1) := by decide +kernel
theorem dX3_copies_32 : decode cX3_copies 32 = .ok (.aload_n 0, 1) := by decide +kernel
theorem dX3_copies_33 : decode cX3_copies 33 = .ok (.getfield 15, 3) := by decide +kernel
theorem dX3_copies_36 : decode cX3_copies 36 = .ok (.iload_n 3, 1) := by decide +kernel
theorem dX3_copies_37 : decode cX3_copies 37 = .ok (.isub, 1) := by decide +kernel
theorem dX3_copies_38 : decode cX3_copies 38 = .ok (.if_icmp .le 5, 3) := by decide +kernel
theorem dX3_copies_41 : decode cX3_copies 41 = .ok (.iconst 0, 1) := by decide +kernel
theorem dX3_copies_42 : decode cX3_copies 42 = .ok (.ireturn, 1) := by decide +kernel
theorem dX3_copies_43 : decode cX3_copies 43 = .ok (.aload_n 0, 1) := by decide +kernel
theorem dX3_copies_44 : decode cX3_copies 44 = .ok (.getfield 26, 3) := by decide +kernel
theorem dX3_copies_47 : decode cX3_copies 47 = .ok (.getfield 103, 3) := by decide +kernel
theorem dX3_copies_50 : decode cX3_copies 50 = .ok (.iload_n 1, 1) := by decide +kernel
theorem dX3_copies_51 : decode cX3_copies 51 = .ok (.aload_n 0, 1) := by decide +kernel
theorem dX3_copies_52 : decode cX3_copies 52 = .ok (.getfield 9, 3) := by decide +kernel
theorem dX3_copies_55 : decode cX3_copies 55 = .ok (.iload_n 3, 1) := by decide +kernel
theorem dX3_copies_56 : decode cX3_copies 56 = .ok (.iload_n 2, 1) := by decide +kernel
theorem dX3_copies_57 : decode cX3_copies 57 = .ok (.invokestatic 104, 3) := by decide +kernel
theorem dX3_copies_60 : decode cX3_copies 60 = .ok (.aload_n 0, 1) := by decide +kernel
theorem dX3_copies_61 : decode cX3_copies 61 = .ok (.aload_n 0, 1) := by decide +kernel
theorem dX3_copies_62 : decode cX3_copies 62 = .ok (.getfield 19, 3) := by decide +kernel
theorem dX3_copies_65 : decode cX3_copies 65 = .ok (.iload_n 3, 1) := by decide +kernel
theorem dX3_copies_66 : decode cX3_copies 66 = .ok (.iload_n 2, 1) := by decide +kernel
theorem dX3_copies_67 : decode cX3_copies 67 = .ok (.iadd, 1) := by decide +kernel
theorem dX3_copies_68 : decode cX3_copies 68 = .ok (.invokestatic 42, 3) := by decide +kernel
theorem dX3_copies_71 : decode cX3_copies 71 = .ok (.putfield 19, 3) := by decide +kernel
theorem dX3_copies_74 : decode cX3_copies 74 = .ok (.aload_n 0, 1) := by decide +kernel
theorem dX3_copies_75 : decode cX3_copies 75 = .ok (.dup, 1) := by decide +kernel
theorem dX3_copies_76 : decode cX3_copies 76 = .ok (.getfield 55, 3) := by decide +kernel
theorem dX3_copies_79 : decode cX3_copies 79 = .ok (.iload_n 2, 1) := by decide +kernel
theorem dX3_copies_80 : decode cX3_copies 80 = .ok (.iadd, 1) := by decide +kernel
theorem dX3_copies_81 : decode cX3_copies 81 = .ok (.putfield 55, 3) := by decide +kernel
theorem dX3_copies_84 : decode cX3_copies 84 = .ok (.iconst 1, 1) := by decide +kernel
theorem dX3_copies_85 : decode cX3_copies 85 = .ok (.ireturn, 1) := by decide +kernel
