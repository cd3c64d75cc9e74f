theorem dX2_init_0 : decode cX2_init 0 = .ok (.aload_n 0, 1) := by decide +kernel
theorem dX2_init_1 : decode cX2_init 1 = .ok (.invokespecial 3, 3) := by decide +kernel
theorem dX2_init_4 : decode cX2_init 4 = .ok (.aload_n 0, 1) := by decide +kernel
theorem dX2_init_5 : decode cX2_init 5 = .ok (.new 9, 3) := by decide +kernel
theorem dX2_init_8 : decode cX2_init 8 = .ok (.dup, 1) := by decide +kernel
theorem dX2_init_9 : decode cX2_init 9 = .ok (.sipush 1000, 3) := by decide +kernel
theorem dX2_init_12 : decode cX2_init 12 = .ok (.invokespecial 11, 3) := by decide +kernel
theorem dX2_init_15 : decode cX2_init 15 = .ok (.putfield 14, 3) := by decide +kernel
theorem dX2_init_18 : decode cX2_init 18 = .ok (.aload_n 0, 1) := by decide +kernel
theorem dX2_init_19 : decode cX2_init 19 = .ok (.sipush 240, 3) := by decide +kernel
theorem dX2_init_22 : decode cX2_init 22 = .ok (.newarray .int, 2) := by decide +kernel
theorem dX2_init_24 : decode cX2_init 24 = .ok (.putfield 20, 3) := by decide +kernel
theorem dX2_init_27 : decode cX2_init 27 = .ok (.aload_n 0, 1) := by decide +kernel
theorem dX2_init_28 : decode cX2_init 28 = .ok (.sipush 240, 3) := by decide +kernel
theorem dX2_init_31 : decode cX2_init 31 = .ok (.newarray .int, 2) := by decide +kernel
theorem dX2_init_33 : decode cX2_init 33 = .ok (.putfield 24, 3) := by decide +kernel
theorem dX2_init_36 : decode cX2_init 36 = .ok (.aload_n 0, 1) := by decide +kernel
theorem dX2_init_37 : decode cX2_init 37 = .ok (.sipush 241, 3) := by decide +kernel
theorem dX2_init_40 : decode cX2_init 40 = .ok (.newarray .int, 2) := by decide +kernel
theorem dX2_init_42 : decode cX2_init 42 = .ok (.putfield 27, 3) := by decide +kernel
theorem dX2_init_45 : decode cX2_init 45 = .ok (.aload_n 0, 1) := by decide +kernel
theorem dX2_init_46 : decode cX2_init 46 = .ok (.sipush 240, 3) := by decide +kernel
theorem dX2_init_49 : decode cX2_init 49 = .ok (.newarray .int, 2) := by decide +kernel
theorem dX2_init_51 : decode cX2_init 51 = .ok (.putfield 30, 3) := by decide +kernel
theorem dX2_init_54 : decode cX2_init 54 = .ok (.aload_n 0, 1) := by decide +kernel
theorem dX2_init_55 : decode cX2_init 55 = .ok (.sipush 240, 3) := by decide +kernel
theorem dX2_init_58 : decode cX2_init 58 = .ok (.newarray .int, 2) := by decide +kernel
theorem dX2_init_60 : decode cX2_init 60 = .ok (.putfield 33, 3) := by decide +kernel
theorem dX2_init_63 : decode cX2_init 63 = .ok (.aload_n 0, 1) := by decide +kernel
theorem dX2_init_64 : decode cX2_init 64 = .ok (.aload_n 1, 1) := by decide +kernel
theorem dX2_init_65 : decode cX2_init 65 = .ok (.putfield 36, 3) := by decide +kernel
theorem dX2_init_68 : decode cX2_init 68 = .ok (.return_, 1) := by decide +kernel
theorem dX2_make_0 : decode cX2_make 0 = .ok (.aload_n 0, 1) := by decide +kernel
theorem dX2_make_1 : decode cX2_make 1 = .ok (.getfield 14, 3) := by decide +kernel
theorem dX2_make_4 : decode cX2_make 4 = .ok (.iconst 0, 1) := by decide +kernel
theorem dX2_make_5 : decode cX2_make 5 = .ok (.putfield 40, 3) := by decide +kernel
theorem dX2_make_8 : decode cX2_make 8 = .ok (.aload_n 0, 1) := by decide +kernel
theorem dX2_make_9 : decode cX2_make 9 = .ok (.aload_n 1, 1) := by decide +kernel
theorem dX2_make_10 : decode cX2_make 10 = .ok (.invokevirtual 44, 3) := by decide +kernel
theorem dX2_make_13 : decode cX2_make 13 = .ok (.iconst 1, 1) := by decide +kernel
theorem dX2_make_14 : decode cX2_make 14 = .ok (.aload_n 0, 1) := by decide +kernel
theorem dX2_make_15 : decode cX2_make 15 = .ok (.getfield 36, 3) := by decide +kernel
theorem dX2_make_18 : decode cX2_make 18 = .ok (.getfield 48, 3) := by decide +kernel
theorem dX2_make_21 : decode cX2_make 21 = .ok (.iconst 2, 1) := by decide +kernel
theorem dX2_make_22 : decode cX2_make 22 = .ok (.if_icmp .ne 13, 3) := by decide +kernel
theorem dX2_make_25 : decode cX2_make 25 = .ok (.aload_n 0, 1) := by decide +kernel
theorem dX2_make_26 : decode cX2_make 26 = .ok (.getfield 36, 3) := by decide +kernel
theorem dX2_make_29 : decode cX2_make 29 = .ok (.getfield 53, 3) := by decide +kernel
theorem dX2_make_32 : decode cX2_make 32 = .ok (.goto 7, 3) := by decide +kernel
theorem dX2_make_35 : decode cX2_make 35 = .ok (.aload_n 0, 1) := by decide +kernel
theorem dX2_make_36 : decode cX2_make 36 = .ok (.getfield 56, 3) := by decide +kernel
theorem dX2_make_39 : decode cX2_make 39 = .ok (.invokestatic 59, 3) := by decide +kernel
theorem dX2_make_42 : decode cX2_make 42 = .ok (.istore_n 3, 1) := by decide +kernel
theorem dX2_make_43 : decode cX2_make 43 = .ok (.iconst 0, 1) := by decide +kernel
theorem dX2_make_44 : decode cX2_make 44 = .ok (.istore 4, 2) := by decide +kernel
theorem dX2_make_46 : decode cX2_make 46 = .ok (.iload 4, 2) := by decide +kernel
theorem dX2_make_48 : decode cX2_make 48 = .ok (.aload_n 0, 1) := by decide +kernel
theorem dX2_make_49 : decode cX2_make 49 = .ok (.getfield 56, 3) := by decide +kernel
theorem dX2_make_52 : decode cX2_make 52 = .ok (.if_icmp .ge 30, 3) := by decide +kernel
theorem dX2_make_55 : decode cX2_make 55 = .ok (.aload_n 0, 1) := by decide +kernel
theorem dX2_make_56 : decode cX2_make 56 = .ok (.iload 4, 2) := by decide +kernel
theorem dX2_make_58 : decode cX2_make 58 = .ok (.aload_n 0, 1) := by decide +kernel
theorem dX2_make_59 : decode cX2_make 59 = .ok (.getfield 56, 3) := by decide +kernel
theorem dX2_make_62 : decode cX2_make 62 = .ok (.iload 4, 2) := by decide +kernel
theorem dX2_make_64 : decode cX2_make 64 = .ok (.iload_n 3, 1) := by decide +kernel
theorem dX2_make_65 : decode cX2_make 65 = .ok (.iadd, 1) := by decide +kernel
theorem dX2_make_66 : decode cX2_make 66 = .ok (.invokestatic 65, 3) := by decide +kernel
theorem dX2_make_69 : decode cX2_make 69 = .ok (.iload_n 2, 1) := by decide +kernel
theorem dX2_make_70 : decode cX2_make 70 = .ok (.invokevirtual 68, 3) := by decide +kernel
theorem dX2_make_73 : decode cX2_make 73 = .ok (.iload 4, 2) := by decide +kernel
theorem dX2_make_75 : decode cX2_make 75 = .ok (.iload_n 3, 1) := by decide +kernel
theorem dX2_make_76 : decode cX2_make 76 = .ok (.iadd, 1) := by decide +kernel
theorem dX2_make_77 : decode cX2_make 77 = .ok (.istore 4, 2) := by decide +kernel
theorem dX2_make_79 : decode cX2_make 79 = .ok (.goto (-33), 3) := by decide +kernel
theorem dX2_make_82 : decode cX2_make 82 = .ok (.aload_n 0, 1) := by decide +kernel
theorem dX2_make_83 : decode cX2_make 83 = .ok (.invokevirtual 72, 3) := by decide +kernel
theorem dX2_make_86 : decode cX2_make 86 = .ok (.aload_n 0, 1) := by decide +kernel
theorem dX2_make_87 : decode cX2_make 87 = .ok (.getfield 14, 3) := by decide +kernel
theorem dX2_make_90 : decode cX2_make 90 = .ok (.getfield 40, 3) := by decide +kernel
theorem dX2_make_93 : decode cX2_make 93 = .ok (.ireturn, 1) := by decide +kernel
theorem dX2_readUnits_0 : decode cX2_readUnits 0 = .ok (.aload_n 0, 1) := by decide +kernel
theorem dX2_readUnits_1 : decode cX2_readUnits 1 = .ok (.aload_n 0, 1) := by decide +kernel
theorem dX2_readUnits_2 : decode cX2_readUnits 2 = .ok (.getfield 36, 3) := by decide +kernel
theorem dX2_readUnits_5 : decode cX2_readUnits 5 = .ok (.aload_n 1, 1) := by decide +kernel
theorem dX2_readUnits_6 : decode cX2_readUnits 6 = .ok (.getfield 40, 3) := by decide +kernel
theorem dX2_readUnits_9 : decode cX2_readUnits 9 = .ok (.invokevirtual 75, 3) := by decide +kernel
theorem dX2_readUnits_12 : decode cX2_readUnits 12 = .ok (.putfield 56, 3) := by decide +kernel
theorem dX2_readUnits_15 : decode cX2_readUnits 15 = .ok (.iconst 0, 1) := by decide +kernel
theorem dX2_readUnits_16 : decode cX2_readUnits 16 = .ok (.istore_n 2, 1) := by decide +kernel
theorem dX2_readUnits_17 : decode cX2_readUnits 17 = .ok (.iconst 0, 1) := by decide +kernel
theorem dX2_readUnits_18 : decode cX2_readUnits 18 = .ok (.istore_n 3, 1) := by decide +kernel
theorem dX2_readUnits_19 : decode cX2_readUnits 19 = .ok (.iload_n 3, 1) := by decide +kernel
theorem dX2_readUnits_20 : decode cX2_readUnits 20 = .ok (.aload_n 0, 1) := by decide +kernel
theorem dX2_readUnits_21 : decode cX2_readUnits 21 = .ok (.getfield 56, 3) := by decide +kernel
theorem dX2_readUnits_24 : decode cX2_readUnits 24 = .ok (.if_icmp .ge 56, 3) := by decide +kernel
theorem dX2_readUnits_27 : decode cX2_readUnits 27 = .ok (.aload_n 0, 1) := by decide +kernel
theorem dX2_readUnits_28 : decode cX2_readUnits 28 = .ok (.getfield 36, 3) := by decide +kernel
theorem dX2_readUnits_31 : decode cX2_readUnits 31 = .ok (.aload_n 1, 1) := by decide +kernel
theorem dX2_readUnits_32 : decode cX2_readUnits 32 = .ok (.iload_n 3, 1) := by decide +kernel
theorem dX2_readUnits_33 : decode cX2_readUnits 33 = .ok (.invokevirtual 79, 3) := by decide +kernel
theorem dX2_readUnits_36 : decode cX2_readUnits 36 = .ok (.istore 4, 2) := by decide +kernel
theorem dX2_readUnits_38 : decode cX2_readUnits 38 = .ok (.aload_n 0, 1) := by decide +kernel
theorem dX2_readUnits_39 : decode cX2_readUnits 39 = .ok (.getfield 20, 3) := by decide +kernel
theorem dX2_readUnits_42 : decode cX2_readUnits 42 = .ok (.iload_n 3, 1) := by decide +kernel
theorem dX2_readUnits_43 : decode cX2_readUnits 43 = .ok (.aload_n 0, 1) := by decide +kernel
theorem dX2_readUnits_44 : decode cX2_readUnits 44 = .ok (.getfield 36, 3) := by decide +kernel
theorem dX2_readUnits_47 : decode cX2_readUnits 47 = .ok (.getfield 83, 3) := by decide +kernel
theorem dX2_readUnits_50 : decode cX2_readUnits 50 = .ok (.iconst 1, 1) := by decide +kernel
theorem dX2_readUnits_51 : decode cX2_readUnits 51 = .ok (.if_icmp .ne 17, 3) := by decide +kernel
theorem dX2_readUnits_54 : decode cX2_readUnits 54 = .ok (.aload_n 0, 1) := by decide +kernel
theorem dX2_readUnits_55 : decode cX2_readUnits 55 = .ok (.getfield 36, 3) := by decide +kernel
theorem dX2_readUnits_58 : decode cX2_readUnits 58 = .ok (.iload 4, 2) := by decide +kernel
theorem dX2_readUnits_60 : decode cX2_readUnits 60 = .ok (.iload_n 2, 1) := by decide +kernel
theorem dX2_readUnits_61 : decode cX2_readUnits 61 = .ok (.isub, 1) := by decide +kernel
theorem dX2_readUnits_62 : decode cX2_readUnits 62 = .ok (.invokevirtual 86, 3) := by decide +kernel
theorem dX2_readUnits_65 : decode cX2_readUnits 65 = .ok (.goto 5, 3) := by decide +kernel
theorem dX2_readUnits_68 : decode cX2_readUnits 68 = .ok (.iload 4, 2) := by decide +kernel
theorem dX2_readUnits_70 : decode cX2_readUnits 70 = .ok (.iastore, 1) := by decide +kernel
theorem dX2_readUnits_71 : decode cX2_readUnits 71 = .ok (.iload 4, 2) := by decide +kernel
theorem dX2_readUnits_73 : decode cX2_readUnits 73 = .ok (.istore_n 2, 1) := by decide +kernel
theorem dX2_readUnits_74 : decode cX2_readUnits 74 = .ok (.iinc 3 1, 3) := by decide +kernel
theorem dX2_readUnits_77 : decode cX2_readUnits 77 = .ok (.goto (-58), 3) := by decide +kernel
theorem dX2_readUnits_80 : decode cX2_readUnits 80 = .ok (.return_, 1) := by decide +kernel
theorem dX2_addStretch_0 : decode cX2_addStretch 0 = .ok (.aload_n 0, 1) := by decide +kernel
theorem dX2_addStretch_1 : decode cX2_addStretch 1 = .ok (.iload_n 2, 1) := by decide +kernel
theorem dX2_addStretch_2 : decode cX2_addStretch 2 = .ok (.putfield 89, 3) := by decide +kernel
theorem dX2_addStretch_5 : decode cX2_addStretch 5 = .ok (.aload_n 0, 1) := by decide +kernel
theorem dX2_addStretch_6 : decode cX2_addStretch 6 = .ok (.iload_n 1, 1) := by decide +kernel
theorem dX2_addStretch_7 : decode cX2_addStretch 7 = .ok (.invokevirtual 92, 3) := by decide +kernel
theorem dX2_addStretch_10 : decode cX2_addStretch 10 = .ok (.iload_n 3, 1) := by decide +kernel
theorem dX2_addStretch_11 : decode cX2_addStretch 11 = .ok (.iconst 1, 1) := by decide +kernel
theorem dX2_addStretch_12 : decode cX2_addStretch 12 = .ok (.if_icmp .ne 8, 3) := by decide +kernel
theorem dX2_addStretch_15 : decode cX2_addStretch 15 = .ok (.aload_n 0, 1) := by decide +kernel
theorem dX2_addStretch_16 : decode cX2_addStretch 16 = .ok (.iload_n 1, 1) := by decide +kernel
theorem dX2_addStretch_17 : decode cX2_addStretch 17 = .ok (.invokevirtual 95, 3) := by decide +kernel
theorem dX2_addStretch_20 : decode cX2_addStretch 20 = .ok (.aload_n 0, 1) := by decide +kernel
theorem dX2_addStretch_21 : decode cX2_addStretch 21 = .ok (.iload_n 1, 1) := by decide +kernel
theorem dX2_addStretch_22 : decode cX2_addStretch 22 = .ok (.iload_n 3, 1) := by decide +kernel
theorem dX2_addStretch_23 : decode cX2_addStretch 23 = .ok (.invokevirtual 98, 3) := by decide +kernel
theorem dX2_addStretch_26 : decode cX2_addStretch 26 = .ok (.aload_n 0, 1) := by decide +kernel
theorem dX2_addStretch_27 : decode cX2_addStretch 27 = .ok (.getfield 36, 3) := by decide +kernel
theorem dX2_addStretch_30 : decode cX2_addStretch 30 = .ok (.getfield 48, 3) := by decide +kernel
theorem dX2_addStretch_33 : decode cX2_addStretch 33 = .ok (.iconst 2, 1) := by decide +kernel
theorem dX2_addStretch_34 : decode cX2_addStretch 34 = .ok (.if_icmp .ne 19, 3) := by decide +kernel
theorem dX2_addStretch_37 : decode cX2_addStretch 37 = .ok (.aload_n 0, 1) := by decide +kernel
theorem dX2_addStretch_38 : decode cX2_addStretch 38 = .ok (.getfield 14, 3) := by decide +kernel
theorem dX2_addStretch_41 : decode cX2_addStretch 41 = .ok (.iconst 0, 1) := by decide +kernel
theorem dX2_addStretch_42 : decode cX2_addStretch 42 = .ok (.invokevirtual 102, 3) := by decide +kernel
theorem dX2_addStretch_45 : decode cX2_addStretch 45 = .ok (.aload_n 0, 1) := by decide +kernel
theorem dX2_addStretch_46 : decode cX2_addStretch 46 = .ok (.getfield 14, 3) := by decide +kernel
theorem dX2_addStretch_49 : decode cX2_addStretch 49 = .ok (.iconst 0, 1) := by decide +kernel
theorem dX2_addStretch_50 : decode cX2_addStretch 50 = .ok (.invokevirtual 102, 3) := by decide +kernel
theorem dX2_addStretch_53 : decode cX2_addStretch 53 = .ok (.return_, 1) := by decide +kernel
theorem dX2_measure_0 : decode cX2_measure 0 = .ok (.aload_n 0, 1) := by decide +kernel
theorem dX2_measure_1 : decode cX2_measure 1 = .ok (.aload_n 0, 1) := by decide +kernel
theorem dX2_measure_2 : decode cX2_measure 2 = .ok (.getfield 89, 3) := by decide +kernel
theorem dX2_measure_5 : decode cX2_measure 5 = .ok (.putfield 105, 3) := by decide +kernel
theorem dX2_measure_8 : decode cX2_measure 8 = .ok (.aload_n 0, 1) := by decide +kernel
theorem dX2_measure_9 : decode cX2_measure 9 = .ok (.getfield 89, 3) := by decide +kernel
theorem dX2_measure_12 : decode cX2_measure 12 = .ok (.iconst 1, 1) := by decide +kernel
theorem dX2_measure_13 : decode cX2_measure 13 = .ok (.isub, 1) := by decide +kernel
theorem dX2_measure_14 : decode cX2_measure 14 = .ok (.istore_n 2, 1) := by decide +kernel
theorem dX2_measure_15 : decode cX2_measure 15 = .ok (.iload_n 2, 1) := by decide +kernel
theorem dX2_measure_16 : decode cX2_measure 16 = .ok (.iload_n 1, 1) := by decide +kernel
theorem dX2_measure_17 : decode cX2_measure 17 = .ok (.if_icmp .lt 101, 3) := by decide +kernel
theorem dX2_measure_20 : decode cX2_measure 20 = .ok (.iload_n 2, 1) := by decide +kernel
theorem dX2_measure_21 : decode cX2_measure 21 = .ok (.iconst 1, 1) := by decide +kernel
theorem dX2_measure_22 : decode cX2_measure 22 = .ok (.iadd, 1) := by decide +kernel
theorem dX2_measure_23 : decode cX2_measure 23 = .ok (.aload_n 0, 1) := by decide +kernel
theorem dX2_measure_24 : decode cX2_measure 24 = .ok (.getfield 89, 3) := by decide +kernel
theorem dX2_measure_27 : decode cX2_measure 27 = .ok (.if_icmp .ge 24, 3) := by decide +kernel
theorem dX2_measure_30 : decode cX2_measure 30 = .ok (.aload_n 0, 1) := by decide +kernel
theorem dX2_measure_31 : decode cX2_measure 31 = .ok (.getfield 20, 3) := by decide +kernel
theorem dX2_measure_34 : decode cX2_measure 34 = .ok (.iload_n 2, 1) := by decide +kernel
theorem dX2_measure_35 : decode cX2_measure 35 = .ok (.iaload, 1) := by decide +kernel
theorem dX2_measure_36 : decode cX2_measure 36 = .ok (.aload_n 0, 1) := by decide +kernel
theorem dX2_measure_37 : decode cX2_measure 37 = .ok (.getfield 20, 3) := by decide +kernel
theorem dX2_measure_40 : decode cX2_measure 40 = .ok (.iload_n 2, 1) := by decide +kernel
theorem dX2_measure_41 : decode cX2_measure 41 = .ok (.iconst 1, 1) := by decide +kernel
theorem dX2_measure_42 : decode cX2_measure 42 = .ok (.iadd, 1) := by decide +kernel
theorem dX2_measure_43 : decode cX2_measure 43 = .ok (.iaload, 1) := by decide +kernel
theorem dX2_measure_44 : decode cX2_measure 44 = .ok (.if_icmp .ne 7, 3) := by decide +kernel
theorem dX2_measure_47 : decode cX2_measure 47 = .ok (.iconst 1, 1) := by decide +kernel
theorem dX2_measure_48 : decode cX2_measure 48 = .ok (.goto 4, 3) := by decide +kernel
theorem dX2_measure_51 : decode cX2_measure 51 = .ok (.iconst 0, 1) := by decide +kernel
theorem dX2_measure_52 : decode cX2_measure 52 = .ok (.istore_n 3, 1) := by decide +kernel
theorem dX2_measure_53 : decode cX2_measure 53 = .ok (.aload_n 0, 1) := by decide +kernel
theorem dX2_measure_54 : decode cX2_measure 54 = .ok (.getfield 24, 3) := by decide +kernel
theorem dX2_measure_57 : decode cX2_measure 57 = .ok (.iload_n 2, 1) := by decide +kernel
theorem dX2_measure_58 : decode cX2_measure 58 = .ok (.iload_n 3, 1) := by decide +kernel
theorem dX2_measure_59 : decode cX2_measure 59 = .ok (.ifCond .eq 16, 3) := by decide +kernel
theorem dX2_measure_62 : decode cX2_measure 62 = .ok (.aload_n 0, 1) := by decide +kernel
theorem dX2_measure_63 : decode cX2_measure 63 = .ok (.getfield 24, 3) := by decide +kernel
theorem dX2_measure_66 : decode cX2_measure 66 = .ok (.iload_n 2, 1) := by decide +kernel
theorem dX2_measure_67 : decode cX2_measure 67 = .ok (.iconst 1, 1) := by decide +kernel
theorem dX2_measure_68 : decode cX2_measure 68 = .ok (.iadd, 1) := by decide +kernel
theorem dX2_measure_69 : decode cX2_measure 69 = .ok (.iaload, 1) := by decide +kernel
theorem dX2_measure_70 : decode cX2_measure 70 = .ok (.iconst 1, 1) := by decide +kernel
theorem dX2_measure_71 : decode cX2_measure 71 = .ok (.iadd, 1) := by decide +kernel
theorem dX2_measure_72 : decode cX2_measure 72 = .ok (.goto 4, 3) := by decide +kernel
theorem dX2_measure_75 : decode cX2_measure 75 = .ok (.iconst 1, 1) := by decide +kernel
theorem dX2_measure_76 : decode cX2_measure 76 = .ok (.iastore, 1) := by decide +kernel
theorem dX2_measure_77 : decode cX2_measure 77 = .ok (.aload_n 0, 1) := by decide +kernel
theorem dX2_measure_78 : decode cX2_measure 78 = .ok (.getfield 36, 3) := by decide +kernel
theorem dX2_measure_81 : decode cX2_measure 81 = .ok (.getfield 48, 3) := by decide +kernel
theorem dX2_measure_84 : decode cX2_measure 84 = .ok (.iconst 2, 1) := by decide +kernel
theorem dX2_measure_85 : decode cX2_measure 85 = .ok (.if_icmp .ne 27, 3) := by decide +kernel
theorem dX2_measure_88 : decode cX2_measure 88 = .ok (.aload_n 0, 1) := by decide +kernel
theorem dX2_measure_89 : decode cX2_measure 89 = .ok (.getfield 105, 3) := by decide +kernel
theorem dX2_measure_92 : decode cX2_measure 92 = .ok (.iload_n 2, 1) := by decide +kernel
theorem dX2_measure_93 : decode cX2_measure 93 = .ok (.iconst 1, 1) := by decide +kernel
theorem dX2_measure_94 : decode cX2_measure 94 = .ok (.iadd, 1) := by decide +kernel
theorem dX2_measure_95 : decode cX2_measure 95 = .ok (.if_icmp .ne 17, 3) := by decide +kernel
theorem dX2_measure_98 : decode cX2_measure 98 = .ok (.aload_n 0, 1) := by decide +kernel
theorem dX2_measure_99 : decode cX2_measure 99 = .ok (.getfield 20, 3) := by decide +kernel
theorem dX2_measure_102 : decode cX2_measure 102 = .ok (.iload_n 2, 1) := by decide +kernel
theorem dX2_measure_103 : decode cX2_measure 103 = .ok (.iaload, 1) := by decide +kernel
theorem dX2_measure_104 : decode cX2_measure 104 = .ok (.ifCond .ne 8, 3) := by decide +kernel
theorem dX2_measure_107 : decode cX2_measure 107 = .ok (.aload_n 0, 1) := by decide +kernel
theorem dX2_measure_108 : decode cX2_measure 108 = .ok (.iload_n 2, 1) := by decide +kernel
theorem dX2_measure_109 : decode cX2_measure 109 = .ok (.putfield 105, 3) := by decide +kernel
theorem dX2_measure_112 : decode cX2_measure 112 = .ok (.iinc 2 (-1), 3) := by decide +kernel
theorem dX2_measure_115 : decode cX2_measure 115 = .ok (.goto (-100), 3) := by decide +kernel
theorem dX2_measure_118 : decode cX2_measure 118 = .ok (.return_, 1) := by decide +kernel
theorem dX2_addPieces_0 : decode cX2_addPieces 0 = .ok (.iload_n 1, 1) := by decide +kernel
theorem dX2_addPieces_1 : decode cX2_addPieces 1 = .ok (.istore_n 3, 1) := by decide +kernel
theorem dX2_addPieces_2 : decode cX2_addPieces 2 = .ok (.iconst 0, 1) := by decide +kernel
theorem dX2_addPieces_3 : decode cX2_addPieces 3 = .ok (.istore 4, 2) := by decide +kernel
theorem dX2_addPieces_5 : decode cX2_addPieces 5 = .ok (.iload 4, 2) := by decide +kernel
theorem dX2_addPieces_7 : decode cX2_addPieces 7 = .ok (.sipush 240, 3) := by decide +kernel
theorem dX2_addPieces_10 : decode cX2_addPieces 10 = .ok (.if_icmp .ge 52, 3) := by decide +kernel
theorem dX2_addPieces_13 : decode cX2_addPieces 13 = .ok (.iload_n 3, 1) := by decide +kernel
theorem dX2_addPieces_14 : decode cX2_addPieces 14 = .ok (.aload_n 0, 1) := by decide +kernel
theorem dX2_addPieces_15 : decode cX2_addPieces 15 = .ok (.getfield 89, 3) := by decide +kernel
theorem dX2_addPieces_18 : decode cX2_addPieces 18 = .ok (.if_icmp .ge 44, 3) := by decide +kernel
theorem dX2_addPieces_21 : decode cX2_addPieces 21 = .ok (.iload_n 2, 1) := by decide +kernel
theorem dX2_addPieces_22 : decode cX2_addPieces 22 = .ok (.ifCond .ne 8, 3) := by decide +kernel
theorem dX2_addPieces_25 : decode cX2_addPieces 25 = .ok (.aload_n 0, 1) := by decide +kernel
theorem dX2_addPieces_26 : decode cX2_addPieces 26 = .ok (.iload_n 3, 1) := by decide +kernel
theorem dX2_addPieces_27 : decode cX2_addPieces 27 = .ok (.invokevirtual 108, 3) := by decide +kernel
theorem dX2_addPieces_30 : decode cX2_addPieces 30 = .ok (.aload_n 0, 1) := by decide +kernel
theorem dX2_addPieces_31 : decode cX2_addPieces 31 = .ok (.getfield 30, 3) := by decide +kernel
theorem dX2_addPieces_34 : decode cX2_addPieces 34 = .ok (.iload_n 3, 1) := by decide +kernel
theorem dX2_addPieces_35 : decode cX2_addPieces 35 = .ok (.iaload, 1) := by decide +kernel
theorem dX2_addPieces_36 : decode cX2_addPieces 36 = .ok (.ifCond .ne 6, 3) := by decide +kernel
theorem dX2_addPieces_39 : decode cX2_addPieces 39 = .ok (.goto 23, 3) := by decide +kernel
theorem dX2_addPieces_42 : decode cX2_addPieces 42 = .ok (.aload_n 0, 1) := by decide +kernel
theorem dX2_addPieces_43 : decode cX2_addPieces 43 = .ok (.iload_n 3, 1) := by decide +kernel
theorem dX2_addPieces_44 : decode cX2_addPieces 44 = .ok (.invokevirtual 111, 3) := by decide +kernel
theorem dX2_addPieces_47 : decode cX2_addPieces 47 = .ok (.iload_n 3, 1) := by decide +kernel
theorem dX2_addPieces_48 : decode cX2_addPieces 48 = .ok (.aload_n 0, 1) := by decide +kernel
theorem dX2_addPieces_49 : decode cX2_addPieces 49 = .ok (.getfield 33, 3) := by decide +kernel
theorem dX2_addPieces_52 : decode cX2_addPieces 52 = .ok (.iload_n 3, 1) := by decide +kernel
theorem dX2_addPieces_53 : decode cX2_addPieces 53 = .ok (.iaload, 1) := by decide +kernel
theorem dX2_addPieces_54 : decode cX2_addPieces 54 = .ok (.iadd, 1) := by decide +kernel
theorem dX2_addPieces_55 : decode cX2_addPieces 55 = .ok (.istore_n 3, 1) := by decide +kernel
theorem dX2_addPieces_56 : decode cX2_addPieces 56 = .ok (.iinc 4 1, 3) := by decide +kernel
theorem dX2_addPieces_59 : decode cX2_addPieces 59 = .ok (.goto (-54), 3) := by decide +kernel
theorem dX2_addPieces_62 : decode cX2_addPieces 62 = .ok (.return_, 1) := by decide +kernel
theorem dX2_planFewest_0 : decode cX2_planFewest 0 = .ok (.aload_n 0, 1) := by decide +kernel
theorem dX2_planFewest_1 : decode cX2_planFewest 1 = .ok (.getfield 27, 3) := by decide +kernel
theorem dX2_planFewest_4 : decode cX2_planFewest 4 = .ok (.aload_n 0, 1) := by decide +kernel
theorem dX2_planFewest_5 : decode cX2_planFewest 5 = .ok (.getfield 89, 3) := by decide +kernel
theorem dX2_planFewest_8 : decode cX2_planFewest 8 = .ok (.aload_n 0, 1) := by decide +kernel
theorem dX2_planFewest_9 : decode cX2_planFewest 9 = .ok (.getfield 36, 3) := by decide +kernel
theorem dX2_planFewest_12 : decode cX2_planFewest 12 = .ok (.getfield 48, 3) := by decide +kernel
theorem dX2_planFewest_15 : decode cX2_planFewest 15 = .ok (.iconst 2, 1) := by decide +kernel
theorem dX2_planFewest_16 : decode cX2_planFewest 16 = .ok (.if_icmp .ne 7, 3) := by decide +kernel
theorem dX2_planFewest_19 : decode cX2_planFewest 19 = .ok (.iconst 2, 1) := by decide +kernel
theorem dX2_planFewest_20 : decode cX2_planFewest 20 = .ok (.goto 4, 3) := by decide +kernel
theorem dX2_planFewest_23 : decode cX2_planFewest 23 = .ok (.iconst 0, 1) := by decide +kernel
theorem dX2_planFewest_24 : decode cX2_planFewest 24 = .ok (.iastore, 1) := by decide +kernel
theorem dX2_planFewest_25 : decode cX2_planFewest 25 = .ok (.aload_n 0, 1) := by decide +kernel
theorem dX2_planFewest_26 : decode cX2_planFewest 26 = .ok (.getfield 89, 3) := by decide +kernel
theorem dX2_planFewest_29 : decode cX2_planFewest 29 = .ok (.iconst 1, 1) := by decide +kernel
theorem dX2_planFewest_30 : decode cX2_planFewest 30 = .ok (.isub, 1) := by decide +kernel
theorem dX2_planFewest_31 : decode cX2_planFewest 31 = .ok (.istore_n 2, 1) := by decide +kernel
theorem dX2_planFewest_32 : decode cX2_planFewest 32 = .ok (.iload_n 2, 1) := by decide +kernel
theorem dX2_planFewest_33 : decode cX2_planFewest 33 = .ok (.iload_n 1, 1) := by decide +kernel
theorem dX2_planFewest_34 : decode cX2_planFewest 34 = .ok (.if_icmp .lt 14, 3) := by decide +kernel
theorem dX2_planFewest_37 : decode cX2_planFewest 37 = .ok (.aload_n 0, 1) := by decide +kernel
theorem dX2_planFewest_38 : decode cX2_planFewest 38 = .ok (.iload_n 2, 1) := by decide +kernel
theorem dX2_planFewest_39 : decode cX2_planFewest 39 = .ok (.invokevirtual 114, 3) := by decide +kernel
theorem dX2_planFewest_42 : decode cX2_planFewest 42 = .ok (.iinc 2 (-1), 3) := by decide +kernel
theorem dX2_planFewest_45 : decode cX2_planFewest 45 = .ok (.goto (-13), 3) := by decide +kernel
theorem dX2_planFewest_48 : decode cX2_planFewest 48 = .ok (.return_, 1) := by decide +kernel
theorem dX2_chooseFewest_0 : decode cX2_chooseFewest 0 = .ok (.iload_n 1, 1) := by decide +kernel
theorem dX2_chooseFewest_1 : decode cX2_chooseFewest 1 = .ok (.aload_n 0, 1) := by decide +kernel
theorem dX2_chooseFewest_2 : decode cX2_chooseFewest 2 = .ok (.getfield 105, 3) := by decide +kernel
theorem dX2_chooseFewest_5 : decode cX2_chooseFewest 5 = .ok (.if_icmp .lt 18, 3) := by decide +kernel
theorem dX2_chooseFewest_8 : decode cX2_chooseFewest 8 = .ok (.aload_n 0, 1) := by decide +kernel
theorem dX2_chooseFewest_9 : decode cX2_chooseFewest 9 = .ok (.iload_n 1, 1) := by decide +kernel
theorem dX2_chooseFewest_10 : decode cX2_chooseFewest 10 = .ok (.iconst 0, 1) := by decide +kernel
theorem dX2_chooseFewest_11 : decode cX2_chooseFewest 11 = .ok (.iconst 0, 1) := by decide +kernel
theorem dX2_chooseFewest_12 : decode cX2_chooseFewest 12 = .ok (.invokevirtual 117, 3) := by decide +kernel
theorem dX2_chooseFewest_15 : decode cX2_chooseFewest 15 = .ok (.aload_n 0, 1) := by decide +kernel
theorem dX2_chooseFewest_16 : decode cX2_chooseFewest 16 = .ok (.getfield 27, 3) := by decide +kernel
theorem dX2_chooseFewest_19 : decode cX2_chooseFewest 19 = .ok (.iload_n 1, 1) := by decide +kernel
theorem dX2_chooseFewest_20 : decode cX2_chooseFewest 20 = .ok (.iconst 2, 1) := by decide +kernel
theorem dX2_chooseFewest_21 : decode cX2_chooseFewest 21 = .ok (.iastore, 1) := by decide +kernel
theorem dX2_chooseFewest_22 : decode cX2_chooseFewest 22 = .ok (.return_, 1) := by decide +kernel
theorem dX2_chooseFewest_23 : decode cX2_chooseFewest 23 = .ok (.aload_n 0, 1) := by decide +kernel
theorem dX2_chooseFewest_24 : decode cX2_chooseFewest 24 = .ok (.getfield 27, 3) := by decide +kernel
theorem dX2_chooseFewest_27 : decode cX2_chooseFewest 27 = .ok (.iload_n 1, 1) := by decide +kernel
theorem dX2_chooseFewest_28 : decode cX2_chooseFewest 28 = .ok (.ldc 120, 2) := by decide +kernel
theorem dX2_chooseFewest_30 : decode cX2_chooseFewest 30 = .ok (.iastore, 1) := by decide +kernel
theorem dX2_chooseFewest_31 : decode cX2_chooseFewest 31 = .ok (.aload_n 0, 1) := by decide +kernel
theorem dX2_chooseFewest_32 : decode cX2_chooseFewest 32 = .ok (.iload_n 1, 1) := by decide +kernel
theorem dX2_chooseFewest_33 : decode cX2_chooseFewest 33 = .ok (.invokevirtual 121, 3) := by decide +kernel
theorem dX2_chooseFewest_36 : decode cX2_chooseFewest 36 = .ok (.ifCond .eq 7, 3) := by decide +kernel
theorem dX2_chooseFewest_39 : decode cX2_chooseFewest 39 = .ok (.iconst 0, 1) := by decide +kernel
theorem dX2_chooseFewest_40 : decode cX2_chooseFewest 40 = .ok (.goto 16, 3) := by decide +kernel
theorem dX2_chooseFewest_43 : decode cX2_chooseFewest 43 = .ok (.aload_n 0, 1) := by decide +kernel
theorem dX2_chooseFewest_44 : decode cX2_chooseFewest 44 = .ok (.invokevirtual 125, 3) := by decide +kernel
theorem dX2_chooseFewest_47 : decode cX2_chooseFewest 47 = .ok (.aload_n 0, 1) := by decide +kernel
theorem dX2_chooseFewest_48 : decode cX2_chooseFewest 48 = .ok (.getfield 89, 3) := by decide +kernel
theorem dX2_chooseFewest_51 : decode cX2_chooseFewest 51 = .ok (.iload_n 1, 1) := by decide +kernel
theorem dX2_chooseFewest_52 : decode cX2_chooseFewest 52 = .ok (.isub, 1) := by decide +kernel
theorem dX2_chooseFewest_53 : decode cX2_chooseFewest 53 = .ok (.invokestatic 65, 3) := by decide +kernel
theorem dX2_chooseFewest_56 : decode cX2_chooseFewest 56 = .ok (.istore_n 2, 1) := by decide +kernel
theorem dX2_chooseFewest_57 : decode cX2_chooseFewest 57 = .ok (.iload_n 2, 1) := by decide +kernel
theorem dX2_chooseFewest_58 : decode cX2_chooseFewest 58 = .ok (.istore_n 3, 1) := by decide +kernel
theorem dX2_chooseFewest_59 : decode cX2_chooseFewest 59 = .ok (.iload_n 3, 1) := by decide +kernel
theorem dX2_chooseFewest_60 : decode cX2_chooseFewest 60 = .ok (.aload_n 0, 1) := by decide +kernel
theorem dX2_chooseFewest_61 : decode cX2_chooseFewest 61 = .ok (.invokevirtual 129, 3) := by decide +kernel
theorem dX2_chooseFewest_64 : decode cX2_chooseFewest 64 = .ok (.if_icmp .lt 21, 3) := by decide +kernel
theorem dX2_chooseFewest_67 : decode cX2_chooseFewest 67 = .ok (.aload_n 0, 1) := by decide +kernel
theorem dX2_chooseFewest_68 : decode cX2_chooseFewest 68 = .ok (.iload_n 1, 1) := by decide +kernel
theorem dX2_chooseFewest_69 : decode cX2_chooseFewest 69 = .ok (.iconst 1, 1) := by decide +kernel
theorem dX2_chooseFewest_70 : decode cX2_chooseFewest 70 = .ok (.iload_n 3, 1) := by decide +kernel
theorem dX2_chooseFewest_71 : decode cX2_chooseFewest 71 = .ok (.aload_n 0, 1) := by decide +kernel
theorem dX2_chooseFewest_72 : decode cX2_chooseFewest 72 = .ok (.iload_n 3, 1) := by decide +kernel
theorem dX2_chooseFewest_73 : decode cX2_chooseFewest 73 = .ok (.invokevirtual 132, 3) := by decide +kernel
theorem dX2_chooseFewest_76 : decode cX2_chooseFewest 76 = .ok (.invokevirtual 135, 3) := by decide +kernel
theorem dX2_chooseFewest_79 : decode cX2_chooseFewest 79 = .ok (.iinc 3 (-1), 3) := by decide +kernel
theorem dX2_chooseFewest_82 : decode cX2_chooseFewest 82 = .ok (.goto (-23), 3) := by decide +kernel
theorem dX2_chooseFewest_85 : decode cX2_chooseFewest 85 = .ok (.aload_n 0, 1) := by decide +kernel
theorem dX2_chooseFewest_86 : decode cX2_chooseFewest 86 = .ok (.iload_n 1, 1) := by decide +kernel
theorem dX2_chooseFewest_87 : decode cX2_chooseFewest 87 = .ok (.invokevirtual 139, 3) := by decide +kernel
theorem dX2_chooseFewest_90 : decode cX2_chooseFewest 90 = .ok (.istore_n 3, 1) := by decide +kernel
theorem dX2_chooseFewest_91 : decode cX2_chooseFewest 91 = .ok (.iload_n 3, 1) := by decide +kernel
theorem dX2_chooseFewest_92 : decode cX2_chooseFewest 92 = .ok (.aload_n 0, 1) := by decide +kernel
theorem dX2_chooseFewest_93 : decode cX2_chooseFewest 93 = .ok (.invokevirtual 142, 3) := by decide +kernel
theorem dX2_chooseFewest_96 : decode cX2_chooseFewest 96 = .ok (.if_icmp .lt 14, 3) := by decide +kernel
theorem dX2_chooseFewest_99 : decode cX2_chooseFewest 99 = .ok (.aload_n 0, 1) := by decide +kernel
theorem dX2_chooseFewest_100 : decode cX2_chooseFewest 100 = .ok (.iload_n 1, 1) := by decide +kernel
theorem dX2_chooseFewest_101 : decode cX2_chooseFewest 101 = .ok (.iconst 2, 1) := by decide +kernel
theorem dX2_chooseFewest_102 : decode cX2_chooseFewest 102 = .ok (.iload_n 3, 1) := by decide +kernel
theorem dX2_chooseFewest_103 : decode cX2_chooseFewest 103 = .ok (.aload_n 0, 1) := by decide +kernel
theorem dX2_chooseFewest_104 : decode cX2_chooseFewest 104 = .ok (.invokevirtual 145, 3) := by decide +kernel
theorem dX2_chooseFewest_107 : decode cX2_chooseFewest 107 = .ok (.invokevirtual 135, 3) := by decide +kernel
theorem dX2_chooseFewest_110 : decode cX2_chooseFewest 110 = .ok (.return_, 1) := by decide +kernel
theorem dX2_offer_0 : decode cX2_offer 0 = .ok (.iload_n 1, 1) := by decide +kernel
theorem dX2_offer_1 : decode cX2_offer 1 = .ok (.iload_n 3, 1) := by decide +kernel
theorem dX2_offer_2 : decode cX2_offer 2 = .ok (.iadd, 1) := by decide +kernel
theorem dX2_offer_3 : decode cX2_offer 3 = .ok (.aload_n 0, 1) := by decide +kernel
theorem dX2_offer_4 : decode cX2_offer 4 = .ok (.getfield 89, 3) := by decide +kernel
theorem dX2_offer_7 : decode cX2_offer 7 = .ok (.if_icmp .le 4, 3) := by decide +kernel
theorem dX2_offer_10 : decode cX2_offer 10 = .ok (.return_, 1) := by decide +kernel
theorem dX2_offer_11 : decode cX2_offer 11 = .ok (.iload 4, 2) := by decide +kernel
theorem dX2_offer_13 : decode cX2_offer 13 = .ok (.aload_n 0, 1) := by decide +kernel
theorem dX2_offer_14 : decode cX2_offer 14 = .ok (.getfield 27, 3) := by decide +kernel
theorem dX2_offer_17 : decode cX2_offer 17 = .ok (.iload_n 1, 1) := by decide +kernel
theorem dX2_offer_18 : decode cX2_offer 18 = .ok (.iload_n 3, 1) := by decide +kernel
theorem dX2_offer_19 : decode cX2_offer 19 = .ok (.iadd, 1) := by decide +kernel
theorem dX2_offer_20 : decode cX2_offer 20 = .ok (.iaload, 1) := by decide +kernel
theorem dX2_offer_21 : decode cX2_offer 21 = .ok (.iadd, 1) := by decide +kernel
theorem dX2_offer_22 : decode cX2_offer 22 = .ok (.istore 5, 2) := by decide +kernel
theorem dX2_offer_24 : decode cX2_offer 24 = .ok (.iload 5, 2) := by decide +kernel
theorem dX2_offer_26 : decode cX2_offer 26 = .ok (.aload_n 0, 1) := by decide +kernel
theorem dX2_offer_27 : decode cX2_offer 27 = .ok (.getfield 27, 3) := by decide +kernel
theorem dX2_offer_30 : decode cX2_offer 30 = .ok (.iload_n 1, 1) := by decide +kernel
theorem dX2_offer_31 : decode cX2_offer 31 = .ok (.iaload, 1) := by decide +kernel
theorem dX2_offer_32 : decode cX2_offer 32 = .ok (.if_icmp .ge 18, 3) := by decide +kernel
theorem dX2_offer_35 : decode cX2_offer 35 = .ok (.aload_n 0, 1) := by decide +kernel
theorem dX2_offer_36 : decode cX2_offer 36 = .ok (.iload_n 1, 1) := by decide +kernel
theorem dX2_offer_37 : decode cX2_offer 37 = .ok (.iload_n 2, 1) := by decide +kernel
theorem dX2_offer_38 : decode cX2_offer 38 = .ok (.iload_n 3, 1) := by decide +kernel
theorem dX2_offer_39 : decode cX2_offer 39 = .ok (.invokevirtual 117, 3) := by decide +kernel
theorem dX2_offer_42 : decode cX2_offer 42 = .ok (.aload_n 0, 1) := by decide +kernel
theorem dX2_offer_43 : decode cX2_offer 43 = .ok (.getfield 27, 3) := by decide +kernel
theorem dX2_offer_46 : decode cX2_offer 46 = .ok (.iload_n 1, 1) := by decide +kernel
theorem dX2_offer_47 : decode cX2_offer 47 = .ok (.iload 5, 2) := by decide +kernel
theorem dX2_offer_49 : decode cX2_offer 49 = .ok (.iastore, 1) := by decide +kernel
theorem dX2_offer_50 : decode cX2_offer 50 = .ok (.return_, 1) := by decide +kernel
theorem dX2_choose_0 : decode cX2_choose 0 = .ok (.aload_n 0, 1) := by decide +kernel
theorem dX2_choose_1 : decode cX2_choose 1 = .ok (.getfield 30, 3) := by decide +kernel
theorem dX2_choose_4 : decode cX2_choose 4 = .ok (.iload_n 1, 1) := by decide +kernel
theorem dX2_choose_5 : decode cX2_choose 5 = .ok (.iload_n 2, 1) := by decide +kernel
theorem dX2_choose_6 : decode cX2_choose 6 = .ok (.iastore, 1) := by decide +kernel
theorem dX2_choose_7 : decode cX2_choose 7 = .ok (.aload_n 0, 1) := by decide +kernel
theorem dX2_choose_8 : decode cX2_choose 8 = .ok (.getfield 33, 3) := by decide +kernel
theorem dX2_choose_11 : decode cX2_choose 11 = .ok (.iload_n 1, 1) := by decide +kernel
theorem dX2_choose_12 : decode cX2_choose 12 = .ok (.iload_n 3, 1) := by decide +kernel
theorem dX2_choose_13 : decode cX2_choose 13 = .ok (.iastore, 1) := by decide +kernel
theorem dX2_choose_14 : decode cX2_choose 14 = .ok (.return_, 1) := by decide +kernel
theorem dX2_chooseGreedy_0 : decode cX2_chooseGreedy 0 = .ok (.aload_n 0, 1) := by decide +kernel
theorem dX2_chooseGreedy_1 : decode cX2_chooseGreedy 1 = .ok (.iload_n 1, 1) := by decide +kernel
theorem dX2_chooseGreedy_2 : decode cX2_chooseGreedy 2 = .ok (.invokevirtual 139, 3) := by decide +kernel
theorem dX2_chooseGreedy_5 : decode cX2_chooseGreedy 5 = .ok (.istore_n 2, 1) := by decide +kernel
theorem dX2_chooseGreedy_6 : decode cX2_chooseGreedy 6 = .ok (.iload_n 1, 1) := by decide +kernel
theorem dX2_chooseGreedy_7 : decode cX2_chooseGreedy 7 = .ok (.aload_n 0, 1) := by decide +kernel
theorem dX2_chooseGreedy_8 : decode cX2_chooseGreedy 8 = .ok (.getfield 105, 3) := by decide +kernel
theorem dX2_chooseGreedy_11 : decode cX2_chooseGreedy 11 = .ok (.if_icmp .lt 13, 3) := by decide +kernel
theorem dX2_chooseGreedy_14 : decode cX2_chooseGreedy 14 = .ok (.aload_n 0, 1) := by decide +kernel
theorem dX2_chooseGreedy_15 : decode cX2_chooseGreedy 15 = .ok (.iload_n 1, 1) := by decide +kernel
theorem dX2_chooseGreedy_16 : decode cX2_chooseGreedy 16 = .ok (.iconst 0, 1) := by decide +kernel
theorem dX2_chooseGreedy_17 : decode cX2_chooseGreedy 17 = .ok (.iconst 0, 1) := by decide +kernel
theorem dX2_chooseGreedy_18 : decode cX2_chooseGreedy 18 = .ok (.invokevirtual 117, 3) := by decide +kernel
theorem dX2_chooseGreedy_21 : decode cX2_chooseGreedy 21 = .ok (.goto 68, 3) := by decide +kernel
theorem dX2_chooseGreedy_24 : decode cX2_chooseGreedy 24 = .ok (.aload_n 0, 1) := by decide +kernel
theorem dX2_chooseGreedy_25 : decode cX2_chooseGreedy 25 = .ok (.iload_n 1, 1) := by decide +kernel
theorem dX2_chooseGreedy_26 : decode cX2_chooseGreedy 26 = .ok (.iload_n 2, 1) := by decide +kernel
theorem dX2_chooseGreedy_27 : decode cX2_chooseGreedy 27 = .ok (.invokevirtual 148, 3) := by decide +kernel
theorem dX2_chooseGreedy_30 : decode cX2_chooseGreedy 30 = .ok (.ifCond .eq 13, 3) := by decide +kernel
theorem dX2_chooseGreedy_33 : decode cX2_chooseGreedy 33 = .ok (.aload_n 0, 1) := by decide +kernel
theorem dX2_chooseGreedy_34 : decode cX2_chooseGreedy 34 = .ok (.iload_n 1, 1) := by decide +kernel
theorem dX2_chooseGreedy_35 : decode cX2_chooseGreedy 35 = .ok (.iconst 2, 1) := by decide +kernel
theorem dX2_chooseGreedy_36 : decode cX2_chooseGreedy 36 = .ok (.iload_n 2, 1) := by decide +kernel
theorem dX2_chooseGreedy_37 : decode cX2_chooseGreedy 37 = .ok (.invokevirtual 117, 3) := by decide +kernel
theorem dX2_chooseGreedy_40 : decode cX2_chooseGreedy 40 = .ok (.goto 49, 3) := by decide +kernel
theorem dX2_chooseGreedy_43 : decode cX2_chooseGreedy 43 = .ok (.aload_n 0, 1) := by decide +kernel
theorem dX2_chooseGreedy_44 : decode cX2_chooseGreedy 44 = .ok (.iload_n 1, 1) := by decide +kernel
theorem dX2_chooseGreedy_45 : decode cX2_chooseGreedy 45 = .ok (.invokevirtual 152, 3) := by decide +kernel
theorem dX2_chooseGreedy_48 : decode cX2_chooseGreedy 48 = .ok (.istore_n 3, 1) := by decide +kernel
theorem dX2_chooseGreedy_49 : decode cX2_chooseGreedy 49 = .ok (.iload_n 3, 1) := by decide +kernel
theorem dX2_chooseGreedy_50 : decode cX2_chooseGreedy 50 = .ok (.aload_n 0, 1) := by decide +kernel
theorem dX2_chooseGreedy_51 : decode cX2_chooseGreedy 51 = .ok (.invokevirtual 129, 3) := by decide +kernel
theorem dX2_chooseGreedy_54 : decode cX2_chooseGreedy 54 = .ok (.if_icmp .lt 7, 3) := by decide +kernel
theorem dX2_chooseGreedy_57 : decode cX2_chooseGreedy 57 = .ok (.iconst 1, 1) := by decide +kernel
theorem dX2_chooseGreedy_58 : decode cX2_chooseGreedy 58 = .ok (.goto 4, 3) := by decide +kernel
theorem dX2_chooseGreedy_61 : decode cX2_chooseGreedy 61 = .ok (.iconst 0, 1) := by decide +kernel
theorem dX2_chooseGreedy_62 : decode cX2_chooseGreedy 62 = .ok (.istore 4, 2) := by decide +kernel
theorem dX2_chooseGreedy_64 : decode cX2_chooseGreedy 64 = .ok (.aload_n 0, 1) := by decide +kernel
theorem dX2_chooseGreedy_65 : decode cX2_chooseGreedy 65 = .ok (.iload_n 1, 1) := by decide +kernel
theorem dX2_chooseGreedy_66 : decode cX2_chooseGreedy 66 = .ok (.iload 4, 2) := by decide +kernel
theorem dX2_chooseGreedy_68 : decode cX2_chooseGreedy 68 = .ok (.ifCond .eq 7, 3) := by decide +kernel
theorem dX2_chooseGreedy_71 : decode cX2_chooseGreedy 71 = .ok (.iconst 1, 1) := by decide +kernel
theorem dX2_chooseGreedy_72 : decode cX2_chooseGreedy 72 = .ok (.goto 4, 3) := by decide +kernel
theorem dX2_chooseGreedy_75 : decode cX2_chooseGreedy 75 = .ok (.iconst 2, 1) := by decide +kernel
theorem dX2_chooseGreedy_76 : decode cX2_chooseGreedy 76 = .ok (.iload 4, 2) := by decide +kernel
theorem dX2_chooseGreedy_78 : decode cX2_chooseGreedy 78 = .ok (.ifCond .eq 7, 3) := by decide +kernel
theorem dX2_chooseGreedy_81 : decode cX2_chooseGreedy 81 = .ok (.iload_n 3, 1) := by decide +kernel
theorem dX2_chooseGreedy_82 : decode cX2_chooseGreedy 82 = .ok (.goto 4, 3) := by decide +kernel
theorem dX2_chooseGreedy_85 : decode cX2_chooseGreedy 85 = .ok (.iconst 1, 1) := by decide +kernel
theorem dX2_chooseGreedy_86 : decode cX2_chooseGreedy 86 = .ok (.invokevirtual 117, 3) := by decide +kernel
theorem dX2_chooseGreedy_89 : decode cX2_chooseGreedy 89 = .ok (.return_, 1) := by decide +kernel
theorem dX2_greedyTakesRun_0 : decode cX2_greedyTakesRun 0 = .ok (.aload_n 0, 1) := by decide +kernel
theorem dX2_greedyTakesRun_1 : decode cX2_greedyTakesRun 1 = .ok (.getfield 36, 3) := by decide +kernel
theorem dX2_greedyTakesRun_4 : decode cX2_greedyTakesRun 4 = .ok (.getfield 48, 3) := by decide +kernel
theorem dX2_greedyTakesRun_7 : decode cX2_greedyTakesRun 7 = .ok (.lookupswitch 66 #[(0, 25), (1, 55)], 25) := by decide +kernel
theorem dX2_greedyTakesRun_32 : decode cX2_greedyTakesRun 32 = .ok (.iload_n 2, 1) := by decide +kernel
theorem dX2_greedyTakesRun_33 : decode cX2_greedyTakesRun 33 = .ok (.aload_n 0, 1) := by decide +kernel
theorem dX2_greedyTakesRun_34 : decode cX2_greedyTakesRun 34 = .ok (.getfield 36, 3) := by decide +kernel
theorem dX2_greedyTakesRun_37 : decode cX2_greedyTakesRun 37 = .ok (.getfield 155, 3) := by decide +kernel
theorem dX2_greedyTakesRun_40 : decode cX2_greedyTakesRun 40 = .ok (.imul, 1) := by decide +kernel
theorem dX2_greedyTakesRun_41 : decode cX2_greedyTakesRun 41 = .ok (.aload_n 0, 1) := by decide +kernel
theorem dX2_greedyTakesRun_42 : decode cX2_greedyTakesRun 42 = .ok (.invokevirtual 145, 3) := by decide +kernel
theorem dX2_greedyTakesRun_45 : decode cX2_greedyTakesRun 45 = .ok (.if_icmp .gt 11, 3) := by decide +kernel
theorem dX2_greedyTakesRun_48 : decode cX2_greedyTakesRun 48 = .ok (.aload_n 0, 1) := by decide +kernel
theorem dX2_greedyTakesRun_49 : decode cX2_greedyTakesRun 49 = .ok (.iload_n 1, 1) := by decide +kernel
theorem dX2_greedyTakesRun_50 : decode cX2_greedyTakesRun 50 = .ok (.invokevirtual 121, 3) := by decide +kernel
theorem dX2_greedyTakesRun_53 : decode cX2_greedyTakesRun 53 = .ok (.ifCond .eq 7, 3) := by decide +kernel
theorem dX2_greedyTakesRun_56 : decode cX2_greedyTakesRun 56 = .ok (.iconst 1, 1) := by decide +kernel
theorem dX2_greedyTakesRun_57 : decode cX2_greedyTakesRun 57 = .ok (.goto 4, 3) := by decide +kernel
theorem dX2_greedyTakesRun_60 : decode cX2_greedyTakesRun 60 = .ok (.iconst 0, 1) := by decide +kernel
theorem dX2_greedyTakesRun_61 : decode cX2_greedyTakesRun 61 = .ok (.ireturn, 1) := by decide +kernel
theorem dX2_greedyTakesRun_62 : decode cX2_greedyTakesRun 62 = .ok (.iload_n 2, 1) := by decide +kernel
theorem dX2_greedyTakesRun_63 : decode cX2_greedyTakesRun 63 = .ok (.iconst 1, 1) := by decide +kernel
theorem dX2_greedyTakesRun_64 : decode cX2_greedyTakesRun 64 = .ok (.if_icmp .le 7, 3) := by decide +kernel
theorem dX2_greedyTakesRun_67 : decode cX2_greedyTakesRun 67 = .ok (.iconst 1, 1) := by decide +kernel
theorem dX2_greedyTakesRun_68 : decode cX2_greedyTakesRun 68 = .ok (.goto 4, 3) := by decide +kernel
theorem dX2_greedyTakesRun_71 : decode cX2_greedyTakesRun 71 = .ok (.iconst 0, 1) := by decide +kernel
theorem dX2_greedyTakesRun_72 : decode cX2_greedyTakesRun 72 = .ok (.ireturn, 1) := by decide +kernel
theorem dX2_greedyTakesRun_73 : decode cX2_greedyTakesRun 73 = .ok (.iload_n 2, 1) := by decide +kernel
theorem dX2_greedyTakesRun_74 : decode cX2_greedyTakesRun 74 = .ok (.iconst 2, 1) := by decide +kernel
theorem dX2_greedyTakesRun_75 : decode cX2_greedyTakesRun 75 = .ok (.if_icmp .le 7, 3) := by decide +kernel
theorem dX2_greedyTakesRun_78 : decode cX2_greedyTakesRun 78 = .ok (.iconst 1, 1) := by decide +kernel
theorem dX2_greedyTakesRun_79 : decode cX2_greedyTakesRun 79 = .ok (.goto 4, 3) := by decide +kernel
theorem dX2_greedyTakesRun_82 : decode cX2_greedyTakesRun 82 = .ok (.iconst 0, 1) := by decide +kernel
theorem dX2_greedyTakesRun_83 : decode cX2_greedyTakesRun 83 = .ok (.ireturn, 1) := by decide +kernel
theorem dX2_greedyThemselves_0 : decode cX2_greedyThemselves 0 = .ok (.aload_n 0, 1) := by decide +kernel
theorem dX2_greedyThemselves_1 : decode cX2_greedyThemselves 1 = .ok (.getfield 36, 3) := by decide +kernel
theorem dX2_greedyThemselves_4 : decode cX2_greedyThemselves 4 = .ok (.getfield 48, 3) := by decide +kernel
theorem dX2_greedyThemselves_7 : decode cX2_greedyThemselves 7 = .ok (.iconst 2, 1) := by decide +kernel
theorem dX2_greedyThemselves_8 : decode cX2_greedyThemselves 8 = .ok (.if_icmp .ne 7, 3) := by decide +kernel
theorem dX2_greedyThemselves_11 : decode cX2_greedyThemselves 11 = .ok (.iconst 3, 1) := by decide +kernel
theorem dX2_greedyThemselves_12 : decode cX2_greedyThemselves 12 = .ok (.goto 4, 3) := by decide +kernel
theorem dX2_greedyThemselves_15 : decode cX2_greedyThemselves 15 = .ok (.iconst 2, 1) := by decide +kernel
theorem dX2_greedyThemselves_16 : decode cX2_greedyThemselves 16 = .ok (.istore_n 2, 1) := by decide +kernel
theorem dX2_greedyThemselves_17 : decode cX2_greedyThemselves 17 = .ok (.aload_n 0, 1) := by decide +kernel
theorem dX2_greedyThemselves_18 : decode cX2_greedyThemselves 18 = .ok (.invokevirtual 125, 3) := by decide +kernel
theorem dX2_greedyThemselves_21 : decode cX2_greedyThemselves 21 = .ok (.aload_n 0, 1) := by decide +kernel
theorem dX2_greedyThemselves_22 : decode cX2_greedyThemselves 22 = .ok (.getfield 105, 3) := by decide +kernel
theorem dX2_greedyThemselves_25 : decode cX2_greedyThemselves 25 = .ok (.iload_n 1, 1) := by decide +kernel
theorem dX2_greedyThemselves_26 : decode cX2_greedyThemselves 26 = .ok (.isub, 1) := by decide +kernel
theorem dX2_greedyThemselves_27 : decode cX2_greedyThemselves 27 = .ok (.invokestatic 65, 3) := by decide +kernel
theorem dX2_greedyThemselves_30 : decode cX2_greedyThemselves 30 = .ok (.istore_n 3, 1) := by decide +kernel
theorem dX2_greedyThemselves_31 : decode cX2_greedyThemselves 31 = .ok (.iconst 1, 1) := by decide +kernel
theorem dX2_greedyThemselves_32 : decode cX2_greedyThemselves 32 = .ok (.istore 4, 2) := by decide +kernel
theorem dX2_greedyThemselves_34 : decode cX2_greedyThemselves 34 = .ok (.iload 4, 2) := by decide +kernel
theorem dX2_greedyThemselves_36 : decode cX2_greedyThemselves 36 = .ok (.iload_n 3, 1) := by decide +kernel
theorem dX2_greedyThemselves_37 : decode cX2_greedyThemselves 37 = .ok (.if_icmp .ge 22, 3) := by decide +kernel
theorem dX2_greedyThemselves_40 : decode cX2_greedyThemselves 40 = .ok (.aload_n 0, 1) := by decide +kernel
theorem dX2_greedyThemselves_41 : decode cX2_greedyThemselves 41 = .ok (.getfield 24, 3) := by decide +kernel
theorem dX2_greedyThemselves_44 : decode cX2_greedyThemselves 44 = .ok (.iload_n 1, 1) := by decide +kernel
theorem dX2_greedyThemselves_45 : decode cX2_greedyThemselves 45 = .ok (.iload 4, 2) := by decide +kernel
theorem dX2_greedyThemselves_47 : decode cX2_greedyThemselves 47 = .ok (.iadd, 1) := by decide +kernel
theorem dX2_greedyThemselves_48 : decode cX2_greedyThemselves 48 = .ok (.iaload, 1) := by decide +kernel
theorem dX2_greedyThemselves_49 : decode cX2_greedyThemselves 49 = .ok (.iload_n 2, 1) := by decide +kernel
theorem dX2_greedyThemselves_50 : decode cX2_greedyThemselves 50 = .ok (.if_icmp .ge 9, 3) := by decide +kernel
theorem dX2_greedyThemselves_53 : decode cX2_greedyThemselves 53 = .ok (.iinc 4 1, 3) := by decide +kernel
theorem dX2_greedyThemselves_56 : decode cX2_greedyThemselves 56 = .ok (.goto (-22), 3) := by decide +kernel
theorem dX2_greedyThemselves_59 : decode cX2_greedyThemselves 59 = .ok (.iload 4, 2) := by decide +kernel
theorem dX2_greedyThemselves_61 : decode cX2_greedyThemselves 61 = .ok (.ireturn, 1) := by decide +kernel
theorem dX2_runAt_0 : decode cX2_runAt 0 = .ok (.aload_n 0, 1) := by decide +kernel
theorem dX2_runAt_1 : decode cX2_runAt 1 = .ok (.getfield 24, 3) := by decide +kernel
theorem dX2_runAt_4 : decode cX2_runAt 4 = .ok (.iload_n 1, 1) := by decide +kernel
theorem dX2_runAt_5 : decode cX2_runAt 5 = .ok (.iaload, 1) := by decide +kernel
theorem dX2_runAt_6 : decode cX2_runAt 6 = .ok (.aload_n 0, 1) := by decide +kernel
theorem dX2_runAt_7 : decode cX2_runAt 7 = .ok (.getfield 36, 3) := by decide +kernel
theorem dX2_runAt_10 : decode cX2_runAt 10 = .ok (.getfield 48, 3) := by decide +kernel
theorem dX2_runAt_13 : decode cX2_runAt 13 = .ok (.iconst 1, 1) := by decide +kernel
theorem dX2_runAt_14 : decode cX2_runAt 14 = .ok (.if_icmp .ne 9, 3) := by decide +kernel
theorem dX2_runAt_17 : decode cX2_runAt 17 = .ok (.sipush 128, 3) := by decide +kernel
theorem dX2_runAt_20 : decode cX2_runAt 20 = .ok (.goto 6, 3) := by decide +kernel
theorem dX2_runAt_23 : decode cX2_runAt 23 = .ok (.sipush 255, 3) := by decide +kernel
theorem dX2_runAt_26 : decode cX2_runAt 26 = .ok (.invokestatic 65, 3) := by decide +kernel
theorem dX2_runAt_29 : decode cX2_runAt 29 = .ok (.ireturn, 1) := by decide +kernel
theorem dX2_leastRun_0 : decode cX2_leastRun 0 = .ok (.aload_n 0, 1) := by decide +kernel
theorem dX2_leastRun_1 : decode cX2_leastRun 1 = .ok (.getfield 36, 3) := by decide +kernel
theorem dX2_leastRun_4 : decode cX2_leastRun 4 = .ok (.getfield 48, 3) := by decide +kernel
theorem dX2_leastRun_7 : decode cX2_leastRun 7 = .ok (.iconst 1, 1) := by decide +kernel
theorem dX2_leastRun_8 : decode cX2_leastRun 8 = .ok (.if_icmp .ne 7, 3) := by decide +kernel
theorem dX2_leastRun_11 : decode cX2_leastRun 11 = .ok (.iconst 2, 1) := by decide +kernel
theorem dX2_leastRun_12 : decode cX2_leastRun 12 = .ok (.goto 4, 3) := by decide +kernel
theorem dX2_leastRun_15 : decode cX2_leastRun 15 = .ok (.iconst 1, 1) := by decide +kernel
theorem dX2_leastRun_16 : decode cX2_leastRun 16 = .ok (.ireturn, 1) := by decide +kernel
theorem dX2_leastThemselves_0 : decode cX2_leastThemselves 0 = .ok (.aload_n 0, 1) := by decide +kernel
theorem dX2_leastThemselves_1 : decode cX2_leastThemselves 1 = .ok (.getfield 36, 3) := by decide +kernel
theorem dX2_leastThemselves_4 : decode cX2_leastThemselves 4 = .ok (.getfield 48, 3) := by decide +kernel
theorem dX2_leastThemselves_7 : decode cX2_leastThemselves 7 = .ok (.iconst 2, 1) := by decide +kernel
theorem dX2_leastThemselves_8 : decode cX2_leastThemselves 8 = .ok (.if_icmp .ne 7, 3) := by decide +kernel
theorem dX2_leastThemselves_11 : decode cX2_leastThemselves 11 = .ok (.iconst 3, 1) := by decide +kernel
theorem dX2_leastThemselves_12 : decode cX2_leastThemselves 12 = .ok (.goto 4, 3) := by decide +kernel
theorem dX2_leastThemselves_15 : decode cX2_leastThemselves 15 = .ok (.iconst 1, 1) := by decide +kernel
theorem dX2_leastThemselves_16 : decode cX2_leastThemselves 16 = .ok (.ireturn, 1) := by decide +kernel
theorem dX2_mostThemselves_0 : decode cX2_mostThemselves 0 = .ok (.aload_n 0, 1) := by decide +kernel
theorem dX2_mostThemselves_1 : decode cX2_mostThemselves 1 = .ok (.getfield 36, 3) := by decide +kernel
theorem dX2_mostThemselves_4 : decode cX2_mostThemselves 4 = .ok (.getfield 48, 3) := by decide +kernel
theorem dX2_mostThemselves_7 : decode cX2_mostThemselves 7 = .ok (.lookupswitch 31 #[(0, 25), (1, 27)], 25) := by decide +kernel
theorem dX2_mostThemselves_32 : decode cX2_mostThemselves 32 = .ok (.iconst 1, 1) := by decide +kernel
theorem dX2_mostThemselves_33 : decode cX2_mostThemselves 33 = .ok (.ireturn, 1) := by decide +kernel
theorem dX2_mostThemselves_34 : decode cX2_mostThemselves 34 = .ok (.sipush 128, 3) := by decide +kernel
theorem dX2_mostThemselves_37 : decode cX2_mostThemselves 37 = .ok (.ireturn, 1) := by decide +kernel
theorem dX2_mostThemselves_38 : decode cX2_mostThemselves 38 = .ok (.sipush 255, 3) := by decide +kernel
theorem dX2_mostThemselves_41 : decode cX2_mostThemselves 41 = .ok (.ireturn, 1) := by decide +kernel
theorem dX2_beginsWithMark_0 : decode cX2_beginsWithMark 0 = .ok (.aload_n 0, 1) := by decide +kernel
theorem dX2_beginsWithMark_1 : decode cX2_beginsWithMark 1 = .ok (.getfield 36, 3) := by decide +kernel
theorem dX2_beginsWithMark_4 : decode cX2_beginsWithMark 4 = .ok (.getfield 48, 3) := by decide +kernel
theorem dX2_beginsWithMark_7 : decode cX2_beginsWithMark 7 = .ok (.ifCond .ne 31, 3) := by decide +kernel
theorem dX2_beginsWithMark_10 : decode cX2_beginsWithMark 10 = .ok (.aload_n 0, 1) := by decide +kernel
theorem dX2_beginsWithMark_11 : decode cX2_beginsWithMark 11 = .ok (.getfield 36, 3) := by decide +kernel
theorem dX2_beginsWithMark_14 : decode cX2_beginsWithMark 14 = .ok (.aload_n 0, 1) := by decide +kernel
theorem dX2_beginsWithMark_15 : decode cX2_beginsWithMark 15 = .ok (.getfield 20, 3) := by decide +kernel
theorem dX2_beginsWithMark_18 : decode cX2_beginsWithMark 18 = .ok (.iload_n 1, 1) := by decide +kernel
theorem dX2_beginsWithMark_19 : decode cX2_beginsWithMark 19 = .ok (.iaload, 1) := by decide +kernel
theorem dX2_beginsWithMark_20 : decode cX2_beginsWithMark 20 = .ok (.iconst 0, 1) := by decide +kernel
theorem dX2_beginsWithMark_21 : decode cX2_beginsWithMark 21 = .ok (.invokevirtual 158, 3) := by decide +kernel
theorem dX2_beginsWithMark_24 : decode cX2_beginsWithMark 24 = .ok (.aload_n 0, 1) := by decide +kernel
theorem dX2_beginsWithMark_25 : decode cX2_beginsWithMark 25 = .ok (.getfield 36, 3) := by decide +kernel
theorem dX2_beginsWithMark_28 : decode cX2_beginsWithMark 28 = .ok (.getfield 161, 3) := by decide +kernel
theorem dX2_beginsWithMark_31 : decode cX2_beginsWithMark 31 = .ok (.if_icmp .ne 7, 3) := by decide +kernel
theorem dX2_beginsWithMark_34 : decode cX2_beginsWithMark 34 = .ok (.iconst 1, 1) := by decide +kernel
theorem dX2_beginsWithMark_35 : decode cX2_beginsWithMark 35 = .ok (.goto 4, 3) := by decide +kernel
theorem dX2_beginsWithMark_38 : decode cX2_beginsWithMark 38 = .ok (.iconst 0, 1) := by decide +kernel
theorem dX2_beginsWithMark_39 : decode cX2_beginsWithMark 39 = .ok (.ireturn, 1) := by decide +kernel
theorem dX2_lengthRun_0 : decode cX2_lengthRun 0 = .ok (.aload_n 0, 1) := by decide +kernel
theorem dX2_lengthRun_1 : decode cX2_lengthRun 1 = .ok (.getfield 36, 3) := by decide +kernel
theorem dX2_lengthRun_4 : decode cX2_lengthRun 4 = .ok (.getfield 48, 3) := by decide +kernel
theorem dX2_lengthRun_7 : decode cX2_lengthRun 7 = .ok (.lookupswitch 45 #[(0, 25), (1, 35)], 25) := by decide +kernel
theorem dX2_lengthRun_32 : decode cX2_lengthRun 32 = .ok (.iconst 2, 1) := by decide +kernel
theorem dX2_lengthRun_33 : decode cX2_lengthRun 33 = .ok (.aload_n 0, 1) := by decide +kernel
theorem dX2_lengthRun_34 : decode cX2_lengthRun 34 = .ok (.getfield 36, 3) := by decide +kernel
theorem dX2_lengthRun_37 : decode cX2_lengthRun 37 = .ok (.getfield 155, 3) := by decide +kernel
theorem dX2_lengthRun_40 : decode cX2_lengthRun 40 = .ok (.iadd, 1) := by decide +kernel
theorem dX2_lengthRun_41 : decode cX2_lengthRun 41 = .ok (.ireturn, 1) := by decide +kernel
theorem dX2_lengthRun_42 : decode cX2_lengthRun 42 = .ok (.iconst 1, 1) := by decide +kernel
theorem dX2_lengthRun_43 : decode cX2_lengthRun 43 = .ok (.aload_n 0, 1) := by decide +kernel
theorem dX2_lengthRun_44 : decode cX2_lengthRun 44 = .ok (.getfield 36, 3) := by decide +kernel
theorem dX2_lengthRun_47 : decode cX2_lengthRun 47 = .ok (.getfield 155, 3) := by decide +kernel
theorem dX2_lengthRun_50 : decode cX2_lengthRun 50 = .ok (.iadd, 1) := by decide +kernel
theorem dX2_lengthRun_51 : decode cX2_lengthRun 51 = .ok (.ireturn, 1) := by decide +kernel
theorem dX2_lengthRun_52 : decode cX2_lengthRun 52 = .ok (.iconst 2, 1) := by decide +kernel
theorem dX2_lengthRun_53 : decode cX2_lengthRun 53 = .ok (.ireturn, 1) := by decide +kernel
theorem dX2_lengthThemselves_0 : decode cX2_lengthThemselves 0 = .ok (.aload_n 0, 1) := by decide +kernel
theorem dX2_lengthThemselves_1 : decode cX2_lengthThemselves 1 = .ok (.getfield 36, 3) := by decide +kernel
theorem dX2_lengthThemselves_4 : decode cX2_lengthThemselves 4 = .ok (.getfield 48, 3) := by decide +kernel
theorem dX2_lengthThemselves_7 : decode cX2_lengthThemselves 7 = .ok (.lookupswitch 45 #[(0, 25), (1, 33)], 25) := by decide +kernel
theorem dX2_lengthThemselves_32 : decode cX2_lengthThemselves 32 = .ok (.aload_n 0, 1) := by decide +kernel
theorem dX2_lengthThemselves_33 : decode cX2_lengthThemselves 33 = .ok (.getfield 36, 3) := by decide +kernel
theorem dX2_lengthThemselves_36 : decode cX2_lengthThemselves 36 = .ok (.getfield 155, 3) := by decide +kernel
theorem dX2_lengthThemselves_39 : decode cX2_lengthThemselves 39 = .ok (.ireturn, 1) := by decide +kernel
theorem dX2_lengthThemselves_40 : decode cX2_lengthThemselves 40 = .ok (.iconst 1, 1) := by decide +kernel
theorem dX2_lengthThemselves_41 : decode cX2_lengthThemselves 41 = .ok (.iload_n 1, 1) := by decide +kernel
theorem dX2_lengthThemselves_42 : decode cX2_lengthThemselves 42 = .ok (.aload_n 0, 1) := by decide +kernel
theorem dX2_lengthThemselves_43 : decode cX2_lengthThemselves 43 = .ok (.getfield 36, 3) := by decide +kernel
theorem dX2_lengthThemselves_46 : decode cX2_lengthThemselves 46 = .ok (.getfield 155, 3) := by decide +kernel
theorem dX2_lengthThemselves_49 : decode cX2_lengthThemselves 49 = .ok (.imul, 1) := by decide +kernel
theorem dX2_lengthThemselves_50 : decode cX2_lengthThemselves 50 = .ok (.iadd, 1) := by decide +kernel
theorem dX2_lengthThemselves_51 : decode cX2_lengthThemselves 51 = .ok (.ireturn, 1) := by decide +kernel
theorem dX2_lengthThemselves_52 : decode cX2_lengthThemselves 52 = .ok (.iconst 2, 1) := by decide +kernel
theorem dX2_lengthThemselves_53 : decode cX2_lengthThemselves 53 = .ok (.iload_n 1, 1) := by decide +kernel
theorem dX2_lengthThemselves_54 : decode cX2_lengthThemselves 54 = .ok (.iadd, 1) := by decide +kernel
theorem dX2_lengthThemselves_55 : decode cX2_lengthThemselves 55 = .ok (.iload_n 1, 1) := by decide +kernel
theorem dX2_lengthThemselves_56 : decode cX2_lengthThemselves 56 = .ok (.iconst 1, 1) := by decide +kernel
theorem dX2_lengthThemselves_57 : decode cX2_lengthThemselves 57 = .ok (.iand, 1) := by decide +kernel
theorem dX2_lengthThemselves_58 : decode cX2_lengthThemselves 58 = .ok (.iadd, 1) := by decide +kernel
theorem dX2_lengthThemselves_59 : decode cX2_lengthThemselves 59 = .ok (.ireturn, 1) := by decide +kernel
theorem dX2_addPiece_0 : decode cX2_addPiece 0 = .ok (.aload_n 0, 1) := by decide +kernel
theorem dX2_addPiece_1 : decode cX2_addPiece 1 = .ok (.getfield 33, 3) := by decide +kernel
theorem dX2_addPiece_4 : decode cX2_addPiece 4 = .ok (.iload_n 1, 1) := by decide +kernel
theorem dX2_addPiece_5 : decode cX2_addPiece 5 = .ok (.iaload, 1) := by decide +kernel
theorem dX2_addPiece_6 : decode cX2_addPiece 6 = .ok (.istore_n 2, 1) := by decide +kernel
theorem dX2_addPiece_7 : decode cX2_addPiece 7 = .ok (.aload_n 0, 1) := by decide +kernel
theorem dX2_addPiece_8 : decode cX2_addPiece 8 = .ok (.getfield 30, 3) := by decide +kernel
theorem dX2_addPiece_11 : decode cX2_addPiece 11 = .ok (.iload_n 1, 1) := by decide +kernel
theorem dX2_addPiece_12 : decode cX2_addPiece 12 = .ok (.iaload, 1) := by decide +kernel
theorem dX2_addPiece_13 : decode cX2_addPiece 13 = .ok (.iconst 2, 1) := by decide +kernel
theorem dX2_addPiece_14 : decode cX2_addPiece 14 = .ok (.if_icmp .ne 19, 3) := by decide +kernel
theorem dX2_addPiece_17 : decode cX2_addPiece 17 = .ok (.aload_n 0, 1) := by decide +kernel
theorem dX2_addPiece_18 : decode cX2_addPiece 18 = .ok (.iload_n 2, 1) := by decide +kernel
theorem dX2_addPiece_19 : decode cX2_addPiece 19 = .ok (.invokevirtual 164, 3) := by decide +kernel
theorem dX2_addPiece_22 : decode cX2_addPiece 22 = .ok (.aload_n 0, 1) := by decide +kernel
theorem dX2_addPiece_23 : decode cX2_addPiece 23 = .ok (.aload_n 0, 1) := by decide +kernel
theorem dX2_addPiece_24 : decode cX2_addPiece 24 = .ok (.getfield 20, 3) := by decide +kernel
theorem dX2_addPiece_27 : decode cX2_addPiece 27 = .ok (.iload_n 1, 1) := by decide +kernel
theorem dX2_addPiece_28 : decode cX2_addPiece 28 = .ok (.iaload, 1) := by decide +kernel
theorem dX2_addPiece_29 : decode cX2_addPiece 29 = .ok (.invokevirtual 167, 3) := by decide +kernel
theorem dX2_addPiece_32 : decode cX2_addPiece 32 = .ok (.return_, 1) := by decide +kernel
theorem dX2_addPiece_33 : decode cX2_addPiece 33 = .ok (.aload_n 0, 1) := by decide +kernel
theorem dX2_addPiece_34 : decode cX2_addPiece 34 = .ok (.iload_n 2, 1) := by decide +kernel
theorem dX2_addPiece_35 : decode cX2_addPiece 35 = .ok (.invokevirtual 170, 3) := by decide +kernel
theorem dX2_addPiece_38 : decode cX2_addPiece 38 = .ok (.iconst 0, 1) := by decide +kernel
theorem dX2_addPiece_39 : decode cX2_addPiece 39 = .ok (.istore_n 3, 1) := by decide +kernel
theorem dX2_addPiece_40 : decode cX2_addPiece 40 = .ok (.iload_n 3, 1) := by decide +kernel
theorem dX2_addPiece_41 : decode cX2_addPiece 41 = .ok (.iload_n 2, 1) := by decide +kernel
theorem dX2_addPiece_42 : decode cX2_addPiece 42 = .ok (.if_icmp .ge 21, 3) := by decide +kernel
theorem dX2_addPiece_45 : decode cX2_addPiece 45 = .ok (.aload_n 0, 1) := by decide +kernel
theorem dX2_addPiece_46 : decode cX2_addPiece 46 = .ok (.aload_n 0, 1) := by decide +kernel
theorem dX2_addPiece_47 : decode cX2_addPiece 47 = .ok (.getfield 20, 3) := by decide +kernel
theorem dX2_addPiece_50 : decode cX2_addPiece 50 = .ok (.iload_n 1, 1) := by decide +kernel
theorem dX2_addPiece_51 : decode cX2_addPiece 51 = .ok (.iload_n 3, 1) := by decide +kernel
theorem dX2_addPiece_52 : decode cX2_addPiece 52 = .ok (.iadd, 1) := by decide +kernel
theorem dX2_addPiece_53 : decode cX2_addPiece 53 = .ok (.iaload, 1) := by decide +kernel
theorem dX2_addPiece_54 : decode cX2_addPiece 54 = .ok (.invokevirtual 167, 3) := by decide +kernel
theorem dX2_addPiece_57 : decode cX2_addPiece 57 = .ok (.iinc 3 1, 3) := by decide +kernel
theorem dX2_addPiece_60 : decode cX2_addPiece 60 = .ok (.goto (-20), 3) := by decide +kernel
theorem dX2_addPiece_63 : decode cX2_addPiece 63 = .ok (.aload_n 0, 1) := by decide +kernel
theorem dX2_addPiece_64 : decode cX2_addPiece 64 = .ok (.getfield 36, 3) := by decide +kernel
theorem dX2_addPiece_67 : decode cX2_addPiece 67 = .ok (.getfield 48, 3) := by decide +kernel
theorem dX2_addPiece_70 : decode cX2_addPiece 70 = .ok (.iconst 2, 1) := by decide +kernel
theorem dX2_addPiece_71 : decode cX2_addPiece 71 = .ok (.if_icmp .ne 18, 3) := by decide +kernel
theorem dX2_addPiece_74 : decode cX2_addPiece 74 = .ok (.iload_n 2, 1) := by decide +kernel
theorem dX2_addPiece_75 : decode cX2_addPiece 75 = .ok (.iconst 1, 1) := by decide +kernel
theorem dX2_addPiece_76 : decode cX2_addPiece 76 = .ok (.iand, 1) := by decide +kernel
theorem dX2_addPiece_77 : decode cX2_addPiece 77 = .ok (.iconst 1, 1) := by decide +kernel
theorem dX2_addPiece_78 : decode cX2_addPiece 78 = .ok (.if_icmp .ne 11, 3) := by decide +kernel
theorem dX2_addPiece_81 : decode cX2_addPiece 81 = .ok (.aload_n 0, 1) := by decide +kernel
theorem dX2_addPiece_82 : decode cX2_addPiece 82 = .ok (.getfield 14, 3) := by decide +kernel
theorem dX2_addPiece_85 : decode cX2_addPiece 85 = .ok (.iconst 0, 1) := by decide +kernel
theorem dX2_addPiece_86 : decode cX2_addPiece 86 = .ok (.invokevirtual 102, 3) := by decide +kernel
theorem dX2_addPiece_89 : decode cX2_addPiece 89 = .ok (.return_, 1) := by decide +kernel
theorem dX2_addRunHead_0 : decode cX2_addRunHead 0 = .ok (.aload_n 0, 1) := by decide +kernel
theorem dX2_addRunHead_1 : decode cX2_addRunHead 1 = .ok (.getfield 36, 3) := by decide +kernel
theorem dX2_addRunHead_4 : decode cX2_addRunHead 4 = .ok (.getfield 48, 3) := by decide +kernel
theorem dX2_addRunHead_7 : decode cX2_addRunHead 7 = .ok (.iconst 1, 1) := by decide +kernel
theorem dX2_addRunHead_8 : decode cX2_addRunHead 8 = .ok (.if_icmp .ne 14, 3) := by decide +kernel
theorem dX2_addRunHead_11 : decode cX2_addRunHead 11 = .ok (.aload_n 0, 1) := by decide +kernel
theorem dX2_addRunHead_12 : decode cX2_addRunHead 12 = .ok (.getfield 14, 3) := by decide +kernel
theorem dX2_addRunHead_15 : decode cX2_addRunHead 15 = .ok (.iconst 1, 1) := by decide +kernel
theorem dX2_addRunHead_16 : decode cX2_addRunHead 16 = .ok (.iload_n 1, 1) := by decide +kernel
theorem dX2_addRunHead_17 : decode cX2_addRunHead 17 = .ok (.isub, 1) := by decide +kernel
theorem dX2_addRunHead_18 : decode cX2_addRunHead 18 = .ok (.invokevirtual 102, 3) := by decide +kernel
theorem dX2_addRunHead_21 : decode cX2_addRunHead 21 = .ok (.return_, 1) := by decide +kernel
theorem dX2_addRunHead_22 : decode cX2_addRunHead 22 = .ok (.aload_n 0, 1) := by decide +kernel
theorem dX2_addRunHead_23 : decode cX2_addRunHead 23 = .ok (.getfield 36, 3) := by decide +kernel
theorem dX2_addRunHead_26 : decode cX2_addRunHead 26 = .ok (.getfield 48, 3) := by decide +kernel
theorem dX2_addRunHead_29 : decode cX2_addRunHead 29 = .ok (.ifCond .ne 17, 3) := by decide +kernel
theorem dX2_addRunHead_32 : decode cX2_addRunHead 32 = .ok (.aload_n 0, 1) := by decide +kernel
theorem dX2_addRunHead_33 : decode cX2_addRunHead 33 = .ok (.getfield 14, 3) := by decide +kernel
theorem dX2_addRunHead_36 : decode cX2_addRunHead 36 = .ok (.aload_n 0, 1) := by decide +kernel
theorem dX2_addRunHead_37 : decode cX2_addRunHead 37 = .ok (.getfield 36, 3) := by decide +kernel
theorem dX2_addRunHead_40 : decode cX2_addRunHead 40 = .ok (.getfield 161, 3) := by decide +kernel
theorem dX2_addRunHead_43 : decode cX2_addRunHead 43 = .ok (.invokevirtual 102, 3) := by decide +kernel
theorem dX2_addRunHead_46 : decode cX2_addRunHead 46 = .ok (.aload_n 0, 1) := by decide +kernel
theorem dX2_addRunHead_47 : decode cX2_addRunHead 47 = .ok (.getfield 14, 3) := by decide +kernel
theorem dX2_addRunHead_50 : decode cX2_addRunHead 50 = .ok (.iload_n 1, 1) := by decide +kernel
theorem dX2_addRunHead_51 : decode cX2_addRunHead 51 = .ok (.invokevirtual 102, 3) := by decide +kernel
theorem dX2_addRunHead_54 : decode cX2_addRunHead 54 = .ok (.return_, 1) := by decide +kernel
theorem dX2_addThemselvesHead_0 : decode cX2_addThemselvesHead 0 = .ok (.aload_n 0, 1) := by decide +kernel
theorem dX2_addThemselvesHead_1 : decode cX2_addThemselvesHead 1 = .ok (.getfield 36, 3) := by decide +kernel
theorem dX2_addThemselvesHead_4 : decode cX2_addThemselvesHead 4 = .ok (.getfield 48, 3) := by decide +kernel
theorem dX2_addThemselvesHead_7 : decode cX2_addThemselvesHead 7 = .ok (.iconst 1, 1) := by decide +kernel
theorem dX2_addThemselvesHead_8 : decode cX2_addThemselvesHead 8 = .ok (.if_icmp .ne 16, 3) := by decide +kernel
theorem dX2_addThemselvesHead_11 : decode cX2_addThemselvesHead 11 = .ok (.aload_n 0, 1) := by decide +kernel
theorem dX2_addThemselvesHead_12 : decode cX2_addThemselvesHead 12 = .ok (.getfield 14, 3) := by decide +kernel
theorem dX2_addThemselvesHead_15 : decode cX2_addThemselvesHead 15 = .ok (.iload_n 1, 1) := by decide +kernel
theorem dX2_addThemselvesHead_16 : decode cX2_addThemselvesHead 16 = .ok (.iconst 1, 1) := by decide +kernel
theorem dX2_addThemselvesHead_17 : decode cX2_addThemselvesHead 17 = .ok (.isub, 1) := by decide +kernel
theorem dX2_addThemselvesHead_18 : decode cX2_addThemselvesHead 18 = .ok (.invokevirtual 102, 3) := by decide +kernel
theorem dX2_addThemselvesHead_21 : decode cX2_addThemselvesHead 21 = .ok (.goto 30, 3) := by decide +kernel
theorem dX2_addThemselvesHead_24 : decode cX2_addThemselvesHead 24 = .ok (.aload_n 0, 1) := by decide +kernel
theorem dX2_addThemselvesHead_25 : decode cX2_addThemselvesHead 25 = .ok (.getfield 36, 3) := by decide +kernel
theorem dX2_addThemselvesHead_28 : decode cX2_addThemselvesHead 28 = .ok (.getfield 48, 3) := by decide +kernel
theorem dX2_addThemselvesHead_31 : decode cX2_addThemselvesHead 31 = .ok (.iconst 2, 1) := by decide +kernel
theorem dX2_addThemselvesHead_32 : decode cX2_addThemselvesHead 32 = .ok (.if_icmp .ne 19, 3) := by decide +kernel
theorem dX2_addThemselvesHead_35 : decode cX2_addThemselvesHead 35 = .ok (.aload_n 0, 1) := by decide +kernel
theorem dX2_addThemselvesHead_36 : decode cX2_addThemselvesHead 36 = .ok (.getfield 14, 3) := by decide +kernel
theorem dX2_addThemselvesHead_39 : decode cX2_addThemselvesHead 39 = .ok (.iconst 0, 1) := by decide +kernel
theorem dX2_addThemselvesHead_40 : decode cX2_addThemselvesHead 40 = .ok (.invokevirtual 102, 3) := by decide +kernel
theorem dX2_addThemselvesHead_43 : decode cX2_addThemselvesHead 43 = .ok (.aload_n 0, 1) := by decide +kernel
theorem dX2_addThemselvesHead_44 : decode cX2_addThemselvesHead 44 = .ok (.getfield 14, 3) := by decide +kernel
theorem dX2_addThemselvesHead_47 : decode cX2_addThemselvesHead 47 = .ok (.iload_n 1, 1) := by decide +kernel
theorem dX2_addThemselvesHead_48 : decode cX2_addThemselvesHead 48 = .ok (.invokevirtual 102, 3) := by decide +kernel
theorem dX2_addThemselvesHead_51 : decode cX2_addThemselvesHead 51 = .ok (.return_, 1) := by decide +kernel
theorem dX2_addUnit_0 : decode cX2_addUnit 0 = .ok (.iconst 0, 1) := by decide +kernel
theorem dX2_addUnit_1 : decode cX2_addUnit 1 = .ok (.istore_n 2, 1) := by decide +kernel
theorem dX2_addUnit_2 : decode cX2_addUnit 2 = .ok (.iload_n 2, 1) := by decide +kernel
theorem dX2_addUnit_3 : decode cX2_addUnit 3 = .ok (.aload_n 0, 1) := by decide +kernel
theorem dX2_addUnit_4 : decode cX2_addUnit 4 = .ok (.getfield 36, 3) := by decide +kernel
theorem dX2_addUnit_7 : decode cX2_addUnit 7 = .ok (.getfield 155, 3) := by decide +kernel
theorem dX2_addUnit_10 : decode cX2_addUnit 10 = .ok (.if_icmp .ge 25, 3) := by decide +kernel
theorem dX2_addUnit_13 : decode cX2_addUnit 13 = .ok (.aload_n 0, 1) := by decide +kernel
theorem dX2_addUnit_14 : decode cX2_addUnit 14 = .ok (.getfield 14, 3) := by decide +kernel
theorem dX2_addUnit_17 : decode cX2_addUnit 17 = .ok (.aload_n 0, 1) := by decide +kernel
theorem dX2_addUnit_18 : decode cX2_addUnit 18 = .ok (.getfield 36, 3) := by decide +kernel
theorem dX2_addUnit_21 : decode cX2_addUnit 21 = .ok (.iload_n 1, 1) := by decide +kernel
theorem dX2_addUnit_22 : decode cX2_addUnit 22 = .ok (.iload_n 2, 1) := by decide +kernel
theorem dX2_addUnit_23 : decode cX2_addUnit 23 = .ok (.invokevirtual 158, 3) := by decide +kernel
theorem dX2_addUnit_26 : decode cX2_addUnit 26 = .ok (.invokevirtual 102, 3) := by decide +kernel
theorem dX2_addUnit_29 : decode cX2_addUnit 29 = .ok (.iinc 2 1, 3) := by decide +kernel
theorem dX2_addUnit_32 : decode cX2_addUnit 32 = .ok (.goto (-30), 3) := by decide +kernel
theorem dX2_addUnit_35 : decode cX2_addUnit 35 = .ok (.return_, 1) := by decide +kernel
theorem dX2_addEnd_0 : decode cX2_addEnd 0 = .ok (.aload_n 0, 1) := by decide +kernel
theorem dX2_addEnd_1 : decode cX2_addEnd 1 = .ok (.getfield 36, 3) := by decide +kernel
theorem dX2_addEnd_4 : decode cX2_addEnd 4 = .ok (.getfield 48, 3) := by decide +kernel
theorem dX2_addEnd_7 : decode cX2_addEnd 7 = .ok (.ifCond .ne 28, 3) := by decide +kernel
theorem dX2_addEnd_10 : decode cX2_addEnd 10 = .ok (.aload_n 0, 1) := by decide +kernel
theorem dX2_addEnd_11 : decode cX2_addEnd 11 = .ok (.getfield 14, 3) := by decide +kernel
theorem dX2_addEnd_14 : decode cX2_addEnd 14 = .ok (.aload_n 0, 1) := by decide +kernel
theorem dX2_addEnd_15 : decode cX2_addEnd 15 = .ok (.getfield 36, 3) := by decide +kernel
theorem dX2_addEnd_18 : decode cX2_addEnd 18 = .ok (.getfield 161, 3) := by decide +kernel
theorem dX2_addEnd_21 : decode cX2_addEnd 21 = .ok (.invokevirtual 102, 3) := by decide +kernel
theorem dX2_addEnd_24 : decode cX2_addEnd 24 = .ok (.aload_n 0, 1) := by decide +kernel
theorem dX2_addEnd_25 : decode cX2_addEnd 25 = .ok (.getfield 14, 3) := by decide +kernel
theorem dX2_addEnd_28 : decode cX2_addEnd 28 = .ok (.iconst 0, 1) := by decide +kernel
theorem dX2_addEnd_29 : decode cX2_addEnd 29 = .ok (.invokevirtual 102, 3) := by decide +kernel
theorem dX2_addEnd_32 : decode cX2_addEnd 32 = .ok (.goto 30, 3) := by decide +kernel
theorem dX2_addEnd_35 : decode cX2_addEnd 35 = .ok (.aload_n 0, 1) := by decide +kernel
theorem dX2_addEnd_36 : decode cX2_addEnd 36 = .ok (.getfield 36, 3) := by decide +kernel
theorem dX2_addEnd_39 : decode cX2_addEnd 39 = .ok (.getfield 48, 3) := by decide +kernel
theorem dX2_addEnd_42 : decode cX2_addEnd 42 = .ok (.iconst 2, 1) := by decide +kernel
theorem dX2_addEnd_43 : decode cX2_addEnd 43 = .ok (.if_icmp .ne 19, 3) := by decide +kernel
theorem dX2_addEnd_46 : decode cX2_addEnd 46 = .ok (.aload_n 0, 1) := by decide +kernel
theorem dX2_addEnd_47 : decode cX2_addEnd 47 = .ok (.getfield 14, 3) := by decide +kernel
theorem dX2_addEnd_50 : decode cX2_addEnd 50 = .ok (.iconst 0, 1) := by decide +kernel
theorem dX2_addEnd_51 : decode cX2_addEnd 51 = .ok (.invokevirtual 102, 3) := by decide +kernel
theorem dX2_addEnd_54 : decode cX2_addEnd 54 = .ok (.aload_n 0, 1) := by decide +kernel
theorem dX2_addEnd_55 : decode cX2_addEnd 55 = .ok (.getfield 14, 3) := by decide +kernel
theorem dX2_addEnd_58 : decode cX2_addEnd 58 = .ok (.iconst 1, 1) := by decide +kernel
theorem dX2_addEnd_59 : decode cX2_addEnd 59 = .ok (.invokevirtual 102, 3) := by decide +kernel
theorem dX2_addEnd_62 : decode cX2_addEnd 62 = .ok (.return_, 1) := by decide +kernel
