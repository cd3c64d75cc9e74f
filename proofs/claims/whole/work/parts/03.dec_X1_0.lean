theorem dX1_init_0 : decode cX1_init 0 = .ok (.aload_n 0, 1) := by decide +kernel
theorem dX1_init_1 : decode cX1_init 1 = .ok (.invokespecial 3, 3) := by decide +kernel
theorem dX1_init_4 : decode cX1_init 4 = .ok (.aload_n 0, 1) := by decide +kernel
theorem dX1_init_5 : decode cX1_init 5 = .ok (.new 9, 3) := by decide +kernel
theorem dX1_init_8 : decode cX1_init 8 = .ok (.dup, 1) := by decide +kernel
theorem dX1_init_9 : decode cX1_init 9 = .ok (.sipush 240, 3) := by decide +kernel
theorem dX1_init_12 : decode cX1_init 12 = .ok (.invokespecial 11, 3) := by decide +kernel
theorem dX1_init_15 : decode cX1_init 15 = .ok (.putfield 14, 3) := by decide +kernel
theorem dX1_init_18 : decode cX1_init 18 = .ok (.aload_n 0, 1) := by decide +kernel
theorem dX1_init_19 : decode cX1_init 19 = .ok (.iconst 0, 1) := by decide +kernel
theorem dX1_init_20 : decode cX1_init 20 = .ok (.putfield 20, 3) := by decide +kernel
theorem dX1_init_23 : decode cX1_init 23 = .ok (.aload_n 0, 1) := by decide +kernel
theorem dX1_init_24 : decode cX1_init 24 = .ok (.aload_n 1, 1) := by decide +kernel
theorem dX1_init_25 : decode cX1_init 25 = .ok (.putfield 24, 3) := by decide +kernel
theorem dX1_init_28 : decode cX1_init 28 = .ok (.aload_n 0, 1) := by decide +kernel
theorem dX1_init_29 : decode cX1_init 29 = .ok (.aload_n 2, 1) := by decide +kernel
theorem dX1_init_30 : decode cX1_init 30 = .ok (.putfield 28, 3) := by decide +kernel
theorem dX1_init_33 : decode cX1_init 33 = .ok (.return_, 1) := by decide +kernel
theorem dX1_run_0 : decode cX1_run 0 = .ok (.aload_n 0, 1) := by decide +kernel
theorem dX1_run_1 : decode cX1_run 1 = .ok (.getfield 14, 3) := by decide +kernel
theorem dX1_run_4 : decode cX1_run 4 = .ok (.invokevirtual 31, 3) := by decide +kernel
theorem dX1_run_7 : decode cX1_run 7 = .ok (.aload_n 0, 1) := by decide +kernel
theorem dX1_run_8 : decode cX1_run 8 = .ok (.iconst 0, 1) := by decide +kernel
theorem dX1_run_9 : decode cX1_run 9 = .ok (.putfield 20, 3) := by decide +kernel
theorem dX1_run_12 : decode cX1_run 12 = .ok (.aload_n 0, 1) := by decide +kernel
theorem dX1_run_13 : decode cX1_run 13 = .ok (.iconst 0, 1) := by decide +kernel
theorem dX1_run_14 : decode cX1_run 14 = .ok (.putfield 34, 3) := by decide +kernel
theorem dX1_run_17 : decode cX1_run 17 = .ok (.aload_n 0, 1) := by decide +kernel
theorem dX1_run_18 : decode cX1_run 18 = .ok (.iconst 0, 1) := by decide +kernel
theorem dX1_run_19 : decode cX1_run 19 = .ok (.putfield 37, 3) := by decide +kernel
theorem dX1_run_22 : decode cX1_run 22 = .ok (.aload_n 0, 1) := by decide +kernel
theorem dX1_run_23 : decode cX1_run 23 = .ok (.iconst 0, 1) := by decide +kernel
theorem dX1_run_24 : decode cX1_run 24 = .ok (.putfield 41, 3) := by decide +kernel
theorem dX1_run_27 : decode cX1_run 27 = .ok (.aload_n 0, 1) := by decide +kernel
theorem dX1_run_28 : decode cX1_run 28 = .ok (.iconst 0, 1) := by decide +kernel
theorem dX1_run_29 : decode cX1_run 29 = .ok (.putfield 44, 3) := by decide +kernel
theorem dX1_run_32 : decode cX1_run 32 = .ok (.iconst 0, 1) := by decide +kernel
theorem dX1_run_33 : decode cX1_run 33 = .ok (.istore_n 1, 1) := by decide +kernel
theorem dX1_run_34 : decode cX1_run 34 = .ok (.iload_n 1, 1) := by decide +kernel
theorem dX1_run_35 : decode cX1_run 35 = .ok (.sipush 1000, 3) := by decide +kernel
theorem dX1_run_38 : decode cX1_run 38 = .ok (.if_icmp .gt 39, 3) := by decide +kernel
theorem dX1_run_41 : decode cX1_run 41 = .ok (.aload_n 0, 1) := by decide +kernel
theorem dX1_run_42 : decode cX1_run 42 = .ok (.getfield 37, 3) := by decide +kernel
theorem dX1_run_45 : decode cX1_run 45 = .ok (.ifCond .ne 32, 3) := by decide +kernel
theorem dX1_run_48 : decode cX1_run 48 = .ok (.aload_n 0, 1) := by decide +kernel
theorem dX1_run_49 : decode cX1_run 49 = .ok (.getfield 20, 3) := by decide +kernel
theorem dX1_run_52 : decode cX1_run 52 = .ok (.ifCond .ne 25, 3) := by decide +kernel
theorem dX1_run_55 : decode cX1_run 55 = .ok (.aload_n 0, 1) := by decide +kernel
theorem dX1_run_56 : decode cX1_run 56 = .ok (.aload_n 0, 1) := by decide +kernel
theorem dX1_run_57 : decode cX1_run 57 = .ok (.getfield 34, 3) := by decide +kernel
theorem dX1_run_60 : decode cX1_run 60 = .ok (.putfield 47, 3) := by decide +kernel
theorem dX1_run_63 : decode cX1_run 63 = .ok (.aload_n 0, 1) := by decide +kernel
theorem dX1_run_64 : decode cX1_run 64 = .ok (.aload_n 0, 1) := by decide +kernel
theorem dX1_run_65 : decode cX1_run 65 = .ok (.invokevirtual 50, 3) := by decide +kernel
theorem dX1_run_68 : decode cX1_run 68 = .ok (.putfield 20, 3) := by decide +kernel
theorem dX1_run_71 : decode cX1_run 71 = .ok (.iinc 1 1, 3) := by decide +kernel
theorem dX1_run_74 : decode cX1_run 74 = .ok (.goto (-40), 3) := by decide +kernel
theorem dX1_run_77 : decode cX1_run 77 = .ok (.aload_n 0, 1) := by decide +kernel
theorem dX1_run_78 : decode cX1_run 78 = .ok (.getfield 20, 3) := by decide +kernel
theorem dX1_run_81 : decode cX1_run 81 = .ok (.ifCond .ne 18, 3) := by decide +kernel
theorem dX1_run_84 : decode cX1_run 84 = .ok (.aload_n 0, 1) := by decide +kernel
theorem dX1_run_85 : decode cX1_run 85 = .ok (.getfield 24, 3) := by decide +kernel
theorem dX1_run_88 : decode cX1_run 88 = .ok (.getfield 54, 3) := by decide +kernel
theorem dX1_run_91 : decode cX1_run 91 = .ok (.iconst 1, 1) := by decide +kernel
theorem dX1_run_92 : decode cX1_run 92 = .ok (.if_icmp .ne 7, 3) := by decide +kernel
theorem dX1_run_95 : decode cX1_run 95 = .ok (.aload_n 0, 1) := by decide +kernel
theorem dX1_run_96 : decode cX1_run 96 = .ok (.invokevirtual 59, 3) := by decide +kernel
theorem dX1_run_99 : decode cX1_run 99 = .ok (.return_, 1) := by decide +kernel
theorem dX1_takePiece_0 : decode cX1_takePiece 0 = .ok (.aload_n 0, 1) := by decide +kernel
theorem dX1_takePiece_1 : decode cX1_takePiece 1 = .ok (.getfield 24, 3) := by decide +kernel
theorem dX1_takePiece_4 : decode cX1_takePiece 4 = .ok (.getfield 62, 3) := by decide +kernel
theorem dX1_takePiece_7 : decode cX1_takePiece 7 = .ok (.lookupswitch 35 #[(0, 25), (1, 30)], 25) := by decide +kernel
theorem dX1_takePiece_32 : decode cX1_takePiece 32 = .ok (.aload_n 0, 1) := by decide +kernel
theorem dX1_takePiece_33 : decode cX1_takePiece 33 = .ok (.invokevirtual 65, 3) := by decide +kernel
theorem dX1_takePiece_36 : decode cX1_takePiece 36 = .ok (.ireturn, 1) := by decide +kernel
theorem dX1_takePiece_37 : decode cX1_takePiece 37 = .ok (.aload_n 0, 1) := by decide +kernel
theorem dX1_takePiece_38 : decode cX1_takePiece 38 = .ok (.invokevirtual 68, 3) := by decide +kernel
theorem dX1_takePiece_41 : decode cX1_takePiece 41 = .ok (.ireturn, 1) := by decide +kernel
theorem dX1_takePiece_42 : decode cX1_takePiece 42 = .ok (.aload_n 0, 1) := by decide +kernel
theorem dX1_takePiece_43 : decode cX1_takePiece 43 = .ok (.invokevirtual 71, 3) := by decide +kernel
theorem dX1_takePiece_46 : decode cX1_takePiece 46 = .ok (.ireturn, 1) := by decide +kernel
theorem dX1_takeMarked_0 : decode cX1_takeMarked 0 = .ok (.aload_n 0, 1) := by decide +kernel
theorem dX1_takeMarked_1 : decode cX1_takeMarked 1 = .ok (.getfield 28, 3) := by decide +kernel
theorem dX1_takeMarked_4 : decode cX1_takeMarked 4 = .ok (.getfield 74, 3) := by decide +kernel
theorem dX1_takeMarked_7 : decode cX1_takeMarked 7 = .ok (.aload_n 0, 1) := by decide +kernel
theorem dX1_takeMarked_8 : decode cX1_takeMarked 8 = .ok (.getfield 47, 3) := by decide +kernel
theorem dX1_takeMarked_11 : decode cX1_takeMarked 11 = .ok (.isub, 1) := by decide +kernel
theorem dX1_takeMarked_12 : decode cX1_takeMarked 12 = .ok (.istore_n 1, 1) := by decide +kernel
theorem dX1_takeMarked_13 : decode cX1_takeMarked 13 = .ok (.iload_n 1, 1) := by decide +kernel
theorem dX1_takeMarked_14 : decode cX1_takeMarked 14 = .ok (.iconst 1, 1) := by decide +kernel
theorem dX1_takeMarked_15 : decode cX1_takeMarked 15 = .ok (.if_icmp .ge 5, 3) := by decide +kernel
theorem dX1_takeMarked_18 : decode cX1_takeMarked 18 = .ok (.iconst 1, 1) := by decide +kernel
theorem dX1_takeMarked_19 : decode cX1_takeMarked 19 = .ok (.ireturn, 1) := by decide +kernel
theorem dX1_takeMarked_20 : decode cX1_takeMarked 20 = .ok (.aload_n 0, 1) := by decide +kernel
theorem dX1_takeMarked_21 : decode cX1_takeMarked 21 = .ok (.getfield 28, 3) := by decide +kernel
theorem dX1_takeMarked_24 : decode cX1_takeMarked 24 = .ok (.aload_n 0, 1) := by decide +kernel
theorem dX1_takeMarked_25 : decode cX1_takeMarked 25 = .ok (.getfield 47, 3) := by decide +kernel
theorem dX1_takeMarked_28 : decode cX1_takeMarked 28 = .ok (.invokevirtual 77, 3) := by decide +kernel
theorem dX1_takeMarked_31 : decode cX1_takeMarked 31 = .ok (.aload_n 0, 1) := by decide +kernel
theorem dX1_takeMarked_32 : decode cX1_takeMarked 32 = .ok (.getfield 24, 3) := by decide +kernel
theorem dX1_takeMarked_35 : decode cX1_takeMarked 35 = .ok (.getfield 81, 3) := by decide +kernel
theorem dX1_takeMarked_38 : decode cX1_takeMarked 38 = .ok (.if_icmp .eq 14, 3) := by decide +kernel
theorem dX1_takeMarked_41 : decode cX1_takeMarked 41 = .ok (.aload_n 0, 1) := by decide +kernel
theorem dX1_takeMarked_42 : decode cX1_takeMarked 42 = .ok (.aload_n 0, 1) := by decide +kernel
theorem dX1_takeMarked_43 : decode cX1_takeMarked 43 = .ok (.getfield 47, 3) := by decide +kernel
theorem dX1_takeMarked_46 : decode cX1_takeMarked 46 = .ok (.iconst 1, 1) := by decide +kernel
theorem dX1_takeMarked_47 : decode cX1_takeMarked 47 = .ok (.iconst 1, 1) := by decide +kernel
theorem dX1_takeMarked_48 : decode cX1_takeMarked 48 = .ok (.invokevirtual 84, 3) := by decide +kernel
theorem dX1_takeMarked_51 : decode cX1_takeMarked 51 = .ok (.ireturn, 1) := by decide +kernel
theorem dX1_takeMarked_52 : decode cX1_takeMarked 52 = .ok (.iload_n 1, 1) := by decide +kernel
theorem dX1_takeMarked_53 : decode cX1_takeMarked 53 = .ok (.iconst 2, 1) := by decide +kernel
theorem dX1_takeMarked_54 : decode cX1_takeMarked 54 = .ok (.if_icmp .ge 5, 3) := by decide +kernel
theorem dX1_takeMarked_57 : decode cX1_takeMarked 57 = .ok (.iconst 2, 1) := by decide +kernel
theorem dX1_takeMarked_58 : decode cX1_takeMarked 58 = .ok (.ireturn, 1) := by decide +kernel
theorem dX1_takeMarked_59 : decode cX1_takeMarked 59 = .ok (.aload_n 0, 1) := by decide +kernel
theorem dX1_takeMarked_60 : decode cX1_takeMarked 60 = .ok (.getfield 28, 3) := by decide +kernel
theorem dX1_takeMarked_63 : decode cX1_takeMarked 63 = .ok (.aload_n 0, 1) := by decide +kernel
theorem dX1_takeMarked_64 : decode cX1_takeMarked 64 = .ok (.getfield 47, 3) := by decide +kernel
theorem dX1_takeMarked_67 : decode cX1_takeMarked 67 = .ok (.iconst 1, 1) := by decide +kernel
theorem dX1_takeMarked_68 : decode cX1_takeMarked 68 = .ok (.iadd, 1) := by decide +kernel
theorem dX1_takeMarked_69 : decode cX1_takeMarked 69 = .ok (.invokevirtual 77, 3) := by decide +kernel
theorem dX1_takeMarked_72 : decode cX1_takeMarked 72 = .ok (.istore_n 2, 1) := by decide +kernel
theorem dX1_takeMarked_73 : decode cX1_takeMarked 73 = .ok (.iload_n 2, 1) := by decide +kernel
theorem dX1_takeMarked_74 : decode cX1_takeMarked 74 = .ok (.ifCond .ne 10, 3) := by decide +kernel
theorem dX1_takeMarked_77 : decode cX1_takeMarked 77 = .ok (.aload_n 0, 1) := by decide +kernel
theorem dX1_takeMarked_78 : decode cX1_takeMarked 78 = .ok (.invokevirtual 88, 3) := by decide +kernel
theorem dX1_takeMarked_81 : decode cX1_takeMarked 81 = .ok (.goto 15, 3) := by decide +kernel
theorem dX1_takeMarked_84 : decode cX1_takeMarked 84 = .ok (.aload_n 0, 1) := by decide +kernel
theorem dX1_takeMarked_85 : decode cX1_takeMarked 85 = .ok (.aload_n 0, 1) := by decide +kernel
theorem dX1_takeMarked_86 : decode cX1_takeMarked 86 = .ok (.getfield 47, 3) := by decide +kernel
theorem dX1_takeMarked_89 : decode cX1_takeMarked 89 = .ok (.iconst 2, 1) := by decide +kernel
theorem dX1_takeMarked_90 : decode cX1_takeMarked 90 = .ok (.iadd, 1) := by decide +kernel
theorem dX1_takeMarked_91 : decode cX1_takeMarked 91 = .ok (.iconst 1, 1) := by decide +kernel
theorem dX1_takeMarked_92 : decode cX1_takeMarked 92 = .ok (.iload_n 2, 1) := by decide +kernel
theorem dX1_takeMarked_93 : decode cX1_takeMarked 93 = .ok (.invokevirtual 84, 3) := by decide +kernel
theorem dX1_takeMarked_96 : decode cX1_takeMarked 96 = .ok (.ireturn, 1) := by decide +kernel
theorem dX1_takeSigned_0 : decode cX1_takeSigned 0 = .ok (.aload_n 0, 1) := by decide +kernel
theorem dX1_takeSigned_1 : decode cX1_takeSigned 1 = .ok (.getfield 47, 3) := by decide +kernel
theorem dX1_takeSigned_4 : decode cX1_takeSigned 4 = .ok (.aload_n 0, 1) := by decide +kernel
theorem dX1_takeSigned_5 : decode cX1_takeSigned 5 = .ok (.getfield 28, 3) := by decide +kernel
theorem dX1_takeSigned_8 : decode cX1_takeSigned 8 = .ok (.getfield 74, 3) := by decide +kernel
theorem dX1_takeSigned_11 : decode cX1_takeSigned 11 = .ok (.if_icmp .lt 10, 3) := by decide +kernel
theorem dX1_takeSigned_14 : decode cX1_takeSigned 14 = .ok (.aload_n 0, 1) := by decide +kernel
theorem dX1_takeSigned_15 : decode cX1_takeSigned 15 = .ok (.iconst 1, 1) := by decide +kernel
theorem dX1_takeSigned_16 : decode cX1_takeSigned 16 = .ok (.putfield 37, 3) := by decide +kernel
theorem dX1_takeSigned_19 : decode cX1_takeSigned 19 = .ok (.iconst 0, 1) := by decide +kernel
theorem dX1_takeSigned_20 : decode cX1_takeSigned 20 = .ok (.ireturn, 1) := by decide +kernel
theorem dX1_takeSigned_21 : decode cX1_takeSigned 21 = .ok (.aload_n 0, 1) := by decide +kernel
theorem dX1_takeSigned_22 : decode cX1_takeSigned 22 = .ok (.getfield 28, 3) := by decide +kernel
theorem dX1_takeSigned_25 : decode cX1_takeSigned 25 = .ok (.aload_n 0, 1) := by decide +kernel
theorem dX1_takeSigned_26 : decode cX1_takeSigned 26 = .ok (.getfield 47, 3) := by decide +kernel
theorem dX1_takeSigned_29 : decode cX1_takeSigned 29 = .ok (.invokevirtual 77, 3) := by decide +kernel
theorem dX1_takeSigned_32 : decode cX1_takeSigned 32 = .ok (.i2b, 1) := by decide +kernel
theorem dX1_takeSigned_33 : decode cX1_takeSigned 33 = .ok (.istore_n 1, 1) := by decide +kernel
theorem dX1_takeSigned_34 : decode cX1_takeSigned 34 = .ok (.iload_n 1, 1) := by decide +kernel
theorem dX1_takeSigned_35 : decode cX1_takeSigned 35 = .ok (.bipush (-128), 2) := by decide +kernel
theorem dX1_takeSigned_37 : decode cX1_takeSigned 37 = .ok (.if_icmp .ne 15, 3) := by decide +kernel
theorem dX1_takeSigned_40 : decode cX1_takeSigned 40 = .ok (.aload_n 0, 1) := by decide +kernel
theorem dX1_takeSigned_41 : decode cX1_takeSigned 41 = .ok (.aload_n 0, 1) := by decide +kernel
theorem dX1_takeSigned_42 : decode cX1_takeSigned 42 = .ok (.getfield 47, 3) := by decide +kernel
theorem dX1_takeSigned_45 : decode cX1_takeSigned 45 = .ok (.iconst 1, 1) := by decide +kernel
theorem dX1_takeSigned_46 : decode cX1_takeSigned 46 = .ok (.iadd, 1) := by decide +kernel
theorem dX1_takeSigned_47 : decode cX1_takeSigned 47 = .ok (.putfield 34, 3) := by decide +kernel
theorem dX1_takeSigned_50 : decode cX1_takeSigned 50 = .ok (.iconst 0, 1) := by decide +kernel
theorem dX1_takeSigned_51 : decode cX1_takeSigned 51 = .ok (.ireturn, 1) := by decide +kernel
theorem dX1_takeSigned_52 : decode cX1_takeSigned 52 = .ok (.iload_n 1, 1) := by decide +kernel
theorem dX1_takeSigned_53 : decode cX1_takeSigned 53 = .ok (.ifCond .lt 20, 3) := by decide +kernel
theorem dX1_takeSigned_56 : decode cX1_takeSigned 56 = .ok (.aload_n 0, 1) := by decide +kernel
theorem dX1_takeSigned_57 : decode cX1_takeSigned 57 = .ok (.aload_n 0, 1) := by decide +kernel
theorem dX1_takeSigned_58 : decode cX1_takeSigned 58 = .ok (.getfield 47, 3) := by decide +kernel
theorem dX1_takeSigned_61 : decode cX1_takeSigned 61 = .ok (.iconst 1, 1) := by decide +kernel
theorem dX1_takeSigned_62 : decode cX1_takeSigned 62 = .ok (.iadd, 1) := by decide +kernel
theorem dX1_takeSigned_63 : decode cX1_takeSigned 63 = .ok (.iload_n 1, 1) := by decide +kernel
theorem dX1_takeSigned_64 : decode cX1_takeSigned 64 = .ok (.iconst 1, 1) := by decide +kernel
theorem dX1_takeSigned_65 : decode cX1_takeSigned 65 = .ok (.iadd, 1) := by decide +kernel
theorem dX1_takeSigned_66 : decode cX1_takeSigned 66 = .ok (.iconst 1, 1) := by decide +kernel
theorem dX1_takeSigned_67 : decode cX1_takeSigned 67 = .ok (.invokevirtual 84, 3) := by decide +kernel
theorem dX1_takeSigned_70 : decode cX1_takeSigned 70 = .ok (.goto 17, 3) := by decide +kernel
theorem dX1_takeSigned_73 : decode cX1_takeSigned 73 = .ok (.aload_n 0, 1) := by decide +kernel
theorem dX1_takeSigned_74 : decode cX1_takeSigned 74 = .ok (.aload_n 0, 1) := by decide +kernel
theorem dX1_takeSigned_75 : decode cX1_takeSigned 75 = .ok (.getfield 47, 3) := by decide +kernel
theorem dX1_takeSigned_78 : decode cX1_takeSigned 78 = .ok (.iconst 1, 1) := by decide +kernel
theorem dX1_takeSigned_79 : decode cX1_takeSigned 79 = .ok (.iadd, 1) := by decide +kernel
theorem dX1_takeSigned_80 : decode cX1_takeSigned 80 = .ok (.iconst 1, 1) := by decide +kernel
theorem dX1_takeSigned_81 : decode cX1_takeSigned 81 = .ok (.iconst 1, 1) := by decide +kernel
theorem dX1_takeSigned_82 : decode cX1_takeSigned 82 = .ok (.iload_n 1, 1) := by decide +kernel
theorem dX1_takeSigned_83 : decode cX1_takeSigned 83 = .ok (.isub, 1) := by decide +kernel
theorem dX1_takeSigned_84 : decode cX1_takeSigned 84 = .ok (.invokevirtual 84, 3) := by decide +kernel
theorem dX1_takeSigned_87 : decode cX1_takeSigned 87 = .ok (.ireturn, 1) := by decide +kernel
theorem dX1_takeUnits_0 : decode cX1_takeUnits 0 = .ok (.iload_n 2, 1) := by decide +kernel
theorem dX1_takeUnits_1 : decode cX1_takeUnits 1 = .ok (.aload_n 0, 1) := by decide +kernel
theorem dX1_takeUnits_2 : decode cX1_takeUnits 2 = .ok (.getfield 24, 3) := by decide +kernel
theorem dX1_takeUnits_5 : decode cX1_takeUnits 5 = .ok (.getfield 91, 3) := by decide +kernel
theorem dX1_takeUnits_8 : decode cX1_takeUnits 8 = .ok (.imul, 1) := by decide +kernel
theorem dX1_takeUnits_9 : decode cX1_takeUnits 9 = .ok (.istore 4, 2) := by decide +kernel
theorem dX1_takeUnits_11 : decode cX1_takeUnits 11 = .ok (.iload 4, 2) := by decide +kernel
theorem dX1_takeUnits_13 : decode cX1_takeUnits 13 = .ok (.aload_n 0, 1) := by decide +kernel
theorem dX1_takeUnits_14 : decode cX1_takeUnits 14 = .ok (.getfield 28, 3) := by decide +kernel
theorem dX1_takeUnits_17 : decode cX1_takeUnits 17 = .ok (.getfield 74, 3) := by decide +kernel
theorem dX1_takeUnits_20 : decode cX1_takeUnits 20 = .ok (.iload_n 1, 1) := by decide +kernel
theorem dX1_takeUnits_21 : decode cX1_takeUnits 21 = .ok (.isub, 1) := by decide +kernel
theorem dX1_takeUnits_22 : decode cX1_takeUnits 22 = .ok (.if_icmp .le 5, 3) := by decide +kernel
theorem dX1_takeUnits_25 : decode cX1_takeUnits 25 = .ok (.iconst 2, 1) := by decide +kernel
theorem dX1_takeUnits_26 : decode cX1_takeUnits 26 = .ok (.ireturn, 1) := by decide +kernel
theorem dX1_takeUnits_27 : decode cX1_takeUnits 27 = .ok (.aload_n 0, 1) := by decide +kernel
theorem dX1_takeUnits_28 : decode cX1_takeUnits 28 = .ok (.getfield 14, 3) := by decide +kernel
theorem dX1_takeUnits_31 : decode cX1_takeUnits 31 = .ok (.iload 4, 2) := by decide +kernel
theorem dX1_takeUnits_33 : decode cX1_takeUnits 33 = .ok (.iload_n 3, 1) := by decide +kernel
theorem dX1_takeUnits_34 : decode cX1_takeUnits 34 = .ok (.imul, 1) := by decide +kernel
theorem dX1_takeUnits_35 : decode cX1_takeUnits 35 = .ok (.invokevirtual 94, 3) := by decide +kernel
theorem dX1_takeUnits_38 : decode cX1_takeUnits 38 = .ok (.ifCond .ne 5, 3) := by decide +kernel
theorem dX1_takeUnits_41 : decode cX1_takeUnits 41 = .ok (.iconst 4, 1) := by decide +kernel
theorem dX1_takeUnits_42 : decode cX1_takeUnits 42 = .ok (.ireturn, 1) := by decide +kernel
theorem dX1_takeUnits_43 : decode cX1_takeUnits 43 = .ok (.iconst 0, 1) := by decide +kernel
theorem dX1_takeUnits_44 : decode cX1_takeUnits 44 = .ok (.istore 5, 2) := by decide +kernel
theorem dX1_takeUnits_46 : decode cX1_takeUnits 46 = .ok (.iload 5, 2) := by decide +kernel
theorem dX1_takeUnits_48 : decode cX1_takeUnits 48 = .ok (.iload_n 3, 1) := by decide +kernel
theorem dX1_takeUnits_49 : decode cX1_takeUnits 49 = .ok (.if_icmp .ge 43, 3) := by decide +kernel
theorem dX1_takeUnits_52 : decode cX1_takeUnits 52 = .ok (.iconst 0, 1) := by decide +kernel
theorem dX1_takeUnits_53 : decode cX1_takeUnits 53 = .ok (.istore 6, 2) := by decide +kernel
theorem dX1_takeUnits_55 : decode cX1_takeUnits 55 = .ok (.iload 6, 2) := by decide +kernel
theorem dX1_takeUnits_57 : decode cX1_takeUnits 57 = .ok (.iload 4, 2) := by decide +kernel
theorem dX1_takeUnits_59 : decode cX1_takeUnits 59 = .ok (.if_icmp .ge 27, 3) := by decide +kernel
theorem dX1_takeUnits_62 : decode cX1_takeUnits 62 = .ok (.aload_n 0, 1) := by decide +kernel
theorem dX1_takeUnits_63 : decode cX1_takeUnits 63 = .ok (.getfield 14, 3) := by decide +kernel
theorem dX1_takeUnits_66 : decode cX1_takeUnits 66 = .ok (.aload_n 0, 1) := by decide +kernel
theorem dX1_takeUnits_67 : decode cX1_takeUnits 67 = .ok (.getfield 28, 3) := by decide +kernel
theorem dX1_takeUnits_70 : decode cX1_takeUnits 70 = .ok (.iload_n 1, 1) := by decide +kernel
theorem dX1_takeUnits_71 : decode cX1_takeUnits 71 = .ok (.iload 6, 2) := by decide +kernel
theorem dX1_takeUnits_73 : decode cX1_takeUnits 73 = .ok (.iadd, 1) := by decide +kernel
theorem dX1_takeUnits_74 : decode cX1_takeUnits 74 = .ok (.invokevirtual 77, 3) := by decide +kernel
theorem dX1_takeUnits_77 : decode cX1_takeUnits 77 = .ok (.invokevirtual 98, 3) := by decide +kernel
theorem dX1_takeUnits_80 : decode cX1_takeUnits 80 = .ok (.iinc 6 1, 3) := by decide +kernel
theorem dX1_takeUnits_83 : decode cX1_takeUnits 83 = .ok (.goto (-28), 3) := by decide +kernel
theorem dX1_takeUnits_86 : decode cX1_takeUnits 86 = .ok (.iinc 5 1, 3) := by decide +kernel
theorem dX1_takeUnits_89 : decode cX1_takeUnits 89 = .ok (.goto (-43), 3) := by decide +kernel
theorem dX1_takeUnits_92 : decode cX1_takeUnits 92 = .ok (.aload_n 0, 1) := by decide +kernel
theorem dX1_takeUnits_93 : decode cX1_takeUnits 93 = .ok (.iload_n 1, 1) := by decide +kernel
theorem dX1_takeUnits_94 : decode cX1_takeUnits 94 = .ok (.iload 4, 2) := by decide +kernel
theorem dX1_takeUnits_96 : decode cX1_takeUnits 96 = .ok (.iadd, 1) := by decide +kernel
theorem dX1_takeUnits_97 : decode cX1_takeUnits 97 = .ok (.putfield 34, 3) := by decide +kernel
theorem dX1_takeUnits_100 : decode cX1_takeUnits 100 = .ok (.iconst 0, 1) := by decide +kernel
theorem dX1_takeUnits_101 : decode cX1_takeUnits 101 = .ok (.ireturn, 1) := by decide +kernel
theorem dX1_takeEnd_0 : decode cX1_takeEnd 0 = .ok (.aload_n 0, 1) := by decide +kernel
theorem dX1_takeEnd_1 : decode cX1_takeEnd 1 = .ok (.getfield 47, 3) := by decide +kernel
theorem dX1_takeEnd_4 : decode cX1_takeEnd 4 = .ok (.iconst 2, 1) := by decide +kernel
theorem dX1_takeEnd_5 : decode cX1_takeEnd 5 = .ok (.iadd, 1) := by decide +kernel
theorem dX1_takeEnd_6 : decode cX1_takeEnd 6 = .ok (.aload_n 0, 1) := by decide +kernel
theorem dX1_takeEnd_7 : decode cX1_takeEnd 7 = .ok (.getfield 28, 3) := by decide +kernel
theorem dX1_takeEnd_10 : decode cX1_takeEnd 10 = .ok (.getfield 74, 3) := by decide +kernel
theorem dX1_takeEnd_13 : decode cX1_takeEnd 13 = .ok (.if_icmp .ge 15, 3) := by decide +kernel
theorem dX1_takeEnd_16 : decode cX1_takeEnd 16 = .ok (.aload_n 0, 1) := by decide +kernel
theorem dX1_takeEnd_17 : decode cX1_takeEnd 17 = .ok (.dup, 1) := by decide +kernel
theorem dX1_takeEnd_18 : decode cX1_takeEnd 18 = .ok (.getfield 47, 3) := by decide +kernel
theorem dX1_takeEnd_21 : decode cX1_takeEnd 21 = .ok (.iconst 2, 1) := by decide +kernel
theorem dX1_takeEnd_22 : decode cX1_takeEnd 22 = .ok (.iadd, 1) := by decide +kernel
theorem dX1_takeEnd_23 : decode cX1_takeEnd 23 = .ok (.putfield 47, 3) := by decide +kernel
theorem dX1_takeEnd_26 : decode cX1_takeEnd 26 = .ok (.iconst 5, 1) := by decide +kernel
theorem dX1_takeEnd_27 : decode cX1_takeEnd 27 = .ok (.ireturn, 1) := by decide +kernel
theorem dX1_takeEnd_28 : decode cX1_takeEnd 28 = .ok (.aload_n 0, 1) := by decide +kernel
theorem dX1_takeEnd_29 : decode cX1_takeEnd 29 = .ok (.iconst 1, 1) := by decide +kernel
theorem dX1_takeEnd_30 : decode cX1_takeEnd 30 = .ok (.putfield 37, 3) := by decide +kernel
theorem dX1_takeEnd_33 : decode cX1_takeEnd 33 = .ok (.iconst 0, 1) := by decide +kernel
theorem dX1_takeEnd_34 : decode cX1_takeEnd 34 = .ok (.ireturn, 1) := by decide +kernel
theorem dX1_takeRows_0 : decode cX1_takeRows 0 = .ok (.aload_n 0, 1) := by decide +kernel
theorem dX1_takeRows_1 : decode cX1_takeRows 1 = .ok (.getfield 28, 3) := by decide +kernel
theorem dX1_takeRows_4 : decode cX1_takeRows 4 = .ok (.getfield 74, 3) := by decide +kernel
theorem dX1_takeRows_7 : decode cX1_takeRows 7 = .ok (.aload_n 0, 1) := by decide +kernel
theorem dX1_takeRows_8 : decode cX1_takeRows 8 = .ok (.getfield 47, 3) := by decide +kernel
theorem dX1_takeRows_11 : decode cX1_takeRows 11 = .ok (.isub, 1) := by decide +kernel
theorem dX1_takeRows_12 : decode cX1_takeRows 12 = .ok (.istore_n 1, 1) := by decide +kernel
theorem dX1_takeRows_13 : decode cX1_takeRows 13 = .ok (.iload_n 1, 1) := by decide +kernel
theorem dX1_takeRows_14 : decode cX1_takeRows 14 = .ok (.iconst 1, 1) := by decide +kernel
theorem dX1_takeRows_15 : decode cX1_takeRows 15 = .ok (.if_icmp .ge 5, 3) := by decide +kernel
theorem dX1_takeRows_18 : decode cX1_takeRows 18 = .ok (.iconst 1, 1) := by decide +kernel
theorem dX1_takeRows_19 : decode cX1_takeRows 19 = .ok (.ireturn, 1) := by decide +kernel
theorem dX1_takeRows_20 : decode cX1_takeRows 20 = .ok (.iload_n 1, 1) := by decide +kernel
theorem dX1_takeRows_21 : decode cX1_takeRows 21 = .ok (.iconst 2, 1) := by decide +kernel
theorem dX1_takeRows_22 : decode cX1_takeRows 22 = .ok (.if_icmp .ge 5, 3) := by decide +kernel
theorem dX1_takeRows_25 : decode cX1_takeRows 25 = .ok (.iconst 2, 1) := by decide +kernel
theorem dX1_takeRows_26 : decode cX1_takeRows 26 = .ok (.ireturn, 1) := by decide +kernel
theorem dX1_takeRows_27 : decode cX1_takeRows 27 = .ok (.aload_n 0, 1) := by decide +kernel
theorem dX1_takeRows_28 : decode cX1_takeRows 28 = .ok (.getfield 28, 3) := by decide +kernel
theorem dX1_takeRows_31 : decode cX1_takeRows 31 = .ok (.aload_n 0, 1) := by decide +kernel
theorem dX1_takeRows_32 : decode cX1_takeRows 32 = .ok (.getfield 47, 3) := by decide +kernel
theorem dX1_takeRows_35 : decode cX1_takeRows 35 = .ok (.invokevirtual 77, 3) := by decide +kernel
theorem dX1_takeRows_38 : decode cX1_takeRows 38 = .ok (.istore_n 2, 1) := by decide +kernel
theorem dX1_takeRows_39 : decode cX1_takeRows 39 = .ok (.aload_n 0, 1) := by decide +kernel
theorem dX1_takeRows_40 : decode cX1_takeRows 40 = .ok (.getfield 28, 3) := by decide +kernel
theorem dX1_takeRows_43 : decode cX1_takeRows 43 = .ok (.aload_n 0, 1) := by decide +kernel
theorem dX1_takeRows_44 : decode cX1_takeRows 44 = .ok (.getfield 47, 3) := by decide +kernel
theorem dX1_takeRows_47 : decode cX1_takeRows 47 = .ok (.iconst 1, 1) := by decide +kernel
theorem dX1_takeRows_48 : decode cX1_takeRows 48 = .ok (.iadd, 1) := by decide +kernel
theorem dX1_takeRows_49 : decode cX1_takeRows 49 = .ok (.invokevirtual 77, 3) := by decide +kernel
theorem dX1_takeRows_52 : decode cX1_takeRows 52 = .ok (.istore_n 3, 1) := by decide +kernel
theorem dX1_takeRows_53 : decode cX1_takeRows 53 = .ok (.iload_n 2, 1) := by decide +kernel
theorem dX1_takeRows_54 : decode cX1_takeRows 54 = .ok (.ifCond .le 10, 3) := by decide +kernel
theorem dX1_takeRows_57 : decode cX1_takeRows 57 = .ok (.aload_n 0, 1) := by decide +kernel
theorem dX1_takeRows_58 : decode cX1_takeRows 58 = .ok (.iload_n 2, 1) := by decide +kernel
theorem dX1_takeRows_59 : decode cX1_takeRows 59 = .ok (.iload_n 3, 1) := by decide +kernel
theorem dX1_takeRows_60 : decode cX1_takeRows 60 = .ok (.invokevirtual 101, 3) := by decide +kernel
theorem dX1_takeRows_63 : decode cX1_takeRows 63 = .ok (.ireturn, 1) := by decide +kernel
theorem dX1_takeRows_64 : decode cX1_takeRows 64 = .ok (.iload_n 3, 1) := by decide +kernel
theorem dX1_takeRows_65 : decode cX1_takeRows 65 = .ok (.tableswitch 42 0 2 #[27, 32, 37], 27) := by decide +kernel
theorem dX1_takeRows_92 : decode cX1_takeRows 92 = .ok (.aload_n 0, 1) := by decide +kernel
theorem dX1_takeRows_93 : decode cX1_takeRows 93 = .ok (.invokevirtual 105, 3) := by decide +kernel
theorem dX1_takeRows_96 : decode cX1_takeRows 96 = .ok (.ireturn, 1) := by decide +kernel
theorem dX1_takeRows_97 : decode cX1_takeRows 97 = .ok (.aload_n 0, 1) := by decide +kernel
theorem dX1_takeRows_98 : decode cX1_takeRows 98 = .ok (.invokevirtual 88, 3) := by decide +kernel
theorem dX1_takeRows_101 : decode cX1_takeRows 101 = .ok (.ireturn, 1) := by decide +kernel
theorem dX1_takeRows_102 : decode cX1_takeRows 102 = .ok (.aload_n 0, 1) := by decide +kernel
theorem dX1_takeRows_103 : decode cX1_takeRows 103 = .ok (.invokevirtual 108, 3) := by decide +kernel
theorem dX1_takeRows_106 : decode cX1_takeRows 106 = .ok (.ireturn, 1) := by decide +kernel
theorem dX1_takeRows_107 : decode cX1_takeRows 107 = .ok (.aload_n 0, 1) := by decide +kernel
theorem dX1_takeRows_108 : decode cX1_takeRows 108 = .ok (.iload_n 3, 1) := by decide +kernel
theorem dX1_takeRows_109 : decode cX1_takeRows 109 = .ok (.invokevirtual 111, 3) := by decide +kernel
theorem dX1_takeRows_112 : decode cX1_takeRows 112 = .ok (.ireturn, 1) := by decide +kernel
theorem dX1_takeRowRun_0 : decode cX1_takeRowRun 0 = .ok (.aload_n 0, 1) := by decide +kernel
theorem dX1_takeRowRun_1 : decode cX1_takeRowRun 1 = .ok (.iload_n 1, 1) := by decide +kernel
theorem dX1_takeRowRun_2 : decode cX1_takeRowRun 2 = .ok (.invokevirtual 114, 3) := by decide +kernel
theorem dX1_takeRowRun_5 : decode cX1_takeRowRun 5 = .ok (.istore_n 3, 1) := by decide +kernel
theorem dX1_takeRowRun_6 : decode cX1_takeRowRun 6 = .ok (.iload_n 3, 1) := by decide +kernel
theorem dX1_takeRowRun_7 : decode cX1_takeRowRun 7 = .ok (.ifCond .eq 5, 3) := by decide +kernel
theorem dX1_takeRowRun_10 : decode cX1_takeRowRun 10 = .ok (.iload_n 3, 1) := by decide +kernel
theorem dX1_takeRowRun_11 : decode cX1_takeRowRun 11 = .ok (.ireturn, 1) := by decide +kernel
theorem dX1_takeRowRun_12 : decode cX1_takeRowRun 12 = .ok (.iconst 0, 1) := by decide +kernel
theorem dX1_takeRowRun_13 : decode cX1_takeRowRun 13 = .ok (.istore 4, 2) := by decide +kernel
theorem dX1_takeRowRun_15 : decode cX1_takeRowRun 15 = .ok (.iload 4, 2) := by decide +kernel
theorem dX1_takeRowRun_17 : decode cX1_takeRowRun 17 = .ok (.iload_n 1, 1) := by decide +kernel
theorem dX1_takeRowRun_18 : decode cX1_takeRowRun 18 = .ok (.if_icmp .ge 14, 3) := by decide +kernel
theorem dX1_takeRowRun_21 : decode cX1_takeRowRun 21 = .ok (.aload_n 0, 1) := by decide +kernel
theorem dX1_takeRowRun_22 : decode cX1_takeRowRun 22 = .ok (.iload_n 2, 1) := by decide +kernel
theorem dX1_takeRowRun_23 : decode cX1_takeRowRun 23 = .ok (.invokevirtual 117, 3) := by decide +kernel
theorem dX1_takeRowRun_26 : decode cX1_takeRowRun 26 = .ok (.iinc 4 1, 3) := by decide +kernel
theorem dX1_takeRowRun_29 : decode cX1_takeRowRun 29 = .ok (.goto (-14), 3) := by decide +kernel
theorem dX1_takeRowRun_32 : decode cX1_takeRowRun 32 = .ok (.aload_n 0, 1) := by decide +kernel
theorem dX1_takeRowRun_33 : decode cX1_takeRowRun 33 = .ok (.aload_n 0, 1) := by decide +kernel
theorem dX1_takeRowRun_34 : decode cX1_takeRowRun 34 = .ok (.getfield 47, 3) := by decide +kernel
theorem dX1_takeRowRun_37 : decode cX1_takeRowRun 37 = .ok (.iconst 2, 1) := by decide +kernel
theorem dX1_takeRowRun_38 : decode cX1_takeRowRun 38 = .ok (.iadd, 1) := by decide +kernel
theorem dX1_takeRowRun_39 : decode cX1_takeRowRun 39 = .ok (.putfield 34, 3) := by decide +kernel
theorem dX1_takeRowRun_42 : decode cX1_takeRowRun 42 = .ok (.iconst 0, 1) := by decide +kernel
theorem dX1_takeRowRun_43 : decode cX1_takeRowRun 43 = .ok (.ireturn, 1) := by decide +kernel
theorem dX1_takeRowBytes_0 : decode cX1_takeRowBytes 0 = .ok (.iconst 2, 1) := by decide +kernel
theorem dX1_takeRowBytes_1 : decode cX1_takeRowBytes 1 = .ok (.iload_n 1, 1) := by decide +kernel
theorem dX1_takeRowBytes_2 : decode cX1_takeRowBytes 2 = .ok (.iadd, 1) := by decide +kernel
theorem dX1_takeRowBytes_3 : decode cX1_takeRowBytes 3 = .ok (.iload_n 1, 1) := by decide +kernel
theorem dX1_takeRowBytes_4 : decode cX1_takeRowBytes 4 = .ok (.iconst 1, 1) := by decide +kernel
theorem dX1_takeRowBytes_5 : decode cX1_takeRowBytes 5 = .ok (.iand, 1) := by decide +kernel
theorem dX1_takeRowBytes_6 : decode cX1_takeRowBytes 6 = .ok (.iadd, 1) := by decide +kernel
theorem dX1_takeRowBytes_7 : decode cX1_takeRowBytes 7 = .ok (.istore_n 2, 1) := by decide +kernel
theorem dX1_takeRowBytes_8 : decode cX1_takeRowBytes 8 = .ok (.iload_n 2, 1) := by decide +kernel
theorem dX1_takeRowBytes_9 : decode cX1_takeRowBytes 9 = .ok (.aload_n 0, 1) := by decide +kernel
theorem dX1_takeRowBytes_10 : decode cX1_takeRowBytes 10 = .ok (.getfield 28, 3) := by decide +kernel
theorem dX1_takeRowBytes_13 : decode cX1_takeRowBytes 13 = .ok (.getfield 74, 3) := by decide +kernel
theorem dX1_takeRowBytes_16 : decode cX1_takeRowBytes 16 = .ok (.aload_n 0, 1) := by decide +kernel
theorem dX1_takeRowBytes_17 : decode cX1_takeRowBytes 17 = .ok (.getfield 47, 3) := by decide +kernel
theorem dX1_takeRowBytes_20 : decode cX1_takeRowBytes 20 = .ok (.isub, 1) := by decide +kernel
theorem dX1_takeRowBytes_21 : decode cX1_takeRowBytes 21 = .ok (.if_icmp .le 5, 3) := by decide +kernel
theorem dX1_takeRowBytes_24 : decode cX1_takeRowBytes 24 = .ok (.iconst 2, 1) := by decide +kernel
theorem dX1_takeRowBytes_25 : decode cX1_takeRowBytes 25 = .ok (.ireturn, 1) := by decide +kernel
theorem dX1_takeRowBytes_26 : decode cX1_takeRowBytes 26 = .ok (.aload_n 0, 1) := by decide +kernel
theorem dX1_takeRowBytes_27 : decode cX1_takeRowBytes 27 = .ok (.iload_n 1, 1) := by decide +kernel
theorem dX1_takeRowBytes_28 : decode cX1_takeRowBytes 28 = .ok (.invokevirtual 114, 3) := by decide +kernel
theorem dX1_takeRowBytes_31 : decode cX1_takeRowBytes 31 = .ok (.istore_n 3, 1) := by decide +kernel
theorem dX1_takeRowBytes_32 : decode cX1_takeRowBytes 32 = .ok (.iload_n 3, 1) := by decide +kernel
theorem dX1_takeRowBytes_33 : decode cX1_takeRowBytes 33 = .ok (.ifCond .eq 5, 3) := by decide +kernel
theorem dX1_takeRowBytes_36 : decode cX1_takeRowBytes 36 = .ok (.iload_n 3, 1) := by decide +kernel
theorem dX1_takeRowBytes_37 : decode cX1_takeRowBytes 37 = .ok (.ireturn, 1) := by decide +kernel
theorem dX1_takeRowBytes_38 : decode cX1_takeRowBytes 38 = .ok (.iconst 0, 1) := by decide +kernel
theorem dX1_takeRowBytes_39 : decode cX1_takeRowBytes 39 = .ok (.istore 4, 2) := by decide +kernel
theorem dX1_takeRowBytes_41 : decode cX1_takeRowBytes 41 = .ok (.iload 4, 2) := by decide +kernel
theorem dX1_takeRowBytes_43 : decode cX1_takeRowBytes 43 = .ok (.iload_n 1, 1) := by decide +kernel
theorem dX1_takeRowBytes_44 : decode cX1_takeRowBytes 44 = .ok (.if_icmp .ge 29, 3) := by decide +kernel
theorem dX1_takeRowBytes_47 : decode cX1_takeRowBytes 47 = .ok (.aload_n 0, 1) := by decide +kernel
theorem dX1_takeRowBytes_48 : decode cX1_takeRowBytes 48 = .ok (.aload_n 0, 1) := by decide +kernel
theorem dX1_takeRowBytes_49 : decode cX1_takeRowBytes 49 = .ok (.getfield 28, 3) := by decide +kernel
theorem dX1_takeRowBytes_52 : decode cX1_takeRowBytes 52 = .ok (.aload_n 0, 1) := by decide +kernel
theorem dX1_takeRowBytes_53 : decode cX1_takeRowBytes 53 = .ok (.getfield 47, 3) := by decide +kernel
theorem dX1_takeRowBytes_56 : decode cX1_takeRowBytes 56 = .ok (.iconst 2, 1) := by decide +kernel
theorem dX1_takeRowBytes_57 : decode cX1_takeRowBytes 57 = .ok (.iadd, 1) := by decide +kernel
theorem dX1_takeRowBytes_58 : decode cX1_takeRowBytes 58 = .ok (.iload 4, 2) := by decide +kernel
theorem dX1_takeRowBytes_60 : decode cX1_takeRowBytes 60 = .ok (.iadd, 1) := by decide +kernel
theorem dX1_takeRowBytes_61 : decode cX1_takeRowBytes 61 = .ok (.invokevirtual 77, 3) := by decide +kernel
theorem dX1_takeRowBytes_64 : decode cX1_takeRowBytes 64 = .ok (.invokevirtual 117, 3) := by decide +kernel
theorem dX1_takeRowBytes_67 : decode cX1_takeRowBytes 67 = .ok (.iinc 4 1, 3) := by decide +kernel
theorem dX1_takeRowBytes_70 : decode cX1_takeRowBytes 70 = .ok (.goto (-29), 3) := by decide +kernel
theorem dX1_takeRowBytes_73 : decode cX1_takeRowBytes 73 = .ok (.aload_n 0, 1) := by decide +kernel
theorem dX1_takeRowBytes_74 : decode cX1_takeRowBytes 74 = .ok (.aload_n 0, 1) := by decide +kernel
theorem dX1_takeRowBytes_75 : decode cX1_takeRowBytes 75 = .ok (.getfield 47, 3) := by decide +kernel
theorem dX1_takeRowBytes_78 : decode cX1_takeRowBytes 78 = .ok (.iload_n 2, 1) := by decide +kernel
theorem dX1_takeRowBytes_79 : decode cX1_takeRowBytes 79 = .ok (.iadd, 1) := by decide +kernel
theorem dX1_takeRowBytes_80 : decode cX1_takeRowBytes 80 = .ok (.putfield 34, 3) := by decide +kernel
theorem dX1_takeRowBytes_83 : decode cX1_takeRowBytes 83 = .ok (.iconst 0, 1) := by decide +kernel
theorem dX1_takeRowBytes_84 : decode cX1_takeRowBytes 84 = .ok (.ireturn, 1) := by decide +kernel
theorem dX1_takeRowEnd_0 : decode cX1_takeRowEnd 0 = .ok (.aload_n 0, 1) := by decide +kernel
theorem dX1_takeRowEnd_1 : decode cX1_takeRowEnd 1 = .ok (.iconst 0, 1) := by decide +kernel
theorem dX1_takeRowEnd_2 : decode cX1_takeRowEnd 2 = .ok (.invokevirtual 114, 3) := by decide +kernel
theorem dX1_takeRowEnd_5 : decode cX1_takeRowEnd 5 = .ok (.istore_n 1, 1) := by decide +kernel
theorem dX1_takeRowEnd_6 : decode cX1_takeRowEnd 6 = .ok (.iload_n 1, 1) := by decide +kernel
theorem dX1_takeRowEnd_7 : decode cX1_takeRowEnd 7 = .ok (.ifCond .eq 5, 3) := by decide +kernel
theorem dX1_takeRowEnd_10 : decode cX1_takeRowEnd 10 = .ok (.iload_n 1, 1) := by decide +kernel
theorem dX1_takeRowEnd_11 : decode cX1_takeRowEnd 11 = .ok (.ireturn, 1) := by decide +kernel
theorem dX1_takeRowEnd_12 : decode cX1_takeRowEnd 12 = .ok (.aload_n 0, 1) := by decide +kernel
theorem dX1_takeRowEnd_13 : decode cX1_takeRowEnd 13 = .ok (.invokevirtual 120, 3) := by decide +kernel
theorem dX1_takeRowEnd_16 : decode cX1_takeRowEnd 16 = .ok (.aload_n 0, 1) := by decide +kernel
theorem dX1_takeRowEnd_17 : decode cX1_takeRowEnd 17 = .ok (.dup, 1) := by decide +kernel
theorem dX1_takeRowEnd_18 : decode cX1_takeRowEnd 18 = .ok (.getfield 41, 3) := by decide +kernel
theorem dX1_takeRowEnd_21 : decode cX1_takeRowEnd 21 = .ok (.iconst 1, 1) := by decide +kernel
theorem dX1_takeRowEnd_22 : decode cX1_takeRowEnd 22 = .ok (.iadd, 1) := by decide +kernel
theorem dX1_takeRowEnd_23 : decode cX1_takeRowEnd 23 = .ok (.putfield 41, 3) := by decide +kernel
theorem dX1_takeRowEnd_26 : decode cX1_takeRowEnd 26 = .ok (.aload_n 0, 1) := by decide +kernel
theorem dX1_takeRowEnd_27 : decode cX1_takeRowEnd 27 = .ok (.iconst 0, 1) := by decide +kernel
theorem dX1_takeRowEnd_28 : decode cX1_takeRowEnd 28 = .ok (.putfield 44, 3) := by decide +kernel
theorem dX1_takeRowEnd_31 : decode cX1_takeRowEnd 31 = .ok (.aload_n 0, 1) := by decide +kernel
theorem dX1_takeRowEnd_32 : decode cX1_takeRowEnd 32 = .ok (.aload_n 0, 1) := by decide +kernel
theorem dX1_takeRowEnd_33 : decode cX1_takeRowEnd 33 = .ok (.getfield 47, 3) := by decide +kernel
theorem dX1_takeRowEnd_36 : decode cX1_takeRowEnd 36 = .ok (.iconst 2, 1) := by decide +kernel
theorem dX1_takeRowEnd_37 : decode cX1_takeRowEnd 37 = .ok (.iadd, 1) := by decide +kernel
theorem dX1_takeRowEnd_38 : decode cX1_takeRowEnd 38 = .ok (.putfield 34, 3) := by decide +kernel
theorem dX1_takeRowEnd_41 : decode cX1_takeRowEnd 41 = .ok (.iconst 0, 1) := by decide +kernel
theorem dX1_takeRowEnd_42 : decode cX1_takeRowEnd 42 = .ok (.ireturn, 1) := by decide +kernel
theorem dX1_takeGoingOn_0 : decode cX1_takeGoingOn 0 = .ok (.aload_n 0, 1) := by decide +kernel
theorem dX1_takeGoingOn_1 : decode cX1_takeGoingOn 1 = .ok (.getfield 28, 3) := by decide +kernel
theorem dX1_takeGoingOn_4 : decode cX1_takeGoingOn 4 = .ok (.getfield 74, 3) := by decide +kernel
theorem dX1_takeGoingOn_7 : decode cX1_takeGoingOn 7 = .ok (.aload_n 0, 1) := by decide +kernel
theorem dX1_takeGoingOn_8 : decode cX1_takeGoingOn 8 = .ok (.getfield 47, 3) := by decide +kernel
theorem dX1_takeGoingOn_11 : decode cX1_takeGoingOn 11 = .ok (.isub, 1) := by decide +kernel
theorem dX1_takeGoingOn_12 : decode cX1_takeGoingOn 12 = .ok (.iconst 4, 1) := by decide +kernel
theorem dX1_takeGoingOn_13 : decode cX1_takeGoingOn 13 = .ok (.if_icmp .ge 5, 3) := by decide +kernel
theorem dX1_takeGoingOn_16 : decode cX1_takeGoingOn 16 = .ok (.iconst 2, 1) := by decide +kernel
theorem dX1_takeGoingOn_17 : decode cX1_takeGoingOn 17 = .ok (.ireturn, 1) := by decide +kernel
theorem dX1_takeGoingOn_18 : decode cX1_takeGoingOn 18 = .ok (.aload_n 0, 1) := by decide +kernel
theorem dX1_takeGoingOn_19 : decode cX1_takeGoingOn 19 = .ok (.getfield 28, 3) := by decide +kernel
theorem dX1_takeGoingOn_22 : decode cX1_takeGoingOn 22 = .ok (.aload_n 0, 1) := by decide +kernel
theorem dX1_takeGoingOn_23 : decode cX1_takeGoingOn 23 = .ok (.getfield 47, 3) := by decide +kernel
theorem dX1_takeGoingOn_26 : decode cX1_takeGoingOn 26 = .ok (.iconst 2, 1) := by decide +kernel
theorem dX1_takeGoingOn_27 : decode cX1_takeGoingOn 27 = .ok (.iadd, 1) := by decide +kernel
theorem dX1_takeGoingOn_28 : decode cX1_takeGoingOn 28 = .ok (.invokevirtual 77, 3) := by decide +kernel
theorem dX1_takeGoingOn_31 : decode cX1_takeGoingOn 31 = .ok (.istore_n 1, 1) := by decide +kernel
theorem dX1_takeGoingOn_32 : decode cX1_takeGoingOn 32 = .ok (.aload_n 0, 1) := by decide +kernel
theorem dX1_takeGoingOn_33 : decode cX1_takeGoingOn 33 = .ok (.getfield 44, 3) := by decide +kernel
theorem dX1_takeGoingOn_36 : decode cX1_takeGoingOn 36 = .ok (.iload_n 1, 1) := by decide +kernel
theorem dX1_takeGoingOn_37 : decode cX1_takeGoingOn 37 = .ok (.iadd, 1) := by decide +kernel
theorem dX1_takeGoingOn_38 : decode cX1_takeGoingOn 38 = .ok (.aload_n 0, 1) := by decide +kernel
theorem dX1_takeGoingOn_39 : decode cX1_takeGoingOn 39 = .ok (.getfield 24, 3) := by decide +kernel
theorem dX1_takeGoingOn_42 : decode cX1_takeGoingOn 42 = .ok (.getfield 123, 3) := by decide +kernel
theorem dX1_takeGoingOn_45 : decode cX1_takeGoingOn 45 = .ok (.if_icmp .le 5, 3) := by decide +kernel
theorem dX1_takeGoingOn_48 : decode cX1_takeGoingOn 48 = .ok (.iconst 3, 1) := by decide +kernel
theorem dX1_takeGoingOn_49 : decode cX1_takeGoingOn 49 = .ok (.ireturn, 1) := by decide +kernel
theorem dX1_takeGoingOn_50 : decode cX1_takeGoingOn 50 = .ok (.aload_n 0, 1) := by decide +kernel
theorem dX1_takeGoingOn_51 : decode cX1_takeGoingOn 51 = .ok (.dup, 1) := by decide +kernel
theorem dX1_takeGoingOn_52 : decode cX1_takeGoingOn 52 = .ok (.getfield 44, 3) := by decide +kernel
theorem dX1_takeGoingOn_55 : decode cX1_takeGoingOn 55 = .ok (.iload_n 1, 1) := by decide +kernel
theorem dX1_takeGoingOn_56 : decode cX1_takeGoingOn 56 = .ok (.iadd, 1) := by decide +kernel
theorem dX1_takeGoingOn_57 : decode cX1_takeGoingOn 57 = .ok (.putfield 44, 3) := by decide +kernel
theorem dX1_takeGoingOn_60 : decode cX1_takeGoingOn 60 = .ok (.aload_n 0, 1) := by decide +kernel
theorem dX1_takeGoingOn_61 : decode cX1_takeGoingOn 61 = .ok (.dup, 1) := by decide +kernel
theorem dX1_takeGoingOn_62 : decode cX1_takeGoingOn 62 = .ok (.getfield 41, 3) := by decide +kernel
theorem dX1_takeGoingOn_65 : decode cX1_takeGoingOn 65 = .ok (.aload_n 0, 1) := by decide +kernel
theorem dX1_takeGoingOn_66 : decode cX1_takeGoingOn 66 = .ok (.getfield 28, 3) := by decide +kernel
theorem dX1_takeGoingOn_69 : decode cX1_takeGoingOn 69 = .ok (.aload_n 0, 1) := by decide +kernel
theorem dX1_takeGoingOn_70 : decode cX1_takeGoingOn 70 = .ok (.getfield 47, 3) := by decide +kernel
theorem dX1_takeGoingOn_73 : decode cX1_takeGoingOn 73 = .ok (.iconst 3, 1) := by decide +kernel
theorem dX1_takeGoingOn_74 : decode cX1_takeGoingOn 74 = .ok (.iadd, 1) := by decide +kernel
theorem dX1_takeGoingOn_75 : decode cX1_takeGoingOn 75 = .ok (.invokevirtual 77, 3) := by decide +kernel
theorem dX1_takeGoingOn_78 : decode cX1_takeGoingOn 78 = .ok (.iadd, 1) := by decide +kernel
theorem dX1_takeGoingOn_79 : decode cX1_takeGoingOn 79 = .ok (.putfield 41, 3) := by decide +kernel
theorem dX1_takeGoingOn_82 : decode cX1_takeGoingOn 82 = .ok (.aload_n 0, 1) := by decide +kernel
theorem dX1_takeGoingOn_83 : decode cX1_takeGoingOn 83 = .ok (.aload_n 0, 1) := by decide +kernel
theorem dX1_takeGoingOn_84 : decode cX1_takeGoingOn 84 = .ok (.getfield 47, 3) := by decide +kernel
theorem dX1_takeGoingOn_87 : decode cX1_takeGoingOn 87 = .ok (.iconst 4, 1) := by decide +kernel
theorem dX1_takeGoingOn_88 : decode cX1_takeGoingOn 88 = .ok (.iadd, 1) := by decide +kernel
theorem dX1_takeGoingOn_89 : decode cX1_takeGoingOn 89 = .ok (.putfield 34, 3) := by decide +kernel
theorem dX1_takeGoingOn_92 : decode cX1_takeGoingOn 92 = .ok (.iconst 0, 1) := by decide +kernel
theorem dX1_takeGoingOn_93 : decode cX1_takeGoingOn 93 = .ok (.ireturn, 1) := by decide +kernel
theorem dX1_rowFault_0 : decode cX1_rowFault 0 = .ok (.aload_n 0, 1) := by decide +kernel
theorem dX1_rowFault_1 : decode cX1_rowFault 1 = .ok (.getfield 44, 3) := by decide +kernel
theorem dX1_rowFault_4 : decode cX1_rowFault 4 = .ok (.iload_n 1, 1) := by decide +kernel
theorem dX1_rowFault_5 : decode cX1_rowFault 5 = .ok (.iadd, 1) := by decide +kernel
theorem dX1_rowFault_6 : decode cX1_rowFault 6 = .ok (.aload_n 0, 1) := by decide +kernel
theorem dX1_rowFault_7 : decode cX1_rowFault 7 = .ok (.getfield 24, 3) := by decide +kernel
theorem dX1_rowFault_10 : decode cX1_rowFault 10 = .ok (.getfield 123, 3) := by decide +kernel
theorem dX1_rowFault_13 : decode cX1_rowFault 13 = .ok (.if_icmp .le 5, 3) := by decide +kernel
theorem dX1_rowFault_16 : decode cX1_rowFault 16 = .ok (.iconst 3, 1) := by decide +kernel
theorem dX1_rowFault_17 : decode cX1_rowFault 17 = .ok (.ireturn, 1) := by decide +kernel
theorem dX1_rowFault_18 : decode cX1_rowFault 18 = .ok (.aload_n 0, 1) := by decide +kernel
theorem dX1_rowFault_19 : decode cX1_rowFault 19 = .ok (.getfield 41, 3) := by decide +kernel
theorem dX1_rowFault_22 : decode cX1_rowFault 22 = .ok (.iconst 1, 1) := by decide +kernel
theorem dX1_rowFault_23 : decode cX1_rowFault 23 = .ok (.iadd, 1) := by decide +kernel
theorem dX1_rowFault_24 : decode cX1_rowFault 24 = .ok (.aload_n 0, 1) := by decide +kernel
theorem dX1_rowFault_25 : decode cX1_rowFault 25 = .ok (.getfield 24, 3) := by decide +kernel
theorem dX1_rowFault_28 : decode cX1_rowFault 28 = .ok (.getfield 123, 3) := by decide +kernel
theorem dX1_rowFault_31 : decode cX1_rowFault 31 = .ok (.imul, 1) := by decide +kernel
theorem dX1_rowFault_32 : decode cX1_rowFault 32 = .ok (.sipush 240, 3) := by decide +kernel
theorem dX1_rowFault_35 : decode cX1_rowFault 35 = .ok (.if_icmp .le 7, 3) := by decide +kernel
theorem dX1_rowFault_38 : decode cX1_rowFault 38 = .ok (.iconst 4, 1) := by decide +kernel
theorem dX1_rowFault_39 : decode cX1_rowFault 39 = .ok (.goto 4, 3) := by decide +kernel
theorem dX1_rowFault_42 : decode cX1_rowFault 42 = .ok (.iconst 0, 1) := by decide +kernel
theorem dX1_rowFault_43 : decode cX1_rowFault 43 = .ok (.ireturn, 1) := by decide +kernel
theorem dX1_putInRow_0 : decode cX1_putInRow 0 = .ok (.aload_n 0, 1) := by decide +kernel
theorem dX1_putInRow_1 : decode cX1_putInRow 1 = .ok (.invokevirtual 120, 3) := by decide +kernel
theorem dX1_putInRow_4 : decode cX1_putInRow 4 = .ok (.aload_n 0, 1) := by decide +kernel
theorem dX1_putInRow_5 : decode cX1_putInRow 5 = .ok (.getfield 14, 3) := by decide +kernel
theorem dX1_putInRow_8 : decode cX1_putInRow 8 = .ok (.aload_n 0, 1) := by decide +kernel
theorem dX1_putInRow_9 : decode cX1_putInRow 9 = .ok (.getfield 41, 3) := by decide +kernel
theorem dX1_putInRow_12 : decode cX1_putInRow 12 = .ok (.aload_n 0, 1) := by decide +kernel
theorem dX1_putInRow_13 : decode cX1_putInRow 13 = .ok (.getfield 24, 3) := by decide +kernel
theorem dX1_putInRow_16 : decode cX1_putInRow 16 = .ok (.getfield 123, 3) := by decide +kernel
theorem dX1_putInRow_19 : decode cX1_putInRow 19 = .ok (.imul, 1) := by decide +kernel
theorem dX1_putInRow_20 : decode cX1_putInRow 20 = .ok (.aload_n 0, 1) := by decide +kernel
theorem dX1_putInRow_21 : decode cX1_putInRow 21 = .ok (.getfield 44, 3) := by decide +kernel
theorem dX1_putInRow_24 : decode cX1_putInRow 24 = .ok (.iadd, 1) := by decide +kernel
theorem dX1_putInRow_25 : decode cX1_putInRow 25 = .ok (.iload_n 1, 1) := by decide +kernel
theorem dX1_putInRow_26 : decode cX1_putInRow 26 = .ok (.invokevirtual 126, 3) := by decide +kernel
theorem dX1_putInRow_29 : decode cX1_putInRow 29 = .ok (.aload_n 0, 1) := by decide +kernel
theorem dX1_putInRow_30 : decode cX1_putInRow 30 = .ok (.dup, 1) := by decide +kernel
theorem dX1_putInRow_31 : decode cX1_putInRow 31 = .ok (.getfield 44, 3) := by decide +kernel
theorem dX1_putInRow_34 : decode cX1_putInRow 34 = .ok (.iconst 1, 1) := by decide +kernel
theorem dX1_putInRow_35 : decode cX1_putInRow 35 = .ok (.iadd, 1) := by decide +kernel
theorem dX1_putInRow_36 : decode cX1_putInRow 36 = .ok (.putfield 44, 3) := by decide +kernel
theorem dX1_putInRow_39 : decode cX1_putInRow 39 = .ok (.return_, 1) := by decide +kernel
theorem dX1_countRow_0 : decode cX1_countRow 0 = .ok (.aload_n 0, 1) := by decide +kernel
theorem dX1_countRow_1 : decode cX1_countRow 1 = .ok (.getfield 14, 3) := by decide +kernel
theorem dX1_countRow_4 : decode cX1_countRow 4 = .ok (.aload_n 0, 1) := by decide +kernel
theorem dX1_countRow_5 : decode cX1_countRow 5 = .ok (.getfield 41, 3) := by decide +kernel
theorem dX1_countRow_8 : decode cX1_countRow 8 = .ok (.iconst 1, 1) := by decide +kernel
theorem dX1_countRow_9 : decode cX1_countRow 9 = .ok (.iadd, 1) := by decide +kernel
theorem dX1_countRow_10 : decode cX1_countRow 10 = .ok (.aload_n 0, 1) := by decide +kernel
theorem dX1_countRow_11 : decode cX1_countRow 11 = .ok (.getfield 24, 3) := by decide +kernel
theorem dX1_countRow_14 : decode cX1_countRow 14 = .ok (.getfield 123, 3) := by decide +kernel
theorem dX1_countRow_17 : decode cX1_countRow 17 = .ok (.imul, 1) := by decide +kernel
theorem dX1_countRow_18 : decode cX1_countRow 18 = .ok (.putfield 74, 3) := by decide +kernel
theorem dX1_countRow_21 : decode cX1_countRow 21 = .ok (.return_, 1) := by decide +kernel
theorem dX1_addUp_0 : decode cX1_addUp 0 = .ok (.iconst 0, 1) := by decide +kernel
theorem dX1_addUp_1 : decode cX1_addUp 1 = .ok (.istore_n 1, 1) := by decide +kernel
theorem dX1_addUp_2 : decode cX1_addUp 2 = .ok (.iconst 0, 1) := by decide +kernel
theorem dX1_addUp_3 : decode cX1_addUp 3 = .ok (.istore_n 2, 1) := by decide +kernel
theorem dX1_addUp_4 : decode cX1_addUp 4 = .ok (.iload_n 2, 1) := by decide +kernel
theorem dX1_addUp_5 : decode cX1_addUp 5 = .ok (.aload_n 0, 1) := by decide +kernel
theorem dX1_addUp_6 : decode cX1_addUp 6 = .ok (.getfield 24, 3) := by decide +kernel
theorem dX1_addUp_9 : decode cX1_addUp 9 = .ok (.aload_n 0, 1) := by decide +kernel
theorem dX1_addUp_10 : decode cX1_addUp 10 = .ok (.getfield 14, 3) := by decide +kernel
theorem dX1_addUp_13 : decode cX1_addUp 13 = .ok (.getfield 74, 3) := by decide +kernel
theorem dX1_addUp_16 : decode cX1_addUp 16 = .ok (.invokevirtual 130, 3) := by decide +kernel
theorem dX1_addUp_19 : decode cX1_addUp 19 = .ok (.if_icmp .ge 70, 3) := by decide +kernel
theorem dX1_addUp_22 : decode cX1_addUp 22 = .ok (.iload_n 1, 1) := by decide +kernel
theorem dX1_addUp_23 : decode cX1_addUp 23 = .ok (.aload_n 0, 1) := by decide +kernel
theorem dX1_addUp_24 : decode cX1_addUp 24 = .ok (.getfield 24, 3) := by decide +kernel
theorem dX1_addUp_27 : decode cX1_addUp 27 = .ok (.aload_n 0, 1) := by decide +kernel
theorem dX1_addUp_28 : decode cX1_addUp 28 = .ok (.getfield 14, 3) := by decide +kernel
theorem dX1_addUp_31 : decode cX1_addUp 31 = .ok (.iload_n 2, 1) := by decide +kernel
theorem dX1_addUp_32 : decode cX1_addUp 32 = .ok (.invokevirtual 133, 3) := by decide +kernel
theorem dX1_addUp_35 : decode cX1_addUp 35 = .ok (.iadd, 1) := by decide +kernel
theorem dX1_addUp_36 : decode cX1_addUp 36 = .ok (.istore_n 1, 1) := by decide +kernel
theorem dX1_addUp_37 : decode cX1_addUp 37 = .ok (.iconst 0, 1) := by decide +kernel
theorem dX1_addUp_38 : decode cX1_addUp 38 = .ok (.istore_n 3, 1) := by decide +kernel
theorem dX1_addUp_39 : decode cX1_addUp 39 = .ok (.iload_n 3, 1) := by decide +kernel
theorem dX1_addUp_40 : decode cX1_addUp 40 = .ok (.aload_n 0, 1) := by decide +kernel
theorem dX1_addUp_41 : decode cX1_addUp 41 = .ok (.getfield 24, 3) := by decide +kernel
theorem dX1_addUp_44 : decode cX1_addUp 44 = .ok (.getfield 91, 3) := by decide +kernel
theorem dX1_addUp_47 : decode cX1_addUp 47 = .ok (.if_icmp .ge 36, 3) := by decide +kernel
theorem dX1_addUp_50 : decode cX1_addUp 50 = .ok (.aload_n 0, 1) := by decide +kernel
theorem dX1_addUp_51 : decode cX1_addUp 51 = .ok (.getfield 14, 3) := by decide +kernel
theorem dX1_addUp_54 : decode cX1_addUp 54 = .ok (.iload_n 2, 1) := by decide +kernel
theorem dX1_addUp_55 : decode cX1_addUp 55 = .ok (.aload_n 0, 1) := by decide +kernel
theorem dX1_addUp_56 : decode cX1_addUp 56 = .ok (.getfield 24, 3) := by decide +kernel
theorem dX1_addUp_59 : decode cX1_addUp 59 = .ok (.getfield 91, 3) := by decide +kernel
theorem dX1_addUp_62 : decode cX1_addUp 62 = .ok (.imul, 1) := by decide +kernel
theorem dX1_addUp_63 : decode cX1_addUp 63 = .ok (.iload_n 3, 1) := by decide +kernel
theorem dX1_addUp_64 : decode cX1_addUp 64 = .ok (.iadd, 1) := by decide +kernel
theorem dX1_addUp_65 : decode cX1_addUp 65 = .ok (.aload_n 0, 1) := by decide +kernel
theorem dX1_addUp_66 : decode cX1_addUp 66 = .ok (.getfield 24, 3) := by decide +kernel
theorem dX1_addUp_69 : decode cX1_addUp 69 = .ok (.iload_n 1, 1) := by decide +kernel
theorem dX1_addUp_70 : decode cX1_addUp 70 = .ok (.iload_n 3, 1) := by decide +kernel
theorem dX1_addUp_71 : decode cX1_addUp 71 = .ok (.invokevirtual 137, 3) := by decide +kernel
theorem dX1_addUp_74 : decode cX1_addUp 74 = .ok (.invokevirtual 126, 3) := by decide +kernel
theorem dX1_addUp_77 : decode cX1_addUp 77 = .ok (.iinc 3 1, 3) := by decide +kernel
theorem dX1_addUp_80 : decode cX1_addUp 80 = .ok (.goto (-41), 3) := by decide +kernel
theorem dX1_addUp_83 : decode cX1_addUp 83 = .ok (.iinc 2 1, 3) := by decide +kernel
theorem dX1_addUp_86 : decode cX1_addUp 86 = .ok (.goto (-82), 3) := by decide +kernel
theorem dX1_addUp_89 : decode cX1_addUp 89 = .ok (.return_, 1) := by decide +kernel
