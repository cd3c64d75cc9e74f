theorem dX4_init_0 : decode cX4_init 0 = .ok (.aload_n 0, 1) := by decide +kernel
theorem dX4_init_1 : decode cX4_init 1 = .ok (.invokespecial 3, 3) := by decide +kernel
theorem dX4_init_4 : decode cX4_init 4 = .ok (.aload_n 0, 1) := by decide +kernel
theorem dX4_init_5 : decode cX4_init 5 = .ok (.iconst 1, 1) := by decide +kernel
theorem dX4_init_6 : decode cX4_init 6 = .ok (.putfield 9, 3) := by decide +kernel
theorem dX4_init_9 : decode cX4_init 9 = .ok (.aload_n 0, 1) := by decide +kernel
theorem dX4_init_10 : decode cX4_init 10 = .ok (.bipush 8, 2) := by decide +kernel
theorem dX4_init_12 : decode cX4_init 12 = .ok (.putfield 15, 3) := by decide +kernel
theorem dX4_init_15 : decode cX4_init 15 = .ok (.aload_n 0, 1) := by decide +kernel
theorem dX4_init_16 : decode cX4_init 16 = .ok (.iconst 0, 1) := by decide +kernel
theorem dX4_init_17 : decode cX4_init 17 = .ok (.putfield 18, 3) := by decide +kernel
theorem dX4_init_20 : decode cX4_init 20 = .ok (.aload_n 0, 1) := by decide +kernel
theorem dX4_init_21 : decode cX4_init 21 = .ok (.iconst 0, 1) := by decide +kernel
theorem dX4_init_22 : decode cX4_init 22 = .ok (.putfield 21, 3) := by decide +kernel
theorem dX4_init_25 : decode cX4_init 25 = .ok (.aload_n 0, 1) := by decide +kernel
theorem dX4_init_26 : decode cX4_init 26 = .ok (.iload_n 1, 1) := by decide +kernel
theorem dX4_init_27 : decode cX4_init 27 = .ok (.putfield 24, 3) := by decide +kernel
theorem dX4_init_30 : decode cX4_init 30 = .ok (.return_, 1) := by decide +kernel
theorem dX4_allow_0 : decode cX4_allow 0 = .ok (.iload_n 1, 1) := by decide +kernel
theorem dX4_allow_1 : decode cX4_allow 1 = .ok (.tableswitch 101 0 3 #[31, 52, 69, 86], 31) := by decide +kernel
theorem dX4_allow_32 : decode cX4_allow 32 = .ok (.iload_n 2, 1) := by decide +kernel
theorem dX4_allow_33 : decode cX4_allow 33 = .ok (.iconst 1, 1) := by decide +kernel
theorem dX4_allow_34 : decode cX4_allow 34 = .ok (.if_icmp .eq 13, 3) := by decide +kernel
theorem dX4_allow_37 : decode cX4_allow 37 = .ok (.iload_n 2, 1) := by decide +kernel
theorem dX4_allow_38 : decode cX4_allow 38 = .ok (.iconst 2, 1) := by decide +kernel
theorem dX4_allow_39 : decode cX4_allow 39 = .ok (.if_icmp .eq 8, 3) := by decide +kernel
theorem dX4_allow_42 : decode cX4_allow 42 = .ok (.iload_n 2, 1) := by decide +kernel
theorem dX4_allow_43 : decode cX4_allow 43 = .ok (.iconst 4, 1) := by decide +kernel
theorem dX4_allow_44 : decode cX4_allow 44 = .ok (.if_icmp .ne 7, 3) := by decide +kernel
theorem dX4_allow_47 : decode cX4_allow 47 = .ok (.iconst 1, 1) := by decide +kernel
theorem dX4_allow_48 : decode cX4_allow 48 = .ok (.goto 4, 3) := by decide +kernel
theorem dX4_allow_51 : decode cX4_allow 51 = .ok (.iconst 0, 1) := by decide +kernel
theorem dX4_allow_52 : decode cX4_allow 52 = .ok (.ireturn, 1) := by decide +kernel
theorem dX4_allow_53 : decode cX4_allow 53 = .ok (.iload_n 2, 1) := by decide +kernel
theorem dX4_allow_54 : decode cX4_allow 54 = .ok (.iconst 1, 1) := by decide +kernel
theorem dX4_allow_55 : decode cX4_allow 55 = .ok (.if_icmp .lt 13, 3) := by decide +kernel
theorem dX4_allow_58 : decode cX4_allow 58 = .ok (.iload_n 2, 1) := by decide +kernel
theorem dX4_allow_59 : decode cX4_allow 59 = .ok (.bipush 60, 2) := by decide +kernel
theorem dX4_allow_61 : decode cX4_allow 61 = .ok (.if_icmp .gt 7, 3) := by decide +kernel
theorem dX4_allow_64 : decode cX4_allow 64 = .ok (.iconst 1, 1) := by decide +kernel
theorem dX4_allow_65 : decode cX4_allow 65 = .ok (.goto 4, 3) := by decide +kernel
theorem dX4_allow_68 : decode cX4_allow 68 = .ok (.iconst 0, 1) := by decide +kernel
theorem dX4_allow_69 : decode cX4_allow 69 = .ok (.ireturn, 1) := by decide +kernel
theorem dX4_allow_70 : decode cX4_allow 70 = .ok (.iload_n 2, 1) := by decide +kernel
theorem dX4_allow_71 : decode cX4_allow 71 = .ok (.ifCond .lt 14, 3) := by decide +kernel
theorem dX4_allow_74 : decode cX4_allow 74 = .ok (.iload_n 2, 1) := by decide +kernel
theorem dX4_allow_75 : decode cX4_allow 75 = .ok (.sipush 255, 3) := by decide +kernel
theorem dX4_allow_78 : decode cX4_allow 78 = .ok (.if_icmp .gt 7, 3) := by decide +kernel
theorem dX4_allow_81 : decode cX4_allow 81 = .ok (.iconst 1, 1) := by decide +kernel
theorem dX4_allow_82 : decode cX4_allow 82 = .ok (.goto 4, 3) := by decide +kernel
theorem dX4_allow_85 : decode cX4_allow 85 = .ok (.iconst 0, 1) := by decide +kernel
theorem dX4_allow_86 : decode cX4_allow 86 = .ok (.ireturn, 1) := by decide +kernel
theorem dX4_allow_87 : decode cX4_allow 87 = .ok (.iload_n 2, 1) := by decide +kernel
theorem dX4_allow_88 : decode cX4_allow 88 = .ok (.ifCond .eq 8, 3) := by decide +kernel
theorem dX4_allow_91 : decode cX4_allow 91 = .ok (.iload_n 2, 1) := by decide +kernel
theorem dX4_allow_92 : decode cX4_allow 92 = .ok (.iconst 1, 1) := by decide +kernel
theorem dX4_allow_93 : decode cX4_allow 93 = .ok (.if_icmp .ne 7, 3) := by decide +kernel
theorem dX4_allow_96 : decode cX4_allow 96 = .ok (.iconst 1, 1) := by decide +kernel
theorem dX4_allow_97 : decode cX4_allow 97 = .ok (.goto 4, 3) := by decide +kernel
theorem dX4_allow_100 : decode cX4_allow 100 = .ok (.iconst 0, 1) := by decide +kernel
theorem dX4_allow_101 : decode cX4_allow 101 = .ok (.ireturn, 1) := by decide +kernel
theorem dX4_allow_102 : decode cX4_allow 102 = .ok (.iconst 0, 1) := by decide +kernel
theorem dX4_allow_103 : decode cX4_allow 103 = .ok (.ireturn, 1) := by decide +kernel
theorem dX4_change_0 : decode cX4_change 0 = .ok (.iload_n 1, 1) := by decide +kernel
theorem dX4_change_1 : decode cX4_change 1 = .ok (.tableswitch 63 0 2 #[27, 39, 51], 27) := by decide +kernel
theorem dX4_change_28 : decode cX4_change 28 = .ok (.aload_n 0, 1) := by decide +kernel
theorem dX4_change_29 : decode cX4_change 29 = .ok (.getfield 9, 3) := by decide +kernel
theorem dX4_change_32 : decode cX4_change 32 = .ok (.istore_n 3, 1) := by decide +kernel
theorem dX4_change_33 : decode cX4_change 33 = .ok (.aload_n 0, 1) := by decide +kernel
theorem dX4_change_34 : decode cX4_change 34 = .ok (.iload_n 2, 1) := by decide +kernel
theorem dX4_change_35 : decode cX4_change 35 = .ok (.putfield 9, 3) := by decide +kernel
theorem dX4_change_38 : decode cX4_change 38 = .ok (.iload_n 3, 1) := by decide +kernel
theorem dX4_change_39 : decode cX4_change 39 = .ok (.ireturn, 1) := by decide +kernel
theorem dX4_change_40 : decode cX4_change 40 = .ok (.aload_n 0, 1) := by decide +kernel
theorem dX4_change_41 : decode cX4_change 41 = .ok (.getfield 15, 3) := by decide +kernel
theorem dX4_change_44 : decode cX4_change 44 = .ok (.istore_n 3, 1) := by decide +kernel
theorem dX4_change_45 : decode cX4_change 45 = .ok (.aload_n 0, 1) := by decide +kernel
theorem dX4_change_46 : decode cX4_change 46 = .ok (.iload_n 2, 1) := by decide +kernel
theorem dX4_change_47 : decode cX4_change 47 = .ok (.putfield 15, 3) := by decide +kernel
theorem dX4_change_50 : decode cX4_change 50 = .ok (.iload_n 3, 1) := by decide +kernel
theorem dX4_change_51 : decode cX4_change 51 = .ok (.ireturn, 1) := by decide +kernel
theorem dX4_change_52 : decode cX4_change 52 = .ok (.aload_n 0, 1) := by decide +kernel
theorem dX4_change_53 : decode cX4_change 53 = .ok (.getfield 18, 3) := by decide +kernel
theorem dX4_change_56 : decode cX4_change 56 = .ok (.istore_n 3, 1) := by decide +kernel
theorem dX4_change_57 : decode cX4_change 57 = .ok (.aload_n 0, 1) := by decide +kernel
theorem dX4_change_58 : decode cX4_change 58 = .ok (.iload_n 2, 1) := by decide +kernel
theorem dX4_change_59 : decode cX4_change 59 = .ok (.putfield 18, 3) := by decide +kernel
theorem dX4_change_62 : decode cX4_change 62 = .ok (.iload_n 3, 1) := by decide +kernel
theorem dX4_change_63 : decode cX4_change 63 = .ok (.ireturn, 1) := by decide +kernel
theorem dX4_change_64 : decode cX4_change 64 = .ok (.aload_n 0, 1) := by decide +kernel
theorem dX4_change_65 : decode cX4_change 65 = .ok (.getfield 21, 3) := by decide +kernel
theorem dX4_change_68 : decode cX4_change 68 = .ok (.istore_n 3, 1) := by decide +kernel
theorem dX4_change_69 : decode cX4_change 69 = .ok (.aload_n 0, 1) := by decide +kernel
theorem dX4_change_70 : decode cX4_change 70 = .ok (.iload_n 2, 1) := by decide +kernel
theorem dX4_change_71 : decode cX4_change 71 = .ok (.putfield 21, 3) := by decide +kernel
theorem dX4_change_74 : decode cX4_change 74 = .ok (.iload_n 3, 1) := by decide +kernel
theorem dX4_change_75 : decode cX4_change 75 = .ok (.ireturn, 1) := by decide +kernel
theorem dX4_isWhole_0 : decode cX4_isWhole 0 = .ok (.aload_n 0, 1) := by decide +kernel
theorem dX4_isWhole_1 : decode cX4_isWhole 1 = .ok (.getfield 24, 3) := by decide +kernel
theorem dX4_isWhole_4 : decode cX4_isWhole 4 = .ok (.iconst 2, 1) := by decide +kernel
theorem dX4_isWhole_5 : decode cX4_isWhole 5 = .ok (.if_icmp .ne 10, 3) := by decide +kernel
theorem dX4_isWhole_8 : decode cX4_isWhole 8 = .ok (.aload_n 0, 1) := by decide +kernel
theorem dX4_isWhole_9 : decode cX4_isWhole 9 = .ok (.getfield 15, 3) := by decide +kernel
theorem dX4_isWhole_12 : decode cX4_isWhole 12 = .ok (.goto 7, 3) := by decide +kernel
theorem dX4_isWhole_15 : decode cX4_isWhole 15 = .ok (.aload_n 0, 1) := by decide +kernel
theorem dX4_isWhole_16 : decode cX4_isWhole 16 = .ok (.getfield 9, 3) := by decide +kernel
theorem dX4_isWhole_19 : decode cX4_isWhole 19 = .ok (.istore_n 2, 1) := by decide +kernel
theorem dX4_isWhole_20 : decode cX4_isWhole 20 = .ok (.iload_n 2, 1) := by decide +kernel
theorem dX4_isWhole_21 : decode cX4_isWhole 21 = .ok (.ifCond .le 13, 3) := by decide +kernel
theorem dX4_isWhole_24 : decode cX4_isWhole 24 = .ok (.iload_n 1, 1) := by decide +kernel
theorem dX4_isWhole_25 : decode cX4_isWhole 25 = .ok (.iload_n 2, 1) := by decide +kernel
theorem dX4_isWhole_26 : decode cX4_isWhole 26 = .ok (.irem, 1) := by decide +kernel
theorem dX4_isWhole_27 : decode cX4_isWhole 27 = .ok (.ifCond .ne 7, 3) := by decide +kernel
theorem dX4_isWhole_30 : decode cX4_isWhole 30 = .ok (.iconst 1, 1) := by decide +kernel
theorem dX4_isWhole_31 : decode cX4_isWhole 31 = .ok (.goto 4, 3) := by decide +kernel
theorem dX4_isWhole_34 : decode cX4_isWhole 34 = .ok (.iconst 0, 1) := by decide +kernel
theorem dX4_isWhole_35 : decode cX4_isWhole 35 = .ok (.ireturn, 1) := by decide +kernel
theorem dX4_unitsIn_0 : decode cX4_unitsIn 0 = .ok (.aload_n 0, 1) := by decide +kernel
theorem dX4_unitsIn_1 : decode cX4_unitsIn 1 = .ok (.getfield 9, 3) := by decide +kernel
theorem dX4_unitsIn_4 : decode cX4_unitsIn 4 = .ok (.ifCond .le 12, 3) := by decide +kernel
theorem dX4_unitsIn_7 : decode cX4_unitsIn 7 = .ok (.iload_n 1, 1) := by decide +kernel
theorem dX4_unitsIn_8 : decode cX4_unitsIn 8 = .ok (.aload_n 0, 1) := by decide +kernel
theorem dX4_unitsIn_9 : decode cX4_unitsIn 9 = .ok (.getfield 9, 3) := by decide +kernel
theorem dX4_unitsIn_12 : decode cX4_unitsIn 12 = .ok (.idiv, 1) := by decide +kernel
theorem dX4_unitsIn_13 : decode cX4_unitsIn 13 = .ok (.goto 4, 3) := by decide +kernel
theorem dX4_unitsIn_16 : decode cX4_unitsIn 16 = .ok (.iconst 0, 1) := by decide +kernel
theorem dX4_unitsIn_17 : decode cX4_unitsIn 17 = .ok (.ireturn, 1) := by decide +kernel
theorem dX4_rowsIn_0 : decode cX4_rowsIn 0 = .ok (.aload_n 0, 1) := by decide +kernel
theorem dX4_rowsIn_1 : decode cX4_rowsIn 1 = .ok (.getfield 15, 3) := by decide +kernel
theorem dX4_rowsIn_4 : decode cX4_rowsIn 4 = .ok (.ifCond .le 12, 3) := by decide +kernel
theorem dX4_rowsIn_7 : decode cX4_rowsIn 7 = .ok (.iload_n 1, 1) := by decide +kernel
theorem dX4_rowsIn_8 : decode cX4_rowsIn 8 = .ok (.aload_n 0, 1) := by decide +kernel
theorem dX4_rowsIn_9 : decode cX4_rowsIn 9 = .ok (.getfield 15, 3) := by decide +kernel
theorem dX4_rowsIn_12 : decode cX4_rowsIn 12 = .ok (.idiv, 1) := by decide +kernel
theorem dX4_rowsIn_13 : decode cX4_rowsIn 13 = .ok (.goto 4, 3) := by decide +kernel
theorem dX4_rowsIn_16 : decode cX4_rowsIn 16 = .ok (.iconst 0, 1) := by decide +kernel
theorem dX4_rowsIn_17 : decode cX4_rowsIn 17 = .ok (.ireturn, 1) := by decide +kernel
theorem dX4_numberAt_0 : decode cX4_numberAt 0 = .ok (.iconst 0, 1) := by decide +kernel
theorem dX4_numberAt_1 : decode cX4_numberAt 1 = .ok (.istore_n 3, 1) := by decide +kernel
theorem dX4_numberAt_2 : decode cX4_numberAt 2 = .ok (.iconst 0, 1) := by decide +kernel
theorem dX4_numberAt_3 : decode cX4_numberAt 3 = .ok (.istore 4, 2) := by decide +kernel
theorem dX4_numberAt_5 : decode cX4_numberAt 5 = .ok (.iload 4, 2) := by decide +kernel
theorem dX4_numberAt_7 : decode cX4_numberAt 7 = .ok (.aload_n 0, 1) := by decide +kernel
theorem dX4_numberAt_8 : decode cX4_numberAt 8 = .ok (.getfield 9, 3) := by decide +kernel
theorem dX4_numberAt_11 : decode cX4_numberAt 11 = .ok (.if_icmp .ge 28, 3) := by decide +kernel
theorem dX4_numberAt_14 : decode cX4_numberAt 14 = .ok (.iload_n 3, 1) := by decide +kernel
theorem dX4_numberAt_15 : decode cX4_numberAt 15 = .ok (.bipush 8, 2) := by decide +kernel
theorem dX4_numberAt_17 : decode cX4_numberAt 17 = .ok (.ishl, 1) := by decide +kernel
theorem dX4_numberAt_18 : decode cX4_numberAt 18 = .ok (.aload_n 1, 1) := by decide +kernel
theorem dX4_numberAt_19 : decode cX4_numberAt 19 = .ok (.iload_n 2, 1) := by decide +kernel
theorem dX4_numberAt_20 : decode cX4_numberAt 20 = .ok (.aload_n 0, 1) := by decide +kernel
theorem dX4_numberAt_21 : decode cX4_numberAt 21 = .ok (.getfield 9, 3) := by decide +kernel
theorem dX4_numberAt_24 : decode cX4_numberAt 24 = .ok (.imul, 1) := by decide +kernel
theorem dX4_numberAt_25 : decode cX4_numberAt 25 = .ok (.iload 4, 2) := by decide +kernel
theorem dX4_numberAt_27 : decode cX4_numberAt 27 = .ok (.iadd, 1) := by decide +kernel
theorem dX4_numberAt_28 : decode cX4_numberAt 28 = .ok (.invokevirtual 27, 3) := by decide +kernel
theorem dX4_numberAt_31 : decode cX4_numberAt 31 = .ok (.ior, 1) := by decide +kernel
theorem dX4_numberAt_32 : decode cX4_numberAt 32 = .ok (.istore_n 3, 1) := by decide +kernel
theorem dX4_numberAt_33 : decode cX4_numberAt 33 = .ok (.iinc 4 1, 3) := by decide +kernel
theorem dX4_numberAt_36 : decode cX4_numberAt 36 = .ok (.goto (-31), 3) := by decide +kernel
theorem dX4_numberAt_39 : decode cX4_numberAt 39 = .ok (.iload_n 3, 1) := by decide +kernel
theorem dX4_numberAt_40 : decode cX4_numberAt 40 = .ok (.ireturn, 1) := by decide +kernel
theorem dX4_byteOf_0 : decode cX4_byteOf 0 = .ok (.iload_n 1, 1) := by decide +kernel
theorem dX4_byteOf_1 : decode cX4_byteOf 1 = .ok (.bipush 8, 2) := by decide +kernel
theorem dX4_byteOf_3 : decode cX4_byteOf 3 = .ok (.aload_n 0, 1) := by decide +kernel
theorem dX4_byteOf_4 : decode cX4_byteOf 4 = .ok (.getfield 9, 3) := by decide +kernel
theorem dX4_byteOf_7 : decode cX4_byteOf 7 = .ok (.iconst 1, 1) := by decide +kernel
theorem dX4_byteOf_8 : decode cX4_byteOf 8 = .ok (.isub, 1) := by decide +kernel
theorem dX4_byteOf_9 : decode cX4_byteOf 9 = .ok (.iload_n 2, 1) := by decide +kernel
theorem dX4_byteOf_10 : decode cX4_byteOf 10 = .ok (.isub, 1) := by decide +kernel
theorem dX4_byteOf_11 : decode cX4_byteOf 11 = .ok (.imul, 1) := by decide +kernel
theorem dX4_byteOf_12 : decode cX4_byteOf 12 = .ok (.iushr, 1) := by decide +kernel
theorem dX4_byteOf_13 : decode cX4_byteOf 13 = .ok (.sipush 255, 3) := by decide +kernel
theorem dX4_byteOf_16 : decode cX4_byteOf 16 = .ok (.iand, 1) := by decide +kernel
theorem dX4_byteOf_17 : decode cX4_byteOf 17 = .ok (.ireturn, 1) := by decide +kernel
theorem dX4_modulo_0 : decode cX4_modulo 0 = .ok (.aload_n 0, 1) := by decide +kernel
theorem dX4_modulo_1 : decode cX4_modulo 1 = .ok (.getfield 9, 3) := by decide +kernel
theorem dX4_modulo_4 : decode cX4_modulo 4 = .ok (.iconst 4, 1) := by decide +kernel
theorem dX4_modulo_5 : decode cX4_modulo 5 = .ok (.if_icmp .ne 7, 3) := by decide +kernel
theorem dX4_modulo_8 : decode cX4_modulo 8 = .ok (.iload_n 1, 1) := by decide +kernel
theorem dX4_modulo_9 : decode cX4_modulo 9 = .ok (.goto 16, 3) := by decide +kernel
theorem dX4_modulo_12 : decode cX4_modulo 12 = .ok (.iload_n 1, 1) := by decide +kernel
theorem dX4_modulo_13 : decode cX4_modulo 13 = .ok (.iconst 1, 1) := by decide +kernel
theorem dX4_modulo_14 : decode cX4_modulo 14 = .ok (.bipush 8, 2) := by decide +kernel
theorem dX4_modulo_16 : decode cX4_modulo 16 = .ok (.aload_n 0, 1) := by decide +kernel
theorem dX4_modulo_17 : decode cX4_modulo 17 = .ok (.getfield 9, 3) := by decide +kernel
theorem dX4_modulo_20 : decode cX4_modulo 20 = .ok (.imul, 1) := by decide +kernel
theorem dX4_modulo_21 : decode cX4_modulo 21 = .ok (.ishl, 1) := by decide +kernel
theorem dX4_modulo_22 : decode cX4_modulo 22 = .ok (.iconst 1, 1) := by decide +kernel
theorem dX4_modulo_23 : decode cX4_modulo 23 = .ok (.isub, 1) := by decide +kernel
theorem dX4_modulo_24 : decode cX4_modulo 24 = .ok (.iand, 1) := by decide +kernel
theorem dX4_modulo_25 : decode cX4_modulo 25 = .ok (.ireturn, 1) := by decide +kernel
