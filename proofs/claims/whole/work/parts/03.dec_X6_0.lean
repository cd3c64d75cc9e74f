theorem dX6_init_0 : decode cX6_init 0 = .ok (.aload_n 0, 1) := by decide +kernel
theorem dX6_init_1 : decode cX6_init 1 = .ok (.invokespecial 1, 3) := by decide +kernel
theorem dX6_init_4 : decode cX6_init 4 = .ok (.aload_n 0, 1) := by decide +kernel
theorem dX6_init_5 : decode cX6_init 5 = .ok (.iconst 1, 1) := by decide +kernel
theorem dX6_init_6 : decode cX6_init 6 = .ok (.putfield 7, 3) := by decide +kernel
theorem dX6_init_9 : decode cX6_init 9 = .ok (.aload_n 0, 1) := by decide +kernel
theorem dX6_init_10 : decode cX6_init 10 = .ok (.bipush 8, 2) := by decide +kernel
theorem dX6_init_12 : decode cX6_init 12 = .ok (.putfield 13, 3) := by decide +kernel
theorem dX6_init_15 : decode cX6_init 15 = .ok (.aload_n 0, 1) := by decide +kernel
theorem dX6_init_16 : decode cX6_init 16 = .ok (.sipush 240, 3) := by decide +kernel
theorem dX6_init_19 : decode cX6_init 19 = .ok (.newarray .int, 2) := by decide +kernel
theorem dX6_init_21 : decode cX6_init 21 = .ok (.putfield 16, 3) := by decide +kernel
theorem dX6_init_24 : decode cX6_init 24 = .ok (.aload_n 0, 1) := by decide +kernel
theorem dX6_init_25 : decode cX6_init 25 = .ok (.sipush 1000, 3) := by decide +kernel
theorem dX6_init_28 : decode cX6_init 28 = .ok (.newarray .int, 2) := by decide +kernel
theorem dX6_init_30 : decode cX6_init 30 = .ok (.putfield 20, 3) := by decide +kernel
theorem dX6_init_33 : decode cX6_init 33 = .ok (.aload_n 0, 1) := by decide +kernel
theorem dX6_init_34 : decode cX6_init 34 = .ok (.sipush 400, 3) := by decide +kernel
theorem dX6_init_37 : decode cX6_init 37 = .ok (.newarray .int, 2) := by decide +kernel
theorem dX6_init_39 : decode cX6_init 39 = .ok (.putfield 23, 3) := by decide +kernel
theorem dX6_init_42 : decode cX6_init 42 = .ok (.aload_n 0, 1) := by decide +kernel
theorem dX6_init_43 : decode cX6_init 43 = .ok (.sipush 240, 3) := by decide +kernel
theorem dX6_init_46 : decode cX6_init 46 = .ok (.newarray .long, 2) := by decide +kernel
theorem dX6_init_48 : decode cX6_init 48 = .ok (.putfield 26, 3) := by decide +kernel
theorem dX6_init_51 : decode cX6_init 51 = .ok (.aload_n 0, 1) := by decide +kernel
theorem dX6_init_52 : decode cX6_init 52 = .ok (.sipush 241, 3) := by decide +kernel
theorem dX6_init_55 : decode cX6_init 55 = .ok (.newarray .int, 2) := by decide +kernel
theorem dX6_init_57 : decode cX6_init 57 = .ok (.putfield 30, 3) := by decide +kernel
theorem dX6_init_60 : decode cX6_init 60 = .ok (.aload_n 0, 1) := by decide +kernel
theorem dX6_init_61 : decode cX6_init 61 = .ok (.sipush 1000, 3) := by decide +kernel
theorem dX6_init_64 : decode cX6_init 64 = .ok (.newarray .int, 2) := by decide +kernel
theorem dX6_init_66 : decode cX6_init 66 = .ok (.putfield 33, 3) := by decide +kernel
theorem dX6_init_69 : decode cX6_init 69 = .ok (.aload_n 0, 1) := by decide +kernel
theorem dX6_init_70 : decode cX6_init 70 = .ok (.sipush 256, 3) := by decide +kernel
theorem dX6_init_73 : decode cX6_init 73 = .ok (.newarray .int, 2) := by decide +kernel
theorem dX6_init_75 : decode cX6_init 75 = .ok (.putfield 36, 3) := by decide +kernel
theorem dX6_init_78 : decode cX6_init 78 = .ok (.aload_n 0, 1) := by decide +kernel
theorem dX6_init_79 : decode cX6_init 79 = .ok (.iload_n 1, 1) := by decide +kernel
theorem dX6_init_80 : decode cX6_init 80 = .ok (.iconst 0, 1) := by decide +kernel
theorem dX6_init_81 : decode cX6_init 81 = .ok (.iconst 2, 1) := by decide +kernel
theorem dX6_init_82 : decode cX6_init 82 = .ok (.invokestatic 39, 3) := by decide +kernel
theorem dX6_init_85 : decode cX6_init 85 = .ok (.ifCond .eq 7, 3) := by decide +kernel
theorem dX6_init_88 : decode cX6_init 88 = .ok (.iload_n 1, 1) := by decide +kernel
theorem dX6_init_89 : decode cX6_init 89 = .ok (.goto 4, 3) := by decide +kernel
theorem dX6_init_92 : decode cX6_init 92 = .ok (.iconst 0, 1) := by decide +kernel
theorem dX6_init_93 : decode cX6_init 93 = .ok (.putfield 43, 3) := by decide +kernel
theorem dX6_init_96 : decode cX6_init 96 = .ok (.return_, 1) := by decide +kernel
theorem dX6_thrown_0 : decode cX6_thrown 0 = .ok (.aload_n 0, 1) := by decide +kernel
theorem dX6_thrown_1 : decode cX6_thrown 1 = .ok (.getfield 46, 3) := by decide +kernel
theorem dX6_thrown_4 : decode cX6_thrown 4 = .ok (.ireturn, 1) := by decide +kernel
theorem dX6_in_0 : decode cX6_in 0 = .ok (.iload_n 0, 1) := by decide +kernel
theorem dX6_in_1 : decode cX6_in 1 = .ok (.iload_n 1, 1) := by decide +kernel
theorem dX6_in_2 : decode cX6_in 2 = .ok (.if_icmp .lt 12, 3) := by decide +kernel
theorem dX6_in_5 : decode cX6_in 5 = .ok (.iload_n 0, 1) := by decide +kernel
theorem dX6_in_6 : decode cX6_in 6 = .ok (.iload_n 2, 1) := by decide +kernel
theorem dX6_in_7 : decode cX6_in 7 = .ok (.if_icmp .gt 7, 3) := by decide +kernel
theorem dX6_in_10 : decode cX6_in 10 = .ok (.iconst 1, 1) := by decide +kernel
theorem dX6_in_11 : decode cX6_in 11 = .ok (.goto 4, 3) := by decide +kernel
theorem dX6_in_14 : decode cX6_in 14 = .ok (.iconst 0, 1) := by decide +kernel
theorem dX6_in_15 : decode cX6_in 15 = .ok (.ireturn, 1) := by decide +kernel
theorem dX6_octet_0 : decode cX6_octet 0 = .ok (.aload_n 0, 1) := by decide +kernel
theorem dX6_octet_1 : decode cX6_octet 1 = .ok (.iconst 0, 1) := by decide +kernel
theorem dX6_octet_2 : decode cX6_octet 2 = .ok (.putfield 46, 3) := by decide +kernel
theorem dX6_octet_5 : decode cX6_octet 5 = .ok (.iload_n 1, 1) := by decide +kernel
theorem dX6_octet_6 : decode cX6_octet 6 = .ok (.iconst 0, 1) := by decide +kernel
theorem dX6_octet_7 : decode cX6_octet 7 = .ok (.sipush 255, 3) := by decide +kernel
theorem dX6_octet_10 : decode cX6_octet 10 = .ok (.invokestatic 39, 3) := by decide +kernel
theorem dX6_octet_13 : decode cX6_octet 13 = .ok (.ifCond .ne 5, 3) := by decide +kernel
theorem dX6_octet_16 : decode cX6_octet 16 = .ok (.iconst (-1), 1) := by decide +kernel
theorem dX6_octet_17 : decode cX6_octet 17 = .ok (.ireturn, 1) := by decide +kernel
theorem dX6_octet_18 : decode cX6_octet 18 = .ok (.aload_n 0, 1) := by decide +kernel
theorem dX6_octet_19 : decode cX6_octet 19 = .ok (.getfield 49, 3) := by decide +kernel
theorem dX6_octet_22 : decode cX6_octet 22 = .ok (.sipush 240, 3) := by decide +kernel
theorem dX6_octet_25 : decode cX6_octet 25 = .ok (.if_icmp .ne 6, 3) := by decide +kernel
theorem dX6_octet_28 : decode cX6_octet 28 = .ok (.bipush (-2), 2) := by decide +kernel
theorem dX6_octet_30 : decode cX6_octet 30 = .ok (.ireturn, 1) := by decide +kernel
theorem dX6_octet_31 : decode cX6_octet 31 = .ok (.aload_n 0, 1) := by decide +kernel
theorem dX6_octet_32 : decode cX6_octet 32 = .ok (.getfield 16, 3) := by decide +kernel
theorem dX6_octet_35 : decode cX6_octet 35 = .ok (.aload_n 0, 1) := by decide +kernel
theorem dX6_octet_36 : decode cX6_octet 36 = .ok (.getfield 49, 3) := by decide +kernel
theorem dX6_octet_39 : decode cX6_octet 39 = .ok (.iload_n 1, 1) := by decide +kernel
theorem dX6_octet_40 : decode cX6_octet 40 = .ok (.iastore, 1) := by decide +kernel
theorem dX6_octet_41 : decode cX6_octet 41 = .ok (.aload_n 0, 1) := by decide +kernel
theorem dX6_octet_42 : decode cX6_octet 42 = .ok (.dup, 1) := by decide +kernel
theorem dX6_octet_43 : decode cX6_octet 43 = .ok (.getfield 49, 3) := by decide +kernel
theorem dX6_octet_46 : decode cX6_octet 46 = .ok (.iconst 1, 1) := by decide +kernel
theorem dX6_octet_47 : decode cX6_octet 47 = .ok (.iadd, 1) := by decide +kernel
theorem dX6_octet_48 : decode cX6_octet 48 = .ok (.putfield 49, 3) := by decide +kernel
theorem dX6_octet_51 : decode cX6_octet 51 = .ok (.aload_n 0, 1) := by decide +kernel
theorem dX6_octet_52 : decode cX6_octet 52 = .ok (.getfield 49, 3) := by decide +kernel
theorem dX6_octet_55 : decode cX6_octet 55 = .ok (.ireturn, 1) := by decide +kernel
theorem dX6_repeat_0 : decode cX6_repeat 0 = .ok (.aload_n 0, 1) := by decide +kernel
theorem dX6_repeat_1 : decode cX6_repeat 1 = .ok (.iconst 0, 1) := by decide +kernel
theorem dX6_repeat_2 : decode cX6_repeat 2 = .ok (.putfield 46, 3) := by decide +kernel
theorem dX6_repeat_5 : decode cX6_repeat 5 = .ok (.iload_n 1, 1) := by decide +kernel
theorem dX6_repeat_6 : decode cX6_repeat 6 = .ok (.iconst 1, 1) := by decide +kernel
theorem dX6_repeat_7 : decode cX6_repeat 7 = .ok (.sipush 240, 3) := by decide +kernel
theorem dX6_repeat_10 : decode cX6_repeat 10 = .ok (.invokestatic 39, 3) := by decide +kernel
theorem dX6_repeat_13 : decode cX6_repeat 13 = .ok (.ifCond .eq 14, 3) := by decide +kernel
theorem dX6_repeat_16 : decode cX6_repeat 16 = .ok (.iload_n 2, 1) := by decide +kernel
theorem dX6_repeat_17 : decode cX6_repeat 17 = .ok (.iconst 0, 1) := by decide +kernel
theorem dX6_repeat_18 : decode cX6_repeat 18 = .ok (.sipush 255, 3) := by decide +kernel
theorem dX6_repeat_21 : decode cX6_repeat 21 = .ok (.invokestatic 39, 3) := by decide +kernel
theorem dX6_repeat_24 : decode cX6_repeat 24 = .ok (.ifCond .ne 5, 3) := by decide +kernel
theorem dX6_repeat_27 : decode cX6_repeat 27 = .ok (.iconst (-1), 1) := by decide +kernel
theorem dX6_repeat_28 : decode cX6_repeat 28 = .ok (.ireturn, 1) := by decide +kernel
theorem dX6_repeat_29 : decode cX6_repeat 29 = .ok (.aload_n 0, 1) := by decide +kernel
theorem dX6_repeat_30 : decode cX6_repeat 30 = .ok (.getfield 49, 3) := by decide +kernel
theorem dX6_repeat_33 : decode cX6_repeat 33 = .ok (.iload_n 1, 1) := by decide +kernel
theorem dX6_repeat_34 : decode cX6_repeat 34 = .ok (.iadd, 1) := by decide +kernel
theorem dX6_repeat_35 : decode cX6_repeat 35 = .ok (.sipush 240, 3) := by decide +kernel
theorem dX6_repeat_38 : decode cX6_repeat 38 = .ok (.if_icmp .le 6, 3) := by decide +kernel
theorem dX6_repeat_41 : decode cX6_repeat 41 = .ok (.bipush (-2), 2) := by decide +kernel
theorem dX6_repeat_43 : decode cX6_repeat 43 = .ok (.ireturn, 1) := by decide +kernel
theorem dX6_repeat_44 : decode cX6_repeat 44 = .ok (.iconst 0, 1) := by decide +kernel
theorem dX6_repeat_45 : decode cX6_repeat 45 = .ok (.istore_n 3, 1) := by decide +kernel
theorem dX6_repeat_46 : decode cX6_repeat 46 = .ok (.iload_n 3, 1) := by decide +kernel
theorem dX6_repeat_47 : decode cX6_repeat 47 = .ok (.iload_n 1, 1) := by decide +kernel
theorem dX6_repeat_48 : decode cX6_repeat 48 = .ok (.if_icmp .ge 21, 3) := by decide +kernel
theorem dX6_repeat_51 : decode cX6_repeat 51 = .ok (.aload_n 0, 1) := by decide +kernel
theorem dX6_repeat_52 : decode cX6_repeat 52 = .ok (.getfield 16, 3) := by decide +kernel
theorem dX6_repeat_55 : decode cX6_repeat 55 = .ok (.aload_n 0, 1) := by decide +kernel
theorem dX6_repeat_56 : decode cX6_repeat 56 = .ok (.getfield 49, 3) := by decide +kernel
theorem dX6_repeat_59 : decode cX6_repeat 59 = .ok (.iload_n 3, 1) := by decide +kernel
theorem dX6_repeat_60 : decode cX6_repeat 60 = .ok (.iadd, 1) := by decide +kernel
theorem dX6_repeat_61 : decode cX6_repeat 61 = .ok (.iload_n 2, 1) := by decide +kernel
theorem dX6_repeat_62 : decode cX6_repeat 62 = .ok (.iastore, 1) := by decide +kernel
theorem dX6_repeat_63 : decode cX6_repeat 63 = .ok (.iinc 3 1, 3) := by decide +kernel
theorem dX6_repeat_66 : decode cX6_repeat 66 = .ok (.goto (-20), 3) := by decide +kernel
theorem dX6_repeat_69 : decode cX6_repeat 69 = .ok (.aload_n 0, 1) := by decide +kernel
theorem dX6_repeat_70 : decode cX6_repeat 70 = .ok (.dup, 1) := by decide +kernel
theorem dX6_repeat_71 : decode cX6_repeat 71 = .ok (.getfield 49, 3) := by decide +kernel
theorem dX6_repeat_74 : decode cX6_repeat 74 = .ok (.iload_n 1, 1) := by decide +kernel
theorem dX6_repeat_75 : decode cX6_repeat 75 = .ok (.iadd, 1) := by decide +kernel
theorem dX6_repeat_76 : decode cX6_repeat 76 = .ok (.putfield 49, 3) := by decide +kernel
theorem dX6_repeat_79 : decode cX6_repeat 79 = .ok (.aload_n 0, 1) := by decide +kernel
theorem dX6_repeat_80 : decode cX6_repeat 80 = .ok (.getfield 49, 3) := by decide +kernel
theorem dX6_repeat_83 : decode cX6_repeat 83 = .ok (.ireturn, 1) := by decide +kernel
theorem dX6_code_0 : decode cX6_code 0 = .ok (.aload_n 0, 1) := by decide +kernel
theorem dX6_code_1 : decode cX6_code 1 = .ok (.iconst 0, 1) := by decide +kernel
theorem dX6_code_2 : decode cX6_code 2 = .ok (.putfield 46, 3) := by decide +kernel
theorem dX6_code_5 : decode cX6_code 5 = .ok (.iload_n 1, 1) := by decide +kernel
theorem dX6_code_6 : decode cX6_code 6 = .ok (.iconst 0, 1) := by decide +kernel
theorem dX6_code_7 : decode cX6_code 7 = .ok (.sipush 255, 3) := by decide +kernel
theorem dX6_code_10 : decode cX6_code 10 = .ok (.invokestatic 39, 3) := by decide +kernel
theorem dX6_code_13 : decode cX6_code 13 = .ok (.ifCond .ne 5, 3) := by decide +kernel
theorem dX6_code_16 : decode cX6_code 16 = .ok (.iconst (-1), 1) := by decide +kernel
theorem dX6_code_17 : decode cX6_code 17 = .ok (.ireturn, 1) := by decide +kernel
theorem dX6_code_18 : decode cX6_code 18 = .ok (.aload_n 0, 1) := by decide +kernel
theorem dX6_code_19 : decode cX6_code 19 = .ok (.getfield 52, 3) := by decide +kernel
theorem dX6_code_22 : decode cX6_code 22 = .ok (.sipush 1000, 3) := by decide +kernel
theorem dX6_code_25 : decode cX6_code 25 = .ok (.if_icmp .ne 6, 3) := by decide +kernel
theorem dX6_code_28 : decode cX6_code 28 = .ok (.bipush (-2), 2) := by decide +kernel
theorem dX6_code_30 : decode cX6_code 30 = .ok (.ireturn, 1) := by decide +kernel
theorem dX6_code_31 : decode cX6_code 31 = .ok (.aload_n 0, 1) := by decide +kernel
theorem dX6_code_32 : decode cX6_code 32 = .ok (.getfield 20, 3) := by decide +kernel
theorem dX6_code_35 : decode cX6_code 35 = .ok (.aload_n 0, 1) := by decide +kernel
theorem dX6_code_36 : decode cX6_code 36 = .ok (.getfield 52, 3) := by decide +kernel
theorem dX6_code_39 : decode cX6_code 39 = .ok (.iload_n 1, 1) := by decide +kernel
theorem dX6_code_40 : decode cX6_code 40 = .ok (.iastore, 1) := by decide +kernel
theorem dX6_code_41 : decode cX6_code 41 = .ok (.aload_n 0, 1) := by decide +kernel
theorem dX6_code_42 : decode cX6_code 42 = .ok (.dup, 1) := by decide +kernel
theorem dX6_code_43 : decode cX6_code 43 = .ok (.getfield 52, 3) := by decide +kernel
theorem dX6_code_46 : decode cX6_code 46 = .ok (.iconst 1, 1) := by decide +kernel
theorem dX6_code_47 : decode cX6_code 47 = .ok (.iadd, 1) := by decide +kernel
theorem dX6_code_48 : decode cX6_code 48 = .ok (.putfield 52, 3) := by decide +kernel
theorem dX6_code_51 : decode cX6_code 51 = .ok (.aload_n 0, 1) := by decide +kernel
theorem dX6_code_52 : decode cX6_code 52 = .ok (.getfield 52, 3) := by decide +kernel
theorem dX6_code_55 : decode cX6_code 55 = .ok (.ireturn, 1) := by decide +kernel
theorem dX6_cut_0 : decode cX6_cut 0 = .ok (.aload_n 0, 1) := by decide +kernel
theorem dX6_cut_1 : decode cX6_cut 1 = .ok (.iconst 0, 1) := by decide +kernel
theorem dX6_cut_2 : decode cX6_cut 2 = .ok (.putfield 46, 3) := by decide +kernel
theorem dX6_cut_5 : decode cX6_cut 5 = .ok (.iload_n 1, 1) := by decide +kernel
theorem dX6_cut_6 : decode cX6_cut 6 = .ok (.iconst 0, 1) := by decide +kernel
theorem dX6_cut_7 : decode cX6_cut 7 = .ok (.iconst 1, 1) := by decide +kernel
theorem dX6_cut_8 : decode cX6_cut 8 = .ok (.invokestatic 39, 3) := by decide +kernel
theorem dX6_cut_11 : decode cX6_cut 11 = .ok (.ifCond .eq 26, 3) := by decide +kernel
theorem dX6_cut_14 : decode cX6_cut 14 = .ok (.iload_n 2, 1) := by decide +kernel
theorem dX6_cut_15 : decode cX6_cut 15 = .ok (.iconst 0, 1) := by decide +kernel
theorem dX6_cut_16 : decode cX6_cut 16 = .ok (.iload_n 1, 1) := by decide +kernel
theorem dX6_cut_17 : decode cX6_cut 17 = .ok (.ifCond .ne 10, 3) := by decide +kernel
theorem dX6_cut_20 : decode cX6_cut 20 = .ok (.aload_n 0, 1) := by decide +kernel
theorem dX6_cut_21 : decode cX6_cut 21 = .ok (.getfield 49, 3) := by decide +kernel
theorem dX6_cut_24 : decode cX6_cut 24 = .ok (.goto 7, 3) := by decide +kernel
theorem dX6_cut_27 : decode cX6_cut 27 = .ok (.aload_n 0, 1) := by decide +kernel
theorem dX6_cut_28 : decode cX6_cut 28 = .ok (.getfield 52, 3) := by decide +kernel
theorem dX6_cut_31 : decode cX6_cut 31 = .ok (.invokestatic 39, 3) := by decide +kernel
theorem dX6_cut_34 : decode cX6_cut 34 = .ok (.ifCond .ne 5, 3) := by decide +kernel
theorem dX6_cut_37 : decode cX6_cut 37 = .ok (.iconst (-1), 1) := by decide +kernel
theorem dX6_cut_38 : decode cX6_cut 38 = .ok (.ireturn, 1) := by decide +kernel
theorem dX6_cut_39 : decode cX6_cut 39 = .ok (.iload_n 1, 1) := by decide +kernel
theorem dX6_cut_40 : decode cX6_cut 40 = .ok (.ifCond .ne 10, 3) := by decide +kernel
theorem dX6_cut_43 : decode cX6_cut 43 = .ok (.aload_n 0, 1) := by decide +kernel
theorem dX6_cut_44 : decode cX6_cut 44 = .ok (.getfield 49, 3) := by decide +kernel
theorem dX6_cut_47 : decode cX6_cut 47 = .ok (.goto 7, 3) := by decide +kernel
theorem dX6_cut_50 : decode cX6_cut 50 = .ok (.aload_n 0, 1) := by decide +kernel
theorem dX6_cut_51 : decode cX6_cut 51 = .ok (.getfield 52, 3) := by decide +kernel
theorem dX6_cut_54 : decode cX6_cut 54 = .ok (.iload_n 2, 1) := by decide +kernel
theorem dX6_cut_55 : decode cX6_cut 55 = .ok (.isub, 1) := by decide +kernel
theorem dX6_cut_56 : decode cX6_cut 56 = .ok (.istore_n 3, 1) := by decide +kernel
theorem dX6_cut_57 : decode cX6_cut 57 = .ok (.aload_n 0, 1) := by decide +kernel
theorem dX6_cut_58 : decode cX6_cut 58 = .ok (.iload_n 1, 1) := by decide +kernel
theorem dX6_cut_59 : decode cX6_cut 59 = .ok (.ifCond .ne 7, 3) := by decide +kernel
theorem dX6_cut_62 : decode cX6_cut 62 = .ok (.iload_n 2, 1) := by decide +kernel
theorem dX6_cut_63 : decode cX6_cut 63 = .ok (.goto 7, 3) := by decide +kernel
theorem dX6_cut_66 : decode cX6_cut 66 = .ok (.aload_n 0, 1) := by decide +kernel
theorem dX6_cut_67 : decode cX6_cut 67 = .ok (.getfield 49, 3) := by decide +kernel
theorem dX6_cut_70 : decode cX6_cut 70 = .ok (.putfield 49, 3) := by decide +kernel
theorem dX6_cut_73 : decode cX6_cut 73 = .ok (.aload_n 0, 1) := by decide +kernel
theorem dX6_cut_74 : decode cX6_cut 74 = .ok (.iload_n 1, 1) := by decide +kernel
theorem dX6_cut_75 : decode cX6_cut 75 = .ok (.iconst 1, 1) := by decide +kernel
theorem dX6_cut_76 : decode cX6_cut 76 = .ok (.if_icmp .ne 7, 3) := by decide +kernel
theorem dX6_cut_79 : decode cX6_cut 79 = .ok (.iload_n 2, 1) := by decide +kernel
theorem dX6_cut_80 : decode cX6_cut 80 = .ok (.goto 7, 3) := by decide +kernel
theorem dX6_cut_83 : decode cX6_cut 83 = .ok (.aload_n 0, 1) := by decide +kernel
theorem dX6_cut_84 : decode cX6_cut 84 = .ok (.getfield 52, 3) := by decide +kernel
theorem dX6_cut_87 : decode cX6_cut 87 = .ok (.putfield 52, 3) := by decide +kernel
theorem dX6_cut_90 : decode cX6_cut 90 = .ok (.iload_n 3, 1) := by decide +kernel
theorem dX6_cut_91 : decode cX6_cut 91 = .ok (.ireturn, 1) := by decide +kernel
theorem dX6_rule_0 : decode cX6_rule 0 = .ok (.aload_n 0, 1) := by decide +kernel
theorem dX6_rule_1 : decode cX6_rule 1 = .ok (.iconst 0, 1) := by decide +kernel
theorem dX6_rule_2 : decode cX6_rule 2 = .ok (.putfield 46, 3) := by decide +kernel
theorem dX6_rule_5 : decode cX6_rule 5 = .ok (.iload_n 1, 1) := by decide +kernel
theorem dX6_rule_6 : decode cX6_rule 6 = .ok (.ifCond .ne 26, 3) := by decide +kernel
theorem dX6_rule_9 : decode cX6_rule 9 = .ok (.iload_n 2, 1) := by decide +kernel
theorem dX6_rule_10 : decode cX6_rule 10 = .ok (.iconst 1, 1) := by decide +kernel
theorem dX6_rule_11 : decode cX6_rule 11 = .ok (.if_icmp .eq 13, 3) := by decide +kernel
theorem dX6_rule_14 : decode cX6_rule 14 = .ok (.iload_n 2, 1) := by decide +kernel
theorem dX6_rule_15 : decode cX6_rule 15 = .ok (.iconst 2, 1) := by decide +kernel
theorem dX6_rule_16 : decode cX6_rule 16 = .ok (.if_icmp .eq 8, 3) := by decide +kernel
theorem dX6_rule_19 : decode cX6_rule 19 = .ok (.iload_n 2, 1) := by decide +kernel
theorem dX6_rule_20 : decode cX6_rule 20 = .ok (.iconst 4, 1) := by decide +kernel
theorem dX6_rule_21 : decode cX6_rule 21 = .ok (.if_icmp .ne 7, 3) := by decide +kernel
theorem dX6_rule_24 : decode cX6_rule 24 = .ok (.iconst 1, 1) := by decide +kernel
theorem dX6_rule_25 : decode cX6_rule 25 = .ok (.goto 57, 3) := by decide +kernel
theorem dX6_rule_28 : decode cX6_rule 28 = .ok (.iconst 0, 1) := by decide +kernel
theorem dX6_rule_29 : decode cX6_rule 29 = .ok (.goto 53, 3) := by decide +kernel
theorem dX6_rule_32 : decode cX6_rule 32 = .ok (.iload_n 1, 1) := by decide +kernel
theorem dX6_rule_33 : decode cX6_rule 33 = .ok (.iconst 1, 1) := by decide +kernel
theorem dX6_rule_34 : decode cX6_rule 34 = .ok (.if_icmp .ne 13, 3) := by decide +kernel
theorem dX6_rule_37 : decode cX6_rule 37 = .ok (.iload_n 2, 1) := by decide +kernel
theorem dX6_rule_38 : decode cX6_rule 38 = .ok (.iconst 1, 1) := by decide +kernel
theorem dX6_rule_39 : decode cX6_rule 39 = .ok (.bipush 60, 2) := by decide +kernel
theorem dX6_rule_41 : decode cX6_rule 41 = .ok (.invokestatic 39, 3) := by decide +kernel
theorem dX6_rule_44 : decode cX6_rule 44 = .ok (.goto 38, 3) := by decide +kernel
theorem dX6_rule_47 : decode cX6_rule 47 = .ok (.iload_n 1, 1) := by decide +kernel
theorem dX6_rule_48 : decode cX6_rule 48 = .ok (.iconst 2, 1) := by decide +kernel
theorem dX6_rule_49 : decode cX6_rule 49 = .ok (.if_icmp .ne 14, 3) := by decide +kernel
theorem dX6_rule_52 : decode cX6_rule 52 = .ok (.iload_n 2, 1) := by decide +kernel
theorem dX6_rule_53 : decode cX6_rule 53 = .ok (.iconst 0, 1) := by decide +kernel
theorem dX6_rule_54 : decode cX6_rule 54 = .ok (.sipush 255, 3) := by decide +kernel
theorem dX6_rule_57 : decode cX6_rule 57 = .ok (.invokestatic 39, 3) := by decide +kernel
theorem dX6_rule_60 : decode cX6_rule 60 = .ok (.goto 22, 3) := by decide +kernel
theorem dX6_rule_63 : decode cX6_rule 63 = .ok (.iload_n 1, 1) := by decide +kernel
theorem dX6_rule_64 : decode cX6_rule 64 = .ok (.iconst 3, 1) := by decide +kernel
theorem dX6_rule_65 : decode cX6_rule 65 = .ok (.if_icmp .ne 16, 3) := by decide +kernel
theorem dX6_rule_68 : decode cX6_rule 68 = .ok (.iload_n 2, 1) := by decide +kernel
theorem dX6_rule_69 : decode cX6_rule 69 = .ok (.iconst 0, 1) := by decide +kernel
theorem dX6_rule_70 : decode cX6_rule 70 = .ok (.iconst 1, 1) := by decide +kernel
theorem dX6_rule_71 : decode cX6_rule 71 = .ok (.invokestatic 39, 3) := by decide +kernel
theorem dX6_rule_74 : decode cX6_rule 74 = .ok (.ifCond .eq 7, 3) := by decide +kernel
theorem dX6_rule_77 : decode cX6_rule 77 = .ok (.iconst 1, 1) := by decide +kernel
theorem dX6_rule_78 : decode cX6_rule 78 = .ok (.goto 4, 3) := by decide +kernel
theorem dX6_rule_81 : decode cX6_rule 81 = .ok (.iconst 0, 1) := by decide +kernel
theorem dX6_rule_82 : decode cX6_rule 82 = .ok (.istore_n 3, 1) := by decide +kernel
theorem dX6_rule_83 : decode cX6_rule 83 = .ok (.iload_n 3, 1) := by decide +kernel
theorem dX6_rule_84 : decode cX6_rule 84 = .ok (.ifCond .ne 5, 3) := by decide +kernel
theorem dX6_rule_87 : decode cX6_rule 87 = .ok (.iconst (-1), 1) := by decide +kernel
theorem dX6_rule_88 : decode cX6_rule 88 = .ok (.ireturn, 1) := by decide +kernel
theorem dX6_rule_89 : decode cX6_rule 89 = .ok (.aload_n 0, 1) := by decide +kernel
theorem dX6_rule_90 : decode cX6_rule 90 = .ok (.getfield 43, 3) := by decide +kernel
theorem dX6_rule_93 : decode cX6_rule 93 = .ok (.iconst 2, 1) := by decide +kernel
theorem dX6_rule_94 : decode cX6_rule 94 = .ok (.if_icmp .ne 15, 3) := by decide +kernel
theorem dX6_rule_97 : decode cX6_rule 97 = .ok (.iload_n 1, 1) := by decide +kernel
theorem dX6_rule_98 : decode cX6_rule 98 = .ok (.ifCond .eq 8, 3) := by decide +kernel
theorem dX6_rule_101 : decode cX6_rule 101 = .ok (.iload_n 1, 1) := by decide +kernel
theorem dX6_rule_102 : decode cX6_rule 102 = .ok (.iconst 3, 1) := by decide +kernel
theorem dX6_rule_103 : decode cX6_rule 103 = .ok (.if_icmp .ne 6, 3) := by decide +kernel
theorem dX6_rule_106 : decode cX6_rule 106 = .ok (.bipush (-3), 2) := by decide +kernel
theorem dX6_rule_108 : decode cX6_rule 108 = .ok (.ireturn, 1) := by decide +kernel
theorem dX6_rule_109 : decode cX6_rule 109 = .ok (.iload_n 1, 1) := by decide +kernel
theorem dX6_rule_110 : decode cX6_rule 110 = .ok (.ifCond .ne 10, 3) := by decide +kernel
theorem dX6_rule_113 : decode cX6_rule 113 = .ok (.aload_n 0, 1) := by decide +kernel
theorem dX6_rule_114 : decode cX6_rule 114 = .ok (.getfield 7, 3) := by decide +kernel
theorem dX6_rule_117 : decode cX6_rule 117 = .ok (.goto 31, 3) := by decide +kernel
theorem dX6_rule_120 : decode cX6_rule 120 = .ok (.iload_n 1, 1) := by decide +kernel
theorem dX6_rule_121 : decode cX6_rule 121 = .ok (.iconst 1, 1) := by decide +kernel
theorem dX6_rule_122 : decode cX6_rule 122 = .ok (.if_icmp .ne 10, 3) := by decide +kernel
theorem dX6_rule_125 : decode cX6_rule 125 = .ok (.aload_n 0, 1) := by decide +kernel
theorem dX6_rule_126 : decode cX6_rule 126 = .ok (.getfield 13, 3) := by decide +kernel
theorem dX6_rule_129 : decode cX6_rule 129 = .ok (.goto 19, 3) := by decide +kernel
theorem dX6_rule_132 : decode cX6_rule 132 = .ok (.iload_n 1, 1) := by decide +kernel
theorem dX6_rule_133 : decode cX6_rule 133 = .ok (.iconst 2, 1) := by decide +kernel
theorem dX6_rule_134 : decode cX6_rule 134 = .ok (.if_icmp .ne 10, 3) := by decide +kernel
theorem dX6_rule_137 : decode cX6_rule 137 = .ok (.aload_n 0, 1) := by decide +kernel
theorem dX6_rule_138 : decode cX6_rule 138 = .ok (.getfield 55, 3) := by decide +kernel
theorem dX6_rule_141 : decode cX6_rule 141 = .ok (.goto 7, 3) := by decide +kernel
theorem dX6_rule_144 : decode cX6_rule 144 = .ok (.aload_n 0, 1) := by decide +kernel
theorem dX6_rule_145 : decode cX6_rule 145 = .ok (.getfield 58, 3) := by decide +kernel
theorem dX6_rule_148 : decode cX6_rule 148 = .ok (.istore 4, 2) := by decide +kernel
theorem dX6_rule_150 : decode cX6_rule 150 = .ok (.aload_n 0, 1) := by decide +kernel
theorem dX6_rule_151 : decode cX6_rule 151 = .ok (.iload_n 1, 1) := by decide +kernel
theorem dX6_rule_152 : decode cX6_rule 152 = .ok (.ifCond .ne 7, 3) := by decide +kernel
theorem dX6_rule_155 : decode cX6_rule 155 = .ok (.iload_n 2, 1) := by decide +kernel
theorem dX6_rule_156 : decode cX6_rule 156 = .ok (.goto 7, 3) := by decide +kernel
theorem dX6_rule_159 : decode cX6_rule 159 = .ok (.aload_n 0, 1) := by decide +kernel
theorem dX6_rule_160 : decode cX6_rule 160 = .ok (.getfield 7, 3) := by decide +kernel
theorem dX6_rule_163 : decode cX6_rule 163 = .ok (.putfield 7, 3) := by decide +kernel
theorem dX6_rule_166 : decode cX6_rule 166 = .ok (.aload_n 0, 1) := by decide +kernel
theorem dX6_rule_167 : decode cX6_rule 167 = .ok (.iload_n 1, 1) := by decide +kernel
theorem dX6_rule_168 : decode cX6_rule 168 = .ok (.iconst 1, 1) := by decide +kernel
theorem dX6_rule_169 : decode cX6_rule 169 = .ok (.if_icmp .ne 7, 3) := by decide +kernel
theorem dX6_rule_172 : decode cX6_rule 172 = .ok (.iload_n 2, 1) := by decide +kernel
theorem dX6_rule_173 : decode cX6_rule 173 = .ok (.goto 7, 3) := by decide +kernel
theorem dX6_rule_176 : decode cX6_rule 176 = .ok (.aload_n 0, 1) := by decide +kernel
theorem dX6_rule_177 : decode cX6_rule 177 = .ok (.getfield 13, 3) := by decide +kernel
theorem dX6_rule_180 : decode cX6_rule 180 = .ok (.putfield 13, 3) := by decide +kernel
theorem dX6_rule_183 : decode cX6_rule 183 = .ok (.aload_n 0, 1) := by decide +kernel
theorem dX6_rule_184 : decode cX6_rule 184 = .ok (.iload_n 1, 1) := by decide +kernel
theorem dX6_rule_185 : decode cX6_rule 185 = .ok (.iconst 2, 1) := by decide +kernel
theorem dX6_rule_186 : decode cX6_rule 186 = .ok (.if_icmp .ne 7, 3) := by decide +kernel
theorem dX6_rule_189 : decode cX6_rule 189 = .ok (.iload_n 2, 1) := by decide +kernel
theorem dX6_rule_190 : decode cX6_rule 190 = .ok (.goto 7, 3) := by decide +kernel
theorem dX6_rule_193 : decode cX6_rule 193 = .ok (.aload_n 0, 1) := by decide +kernel
theorem dX6_rule_194 : decode cX6_rule 194 = .ok (.getfield 55, 3) := by decide +kernel
theorem dX6_rule_197 : decode cX6_rule 197 = .ok (.putfield 55, 3) := by decide +kernel
theorem dX6_rule_200 : decode cX6_rule 200 = .ok (.aload_n 0, 1) := by decide +kernel
theorem dX6_rule_201 : decode cX6_rule 201 = .ok (.iload_n 1, 1) := by decide +kernel
theorem dX6_rule_202 : decode cX6_rule 202 = .ok (.iconst 3, 1) := by decide +kernel
theorem dX6_rule_203 : decode cX6_rule 203 = .ok (.if_icmp .ne 7, 3) := by decide +kernel
theorem dX6_rule_206 : decode cX6_rule 206 = .ok (.iload_n 2, 1) := by decide +kernel
theorem dX6_rule_207 : decode cX6_rule 207 = .ok (.goto 7, 3) := by decide +kernel
theorem dX6_rule_210 : decode cX6_rule 210 = .ok (.aload_n 0, 1) := by decide +kernel
theorem dX6_rule_211 : decode cX6_rule 211 = .ok (.getfield 58, 3) := by decide +kernel
theorem dX6_rule_214 : decode cX6_rule 214 = .ok (.putfield 58, 3) := by decide +kernel
theorem dX6_rule_217 : decode cX6_rule 217 = .ok (.iload 4, 2) := by decide +kernel
theorem dX6_rule_219 : decode cX6_rule 219 = .ok (.ireturn, 1) := by decide +kernel
theorem dX6_unitOf_0 : decode cX6_unitOf 0 = .ok (.lconst 0, 1) := by decide +kernel
theorem dX6_unitOf_1 : decode cX6_unitOf 1 = .ok (.lstore_n 2, 1) := by decide +kernel
theorem dX6_unitOf_2 : decode cX6_unitOf 2 = .ok (.iconst 0, 1) := by decide +kernel
theorem dX6_unitOf_3 : decode cX6_unitOf 3 = .ok (.istore 4, 2) := by decide +kernel
theorem dX6_unitOf_5 : decode cX6_unitOf 5 = .ok (.iload 4, 2) := by decide +kernel
theorem dX6_unitOf_7 : decode cX6_unitOf 7 = .ok (.aload_n 0, 1) := by decide +kernel
theorem dX6_unitOf_8 : decode cX6_unitOf 8 = .ok (.getfield 7, 3) := by decide +kernel
theorem dX6_unitOf_11 : decode cX6_unitOf 11 = .ok (.if_icmp .ge 30, 3) := by decide +kernel
theorem dX6_unitOf_14 : decode cX6_unitOf 14 = .ok (.lload_n 2, 1) := by decide +kernel
theorem dX6_unitOf_15 : decode cX6_unitOf 15 = .ok (.bipush 8, 2) := by decide +kernel
theorem dX6_unitOf_17 : decode cX6_unitOf 17 = .ok (.lshl, 1) := by decide +kernel
theorem dX6_unitOf_18 : decode cX6_unitOf 18 = .ok (.aload_n 0, 1) := by decide +kernel
theorem dX6_unitOf_19 : decode cX6_unitOf 19 = .ok (.getfield 16, 3) := by decide +kernel
theorem dX6_unitOf_22 : decode cX6_unitOf 22 = .ok (.aload_n 0, 1) := by decide +kernel
theorem dX6_unitOf_23 : decode cX6_unitOf 23 = .ok (.getfield 7, 3) := by decide +kernel
theorem dX6_unitOf_26 : decode cX6_unitOf 26 = .ok (.iload_n 1, 1) := by decide +kernel
theorem dX6_unitOf_27 : decode cX6_unitOf 27 = .ok (.imul, 1) := by decide +kernel
theorem dX6_unitOf_28 : decode cX6_unitOf 28 = .ok (.iload 4, 2) := by decide +kernel
theorem dX6_unitOf_30 : decode cX6_unitOf 30 = .ok (.iadd, 1) := by decide +kernel
theorem dX6_unitOf_31 : decode cX6_unitOf 31 = .ok (.iaload, 1) := by decide +kernel
theorem dX6_unitOf_32 : decode cX6_unitOf 32 = .ok (.i2l, 1) := by decide +kernel
theorem dX6_unitOf_33 : decode cX6_unitOf 33 = .ok (.lor, 1) := by decide +kernel
theorem dX6_unitOf_34 : decode cX6_unitOf 34 = .ok (.lstore_n 2, 1) := by decide +kernel
theorem dX6_unitOf_35 : decode cX6_unitOf 35 = .ok (.iinc 4 1, 3) := by decide +kernel
theorem dX6_unitOf_38 : decode cX6_unitOf 38 = .ok (.goto (-33), 3) := by decide +kernel
theorem dX6_unitOf_41 : decode cX6_unitOf 41 = .ok (.lload_n 2, 1) := by decide +kernel
theorem dX6_unitOf_42 : decode cX6_unitOf 42 = .ok (.lreturn, 1) := by decide +kernel
theorem dX6_all_0 : decode cX6_all 0 = .ok (.lconst 1, 1) := by decide +kernel
theorem dX6_all_1 : decode cX6_all 1 = .ok (.bipush 8, 2) := by decide +kernel
theorem dX6_all_3 : decode cX6_all 3 = .ok (.aload_n 0, 1) := by decide +kernel
theorem dX6_all_4 : decode cX6_all 4 = .ok (.getfield 7, 3) := by decide +kernel
theorem dX6_all_7 : decode cX6_all 7 = .ok (.imul, 1) := by decide +kernel
theorem dX6_all_8 : decode cX6_all 8 = .ok (.lshl, 1) := by decide +kernel
theorem dX6_all_9 : decode cX6_all 9 = .ok (.lconst 1, 1) := by decide +kernel
theorem dX6_all_10 : decode cX6_all 10 = .ok (.lsub, 1) := by decide +kernel
theorem dX6_all_11 : decode cX6_all 11 = .ok (.lreturn, 1) := by decide +kernel
theorem dX6_takeUnits_0 : decode cX6_takeUnits 0 = .ok (.aload_n 0, 1) := by decide +kernel
theorem dX6_takeUnits_1 : decode cX6_takeUnits 1 = .ok (.aload_n 0, 1) := by decide +kernel
theorem dX6_takeUnits_2 : decode cX6_takeUnits 2 = .ok (.getfield 49, 3) := by decide +kernel
theorem dX6_takeUnits_5 : decode cX6_takeUnits 5 = .ok (.aload_n 0, 1) := by decide +kernel
theorem dX6_takeUnits_6 : decode cX6_takeUnits 6 = .ok (.getfield 7, 3) := by decide +kernel
theorem dX6_takeUnits_9 : decode cX6_takeUnits 9 = .ok (.idiv, 1) := by decide +kernel
theorem dX6_takeUnits_10 : decode cX6_takeUnits 10 = .ok (.putfield 61, 3) := by decide +kernel
theorem dX6_takeUnits_13 : decode cX6_takeUnits 13 = .ok (.iconst 0, 1) := by decide +kernel
theorem dX6_takeUnits_14 : decode cX6_takeUnits 14 = .ok (.istore_n 1, 1) := by decide +kernel
theorem dX6_takeUnits_15 : decode cX6_takeUnits 15 = .ok (.iload_n 1, 1) := by decide +kernel
theorem dX6_takeUnits_16 : decode cX6_takeUnits 16 = .ok (.aload_n 0, 1) := by decide +kernel
theorem dX6_takeUnits_17 : decode cX6_takeUnits 17 = .ok (.getfield 61, 3) := by decide +kernel
theorem dX6_takeUnits_20 : decode cX6_takeUnits 20 = .ok (.if_icmp .ge 20, 3) := by decide +kernel
theorem dX6_takeUnits_23 : decode cX6_takeUnits 23 = .ok (.aload_n 0, 1) := by decide +kernel
theorem dX6_takeUnits_24 : decode cX6_takeUnits 24 = .ok (.getfield 26, 3) := by decide +kernel
theorem dX6_takeUnits_27 : decode cX6_takeUnits 27 = .ok (.iload_n 1, 1) := by decide +kernel
theorem dX6_takeUnits_28 : decode cX6_takeUnits 28 = .ok (.aload_n 0, 1) := by decide +kernel
theorem dX6_takeUnits_29 : decode cX6_takeUnits 29 = .ok (.iload_n 1, 1) := by decide +kernel
theorem dX6_takeUnits_30 : decode cX6_takeUnits 30 = .ok (.invokevirtual 64, 3) := by decide +kernel
theorem dX6_takeUnits_33 : decode cX6_takeUnits 33 = .ok (.lastore, 1) := by decide +kernel
theorem dX6_takeUnits_34 : decode cX6_takeUnits 34 = .ok (.iinc 1 1, 3) := by decide +kernel
theorem dX6_takeUnits_37 : decode cX6_takeUnits 37 = .ok (.goto (-22), 3) := by decide +kernel
theorem dX6_takeUnits_40 : decode cX6_takeUnits 40 = .ok (.aload_n 0, 1) := by decide +kernel
theorem dX6_takeUnits_41 : decode cX6_takeUnits 41 = .ok (.getfield 61, 3) := by decide +kernel
theorem dX6_takeUnits_44 : decode cX6_takeUnits 44 = .ok (.iconst 1, 1) := by decide +kernel
theorem dX6_takeUnits_45 : decode cX6_takeUnits 45 = .ok (.isub, 1) := by decide +kernel
theorem dX6_takeUnits_46 : decode cX6_takeUnits 46 = .ok (.istore_n 1, 1) := by decide +kernel
theorem dX6_takeUnits_47 : decode cX6_takeUnits 47 = .ok (.iload_n 1, 1) := by decide +kernel
theorem dX6_takeUnits_48 : decode cX6_takeUnits 48 = .ok (.ifCond .le 43, 3) := by decide +kernel
theorem dX6_takeUnits_51 : decode cX6_takeUnits 51 = .ok (.aload_n 0, 1) := by decide +kernel
theorem dX6_takeUnits_52 : decode cX6_takeUnits 52 = .ok (.getfield 58, 3) := by decide +kernel
theorem dX6_takeUnits_55 : decode cX6_takeUnits 55 = .ok (.iconst 1, 1) := by decide +kernel
theorem dX6_takeUnits_56 : decode cX6_takeUnits 56 = .ok (.if_icmp .ne 35, 3) := by decide +kernel
theorem dX6_takeUnits_59 : decode cX6_takeUnits 59 = .ok (.aload_n 0, 1) := by decide +kernel
theorem dX6_takeUnits_60 : decode cX6_takeUnits 60 = .ok (.getfield 26, 3) := by decide +kernel
theorem dX6_takeUnits_63 : decode cX6_takeUnits 63 = .ok (.iload_n 1, 1) := by decide +kernel
theorem dX6_takeUnits_64 : decode cX6_takeUnits 64 = .ok (.aload_n 0, 1) := by decide +kernel
theorem dX6_takeUnits_65 : decode cX6_takeUnits 65 = .ok (.getfield 26, 3) := by decide +kernel
theorem dX6_takeUnits_68 : decode cX6_takeUnits 68 = .ok (.iload_n 1, 1) := by decide +kernel
theorem dX6_takeUnits_69 : decode cX6_takeUnits 69 = .ok (.laload, 1) := by decide +kernel
theorem dX6_takeUnits_70 : decode cX6_takeUnits 70 = .ok (.aload_n 0, 1) := by decide +kernel
theorem dX6_takeUnits_71 : decode cX6_takeUnits 71 = .ok (.getfield 26, 3) := by decide +kernel
theorem dX6_takeUnits_74 : decode cX6_takeUnits 74 = .ok (.iload_n 1, 1) := by decide +kernel
theorem dX6_takeUnits_75 : decode cX6_takeUnits 75 = .ok (.iconst 1, 1) := by decide +kernel
theorem dX6_takeUnits_76 : decode cX6_takeUnits 76 = .ok (.isub, 1) := by decide +kernel
theorem dX6_takeUnits_77 : decode cX6_takeUnits 77 = .ok (.laload, 1) := by decide +kernel
theorem dX6_takeUnits_78 : decode cX6_takeUnits 78 = .ok (.lsub, 1) := by decide +kernel
theorem dX6_takeUnits_79 : decode cX6_takeUnits 79 = .ok (.aload_n 0, 1) := by decide +kernel
theorem dX6_takeUnits_80 : decode cX6_takeUnits 80 = .ok (.invokevirtual 68, 3) := by decide +kernel
theorem dX6_takeUnits_83 : decode cX6_takeUnits 83 = .ok (.land, 1) := by decide +kernel
theorem dX6_takeUnits_84 : decode cX6_takeUnits 84 = .ok (.lastore, 1) := by decide +kernel
theorem dX6_takeUnits_85 : decode cX6_takeUnits 85 = .ok (.iinc 1 (-1), 3) := by decide +kernel
theorem dX6_takeUnits_88 : decode cX6_takeUnits 88 = .ok (.goto (-41), 3) := by decide +kernel
theorem dX6_takeUnits_91 : decode cX6_takeUnits 91 = .ok (.return_, 1) := by decide +kernel
theorem dX6_lay_0 : decode cX6_lay 0 = .ok (.aload_n 0, 1) := by decide +kernel
theorem dX6_lay_1 : decode cX6_lay 1 = .ok (.getfield 33, 3) := by decide +kernel
theorem dX6_lay_4 : decode cX6_lay 4 = .ok (.aload_n 0, 1) := by decide +kernel
theorem dX6_lay_5 : decode cX6_lay 5 = .ok (.getfield 72, 3) := by decide +kernel
theorem dX6_lay_8 : decode cX6_lay 8 = .ok (.iload_n 1, 1) := by decide +kernel
theorem dX6_lay_9 : decode cX6_lay 9 = .ok (.sipush 255, 3) := by decide +kernel
theorem dX6_lay_12 : decode cX6_lay 12 = .ok (.iand, 1) := by decide +kernel
theorem dX6_lay_13 : decode cX6_lay 13 = .ok (.iastore, 1) := by decide +kernel
theorem dX6_lay_14 : decode cX6_lay 14 = .ok (.aload_n 0, 1) := by decide +kernel
theorem dX6_lay_15 : decode cX6_lay 15 = .ok (.dup, 1) := by decide +kernel
theorem dX6_lay_16 : decode cX6_lay 16 = .ok (.getfield 72, 3) := by decide +kernel
theorem dX6_lay_19 : decode cX6_lay 19 = .ok (.iconst 1, 1) := by decide +kernel
theorem dX6_lay_20 : decode cX6_lay 20 = .ok (.iadd, 1) := by decide +kernel
theorem dX6_lay_21 : decode cX6_lay 21 = .ok (.putfield 72, 3) := by decide +kernel
theorem dX6_lay_24 : decode cX6_lay 24 = .ok (.return_, 1) := by decide +kernel
theorem dX6_layUnit_0 : decode cX6_layUnit 0 = .ok (.aload_n 0, 1) := by decide +kernel
theorem dX6_layUnit_1 : decode cX6_layUnit 1 = .ok (.getfield 7, 3) := by decide +kernel
theorem dX6_layUnit_4 : decode cX6_layUnit 4 = .ok (.iconst 1, 1) := by decide +kernel
theorem dX6_layUnit_5 : decode cX6_layUnit 5 = .ok (.isub, 1) := by decide +kernel
theorem dX6_layUnit_6 : decode cX6_layUnit 6 = .ok (.istore_n 3, 1) := by decide +kernel
theorem dX6_layUnit_7 : decode cX6_layUnit 7 = .ok (.iload_n 3, 1) := by decide +kernel
theorem dX6_layUnit_8 : decode cX6_layUnit 8 = .ok (.ifCond .lt 20, 3) := by decide +kernel
theorem dX6_layUnit_11 : decode cX6_layUnit 11 = .ok (.aload_n 0, 1) := by decide +kernel
theorem dX6_layUnit_12 : decode cX6_layUnit 12 = .ok (.lload_n 1, 1) := by decide +kernel
theorem dX6_layUnit_13 : decode cX6_layUnit 13 = .ok (.bipush 8, 2) := by decide +kernel
theorem dX6_layUnit_15 : decode cX6_layUnit 15 = .ok (.iload_n 3, 1) := by decide +kernel
theorem dX6_layUnit_16 : decode cX6_layUnit 16 = .ok (.imul, 1) := by decide +kernel
theorem dX6_layUnit_17 : decode cX6_layUnit 17 = .ok (.lshr, 1) := by decide +kernel
theorem dX6_layUnit_18 : decode cX6_layUnit 18 = .ok (.l2i, 1) := by decide +kernel
theorem dX6_layUnit_19 : decode cX6_layUnit 19 = .ok (.invokevirtual 75, 3) := by decide +kernel
theorem dX6_layUnit_22 : decode cX6_layUnit 22 = .ok (.iinc 3 (-1), 3) := by decide +kernel
theorem dX6_layUnit_25 : decode cX6_layUnit 25 = .ok (.goto (-18), 3) := by decide +kernel
theorem dX6_layUnit_28 : decode cX6_layUnit 28 = .ok (.return_, 1) := by decide +kernel
theorem dX6_isMarked_0 : decode cX6_isMarked 0 = .ok (.aload_n 0, 1) := by decide +kernel
theorem dX6_isMarked_1 : decode cX6_isMarked 1 = .ok (.getfield 26, 3) := by decide +kernel
theorem dX6_isMarked_4 : decode cX6_isMarked 4 = .ok (.iload_n 1, 1) := by decide +kernel
theorem dX6_isMarked_5 : decode cX6_isMarked 5 = .ok (.laload, 1) := by decide +kernel
theorem dX6_isMarked_6 : decode cX6_isMarked 6 = .ok (.bipush 8, 2) := by decide +kernel
theorem dX6_isMarked_8 : decode cX6_isMarked 8 = .ok (.aload_n 0, 1) := by decide +kernel
theorem dX6_isMarked_9 : decode cX6_isMarked 9 = .ok (.getfield 7, 3) := by decide +kernel
theorem dX6_isMarked_12 : decode cX6_isMarked 12 = .ok (.iconst 1, 1) := by decide +kernel
theorem dX6_isMarked_13 : decode cX6_isMarked 13 = .ok (.isub, 1) := by decide +kernel
theorem dX6_isMarked_14 : decode cX6_isMarked 14 = .ok (.imul, 1) := by decide +kernel
theorem dX6_isMarked_15 : decode cX6_isMarked 15 = .ok (.lshr, 1) := by decide +kernel
theorem dX6_isMarked_16 : decode cX6_isMarked 16 = .ok (.aload_n 0, 1) := by decide +kernel
theorem dX6_isMarked_17 : decode cX6_isMarked 17 = .ok (.getfield 55, 3) := by decide +kernel
theorem dX6_isMarked_20 : decode cX6_isMarked 20 = .ok (.i2l, 1) := by decide +kernel
theorem dX6_isMarked_21 : decode cX6_isMarked 21 = .ok (.lcmp, 1) := by decide +kernel
theorem dX6_isMarked_22 : decode cX6_isMarked 22 = .ok (.ifCond .ne 7, 3) := by decide +kernel
theorem dX6_isMarked_25 : decode cX6_isMarked 25 = .ok (.iconst 1, 1) := by decide +kernel
theorem dX6_isMarked_26 : decode cX6_isMarked 26 = .ok (.goto 4, 3) := by decide +kernel
theorem dX6_isMarked_29 : decode cX6_isMarked 29 = .ok (.iconst 0, 1) := by decide +kernel
theorem dX6_isMarked_30 : decode cX6_isMarked 30 = .ok (.ireturn, 1) := by decide +kernel
theorem dX6_likes_0 : decode cX6_likes 0 = .ok (.iconst 1, 1) := by decide +kernel
theorem dX6_likes_1 : decode cX6_likes 1 = .ok (.istore 4, 2) := by decide +kernel
theorem dX6_likes_3 : decode cX6_likes 3 = .ok (.iload_n 1, 1) := by decide +kernel
theorem dX6_likes_4 : decode cX6_likes 4 = .ok (.iload 4, 2) := by decide +kernel
theorem dX6_likes_6 : decode cX6_likes 6 = .ok (.iadd, 1) := by decide +kernel
theorem dX6_likes_7 : decode cX6_likes 7 = .ok (.iload_n 2, 1) := by decide +kernel
theorem dX6_likes_8 : decode cX6_likes 8 = .ok (.if_icmp .ge 34, 3) := by decide +kernel
theorem dX6_likes_11 : decode cX6_likes 11 = .ok (.iload 4, 2) := by decide +kernel
theorem dX6_likes_13 : decode cX6_likes 13 = .ok (.iload_n 3, 1) := by decide +kernel
theorem dX6_likes_14 : decode cX6_likes 14 = .ok (.if_icmp .ge 28, 3) := by decide +kernel
theorem dX6_likes_17 : decode cX6_likes 17 = .ok (.aload_n 0, 1) := by decide +kernel
theorem dX6_likes_18 : decode cX6_likes 18 = .ok (.getfield 26, 3) := by decide +kernel
theorem dX6_likes_21 : decode cX6_likes 21 = .ok (.iload_n 1, 1) := by decide +kernel
theorem dX6_likes_22 : decode cX6_likes 22 = .ok (.iload 4, 2) := by decide +kernel
theorem dX6_likes_24 : decode cX6_likes 24 = .ok (.iadd, 1) := by decide +kernel
theorem dX6_likes_25 : decode cX6_likes 25 = .ok (.laload, 1) := by decide +kernel
theorem dX6_likes_26 : decode cX6_likes 26 = .ok (.aload_n 0, 1) := by decide +kernel
theorem dX6_likes_27 : decode cX6_likes 27 = .ok (.getfield 26, 3) := by decide +kernel
theorem dX6_likes_30 : decode cX6_likes 30 = .ok (.iload_n 1, 1) := by decide +kernel
theorem dX6_likes_31 : decode cX6_likes 31 = .ok (.laload, 1) := by decide +kernel
theorem dX6_likes_32 : decode cX6_likes 32 = .ok (.lcmp, 1) := by decide +kernel
theorem dX6_likes_33 : decode cX6_likes 33 = .ok (.ifCond .ne 9, 3) := by decide +kernel
theorem dX6_likes_36 : decode cX6_likes 36 = .ok (.iinc 4 1, 3) := by decide +kernel
theorem dX6_likes_39 : decode cX6_likes 39 = .ok (.goto (-36), 3) := by decide +kernel
theorem dX6_likes_42 : decode cX6_likes 42 = .ok (.iload 4, 2) := by decide +kernel
theorem dX6_likes_44 : decode cX6_likes 44 = .ok (.ireturn, 1) := by decide +kernel
theorem dX6_layRun_0 : decode cX6_layRun 0 = .ok (.aload_n 0, 1) := by decide +kernel
theorem dX6_layRun_1 : decode cX6_layRun 1 = .ok (.getfield 43, 3) := by decide +kernel
theorem dX6_layRun_4 : decode cX6_layRun 4 = .ok (.ifCond .ne 29, 3) := by decide +kernel
theorem dX6_layRun_7 : decode cX6_layRun 7 = .ok (.aload_n 0, 1) := by decide +kernel
theorem dX6_layRun_8 : decode cX6_layRun 8 = .ok (.aload_n 0, 1) := by decide +kernel
theorem dX6_layRun_9 : decode cX6_layRun 9 = .ok (.getfield 55, 3) := by decide +kernel
theorem dX6_layRun_12 : decode cX6_layRun 12 = .ok (.invokevirtual 75, 3) := by decide +kernel
theorem dX6_layRun_15 : decode cX6_layRun 15 = .ok (.aload_n 0, 1) := by decide +kernel
theorem dX6_layRun_16 : decode cX6_layRun 16 = .ok (.iload_n 2, 1) := by decide +kernel
theorem dX6_layRun_17 : decode cX6_layRun 17 = .ok (.invokevirtual 75, 3) := by decide +kernel
theorem dX6_layRun_20 : decode cX6_layRun 20 = .ok (.aload_n 0, 1) := by decide +kernel
theorem dX6_layRun_21 : decode cX6_layRun 21 = .ok (.aload_n 0, 1) := by decide +kernel
theorem dX6_layRun_22 : decode cX6_layRun 22 = .ok (.getfield 26, 3) := by decide +kernel
theorem dX6_layRun_25 : decode cX6_layRun 25 = .ok (.iload_n 1, 1) := by decide +kernel
theorem dX6_layRun_26 : decode cX6_layRun 26 = .ok (.laload, 1) := by decide +kernel
theorem dX6_layRun_27 : decode cX6_layRun 27 = .ok (.invokevirtual 79, 3) := by decide +kernel
theorem dX6_layRun_30 : decode cX6_layRun 30 = .ok (.goto 47, 3) := by decide +kernel
theorem dX6_layRun_33 : decode cX6_layRun 33 = .ok (.aload_n 0, 1) := by decide +kernel
theorem dX6_layRun_34 : decode cX6_layRun 34 = .ok (.getfield 43, 3) := by decide +kernel
theorem dX6_layRun_37 : decode cX6_layRun 37 = .ok (.iconst 1, 1) := by decide +kernel
theorem dX6_layRun_38 : decode cX6_layRun 38 = .ok (.if_icmp .ne 23, 3) := by decide +kernel
theorem dX6_layRun_41 : decode cX6_layRun 41 = .ok (.aload_n 0, 1) := by decide +kernel
theorem dX6_layRun_42 : decode cX6_layRun 42 = .ok (.iconst 1, 1) := by decide +kernel
theorem dX6_layRun_43 : decode cX6_layRun 43 = .ok (.iload_n 2, 1) := by decide +kernel
theorem dX6_layRun_44 : decode cX6_layRun 44 = .ok (.isub, 1) := by decide +kernel
theorem dX6_layRun_45 : decode cX6_layRun 45 = .ok (.invokevirtual 75, 3) := by decide +kernel
theorem dX6_layRun_48 : decode cX6_layRun 48 = .ok (.aload_n 0, 1) := by decide +kernel
theorem dX6_layRun_49 : decode cX6_layRun 49 = .ok (.aload_n 0, 1) := by decide +kernel
theorem dX6_layRun_50 : decode cX6_layRun 50 = .ok (.getfield 26, 3) := by decide +kernel
theorem dX6_layRun_53 : decode cX6_layRun 53 = .ok (.iload_n 1, 1) := by decide +kernel
theorem dX6_layRun_54 : decode cX6_layRun 54 = .ok (.laload, 1) := by decide +kernel
theorem dX6_layRun_55 : decode cX6_layRun 55 = .ok (.invokevirtual 79, 3) := by decide +kernel
theorem dX6_layRun_58 : decode cX6_layRun 58 = .ok (.goto 19, 3) := by decide +kernel
theorem dX6_layRun_61 : decode cX6_layRun 61 = .ok (.aload_n 0, 1) := by decide +kernel
theorem dX6_layRun_62 : decode cX6_layRun 62 = .ok (.iload_n 2, 1) := by decide +kernel
theorem dX6_layRun_63 : decode cX6_layRun 63 = .ok (.invokevirtual 75, 3) := by decide +kernel
theorem dX6_layRun_66 : decode cX6_layRun 66 = .ok (.aload_n 0, 1) := by decide +kernel
theorem dX6_layRun_67 : decode cX6_layRun 67 = .ok (.aload_n 0, 1) := by decide +kernel
theorem dX6_layRun_68 : decode cX6_layRun 68 = .ok (.getfield 26, 3) := by decide +kernel
theorem dX6_layRun_71 : decode cX6_layRun 71 = .ok (.iload_n 1, 1) := by decide +kernel
theorem dX6_layRun_72 : decode cX6_layRun 72 = .ok (.laload, 1) := by decide +kernel
theorem dX6_layRun_73 : decode cX6_layRun 73 = .ok (.l2i, 1) := by decide +kernel
theorem dX6_layRun_74 : decode cX6_layRun 74 = .ok (.invokevirtual 75, 3) := by decide +kernel
theorem dX6_layRun_77 : decode cX6_layRun 77 = .ok (.return_, 1) := by decide +kernel
theorem dX6_layThemselves_0 : decode cX6_layThemselves 0 = .ok (.aload_n 0, 1) := by decide +kernel
theorem dX6_layThemselves_1 : decode cX6_layThemselves 1 = .ok (.getfield 43, 3) := by decide +kernel
theorem dX6_layThemselves_4 : decode cX6_layThemselves 4 = .ok (.iconst 1, 1) := by decide +kernel
theorem dX6_layThemselves_5 : decode cX6_layThemselves 5 = .ok (.if_icmp .ne 13, 3) := by decide +kernel
theorem dX6_layThemselves_8 : decode cX6_layThemselves 8 = .ok (.aload_n 0, 1) := by decide +kernel
theorem dX6_layThemselves_9 : decode cX6_layThemselves 9 = .ok (.iload_n 2, 1) := by decide +kernel
theorem dX6_layThemselves_10 : decode cX6_layThemselves 10 = .ok (.iconst 1, 1) := by decide +kernel
theorem dX6_layThemselves_11 : decode cX6_layThemselves 11 = .ok (.isub, 1) := by decide +kernel
theorem dX6_layThemselves_12 : decode cX6_layThemselves 12 = .ok (.invokevirtual 75, 3) := by decide +kernel
theorem dX6_layThemselves_15 : decode cX6_layThemselves 15 = .ok (.goto 21, 3) := by decide +kernel
theorem dX6_layThemselves_18 : decode cX6_layThemselves 18 = .ok (.aload_n 0, 1) := by decide +kernel
theorem dX6_layThemselves_19 : decode cX6_layThemselves 19 = .ok (.getfield 43, 3) := by decide +kernel
theorem dX6_layThemselves_22 : decode cX6_layThemselves 22 = .ok (.iconst 2, 1) := by decide +kernel
theorem dX6_layThemselves_23 : decode cX6_layThemselves 23 = .ok (.if_icmp .ne 13, 3) := by decide +kernel
theorem dX6_layThemselves_26 : decode cX6_layThemselves 26 = .ok (.aload_n 0, 1) := by decide +kernel
theorem dX6_layThemselves_27 : decode cX6_layThemselves 27 = .ok (.iconst 0, 1) := by decide +kernel
theorem dX6_layThemselves_28 : decode cX6_layThemselves 28 = .ok (.invokevirtual 75, 3) := by decide +kernel
theorem dX6_layThemselves_31 : decode cX6_layThemselves 31 = .ok (.aload_n 0, 1) := by decide +kernel
theorem dX6_layThemselves_32 : decode cX6_layThemselves 32 = .ok (.iload_n 2, 1) := by decide +kernel
theorem dX6_layThemselves_33 : decode cX6_layThemselves 33 = .ok (.invokevirtual 75, 3) := by decide +kernel
theorem dX6_layThemselves_36 : decode cX6_layThemselves 36 = .ok (.iconst 0, 1) := by decide +kernel
theorem dX6_layThemselves_37 : decode cX6_layThemselves 37 = .ok (.istore_n 3, 1) := by decide +kernel
theorem dX6_layThemselves_38 : decode cX6_layThemselves 38 = .ok (.iload_n 3, 1) := by decide +kernel
theorem dX6_layThemselves_39 : decode cX6_layThemselves 39 = .ok (.iload_n 2, 1) := by decide +kernel
theorem dX6_layThemselves_40 : decode cX6_layThemselves 40 = .ok (.if_icmp .ge 21, 3) := by decide +kernel
theorem dX6_layThemselves_43 : decode cX6_layThemselves 43 = .ok (.aload_n 0, 1) := by decide +kernel
theorem dX6_layThemselves_44 : decode cX6_layThemselves 44 = .ok (.aload_n 0, 1) := by decide +kernel
theorem dX6_layThemselves_45 : decode cX6_layThemselves 45 = .ok (.getfield 26, 3) := by decide +kernel
theorem dX6_layThemselves_48 : decode cX6_layThemselves 48 = .ok (.iload_n 1, 1) := by decide +kernel
theorem dX6_layThemselves_49 : decode cX6_layThemselves 49 = .ok (.iload_n 3, 1) := by decide +kernel
theorem dX6_layThemselves_50 : decode cX6_layThemselves 50 = .ok (.iadd, 1) := by decide +kernel
theorem dX6_layThemselves_51 : decode cX6_layThemselves 51 = .ok (.laload, 1) := by decide +kernel
theorem dX6_layThemselves_52 : decode cX6_layThemselves 52 = .ok (.invokevirtual 79, 3) := by decide +kernel
theorem dX6_layThemselves_55 : decode cX6_layThemselves 55 = .ok (.iinc 3 1, 3) := by decide +kernel
theorem dX6_layThemselves_58 : decode cX6_layThemselves 58 = .ok (.goto (-20), 3) := by decide +kernel
theorem dX6_layThemselves_61 : decode cX6_layThemselves 61 = .ok (.aload_n 0, 1) := by decide +kernel
theorem dX6_layThemselves_62 : decode cX6_layThemselves 62 = .ok (.getfield 43, 3) := by decide +kernel
theorem dX6_layThemselves_65 : decode cX6_layThemselves 65 = .ok (.iconst 2, 1) := by decide +kernel
theorem dX6_layThemselves_66 : decode cX6_layThemselves 66 = .ok (.if_icmp .ne 15, 3) := by decide +kernel
theorem dX6_layThemselves_69 : decode cX6_layThemselves 69 = .ok (.iload_n 2, 1) := by decide +kernel
theorem dX6_layThemselves_70 : decode cX6_layThemselves 70 = .ok (.iconst 2, 1) := by decide +kernel
theorem dX6_layThemselves_71 : decode cX6_layThemselves 71 = .ok (.irem, 1) := by decide +kernel
theorem dX6_layThemselves_72 : decode cX6_layThemselves 72 = .ok (.iconst 1, 1) := by decide +kernel
theorem dX6_layThemselves_73 : decode cX6_layThemselves 73 = .ok (.if_icmp .ne 8, 3) := by decide +kernel
theorem dX6_layThemselves_76 : decode cX6_layThemselves 76 = .ok (.aload_n 0, 1) := by decide +kernel
theorem dX6_layThemselves_77 : decode cX6_layThemselves 77 = .ok (.iconst 0, 1) := by decide +kernel
theorem dX6_layThemselves_78 : decode cX6_layThemselves 78 = .ok (.invokevirtual 75, 3) := by decide +kernel
theorem dX6_layThemselves_81 : decode cX6_layThemselves 81 = .ok (.return_, 1) := by decide +kernel
theorem dX6_mostRun_0 : decode cX6_mostRun 0 = .ok (.aload_n 0, 1) := by decide +kernel
theorem dX6_mostRun_1 : decode cX6_mostRun 1 = .ok (.getfield 43, 3) := by decide +kernel
theorem dX6_mostRun_4 : decode cX6_mostRun 4 = .ok (.iconst 1, 1) := by decide +kernel
theorem dX6_mostRun_5 : decode cX6_mostRun 5 = .ok (.if_icmp .ne 9, 3) := by decide +kernel
theorem dX6_mostRun_8 : decode cX6_mostRun 8 = .ok (.sipush 128, 3) := by decide +kernel
theorem dX6_mostRun_11 : decode cX6_mostRun 11 = .ok (.goto 6, 3) := by decide +kernel
theorem dX6_mostRun_14 : decode cX6_mostRun 14 = .ok (.sipush 255, 3) := by decide +kernel
theorem dX6_mostRun_17 : decode cX6_mostRun 17 = .ok (.ireturn, 1) := by decide +kernel
theorem dX6_runCost_0 : decode cX6_runCost 0 = .ok (.aload_n 0, 1) := by decide +kernel
theorem dX6_runCost_1 : decode cX6_runCost 1 = .ok (.getfield 43, 3) := by decide +kernel
theorem dX6_runCost_4 : decode cX6_runCost 4 = .ok (.ifCond .ne 12, 3) := by decide +kernel
theorem dX6_runCost_7 : decode cX6_runCost 7 = .ok (.iconst 2, 1) := by decide +kernel
theorem dX6_runCost_8 : decode cX6_runCost 8 = .ok (.aload_n 0, 1) := by decide +kernel
theorem dX6_runCost_9 : decode cX6_runCost 9 = .ok (.getfield 7, 3) := by decide +kernel
theorem dX6_runCost_12 : decode cX6_runCost 12 = .ok (.iadd, 1) := by decide +kernel
theorem dX6_runCost_13 : decode cX6_runCost 13 = .ok (.goto 21, 3) := by decide +kernel
theorem dX6_runCost_16 : decode cX6_runCost 16 = .ok (.aload_n 0, 1) := by decide +kernel
theorem dX6_runCost_17 : decode cX6_runCost 17 = .ok (.getfield 43, 3) := by decide +kernel
theorem dX6_runCost_20 : decode cX6_runCost 20 = .ok (.iconst 1, 1) := by decide +kernel
theorem dX6_runCost_21 : decode cX6_runCost 21 = .ok (.if_icmp .ne 12, 3) := by decide +kernel
theorem dX6_runCost_24 : decode cX6_runCost 24 = .ok (.iconst 1, 1) := by decide +kernel
theorem dX6_runCost_25 : decode cX6_runCost 25 = .ok (.aload_n 0, 1) := by decide +kernel
theorem dX6_runCost_26 : decode cX6_runCost 26 = .ok (.getfield 7, 3) := by decide +kernel
theorem dX6_runCost_29 : decode cX6_runCost 29 = .ok (.iadd, 1) := by decide +kernel
theorem dX6_runCost_30 : decode cX6_runCost 30 = .ok (.goto 4, 3) := by decide +kernel
theorem dX6_runCost_33 : decode cX6_runCost 33 = .ok (.iconst 2, 1) := by decide +kernel
theorem dX6_runCost_34 : decode cX6_runCost 34 = .ok (.ireturn, 1) := by decide +kernel
theorem dX6_selfCost_0 : decode cX6_selfCost 0 = .ok (.aload_n 0, 1) := by decide +kernel
theorem dX6_selfCost_1 : decode cX6_selfCost 1 = .ok (.getfield 43, 3) := by decide +kernel
theorem dX6_selfCost_4 : decode cX6_selfCost 4 = .ok (.ifCond .ne 10, 3) := by decide +kernel
theorem dX6_selfCost_7 : decode cX6_selfCost 7 = .ok (.aload_n 0, 1) := by decide +kernel
theorem dX6_selfCost_8 : decode cX6_selfCost 8 = .ok (.getfield 7, 3) := by decide +kernel
theorem dX6_selfCost_11 : decode cX6_selfCost 11 = .ok (.goto 29, 3) := by decide +kernel
theorem dX6_selfCost_14 : decode cX6_selfCost 14 = .ok (.aload_n 0, 1) := by decide +kernel
theorem dX6_selfCost_15 : decode cX6_selfCost 15 = .ok (.getfield 43, 3) := by decide +kernel
theorem dX6_selfCost_18 : decode cX6_selfCost 18 = .ok (.iconst 1, 1) := by decide +kernel
theorem dX6_selfCost_19 : decode cX6_selfCost 19 = .ok (.if_icmp .ne 14, 3) := by decide +kernel
theorem dX6_selfCost_22 : decode cX6_selfCost 22 = .ok (.iconst 1, 1) := by decide +kernel
theorem dX6_selfCost_23 : decode cX6_selfCost 23 = .ok (.iload_n 1, 1) := by decide +kernel
theorem dX6_selfCost_24 : decode cX6_selfCost 24 = .ok (.aload_n 0, 1) := by decide +kernel
theorem dX6_selfCost_25 : decode cX6_selfCost 25 = .ok (.getfield 7, 3) := by decide +kernel
theorem dX6_selfCost_28 : decode cX6_selfCost 28 = .ok (.imul, 1) := by decide +kernel
theorem dX6_selfCost_29 : decode cX6_selfCost 29 = .ok (.iadd, 1) := by decide +kernel
theorem dX6_selfCost_30 : decode cX6_selfCost 30 = .ok (.goto 10, 3) := by decide +kernel
theorem dX6_selfCost_33 : decode cX6_selfCost 33 = .ok (.iconst 2, 1) := by decide +kernel
theorem dX6_selfCost_34 : decode cX6_selfCost 34 = .ok (.iload_n 1, 1) := by decide +kernel
theorem dX6_selfCost_35 : decode cX6_selfCost 35 = .ok (.iadd, 1) := by decide +kernel
theorem dX6_selfCost_36 : decode cX6_selfCost 36 = .ok (.iload_n 1, 1) := by decide +kernel
theorem dX6_selfCost_37 : decode cX6_selfCost 37 = .ok (.iconst 2, 1) := by decide +kernel
theorem dX6_selfCost_38 : decode cX6_selfCost 38 = .ok (.irem, 1) := by decide +kernel
theorem dX6_selfCost_39 : decode cX6_selfCost 39 = .ok (.iadd, 1) := by decide +kernel
theorem dX6_selfCost_40 : decode cX6_selfCost 40 = .ok (.ireturn, 1) := by decide +kernel
theorem dX6_mayStand_0 : decode cX6_mayStand 0 = .ok (.aload_n 0, 1) := by decide +kernel
theorem dX6_mayStand_1 : decode cX6_mayStand 1 = .ok (.getfield 43, 3) := by decide +kernel
theorem dX6_mayStand_4 : decode cX6_mayStand 4 = .ok (.ifCond .ne 24, 3) := by decide +kernel
theorem dX6_mayStand_7 : decode cX6_mayStand 7 = .ok (.iload_n 2, 1) := by decide +kernel
theorem dX6_mayStand_8 : decode cX6_mayStand 8 = .ok (.iconst 1, 1) := by decide +kernel
theorem dX6_mayStand_9 : decode cX6_mayStand 9 = .ok (.if_icmp .ne 15, 3) := by decide +kernel
theorem dX6_mayStand_12 : decode cX6_mayStand 12 = .ok (.aload_n 0, 1) := by decide +kernel
theorem dX6_mayStand_13 : decode cX6_mayStand 13 = .ok (.iload_n 1, 1) := by decide +kernel
theorem dX6_mayStand_14 : decode cX6_mayStand 14 = .ok (.invokevirtual 83, 3) := by decide +kernel
theorem dX6_mayStand_17 : decode cX6_mayStand 17 = .ok (.ifCond .ne 7, 3) := by decide +kernel
theorem dX6_mayStand_20 : decode cX6_mayStand 20 = .ok (.iconst 1, 1) := by decide +kernel
theorem dX6_mayStand_21 : decode cX6_mayStand 21 = .ok (.goto 34, 3) := by decide +kernel
theorem dX6_mayStand_24 : decode cX6_mayStand 24 = .ok (.iconst 0, 1) := by decide +kernel
theorem dX6_mayStand_25 : decode cX6_mayStand 25 = .ok (.goto 30, 3) := by decide +kernel
theorem dX6_mayStand_28 : decode cX6_mayStand 28 = .ok (.aload_n 0, 1) := by decide +kernel
theorem dX6_mayStand_29 : decode cX6_mayStand 29 = .ok (.getfield 43, 3) := by decide +kernel
theorem dX6_mayStand_32 : decode cX6_mayStand 32 = .ok (.iconst 1, 1) := by decide +kernel
theorem dX6_mayStand_33 : decode cX6_mayStand 33 = .ok (.if_icmp .ne 14, 3) := by decide +kernel
theorem dX6_mayStand_36 : decode cX6_mayStand 36 = .ok (.iload_n 2, 1) := by decide +kernel
theorem dX6_mayStand_37 : decode cX6_mayStand 37 = .ok (.iconst 1, 1) := by decide +kernel
theorem dX6_mayStand_38 : decode cX6_mayStand 38 = .ok (.sipush 128, 3) := by decide +kernel
theorem dX6_mayStand_41 : decode cX6_mayStand 41 = .ok (.invokestatic 39, 3) := by decide +kernel
theorem dX6_mayStand_44 : decode cX6_mayStand 44 = .ok (.goto 11, 3) := by decide +kernel
theorem dX6_mayStand_47 : decode cX6_mayStand 47 = .ok (.iload_n 2, 1) := by decide +kernel
theorem dX6_mayStand_48 : decode cX6_mayStand 48 = .ok (.iconst 3, 1) := by decide +kernel
theorem dX6_mayStand_49 : decode cX6_mayStand 49 = .ok (.sipush 255, 3) := by decide +kernel
theorem dX6_mayStand_52 : decode cX6_mayStand 52 = .ok (.invokestatic 39, 3) := by decide +kernel
theorem dX6_mayStand_55 : decode cX6_mayStand 55 = .ok (.ireturn, 1) := by decide +kernel
theorem dX6_restOf_0 : decode cX6_restOf 0 = .ok (.iload_n 2, 1) := by decide +kernel
theorem dX6_restOf_1 : decode cX6_restOf 1 = .ok (.istore_n 3, 1) := by decide +kernel
theorem dX6_restOf_2 : decode cX6_restOf 2 = .ok (.iload_n 3, 1) := by decide +kernel
theorem dX6_restOf_3 : decode cX6_restOf 3 = .ok (.iload_n 1, 1) := by decide +kernel
theorem dX6_restOf_4 : decode cX6_restOf 4 = .ok (.if_icmp .le 22, 3) := by decide +kernel
theorem dX6_restOf_7 : decode cX6_restOf 7 = .ok (.aload_n 0, 1) := by decide +kernel
theorem dX6_restOf_8 : decode cX6_restOf 8 = .ok (.getfield 26, 3) := by decide +kernel
theorem dX6_restOf_11 : decode cX6_restOf 11 = .ok (.iload_n 3, 1) := by decide +kernel
theorem dX6_restOf_12 : decode cX6_restOf 12 = .ok (.iconst 1, 1) := by decide +kernel
theorem dX6_restOf_13 : decode cX6_restOf 13 = .ok (.isub, 1) := by decide +kernel
theorem dX6_restOf_14 : decode cX6_restOf 14 = .ok (.laload, 1) := by decide +kernel
theorem dX6_restOf_15 : decode cX6_restOf 15 = .ok (.lconst 0, 1) := by decide +kernel
theorem dX6_restOf_16 : decode cX6_restOf 16 = .ok (.lcmp, 1) := by decide +kernel
theorem dX6_restOf_17 : decode cX6_restOf 17 = .ok (.ifCond .ne 9, 3) := by decide +kernel
theorem dX6_restOf_20 : decode cX6_restOf 20 = .ok (.iinc 3 (-1), 3) := by decide +kernel
theorem dX6_restOf_23 : decode cX6_restOf 23 = .ok (.goto (-21), 3) := by decide +kernel
theorem dX6_restOf_26 : decode cX6_restOf 26 = .ok (.iload_n 3, 1) := by decide +kernel
theorem dX6_restOf_27 : decode cX6_restOf 27 = .ok (.ireturn, 1) := by decide +kernel
theorem dX6_reckon_0 : decode cX6_reckon 0 = .ok (.aload_n 0, 1) := by decide +kernel
theorem dX6_reckon_1 : decode cX6_reckon 1 = .ok (.getfield 43, 3) := by decide +kernel
theorem dX6_reckon_4 : decode cX6_reckon 4 = .ok (.iconst 2, 1) := by decide +kernel
theorem dX6_reckon_5 : decode cX6_reckon 5 = .ok (.if_icmp .ne 12, 3) := by decide +kernel
theorem dX6_reckon_8 : decode cX6_reckon 8 = .ok (.aload_n 0, 1) := by decide +kernel
theorem dX6_reckon_9 : decode cX6_reckon 9 = .ok (.iload_n 1, 1) := by decide +kernel
theorem dX6_reckon_10 : decode cX6_reckon 10 = .ok (.iload_n 2, 1) := by decide +kernel
theorem dX6_reckon_11 : decode cX6_reckon 11 = .ok (.invokevirtual 87, 3) := by decide +kernel
theorem dX6_reckon_14 : decode cX6_reckon 14 = .ok (.goto 4, 3) := by decide +kernel
theorem dX6_reckon_17 : decode cX6_reckon 17 = .ok (.iload_n 2, 1) := by decide +kernel
theorem dX6_reckon_18 : decode cX6_reckon 18 = .ok (.istore_n 3, 1) := by decide +kernel
theorem dX6_reckon_19 : decode cX6_reckon 19 = .ok (.aload_n 0, 1) := by decide +kernel
theorem dX6_reckon_20 : decode cX6_reckon 20 = .ok (.getfield 30, 3) := by decide +kernel
theorem dX6_reckon_23 : decode cX6_reckon 23 = .ok (.iload_n 2, 1) := by decide +kernel
theorem dX6_reckon_24 : decode cX6_reckon 24 = .ok (.aload_n 0, 1) := by decide +kernel
theorem dX6_reckon_25 : decode cX6_reckon 25 = .ok (.getfield 43, 3) := by decide +kernel
theorem dX6_reckon_28 : decode cX6_reckon 28 = .ok (.iconst 2, 1) := by decide +kernel
theorem dX6_reckon_29 : decode cX6_reckon 29 = .ok (.if_icmp .ne 7, 3) := by decide +kernel
theorem dX6_reckon_32 : decode cX6_reckon 32 = .ok (.iconst 2, 1) := by decide +kernel
theorem dX6_reckon_33 : decode cX6_reckon 33 = .ok (.goto 4, 3) := by decide +kernel
theorem dX6_reckon_36 : decode cX6_reckon 36 = .ok (.iconst 0, 1) := by decide +kernel
theorem dX6_reckon_37 : decode cX6_reckon 37 = .ok (.iastore, 1) := by decide +kernel
theorem dX6_reckon_38 : decode cX6_reckon 38 = .ok (.iload_n 2, 1) := by decide +kernel
theorem dX6_reckon_39 : decode cX6_reckon 39 = .ok (.iconst 1, 1) := by decide +kernel
theorem dX6_reckon_40 : decode cX6_reckon 40 = .ok (.isub, 1) := by decide +kernel
theorem dX6_reckon_41 : decode cX6_reckon 41 = .ok (.istore 4, 2) := by decide +kernel
theorem dX6_reckon_43 : decode cX6_reckon 43 = .ok (.iload 4, 2) := by decide +kernel
theorem dX6_reckon_45 : decode cX6_reckon 45 = .ok (.iload_n 1, 1) := by decide +kernel
theorem dX6_reckon_46 : decode cX6_reckon 46 = .ok (.if_icmp .lt 198, 3) := by decide +kernel
theorem dX6_reckon_49 : decode cX6_reckon 49 = .ok (.aload_n 0, 1) := by decide +kernel
theorem dX6_reckon_50 : decode cX6_reckon 50 = .ok (.getfield 43, 3) := by decide +kernel
theorem dX6_reckon_53 : decode cX6_reckon 53 = .ok (.iconst 2, 1) := by decide +kernel
theorem dX6_reckon_54 : decode cX6_reckon 54 = .ok (.if_icmp .ne 13, 3) := by decide +kernel
theorem dX6_reckon_57 : decode cX6_reckon 57 = .ok (.iload 4, 2) := by decide +kernel
theorem dX6_reckon_59 : decode cX6_reckon 59 = .ok (.iload_n 3, 1) := by decide +kernel
theorem dX6_reckon_60 : decode cX6_reckon 60 = .ok (.if_icmp .lt 7, 3) := by decide +kernel
theorem dX6_reckon_63 : decode cX6_reckon 63 = .ok (.iconst 2, 1) := by decide +kernel
theorem dX6_reckon_64 : decode cX6_reckon 64 = .ok (.goto 5, 3) := by decide +kernel
theorem dX6_reckon_67 : decode cX6_reckon 67 = .ok (.ldc 91, 2) := by decide +kernel
theorem dX6_reckon_69 : decode cX6_reckon 69 = .ok (.istore 5, 2) := by decide +kernel
theorem dX6_reckon_71 : decode cX6_reckon 71 = .ok (.iconst 1, 1) := by decide +kernel
theorem dX6_reckon_72 : decode cX6_reckon 72 = .ok (.istore 6, 2) := by decide +kernel
theorem dX6_reckon_74 : decode cX6_reckon 74 = .ok (.iload 4, 2) := by decide +kernel
theorem dX6_reckon_76 : decode cX6_reckon 76 = .ok (.iload 6, 2) := by decide +kernel
theorem dX6_reckon_78 : decode cX6_reckon 78 = .ok (.iadd, 1) := by decide +kernel
theorem dX6_reckon_79 : decode cX6_reckon 79 = .ok (.iload_n 2, 1) := by decide +kernel
theorem dX6_reckon_80 : decode cX6_reckon 80 = .ok (.if_icmp .gt 66, 3) := by decide +kernel
theorem dX6_reckon_83 : decode cX6_reckon 83 = .ok (.aload_n 0, 1) := by decide +kernel
theorem dX6_reckon_84 : decode cX6_reckon 84 = .ok (.iload 4, 2) := by decide +kernel
theorem dX6_reckon_86 : decode cX6_reckon 86 = .ok (.iload 6, 2) := by decide +kernel
theorem dX6_reckon_88 : decode cX6_reckon 88 = .ok (.invokevirtual 92, 3) := by decide +kernel
theorem dX6_reckon_91 : decode cX6_reckon 91 = .ok (.ifCond .eq 45, 3) := by decide +kernel
theorem dX6_reckon_94 : decode cX6_reckon 94 = .ok (.aload_n 0, 1) := by decide +kernel
theorem dX6_reckon_95 : decode cX6_reckon 95 = .ok (.iload 6, 2) := by decide +kernel
theorem dX6_reckon_97 : decode cX6_reckon 97 = .ok (.invokevirtual 96, 3) := by decide +kernel
theorem dX6_reckon_100 : decode cX6_reckon 100 = .ok (.aload_n 0, 1) := by decide +kernel
theorem dX6_reckon_101 : decode cX6_reckon 101 = .ok (.getfield 30, 3) := by decide +kernel
theorem dX6_reckon_104 : decode cX6_reckon 104 = .ok (.iload 4, 2) := by decide +kernel
theorem dX6_reckon_106 : decode cX6_reckon 106 = .ok (.iload 6, 2) := by decide +kernel
theorem dX6_reckon_108 : decode cX6_reckon 108 = .ok (.iadd, 1) := by decide +kernel
theorem dX6_reckon_109 : decode cX6_reckon 109 = .ok (.iaload, 1) := by decide +kernel
theorem dX6_reckon_110 : decode cX6_reckon 110 = .ok (.iadd, 1) := by decide +kernel
theorem dX6_reckon_111 : decode cX6_reckon 111 = .ok (.iload 5, 2) := by decide +kernel
theorem dX6_reckon_113 : decode cX6_reckon 113 = .ok (.if_icmp .ge 23, 3) := by decide +kernel
theorem dX6_reckon_116 : decode cX6_reckon 116 = .ok (.aload_n 0, 1) := by decide +kernel
theorem dX6_reckon_117 : decode cX6_reckon 117 = .ok (.iload 6, 2) := by decide +kernel
theorem dX6_reckon_119 : decode cX6_reckon 119 = .ok (.invokevirtual 96, 3) := by decide +kernel
theorem dX6_reckon_122 : decode cX6_reckon 122 = .ok (.aload_n 0, 1) := by decide +kernel
theorem dX6_reckon_123 : decode cX6_reckon 123 = .ok (.getfield 30, 3) := by decide +kernel
theorem dX6_reckon_126 : decode cX6_reckon 126 = .ok (.iload 4, 2) := by decide +kernel
theorem dX6_reckon_128 : decode cX6_reckon 128 = .ok (.iload 6, 2) := by decide +kernel
theorem dX6_reckon_130 : decode cX6_reckon 130 = .ok (.iadd, 1) := by decide +kernel
theorem dX6_reckon_131 : decode cX6_reckon 131 = .ok (.iaload, 1) := by decide +kernel
theorem dX6_reckon_132 : decode cX6_reckon 132 = .ok (.iadd, 1) := by decide +kernel
theorem dX6_reckon_133 : decode cX6_reckon 133 = .ok (.goto 5, 3) := by decide +kernel
theorem dX6_reckon_136 : decode cX6_reckon 136 = .ok (.iload 5, 2) := by decide +kernel
theorem dX6_reckon_138 : decode cX6_reckon 138 = .ok (.istore 5, 2) := by decide +kernel
theorem dX6_reckon_140 : decode cX6_reckon 140 = .ok (.iinc 6 1, 3) := by decide +kernel
theorem dX6_reckon_143 : decode cX6_reckon 143 = .ok (.goto (-69), 3) := by decide +kernel
theorem dX6_reckon_146 : decode cX6_reckon 146 = .ok (.aload_n 0, 1) := by decide +kernel
theorem dX6_reckon_147 : decode cX6_reckon 147 = .ok (.iload 4, 2) := by decide +kernel
theorem dX6_reckon_149 : decode cX6_reckon 149 = .ok (.iload_n 2, 1) := by decide +kernel
theorem dX6_reckon_150 : decode cX6_reckon 150 = .ok (.aload_n 0, 1) := by decide +kernel
theorem dX6_reckon_151 : decode cX6_reckon 151 = .ok (.invokevirtual 100, 3) := by decide +kernel
theorem dX6_reckon_154 : decode cX6_reckon 154 = .ok (.invokevirtual 104, 3) := by decide +kernel
theorem dX6_reckon_157 : decode cX6_reckon 157 = .ok (.istore 6, 2) := by decide +kernel
theorem dX6_reckon_159 : decode cX6_reckon 159 = .ok (.aload_n 0, 1) := by decide +kernel
theorem dX6_reckon_160 : decode cX6_reckon 160 = .ok (.getfield 43, 3) := by decide +kernel
theorem dX6_reckon_163 : decode cX6_reckon 163 = .ok (.iconst 1, 1) := by decide +kernel
theorem dX6_reckon_164 : decode cX6_reckon 164 = .ok (.if_icmp .ne 7, 3) := by decide +kernel
theorem dX6_reckon_167 : decode cX6_reckon 167 = .ok (.iconst 2, 1) := by decide +kernel
theorem dX6_reckon_168 : decode cX6_reckon 168 = .ok (.goto 4, 3) := by decide +kernel
theorem dX6_reckon_171 : decode cX6_reckon 171 = .ok (.iconst 1, 1) := by decide +kernel
theorem dX6_reckon_172 : decode cX6_reckon 172 = .ok (.istore 7, 2) := by decide +kernel
theorem dX6_reckon_174 : decode cX6_reckon 174 = .ok (.iload 7, 2) := by decide +kernel
theorem dX6_reckon_176 : decode cX6_reckon 176 = .ok (.iload 6, 2) := by decide +kernel
theorem dX6_reckon_178 : decode cX6_reckon 178 = .ok (.if_icmp .gt 51, 3) := by decide +kernel
theorem dX6_reckon_181 : decode cX6_reckon 181 = .ok (.aload_n 0, 1) := by decide +kernel
theorem dX6_reckon_182 : decode cX6_reckon 182 = .ok (.invokevirtual 108, 3) := by decide +kernel
theorem dX6_reckon_185 : decode cX6_reckon 185 = .ok (.aload_n 0, 1) := by decide +kernel
theorem dX6_reckon_186 : decode cX6_reckon 186 = .ok (.getfield 30, 3) := by decide +kernel
theorem dX6_reckon_189 : decode cX6_reckon 189 = .ok (.iload 4, 2) := by decide +kernel
theorem dX6_reckon_191 : decode cX6_reckon 191 = .ok (.iload 7, 2) := by decide +kernel
theorem dX6_reckon_193 : decode cX6_reckon 193 = .ok (.iadd, 1) := by decide +kernel
theorem dX6_reckon_194 : decode cX6_reckon 194 = .ok (.iaload, 1) := by decide +kernel
theorem dX6_reckon_195 : decode cX6_reckon 195 = .ok (.iadd, 1) := by decide +kernel
theorem dX6_reckon_196 : decode cX6_reckon 196 = .ok (.iload 5, 2) := by decide +kernel
theorem dX6_reckon_198 : decode cX6_reckon 198 = .ok (.if_icmp .ge 21, 3) := by decide +kernel
theorem dX6_reckon_201 : decode cX6_reckon 201 = .ok (.aload_n 0, 1) := by decide +kernel
theorem dX6_reckon_202 : decode cX6_reckon 202 = .ok (.invokevirtual 108, 3) := by decide +kernel
theorem dX6_reckon_205 : decode cX6_reckon 205 = .ok (.aload_n 0, 1) := by decide +kernel
theorem dX6_reckon_206 : decode cX6_reckon 206 = .ok (.getfield 30, 3) := by decide +kernel
theorem dX6_reckon_209 : decode cX6_reckon 209 = .ok (.iload 4, 2) := by decide +kernel
theorem dX6_reckon_211 : decode cX6_reckon 211 = .ok (.iload 7, 2) := by decide +kernel
theorem dX6_reckon_213 : decode cX6_reckon 213 = .ok (.iadd, 1) := by decide +kernel
theorem dX6_reckon_214 : decode cX6_reckon 214 = .ok (.iaload, 1) := by decide +kernel
theorem dX6_reckon_215 : decode cX6_reckon 215 = .ok (.iadd, 1) := by decide +kernel
theorem dX6_reckon_216 : decode cX6_reckon 216 = .ok (.goto 5, 3) := by decide +kernel
theorem dX6_reckon_219 : decode cX6_reckon 219 = .ok (.iload 5, 2) := by decide +kernel
theorem dX6_reckon_221 : decode cX6_reckon 221 = .ok (.istore 5, 2) := by decide +kernel
theorem dX6_reckon_223 : decode cX6_reckon 223 = .ok (.iinc 7 1, 3) := by decide +kernel
theorem dX6_reckon_226 : decode cX6_reckon 226 = .ok (.goto (-52), 3) := by decide +kernel
theorem dX6_reckon_229 : decode cX6_reckon 229 = .ok (.aload_n 0, 1) := by decide +kernel
theorem dX6_reckon_230 : decode cX6_reckon 230 = .ok (.getfield 30, 3) := by decide +kernel
theorem dX6_reckon_233 : decode cX6_reckon 233 = .ok (.iload 4, 2) := by decide +kernel
theorem dX6_reckon_235 : decode cX6_reckon 235 = .ok (.iload 5, 2) := by decide +kernel
theorem dX6_reckon_237 : decode cX6_reckon 237 = .ok (.iastore, 1) := by decide +kernel
theorem dX6_reckon_238 : decode cX6_reckon 238 = .ok (.iinc 4 (-1), 3) := by decide +kernel
theorem dX6_reckon_241 : decode cX6_reckon 241 = .ok (.goto (-198), 3) := by decide +kernel
theorem dX6_reckon_244 : decode cX6_reckon 244 = .ok (.return_, 1) := by decide +kernel
theorem dX6_fewest_0 : decode cX6_fewest 0 = .ok (.aload_n 0, 1) := by decide +kernel
theorem dX6_fewest_1 : decode cX6_fewest 1 = .ok (.iload_n 1, 1) := by decide +kernel
theorem dX6_fewest_2 : decode cX6_fewest 2 = .ok (.iload_n 2, 1) := by decide +kernel
theorem dX6_fewest_3 : decode cX6_fewest 3 = .ok (.invokevirtual 111, 3) := by decide +kernel
theorem dX6_fewest_6 : decode cX6_fewest 6 = .ok (.aload_n 0, 1) := by decide +kernel
theorem dX6_fewest_7 : decode cX6_fewest 7 = .ok (.getfield 43, 3) := by decide +kernel
theorem dX6_fewest_10 : decode cX6_fewest 10 = .ok (.iconst 2, 1) := by decide +kernel
theorem dX6_fewest_11 : decode cX6_fewest 11 = .ok (.if_icmp .ne 12, 3) := by decide +kernel
theorem dX6_fewest_14 : decode cX6_fewest 14 = .ok (.aload_n 0, 1) := by decide +kernel
theorem dX6_fewest_15 : decode cX6_fewest 15 = .ok (.iload_n 1, 1) := by decide +kernel
theorem dX6_fewest_16 : decode cX6_fewest 16 = .ok (.iload_n 2, 1) := by decide +kernel
theorem dX6_fewest_17 : decode cX6_fewest 17 = .ok (.invokevirtual 87, 3) := by decide +kernel
theorem dX6_fewest_20 : decode cX6_fewest 20 = .ok (.goto 6, 3) := by decide +kernel
theorem dX6_fewest_23 : decode cX6_fewest 23 = .ok (.iload_n 2, 1) := by decide +kernel
theorem dX6_fewest_24 : decode cX6_fewest 24 = .ok (.iconst 1, 1) := by decide +kernel
theorem dX6_fewest_25 : decode cX6_fewest 25 = .ok (.iadd, 1) := by decide +kernel
theorem dX6_fewest_26 : decode cX6_fewest 26 = .ok (.istore_n 3, 1) := by decide +kernel
theorem dX6_fewest_27 : decode cX6_fewest 27 = .ok (.iload_n 1, 1) := by decide +kernel
theorem dX6_fewest_28 : decode cX6_fewest 28 = .ok (.istore 4, 2) := by decide +kernel
theorem dX6_fewest_30 : decode cX6_fewest 30 = .ok (.iconst 1, 1) := by decide +kernel
theorem dX6_fewest_31 : decode cX6_fewest 31 = .ok (.istore 5, 2) := by decide +kernel
theorem dX6_fewest_33 : decode cX6_fewest 33 = .ok (.iload 5, 2) := by decide +kernel
theorem dX6_fewest_35 : decode cX6_fewest 35 = .ok (.ifCond .eq 63, 3) := by decide +kernel
theorem dX6_fewest_38 : decode cX6_fewest 38 = .ok (.iload 4, 2) := by decide +kernel
theorem dX6_fewest_40 : decode cX6_fewest 40 = .ok (.iload_n 2, 1) := by decide +kernel
theorem dX6_fewest_41 : decode cX6_fewest 41 = .ok (.if_icmp .lt 11, 3) := by decide +kernel
theorem dX6_fewest_44 : decode cX6_fewest 44 = .ok (.aload_n 0, 1) := by decide +kernel
theorem dX6_fewest_45 : decode cX6_fewest 45 = .ok (.getfield 43, 3) := by decide +kernel
theorem dX6_fewest_48 : decode cX6_fewest 48 = .ok (.iconst 2, 1) := by decide +kernel
theorem dX6_fewest_49 : decode cX6_fewest 49 = .ok (.if_icmp .ne 49, 3) := by decide +kernel
theorem dX6_fewest_52 : decode cX6_fewest 52 = .ok (.aload_n 0, 1) := by decide +kernel
theorem dX6_fewest_53 : decode cX6_fewest 53 = .ok (.getfield 43, 3) := by decide +kernel
theorem dX6_fewest_56 : decode cX6_fewest 56 = .ok (.iconst 2, 1) := by decide +kernel
theorem dX6_fewest_57 : decode cX6_fewest 57 = .ok (.if_icmp .ne 26, 3) := by decide +kernel
theorem dX6_fewest_60 : decode cX6_fewest 60 = .ok (.iload 4, 2) := by decide +kernel
theorem dX6_fewest_62 : decode cX6_fewest 62 = .ok (.iload_n 3, 1) := by decide +kernel
theorem dX6_fewest_63 : decode cX6_fewest 63 = .ok (.if_icmp .lt 20, 3) := by decide +kernel
theorem dX6_fewest_66 : decode cX6_fewest 66 = .ok (.aload_n 0, 1) := by decide +kernel
theorem dX6_fewest_67 : decode cX6_fewest 67 = .ok (.getfield 30, 3) := by decide +kernel
theorem dX6_fewest_70 : decode cX6_fewest 70 = .ok (.iload 4, 2) := by decide +kernel
theorem dX6_fewest_72 : decode cX6_fewest 72 = .ok (.iaload, 1) := by decide +kernel
theorem dX6_fewest_73 : decode cX6_fewest 73 = .ok (.iconst 2, 1) := by decide +kernel
theorem dX6_fewest_74 : decode cX6_fewest 74 = .ok (.if_icmp .ne 9, 3) := by decide +kernel
theorem dX6_fewest_77 : decode cX6_fewest 77 = .ok (.iconst 0, 1) := by decide +kernel
theorem dX6_fewest_78 : decode cX6_fewest 78 = .ok (.istore 5, 2) := by decide +kernel
theorem dX6_fewest_80 : decode cX6_fewest 80 = .ok (.goto (-47), 3) := by decide +kernel
theorem dX6_fewest_83 : decode cX6_fewest 83 = .ok (.iload 4, 2) := by decide +kernel
theorem dX6_fewest_85 : decode cX6_fewest 85 = .ok (.aload_n 0, 1) := by decide +kernel
theorem dX6_fewest_86 : decode cX6_fewest 86 = .ok (.iload 4, 2) := by decide +kernel
theorem dX6_fewest_88 : decode cX6_fewest 88 = .ok (.iload_n 2, 1) := by decide +kernel
theorem dX6_fewest_89 : decode cX6_fewest 89 = .ok (.invokevirtual 115, 3) := by decide +kernel
theorem dX6_fewest_92 : decode cX6_fewest 92 = .ok (.iadd, 1) := by decide +kernel
theorem dX6_fewest_93 : decode cX6_fewest 93 = .ok (.istore 4, 2) := by decide +kernel
theorem dX6_fewest_95 : decode cX6_fewest 95 = .ok (.goto (-62), 3) := by decide +kernel
theorem dX6_fewest_98 : decode cX6_fewest 98 = .ok (.aload_n 0, 1) := by decide +kernel
theorem dX6_fewest_99 : decode cX6_fewest 99 = .ok (.getfield 43, 3) := by decide +kernel
theorem dX6_fewest_102 : decode cX6_fewest 102 = .ok (.iconst 2, 1) := by decide +kernel
theorem dX6_fewest_103 : decode cX6_fewest 103 = .ok (.if_icmp .ne 13, 3) := by decide +kernel
theorem dX6_fewest_106 : decode cX6_fewest 106 = .ok (.aload_n 0, 1) := by decide +kernel
theorem dX6_fewest_107 : decode cX6_fewest 107 = .ok (.iconst 0, 1) := by decide +kernel
theorem dX6_fewest_108 : decode cX6_fewest 108 = .ok (.invokevirtual 75, 3) := by decide +kernel
theorem dX6_fewest_111 : decode cX6_fewest 111 = .ok (.aload_n 0, 1) := by decide +kernel
theorem dX6_fewest_112 : decode cX6_fewest 112 = .ok (.iconst 0, 1) := by decide +kernel
theorem dX6_fewest_113 : decode cX6_fewest 113 = .ok (.invokevirtual 75, 3) := by decide +kernel
theorem dX6_fewest_116 : decode cX6_fewest 116 = .ok (.return_, 1) := by decide +kernel
theorem dX6_fewestAt_0 : decode cX6_fewestAt 0 = .ok (.iload_n 2, 1) := by decide +kernel
theorem dX6_fewestAt_1 : decode cX6_fewestAt 1 = .ok (.iload_n 1, 1) := by decide +kernel
theorem dX6_fewestAt_2 : decode cX6_fewestAt 2 = .ok (.isub, 1) := by decide +kernel
theorem dX6_fewestAt_3 : decode cX6_fewestAt 3 = .ok (.istore_n 3, 1) := by decide +kernel
theorem dX6_fewestAt_4 : decode cX6_fewestAt 4 = .ok (.iload_n 3, 1) := by decide +kernel
theorem dX6_fewestAt_5 : decode cX6_fewestAt 5 = .ok (.iconst 1, 1) := by decide +kernel
theorem dX6_fewestAt_6 : decode cX6_fewestAt 6 = .ok (.if_icmp .lt 49, 3) := by decide +kernel
theorem dX6_fewestAt_9 : decode cX6_fewestAt 9 = .ok (.aload_n 0, 1) := by decide +kernel
theorem dX6_fewestAt_10 : decode cX6_fewestAt 10 = .ok (.iload_n 1, 1) := by decide +kernel
