theorem dX5_init_0 : decode cX5_init 0 = .ok (.aload_n 0, 1) := by decide +kernel
theorem dX5_init_1 : decode cX5_init 1 = .ok (.invokespecial 1, 3) := by decide +kernel
theorem dX5_init_4 : decode cX5_init 4 = .ok (.aload_n 0, 1) := by decide +kernel
theorem dX5_init_5 : decode cX5_init 5 = .ok (.new 7, 3) := by decide +kernel
theorem dX5_init_8 : decode cX5_init 8 = .ok (.dup, 1) := by decide +kernel
theorem dX5_init_9 : decode cX5_init 9 = .ok (.iload_n 1, 1) := by decide +kernel
theorem dX5_init_10 : decode cX5_init 10 = .ok (.ifCond .lt 12, 3) := by decide +kernel
theorem dX5_init_13 : decode cX5_init 13 = .ok (.iload_n 1, 1) := by decide +kernel
theorem dX5_init_14 : decode cX5_init 14 = .ok (.iconst 2, 1) := by decide +kernel
theorem dX5_init_15 : decode cX5_init 15 = .ok (.if_icmp .gt 7, 3) := by decide +kernel
theorem dX5_init_18 : decode cX5_init 18 = .ok (.iload_n 1, 1) := by decide +kernel
theorem dX5_init_19 : decode cX5_init 19 = .ok (.goto 4, 3) := by decide +kernel
theorem dX5_init_22 : decode cX5_init 22 = .ok (.iconst 0, 1) := by decide +kernel
theorem dX5_init_23 : decode cX5_init 23 = .ok (.invokespecial 11, 3) := by decide +kernel
theorem dX5_init_26 : decode cX5_init 26 = .ok (.putfield 14, 3) := by decide +kernel
theorem dX5_init_29 : decode cX5_init 29 = .ok (.aload_n 0, 1) := by decide +kernel
theorem dX5_init_30 : decode cX5_init 30 = .ok (.new 18, 3) := by decide +kernel
theorem dX5_init_33 : decode cX5_init 33 = .ok (.dup, 1) := by decide +kernel
theorem dX5_init_34 : decode cX5_init 34 = .ok (.sipush 240, 3) := by decide +kernel
theorem dX5_init_37 : decode cX5_init 37 = .ok (.invokespecial 20, 3) := by decide +kernel
theorem dX5_init_40 : decode cX5_init 40 = .ok (.putfield 21, 3) := by decide +kernel
theorem dX5_init_43 : decode cX5_init 43 = .ok (.aload_n 0, 1) := by decide +kernel
theorem dX5_init_44 : decode cX5_init 44 = .ok (.new 18, 3) := by decide +kernel
theorem dX5_init_47 : decode cX5_init 47 = .ok (.dup, 1) := by decide +kernel
theorem dX5_init_48 : decode cX5_init 48 = .ok (.sipush 1000, 3) := by decide +kernel
theorem dX5_init_51 : decode cX5_init 51 = .ok (.invokespecial 20, 3) := by decide +kernel
theorem dX5_init_54 : decode cX5_init 54 = .ok (.putfield 25, 3) := by decide +kernel
theorem dX5_init_57 : decode cX5_init 57 = .ok (.aload_n 0, 1) := by decide +kernel
theorem dX5_init_58 : decode cX5_init 58 = .ok (.new 28, 3) := by decide +kernel
theorem dX5_init_61 : decode cX5_init 61 = .ok (.dup, 1) := by decide +kernel
theorem dX5_init_62 : decode cX5_init 62 = .ok (.aload_n 0, 1) := by decide +kernel
theorem dX5_init_63 : decode cX5_init 63 = .ok (.getfield 14, 3) := by decide +kernel
theorem dX5_init_66 : decode cX5_init 66 = .ok (.invokespecial 30, 3) := by decide +kernel
theorem dX5_init_69 : decode cX5_init 69 = .ok (.putfield 33, 3) := by decide +kernel
theorem dX5_init_72 : decode cX5_init 72 = .ok (.aload_n 0, 1) := by decide +kernel
theorem dX5_init_73 : decode cX5_init 73 = .ok (.new 37, 3) := by decide +kernel
theorem dX5_init_76 : decode cX5_init 76 = .ok (.dup, 1) := by decide +kernel
theorem dX5_init_77 : decode cX5_init 77 = .ok (.aload_n 0, 1) := by decide +kernel
theorem dX5_init_78 : decode cX5_init 78 = .ok (.getfield 14, 3) := by decide +kernel
theorem dX5_init_81 : decode cX5_init 81 = .ok (.aload_n 0, 1) := by decide +kernel
theorem dX5_init_82 : decode cX5_init 82 = .ok (.getfield 25, 3) := by decide +kernel
theorem dX5_init_85 : decode cX5_init 85 = .ok (.invokespecial 39, 3) := by decide +kernel
theorem dX5_init_88 : decode cX5_init 88 = .ok (.putfield 42, 3) := by decide +kernel
theorem dX5_init_91 : decode cX5_init 91 = .ok (.aload_n 0, 1) := by decide +kernel
theorem dX5_init_92 : decode cX5_init 92 = .ok (.new 46, 3) := by decide +kernel
theorem dX5_init_95 : decode cX5_init 95 = .ok (.dup, 1) := by decide +kernel
theorem dX5_init_96 : decode cX5_init 96 = .ok (.aload_n 0, 1) := by decide +kernel
theorem dX5_init_97 : decode cX5_init 97 = .ok (.getfield 14, 3) := by decide +kernel
theorem dX5_init_100 : decode cX5_init 100 = .ok (.aload_n 0, 1) := by decide +kernel
theorem dX5_init_101 : decode cX5_init 101 = .ok (.getfield 25, 3) := by decide +kernel
theorem dX5_init_104 : decode cX5_init 104 = .ok (.invokespecial 48, 3) := by decide +kernel
theorem dX5_init_107 : decode cX5_init 107 = .ok (.putfield 49, 3) := by decide +kernel
theorem dX5_init_110 : decode cX5_init 110 = .ok (.return_, 1) := by decide +kernel
theorem dX5_octet_0 : decode cX5_octet 0 = .ok (.aload_n 0, 1) := by decide +kernel
theorem dX5_octet_1 : decode cX5_octet 1 = .ok (.aload_n 0, 1) := by decide +kernel
theorem dX5_octet_2 : decode cX5_octet 2 = .ok (.getfield 21, 3) := by decide +kernel
theorem dX5_octet_5 : decode cX5_octet 5 = .ok (.iconst 1, 1) := by decide +kernel
theorem dX5_octet_6 : decode cX5_octet 6 = .ok (.iload_n 1, 1) := by decide +kernel
theorem dX5_octet_7 : decode cX5_octet 7 = .ok (.invokevirtual 53, 3) := by decide +kernel
theorem dX5_octet_10 : decode cX5_octet 10 = .ok (.ireturn, 1) := by decide +kernel
theorem dX5_repeat_0 : decode cX5_repeat 0 = .ok (.iload_n 1, 1) := by decide +kernel
theorem dX5_repeat_1 : decode cX5_repeat 1 = .ok (.iconst 1, 1) := by decide +kernel
theorem dX5_repeat_2 : decode cX5_repeat 2 = .ok (.if_icmp .lt 10, 3) := by decide +kernel
theorem dX5_repeat_5 : decode cX5_repeat 5 = .ok (.iload_n 1, 1) := by decide +kernel
theorem dX5_repeat_6 : decode cX5_repeat 6 = .ok (.sipush 240, 3) := by decide +kernel
theorem dX5_repeat_9 : decode cX5_repeat 9 = .ok (.if_icmp .le 5, 3) := by decide +kernel
theorem dX5_repeat_12 : decode cX5_repeat 12 = .ok (.iconst (-1), 1) := by decide +kernel
theorem dX5_repeat_13 : decode cX5_repeat 13 = .ok (.ireturn, 1) := by decide +kernel
theorem dX5_repeat_14 : decode cX5_repeat 14 = .ok (.aload_n 0, 1) := by decide +kernel
theorem dX5_repeat_15 : decode cX5_repeat 15 = .ok (.aload_n 0, 1) := by decide +kernel
theorem dX5_repeat_16 : decode cX5_repeat 16 = .ok (.getfield 21, 3) := by decide +kernel
theorem dX5_repeat_19 : decode cX5_repeat 19 = .ok (.iload_n 1, 1) := by decide +kernel
theorem dX5_repeat_20 : decode cX5_repeat 20 = .ok (.iload_n 2, 1) := by decide +kernel
theorem dX5_repeat_21 : decode cX5_repeat 21 = .ok (.invokevirtual 53, 3) := by decide +kernel
theorem dX5_repeat_24 : decode cX5_repeat 24 = .ok (.ireturn, 1) := by decide +kernel
theorem dX5_code_0 : decode cX5_code 0 = .ok (.aload_n 0, 1) := by decide +kernel
theorem dX5_code_1 : decode cX5_code 1 = .ok (.aload_n 0, 1) := by decide +kernel
theorem dX5_code_2 : decode cX5_code 2 = .ok (.getfield 25, 3) := by decide +kernel
theorem dX5_code_5 : decode cX5_code 5 = .ok (.iconst 1, 1) := by decide +kernel
theorem dX5_code_6 : decode cX5_code 6 = .ok (.iload_n 1, 1) := by decide +kernel
theorem dX5_code_7 : decode cX5_code 7 = .ok (.invokevirtual 53, 3) := by decide +kernel
theorem dX5_code_10 : decode cX5_code 10 = .ok (.ireturn, 1) := by decide +kernel
theorem dX5_cut_0 : decode cX5_cut 0 = .ok (.aload_n 0, 1) := by decide +kernel
theorem dX5_cut_1 : decode cX5_cut 1 = .ok (.iload_n 1, 1) := by decide +kernel
theorem dX5_cut_2 : decode cX5_cut 2 = .ok (.invokevirtual 57, 3) := by decide +kernel
theorem dX5_cut_5 : decode cX5_cut 5 = .ok (.astore_n 3, 1) := by decide +kernel
theorem dX5_cut_6 : decode cX5_cut 6 = .ok (.aload_n 3, 1) := by decide +kernel
theorem dX5_cut_7 : decode cX5_cut 7 = .ok (.ifnull 15, 3) := by decide +kernel
theorem dX5_cut_10 : decode cX5_cut 10 = .ok (.iload_n 2, 1) := by decide +kernel
theorem dX5_cut_11 : decode cX5_cut 11 = .ok (.ifCond .lt 11, 3) := by decide +kernel
theorem dX5_cut_14 : decode cX5_cut 14 = .ok (.iload_n 2, 1) := by decide +kernel
theorem dX5_cut_15 : decode cX5_cut 15 = .ok (.aload_n 3, 1) := by decide +kernel
theorem dX5_cut_16 : decode cX5_cut 16 = .ok (.getfield 61, 3) := by decide +kernel
theorem dX5_cut_19 : decode cX5_cut 19 = .ok (.if_icmp .le 5, 3) := by decide +kernel
theorem dX5_cut_22 : decode cX5_cut 22 = .ok (.iconst (-1), 1) := by decide +kernel
theorem dX5_cut_23 : decode cX5_cut 23 = .ok (.ireturn, 1) := by decide +kernel
theorem dX5_cut_24 : decode cX5_cut 24 = .ok (.aload_n 3, 1) := by decide +kernel
theorem dX5_cut_25 : decode cX5_cut 25 = .ok (.getfield 61, 3) := by decide +kernel
theorem dX5_cut_28 : decode cX5_cut 28 = .ok (.iload_n 2, 1) := by decide +kernel
theorem dX5_cut_29 : decode cX5_cut 29 = .ok (.isub, 1) := by decide +kernel
theorem dX5_cut_30 : decode cX5_cut 30 = .ok (.istore 4, 2) := by decide +kernel
theorem dX5_cut_32 : decode cX5_cut 32 = .ok (.aload_n 3, 1) := by decide +kernel
theorem dX5_cut_33 : decode cX5_cut 33 = .ok (.iload_n 2, 1) := by decide +kernel
theorem dX5_cut_34 : decode cX5_cut 34 = .ok (.putfield 61, 3) := by decide +kernel
theorem dX5_cut_37 : decode cX5_cut 37 = .ok (.iload 4, 2) := by decide +kernel
theorem dX5_cut_39 : decode cX5_cut 39 = .ok (.ireturn, 1) := by decide +kernel
theorem dX5_rule_0 : decode cX5_rule 0 = .ok (.aload_n 0, 1) := by decide +kernel
theorem dX5_rule_1 : decode cX5_rule 1 = .ok (.getfield 14, 3) := by decide +kernel
theorem dX5_rule_4 : decode cX5_rule 4 = .ok (.iload_n 1, 1) := by decide +kernel
theorem dX5_rule_5 : decode cX5_rule 5 = .ok (.iload_n 2, 1) := by decide +kernel
theorem dX5_rule_6 : decode cX5_rule 6 = .ok (.invokevirtual 65, 3) := by decide +kernel
theorem dX5_rule_9 : decode cX5_rule 9 = .ok (.ifCond .ne 5, 3) := by decide +kernel
theorem dX5_rule_12 : decode cX5_rule 12 = .ok (.iconst (-1), 1) := by decide +kernel
theorem dX5_rule_13 : decode cX5_rule 13 = .ok (.ireturn, 1) := by decide +kernel
theorem dX5_rule_14 : decode cX5_rule 14 = .ok (.aload_n 0, 1) := by decide +kernel
theorem dX5_rule_15 : decode cX5_rule 15 = .ok (.getfield 14, 3) := by decide +kernel
theorem dX5_rule_18 : decode cX5_rule 18 = .ok (.getfield 69, 3) := by decide +kernel
theorem dX5_rule_21 : decode cX5_rule 21 = .ok (.iconst 2, 1) := by decide +kernel
theorem dX5_rule_22 : decode cX5_rule 22 = .ok (.if_icmp .ne 15, 3) := by decide +kernel
theorem dX5_rule_25 : decode cX5_rule 25 = .ok (.iload_n 1, 1) := by decide +kernel
theorem dX5_rule_26 : decode cX5_rule 26 = .ok (.ifCond .eq 8, 3) := by decide +kernel
theorem dX5_rule_29 : decode cX5_rule 29 = .ok (.iload_n 1, 1) := by decide +kernel
theorem dX5_rule_30 : decode cX5_rule 30 = .ok (.iconst 3, 1) := by decide +kernel
theorem dX5_rule_31 : decode cX5_rule 31 = .ok (.if_icmp .ne 6, 3) := by decide +kernel
theorem dX5_rule_34 : decode cX5_rule 34 = .ok (.bipush (-3), 2) := by decide +kernel
theorem dX5_rule_36 : decode cX5_rule 36 = .ok (.ireturn, 1) := by decide +kernel
theorem dX5_rule_37 : decode cX5_rule 37 = .ok (.aload_n 0, 1) := by decide +kernel
theorem dX5_rule_38 : decode cX5_rule 38 = .ok (.getfield 14, 3) := by decide +kernel
theorem dX5_rule_41 : decode cX5_rule 41 = .ok (.iload_n 1, 1) := by decide +kernel
theorem dX5_rule_42 : decode cX5_rule 42 = .ok (.iload_n 2, 1) := by decide +kernel
theorem dX5_rule_43 : decode cX5_rule 43 = .ok (.invokevirtual 72, 3) := by decide +kernel
theorem dX5_rule_46 : decode cX5_rule 46 = .ok (.ireturn, 1) := by decide +kernel
theorem dX5_pack_0 : decode cX5_pack 0 = .ok (.aload_n 0, 1) := by decide +kernel
theorem dX5_pack_1 : decode cX5_pack 1 = .ok (.iload_n 1, 1) := by decide +kernel
theorem dX5_pack_2 : decode cX5_pack 2 = .ok (.invokevirtual 76, 3) := by decide +kernel
theorem dX5_pack_5 : decode cX5_pack 5 = .ok (.istore_n 2, 1) := by decide +kernel
theorem dX5_pack_6 : decode cX5_pack 6 = .ok (.iload_n 2, 1) := by decide +kernel
theorem dX5_pack_7 : decode cX5_pack 7 = .ok (.ifCond .eq 5, 3) := by decide +kernel
theorem dX5_pack_10 : decode cX5_pack 10 = .ok (.iload_n 2, 1) := by decide +kernel
theorem dX5_pack_11 : decode cX5_pack 11 = .ok (.ireturn, 1) := by decide +kernel
theorem dX5_pack_12 : decode cX5_pack 12 = .ok (.aload_n 0, 1) := by decide +kernel
theorem dX5_pack_13 : decode cX5_pack 13 = .ok (.getfield 33, 3) := by decide +kernel
theorem dX5_pack_16 : decode cX5_pack 16 = .ok (.aload_n 0, 1) := by decide +kernel
theorem dX5_pack_17 : decode cX5_pack 17 = .ok (.getfield 21, 3) := by decide +kernel
theorem dX5_pack_20 : decode cX5_pack 20 = .ok (.iload_n 1, 1) := by decide +kernel
theorem dX5_pack_21 : decode cX5_pack 21 = .ok (.invokevirtual 80, 3) := by decide +kernel
theorem dX5_pack_24 : decode cX5_pack 24 = .ok (.pop, 1) := by decide +kernel
theorem dX5_pack_25 : decode cX5_pack 25 = .ok (.aload_n 0, 1) := by decide +kernel
theorem dX5_pack_26 : decode cX5_pack 26 = .ok (.getfield 25, 3) := by decide +kernel
theorem dX5_pack_29 : decode cX5_pack 29 = .ok (.aload_n 0, 1) := by decide +kernel
theorem dX5_pack_30 : decode cX5_pack 30 = .ok (.getfield 33, 3) := by decide +kernel
theorem dX5_pack_33 : decode cX5_pack 33 = .ok (.getfield 84, 3) := by decide +kernel
theorem dX5_pack_36 : decode cX5_pack 36 = .ok (.invokevirtual 87, 3) := by decide +kernel
theorem dX5_pack_39 : decode cX5_pack 39 = .ok (.aload_n 0, 1) := by decide +kernel
theorem dX5_pack_40 : decode cX5_pack 40 = .ok (.getfield 25, 3) := by decide +kernel
theorem dX5_pack_43 : decode cX5_pack 43 = .ok (.getfield 61, 3) := by decide +kernel
theorem dX5_pack_46 : decode cX5_pack 46 = .ok (.ireturn, 1) := by decide +kernel
theorem dX5_size_0 : decode cX5_size 0 = .ok (.aload_n 0, 1) := by decide +kernel
theorem dX5_size_1 : decode cX5_size 1 = .ok (.iload_n 1, 1) := by decide +kernel
theorem dX5_size_2 : decode cX5_size 2 = .ok (.invokevirtual 76, 3) := by decide +kernel
theorem dX5_size_5 : decode cX5_size 5 = .ok (.istore_n 2, 1) := by decide +kernel
theorem dX5_size_6 : decode cX5_size 6 = .ok (.iload_n 2, 1) := by decide +kernel
theorem dX5_size_7 : decode cX5_size 7 = .ok (.ifCond .eq 7, 3) := by decide +kernel
theorem dX5_size_10 : decode cX5_size 10 = .ok (.iload_n 2, 1) := by decide +kernel
theorem dX5_size_11 : decode cX5_size 11 = .ok (.goto 15, 3) := by decide +kernel
theorem dX5_size_14 : decode cX5_size 14 = .ok (.aload_n 0, 1) := by decide +kernel
theorem dX5_size_15 : decode cX5_size 15 = .ok (.getfield 33, 3) := by decide +kernel
theorem dX5_size_18 : decode cX5_size 18 = .ok (.aload_n 0, 1) := by decide +kernel
theorem dX5_size_19 : decode cX5_size 19 = .ok (.getfield 21, 3) := by decide +kernel
theorem dX5_size_22 : decode cX5_size 22 = .ok (.iload_n 1, 1) := by decide +kernel
theorem dX5_size_23 : decode cX5_size 23 = .ok (.invokevirtual 80, 3) := by decide +kernel
theorem dX5_size_26 : decode cX5_size 26 = .ok (.ireturn, 1) := by decide +kernel
theorem dX5_open_0 : decode cX5_open 0 = .ok (.aload_n 0, 1) := by decide +kernel
theorem dX5_open_1 : decode cX5_open 1 = .ok (.getfield 42, 3) := by decide +kernel
theorem dX5_open_4 : decode cX5_open 4 = .ok (.invokevirtual 91, 3) := by decide +kernel
theorem dX5_open_7 : decode cX5_open 7 = .ok (.aload_n 0, 1) := by decide +kernel
theorem dX5_open_8 : decode cX5_open 8 = .ok (.getfield 42, 3) := by decide +kernel
theorem dX5_open_11 : decode cX5_open 11 = .ok (.getfield 94, 3) := by decide +kernel
theorem dX5_open_14 : decode cX5_open 14 = .ok (.ifCond .eq 14, 3) := by decide +kernel
theorem dX5_open_17 : decode cX5_open 17 = .ok (.bipush (-10), 2) := by decide +kernel
theorem dX5_open_19 : decode cX5_open 19 = .ok (.aload_n 0, 1) := by decide +kernel
theorem dX5_open_20 : decode cX5_open 20 = .ok (.getfield 42, 3) := by decide +kernel
theorem dX5_open_23 : decode cX5_open 23 = .ok (.getfield 97, 3) := by decide +kernel
theorem dX5_open_26 : decode cX5_open 26 = .ok (.isub, 1) := by decide +kernel
theorem dX5_open_27 : decode cX5_open 27 = .ok (.ireturn, 1) := by decide +kernel
theorem dX5_open_28 : decode cX5_open 28 = .ok (.aload_n 0, 1) := by decide +kernel
theorem dX5_open_29 : decode cX5_open 29 = .ok (.getfield 21, 3) := by decide +kernel
theorem dX5_open_32 : decode cX5_open 32 = .ok (.aload_n 0, 1) := by decide +kernel
theorem dX5_open_33 : decode cX5_open 33 = .ok (.getfield 42, 3) := by decide +kernel
theorem dX5_open_36 : decode cX5_open 36 = .ok (.getfield 100, 3) := by decide +kernel
theorem dX5_open_39 : decode cX5_open 39 = .ok (.invokevirtual 87, 3) := by decide +kernel
theorem dX5_open_42 : decode cX5_open 42 = .ok (.aload_n 0, 1) := by decide +kernel
theorem dX5_open_43 : decode cX5_open 43 = .ok (.getfield 21, 3) := by decide +kernel
theorem dX5_open_46 : decode cX5_open 46 = .ok (.getfield 61, 3) := by decide +kernel
theorem dX5_open_49 : decode cX5_open 49 = .ok (.ireturn, 1) := by decide +kernel
theorem dX5_fault_0 : decode cX5_fault 0 = .ok (.aload_n 0, 1) := by decide +kernel
theorem dX5_fault_1 : decode cX5_fault 1 = .ok (.getfield 42, 3) := by decide +kernel
theorem dX5_fault_4 : decode cX5_fault 4 = .ok (.getfield 94, 3) := by decide +kernel
theorem dX5_fault_7 : decode cX5_fault 7 = .ok (.ireturn, 1) := by decide +kernel
theorem dX5_plain_0 : decode cX5_plain 0 = .ok (.iload_n 1, 1) := by decide +kernel
theorem dX5_plain_1 : decode cX5_plain 1 = .ok (.sipush 400, 3) := by decide +kernel
theorem dX5_plain_4 : decode cX5_plain 4 = .ok (.if_icmp .le 5, 3) := by decide +kernel
theorem dX5_plain_7 : decode cX5_plain 7 = .ok (.iconst (-1), 1) := by decide +kernel
theorem dX5_plain_8 : decode cX5_plain 8 = .ok (.ireturn, 1) := by decide +kernel
theorem dX5_plain_9 : decode cX5_plain 9 = .ok (.aload_n 0, 1) := by decide +kernel
theorem dX5_plain_10 : decode cX5_plain 10 = .ok (.getfield 49, 3) := by decide +kernel
theorem dX5_plain_13 : decode cX5_plain 13 = .ok (.iload_n 1, 1) := by decide +kernel
theorem dX5_plain_14 : decode cX5_plain 14 = .ok (.invokevirtual 103, 3) := by decide +kernel
theorem dX5_plain_17 : decode cX5_plain 17 = .ok (.ireturn, 1) := by decide +kernel
theorem dX5_out_0 : decode cX5_out 0 = .ok (.iload_n 1, 1) := by decide +kernel
theorem dX5_out_1 : decode cX5_out 1 = .ok (.ifCond .lt 14, 3) := by decide +kernel
theorem dX5_out_4 : decode cX5_out 4 = .ok (.iload_n 1, 1) := by decide +kernel
theorem dX5_out_5 : decode cX5_out 5 = .ok (.aload_n 0, 1) := by decide +kernel
theorem dX5_out_6 : decode cX5_out 6 = .ok (.getfield 49, 3) := by decide +kernel
theorem dX5_out_9 : decode cX5_out 9 = .ok (.getfield 106, 3) := by decide +kernel
theorem dX5_out_12 : decode cX5_out 12 = .ok (.if_icmp .lt 13, 3) := by decide +kernel
theorem dX5_out_15 : decode cX5_out 15 = .ok (.new 107, 3) := by decide +kernel
theorem dX5_out_18 : decode cX5_out 18 = .ok (.dup, 1) := by decide +kernel
theorem dX5_out_19 : decode cX5_out 19 = .ok (.ldc 109, 2) := by decide +kernel
theorem dX5_out_21 : decode cX5_out 21 = .ok (.invokespecial 111, 3) := by decide +kernel
theorem dX5_out_24 : decode cX5_out 24 = .ok (.athrow, 1) := by decide +kernel
theorem dX5_out_25 : decode cX5_out 25 = .ok (.aload_n 0, 1) := by decide +kernel
theorem dX5_out_26 : decode cX5_out 26 = .ok (.getfield 49, 3) := by decide +kernel
theorem dX5_out_29 : decode cX5_out 29 = .ok (.getfield 114, 3) := by decide +kernel
theorem dX5_out_32 : decode cX5_out 32 = .ok (.iload_n 1, 1) := by decide +kernel
theorem dX5_out_33 : decode cX5_out 33 = .ok (.baload, 1) := by decide +kernel
theorem dX5_out_34 : decode cX5_out 34 = .ok (.ireturn, 1) := by decide +kernel
theorem dX5_at_0 : decode cX5_at 0 = .ok (.aload_n 0, 1) := by decide +kernel
theorem dX5_at_1 : decode cX5_at 1 = .ok (.iload_n 1, 1) := by decide +kernel
theorem dX5_at_2 : decode cX5_at 2 = .ok (.invokevirtual 57, 3) := by decide +kernel
theorem dX5_at_5 : decode cX5_at 5 = .ok (.astore_n 3, 1) := by decide +kernel
theorem dX5_at_6 : decode cX5_at 6 = .ok (.aload_n 3, 1) := by decide +kernel
theorem dX5_at_7 : decode cX5_at 7 = .ok (.ifnonnull 7, 3) := by decide +kernel
theorem dX5_at_10 : decode cX5_at 10 = .ok (.iconst (-1), 1) := by decide +kernel
theorem dX5_at_11 : decode cX5_at 11 = .ok (.goto 8, 3) := by decide +kernel
theorem dX5_at_14 : decode cX5_at 14 = .ok (.aload_n 3, 1) := by decide +kernel
theorem dX5_at_15 : decode cX5_at 15 = .ok (.iload_n 2, 1) := by decide +kernel
theorem dX5_at_16 : decode cX5_at 16 = .ok (.invokevirtual 118, 3) := by decide +kernel
theorem dX5_at_19 : decode cX5_at 19 = .ok (.ireturn, 1) := by decide +kernel
theorem dX5_unit_0 : decode cX5_unit 0 = .ok (.iload_n 1, 1) := by decide +kernel
theorem dX5_unit_1 : decode cX5_unit 1 = .ok (.ifCond .lt 21, 3) := by decide +kernel
theorem dX5_unit_4 : decode cX5_unit 4 = .ok (.iload_n 1, 1) := by decide +kernel
theorem dX5_unit_5 : decode cX5_unit 5 = .ok (.aload_n 0, 1) := by decide +kernel
theorem dX5_unit_6 : decode cX5_unit 6 = .ok (.getfield 14, 3) := by decide +kernel
theorem dX5_unit_9 : decode cX5_unit 9 = .ok (.aload_n 0, 1) := by decide +kernel
theorem dX5_unit_10 : decode cX5_unit 10 = .ok (.getfield 21, 3) := by decide +kernel
theorem dX5_unit_13 : decode cX5_unit 13 = .ok (.getfield 61, 3) := by decide +kernel
theorem dX5_unit_16 : decode cX5_unit 16 = .ok (.invokevirtual 121, 3) := by decide +kernel
theorem dX5_unit_19 : decode cX5_unit 19 = .ok (.if_icmp .lt 7, 3) := by decide +kernel
theorem dX5_unit_22 : decode cX5_unit 22 = .ok (.ldc2_w 124, 3) := by decide +kernel
theorem dX5_unit_25 : decode cX5_unit 25 = .ok (.lreturn, 1) := by decide +kernel
theorem dX5_unit_26 : decode cX5_unit 26 = .ok (.aload_n 0, 1) := by decide +kernel
theorem dX5_unit_27 : decode cX5_unit 27 = .ok (.getfield 14, 3) := by decide +kernel
theorem dX5_unit_30 : decode cX5_unit 30 = .ok (.aload_n 0, 1) := by decide +kernel
theorem dX5_unit_31 : decode cX5_unit 31 = .ok (.getfield 21, 3) := by decide +kernel
theorem dX5_unit_34 : decode cX5_unit 34 = .ok (.iload_n 1, 1) := by decide +kernel
theorem dX5_unit_35 : decode cX5_unit 35 = .ok (.invokevirtual 126, 3) := by decide +kernel
theorem dX5_unit_38 : decode cX5_unit 38 = .ok (.i2l, 1) := by decide +kernel
theorem dX5_unit_39 : decode cX5_unit 39 = .ok (.ldc2_w 129, 3) := by decide +kernel
theorem dX5_unit_42 : decode cX5_unit 42 = .ok (.land, 1) := by decide +kernel
theorem dX5_unit_43 : decode cX5_unit 43 = .ok (.lreturn, 1) := by decide +kernel
theorem dX5_bound_0 : decode cX5_bound 0 = .ok (.iload_n 1, 1) := by decide +kernel
theorem dX5_bound_1 : decode cX5_bound 1 = .ok (.ifCond .lt 21, 3) := by decide +kernel
theorem dX5_bound_4 : decode cX5_bound 4 = .ok (.iload_n 1, 1) := by decide +kernel
theorem dX5_bound_5 : decode cX5_bound 5 = .ok (.sipush 240, 3) := by decide +kernel
theorem dX5_bound_8 : decode cX5_bound 8 = .ok (.if_icmp .gt 14, 3) := by decide +kernel
theorem dX5_bound_11 : decode cX5_bound 11 = .ok (.aload_n 0, 1) := by decide +kernel
theorem dX5_bound_12 : decode cX5_bound 12 = .ok (.getfield 14, 3) := by decide +kernel
theorem dX5_bound_15 : decode cX5_bound 15 = .ok (.iload_n 1, 1) := by decide +kernel
theorem dX5_bound_16 : decode cX5_bound 16 = .ok (.invokevirtual 131, 3) := by decide +kernel
theorem dX5_bound_19 : decode cX5_bound 19 = .ok (.ifCond .ne 5, 3) := by decide +kernel
theorem dX5_bound_22 : decode cX5_bound 22 = .ok (.iconst (-1), 1) := by decide +kernel
theorem dX5_bound_23 : decode cX5_bound 23 = .ok (.ireturn, 1) := by decide +kernel
theorem dX5_bound_24 : decode cX5_bound 24 = .ok (.aload_n 0, 1) := by decide +kernel
theorem dX5_bound_25 : decode cX5_bound 25 = .ok (.getfield 14, 3) := by decide +kernel
theorem dX5_bound_28 : decode cX5_bound 28 = .ok (.iload_n 1, 1) := by decide +kernel
theorem dX5_bound_29 : decode cX5_bound 29 = .ok (.invokevirtual 121, 3) := by decide +kernel
theorem dX5_bound_32 : decode cX5_bound 32 = .ok (.istore_n 2, 1) := by decide +kernel
theorem dX5_bound_33 : decode cX5_bound 33 = .ok (.aload_n 0, 1) := by decide +kernel
theorem dX5_bound_34 : decode cX5_bound 34 = .ok (.getfield 14, 3) := by decide +kernel
theorem dX5_bound_37 : decode cX5_bound 37 = .ok (.getfield 69, 3) := by decide +kernel
theorem dX5_bound_40 : decode cX5_bound 40 = .ok (.lookupswitch 50 #[(0, 28), (1, 36)], 28) := by decide +kernel
theorem dX5_bound_68 : decode cX5_bound 68 = .ok (.iload_n 1, 1) := by decide +kernel
theorem dX5_bound_69 : decode cX5_bound 69 = .ok (.iconst 2, 1) := by decide +kernel
theorem dX5_bound_70 : decode cX5_bound 70 = .ok (.iadd, 1) := by decide +kernel
theorem dX5_bound_71 : decode cX5_bound 71 = .ok (.iconst 2, 1) := by decide +kernel
theorem dX5_bound_72 : decode cX5_bound 72 = .ok (.iload_n 2, 1) := by decide +kernel
theorem dX5_bound_73 : decode cX5_bound 73 = .ok (.imul, 1) := by decide +kernel
theorem dX5_bound_74 : decode cX5_bound 74 = .ok (.iadd, 1) := by decide +kernel
theorem dX5_bound_75 : decode cX5_bound 75 = .ok (.ireturn, 1) := by decide +kernel
theorem dX5_bound_76 : decode cX5_bound 76 = .ok (.iload_n 1, 1) := by decide +kernel
theorem dX5_bound_77 : decode cX5_bound 77 = .ok (.iload_n 2, 1) := by decide +kernel
theorem dX5_bound_78 : decode cX5_bound 78 = .ok (.sipush 128, 3) := by decide +kernel
theorem dX5_bound_81 : decode cX5_bound 81 = .ok (.iadd, 1) := by decide +kernel
theorem dX5_bound_82 : decode cX5_bound 82 = .ok (.iconst 1, 1) := by decide +kernel
theorem dX5_bound_83 : decode cX5_bound 83 = .ok (.isub, 1) := by decide +kernel
theorem dX5_bound_84 : decode cX5_bound 84 = .ok (.sipush 128, 3) := by decide +kernel
theorem dX5_bound_87 : decode cX5_bound 87 = .ok (.idiv, 1) := by decide +kernel
theorem dX5_bound_88 : decode cX5_bound 88 = .ok (.iadd, 1) := by decide +kernel
theorem dX5_bound_89 : decode cX5_bound 89 = .ok (.ireturn, 1) := by decide +kernel
theorem dX5_bound_90 : decode cX5_bound 90 = .ok (.iconst 2, 1) := by decide +kernel
theorem dX5_bound_91 : decode cX5_bound 91 = .ok (.aload_n 0, 1) := by decide +kernel
theorem dX5_bound_92 : decode cX5_bound 92 = .ok (.getfield 14, 3) := by decide +kernel
theorem dX5_bound_95 : decode cX5_bound 95 = .ok (.iload_n 1, 1) := by decide +kernel
theorem dX5_bound_96 : decode cX5_bound 96 = .ok (.invokevirtual 135, 3) := by decide +kernel
theorem dX5_bound_99 : decode cX5_bound 99 = .ok (.iconst 2, 1) := by decide +kernel
theorem dX5_bound_100 : decode cX5_bound 100 = .ok (.aload_n 0, 1) := by decide +kernel
theorem dX5_bound_101 : decode cX5_bound 101 = .ok (.invokevirtual 138, 3) := by decide +kernel
theorem dX5_bound_104 : decode cX5_bound 104 = .ok (.iadd, 1) := by decide +kernel
theorem dX5_bound_105 : decode cX5_bound 105 = .ok (.imul, 1) := by decide +kernel
theorem dX5_bound_106 : decode cX5_bound 106 = .ok (.iadd, 1) := by decide +kernel
theorem dX5_bound_107 : decode cX5_bound 107 = .ok (.ireturn, 1) := by decide +kernel
theorem dX5_told_0 : decode cX5_told 0 = .ok (.iload_n 1, 1) := by decide +kernel
theorem dX5_told_1 : decode cX5_told 1 = .ok (.tableswitch 75 0 4 #[35, 43, 51, 59, 67], 35) := by decide +kernel
theorem dX5_told_36 : decode cX5_told 36 = .ok (.aload_n 0, 1) := by decide +kernel
theorem dX5_told_37 : decode cX5_told 37 = .ok (.getfield 14, 3) := by decide +kernel
theorem dX5_told_40 : decode cX5_told 40 = .ok (.getfield 69, 3) := by decide +kernel
theorem dX5_told_43 : decode cX5_told 43 = .ok (.ireturn, 1) := by decide +kernel
theorem dX5_told_44 : decode cX5_told 44 = .ok (.aload_n 0, 1) := by decide +kernel
theorem dX5_told_45 : decode cX5_told 45 = .ok (.getfield 21, 3) := by decide +kernel
theorem dX5_told_48 : decode cX5_told 48 = .ok (.getfield 61, 3) := by decide +kernel
theorem dX5_told_51 : decode cX5_told 51 = .ok (.ireturn, 1) := by decide +kernel
theorem dX5_told_52 : decode cX5_told 52 = .ok (.aload_n 0, 1) := by decide +kernel
theorem dX5_told_53 : decode cX5_told 53 = .ok (.getfield 25, 3) := by decide +kernel
theorem dX5_told_56 : decode cX5_told 56 = .ok (.getfield 61, 3) := by decide +kernel
theorem dX5_told_59 : decode cX5_told 59 = .ok (.ireturn, 1) := by decide +kernel
theorem dX5_told_60 : decode cX5_told 60 = .ok (.aload_n 0, 1) := by decide +kernel
theorem dX5_told_61 : decode cX5_told 61 = .ok (.getfield 49, 3) := by decide +kernel
theorem dX5_told_64 : decode cX5_told 64 = .ok (.getfield 106, 3) := by decide +kernel
theorem dX5_told_67 : decode cX5_told 67 = .ok (.ireturn, 1) := by decide +kernel
theorem dX5_told_68 : decode cX5_told 68 = .ok (.aload_n 0, 1) := by decide +kernel
theorem dX5_told_69 : decode cX5_told 69 = .ok (.getfield 49, 3) := by decide +kernel
theorem dX5_told_72 : decode cX5_told 72 = .ok (.getfield 142, 3) := by decide +kernel
theorem dX5_told_75 : decode cX5_told 75 = .ok (.ireturn, 1) := by decide +kernel
theorem dX5_told_76 : decode cX5_told 76 = .ok (.iconst (-1), 1) := by decide +kernel
theorem dX5_told_77 : decode cX5_told 77 = .ok (.ireturn, 1) := by decide +kernel
theorem dX5_append_0 : decode cX5_append 0 = .ok (.iload_n 3, 1) := by decide +kernel
theorem dX5_append_1 : decode cX5_append 1 = .ok (.ifCond .lt 10, 3) := by decide +kernel
theorem dX5_append_4 : decode cX5_append 4 = .ok (.iload_n 3, 1) := by decide +kernel
theorem dX5_append_5 : decode cX5_append 5 = .ok (.sipush 255, 3) := by decide +kernel
theorem dX5_append_8 : decode cX5_append 8 = .ok (.if_icmp .le 5, 3) := by decide +kernel
theorem dX5_append_11 : decode cX5_append 11 = .ok (.iconst (-1), 1) := by decide +kernel
theorem dX5_append_12 : decode cX5_append 12 = .ok (.ireturn, 1) := by decide +kernel
theorem dX5_append_13 : decode cX5_append 13 = .ok (.aload_n 1, 1) := by decide +kernel
theorem dX5_append_14 : decode cX5_append 14 = .ok (.iload_n 2, 1) := by decide +kernel
theorem dX5_append_15 : decode cX5_append 15 = .ok (.invokevirtual 145, 3) := by decide +kernel
theorem dX5_append_18 : decode cX5_append 18 = .ok (.ifCond .ne 6, 3) := by decide +kernel
theorem dX5_append_21 : decode cX5_append 21 = .ok (.bipush (-2), 2) := by decide +kernel
theorem dX5_append_23 : decode cX5_append 23 = .ok (.ireturn, 1) := by decide +kernel
theorem dX5_append_24 : decode cX5_append 24 = .ok (.iconst 0, 1) := by decide +kernel
theorem dX5_append_25 : decode cX5_append 25 = .ok (.istore 4, 2) := by decide +kernel
theorem dX5_append_27 : decode cX5_append 27 = .ok (.iload 4, 2) := by decide +kernel
theorem dX5_append_29 : decode cX5_append 29 = .ok (.iload_n 2, 1) := by decide +kernel
theorem dX5_append_30 : decode cX5_append 30 = .ok (.if_icmp .ge 14, 3) := by decide +kernel
theorem dX5_append_33 : decode cX5_append 33 = .ok (.aload_n 1, 1) := by decide +kernel
theorem dX5_append_34 : decode cX5_append 34 = .ok (.iload_n 3, 1) := by decide +kernel
theorem dX5_append_35 : decode cX5_append 35 = .ok (.invokevirtual 148, 3) := by decide +kernel
theorem dX5_append_38 : decode cX5_append 38 = .ok (.iinc 4 1, 3) := by decide +kernel
theorem dX5_append_41 : decode cX5_append 41 = .ok (.goto (-14), 3) := by decide +kernel
theorem dX5_append_44 : decode cX5_append 44 = .ok (.aload_n 1, 1) := by decide +kernel
theorem dX5_append_45 : decode cX5_append 45 = .ok (.getfield 61, 3) := by decide +kernel
theorem dX5_append_48 : decode cX5_append 48 = .ok (.ireturn, 1) := by decide +kernel
theorem dX5_packRefusal_0 : decode cX5_packRefusal 0 = .ok (.iload_n 1, 1) := by decide +kernel
theorem dX5_packRefusal_1 : decode cX5_packRefusal 1 = .ok (.ifCond .eq 10, 3) := by decide +kernel
theorem dX5_packRefusal_4 : decode cX5_packRefusal 4 = .ok (.iload_n 1, 1) := by decide +kernel
theorem dX5_packRefusal_5 : decode cX5_packRefusal 5 = .ok (.iconst 1, 1) := by decide +kernel
theorem dX5_packRefusal_6 : decode cX5_packRefusal 6 = .ok (.if_icmp .eq 5, 3) := by decide +kernel
theorem dX5_packRefusal_9 : decode cX5_packRefusal 9 = .ok (.iconst (-1), 1) := by decide +kernel
theorem dX5_packRefusal_10 : decode cX5_packRefusal 10 = .ok (.ireturn, 1) := by decide +kernel
theorem dX5_packRefusal_11 : decode cX5_packRefusal 11 = .ok (.aload_n 0, 1) := by decide +kernel
theorem dX5_packRefusal_12 : decode cX5_packRefusal 12 = .ok (.getfield 14, 3) := by decide +kernel
theorem dX5_packRefusal_15 : decode cX5_packRefusal 15 = .ok (.aload_n 0, 1) := by decide +kernel
theorem dX5_packRefusal_16 : decode cX5_packRefusal 16 = .ok (.getfield 21, 3) := by decide +kernel
theorem dX5_packRefusal_19 : decode cX5_packRefusal 19 = .ok (.getfield 61, 3) := by decide +kernel
theorem dX5_packRefusal_22 : decode cX5_packRefusal 22 = .ok (.invokevirtual 131, 3) := by decide +kernel
theorem dX5_packRefusal_25 : decode cX5_packRefusal 25 = .ok (.ifCond .eq 7, 3) := by decide +kernel
theorem dX5_packRefusal_28 : decode cX5_packRefusal 28 = .ok (.iconst 0, 1) := by decide +kernel
theorem dX5_packRefusal_29 : decode cX5_packRefusal 29 = .ok (.goto 5, 3) := by decide +kernel
theorem dX5_packRefusal_32 : decode cX5_packRefusal 32 = .ok (.bipush (-3), 2) := by decide +kernel
theorem dX5_packRefusal_34 : decode cX5_packRefusal 34 = .ok (.ireturn, 1) := by decide +kernel
theorem dX5_rowOf_0 : decode cX5_rowOf 0 = .ok (.iload_n 1, 1) := by decide +kernel
theorem dX5_rowOf_1 : decode cX5_rowOf 1 = .ok (.ifCond .ne 10, 3) := by decide +kernel
theorem dX5_rowOf_4 : decode cX5_rowOf 4 = .ok (.aload_n 0, 1) := by decide +kernel
theorem dX5_rowOf_5 : decode cX5_rowOf 5 = .ok (.getfield 21, 3) := by decide +kernel
theorem dX5_rowOf_8 : decode cX5_rowOf 8 = .ok (.goto 16, 3) := by decide +kernel
theorem dX5_rowOf_11 : decode cX5_rowOf 11 = .ok (.iload_n 1, 1) := by decide +kernel
theorem dX5_rowOf_12 : decode cX5_rowOf 12 = .ok (.iconst 1, 1) := by decide +kernel
theorem dX5_rowOf_13 : decode cX5_rowOf 13 = .ok (.if_icmp .ne 10, 3) := by decide +kernel
theorem dX5_rowOf_16 : decode cX5_rowOf 16 = .ok (.aload_n 0, 1) := by decide +kernel
theorem dX5_rowOf_17 : decode cX5_rowOf 17 = .ok (.getfield 25, 3) := by decide +kernel
theorem dX5_rowOf_20 : decode cX5_rowOf 20 = .ok (.goto 4, 3) := by decide +kernel
theorem dX5_rowOf_23 : decode cX5_rowOf 23 = .ok (.aconst_null, 1) := by decide +kernel
theorem dX5_rowOf_24 : decode cX5_rowOf 24 = .ok (.areturn, 1) := by decide +kernel
theorem dX5_rowBound_0 : decode cX5_rowBound 0 = .ok (.aload_n 0, 1) := by decide +kernel
theorem dX5_rowBound_1 : decode cX5_rowBound 1 = .ok (.getfield 14, 3) := by decide +kernel
theorem dX5_rowBound_4 : decode cX5_rowBound 4 = .ok (.getfield 151, 3) := by decide +kernel
theorem dX5_rowBound_7 : decode cX5_rowBound 7 = .ok (.istore_n 1, 1) := by decide +kernel
theorem dX5_rowBound_8 : decode cX5_rowBound 8 = .ok (.iconst 2, 1) := by decide +kernel
theorem dX5_rowBound_9 : decode cX5_rowBound 9 = .ok (.iload_n 1, 1) := by decide +kernel
theorem dX5_rowBound_10 : decode cX5_rowBound 10 = .ok (.imul, 1) := by decide +kernel
theorem dX5_rowBound_11 : decode cX5_rowBound 11 = .ok (.istore_n 2, 1) := by decide +kernel
theorem dX5_rowBound_12 : decode cX5_rowBound 12 = .ok (.iload_n 1, 1) := by decide +kernel
theorem dX5_rowBound_13 : decode cX5_rowBound 13 = .ok (.iconst 2, 1) := by decide +kernel
theorem dX5_rowBound_14 : decode cX5_rowBound 14 = .ok (.if_icmp .le 17, 3) := by decide +kernel
theorem dX5_rowBound_17 : decode cX5_rowBound 17 = .ok (.iload_n 2, 1) := by decide +kernel
theorem dX5_rowBound_18 : decode cX5_rowBound 18 = .ok (.iload_n 1, 1) := by decide +kernel
theorem dX5_rowBound_19 : decode cX5_rowBound 19 = .ok (.iconst 2, 1) := by decide +kernel
theorem dX5_rowBound_20 : decode cX5_rowBound 20 = .ok (.iadd, 1) := by decide +kernel
theorem dX5_rowBound_21 : decode cX5_rowBound 21 = .ok (.iload_n 1, 1) := by decide +kernel
theorem dX5_rowBound_22 : decode cX5_rowBound 22 = .ok (.iconst 1, 1) := by decide +kernel
theorem dX5_rowBound_23 : decode cX5_rowBound 23 = .ok (.iand, 1) := by decide +kernel
theorem dX5_rowBound_24 : decode cX5_rowBound 24 = .ok (.iadd, 1) := by decide +kernel
theorem dX5_rowBound_25 : decode cX5_rowBound 25 = .ok (.invokestatic 154, 3) := by decide +kernel
theorem dX5_rowBound_28 : decode cX5_rowBound 28 = .ok (.goto 4, 3) := by decide +kernel
theorem dX5_rowBound_31 : decode cX5_rowBound 31 = .ok (.iload_n 2, 1) := by decide +kernel
theorem dX5_rowBound_32 : decode cX5_rowBound 32 = .ok (.ireturn, 1) := by decide +kernel
