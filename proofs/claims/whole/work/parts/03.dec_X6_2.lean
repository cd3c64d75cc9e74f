theorem dX6_openRows_166 : decode cX6_openRows 166 = .ok (.goto 20, 3) := by decide +kernel
theorem dX6_openRows_169 : decode cX6_openRows 169 = .ok (.iload_n 2, 1) := by decide +kernel
theorem dX6_openRows_170 : decode cX6_openRows 170 = .ok (.iconst 2, 1) := by decide +kernel
theorem dX6_openRows_171 : decode cX6_openRows 171 = .ok (.if_icmp .ne 10, 3) := by decide +kernel
theorem dX6_openRows_174 : decode cX6_openRows 174 = .ok (.aload_n 0, 1) := by decide +kernel
theorem dX6_openRows_175 : decode cX6_openRows 175 = .ok (.invokevirtual 197, 3) := by decide +kernel
theorem dX6_openRows_178 : decode cX6_openRows 178 = .ok (.goto 8, 3) := by decide +kernel
theorem dX6_openRows_181 : decode cX6_openRows 181 = .ok (.aload_n 0, 1) := by decide +kernel
theorem dX6_openRows_182 : decode cX6_openRows 182 = .ok (.iload_n 2, 1) := by decide +kernel
theorem dX6_openRows_183 : decode cX6_openRows 183 = .ok (.invokevirtual 200, 3) := by decide +kernel
theorem dX6_openRows_186 : decode cX6_openRows 186 = .ok (.ireturn, 1) := by decide +kernel
theorem dX6_endAll_0 : decode cX6_endAll 0 = .ok (.aload_n 0, 1) := by decide +kernel
theorem dX6_endAll_1 : decode cX6_endAll 1 = .ok (.dup, 1) := by decide +kernel
theorem dX6_endAll_2 : decode cX6_endAll 2 = .ok (.getfield 155, 3) := by decide +kernel
theorem dX6_endAll_5 : decode cX6_endAll 5 = .ok (.iconst 2, 1) := by decide +kernel
theorem dX6_endAll_6 : decode cX6_endAll 6 = .ok (.iadd, 1) := by decide +kernel
theorem dX6_endAll_7 : decode cX6_endAll 7 = .ok (.putfield 155, 3) := by decide +kernel
theorem dX6_endAll_10 : decode cX6_endAll 10 = .ok (.aload_n 0, 1) := by decide +kernel
theorem dX6_endAll_11 : decode cX6_endAll 11 = .ok (.iconst 1, 1) := by decide +kernel
theorem dX6_endAll_12 : decode cX6_endAll 12 = .ok (.putfield 164, 3) := by decide +kernel
theorem dX6_endAll_15 : decode cX6_endAll 15 = .ok (.iconst 0, 1) := by decide +kernel
theorem dX6_endAll_16 : decode cX6_endAll 16 = .ok (.ireturn, 1) := by decide +kernel
theorem dX6_endRow_0 : decode cX6_endRow 0 = .ok (.aload_n 0, 1) := by decide +kernel
theorem dX6_endRow_1 : decode cX6_endRow 1 = .ok (.iconst 0, 1) := by decide +kernel
theorem dX6_endRow_2 : decode cX6_endRow 2 = .ok (.invokevirtual 185, 3) := by decide +kernel
theorem dX6_endRow_5 : decode cX6_endRow 5 = .ok (.istore_n 1, 1) := by decide +kernel
theorem dX6_endRow_6 : decode cX6_endRow 6 = .ok (.iload_n 1, 1) := by decide +kernel
theorem dX6_endRow_7 : decode cX6_endRow 7 = .ok (.ifCond .ge 5, 3) := by decide +kernel
theorem dX6_endRow_10 : decode cX6_endRow 10 = .ok (.iload_n 1, 1) := by decide +kernel
theorem dX6_endRow_11 : decode cX6_endRow 11 = .ok (.ireturn, 1) := by decide +kernel
theorem dX6_endRow_12 : decode cX6_endRow 12 = .ok (.aload_n 0, 1) := by decide +kernel
theorem dX6_endRow_13 : decode cX6_endRow 13 = .ok (.invokevirtual 188, 3) := by decide +kernel
theorem dX6_endRow_16 : decode cX6_endRow 16 = .ok (.aload_n 0, 1) := by decide +kernel
theorem dX6_endRow_17 : decode cX6_endRow 17 = .ok (.dup, 1) := by decide +kernel
theorem dX6_endRow_18 : decode cX6_endRow 18 = .ok (.getfield 161, 3) := by decide +kernel
theorem dX6_endRow_21 : decode cX6_endRow 21 = .ok (.iconst 1, 1) := by decide +kernel
theorem dX6_endRow_22 : decode cX6_endRow 22 = .ok (.iadd, 1) := by decide +kernel
theorem dX6_endRow_23 : decode cX6_endRow 23 = .ok (.putfield 161, 3) := by decide +kernel
theorem dX6_endRow_26 : decode cX6_endRow 26 = .ok (.aload_n 0, 1) := by decide +kernel
theorem dX6_endRow_27 : decode cX6_endRow 27 = .ok (.iconst 0, 1) := by decide +kernel
theorem dX6_endRow_28 : decode cX6_endRow 28 = .ok (.putfield 158, 3) := by decide +kernel
theorem dX6_endRow_31 : decode cX6_endRow 31 = .ok (.aload_n 0, 1) := by decide +kernel
theorem dX6_endRow_32 : decode cX6_endRow 32 = .ok (.dup, 1) := by decide +kernel
theorem dX6_endRow_33 : decode cX6_endRow 33 = .ok (.getfield 155, 3) := by decide +kernel
theorem dX6_endRow_36 : decode cX6_endRow 36 = .ok (.iconst 2, 1) := by decide +kernel
theorem dX6_endRow_37 : decode cX6_endRow 37 = .ok (.iadd, 1) := by decide +kernel
theorem dX6_endRow_38 : decode cX6_endRow 38 = .ok (.putfield 155, 3) := by decide +kernel
theorem dX6_endRow_41 : decode cX6_endRow 41 = .ok (.iconst 0, 1) := by decide +kernel
theorem dX6_endRow_42 : decode cX6_endRow 42 = .ok (.ireturn, 1) := by decide +kernel
theorem dX6_goOn_0 : decode cX6_goOn 0 = .ok (.aload_n 0, 1) := by decide +kernel
theorem dX6_goOn_1 : decode cX6_goOn 1 = .ok (.getfield 155, 3) := by decide +kernel
theorem dX6_goOn_4 : decode cX6_goOn 4 = .ok (.iconst 4, 1) := by decide +kernel
theorem dX6_goOn_5 : decode cX6_goOn 5 = .ok (.iadd, 1) := by decide +kernel
theorem dX6_goOn_6 : decode cX6_goOn 6 = .ok (.aload_n 0, 1) := by decide +kernel
theorem dX6_goOn_7 : decode cX6_goOn 7 = .ok (.getfield 52, 3) := by decide +kernel
theorem dX6_goOn_10 : decode cX6_goOn 10 = .ok (.if_icmp .le 13, 3) := by decide +kernel
theorem dX6_goOn_13 : decode cX6_goOn 13 = .ok (.aload_n 0, 1) := by decide +kernel
theorem dX6_goOn_14 : decode cX6_goOn 14 = .ok (.iconst 2, 1) := by decide +kernel
theorem dX6_goOn_15 : decode cX6_goOn 15 = .ok (.aload_n 0, 1) := by decide +kernel
theorem dX6_goOn_16 : decode cX6_goOn 16 = .ok (.getfield 155, 3) := by decide +kernel
theorem dX6_goOn_19 : decode cX6_goOn 19 = .ok (.invokevirtual 177, 3) := by decide +kernel
theorem dX6_goOn_22 : decode cX6_goOn 22 = .ok (.ireturn, 1) := by decide +kernel
theorem dX6_goOn_23 : decode cX6_goOn 23 = .ok (.aload_n 0, 1) := by decide +kernel
theorem dX6_goOn_24 : decode cX6_goOn 24 = .ok (.getfield 158, 3) := by decide +kernel
theorem dX6_goOn_27 : decode cX6_goOn 27 = .ok (.aload_n 0, 1) := by decide +kernel
theorem dX6_goOn_28 : decode cX6_goOn 28 = .ok (.getfield 20, 3) := by decide +kernel
theorem dX6_goOn_31 : decode cX6_goOn 31 = .ok (.aload_n 0, 1) := by decide +kernel
theorem dX6_goOn_32 : decode cX6_goOn 32 = .ok (.getfield 155, 3) := by decide +kernel
theorem dX6_goOn_35 : decode cX6_goOn 35 = .ok (.iconst 2, 1) := by decide +kernel
theorem dX6_goOn_36 : decode cX6_goOn 36 = .ok (.iadd, 1) := by decide +kernel
theorem dX6_goOn_37 : decode cX6_goOn 37 = .ok (.iaload, 1) := by decide +kernel
theorem dX6_goOn_38 : decode cX6_goOn 38 = .ok (.iadd, 1) := by decide +kernel
theorem dX6_goOn_39 : decode cX6_goOn 39 = .ok (.aload_n 0, 1) := by decide +kernel
theorem dX6_goOn_40 : decode cX6_goOn 40 = .ok (.getfield 13, 3) := by decide +kernel
theorem dX6_goOn_43 : decode cX6_goOn 43 = .ok (.if_icmp .le 13, 3) := by decide +kernel
theorem dX6_goOn_46 : decode cX6_goOn 46 = .ok (.aload_n 0, 1) := by decide +kernel
theorem dX6_goOn_47 : decode cX6_goOn 47 = .ok (.iconst 3, 1) := by decide +kernel
theorem dX6_goOn_48 : decode cX6_goOn 48 = .ok (.aload_n 0, 1) := by decide +kernel
theorem dX6_goOn_49 : decode cX6_goOn 49 = .ok (.getfield 155, 3) := by decide +kernel
theorem dX6_goOn_52 : decode cX6_goOn 52 = .ok (.invokevirtual 177, 3) := by decide +kernel
theorem dX6_goOn_55 : decode cX6_goOn 55 = .ok (.ireturn, 1) := by decide +kernel
theorem dX6_goOn_56 : decode cX6_goOn 56 = .ok (.aload_n 0, 1) := by decide +kernel
theorem dX6_goOn_57 : decode cX6_goOn 57 = .ok (.dup, 1) := by decide +kernel
theorem dX6_goOn_58 : decode cX6_goOn 58 = .ok (.getfield 158, 3) := by decide +kernel
theorem dX6_goOn_61 : decode cX6_goOn 61 = .ok (.aload_n 0, 1) := by decide +kernel
theorem dX6_goOn_62 : decode cX6_goOn 62 = .ok (.getfield 20, 3) := by decide +kernel
theorem dX6_goOn_65 : decode cX6_goOn 65 = .ok (.aload_n 0, 1) := by decide +kernel
theorem dX6_goOn_66 : decode cX6_goOn 66 = .ok (.getfield 155, 3) := by decide +kernel
theorem dX6_goOn_69 : decode cX6_goOn 69 = .ok (.iconst 2, 1) := by decide +kernel
theorem dX6_goOn_70 : decode cX6_goOn 70 = .ok (.iadd, 1) := by decide +kernel
theorem dX6_goOn_71 : decode cX6_goOn 71 = .ok (.iaload, 1) := by decide +kernel
theorem dX6_goOn_72 : decode cX6_goOn 72 = .ok (.iadd, 1) := by decide +kernel
theorem dX6_goOn_73 : decode cX6_goOn 73 = .ok (.putfield 158, 3) := by decide +kernel
theorem dX6_goOn_76 : decode cX6_goOn 76 = .ok (.aload_n 0, 1) := by decide +kernel
theorem dX6_goOn_77 : decode cX6_goOn 77 = .ok (.dup, 1) := by decide +kernel
theorem dX6_goOn_78 : decode cX6_goOn 78 = .ok (.getfield 161, 3) := by decide +kernel
theorem dX6_goOn_81 : decode cX6_goOn 81 = .ok (.aload_n 0, 1) := by decide +kernel
theorem dX6_goOn_82 : decode cX6_goOn 82 = .ok (.getfield 20, 3) := by decide +kernel
theorem dX6_goOn_85 : decode cX6_goOn 85 = .ok (.aload_n 0, 1) := by decide +kernel
theorem dX6_goOn_86 : decode cX6_goOn 86 = .ok (.getfield 155, 3) := by decide +kernel
theorem dX6_goOn_89 : decode cX6_goOn 89 = .ok (.iconst 3, 1) := by decide +kernel
theorem dX6_goOn_90 : decode cX6_goOn 90 = .ok (.iadd, 1) := by decide +kernel
theorem dX6_goOn_91 : decode cX6_goOn 91 = .ok (.iaload, 1) := by decide +kernel
theorem dX6_goOn_92 : decode cX6_goOn 92 = .ok (.iadd, 1) := by decide +kernel
theorem dX6_goOn_93 : decode cX6_goOn 93 = .ok (.putfield 161, 3) := by decide +kernel
theorem dX6_goOn_96 : decode cX6_goOn 96 = .ok (.aload_n 0, 1) := by decide +kernel
theorem dX6_goOn_97 : decode cX6_goOn 97 = .ok (.dup, 1) := by decide +kernel
theorem dX6_goOn_98 : decode cX6_goOn 98 = .ok (.getfield 155, 3) := by decide +kernel
theorem dX6_goOn_101 : decode cX6_goOn 101 = .ok (.iconst 4, 1) := by decide +kernel
theorem dX6_goOn_102 : decode cX6_goOn 102 = .ok (.iadd, 1) := by decide +kernel
theorem dX6_goOn_103 : decode cX6_goOn 103 = .ok (.putfield 155, 3) := by decide +kernel
theorem dX6_goOn_106 : decode cX6_goOn 106 = .ok (.iconst 0, 1) := by decide +kernel
theorem dX6_goOn_107 : decode cX6_goOn 107 = .ok (.ireturn, 1) := by decide +kernel
theorem dX6_bytes_0 : decode cX6_bytes 0 = .ok (.aload_n 0, 1) := by decide +kernel
theorem dX6_bytes_1 : decode cX6_bytes 1 = .ok (.getfield 155, 3) := by decide +kernel
theorem dX6_bytes_4 : decode cX6_bytes 4 = .ok (.iconst 2, 1) := by decide +kernel
theorem dX6_bytes_5 : decode cX6_bytes 5 = .ok (.iadd, 1) := by decide +kernel
theorem dX6_bytes_6 : decode cX6_bytes 6 = .ok (.iload_n 1, 1) := by decide +kernel
theorem dX6_bytes_7 : decode cX6_bytes 7 = .ok (.iadd, 1) := by decide +kernel
theorem dX6_bytes_8 : decode cX6_bytes 8 = .ok (.iload_n 1, 1) := by decide +kernel
theorem dX6_bytes_9 : decode cX6_bytes 9 = .ok (.iconst 2, 1) := by decide +kernel
theorem dX6_bytes_10 : decode cX6_bytes 10 = .ok (.irem, 1) := by decide +kernel
theorem dX6_bytes_11 : decode cX6_bytes 11 = .ok (.iadd, 1) := by decide +kernel
theorem dX6_bytes_12 : decode cX6_bytes 12 = .ok (.istore_n 2, 1) := by decide +kernel
theorem dX6_bytes_13 : decode cX6_bytes 13 = .ok (.iload_n 2, 1) := by decide +kernel
theorem dX6_bytes_14 : decode cX6_bytes 14 = .ok (.aload_n 0, 1) := by decide +kernel
theorem dX6_bytes_15 : decode cX6_bytes 15 = .ok (.getfield 52, 3) := by decide +kernel
theorem dX6_bytes_18 : decode cX6_bytes 18 = .ok (.if_icmp .le 13, 3) := by decide +kernel
theorem dX6_bytes_21 : decode cX6_bytes 21 = .ok (.aload_n 0, 1) := by decide +kernel
theorem dX6_bytes_22 : decode cX6_bytes 22 = .ok (.iconst 2, 1) := by decide +kernel
theorem dX6_bytes_23 : decode cX6_bytes 23 = .ok (.aload_n 0, 1) := by decide +kernel
theorem dX6_bytes_24 : decode cX6_bytes 24 = .ok (.getfield 155, 3) := by decide +kernel
theorem dX6_bytes_27 : decode cX6_bytes 27 = .ok (.invokevirtual 177, 3) := by decide +kernel
theorem dX6_bytes_30 : decode cX6_bytes 30 = .ok (.ireturn, 1) := by decide +kernel
theorem dX6_bytes_31 : decode cX6_bytes 31 = .ok (.aload_n 0, 1) := by decide +kernel
theorem dX6_bytes_32 : decode cX6_bytes 32 = .ok (.iload_n 1, 1) := by decide +kernel
theorem dX6_bytes_33 : decode cX6_bytes 33 = .ok (.invokevirtual 185, 3) := by decide +kernel
theorem dX6_bytes_36 : decode cX6_bytes 36 = .ok (.istore_n 3, 1) := by decide +kernel
theorem dX6_bytes_37 : decode cX6_bytes 37 = .ok (.iload_n 3, 1) := by decide +kernel
theorem dX6_bytes_38 : decode cX6_bytes 38 = .ok (.ifCond .ge 5, 3) := by decide +kernel
theorem dX6_bytes_41 : decode cX6_bytes 41 = .ok (.iload_n 3, 1) := by decide +kernel
theorem dX6_bytes_42 : decode cX6_bytes 42 = .ok (.ireturn, 1) := by decide +kernel
theorem dX6_bytes_43 : decode cX6_bytes 43 = .ok (.iconst 0, 1) := by decide +kernel
theorem dX6_bytes_44 : decode cX6_bytes 44 = .ok (.istore 4, 2) := by decide +kernel
theorem dX6_bytes_46 : decode cX6_bytes 46 = .ok (.iload 4, 2) := by decide +kernel
theorem dX6_bytes_48 : decode cX6_bytes 48 = .ok (.iload_n 1, 1) := by decide +kernel
theorem dX6_bytes_49 : decode cX6_bytes 49 = .ok (.if_icmp .ge 45, 3) := by decide +kernel
theorem dX6_bytes_52 : decode cX6_bytes 52 = .ok (.aload_n 0, 1) := by decide +kernel
theorem dX6_bytes_53 : decode cX6_bytes 53 = .ok (.getfield 36, 3) := by decide +kernel
theorem dX6_bytes_56 : decode cX6_bytes 56 = .ok (.aload_n 0, 1) := by decide +kernel
theorem dX6_bytes_57 : decode cX6_bytes 57 = .ok (.getfield 161, 3) := by decide +kernel
theorem dX6_bytes_60 : decode cX6_bytes 60 = .ok (.aload_n 0, 1) := by decide +kernel
theorem dX6_bytes_61 : decode cX6_bytes 61 = .ok (.getfield 13, 3) := by decide +kernel
theorem dX6_bytes_64 : decode cX6_bytes 64 = .ok (.imul, 1) := by decide +kernel
theorem dX6_bytes_65 : decode cX6_bytes 65 = .ok (.aload_n 0, 1) := by decide +kernel
theorem dX6_bytes_66 : decode cX6_bytes 66 = .ok (.getfield 158, 3) := by decide +kernel
theorem dX6_bytes_69 : decode cX6_bytes 69 = .ok (.iadd, 1) := by decide +kernel
theorem dX6_bytes_70 : decode cX6_bytes 70 = .ok (.iload 4, 2) := by decide +kernel
theorem dX6_bytes_72 : decode cX6_bytes 72 = .ok (.iadd, 1) := by decide +kernel
theorem dX6_bytes_73 : decode cX6_bytes 73 = .ok (.aload_n 0, 1) := by decide +kernel
theorem dX6_bytes_74 : decode cX6_bytes 74 = .ok (.getfield 20, 3) := by decide +kernel
theorem dX6_bytes_77 : decode cX6_bytes 77 = .ok (.aload_n 0, 1) := by decide +kernel
theorem dX6_bytes_78 : decode cX6_bytes 78 = .ok (.getfield 155, 3) := by decide +kernel
theorem dX6_bytes_81 : decode cX6_bytes 81 = .ok (.iconst 2, 1) := by decide +kernel
theorem dX6_bytes_82 : decode cX6_bytes 82 = .ok (.iadd, 1) := by decide +kernel
theorem dX6_bytes_83 : decode cX6_bytes 83 = .ok (.iload 4, 2) := by decide +kernel
theorem dX6_bytes_85 : decode cX6_bytes 85 = .ok (.iadd, 1) := by decide +kernel
theorem dX6_bytes_86 : decode cX6_bytes 86 = .ok (.iaload, 1) := by decide +kernel
theorem dX6_bytes_87 : decode cX6_bytes 87 = .ok (.iastore, 1) := by decide +kernel
theorem dX6_bytes_88 : decode cX6_bytes 88 = .ok (.iinc 4 1, 3) := by decide +kernel
theorem dX6_bytes_91 : decode cX6_bytes 91 = .ok (.goto (-45), 3) := by decide +kernel
theorem dX6_bytes_94 : decode cX6_bytes 94 = .ok (.aload_n 0, 1) := by decide +kernel
theorem dX6_bytes_95 : decode cX6_bytes 95 = .ok (.dup, 1) := by decide +kernel
theorem dX6_bytes_96 : decode cX6_bytes 96 = .ok (.getfield 158, 3) := by decide +kernel
theorem dX6_bytes_99 : decode cX6_bytes 99 = .ok (.iload_n 1, 1) := by decide +kernel
theorem dX6_bytes_100 : decode cX6_bytes 100 = .ok (.iadd, 1) := by decide +kernel
theorem dX6_bytes_101 : decode cX6_bytes 101 = .ok (.putfield 158, 3) := by decide +kernel
theorem dX6_bytes_104 : decode cX6_bytes 104 = .ok (.aload_n 0, 1) := by decide +kernel
theorem dX6_bytes_105 : decode cX6_bytes 105 = .ok (.invokevirtual 188, 3) := by decide +kernel
theorem dX6_bytes_108 : decode cX6_bytes 108 = .ok (.aload_n 0, 1) := by decide +kernel
theorem dX6_bytes_109 : decode cX6_bytes 109 = .ok (.iload_n 2, 1) := by decide +kernel
theorem dX6_bytes_110 : decode cX6_bytes 110 = .ok (.putfield 155, 3) := by decide +kernel
theorem dX6_bytes_113 : decode cX6_bytes 113 = .ok (.iconst 0, 1) := by decide +kernel
theorem dX6_bytes_114 : decode cX6_bytes 114 = .ok (.ireturn, 1) := by decide +kernel
theorem dX6_fault_0 : decode cX6_fault 0 = .ok (.aload_n 0, 1) := by decide +kernel
theorem dX6_fault_1 : decode cX6_fault 1 = .ok (.iconst 0, 1) := by decide +kernel
theorem dX6_fault_2 : decode cX6_fault 2 = .ok (.putfield 46, 3) := by decide +kernel
theorem dX6_fault_5 : decode cX6_fault 5 = .ok (.aload_n 0, 1) := by decide +kernel
theorem dX6_fault_6 : decode cX6_fault 6 = .ok (.getfield 149, 3) := by decide +kernel
theorem dX6_fault_9 : decode cX6_fault 9 = .ok (.ireturn, 1) := by decide +kernel
theorem dX6_copies_0 : decode cX6_copies 0 = .ok (.iload_n 1, 1) := by decide +kernel
theorem dX6_copies_1 : decode cX6_copies 1 = .ok (.iload_n 3, 1) := by decide +kernel
theorem dX6_copies_2 : decode cX6_copies 2 = .ok (.iadd, 1) := by decide +kernel
theorem dX6_copies_3 : decode cX6_copies 3 = .ok (.aload_n 0, 1) := by decide +kernel
theorem dX6_copies_4 : decode cX6_copies 4 = .ok (.getfield 52, 3) := by decide +kernel
theorem dX6_copies_7 : decode cX6_copies 7 = .ok (.if_icmp .gt 13, 3) := by decide +kernel
theorem dX6_copies_10 : decode cX6_copies 10 = .ok (.iload_n 2, 1) := by decide +kernel
theorem dX6_copies_11 : decode cX6_copies 11 = .ok (.iload_n 3, 1) := by decide +kernel
theorem dX6_copies_12 : decode cX6_copies 12 = .ok (.iadd, 1) := by decide +kernel
theorem dX6_copies_13 : decode cX6_copies 13 = .ok (.aload_n 0, 1) := by decide +kernel
theorem dX6_copies_14 : decode cX6_copies 14 = .ok (.getfield 203, 3) := by decide +kernel
theorem dX6_copies_17 : decode cX6_copies 17 = .ok (.if_icmp .le 5, 3) := by decide +kernel
theorem dX6_copies_20 : decode cX6_copies 20 = .ok (.iconst 0, 1) := by decide +kernel
theorem dX6_copies_21 : decode cX6_copies 21 = .ok (.ireturn, 1) := by decide +kernel
theorem dX6_copies_22 : decode cX6_copies 22 = .ok (.iconst 0, 1) := by decide +kernel
theorem dX6_copies_23 : decode cX6_copies 23 = .ok (.istore 4, 2) := by decide +kernel
theorem dX6_copies_25 : decode cX6_copies 25 = .ok (.iload 4, 2) := by decide +kernel
theorem dX6_copies_27 : decode cX6_copies 27 = .ok (.iload_n 3, 1) := by decide +kernel
theorem dX6_copies_28 : decode cX6_copies 28 = .ok (.if_icmp .ge 27, 3) := by decide +kernel
theorem dX6_copies_31 : decode cX6_copies 31 = .ok (.aload_n 0, 1) := by decide +kernel
theorem dX6_copies_32 : decode cX6_copies 32 = .ok (.getfield 23, 3) := by decide +kernel
theorem dX6_copies_35 : decode cX6_copies 35 = .ok (.iload_n 2, 1) := by decide +kernel
theorem dX6_copies_36 : decode cX6_copies 36 = .ok (.iload 4, 2) := by decide +kernel
theorem dX6_copies_38 : decode cX6_copies 38 = .ok (.iadd, 1) := by decide +kernel
theorem dX6_copies_39 : decode cX6_copies 39 = .ok (.aload_n 0, 1) := by decide +kernel
theorem dX6_copies_40 : decode cX6_copies 40 = .ok (.getfield 20, 3) := by decide +kernel
theorem dX6_copies_43 : decode cX6_copies 43 = .ok (.iload_n 1, 1) := by decide +kernel
theorem dX6_copies_44 : decode cX6_copies 44 = .ok (.iload 4, 2) := by decide +kernel
theorem dX6_copies_46 : decode cX6_copies 46 = .ok (.iadd, 1) := by decide +kernel
theorem dX6_copies_47 : decode cX6_copies 47 = .ok (.iaload, 1) := by decide +kernel
theorem dX6_copies_48 : decode cX6_copies 48 = .ok (.iastore, 1) := by decide +kernel
theorem dX6_copies_49 : decode cX6_copies 49 = .ok (.iinc 4 1, 3) := by decide +kernel
theorem dX6_copies_52 : decode cX6_copies 52 = .ok (.goto (-27), 3) := by decide +kernel
theorem dX6_copies_55 : decode cX6_copies 55 = .ok (.aload_n 0, 1) := by decide +kernel
theorem dX6_copies_56 : decode cX6_copies 56 = .ok (.iload_n 2, 1) := by decide +kernel
theorem dX6_copies_57 : decode cX6_copies 57 = .ok (.iload_n 3, 1) := by decide +kernel
theorem dX6_copies_58 : decode cX6_copies 58 = .ok (.iadd, 1) := by decide +kernel
theorem dX6_copies_59 : decode cX6_copies 59 = .ok (.aload_n 0, 1) := by decide +kernel
theorem dX6_copies_60 : decode cX6_copies 60 = .ok (.getfield 206, 3) := by decide +kernel
theorem dX6_copies_63 : decode cX6_copies 63 = .ok (.if_icmp .le 9, 3) := by decide +kernel
theorem dX6_copies_66 : decode cX6_copies 66 = .ok (.iload_n 2, 1) := by decide +kernel
theorem dX6_copies_67 : decode cX6_copies 67 = .ok (.iload_n 3, 1) := by decide +kernel
theorem dX6_copies_68 : decode cX6_copies 68 = .ok (.iadd, 1) := by decide +kernel
theorem dX6_copies_69 : decode cX6_copies 69 = .ok (.goto 7, 3) := by decide +kernel
theorem dX6_copies_72 : decode cX6_copies 72 = .ok (.aload_n 0, 1) := by decide +kernel
theorem dX6_copies_73 : decode cX6_copies 73 = .ok (.getfield 206, 3) := by decide +kernel
theorem dX6_copies_76 : decode cX6_copies 76 = .ok (.putfield 206, 3) := by decide +kernel
theorem dX6_copies_79 : decode cX6_copies 79 = .ok (.iconst 1, 1) := by decide +kernel
theorem dX6_copies_80 : decode cX6_copies 80 = .ok (.ireturn, 1) := by decide +kernel
theorem dX6_plain_0 : decode cX6_plain 0 = .ok (.aload_n 0, 1) := by decide +kernel
theorem dX6_plain_1 : decode cX6_plain 1 = .ok (.iconst 0, 1) := by decide +kernel
theorem dX6_plain_2 : decode cX6_plain 2 = .ok (.putfield 46, 3) := by decide +kernel
theorem dX6_plain_5 : decode cX6_plain 5 = .ok (.iload_n 1, 1) := by decide +kernel
theorem dX6_plain_6 : decode cX6_plain 6 = .ok (.sipush 400, 3) := by decide +kernel
theorem dX6_plain_9 : decode cX6_plain 9 = .ok (.if_icmp .le 5, 3) := by decide +kernel
theorem dX6_plain_12 : decode cX6_plain 12 = .ok (.iconst (-1), 1) := by decide +kernel
theorem dX6_plain_13 : decode cX6_plain 13 = .ok (.ireturn, 1) := by decide +kernel
theorem dX6_plain_14 : decode cX6_plain 14 = .ok (.aload_n 0, 1) := by decide +kernel
theorem dX6_plain_15 : decode cX6_plain 15 = .ok (.iload_n 1, 1) := by decide +kernel
theorem dX6_plain_16 : decode cX6_plain 16 = .ok (.ifCond .ge 7, 3) := by decide +kernel
theorem dX6_plain_19 : decode cX6_plain 19 = .ok (.iconst 0, 1) := by decide +kernel
theorem dX6_plain_20 : decode cX6_plain 20 = .ok (.goto 4, 3) := by decide +kernel
theorem dX6_plain_23 : decode cX6_plain 23 = .ok (.iload_n 1, 1) := by decide +kernel
theorem dX6_plain_24 : decode cX6_plain 24 = .ok (.putfield 203, 3) := by decide +kernel
theorem dX6_plain_27 : decode cX6_plain 27 = .ok (.aload_n 0, 1) := by decide +kernel
theorem dX6_plain_28 : decode cX6_plain 28 = .ok (.iconst 0, 1) := by decide +kernel
theorem dX6_plain_29 : decode cX6_plain 29 = .ok (.putfield 206, 3) := by decide +kernel
theorem dX6_plain_32 : decode cX6_plain 32 = .ok (.iload_n 1, 1) := by decide +kernel
theorem dX6_plain_33 : decode cX6_plain 33 = .ok (.ifCond .ge 5, 3) := by decide +kernel
theorem dX6_plain_36 : decode cX6_plain 36 = .ok (.iconst 2, 1) := by decide +kernel
theorem dX6_plain_37 : decode cX6_plain 37 = .ok (.ireturn, 1) := by decide +kernel
theorem dX6_plain_38 : decode cX6_plain 38 = .ok (.iconst 0, 1) := by decide +kernel
theorem dX6_plain_39 : decode cX6_plain 39 = .ok (.istore_n 2, 1) := by decide +kernel
theorem dX6_plain_40 : decode cX6_plain 40 = .ok (.iload_n 2, 1) := by decide +kernel
theorem dX6_plain_41 : decode cX6_plain 41 = .ok (.iload_n 1, 1) := by decide +kernel
theorem dX6_plain_42 : decode cX6_plain 42 = .ok (.if_icmp .ge 16, 3) := by decide +kernel
theorem dX6_plain_45 : decode cX6_plain 45 = .ok (.aload_n 0, 1) := by decide +kernel
theorem dX6_plain_46 : decode cX6_plain 46 = .ok (.getfield 23, 3) := by decide +kernel
theorem dX6_plain_49 : decode cX6_plain 49 = .ok (.iload_n 2, 1) := by decide +kernel
theorem dX6_plain_50 : decode cX6_plain 50 = .ok (.iconst 0, 1) := by decide +kernel
theorem dX6_plain_51 : decode cX6_plain 51 = .ok (.iastore, 1) := by decide +kernel
theorem dX6_plain_52 : decode cX6_plain 52 = .ok (.iinc 2 1, 3) := by decide +kernel
theorem dX6_plain_55 : decode cX6_plain 55 = .ok (.goto (-15), 3) := by decide +kernel
theorem dX6_plain_58 : decode cX6_plain 58 = .ok (.aload_n 0, 1) := by decide +kernel
theorem dX6_plain_59 : decode cX6_plain 59 = .ok (.getfield 43, 3) := by decide +kernel
theorem dX6_plain_62 : decode cX6_plain 62 = .ok (.ifCond .ne 10, 3) := by decide +kernel
theorem dX6_plain_65 : decode cX6_plain 65 = .ok (.aload_n 0, 1) := by decide +kernel
theorem dX6_plain_66 : decode cX6_plain 66 = .ok (.invokevirtual 209, 3) := by decide +kernel
theorem dX6_plain_69 : decode cX6_plain 69 = .ok (.goto 22, 3) := by decide +kernel
theorem dX6_plain_72 : decode cX6_plain 72 = .ok (.aload_n 0, 1) := by decide +kernel
theorem dX6_plain_73 : decode cX6_plain 73 = .ok (.getfield 43, 3) := by decide +kernel
theorem dX6_plain_76 : decode cX6_plain 76 = .ok (.iconst 1, 1) := by decide +kernel
theorem dX6_plain_77 : decode cX6_plain 77 = .ok (.if_icmp .ne 10, 3) := by decide +kernel
theorem dX6_plain_80 : decode cX6_plain 80 = .ok (.aload_n 0, 1) := by decide +kernel
theorem dX6_plain_81 : decode cX6_plain 81 = .ok (.invokevirtual 213, 3) := by decide +kernel
theorem dX6_plain_84 : decode cX6_plain 84 = .ok (.goto 7, 3) := by decide +kernel
theorem dX6_plain_87 : decode cX6_plain 87 = .ok (.aload_n 0, 1) := by decide +kernel
theorem dX6_plain_88 : decode cX6_plain 88 = .ok (.invokevirtual 216, 3) := by decide +kernel
theorem dX6_plain_91 : decode cX6_plain 91 = .ok (.istore_n 2, 1) := by decide +kernel
theorem dX6_plain_92 : decode cX6_plain 92 = .ok (.iload_n 2, 1) := by decide +kernel
theorem dX6_plain_93 : decode cX6_plain 93 = .ok (.ifCond .eq 7, 3) := by decide +kernel
theorem dX6_plain_96 : decode cX6_plain 96 = .ok (.iconst 0, 1) := by decide +kernel
theorem dX6_plain_97 : decode cX6_plain 97 = .ok (.goto 4, 3) := by decide +kernel
theorem dX6_plain_100 : decode cX6_plain 100 = .ok (.iconst 1, 1) := by decide +kernel
theorem dX6_plain_101 : decode cX6_plain 101 = .ok (.ireturn, 1) := by decide +kernel
theorem dX6_plainMarked_0 : decode cX6_plainMarked 0 = .ok (.iconst 0, 1) := by decide +kernel
theorem dX6_plainMarked_1 : decode cX6_plainMarked 1 = .ok (.istore_n 1, 1) := by decide +kernel
theorem dX6_plainMarked_2 : decode cX6_plainMarked 2 = .ok (.iconst 0, 1) := by decide +kernel
theorem dX6_plainMarked_3 : decode cX6_plainMarked 3 = .ok (.istore_n 2, 1) := by decide +kernel
theorem dX6_plainMarked_4 : decode cX6_plainMarked 4 = .ok (.iload_n 1, 1) := by decide +kernel
theorem dX6_plainMarked_5 : decode cX6_plainMarked 5 = .ok (.aload_n 0, 1) := by decide +kernel
theorem dX6_plainMarked_6 : decode cX6_plainMarked 6 = .ok (.getfield 52, 3) := by decide +kernel
theorem dX6_plainMarked_9 : decode cX6_plainMarked 9 = .ok (.if_icmp .ge 126, 3) := by decide +kernel
theorem dX6_plainMarked_12 : decode cX6_plainMarked 12 = .ok (.aload_n 0, 1) := by decide +kernel
theorem dX6_plainMarked_13 : decode cX6_plainMarked 13 = .ok (.getfield 20, 3) := by decide +kernel
theorem dX6_plainMarked_16 : decode cX6_plainMarked 16 = .ok (.iload_n 1, 1) := by decide +kernel
theorem dX6_plainMarked_17 : decode cX6_plainMarked 17 = .ok (.iaload, 1) := by decide +kernel
theorem dX6_plainMarked_18 : decode cX6_plainMarked 18 = .ok (.aload_n 0, 1) := by decide +kernel
theorem dX6_plainMarked_19 : decode cX6_plainMarked 19 = .ok (.getfield 55, 3) := by decide +kernel
theorem dX6_plainMarked_22 : decode cX6_plainMarked 22 = .ok (.if_icmp .eq 35, 3) := by decide +kernel
theorem dX6_plainMarked_25 : decode cX6_plainMarked 25 = .ok (.aload_n 0, 1) := by decide +kernel
theorem dX6_plainMarked_26 : decode cX6_plainMarked 26 = .ok (.iload_n 1, 1) := by decide +kernel
theorem dX6_plainMarked_27 : decode cX6_plainMarked 27 = .ok (.iload_n 2, 1) := by decide +kernel
theorem dX6_plainMarked_28 : decode cX6_plainMarked 28 = .ok (.aload_n 0, 1) := by decide +kernel
theorem dX6_plainMarked_29 : decode cX6_plainMarked 29 = .ok (.getfield 7, 3) := by decide +kernel
theorem dX6_plainMarked_32 : decode cX6_plainMarked 32 = .ok (.invokevirtual 219, 3) := by decide +kernel
theorem dX6_plainMarked_35 : decode cX6_plainMarked 35 = .ok (.ifCond .ne 5, 3) := by decide +kernel
theorem dX6_plainMarked_38 : decode cX6_plainMarked 38 = .ok (.iconst 0, 1) := by decide +kernel
theorem dX6_plainMarked_39 : decode cX6_plainMarked 39 = .ok (.ireturn, 1) := by decide +kernel
theorem dX6_plainMarked_40 : decode cX6_plainMarked 40 = .ok (.iload_n 1, 1) := by decide +kernel
theorem dX6_plainMarked_41 : decode cX6_plainMarked 41 = .ok (.aload_n 0, 1) := by decide +kernel
theorem dX6_plainMarked_42 : decode cX6_plainMarked 42 = .ok (.getfield 7, 3) := by decide +kernel
theorem dX6_plainMarked_45 : decode cX6_plainMarked 45 = .ok (.iadd, 1) := by decide +kernel
theorem dX6_plainMarked_46 : decode cX6_plainMarked 46 = .ok (.istore_n 1, 1) := by decide +kernel
theorem dX6_plainMarked_47 : decode cX6_plainMarked 47 = .ok (.iload_n 2, 1) := by decide +kernel
theorem dX6_plainMarked_48 : decode cX6_plainMarked 48 = .ok (.aload_n 0, 1) := by decide +kernel
theorem dX6_plainMarked_49 : decode cX6_plainMarked 49 = .ok (.getfield 7, 3) := by decide +kernel
theorem dX6_plainMarked_52 : decode cX6_plainMarked 52 = .ok (.iadd, 1) := by decide +kernel
theorem dX6_plainMarked_53 : decode cX6_plainMarked 53 = .ok (.istore_n 2, 1) := by decide +kernel
theorem dX6_plainMarked_54 : decode cX6_plainMarked 54 = .ok (.goto (-50), 3) := by decide +kernel
theorem dX6_plainMarked_57 : decode cX6_plainMarked 57 = .ok (.iload_n 1, 1) := by decide +kernel
theorem dX6_plainMarked_58 : decode cX6_plainMarked 58 = .ok (.iconst 1, 1) := by decide +kernel
theorem dX6_plainMarked_59 : decode cX6_plainMarked 59 = .ok (.iadd, 1) := by decide +kernel
theorem dX6_plainMarked_60 : decode cX6_plainMarked 60 = .ok (.aload_n 0, 1) := by decide +kernel
theorem dX6_plainMarked_61 : decode cX6_plainMarked 61 = .ok (.getfield 52, 3) := by decide +kernel
theorem dX6_plainMarked_64 : decode cX6_plainMarked 64 = .ok (.if_icmp .lt 5, 3) := by decide +kernel
theorem dX6_plainMarked_67 : decode cX6_plainMarked 67 = .ok (.iconst 0, 1) := by decide +kernel
theorem dX6_plainMarked_68 : decode cX6_plainMarked 68 = .ok (.ireturn, 1) := by decide +kernel
theorem dX6_plainMarked_69 : decode cX6_plainMarked 69 = .ok (.aload_n 0, 1) := by decide +kernel
theorem dX6_plainMarked_70 : decode cX6_plainMarked 70 = .ok (.getfield 20, 3) := by decide +kernel
theorem dX6_plainMarked_73 : decode cX6_plainMarked 73 = .ok (.iload_n 1, 1) := by decide +kernel
theorem dX6_plainMarked_74 : decode cX6_plainMarked 74 = .ok (.iconst 1, 1) := by decide +kernel
theorem dX6_plainMarked_75 : decode cX6_plainMarked 75 = .ok (.iadd, 1) := by decide +kernel
theorem dX6_plainMarked_76 : decode cX6_plainMarked 76 = .ok (.iaload, 1) := by decide +kernel
theorem dX6_plainMarked_77 : decode cX6_plainMarked 77 = .ok (.istore_n 3, 1) := by decide +kernel
theorem dX6_plainMarked_78 : decode cX6_plainMarked 78 = .ok (.iload_n 3, 1) := by decide +kernel
theorem dX6_plainMarked_79 : decode cX6_plainMarked 79 = .ok (.ifCond .ne 5, 3) := by decide +kernel
theorem dX6_plainMarked_82 : decode cX6_plainMarked 82 = .ok (.iconst 1, 1) := by decide +kernel
theorem dX6_plainMarked_83 : decode cX6_plainMarked 83 = .ok (.ireturn, 1) := by decide +kernel
theorem dX6_plainMarked_84 : decode cX6_plainMarked 84 = .ok (.iconst 0, 1) := by decide +kernel
theorem dX6_plainMarked_85 : decode cX6_plainMarked 85 = .ok (.istore 4, 2) := by decide +kernel
theorem dX6_plainMarked_87 : decode cX6_plainMarked 87 = .ok (.iload 4, 2) := by decide +kernel
theorem dX6_plainMarked_89 : decode cX6_plainMarked 89 = .ok (.iload_n 3, 1) := by decide +kernel
theorem dX6_plainMarked_90 : decode cX6_plainMarked 90 = .ok (.if_icmp .ge 33, 3) := by decide +kernel
theorem dX6_plainMarked_93 : decode cX6_plainMarked 93 = .ok (.aload_n 0, 1) := by decide +kernel
theorem dX6_plainMarked_94 : decode cX6_plainMarked 94 = .ok (.iload_n 1, 1) := by decide +kernel
theorem dX6_plainMarked_95 : decode cX6_plainMarked 95 = .ok (.iconst 2, 1) := by decide +kernel
theorem dX6_plainMarked_96 : decode cX6_plainMarked 96 = .ok (.iadd, 1) := by decide +kernel
theorem dX6_plainMarked_97 : decode cX6_plainMarked 97 = .ok (.iload_n 2, 1) := by decide +kernel
theorem dX6_plainMarked_98 : decode cX6_plainMarked 98 = .ok (.aload_n 0, 1) := by decide +kernel
theorem dX6_plainMarked_99 : decode cX6_plainMarked 99 = .ok (.getfield 7, 3) := by decide +kernel
theorem dX6_plainMarked_102 : decode cX6_plainMarked 102 = .ok (.invokevirtual 219, 3) := by decide +kernel
theorem dX6_plainMarked_105 : decode cX6_plainMarked 105 = .ok (.ifCond .ne 5, 3) := by decide +kernel
theorem dX6_plainMarked_108 : decode cX6_plainMarked 108 = .ok (.iconst 0, 1) := by decide +kernel
theorem dX6_plainMarked_109 : decode cX6_plainMarked 109 = .ok (.ireturn, 1) := by decide +kernel
theorem dX6_plainMarked_110 : decode cX6_plainMarked 110 = .ok (.iload_n 2, 1) := by decide +kernel
theorem dX6_plainMarked_111 : decode cX6_plainMarked 111 = .ok (.aload_n 0, 1) := by decide +kernel
theorem dX6_plainMarked_112 : decode cX6_plainMarked 112 = .ok (.getfield 7, 3) := by decide +kernel
theorem dX6_plainMarked_115 : decode cX6_plainMarked 115 = .ok (.iadd, 1) := by decide +kernel
theorem dX6_plainMarked_116 : decode cX6_plainMarked 116 = .ok (.istore_n 2, 1) := by decide +kernel
theorem dX6_plainMarked_117 : decode cX6_plainMarked 117 = .ok (.iinc 4 1, 3) := by decide +kernel
theorem dX6_plainMarked_120 : decode cX6_plainMarked 120 = .ok (.goto (-33), 3) := by decide +kernel
theorem dX6_plainMarked_123 : decode cX6_plainMarked 123 = .ok (.iload_n 1, 1) := by decide +kernel
theorem dX6_plainMarked_124 : decode cX6_plainMarked 124 = .ok (.iconst 2, 1) := by decide +kernel
theorem dX6_plainMarked_125 : decode cX6_plainMarked 125 = .ok (.aload_n 0, 1) := by decide +kernel
theorem dX6_plainMarked_126 : decode cX6_plainMarked 126 = .ok (.getfield 7, 3) := by decide +kernel
theorem dX6_plainMarked_129 : decode cX6_plainMarked 129 = .ok (.iadd, 1) := by decide +kernel
theorem dX6_plainMarked_130 : decode cX6_plainMarked 130 = .ok (.iadd, 1) := by decide +kernel
theorem dX6_plainMarked_131 : decode cX6_plainMarked 131 = .ok (.istore_n 1, 1) := by decide +kernel
theorem dX6_plainMarked_132 : decode cX6_plainMarked 132 = .ok (.goto (-128), 3) := by decide +kernel
theorem dX6_plainMarked_135 : decode cX6_plainMarked 135 = .ok (.iconst 0, 1) := by decide +kernel
theorem dX6_plainMarked_136 : decode cX6_plainMarked 136 = .ok (.ireturn, 1) := by decide +kernel
theorem dX6_plainSigned_0 : decode cX6_plainSigned 0 = .ok (.iconst 0, 1) := by decide +kernel
theorem dX6_plainSigned_1 : decode cX6_plainSigned 1 = .ok (.istore_n 1, 1) := by decide +kernel
theorem dX6_plainSigned_2 : decode cX6_plainSigned 2 = .ok (.iconst 0, 1) := by decide +kernel
theorem dX6_plainSigned_3 : decode cX6_plainSigned 3 = .ok (.istore_n 2, 1) := by decide +kernel
theorem dX6_plainSigned_4 : decode cX6_plainSigned 4 = .ok (.iload_n 1, 1) := by decide +kernel
theorem dX6_plainSigned_5 : decode cX6_plainSigned 5 = .ok (.aload_n 0, 1) := by decide +kernel
theorem dX6_plainSigned_6 : decode cX6_plainSigned 6 = .ok (.getfield 52, 3) := by decide +kernel
theorem dX6_plainSigned_9 : decode cX6_plainSigned 9 = .ok (.if_icmp .ge 133, 3) := by decide +kernel
theorem dX6_plainSigned_12 : decode cX6_plainSigned 12 = .ok (.aload_n 0, 1) := by decide +kernel
theorem dX6_plainSigned_13 : decode cX6_plainSigned 13 = .ok (.getfield 20, 3) := by decide +kernel
theorem dX6_plainSigned_16 : decode cX6_plainSigned 16 = .ok (.iload_n 1, 1) := by decide +kernel
theorem dX6_plainSigned_17 : decode cX6_plainSigned 17 = .ok (.iaload, 1) := by decide +kernel
theorem dX6_plainSigned_18 : decode cX6_plainSigned 18 = .ok (.sipush 128, 3) := by decide +kernel
theorem dX6_plainSigned_21 : decode cX6_plainSigned 21 = .ok (.if_icmp .ge 12, 3) := by decide +kernel
theorem dX6_plainSigned_24 : decode cX6_plainSigned 24 = .ok (.aload_n 0, 1) := by decide +kernel
theorem dX6_plainSigned_25 : decode cX6_plainSigned 25 = .ok (.getfield 20, 3) := by decide +kernel
theorem dX6_plainSigned_28 : decode cX6_plainSigned 28 = .ok (.iload_n 1, 1) := by decide +kernel
theorem dX6_plainSigned_29 : decode cX6_plainSigned 29 = .ok (.iaload, 1) := by decide +kernel
theorem dX6_plainSigned_30 : decode cX6_plainSigned 30 = .ok (.goto 13, 3) := by decide +kernel
theorem dX6_plainSigned_33 : decode cX6_plainSigned 33 = .ok (.aload_n 0, 1) := by decide +kernel
theorem dX6_plainSigned_34 : decode cX6_plainSigned 34 = .ok (.getfield 20, 3) := by decide +kernel
theorem dX6_plainSigned_37 : decode cX6_plainSigned 37 = .ok (.iload_n 1, 1) := by decide +kernel
theorem dX6_plainSigned_38 : decode cX6_plainSigned 38 = .ok (.iaload, 1) := by decide +kernel
theorem dX6_plainSigned_39 : decode cX6_plainSigned 39 = .ok (.sipush 256, 3) := by decide +kernel
theorem dX6_plainSigned_42 : decode cX6_plainSigned 42 = .ok (.isub, 1) := by decide +kernel
theorem dX6_plainSigned_43 : decode cX6_plainSigned 43 = .ok (.istore_n 3, 1) := by decide +kernel
theorem dX6_plainSigned_44 : decode cX6_plainSigned 44 = .ok (.iinc 1 1, 3) := by decide +kernel
theorem dX6_plainSigned_47 : decode cX6_plainSigned 47 = .ok (.iload_n 3, 1) := by decide +kernel
theorem dX6_plainSigned_48 : decode cX6_plainSigned 48 = .ok (.ifCond .lt 39, 3) := by decide +kernel
theorem dX6_plainSigned_51 : decode cX6_plainSigned 51 = .ok (.iload_n 3, 1) := by decide +kernel
theorem dX6_plainSigned_52 : decode cX6_plainSigned 52 = .ok (.iconst 1, 1) := by decide +kernel
theorem dX6_plainSigned_53 : decode cX6_plainSigned 53 = .ok (.iadd, 1) := by decide +kernel
theorem dX6_plainSigned_54 : decode cX6_plainSigned 54 = .ok (.aload_n 0, 1) := by decide +kernel
theorem dX6_plainSigned_55 : decode cX6_plainSigned 55 = .ok (.getfield 7, 3) := by decide +kernel
theorem dX6_plainSigned_58 : decode cX6_plainSigned 58 = .ok (.imul, 1) := by decide +kernel
theorem dX6_plainSigned_59 : decode cX6_plainSigned 59 = .ok (.istore 4, 2) := by decide +kernel
theorem dX6_plainSigned_61 : decode cX6_plainSigned 61 = .ok (.aload_n 0, 1) := by decide +kernel
theorem dX6_plainSigned_62 : decode cX6_plainSigned 62 = .ok (.iload_n 1, 1) := by decide +kernel
theorem dX6_plainSigned_63 : decode cX6_plainSigned 63 = .ok (.iload_n 2, 1) := by decide +kernel
theorem dX6_plainSigned_64 : decode cX6_plainSigned 64 = .ok (.iload 4, 2) := by decide +kernel
theorem dX6_plainSigned_66 : decode cX6_plainSigned 66 = .ok (.invokevirtual 219, 3) := by decide +kernel
theorem dX6_plainSigned_69 : decode cX6_plainSigned 69 = .ok (.ifCond .ne 5, 3) := by decide +kernel
theorem dX6_plainSigned_72 : decode cX6_plainSigned 72 = .ok (.iconst 0, 1) := by decide +kernel
theorem dX6_plainSigned_73 : decode cX6_plainSigned 73 = .ok (.ireturn, 1) := by decide +kernel
theorem dX6_plainSigned_74 : decode cX6_plainSigned 74 = .ok (.iload_n 1, 1) := by decide +kernel
theorem dX6_plainSigned_75 : decode cX6_plainSigned 75 = .ok (.iload 4, 2) := by decide +kernel
theorem dX6_plainSigned_77 : decode cX6_plainSigned 77 = .ok (.iadd, 1) := by decide +kernel
theorem dX6_plainSigned_78 : decode cX6_plainSigned 78 = .ok (.istore_n 1, 1) := by decide +kernel
theorem dX6_plainSigned_79 : decode cX6_plainSigned 79 = .ok (.iload_n 2, 1) := by decide +kernel
theorem dX6_plainSigned_80 : decode cX6_plainSigned 80 = .ok (.iload 4, 2) := by decide +kernel
theorem dX6_plainSigned_82 : decode cX6_plainSigned 82 = .ok (.iadd, 1) := by decide +kernel
theorem dX6_plainSigned_83 : decode cX6_plainSigned 83 = .ok (.istore_n 2, 1) := by decide +kernel
theorem dX6_plainSigned_84 : decode cX6_plainSigned 84 = .ok (.goto 55, 3) := by decide +kernel
theorem dX6_plainSigned_87 : decode cX6_plainSigned 87 = .ok (.iload_n 3, 1) := by decide +kernel
theorem dX6_plainSigned_88 : decode cX6_plainSigned 88 = .ok (.bipush (-128), 2) := by decide +kernel
theorem dX6_plainSigned_90 : decode cX6_plainSigned 90 = .ok (.if_icmp .le 49, 3) := by decide +kernel
theorem dX6_plainSigned_93 : decode cX6_plainSigned 93 = .ok (.iconst 0, 1) := by decide +kernel
theorem dX6_plainSigned_94 : decode cX6_plainSigned 94 = .ok (.istore 4, 2) := by decide +kernel
theorem dX6_plainSigned_96 : decode cX6_plainSigned 96 = .ok (.iload 4, 2) := by decide +kernel
theorem dX6_plainSigned_98 : decode cX6_plainSigned 98 = .ok (.iconst 1, 1) := by decide +kernel
theorem dX6_plainSigned_99 : decode cX6_plainSigned 99 = .ok (.iload_n 3, 1) := by decide +kernel
theorem dX6_plainSigned_100 : decode cX6_plainSigned 100 = .ok (.isub, 1) := by decide +kernel
theorem dX6_plainSigned_101 : decode cX6_plainSigned 101 = .ok (.if_icmp .ge 31, 3) := by decide +kernel
theorem dX6_plainSigned_104 : decode cX6_plainSigned 104 = .ok (.aload_n 0, 1) := by decide +kernel
theorem dX6_plainSigned_105 : decode cX6_plainSigned 105 = .ok (.iload_n 1, 1) := by decide +kernel
theorem dX6_plainSigned_106 : decode cX6_plainSigned 106 = .ok (.iload_n 2, 1) := by decide +kernel
theorem dX6_plainSigned_107 : decode cX6_plainSigned 107 = .ok (.aload_n 0, 1) := by decide +kernel
theorem dX6_plainSigned_108 : decode cX6_plainSigned 108 = .ok (.getfield 7, 3) := by decide +kernel
theorem dX6_plainSigned_111 : decode cX6_plainSigned 111 = .ok (.invokevirtual 219, 3) := by decide +kernel
theorem dX6_plainSigned_114 : decode cX6_plainSigned 114 = .ok (.ifCond .ne 5, 3) := by decide +kernel
theorem dX6_plainSigned_117 : decode cX6_plainSigned 117 = .ok (.iconst 0, 1) := by decide +kernel
theorem dX6_plainSigned_118 : decode cX6_plainSigned 118 = .ok (.ireturn, 1) := by decide +kernel
theorem dX6_plainSigned_119 : decode cX6_plainSigned 119 = .ok (.iload_n 2, 1) := by decide +kernel
theorem dX6_plainSigned_120 : decode cX6_plainSigned 120 = .ok (.aload_n 0, 1) := by decide +kernel
theorem dX6_plainSigned_121 : decode cX6_plainSigned 121 = .ok (.getfield 7, 3) := by decide +kernel
theorem dX6_plainSigned_124 : decode cX6_plainSigned 124 = .ok (.iadd, 1) := by decide +kernel
theorem dX6_plainSigned_125 : decode cX6_plainSigned 125 = .ok (.istore_n 2, 1) := by decide +kernel
theorem dX6_plainSigned_126 : decode cX6_plainSigned 126 = .ok (.iinc 4 1, 3) := by decide +kernel
theorem dX6_plainSigned_129 : decode cX6_plainSigned 129 = .ok (.goto (-33), 3) := by decide +kernel
theorem dX6_plainSigned_132 : decode cX6_plainSigned 132 = .ok (.iload_n 1, 1) := by decide +kernel
theorem dX6_plainSigned_133 : decode cX6_plainSigned 133 = .ok (.aload_n 0, 1) := by decide +kernel
theorem dX6_plainSigned_134 : decode cX6_plainSigned 134 = .ok (.getfield 7, 3) := by decide +kernel
theorem dX6_plainSigned_137 : decode cX6_plainSigned 137 = .ok (.iadd, 1) := by decide +kernel
theorem dX6_plainSigned_138 : decode cX6_plainSigned 138 = .ok (.istore_n 1, 1) := by decide +kernel
theorem dX6_plainSigned_139 : decode cX6_plainSigned 139 = .ok (.goto (-135), 3) := by decide +kernel
theorem dX6_plainSigned_142 : decode cX6_plainSigned 142 = .ok (.iconst 1, 1) := by decide +kernel
theorem dX6_plainSigned_143 : decode cX6_plainSigned 143 = .ok (.ireturn, 1) := by decide +kernel
theorem dX6_plainRows_0 : decode cX6_plainRows 0 = .ok (.iconst 0, 1) := by decide +kernel
theorem dX6_plainRows_1 : decode cX6_plainRows 1 = .ok (.istore_n 1, 1) := by decide +kernel
theorem dX6_plainRows_2 : decode cX6_plainRows 2 = .ok (.iconst 0, 1) := by decide +kernel
theorem dX6_plainRows_3 : decode cX6_plainRows 3 = .ok (.istore_n 2, 1) := by decide +kernel
theorem dX6_plainRows_4 : decode cX6_plainRows 4 = .ok (.iconst 0, 1) := by decide +kernel
theorem dX6_plainRows_5 : decode cX6_plainRows 5 = .ok (.istore_n 3, 1) := by decide +kernel
theorem dX6_plainRows_6 : decode cX6_plainRows 6 = .ok (.iload_n 1, 1) := by decide +kernel
theorem dX6_plainRows_7 : decode cX6_plainRows 7 = .ok (.iconst 1, 1) := by decide +kernel
theorem dX6_plainRows_8 : decode cX6_plainRows 8 = .ok (.iadd, 1) := by decide +kernel
theorem dX6_plainRows_9 : decode cX6_plainRows 9 = .ok (.aload_n 0, 1) := by decide +kernel
theorem dX6_plainRows_10 : decode cX6_plainRows 10 = .ok (.getfield 52, 3) := by decide +kernel
theorem dX6_plainRows_13 : decode cX6_plainRows 13 = .ok (.if_icmp .ge 218, 3) := by decide +kernel
theorem dX6_plainRows_16 : decode cX6_plainRows 16 = .ok (.aload_n 0, 1) := by decide +kernel
theorem dX6_plainRows_17 : decode cX6_plainRows 17 = .ok (.getfield 20, 3) := by decide +kernel
theorem dX6_plainRows_20 : decode cX6_plainRows 20 = .ok (.iload_n 1, 1) := by decide +kernel
theorem dX6_plainRows_21 : decode cX6_plainRows 21 = .ok (.iaload, 1) := by decide +kernel
theorem dX6_plainRows_22 : decode cX6_plainRows 22 = .ok (.istore 4, 2) := by decide +kernel
theorem dX6_plainRows_24 : decode cX6_plainRows 24 = .ok (.aload_n 0, 1) := by decide +kernel
theorem dX6_plainRows_25 : decode cX6_plainRows 25 = .ok (.getfield 20, 3) := by decide +kernel
theorem dX6_plainRows_28 : decode cX6_plainRows 28 = .ok (.iload_n 1, 1) := by decide +kernel
theorem dX6_plainRows_29 : decode cX6_plainRows 29 = .ok (.iconst 1, 1) := by decide +kernel
theorem dX6_plainRows_30 : decode cX6_plainRows 30 = .ok (.iadd, 1) := by decide +kernel
theorem dX6_plainRows_31 : decode cX6_plainRows 31 = .ok (.iaload, 1) := by decide +kernel
theorem dX6_plainRows_32 : decode cX6_plainRows 32 = .ok (.istore 5, 2) := by decide +kernel
theorem dX6_plainRows_34 : decode cX6_plainRows 34 = .ok (.iload_n 3, 1) := by decide +kernel
theorem dX6_plainRows_35 : decode cX6_plainRows 35 = .ok (.aload_n 0, 1) := by decide +kernel
theorem dX6_plainRows_36 : decode cX6_plainRows 36 = .ok (.getfield 13, 3) := by decide +kernel
theorem dX6_plainRows_39 : decode cX6_plainRows 39 = .ok (.imul, 1) := by decide +kernel
theorem dX6_plainRows_40 : decode cX6_plainRows 40 = .ok (.iload_n 2, 1) := by decide +kernel
theorem dX6_plainRows_41 : decode cX6_plainRows 41 = .ok (.iadd, 1) := by decide +kernel
theorem dX6_plainRows_42 : decode cX6_plainRows 42 = .ok (.istore 6, 2) := by decide +kernel
theorem dX6_plainRows_44 : decode cX6_plainRows 44 = .ok (.iinc 1 2, 3) := by decide +kernel
theorem dX6_plainRows_47 : decode cX6_plainRows 47 = .ok (.iload 4, 2) := by decide +kernel
theorem dX6_plainRows_49 : decode cX6_plainRows 49 = .ok (.ifCond .le 85, 3) := by decide +kernel
theorem dX6_plainRows_52 : decode cX6_plainRows 52 = .ok (.iconst 0, 1) := by decide +kernel
theorem dX6_plainRows_53 : decode cX6_plainRows 53 = .ok (.istore 7, 2) := by decide +kernel
theorem dX6_plainRows_55 : decode cX6_plainRows 55 = .ok (.iload 7, 2) := by decide +kernel
theorem dX6_plainRows_57 : decode cX6_plainRows 57 = .ok (.iload 4, 2) := by decide +kernel
theorem dX6_plainRows_59 : decode cX6_plainRows 59 = .ok (.if_icmp .ge 67, 3) := by decide +kernel
theorem dX6_plainRows_62 : decode cX6_plainRows 62 = .ok (.iload 6, 2) := by decide +kernel
theorem dX6_plainRows_64 : decode cX6_plainRows 64 = .ok (.iload 7, 2) := by decide +kernel
theorem dX6_plainRows_66 : decode cX6_plainRows 66 = .ok (.iadd, 1) := by decide +kernel
theorem dX6_plainRows_67 : decode cX6_plainRows 67 = .ok (.aload_n 0, 1) := by decide +kernel
theorem dX6_plainRows_68 : decode cX6_plainRows 68 = .ok (.getfield 203, 3) := by decide +kernel
theorem dX6_plainRows_71 : decode cX6_plainRows 71 = .ok (.if_icmp .lt 5, 3) := by decide +kernel
theorem dX6_plainRows_74 : decode cX6_plainRows 74 = .ok (.iconst 0, 1) := by decide +kernel
theorem dX6_plainRows_75 : decode cX6_plainRows 75 = .ok (.ireturn, 1) := by decide +kernel
theorem dX6_plainRows_76 : decode cX6_plainRows 76 = .ok (.aload_n 0, 1) := by decide +kernel
theorem dX6_plainRows_77 : decode cX6_plainRows 77 = .ok (.getfield 23, 3) := by decide +kernel
theorem dX6_plainRows_80 : decode cX6_plainRows 80 = .ok (.iload 6, 2) := by decide +kernel
theorem dX6_plainRows_82 : decode cX6_plainRows 82 = .ok (.iload 7, 2) := by decide +kernel
theorem dX6_plainRows_84 : decode cX6_plainRows 84 = .ok (.iadd, 1) := by decide +kernel
theorem dX6_plainRows_85 : decode cX6_plainRows 85 = .ok (.iload 5, 2) := by decide +kernel
theorem dX6_plainRows_87 : decode cX6_plainRows 87 = .ok (.iastore, 1) := by decide +kernel
theorem dX6_plainRows_88 : decode cX6_plainRows 88 = .ok (.aload_n 0, 1) := by decide +kernel
theorem dX6_plainRows_89 : decode cX6_plainRows 89 = .ok (.iload 6, 2) := by decide +kernel
theorem dX6_plainRows_91 : decode cX6_plainRows 91 = .ok (.iload 7, 2) := by decide +kernel
theorem dX6_plainRows_93 : decode cX6_plainRows 93 = .ok (.iadd, 1) := by decide +kernel
theorem dX6_plainRows_94 : decode cX6_plainRows 94 = .ok (.iconst 1, 1) := by decide +kernel
theorem dX6_plainRows_95 : decode cX6_plainRows 95 = .ok (.iadd, 1) := by decide +kernel
theorem dX6_plainRows_96 : decode cX6_plainRows 96 = .ok (.aload_n 0, 1) := by decide +kernel
theorem dX6_plainRows_97 : decode cX6_plainRows 97 = .ok (.getfield 206, 3) := by decide +kernel
theorem dX6_plainRows_100 : decode cX6_plainRows 100 = .ok (.if_icmp .le 13, 3) := by decide +kernel
theorem dX6_plainRows_103 : decode cX6_plainRows 103 = .ok (.iload 6, 2) := by decide +kernel
theorem dX6_plainRows_105 : decode cX6_plainRows 105 = .ok (.iload 7, 2) := by decide +kernel
theorem dX6_plainRows_107 : decode cX6_plainRows 107 = .ok (.iadd, 1) := by decide +kernel
theorem dX6_plainRows_108 : decode cX6_plainRows 108 = .ok (.iconst 1, 1) := by decide +kernel
theorem dX6_plainRows_109 : decode cX6_plainRows 109 = .ok (.iadd, 1) := by decide +kernel
theorem dX6_plainRows_110 : decode cX6_plainRows 110 = .ok (.goto 7, 3) := by decide +kernel
theorem dX6_plainRows_113 : decode cX6_plainRows 113 = .ok (.aload_n 0, 1) := by decide +kernel
theorem dX6_plainRows_114 : decode cX6_plainRows 114 = .ok (.getfield 206, 3) := by decide +kernel
theorem dX6_plainRows_117 : decode cX6_plainRows 117 = .ok (.putfield 206, 3) := by decide +kernel
theorem dX6_plainRows_120 : decode cX6_plainRows 120 = .ok (.iinc 7 1, 3) := by decide +kernel
theorem dX6_plainRows_123 : decode cX6_plainRows 123 = .ok (.goto (-68), 3) := by decide +kernel
theorem dX6_plainRows_126 : decode cX6_plainRows 126 = .ok (.iload_n 2, 1) := by decide +kernel
theorem dX6_plainRows_127 : decode cX6_plainRows 127 = .ok (.iload 4, 2) := by decide +kernel
theorem dX6_plainRows_129 : decode cX6_plainRows 129 = .ok (.iadd, 1) := by decide +kernel
theorem dX6_plainRows_130 : decode cX6_plainRows 130 = .ok (.istore_n 2, 1) := by decide +kernel
theorem dX6_plainRows_131 : decode cX6_plainRows 131 = .ok (.goto 97, 3) := by decide +kernel
theorem dX6_plainRows_134 : decode cX6_plainRows 134 = .ok (.iload 5, 2) := by decide +kernel
theorem dX6_plainRows_136 : decode cX6_plainRows 136 = .ok (.ifCond .ne 11, 3) := by decide +kernel
theorem dX6_plainRows_139 : decode cX6_plainRows 139 = .ok (.iinc 3 1, 3) := by decide +kernel
theorem dX6_plainRows_142 : decode cX6_plainRows 142 = .ok (.iconst 0, 1) := by decide +kernel
theorem dX6_plainRows_143 : decode cX6_plainRows 143 = .ok (.istore_n 2, 1) := by decide +kernel
theorem dX6_plainRows_144 : decode cX6_plainRows 144 = .ok (.goto 84, 3) := by decide +kernel
theorem dX6_plainRows_147 : decode cX6_plainRows 147 = .ok (.iload 5, 2) := by decide +kernel
theorem dX6_plainRows_149 : decode cX6_plainRows 149 = .ok (.iconst 1, 1) := by decide +kernel
theorem dX6_plainRows_150 : decode cX6_plainRows 150 = .ok (.if_icmp .ne 5, 3) := by decide +kernel
theorem dX6_plainRows_153 : decode cX6_plainRows 153 = .ok (.iconst 1, 1) := by decide +kernel
theorem dX6_plainRows_154 : decode cX6_plainRows 154 = .ok (.ireturn, 1) := by decide +kernel
theorem dX6_plainRows_155 : decode cX6_plainRows 155 = .ok (.iload 5, 2) := by decide +kernel
theorem dX6_plainRows_157 : decode cX6_plainRows 157 = .ok (.iconst 2, 1) := by decide +kernel
theorem dX6_plainRows_158 : decode cX6_plainRows 158 = .ok (.if_icmp .ne 41, 3) := by decide +kernel
theorem dX6_plainRows_161 : decode cX6_plainRows 161 = .ok (.iload_n 1, 1) := by decide +kernel
theorem dX6_plainRows_162 : decode cX6_plainRows 162 = .ok (.iconst 1, 1) := by decide +kernel
theorem dX6_plainRows_163 : decode cX6_plainRows 163 = .ok (.iadd, 1) := by decide +kernel
theorem dX6_plainRows_164 : decode cX6_plainRows 164 = .ok (.aload_n 0, 1) := by decide +kernel
theorem dX6_plainRows_165 : decode cX6_plainRows 165 = .ok (.getfield 52, 3) := by decide +kernel
theorem dX6_plainRows_168 : decode cX6_plainRows 168 = .ok (.if_icmp .lt 5, 3) := by decide +kernel
theorem dX6_plainRows_171 : decode cX6_plainRows 171 = .ok (.iconst 0, 1) := by decide +kernel
theorem dX6_plainRows_172 : decode cX6_plainRows 172 = .ok (.ireturn, 1) := by decide +kernel
theorem dX6_plainRows_173 : decode cX6_plainRows 173 = .ok (.iload_n 2, 1) := by decide +kernel
theorem dX6_plainRows_174 : decode cX6_plainRows 174 = .ok (.aload_n 0, 1) := by decide +kernel
theorem dX6_plainRows_175 : decode cX6_plainRows 175 = .ok (.getfield 20, 3) := by decide +kernel
theorem dX6_plainRows_178 : decode cX6_plainRows 178 = .ok (.iload_n 1, 1) := by decide +kernel
theorem dX6_plainRows_179 : decode cX6_plainRows 179 = .ok (.iaload, 1) := by decide +kernel
theorem dX6_plainRows_180 : decode cX6_plainRows 180 = .ok (.iadd, 1) := by decide +kernel
theorem dX6_plainRows_181 : decode cX6_plainRows 181 = .ok (.istore_n 2, 1) := by decide +kernel
theorem dX6_plainRows_182 : decode cX6_plainRows 182 = .ok (.iload_n 3, 1) := by decide +kernel
theorem dX6_plainRows_183 : decode cX6_plainRows 183 = .ok (.aload_n 0, 1) := by decide +kernel
theorem dX6_plainRows_184 : decode cX6_plainRows 184 = .ok (.getfield 20, 3) := by decide +kernel
theorem dX6_plainRows_187 : decode cX6_plainRows 187 = .ok (.iload_n 1, 1) := by decide +kernel
theorem dX6_plainRows_188 : decode cX6_plainRows 188 = .ok (.iconst 1, 1) := by decide +kernel
theorem dX6_plainRows_189 : decode cX6_plainRows 189 = .ok (.iadd, 1) := by decide +kernel
theorem dX6_plainRows_190 : decode cX6_plainRows 190 = .ok (.iaload, 1) := by decide +kernel
theorem dX6_plainRows_191 : decode cX6_plainRows 191 = .ok (.iadd, 1) := by decide +kernel
theorem dX6_plainRows_192 : decode cX6_plainRows 192 = .ok (.istore_n 3, 1) := by decide +kernel
theorem dX6_plainRows_193 : decode cX6_plainRows 193 = .ok (.iinc 1 2, 3) := by decide +kernel
theorem dX6_plainRows_196 : decode cX6_plainRows 196 = .ok (.goto 32, 3) := by decide +kernel
theorem dX6_plainRows_199 : decode cX6_plainRows 199 = .ok (.aload_n 0, 1) := by decide +kernel
theorem dX6_plainRows_200 : decode cX6_plainRows 200 = .ok (.iload_n 1, 1) := by decide +kernel
theorem dX6_plainRows_201 : decode cX6_plainRows 201 = .ok (.iload 6, 2) := by decide +kernel
theorem dX6_plainRows_203 : decode cX6_plainRows 203 = .ok (.iload 5, 2) := by decide +kernel
theorem dX6_plainRows_205 : decode cX6_plainRows 205 = .ok (.invokevirtual 219, 3) := by decide +kernel
theorem dX6_plainRows_208 : decode cX6_plainRows 208 = .ok (.ifCond .ne 5, 3) := by decide +kernel
theorem dX6_plainRows_211 : decode cX6_plainRows 211 = .ok (.iconst 0, 1) := by decide +kernel
theorem dX6_plainRows_212 : decode cX6_plainRows 212 = .ok (.ireturn, 1) := by decide +kernel
theorem dX6_plainRows_213 : decode cX6_plainRows 213 = .ok (.iload_n 2, 1) := by decide +kernel
theorem dX6_plainRows_214 : decode cX6_plainRows 214 = .ok (.iload 5, 2) := by decide +kernel
theorem dX6_plainRows_216 : decode cX6_plainRows 216 = .ok (.iadd, 1) := by decide +kernel
theorem dX6_plainRows_217 : decode cX6_plainRows 217 = .ok (.istore_n 2, 1) := by decide +kernel
theorem dX6_plainRows_218 : decode cX6_plainRows 218 = .ok (.iload_n 1, 1) := by decide +kernel
theorem dX6_plainRows_219 : decode cX6_plainRows 219 = .ok (.iload 5, 2) := by decide +kernel
theorem dX6_plainRows_221 : decode cX6_plainRows 221 = .ok (.iload 5, 2) := by decide +kernel
theorem dX6_plainRows_223 : decode cX6_plainRows 223 = .ok (.iconst 2, 1) := by decide +kernel
theorem dX6_plainRows_224 : decode cX6_plainRows 224 = .ok (.irem, 1) := by decide +kernel
theorem dX6_plainRows_225 : decode cX6_plainRows 225 = .ok (.iadd, 1) := by decide +kernel
theorem dX6_plainRows_226 : decode cX6_plainRows 226 = .ok (.iadd, 1) := by decide +kernel
theorem dX6_plainRows_227 : decode cX6_plainRows 227 = .ok (.istore_n 1, 1) := by decide +kernel
theorem dX6_plainRows_228 : decode cX6_plainRows 228 = .ok (.goto (-222), 3) := by decide +kernel
theorem dX6_plainRows_231 : decode cX6_plainRows 231 = .ok (.iconst 0, 1) := by decide +kernel
theorem dX6_plainRows_232 : decode cX6_plainRows 232 = .ok (.ireturn, 1) := by decide +kernel
theorem dX6_out_0 : decode cX6_out 0 = .ok (.aload_n 0, 1) := by decide +kernel
theorem dX6_out_1 : decode cX6_out 1 = .ok (.iconst 0, 1) := by decide +kernel
theorem dX6_out_2 : decode cX6_out 2 = .ok (.putfield 46, 3) := by decide +kernel
theorem dX6_out_5 : decode cX6_out 5 = .ok (.iload_n 1, 1) := by decide +kernel
theorem dX6_out_6 : decode cX6_out 6 = .ok (.iconst 0, 1) := by decide +kernel
theorem dX6_out_7 : decode cX6_out 7 = .ok (.aload_n 0, 1) := by decide +kernel
theorem dX6_out_8 : decode cX6_out 8 = .ok (.getfield 203, 3) := by decide +kernel
theorem dX6_out_11 : decode cX6_out 11 = .ok (.iconst 1, 1) := by decide +kernel
theorem dX6_out_12 : decode cX6_out 12 = .ok (.isub, 1) := by decide +kernel
theorem dX6_out_13 : decode cX6_out 13 = .ok (.invokestatic 39, 3) := by decide +kernel
theorem dX6_out_16 : decode cX6_out 16 = .ok (.ifCond .ne 10, 3) := by decide +kernel
theorem dX6_out_19 : decode cX6_out 19 = .ok (.aload_n 0, 1) := by decide +kernel
theorem dX6_out_20 : decode cX6_out 20 = .ok (.iconst 1, 1) := by decide +kernel
theorem dX6_out_21 : decode cX6_out 21 = .ok (.putfield 46, 3) := by decide +kernel
theorem dX6_out_24 : decode cX6_out 24 = .ok (.iconst 0, 1) := by decide +kernel
theorem dX6_out_25 : decode cX6_out 25 = .ok (.ireturn, 1) := by decide +kernel
theorem dX6_out_26 : decode cX6_out 26 = .ok (.aload_n 0, 1) := by decide +kernel
theorem dX6_out_27 : decode cX6_out 27 = .ok (.getfield 23, 3) := by decide +kernel
theorem dX6_out_30 : decode cX6_out 30 = .ok (.iload_n 1, 1) := by decide +kernel
theorem dX6_out_31 : decode cX6_out 31 = .ok (.iaload, 1) := by decide +kernel
theorem dX6_out_32 : decode cX6_out 32 = .ok (.i2b, 1) := by decide +kernel
theorem dX6_out_33 : decode cX6_out 33 = .ok (.ireturn, 1) := by decide +kernel
theorem dX6_at_0 : decode cX6_at 0 = .ok (.aload_n 0, 1) := by decide +kernel
theorem dX6_at_1 : decode cX6_at 1 = .ok (.iconst 0, 1) := by decide +kernel
theorem dX6_at_2 : decode cX6_at 2 = .ok (.putfield 46, 3) := by decide +kernel
theorem dX6_at_5 : decode cX6_at 5 = .ok (.iload_n 1, 1) := by decide +kernel
theorem dX6_at_6 : decode cX6_at 6 = .ok (.iconst 0, 1) := by decide +kernel
theorem dX6_at_7 : decode cX6_at 7 = .ok (.iconst 1, 1) := by decide +kernel
theorem dX6_at_8 : decode cX6_at 8 = .ok (.invokestatic 39, 3) := by decide +kernel
theorem dX6_at_11 : decode cX6_at 11 = .ok (.ifCond .eq 28, 3) := by decide +kernel
theorem dX6_at_14 : decode cX6_at 14 = .ok (.iload_n 2, 1) := by decide +kernel
theorem dX6_at_15 : decode cX6_at 15 = .ok (.iconst 0, 1) := by decide +kernel
theorem dX6_at_16 : decode cX6_at 16 = .ok (.iload_n 1, 1) := by decide +kernel
theorem dX6_at_17 : decode cX6_at 17 = .ok (.ifCond .ne 10, 3) := by decide +kernel
theorem dX6_at_20 : decode cX6_at 20 = .ok (.aload_n 0, 1) := by decide +kernel
theorem dX6_at_21 : decode cX6_at 21 = .ok (.getfield 49, 3) := by decide +kernel
theorem dX6_at_24 : decode cX6_at 24 = .ok (.goto 7, 3) := by decide +kernel
theorem dX6_at_27 : decode cX6_at 27 = .ok (.aload_n 0, 1) := by decide +kernel
theorem dX6_at_28 : decode cX6_at 28 = .ok (.getfield 52, 3) := by decide +kernel
theorem dX6_at_31 : decode cX6_at 31 = .ok (.iconst 1, 1) := by decide +kernel
theorem dX6_at_32 : decode cX6_at 32 = .ok (.isub, 1) := by decide +kernel
theorem dX6_at_33 : decode cX6_at 33 = .ok (.invokestatic 39, 3) := by decide +kernel
theorem dX6_at_36 : decode cX6_at 36 = .ok (.ifCond .ne 5, 3) := by decide +kernel
theorem dX6_at_39 : decode cX6_at 39 = .ok (.iconst (-1), 1) := by decide +kernel
theorem dX6_at_40 : decode cX6_at 40 = .ok (.ireturn, 1) := by decide +kernel
theorem dX6_at_41 : decode cX6_at 41 = .ok (.iload_n 1, 1) := by decide +kernel
theorem dX6_at_42 : decode cX6_at 42 = .ok (.ifCond .ne 12, 3) := by decide +kernel
theorem dX6_at_45 : decode cX6_at 45 = .ok (.aload_n 0, 1) := by decide +kernel
theorem dX6_at_46 : decode cX6_at 46 = .ok (.getfield 16, 3) := by decide +kernel
theorem dX6_at_49 : decode cX6_at 49 = .ok (.iload_n 2, 1) := by decide +kernel
theorem dX6_at_50 : decode cX6_at 50 = .ok (.iaload, 1) := by decide +kernel
theorem dX6_at_51 : decode cX6_at 51 = .ok (.goto 9, 3) := by decide +kernel
theorem dX6_at_54 : decode cX6_at 54 = .ok (.aload_n 0, 1) := by decide +kernel
theorem dX6_at_55 : decode cX6_at 55 = .ok (.getfield 20, 3) := by decide +kernel
theorem dX6_at_58 : decode cX6_at 58 = .ok (.iload_n 2, 1) := by decide +kernel
theorem dX6_at_59 : decode cX6_at 59 = .ok (.iaload, 1) := by decide +kernel
theorem dX6_at_60 : decode cX6_at 60 = .ok (.ireturn, 1) := by decide +kernel
theorem dX6_unit_0 : decode cX6_unit 0 = .ok (.aload_n 0, 1) := by decide +kernel
theorem dX6_unit_1 : decode cX6_unit 1 = .ok (.iconst 0, 1) := by decide +kernel
theorem dX6_unit_2 : decode cX6_unit 2 = .ok (.putfield 46, 3) := by decide +kernel
theorem dX6_unit_5 : decode cX6_unit 5 = .ok (.iload_n 1, 1) := by decide +kernel
theorem dX6_unit_6 : decode cX6_unit 6 = .ok (.iconst 0, 1) := by decide +kernel
theorem dX6_unit_7 : decode cX6_unit 7 = .ok (.aload_n 0, 1) := by decide +kernel
theorem dX6_unit_8 : decode cX6_unit 8 = .ok (.getfield 49, 3) := by decide +kernel
theorem dX6_unit_11 : decode cX6_unit 11 = .ok (.aload_n 0, 1) := by decide +kernel
theorem dX6_unit_12 : decode cX6_unit 12 = .ok (.getfield 7, 3) := by decide +kernel
theorem dX6_unit_15 : decode cX6_unit 15 = .ok (.idiv, 1) := by decide +kernel
theorem dX6_unit_16 : decode cX6_unit 16 = .ok (.iconst 1, 1) := by decide +kernel
theorem dX6_unit_17 : decode cX6_unit 17 = .ok (.isub, 1) := by decide +kernel
theorem dX6_unit_18 : decode cX6_unit 18 = .ok (.invokestatic 39, 3) := by decide +kernel
theorem dX6_unit_21 : decode cX6_unit 21 = .ok (.ifCond .eq 11, 3) := by decide +kernel
theorem dX6_unit_24 : decode cX6_unit 24 = .ok (.aload_n 0, 1) := by decide +kernel
theorem dX6_unit_25 : decode cX6_unit 25 = .ok (.iload_n 1, 1) := by decide +kernel
theorem dX6_unit_26 : decode cX6_unit 26 = .ok (.invokevirtual 64, 3) := by decide +kernel
theorem dX6_unit_29 : decode cX6_unit 29 = .ok (.goto 6, 3) := by decide +kernel
theorem dX6_unit_32 : decode cX6_unit 32 = .ok (.ldc2_w 222, 3) := by decide +kernel
theorem dX6_unit_35 : decode cX6_unit 35 = .ok (.lreturn, 1) := by decide +kernel
theorem dX6_bound_0 : decode cX6_bound 0 = .ok (.aload_n 0, 1) := by decide +kernel
theorem dX6_bound_1 : decode cX6_bound 1 = .ok (.iconst 0, 1) := by decide +kernel
theorem dX6_bound_2 : decode cX6_bound 2 = .ok (.putfield 46, 3) := by decide +kernel
theorem dX6_bound_5 : decode cX6_bound 5 = .ok (.iload_n 1, 1) := by decide +kernel
theorem dX6_bound_6 : decode cX6_bound 6 = .ok (.iconst 0, 1) := by decide +kernel
theorem dX6_bound_7 : decode cX6_bound 7 = .ok (.sipush 240, 3) := by decide +kernel
theorem dX6_bound_10 : decode cX6_bound 10 = .ok (.invokestatic 39, 3) := by decide +kernel
theorem dX6_bound_13 : decode cX6_bound 13 = .ok (.ifCond .eq 11, 3) := by decide +kernel
theorem dX6_bound_16 : decode cX6_bound 16 = .ok (.aload_n 0, 1) := by decide +kernel
theorem dX6_bound_17 : decode cX6_bound 17 = .ok (.iload_n 1, 1) := by decide +kernel
theorem dX6_bound_18 : decode cX6_bound 18 = .ok (.invokevirtual 143, 3) := by decide +kernel
theorem dX6_bound_21 : decode cX6_bound 21 = .ok (.ifCond .ne 5, 3) := by decide +kernel
theorem dX6_bound_24 : decode cX6_bound 24 = .ok (.iconst (-1), 1) := by decide +kernel
theorem dX6_bound_25 : decode cX6_bound 25 = .ok (.ireturn, 1) := by decide +kernel
theorem dX6_bound_26 : decode cX6_bound 26 = .ok (.aload_n 0, 1) := by decide +kernel
theorem dX6_bound_27 : decode cX6_bound 27 = .ok (.getfield 43, 3) := by decide +kernel
theorem dX6_bound_30 : decode cX6_bound 30 = .ok (.ifCond .ne 16, 3) := by decide +kernel
theorem dX6_bound_33 : decode cX6_bound 33 = .ok (.iload_n 1, 1) := by decide +kernel
theorem dX6_bound_34 : decode cX6_bound 34 = .ok (.iconst 2, 1) := by decide +kernel
theorem dX6_bound_35 : decode cX6_bound 35 = .ok (.iadd, 1) := by decide +kernel
theorem dX6_bound_36 : decode cX6_bound 36 = .ok (.iconst 2, 1) := by decide +kernel
theorem dX6_bound_37 : decode cX6_bound 37 = .ok (.iload_n 1, 1) := by decide +kernel
theorem dX6_bound_38 : decode cX6_bound 38 = .ok (.aload_n 0, 1) := by decide +kernel
theorem dX6_bound_39 : decode cX6_bound 39 = .ok (.getfield 7, 3) := by decide +kernel
theorem dX6_bound_42 : decode cX6_bound 42 = .ok (.idiv, 1) := by decide +kernel
theorem dX6_bound_43 : decode cX6_bound 43 = .ok (.imul, 1) := by decide +kernel
theorem dX6_bound_44 : decode cX6_bound 44 = .ok (.iadd, 1) := by decide +kernel
theorem dX6_bound_45 : decode cX6_bound 45 = .ok (.ireturn, 1) := by decide +kernel
theorem dX6_bound_46 : decode cX6_bound 46 = .ok (.aload_n 0, 1) := by decide +kernel
theorem dX6_bound_47 : decode cX6_bound 47 = .ok (.getfield 43, 3) := by decide +kernel
theorem dX6_bound_50 : decode cX6_bound 50 = .ok (.iconst 1, 1) := by decide +kernel
theorem dX6_bound_51 : decode cX6_bound 51 = .ok (.if_icmp .ne 19, 3) := by decide +kernel
theorem dX6_bound_54 : decode cX6_bound 54 = .ok (.iload_n 1, 1) := by decide +kernel
theorem dX6_bound_55 : decode cX6_bound 55 = .ok (.iload_n 1, 1) := by decide +kernel
theorem dX6_bound_56 : decode cX6_bound 56 = .ok (.aload_n 0, 1) := by decide +kernel
theorem dX6_bound_57 : decode cX6_bound 57 = .ok (.getfield 7, 3) := by decide +kernel
theorem dX6_bound_60 : decode cX6_bound 60 = .ok (.idiv, 1) := by decide +kernel
theorem dX6_bound_61 : decode cX6_bound 61 = .ok (.bipush 127, 2) := by decide +kernel
theorem dX6_bound_63 : decode cX6_bound 63 = .ok (.iadd, 1) := by decide +kernel
theorem dX6_bound_64 : decode cX6_bound 64 = .ok (.sipush 128, 3) := by decide +kernel
theorem dX6_bound_67 : decode cX6_bound 67 = .ok (.idiv, 1) := by decide +kernel
theorem dX6_bound_68 : decode cX6_bound 68 = .ok (.iadd, 1) := by decide +kernel
theorem dX6_bound_69 : decode cX6_bound 69 = .ok (.ireturn, 1) := by decide +kernel
theorem dX6_bound_70 : decode cX6_bound 70 = .ok (.aload_n 0, 1) := by decide +kernel
theorem dX6_bound_71 : decode cX6_bound 71 = .ok (.getfield 13, 3) := by decide +kernel
theorem dX6_bound_74 : decode cX6_bound 74 = .ok (.iconst 2, 1) := by decide +kernel
theorem dX6_bound_75 : decode cX6_bound 75 = .ok (.iadd, 1) := by decide +kernel
theorem dX6_bound_76 : decode cX6_bound 76 = .ok (.aload_n 0, 1) := by decide +kernel
theorem dX6_bound_77 : decode cX6_bound 77 = .ok (.getfield 13, 3) := by decide +kernel
theorem dX6_bound_80 : decode cX6_bound 80 = .ok (.iconst 2, 1) := by decide +kernel
theorem dX6_bound_81 : decode cX6_bound 81 = .ok (.irem, 1) := by decide +kernel
theorem dX6_bound_82 : decode cX6_bound 82 = .ok (.iadd, 1) := by decide +kernel
theorem dX6_bound_83 : decode cX6_bound 83 = .ok (.istore_n 2, 1) := by decide +kernel
theorem dX6_bound_84 : decode cX6_bound 84 = .ok (.aload_n 0, 1) := by decide +kernel
theorem dX6_bound_85 : decode cX6_bound 85 = .ok (.getfield 13, 3) := by decide +kernel
theorem dX6_bound_88 : decode cX6_bound 88 = .ok (.iconst 2, 1) := by decide +kernel
theorem dX6_bound_89 : decode cX6_bound 89 = .ok (.if_icmp .le 17, 3) := by decide +kernel
theorem dX6_bound_92 : decode cX6_bound 92 = .ok (.iload_n 2, 1) := by decide +kernel
theorem dX6_bound_93 : decode cX6_bound 93 = .ok (.iconst 2, 1) := by decide +kernel
theorem dX6_bound_94 : decode cX6_bound 94 = .ok (.aload_n 0, 1) := by decide +kernel
theorem dX6_bound_95 : decode cX6_bound 95 = .ok (.getfield 13, 3) := by decide +kernel
theorem dX6_bound_98 : decode cX6_bound 98 = .ok (.imul, 1) := by decide +kernel
theorem dX6_bound_99 : decode cX6_bound 99 = .ok (.if_icmp .ge 7, 3) := by decide +kernel
theorem dX6_bound_102 : decode cX6_bound 102 = .ok (.iload_n 2, 1) := by decide +kernel
theorem dX6_bound_103 : decode cX6_bound 103 = .ok (.goto 9, 3) := by decide +kernel
theorem dX6_bound_106 : decode cX6_bound 106 = .ok (.iconst 2, 1) := by decide +kernel
theorem dX6_bound_107 : decode cX6_bound 107 = .ok (.aload_n 0, 1) := by decide +kernel
theorem dX6_bound_108 : decode cX6_bound 108 = .ok (.getfield 13, 3) := by decide +kernel
theorem dX6_bound_111 : decode cX6_bound 111 = .ok (.imul, 1) := by decide +kernel
theorem dX6_bound_112 : decode cX6_bound 112 = .ok (.istore_n 3, 1) := by decide +kernel
theorem dX6_bound_113 : decode cX6_bound 113 = .ok (.iconst 2, 1) := by decide +kernel
theorem dX6_bound_114 : decode cX6_bound 114 = .ok (.iload_n 1, 1) := by decide +kernel
theorem dX6_bound_115 : decode cX6_bound 115 = .ok (.aload_n 0, 1) := by decide +kernel
theorem dX6_bound_116 : decode cX6_bound 116 = .ok (.getfield 13, 3) := by decide +kernel
theorem dX6_bound_119 : decode cX6_bound 119 = .ok (.idiv, 1) := by decide +kernel
theorem dX6_bound_120 : decode cX6_bound 120 = .ok (.iconst 2, 1) := by decide +kernel
theorem dX6_bound_121 : decode cX6_bound 121 = .ok (.iload_n 3, 1) := by decide +kernel
theorem dX6_bound_122 : decode cX6_bound 122 = .ok (.iadd, 1) := by decide +kernel
theorem dX6_bound_123 : decode cX6_bound 123 = .ok (.imul, 1) := by decide +kernel
theorem dX6_bound_124 : decode cX6_bound 124 = .ok (.iadd, 1) := by decide +kernel
theorem dX6_bound_125 : decode cX6_bound 125 = .ok (.ireturn, 1) := by decide +kernel
theorem dX6_told_0 : decode cX6_told 0 = .ok (.aload_n 0, 1) := by decide +kernel
theorem dX6_told_1 : decode cX6_told 1 = .ok (.iconst 0, 1) := by decide +kernel
theorem dX6_told_2 : decode cX6_told 2 = .ok (.putfield 46, 3) := by decide +kernel
theorem dX6_told_5 : decode cX6_told 5 = .ok (.iload_n 1, 1) := by decide +kernel
theorem dX6_told_6 : decode cX6_told 6 = .ok (.tableswitch 59 0 4 #[34, 39, 44, 49, 54], 34) := by decide +kernel
theorem dX6_told_40 : decode cX6_told 40 = .ok (.aload_n 0, 1) := by decide +kernel
theorem dX6_told_41 : decode cX6_told 41 = .ok (.getfield 43, 3) := by decide +kernel
theorem dX6_told_44 : decode cX6_told 44 = .ok (.ireturn, 1) := by decide +kernel
theorem dX6_told_45 : decode cX6_told 45 = .ok (.aload_n 0, 1) := by decide +kernel
theorem dX6_told_46 : decode cX6_told 46 = .ok (.getfield 49, 3) := by decide +kernel
theorem dX6_told_49 : decode cX6_told 49 = .ok (.ireturn, 1) := by decide +kernel
theorem dX6_told_50 : decode cX6_told 50 = .ok (.aload_n 0, 1) := by decide +kernel
theorem dX6_told_51 : decode cX6_told 51 = .ok (.getfield 52, 3) := by decide +kernel
theorem dX6_told_54 : decode cX6_told 54 = .ok (.ireturn, 1) := by decide +kernel
theorem dX6_told_55 : decode cX6_told 55 = .ok (.aload_n 0, 1) := by decide +kernel
theorem dX6_told_56 : decode cX6_told 56 = .ok (.getfield 203, 3) := by decide +kernel
theorem dX6_told_59 : decode cX6_told 59 = .ok (.ireturn, 1) := by decide +kernel
theorem dX6_told_60 : decode cX6_told 60 = .ok (.aload_n 0, 1) := by decide +kernel
theorem dX6_told_61 : decode cX6_told 61 = .ok (.getfield 206, 3) := by decide +kernel
theorem dX6_told_64 : decode cX6_told 64 = .ok (.ireturn, 1) := by decide +kernel
theorem dX6_told_65 : decode cX6_told 65 = .ok (.iconst (-1), 1) := by decide +kernel
theorem dX6_told_66 : decode cX6_told 66 = .ok (.ireturn, 1) := by decide +kernel
