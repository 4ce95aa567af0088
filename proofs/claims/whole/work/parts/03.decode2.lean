theorem dX9_init_0 : decode cX9_init 0 = .ok (.aload_n 0, 1) := by decide +kernel
theorem dX9_init_1 : decode cX9_init 1 = .ok (.invokespecial 1, 3) := by decide +kernel
theorem dX9_init_4 : decode cX9_init 4 = .ok (.aload_n 0, 1) := by decide +kernel
theorem dX9_init_5 : decode cX9_init 5 = .ok (.sipush 782, 3) := by decide +kernel
theorem dX9_init_8 : decode cX9_init 8 = .ok (.newarray .int, 2) := by decide +kernel
theorem dX9_init_10 : decode cX9_init 10 = .ok (.putfield 7, 3) := by decide +kernel
theorem dX9_init_13 : decode cX9_init 13 = .ok (.aload_n 0, 1) := by decide +kernel
theorem dX9_init_14 : decode cX9_init 14 = .ok (.iconst 2, 1) := by decide +kernel
theorem dX9_init_15 : decode cX9_init 15 = .ok (.newarray .int, 2) := by decide +kernel
theorem dX9_init_17 : decode cX9_init 17 = .ok (.putfield 13, 3) := by decide +kernel
theorem dX9_init_20 : decode cX9_init 20 = .ok (.aload_n 0, 1) := by decide +kernel
theorem dX9_init_21 : decode cX9_init 21 = .ok (.bipush 30, 2) := by decide +kernel
theorem dX9_init_23 : decode cX9_init 23 = .ok (.newarray .int, 2) := by decide +kernel
theorem dX9_init_25 : decode cX9_init 25 = .ok (.putfield 16, 3) := by decide +kernel
theorem dX9_init_28 : decode cX9_init 28 = .ok (.aload_n 0, 1) := by decide +kernel
theorem dX9_init_29 : decode cX9_init 29 = .ok (.iconst (-1), 1) := by decide +kernel
theorem dX9_init_30 : decode cX9_init 30 = .ok (.putfield 19, 3) := by decide +kernel
theorem dX9_init_33 : decode cX9_init 33 = .ok (.aload_n 0, 1) := by decide +kernel
theorem dX9_init_34 : decode cX9_init 34 = .ok (.bipush 20, 2) := by decide +kernel
theorem dX9_init_36 : decode cX9_init 36 = .ok (.newarray .int, 2) := by decide +kernel
theorem dX9_init_38 : decode cX9_init 38 = .ok (.putfield 23, 3) := by decide +kernel
theorem dX9_init_41 : decode cX9_init 41 = .ok (.aload_n 0, 1) := by decide +kernel
theorem dX9_init_42 : decode cX9_init 42 = .ok (.bipush 20, 2) := by decide +kernel
theorem dX9_init_44 : decode cX9_init 44 = .ok (.newarray .int, 2) := by decide +kernel
theorem dX9_init_46 : decode cX9_init 46 = .ok (.putfield 26, 3) := by decide +kernel
theorem dX9_init_49 : decode cX9_init 49 = .ok (.aload_n 0, 1) := by decide +kernel
theorem dX9_init_50 : decode cX9_init 50 = .ok (.bipush 16, 2) := by decide +kernel
theorem dX9_init_52 : decode cX9_init 52 = .ok (.newarray .int, 2) := by decide +kernel
theorem dX9_init_54 : decode cX9_init 54 = .ok (.putfield 29, 3) := by decide +kernel
theorem dX9_init_57 : decode cX9_init 57 = .ok (.aload_n 0, 1) := by decide +kernel
theorem dX9_init_58 : decode cX9_init 58 = .ok (.bipush 16, 2) := by decide +kernel
theorem dX9_init_60 : decode cX9_init 60 = .ok (.newarray .int, 2) := by decide +kernel
theorem dX9_init_62 : decode cX9_init 62 = .ok (.putfield 32, 3) := by decide +kernel
theorem dX9_init_65 : decode cX9_init 65 = .ok (.aload_n 0, 1) := by decide +kernel
theorem dX9_init_66 : decode cX9_init 66 = .ok (.bipush 16, 2) := by decide +kernel
theorem dX9_init_68 : decode cX9_init 68 = .ok (.newarray .int, 2) := by decide +kernel
theorem dX9_init_70 : decode cX9_init 70 = .ok (.putfield 35, 3) := by decide +kernel
theorem dX9_init_73 : decode cX9_init 73 = .ok (.aload_n 0, 1) := by decide +kernel
theorem dX9_init_74 : decode cX9_init 74 = .ok (.bipush 24, 2) := by decide +kernel
theorem dX9_init_76 : decode cX9_init 76 = .ok (.newarray .long, 2) := by decide +kernel
theorem dX9_init_78 : decode cX9_init 78 = .ok (.putfield 38, 3) := by decide +kernel
theorem dX9_init_81 : decode cX9_init 81 = .ok (.aload_n 0, 1) := by decide +kernel
theorem dX9_init_82 : decode cX9_init 82 = .ok (.bipush 8, 2) := by decide +kernel
theorem dX9_init_84 : decode cX9_init 84 = .ok (.newarray .long, 2) := by decide +kernel
theorem dX9_init_86 : decode cX9_init 86 = .ok (.putfield 42, 3) := by decide +kernel
theorem dX9_init_89 : decode cX9_init 89 = .ok (.aload_n 0, 1) := by decide +kernel
theorem dX9_init_90 : decode cX9_init 90 = .ok (.bipush 8, 2) := by decide +kernel
theorem dX9_init_92 : decode cX9_init 92 = .ok (.newarray .long, 2) := by decide +kernel
theorem dX9_init_94 : decode cX9_init 94 = .ok (.putfield 45, 3) := by decide +kernel
theorem dX9_init_97 : decode cX9_init 97 = .ok (.aload_n 0, 1) := by decide +kernel
theorem dX9_init_98 : decode cX9_init 98 = .ok (.bipush 8, 2) := by decide +kernel
theorem dX9_init_100 : decode cX9_init 100 = .ok (.newarray .long, 2) := by decide +kernel
theorem dX9_init_102 : decode cX9_init 102 = .ok (.putfield 48, 3) := by decide +kernel
theorem dX9_init_105 : decode cX9_init 105 = .ok (.aload_n 0, 1) := by decide +kernel
theorem dX9_init_106 : decode cX9_init 106 = .ok (.bipush 8, 2) := by decide +kernel
theorem dX9_init_108 : decode cX9_init 108 = .ok (.newarray .int, 2) := by decide +kernel
theorem dX9_init_110 : decode cX9_init 110 = .ok (.putfield 51, 3) := by decide +kernel
theorem dX9_init_113 : decode cX9_init 113 = .ok (.iconst 0, 1) := by decide +kernel
theorem dX9_init_114 : decode cX9_init 114 = .ok (.istore_n 1, 1) := by decide +kernel
theorem dX9_init_115 : decode cX9_init 115 = .ok (.iload_n 1, 1) := by decide +kernel
theorem dX9_init_116 : decode cX9_init 116 = .ok (.bipush 8, 2) := by decide +kernel
theorem dX9_init_118 : decode cX9_init 118 = .ok (.if_icmp .ge 19, 3) := by decide +kernel
theorem dX9_init_121 : decode cX9_init 121 = .ok (.aload_n 0, 1) := by decide +kernel
theorem dX9_init_122 : decode cX9_init 122 = .ok (.getfield 7, 3) := by decide +kernel
theorem dX9_init_125 : decode cX9_init 125 = .ok (.bipush 25, 2) := by decide +kernel
theorem dX9_init_127 : decode cX9_init 127 = .ok (.iload_n 1, 1) := by decide +kernel
theorem dX9_init_128 : decode cX9_init 128 = .ok (.iadd, 1) := by decide +kernel
theorem dX9_init_129 : decode cX9_init 129 = .ok (.iconst (-1), 1) := by decide +kernel
theorem dX9_init_130 : decode cX9_init 130 = .ok (.iastore, 1) := by decide +kernel
theorem dX9_init_131 : decode cX9_init 131 = .ok (.iinc 1 1, 3) := by decide +kernel
theorem dX9_init_134 : decode cX9_init 134 = .ok (.goto (-19), 3) := by decide +kernel
theorem dX9_init_137 : decode cX9_init 137 = .ok (.return_, 1) := by decide +kernel
theorem dX9_in_0 : decode cX9_in 0 = .ok (.iload_n 0, 1) := by decide +kernel
theorem dX9_in_1 : decode cX9_in 1 = .ok (.iload_n 1, 1) := by decide +kernel
theorem dX9_in_2 : decode cX9_in 2 = .ok (.if_icmp .lt 12, 3) := by decide +kernel
theorem dX9_in_5 : decode cX9_in 5 = .ok (.iload_n 0, 1) := by decide +kernel
theorem dX9_in_6 : decode cX9_in 6 = .ok (.iload_n 2, 1) := by decide +kernel
theorem dX9_in_7 : decode cX9_in 7 = .ok (.if_icmp .gt 7, 3) := by decide +kernel
theorem dX9_in_10 : decode cX9_in 10 = .ok (.iconst 1, 1) := by decide +kernel
theorem dX9_in_11 : decode cX9_in 11 = .ok (.goto 4, 3) := by decide +kernel
theorem dX9_in_14 : decode cX9_in 14 = .ok (.iconst 0, 1) := by decide +kernel
theorem dX9_in_15 : decode cX9_in 15 = .ok (.ireturn, 1) := by decide +kernel
theorem dX9_copyRow_0 : decode cX9_copyRow 0 = .ok (.iconst 0, 1) := by decide +kernel
theorem dX9_copyRow_1 : decode cX9_copyRow 1 = .ok (.istore_n 3, 1) := by decide +kernel
theorem dX9_copyRow_2 : decode cX9_copyRow 2 = .ok (.iload_n 3, 1) := by decide +kernel
theorem dX9_copyRow_3 : decode cX9_copyRow 3 = .ok (.bipush 34, 2) := by decide +kernel
theorem dX9_copyRow_5 : decode cX9_copyRow 5 = .ok (.if_icmp .ge 25, 3) := by decide +kernel
theorem dX9_copyRow_8 : decode cX9_copyRow 8 = .ok (.aload_n 0, 1) := by decide +kernel
theorem dX9_copyRow_9 : decode cX9_copyRow 9 = .ok (.getfield 7, 3) := by decide +kernel
theorem dX9_copyRow_12 : decode cX9_copyRow 12 = .ok (.iload_n 2, 1) := by decide +kernel
theorem dX9_copyRow_13 : decode cX9_copyRow 13 = .ok (.iload_n 3, 1) := by decide +kernel
theorem dX9_copyRow_14 : decode cX9_copyRow 14 = .ok (.iadd, 1) := by decide +kernel
theorem dX9_copyRow_15 : decode cX9_copyRow 15 = .ok (.aload_n 0, 1) := by decide +kernel
theorem dX9_copyRow_16 : decode cX9_copyRow 16 = .ok (.getfield 7, 3) := by decide +kernel
theorem dX9_copyRow_19 : decode cX9_copyRow 19 = .ok (.iload_n 1, 1) := by decide +kernel
theorem dX9_copyRow_20 : decode cX9_copyRow 20 = .ok (.iload_n 3, 1) := by decide +kernel
theorem dX9_copyRow_21 : decode cX9_copyRow 21 = .ok (.iadd, 1) := by decide +kernel
theorem dX9_copyRow_22 : decode cX9_copyRow 22 = .ok (.iaload, 1) := by decide +kernel
theorem dX9_copyRow_23 : decode cX9_copyRow 23 = .ok (.iastore, 1) := by decide +kernel
theorem dX9_copyRow_24 : decode cX9_copyRow 24 = .ok (.iinc 3 1, 3) := by decide +kernel
theorem dX9_copyRow_27 : decode cX9_copyRow 27 = .ok (.goto (-25), 3) := by decide +kernel
theorem dX9_copyRow_30 : decode cX9_copyRow 30 = .ok (.return_, 1) := by decide +kernel
theorem dX9_isTree_0 : decode cX9_isTree 0 = .ok (.iload_n 1, 1) := by decide +kernel
theorem dX9_isTree_1 : decode cX9_isTree 1 = .ok (.iconst 0, 1) := by decide +kernel
theorem dX9_isTree_2 : decode cX9_isTree 2 = .ok (.aload_n 0, 1) := by decide +kernel
theorem dX9_isTree_3 : decode cX9_isTree 3 = .ok (.getfield 7, 3) := by decide +kernel
theorem dX9_isTree_6 : decode cX9_isTree 6 = .ok (.iconst 0, 1) := by decide +kernel
theorem dX9_isTree_7 : decode cX9_isTree 7 = .ok (.iaload, 1) := by decide +kernel
theorem dX9_isTree_8 : decode cX9_isTree 8 = .ok (.iconst 1, 1) := by decide +kernel
theorem dX9_isTree_9 : decode cX9_isTree 9 = .ok (.isub, 1) := by decide +kernel
theorem dX9_isTree_10 : decode cX9_isTree 10 = .ok (.invokestatic 54, 3) := by decide +kernel
theorem dX9_isTree_13 : decode cX9_isTree 13 = .ok (.ireturn, 1) := by decide +kernel
theorem dX9_open_0 : decode cX9_open 0 = .ok (.iconst 1, 1) := by decide +kernel
theorem dX9_open_1 : decode cX9_open 1 = .ok (.istore_n 3, 1) := by decide +kernel
theorem dX9_open_2 : decode cX9_open 2 = .ok (.iload_n 1, 1) := by decide +kernel
theorem dX9_open_3 : decode cX9_open 3 = .ok (.istore 4, 2) := by decide +kernel
theorem dX9_open_5 : decode cX9_open 5 = .ok (.iload 4, 2) := by decide +kernel
theorem dX9_open_7 : decode cX9_open 7 = .ok (.iconst 3, 1) := by decide +kernel
theorem dX9_open_8 : decode cX9_open 8 = .ok (.if_icmp .lt 15, 3) := by decide +kernel
theorem dX9_open_11 : decode cX9_open 11 = .ok (.iload 4, 2) := by decide +kernel
theorem dX9_open_13 : decode cX9_open 13 = .ok (.iconst 3, 1) := by decide +kernel
theorem dX9_open_14 : decode cX9_open 14 = .ok (.idiv, 1) := by decide +kernel
theorem dX9_open_15 : decode cX9_open 15 = .ok (.istore 4, 2) := by decide +kernel
theorem dX9_open_17 : decode cX9_open 17 = .ok (.iinc 3 1, 3) := by decide +kernel
theorem dX9_open_20 : decode cX9_open 20 = .ok (.goto (-15), 3) := by decide +kernel
theorem dX9_open_23 : decode cX9_open 23 = .ok (.aload_n 0, 1) := by decide +kernel
theorem dX9_open_24 : decode cX9_open 24 = .ok (.iload_n 3, 1) := by decide +kernel
theorem dX9_open_25 : decode cX9_open 25 = .ok (.putfield 58, 3) := by decide +kernel
theorem dX9_open_28 : decode cX9_open 28 = .ok (.aload_n 0, 1) := by decide +kernel
theorem dX9_open_29 : decode cX9_open 29 = .ok (.iload_n 2, 1) := by decide +kernel
theorem dX9_open_30 : decode cX9_open 30 = .ok (.putfield 61, 3) := by decide +kernel
theorem dX9_open_33 : decode cX9_open 33 = .ok (.iload_n 1, 1) := by decide +kernel
theorem dX9_open_34 : decode cX9_open 34 = .ok (.istore 4, 2) := by decide +kernel
theorem dX9_open_36 : decode cX9_open 36 = .ok (.iload_n 3, 1) := by decide +kernel
theorem dX9_open_37 : decode cX9_open 37 = .ok (.iconst 1, 1) := by decide +kernel
theorem dX9_open_38 : decode cX9_open 38 = .ok (.isub, 1) := by decide +kernel
theorem dX9_open_39 : decode cX9_open 39 = .ok (.istore 5, 2) := by decide +kernel
theorem dX9_open_41 : decode cX9_open 41 = .ok (.iload 5, 2) := by decide +kernel
theorem dX9_open_43 : decode cX9_open 43 = .ok (.ifCond .lt 26, 3) := by decide +kernel
theorem dX9_open_46 : decode cX9_open 46 = .ok (.aload_n 0, 1) := by decide +kernel
theorem dX9_open_47 : decode cX9_open 47 = .ok (.getfield 29, 3) := by decide +kernel
theorem dX9_open_50 : decode cX9_open 50 = .ok (.iload 5, 2) := by decide +kernel
theorem dX9_open_52 : decode cX9_open 52 = .ok (.iload 4, 2) := by decide +kernel
theorem dX9_open_54 : decode cX9_open 54 = .ok (.iconst 3, 1) := by decide +kernel
theorem dX9_open_55 : decode cX9_open 55 = .ok (.irem, 1) := by decide +kernel
theorem dX9_open_56 : decode cX9_open 56 = .ok (.iastore, 1) := by decide +kernel
theorem dX9_open_57 : decode cX9_open 57 = .ok (.iload 4, 2) := by decide +kernel
theorem dX9_open_59 : decode cX9_open 59 = .ok (.iconst 3, 1) := by decide +kernel
theorem dX9_open_60 : decode cX9_open 60 = .ok (.idiv, 1) := by decide +kernel
theorem dX9_open_61 : decode cX9_open 61 = .ok (.istore 4, 2) := by decide +kernel
theorem dX9_open_63 : decode cX9_open 63 = .ok (.iinc 5 (-1), 3) := by decide +kernel
theorem dX9_open_66 : decode cX9_open 66 = .ok (.goto (-25), 3) := by decide +kernel
theorem dX9_open_69 : decode cX9_open 69 = .ok (.return_, 1) := by decide +kernel
theorem dX9_openTree_0 : decode cX9_openTree 0 = .ok (.aload_n 0, 1) := by decide +kernel
theorem dX9_openTree_1 : decode cX9_openTree 1 = .ok (.aload_n 0, 1) := by decide +kernel
theorem dX9_openTree_2 : decode cX9_openTree 2 = .ok (.getfield 7, 3) := by decide +kernel
theorem dX9_openTree_5 : decode cX9_openTree 5 = .ok (.iconst 1, 1) := by decide +kernel
theorem dX9_openTree_6 : decode cX9_openTree 6 = .ok (.iload_n 1, 1) := by decide +kernel
theorem dX9_openTree_7 : decode cX9_openTree 7 = .ok (.iadd, 1) := by decide +kernel
theorem dX9_openTree_8 : decode cX9_openTree 8 = .ok (.iaload, 1) := by decide +kernel
theorem dX9_openTree_9 : decode cX9_openTree 9 = .ok (.aload_n 0, 1) := by decide +kernel
theorem dX9_openTree_10 : decode cX9_openTree 10 = .ok (.getfield 7, 3) := by decide +kernel
theorem dX9_openTree_13 : decode cX9_openTree 13 = .ok (.bipush 9, 2) := by decide +kernel
theorem dX9_openTree_15 : decode cX9_openTree 15 = .ok (.iload_n 1, 1) := by decide +kernel
theorem dX9_openTree_16 : decode cX9_openTree 16 = .ok (.iadd, 1) := by decide +kernel
theorem dX9_openTree_17 : decode cX9_openTree 17 = .ok (.iaload, 1) := by decide +kernel
theorem dX9_openTree_18 : decode cX9_openTree 18 = .ok (.invokevirtual 64, 3) := by decide +kernel
theorem dX9_openTree_21 : decode cX9_openTree 21 = .ok (.return_, 1) := by decide +kernel
theorem dX9_code_0 : decode cX9_code 0 = .ok (.iconst 0, 1) := by decide +kernel
theorem dX9_code_1 : decode cX9_code 1 = .ok (.istore_n 1, 1) := by decide +kernel
theorem dX9_code_2 : decode cX9_code 2 = .ok (.iconst 0, 1) := by decide +kernel
theorem dX9_code_3 : decode cX9_code 3 = .ok (.istore_n 2, 1) := by decide +kernel
theorem dX9_code_4 : decode cX9_code 4 = .ok (.iload_n 2, 1) := by decide +kernel
theorem dX9_code_5 : decode cX9_code 5 = .ok (.aload_n 0, 1) := by decide +kernel
theorem dX9_code_6 : decode cX9_code 6 = .ok (.getfield 58, 3) := by decide +kernel
theorem dX9_code_9 : decode cX9_code 9 = .ok (.if_icmp .ge 20, 3) := by decide +kernel
theorem dX9_code_12 : decode cX9_code 12 = .ok (.iconst 3, 1) := by decide +kernel
theorem dX9_code_13 : decode cX9_code 13 = .ok (.iload_n 1, 1) := by decide +kernel
theorem dX9_code_14 : decode cX9_code 14 = .ok (.imul, 1) := by decide +kernel
theorem dX9_code_15 : decode cX9_code 15 = .ok (.aload_n 0, 1) := by decide +kernel
theorem dX9_code_16 : decode cX9_code 16 = .ok (.getfield 29, 3) := by decide +kernel
theorem dX9_code_19 : decode cX9_code 19 = .ok (.iload_n 2, 1) := by decide +kernel
theorem dX9_code_20 : decode cX9_code 20 = .ok (.iaload, 1) := by decide +kernel
theorem dX9_code_21 : decode cX9_code 21 = .ok (.iadd, 1) := by decide +kernel
theorem dX9_code_22 : decode cX9_code 22 = .ok (.istore_n 1, 1) := by decide +kernel
theorem dX9_code_23 : decode cX9_code 23 = .ok (.iinc 2 1, 3) := by decide +kernel
theorem dX9_code_26 : decode cX9_code 26 = .ok (.goto (-22), 3) := by decide +kernel
theorem dX9_code_29 : decode cX9_code 29 = .ok (.iload_n 1, 1) := by decide +kernel
theorem dX9_code_30 : decode cX9_code 30 = .ok (.ireturn, 1) := by decide +kernel
theorem dX9_nodes_0 : decode cX9_nodes 0 = .ok (.aload_n 0, 1) := by decide +kernel
theorem dX9_nodes_1 : decode cX9_nodes 1 = .ok (.getfield 58, 3) := by decide +kernel
theorem dX9_nodes_4 : decode cX9_nodes 4 = .ok (.iconst 2, 1) := by decide +kernel
theorem dX9_nodes_5 : decode cX9_nodes 5 = .ok (.idiv, 1) := by decide +kernel
theorem dX9_nodes_6 : decode cX9_nodes 6 = .ok (.ireturn, 1) := by decide +kernel
theorem dX9_behind_0 : decode cX9_behind 0 = .ok (.iconst 1, 1) := by decide +kernel
theorem dX9_behind_1 : decode cX9_behind 1 = .ok (.istore_n 2, 1) := by decide +kernel
theorem dX9_behind_2 : decode cX9_behind 2 = .ok (.iload_n 1, 1) := by decide +kernel
theorem dX9_behind_3 : decode cX9_behind 3 = .ok (.istore_n 3, 1) := by decide +kernel
theorem dX9_behind_4 : decode cX9_behind 4 = .ok (.iload_n 2, 1) := by decide +kernel
theorem dX9_behind_5 : decode cX9_behind 5 = .ok (.ifCond .le 26, 3) := by decide +kernel
theorem dX9_behind_8 : decode cX9_behind 8 = .ok (.iload_n 2, 1) := by decide +kernel
theorem dX9_behind_9 : decode cX9_behind 9 = .ok (.aload_n 0, 1) := by decide +kernel
theorem dX9_behind_10 : decode cX9_behind 10 = .ok (.getfield 29, 3) := by decide +kernel
theorem dX9_behind_13 : decode cX9_behind 13 = .ok (.iload_n 3, 1) := by decide +kernel
theorem dX9_behind_14 : decode cX9_behind 14 = .ok (.iaload, 1) := by decide +kernel
theorem dX9_behind_15 : decode cX9_behind 15 = .ok (.ifCond .ne 7, 3) := by decide +kernel
theorem dX9_behind_18 : decode cX9_behind 18 = .ok (.iconst (-1), 1) := by decide +kernel
theorem dX9_behind_19 : decode cX9_behind 19 = .ok (.goto 4, 3) := by decide +kernel
theorem dX9_behind_22 : decode cX9_behind 22 = .ok (.iconst 1, 1) := by decide +kernel
theorem dX9_behind_23 : decode cX9_behind 23 = .ok (.iadd, 1) := by decide +kernel
theorem dX9_behind_24 : decode cX9_behind 24 = .ok (.istore_n 2, 1) := by decide +kernel
theorem dX9_behind_25 : decode cX9_behind 25 = .ok (.iinc 3 1, 3) := by decide +kernel
theorem dX9_behind_28 : decode cX9_behind 28 = .ok (.goto (-24), 3) := by decide +kernel
theorem dX9_behind_31 : decode cX9_behind 31 = .ok (.iload_n 3, 1) := by decide +kernel
theorem dX9_behind_32 : decode cX9_behind 32 = .ok (.ireturn, 1) := by decide +kernel
theorem dX9_branchOf_0 : decode cX9_branchOf 0 = .ok (.iload_n 2, 1) := by decide +kernel
theorem dX9_branchOf_1 : decode cX9_branchOf 1 = .ok (.ifCond .ne 9, 3) := by decide +kernel
theorem dX9_branchOf_4 : decode cX9_branchOf 4 = .ok (.iload_n 1, 1) := by decide +kernel
theorem dX9_branchOf_5 : decode cX9_branchOf 5 = .ok (.iconst 1, 1) := by decide +kernel
theorem dX9_branchOf_6 : decode cX9_branchOf 6 = .ok (.iadd, 1) := by decide +kernel
theorem dX9_branchOf_7 : decode cX9_branchOf 7 = .ok (.goto 10, 3) := by decide +kernel
theorem dX9_branchOf_10 : decode cX9_branchOf 10 = .ok (.aload_n 0, 1) := by decide +kernel
theorem dX9_branchOf_11 : decode cX9_branchOf 11 = .ok (.iload_n 1, 1) := by decide +kernel
theorem dX9_branchOf_12 : decode cX9_branchOf 12 = .ok (.iconst 1, 1) := by decide +kernel
theorem dX9_branchOf_13 : decode cX9_branchOf 13 = .ok (.iadd, 1) := by decide +kernel
theorem dX9_branchOf_14 : decode cX9_branchOf 14 = .ok (.invokevirtual 68, 3) := by decide +kernel
theorem dX9_branchOf_17 : decode cX9_branchOf 17 = .ok (.ireturn, 1) := by decide +kernel
theorem dX9_patternAt_0 : decode cX9_patternAt 0 = .ok (.aload_n 0, 1) := by decide +kernel
theorem dX9_patternAt_1 : decode cX9_patternAt 1 = .ok (.getfield 29, 3) := by decide +kernel
theorem dX9_patternAt_4 : decode cX9_patternAt 4 = .ok (.iload_n 1, 1) := by decide +kernel
theorem dX9_patternAt_5 : decode cX9_patternAt 5 = .ok (.iaload, 1) := by decide +kernel
theorem dX9_patternAt_6 : decode cX9_patternAt 6 = .ok (.ifCond .ne 5, 3) := by decide +kernel
theorem dX9_patternAt_9 : decode cX9_patternAt 9 = .ok (.iconst (-1), 1) := by decide +kernel
theorem dX9_patternAt_10 : decode cX9_patternAt 10 = .ok (.ireturn, 1) := by decide +kernel
theorem dX9_patternAt_11 : decode cX9_patternAt 11 = .ok (.aload_n 0, 1) := by decide +kernel
theorem dX9_patternAt_12 : decode cX9_patternAt 12 = .ok (.getfield 29, 3) := by decide +kernel
theorem dX9_patternAt_15 : decode cX9_patternAt 15 = .ok (.aload_n 0, 1) := by decide +kernel
theorem dX9_patternAt_16 : decode cX9_patternAt 16 = .ok (.iload_n 1, 1) := by decide +kernel
theorem dX9_patternAt_17 : decode cX9_patternAt 17 = .ok (.iload_n 2, 1) := by decide +kernel
theorem dX9_patternAt_18 : decode cX9_patternAt 18 = .ok (.invokevirtual 72, 3) := by decide +kernel
theorem dX9_patternAt_21 : decode cX9_patternAt 21 = .ok (.iaload, 1) := by decide +kernel
theorem dX9_patternAt_22 : decode cX9_patternAt 22 = .ok (.istore_n 3, 1) := by decide +kernel
theorem dX9_patternAt_23 : decode cX9_patternAt 23 = .ok (.iload_n 3, 1) := by decide +kernel
theorem dX9_patternAt_24 : decode cX9_patternAt 24 = .ok (.ifCond .ne 7, 3) := by decide +kernel
theorem dX9_patternAt_27 : decode cX9_patternAt 27 = .ok (.iconst (-1), 1) := by decide +kernel
theorem dX9_patternAt_28 : decode cX9_patternAt 28 = .ok (.goto 21, 3) := by decide +kernel
theorem dX9_patternAt_31 : decode cX9_patternAt 31 = .ok (.iconst 4, 1) := by decide +kernel
theorem dX9_patternAt_32 : decode cX9_patternAt 32 = .ok (.aload_n 0, 1) := by decide +kernel
theorem dX9_patternAt_33 : decode cX9_patternAt 33 = .ok (.getfield 29, 3) := by decide +kernel
theorem dX9_patternAt_36 : decode cX9_patternAt 36 = .ok (.iload_n 1, 1) := by decide +kernel
theorem dX9_patternAt_37 : decode cX9_patternAt 37 = .ok (.iaload, 1) := by decide +kernel
theorem dX9_patternAt_38 : decode cX9_patternAt 38 = .ok (.iconst 1, 1) := by decide +kernel
theorem dX9_patternAt_39 : decode cX9_patternAt 39 = .ok (.isub, 1) := by decide +kernel
theorem dX9_patternAt_40 : decode cX9_patternAt 40 = .ok (.imul, 1) := by decide +kernel
theorem dX9_patternAt_41 : decode cX9_patternAt 41 = .ok (.iconst 2, 1) := by decide +kernel
theorem dX9_patternAt_42 : decode cX9_patternAt 42 = .ok (.iload_n 3, 1) := by decide +kernel
theorem dX9_patternAt_43 : decode cX9_patternAt 43 = .ok (.iconst 1, 1) := by decide +kernel
theorem dX9_patternAt_44 : decode cX9_patternAt 44 = .ok (.isub, 1) := by decide +kernel
theorem dX9_patternAt_45 : decode cX9_patternAt 45 = .ok (.imul, 1) := by decide +kernel
theorem dX9_patternAt_46 : decode cX9_patternAt 46 = .ok (.iadd, 1) := by decide +kernel
theorem dX9_patternAt_47 : decode cX9_patternAt 47 = .ok (.iload_n 2, 1) := by decide +kernel
theorem dX9_patternAt_48 : decode cX9_patternAt 48 = .ok (.iadd, 1) := by decide +kernel
theorem dX9_patternAt_49 : decode cX9_patternAt 49 = .ok (.ireturn, 1) := by decide +kernel
theorem dX9_isPlace_0 : decode cX9_isPlace 0 = .ok (.aload_n 0, 1) := by decide +kernel
theorem dX9_isPlace_1 : decode cX9_isPlace 1 = .ok (.iload_n 1, 1) := by decide +kernel
theorem dX9_isPlace_2 : decode cX9_isPlace 2 = .ok (.iload_n 2, 1) := by decide +kernel
theorem dX9_isPlace_3 : decode cX9_isPlace 3 = .ok (.invokevirtual 76, 3) := by decide +kernel
theorem dX9_isPlace_6 : decode cX9_isPlace 6 = .ok (.istore_n 3, 1) := by decide +kernel
theorem dX9_isPlace_7 : decode cX9_isPlace 7 = .ok (.iload_n 3, 1) := by decide +kernel
theorem dX9_isPlace_8 : decode cX9_isPlace 8 = .ok (.iconst (-1), 1) := by decide +kernel
theorem dX9_isPlace_9 : decode cX9_isPlace 9 = .ok (.if_icmp .eq 19, 3) := by decide +kernel
theorem dX9_isPlace_12 : decode cX9_isPlace 12 = .ok (.aload_n 0, 1) := by decide +kernel
theorem dX9_isPlace_13 : decode cX9_isPlace 13 = .ok (.getfield 7, 3) := by decide +kernel
theorem dX9_isPlace_16 : decode cX9_isPlace 16 = .ok (.bipush 17, 2) := by decide +kernel
theorem dX9_isPlace_18 : decode cX9_isPlace 18 = .ok (.iload_n 3, 1) := by decide +kernel
theorem dX9_isPlace_19 : decode cX9_isPlace 19 = .ok (.iadd, 1) := by decide +kernel
theorem dX9_isPlace_20 : decode cX9_isPlace 20 = .ok (.iaload, 1) := by decide +kernel
theorem dX9_isPlace_21 : decode cX9_isPlace 21 = .ok (.ifCond .eq 7, 3) := by decide +kernel
theorem dX9_isPlace_24 : decode cX9_isPlace 24 = .ok (.iconst 1, 1) := by decide +kernel
theorem dX9_isPlace_25 : decode cX9_isPlace 25 = .ok (.goto 4, 3) := by decide +kernel
theorem dX9_isPlace_28 : decode cX9_isPlace 28 = .ok (.iconst 0, 1) := by decide +kernel
theorem dX9_isPlace_29 : decode cX9_isPlace 29 = .ok (.ireturn, 1) := by decide +kernel
theorem dX9_places_0 : decode cX9_places 0 = .ok (.iconst 0, 1) := by decide +kernel
theorem dX9_places_1 : decode cX9_places 1 = .ok (.istore_n 1, 1) := by decide +kernel
theorem dX9_places_2 : decode cX9_places 2 = .ok (.iconst 0, 1) := by decide +kernel
theorem dX9_places_3 : decode cX9_places 3 = .ok (.istore_n 2, 1) := by decide +kernel
theorem dX9_places_4 : decode cX9_places 4 = .ok (.iload_n 2, 1) := by decide +kernel
theorem dX9_places_5 : decode cX9_places 5 = .ok (.iconst 2, 1) := by decide +kernel
theorem dX9_places_6 : decode cX9_places 6 = .ok (.aload_n 0, 1) := by decide +kernel
theorem dX9_places_7 : decode cX9_places 7 = .ok (.getfield 58, 3) := by decide +kernel
theorem dX9_places_10 : decode cX9_places 10 = .ok (.imul, 1) := by decide +kernel
theorem dX9_places_11 : decode cX9_places 11 = .ok (.if_icmp .ge 30, 3) := by decide +kernel
theorem dX9_places_14 : decode cX9_places 14 = .ok (.iload_n 1, 1) := by decide +kernel
theorem dX9_places_15 : decode cX9_places 15 = .ok (.aload_n 0, 1) := by decide +kernel
theorem dX9_places_16 : decode cX9_places 16 = .ok (.iload_n 2, 1) := by decide +kernel
theorem dX9_places_17 : decode cX9_places 17 = .ok (.iconst 2, 1) := by decide +kernel
theorem dX9_places_18 : decode cX9_places 18 = .ok (.idiv, 1) := by decide +kernel
theorem dX9_places_19 : decode cX9_places 19 = .ok (.iload_n 2, 1) := by decide +kernel
theorem dX9_places_20 : decode cX9_places 20 = .ok (.iconst 2, 1) := by decide +kernel
theorem dX9_places_21 : decode cX9_places 21 = .ok (.irem, 1) := by decide +kernel
theorem dX9_places_22 : decode cX9_places 22 = .ok (.invokevirtual 79, 3) := by decide +kernel
theorem dX9_places_25 : decode cX9_places 25 = .ok (.ifCond .eq 7, 3) := by decide +kernel
theorem dX9_places_28 : decode cX9_places 28 = .ok (.iconst 1, 1) := by decide +kernel
theorem dX9_places_29 : decode cX9_places 29 = .ok (.goto 4, 3) := by decide +kernel
theorem dX9_places_32 : decode cX9_places 32 = .ok (.iconst 0, 1) := by decide +kernel
theorem dX9_places_33 : decode cX9_places 33 = .ok (.iadd, 1) := by decide +kernel
theorem dX9_places_34 : decode cX9_places 34 = .ok (.istore_n 1, 1) := by decide +kernel
theorem dX9_places_35 : decode cX9_places 35 = .ok (.iinc 2 1, 3) := by decide +kernel
theorem dX9_places_38 : decode cX9_places 38 = .ok (.goto (-34), 3) := by decide +kernel
theorem dX9_places_41 : decode cX9_places 41 = .ok (.iload_n 1, 1) := by decide +kernel
theorem dX9_places_42 : decode cX9_places 42 = .ok (.ireturn, 1) := by decide +kernel
theorem dX9_placeAt_0 : decode cX9_placeAt 0 = .ok (.iconst 0, 1) := by decide +kernel
theorem dX9_placeAt_1 : decode cX9_placeAt 1 = .ok (.istore_n 2, 1) := by decide +kernel
theorem dX9_placeAt_2 : decode cX9_placeAt 2 = .ok (.iconst 0, 1) := by decide +kernel
theorem dX9_placeAt_3 : decode cX9_placeAt 3 = .ok (.istore_n 3, 1) := by decide +kernel
theorem dX9_placeAt_4 : decode cX9_placeAt 4 = .ok (.iload_n 3, 1) := by decide +kernel
theorem dX9_placeAt_5 : decode cX9_placeAt 5 = .ok (.iconst 2, 1) := by decide +kernel
theorem dX9_placeAt_6 : decode cX9_placeAt 6 = .ok (.aload_n 0, 1) := by decide +kernel
theorem dX9_placeAt_7 : decode cX9_placeAt 7 = .ok (.getfield 58, 3) := by decide +kernel
theorem dX9_placeAt_10 : decode cX9_placeAt 10 = .ok (.imul, 1) := by decide +kernel
theorem dX9_placeAt_11 : decode cX9_placeAt 11 = .ok (.if_icmp .ge 32, 3) := by decide +kernel
theorem dX9_placeAt_14 : decode cX9_placeAt 14 = .ok (.aload_n 0, 1) := by decide +kernel
theorem dX9_placeAt_15 : decode cX9_placeAt 15 = .ok (.iload_n 3, 1) := by decide +kernel
theorem dX9_placeAt_16 : decode cX9_placeAt 16 = .ok (.iconst 2, 1) := by decide +kernel
theorem dX9_placeAt_17 : decode cX9_placeAt 17 = .ok (.idiv, 1) := by decide +kernel
theorem dX9_placeAt_18 : decode cX9_placeAt 18 = .ok (.iload_n 3, 1) := by decide +kernel
theorem dX9_placeAt_19 : decode cX9_placeAt 19 = .ok (.iconst 2, 1) := by decide +kernel
theorem dX9_placeAt_20 : decode cX9_placeAt 20 = .ok (.irem, 1) := by decide +kernel
theorem dX9_placeAt_21 : decode cX9_placeAt 21 = .ok (.invokevirtual 79, 3) := by decide +kernel
theorem dX9_placeAt_24 : decode cX9_placeAt 24 = .ok (.ifCond .eq 13, 3) := by decide +kernel
theorem dX9_placeAt_27 : decode cX9_placeAt 27 = .ok (.iload_n 2, 1) := by decide +kernel
theorem dX9_placeAt_28 : decode cX9_placeAt 28 = .ok (.iload_n 1, 1) := by decide +kernel
theorem dX9_placeAt_29 : decode cX9_placeAt 29 = .ok (.if_icmp .ne 5, 3) := by decide +kernel
theorem dX9_placeAt_32 : decode cX9_placeAt 32 = .ok (.iload_n 3, 1) := by decide +kernel
theorem dX9_placeAt_33 : decode cX9_placeAt 33 = .ok (.ireturn, 1) := by decide +kernel
theorem dX9_placeAt_34 : decode cX9_placeAt 34 = .ok (.iinc 2 1, 3) := by decide +kernel
theorem dX9_placeAt_37 : decode cX9_placeAt 37 = .ok (.iinc 3 1, 3) := by decide +kernel
theorem dX9_placeAt_40 : decode cX9_placeAt 40 = .ok (.goto (-36), 3) := by decide +kernel
theorem dX9_placeAt_43 : decode cX9_placeAt 43 = .ok (.iconst (-1), 1) := by decide +kernel
theorem dX9_placeAt_44 : decode cX9_placeAt 44 = .ok (.ireturn, 1) := by decide +kernel
theorem dX9_copyOther_0 : decode cX9_copyOther 0 = .ok (.iload_n 1, 1) := by decide +kernel
theorem dX9_copyOther_1 : decode cX9_copyOther 1 = .ok (.istore_n 3, 1) := by decide +kernel
theorem dX9_copyOther_2 : decode cX9_copyOther 2 = .ok (.iload_n 3, 1) := by decide +kernel
theorem dX9_copyOther_3 : decode cX9_copyOther 3 = .ok (.iload_n 2, 1) := by decide +kernel
theorem dX9_copyOther_4 : decode cX9_copyOther 4 = .ok (.if_icmp .ge 34, 3) := by decide +kernel
theorem dX9_copyOther_7 : decode cX9_copyOther 7 = .ok (.aload_n 0, 1) := by decide +kernel
theorem dX9_copyOther_8 : decode cX9_copyOther 8 = .ok (.getfield 32, 3) := by decide +kernel
theorem dX9_copyOther_11 : decode cX9_copyOther 11 = .ok (.aload_n 0, 1) := by decide +kernel
theorem dX9_copyOther_12 : decode cX9_copyOther 12 = .ok (.getfield 83, 3) := by decide +kernel
theorem dX9_copyOther_15 : decode cX9_copyOther 15 = .ok (.aload_n 0, 1) := by decide +kernel
theorem dX9_copyOther_16 : decode cX9_copyOther 16 = .ok (.getfield 29, 3) := by decide +kernel
theorem dX9_copyOther_19 : decode cX9_copyOther 19 = .ok (.iload_n 3, 1) := by decide +kernel
theorem dX9_copyOther_20 : decode cX9_copyOther 20 = .ok (.iaload, 1) := by decide +kernel
theorem dX9_copyOther_21 : decode cX9_copyOther 21 = .ok (.iastore, 1) := by decide +kernel
theorem dX9_copyOther_22 : decode cX9_copyOther 22 = .ok (.aload_n 0, 1) := by decide +kernel
theorem dX9_copyOther_23 : decode cX9_copyOther 23 = .ok (.dup, 1) := by decide +kernel
theorem dX9_copyOther_24 : decode cX9_copyOther 24 = .ok (.getfield 83, 3) := by decide +kernel
theorem dX9_copyOther_27 : decode cX9_copyOther 27 = .ok (.iconst 1, 1) := by decide +kernel
theorem dX9_copyOther_28 : decode cX9_copyOther 28 = .ok (.iadd, 1) := by decide +kernel
theorem dX9_copyOther_29 : decode cX9_copyOther 29 = .ok (.putfield 83, 3) := by decide +kernel
theorem dX9_copyOther_32 : decode cX9_copyOther 32 = .ok (.iinc 3 1, 3) := by decide +kernel
theorem dX9_copyOther_35 : decode cX9_copyOther 35 = .ok (.goto (-33), 3) := by decide +kernel
theorem dX9_copyOther_38 : decode cX9_copyOther 38 = .ok (.return_, 1) := by decide +kernel
theorem dX9_addOther_0 : decode cX9_addOther 0 = .ok (.aload_n 0, 1) := by decide +kernel
theorem dX9_addOther_1 : decode cX9_addOther 1 = .ok (.getfield 32, 3) := by decide +kernel
theorem dX9_addOther_4 : decode cX9_addOther 4 = .ok (.aload_n 0, 1) := by decide +kernel
theorem dX9_addOther_5 : decode cX9_addOther 5 = .ok (.getfield 83, 3) := by decide +kernel
theorem dX9_addOther_8 : decode cX9_addOther 8 = .ok (.iload_n 1, 1) := by decide +kernel
theorem dX9_addOther_9 : decode cX9_addOther 9 = .ok (.iastore, 1) := by decide +kernel
theorem dX9_addOther_10 : decode cX9_addOther 10 = .ok (.aload_n 0, 1) := by decide +kernel
theorem dX9_addOther_11 : decode cX9_addOther 11 = .ok (.dup, 1) := by decide +kernel
theorem dX9_addOther_12 : decode cX9_addOther 12 = .ok (.getfield 83, 3) := by decide +kernel
theorem dX9_addOther_15 : decode cX9_addOther 15 = .ok (.iconst 1, 1) := by decide +kernel
theorem dX9_addOther_16 : decode cX9_addOther 16 = .ok (.iadd, 1) := by decide +kernel
theorem dX9_addOther_17 : decode cX9_addOther 17 = .ok (.putfield 83, 3) := by decide +kernel
theorem dX9_addOther_20 : decode cX9_addOther 20 = .ok (.return_, 1) := by decide +kernel
theorem dX9_takeOther_0 : decode cX9_takeOther 0 = .ok (.aload_n 0, 1) := by decide +kernel
theorem dX9_takeOther_1 : decode cX9_takeOther 1 = .ok (.aload_n 0, 1) := by decide +kernel
theorem dX9_takeOther_2 : decode cX9_takeOther 2 = .ok (.getfield 83, 3) := by decide +kernel
theorem dX9_takeOther_5 : decode cX9_takeOther 5 = .ok (.putfield 58, 3) := by decide +kernel
theorem dX9_takeOther_8 : decode cX9_takeOther 8 = .ok (.iconst 0, 1) := by decide +kernel
theorem dX9_takeOther_9 : decode cX9_takeOther 9 = .ok (.istore_n 1, 1) := by decide +kernel
theorem dX9_takeOther_10 : decode cX9_takeOther 10 = .ok (.iload_n 1, 1) := by decide +kernel
theorem dX9_takeOther_11 : decode cX9_takeOther 11 = .ok (.aload_n 0, 1) := by decide +kernel
theorem dX9_takeOther_12 : decode cX9_takeOther 12 = .ok (.getfield 83, 3) := by decide +kernel
theorem dX9_takeOther_15 : decode cX9_takeOther 15 = .ok (.if_icmp .ge 21, 3) := by decide +kernel
theorem dX9_takeOther_18 : decode cX9_takeOther 18 = .ok (.aload_n 0, 1) := by decide +kernel
theorem dX9_takeOther_19 : decode cX9_takeOther 19 = .ok (.getfield 29, 3) := by decide +kernel
theorem dX9_takeOther_22 : decode cX9_takeOther 22 = .ok (.iload_n 1, 1) := by decide +kernel
theorem dX9_takeOther_23 : decode cX9_takeOther 23 = .ok (.aload_n 0, 1) := by decide +kernel
theorem dX9_takeOther_24 : decode cX9_takeOther 24 = .ok (.getfield 32, 3) := by decide +kernel
theorem dX9_takeOther_27 : decode cX9_takeOther 27 = .ok (.iload_n 1, 1) := by decide +kernel
theorem dX9_takeOther_28 : decode cX9_takeOther 28 = .ok (.iaload, 1) := by decide +kernel
theorem dX9_takeOther_29 : decode cX9_takeOther 29 = .ok (.iastore, 1) := by decide +kernel
theorem dX9_takeOther_30 : decode cX9_takeOther 30 = .ok (.iinc 1 1, 3) := by decide +kernel
theorem dX9_takeOther_33 : decode cX9_takeOther 33 = .ok (.goto (-23), 3) := by decide +kernel
theorem dX9_takeOther_36 : decode cX9_takeOther 36 = .ok (.return_, 1) := by decide +kernel
theorem dX9_stepAt_0 : decode cX9_stepAt 0 = .ok (.iload_n 1, 1) := by decide +kernel
theorem dX9_stepAt_1 : decode cX9_stepAt 1 = .ok (.iconst 2, 1) := by decide +kernel
theorem dX9_stepAt_2 : decode cX9_stepAt 2 = .ok (.idiv, 1) := by decide +kernel
theorem dX9_stepAt_3 : decode cX9_stepAt 3 = .ok (.istore_n 2, 1) := by decide +kernel
theorem dX9_stepAt_4 : decode cX9_stepAt 4 = .ok (.aload_n 0, 1) := by decide +kernel
theorem dX9_stepAt_5 : decode cX9_stepAt 5 = .ok (.iload_n 2, 1) := by decide +kernel
theorem dX9_stepAt_6 : decode cX9_stepAt 6 = .ok (.iload_n 1, 1) := by decide +kernel
theorem dX9_stepAt_7 : decode cX9_stepAt 7 = .ok (.iconst 2, 1) := by decide +kernel
theorem dX9_stepAt_8 : decode cX9_stepAt 8 = .ok (.irem, 1) := by decide +kernel
theorem dX9_stepAt_9 : decode cX9_stepAt 9 = .ok (.invokevirtual 76, 3) := by decide +kernel
theorem dX9_stepAt_12 : decode cX9_stepAt 12 = .ok (.istore_n 3, 1) := by decide +kernel
theorem dX9_stepAt_13 : decode cX9_stepAt 13 = .ok (.aload_n 0, 1) := by decide +kernel
theorem dX9_stepAt_14 : decode cX9_stepAt 14 = .ok (.getfield 7, 3) := by decide +kernel
theorem dX9_stepAt_17 : decode cX9_stepAt 17 = .ok (.bipush 17, 2) := by decide +kernel
theorem dX9_stepAt_19 : decode cX9_stepAt 19 = .ok (.iload_n 3, 1) := by decide +kernel
theorem dX9_stepAt_20 : decode cX9_stepAt 20 = .ok (.iadd, 1) := by decide +kernel
theorem dX9_stepAt_21 : decode cX9_stepAt 21 = .ok (.iaload, 1) := by decide +kernel
theorem dX9_stepAt_22 : decode cX9_stepAt 22 = .ok (.istore 4, 2) := by decide +kernel
theorem dX9_stepAt_24 : decode cX9_stepAt 24 = .ok (.iload 4, 2) := by decide +kernel
theorem dX9_stepAt_26 : decode cX9_stepAt 26 = .ok (.iconst 1, 1) := by decide +kernel
theorem dX9_stepAt_27 : decode cX9_stepAt 27 = .ok (.if_icmp .ne 10, 3) := by decide +kernel
theorem dX9_stepAt_30 : decode cX9_stepAt 30 = .ok (.aload_n 0, 1) := by decide +kernel
theorem dX9_stepAt_31 : decode cX9_stepAt 31 = .ok (.iconst 0, 1) := by decide +kernel
theorem dX9_stepAt_32 : decode cX9_stepAt 32 = .ok (.iconst 0, 1) := by decide +kernel
theorem dX9_stepAt_33 : decode cX9_stepAt 33 = .ok (.invokevirtual 64, 3) := by decide +kernel
theorem dX9_stepAt_36 : decode cX9_stepAt 36 = .ok (.return_, 1) := by decide +kernel
theorem dX9_stepAt_37 : decode cX9_stepAt 37 = .ok (.aload_n 0, 1) := by decide +kernel
theorem dX9_stepAt_38 : decode cX9_stepAt 38 = .ok (.getfield 7, 3) := by decide +kernel
theorem dX9_stepAt_41 : decode cX9_stepAt 41 = .ok (.bipush 25, 2) := by decide +kernel
theorem dX9_stepAt_43 : decode cX9_stepAt 43 = .ok (.iload_n 3, 1) := by decide +kernel
theorem dX9_stepAt_44 : decode cX9_stepAt 44 = .ok (.iadd, 1) := by decide +kernel
theorem dX9_stepAt_45 : decode cX9_stepAt 45 = .ok (.iaload, 1) := by decide +kernel
theorem dX9_stepAt_46 : decode cX9_stepAt 46 = .ok (.istore 5, 2) := by decide +kernel
theorem dX9_stepAt_48 : decode cX9_stepAt 48 = .ok (.aload_n 0, 1) := by decide +kernel
theorem dX9_stepAt_49 : decode cX9_stepAt 49 = .ok (.iload_n 2, 1) := by decide +kernel
theorem dX9_stepAt_50 : decode cX9_stepAt 50 = .ok (.invokevirtual 68, 3) := by decide +kernel
theorem dX9_stepAt_53 : decode cX9_stepAt 53 = .ok (.istore 6, 2) := by decide +kernel
theorem dX9_stepAt_55 : decode cX9_stepAt 55 = .ok (.aload_n 0, 1) := by decide +kernel
theorem dX9_stepAt_56 : decode cX9_stepAt 56 = .ok (.iload_n 2, 1) := by decide +kernel
theorem dX9_stepAt_57 : decode cX9_stepAt 57 = .ok (.iconst 1, 1) := by decide +kernel
theorem dX9_stepAt_58 : decode cX9_stepAt 58 = .ok (.invokevirtual 72, 3) := by decide +kernel
theorem dX9_stepAt_61 : decode cX9_stepAt 61 = .ok (.istore 7, 2) := by decide +kernel
theorem dX9_stepAt_63 : decode cX9_stepAt 63 = .ok (.iload_n 1, 1) := by decide +kernel
theorem dX9_stepAt_64 : decode cX9_stepAt 64 = .ok (.iconst 2, 1) := by decide +kernel
theorem dX9_stepAt_65 : decode cX9_stepAt 65 = .ok (.irem, 1) := by decide +kernel
theorem dX9_stepAt_66 : decode cX9_stepAt 66 = .ok (.ifCond .ne 9, 3) := by decide +kernel
theorem dX9_stepAt_69 : decode cX9_stepAt 69 = .ok (.iload_n 2, 1) := by decide +kernel
theorem dX9_stepAt_70 : decode cX9_stepAt 70 = .ok (.iconst 2, 1) := by decide +kernel
theorem dX9_stepAt_71 : decode cX9_stepAt 71 = .ok (.iadd, 1) := by decide +kernel
theorem dX9_stepAt_72 : decode cX9_stepAt 72 = .ok (.goto 6, 3) := by decide +kernel
theorem dX9_stepAt_75 : decode cX9_stepAt 75 = .ok (.iload_n 2, 1) := by decide +kernel
theorem dX9_stepAt_76 : decode cX9_stepAt 76 = .ok (.iconst 1, 1) := by decide +kernel
theorem dX9_stepAt_77 : decode cX9_stepAt 77 = .ok (.iadd, 1) := by decide +kernel
theorem dX9_stepAt_78 : decode cX9_stepAt 78 = .ok (.istore 8, 2) := by decide +kernel
theorem dX9_stepAt_80 : decode cX9_stepAt 80 = .ok (.iload_n 1, 1) := by decide +kernel
theorem dX9_stepAt_81 : decode cX9_stepAt 81 = .ok (.iconst 2, 1) := by decide +kernel
theorem dX9_stepAt_82 : decode cX9_stepAt 82 = .ok (.irem, 1) := by decide +kernel
theorem dX9_stepAt_83 : decode cX9_stepAt 83 = .ok (.ifCond .ne 13, 3) := by decide +kernel
theorem dX9_stepAt_86 : decode cX9_stepAt 86 = .ok (.aload_n 0, 1) := by decide +kernel
theorem dX9_stepAt_87 : decode cX9_stepAt 87 = .ok (.iload_n 2, 1) := by decide +kernel
theorem dX9_stepAt_88 : decode cX9_stepAt 88 = .ok (.iconst 2, 1) := by decide +kernel
theorem dX9_stepAt_89 : decode cX9_stepAt 89 = .ok (.iadd, 1) := by decide +kernel
theorem dX9_stepAt_90 : decode cX9_stepAt 90 = .ok (.invokevirtual 68, 3) := by decide +kernel
theorem dX9_stepAt_93 : decode cX9_stepAt 93 = .ok (.goto 7, 3) := by decide +kernel
theorem dX9_stepAt_96 : decode cX9_stepAt 96 = .ok (.iload 7, 2) := by decide +kernel
theorem dX9_stepAt_98 : decode cX9_stepAt 98 = .ok (.iconst 1, 1) := by decide +kernel
theorem dX9_stepAt_99 : decode cX9_stepAt 99 = .ok (.iadd, 1) := by decide +kernel
theorem dX9_stepAt_100 : decode cX9_stepAt 100 = .ok (.istore 9, 2) := by decide +kernel
theorem dX9_stepAt_102 : decode cX9_stepAt 102 = .ok (.iload_n 1, 1) := by decide +kernel
theorem dX9_stepAt_103 : decode cX9_stepAt 103 = .ok (.iconst 2, 1) := by decide +kernel
theorem dX9_stepAt_104 : decode cX9_stepAt 104 = .ok (.irem, 1) := by decide +kernel
theorem dX9_stepAt_105 : decode cX9_stepAt 105 = .ok (.ifCond .ne 8, 3) := by decide +kernel
theorem dX9_stepAt_108 : decode cX9_stepAt 108 = .ok (.iload 7, 2) := by decide +kernel
theorem dX9_stepAt_110 : decode cX9_stepAt 110 = .ok (.goto 11, 3) := by decide +kernel
theorem dX9_stepAt_113 : decode cX9_stepAt 113 = .ok (.aload_n 0, 1) := by decide +kernel
theorem dX9_stepAt_114 : decode cX9_stepAt 114 = .ok (.iload 7, 2) := by decide +kernel
theorem dX9_stepAt_116 : decode cX9_stepAt 116 = .ok (.iconst 1, 1) := by decide +kernel
theorem dX9_stepAt_117 : decode cX9_stepAt 117 = .ok (.iadd, 1) := by decide +kernel
theorem dX9_stepAt_118 : decode cX9_stepAt 118 = .ok (.invokevirtual 68, 3) := by decide +kernel
theorem dX9_stepAt_121 : decode cX9_stepAt 121 = .ok (.istore 10, 2) := by decide +kernel
theorem dX9_stepAt_123 : decode cX9_stepAt 123 = .ok (.iload_n 1, 1) := by decide +kernel
theorem dX9_stepAt_124 : decode cX9_stepAt 124 = .ok (.iconst 2, 1) := by decide +kernel
theorem dX9_stepAt_125 : decode cX9_stepAt 125 = .ok (.irem, 1) := by decide +kernel
theorem dX9_stepAt_126 : decode cX9_stepAt 126 = .ok (.ifCond .ne 8, 3) := by decide +kernel
theorem dX9_stepAt_129 : decode cX9_stepAt 129 = .ok (.iload 9, 2) := by decide +kernel
theorem dX9_stepAt_131 : decode cX9_stepAt 131 = .ok (.goto 5, 3) := by decide +kernel
theorem dX9_stepAt_134 : decode cX9_stepAt 134 = .ok (.iload 7, 2) := by decide +kernel
theorem dX9_stepAt_136 : decode cX9_stepAt 136 = .ok (.istore 11, 2) := by decide +kernel
theorem dX9_stepAt_138 : decode cX9_stepAt 138 = .ok (.aload_n 0, 1) := by decide +kernel
theorem dX9_stepAt_139 : decode cX9_stepAt 139 = .ok (.iconst 0, 1) := by decide +kernel
theorem dX9_stepAt_140 : decode cX9_stepAt 140 = .ok (.putfield 83, 3) := by decide +kernel
theorem dX9_stepAt_143 : decode cX9_stepAt 143 = .ok (.aload_n 0, 1) := by decide +kernel
theorem dX9_stepAt_144 : decode cX9_stepAt 144 = .ok (.iconst 0, 1) := by decide +kernel
theorem dX9_stepAt_145 : decode cX9_stepAt 145 = .ok (.iload_n 2, 1) := by decide +kernel
theorem dX9_stepAt_146 : decode cX9_stepAt 146 = .ok (.invokevirtual 86, 3) := by decide +kernel
theorem dX9_stepAt_149 : decode cX9_stepAt 149 = .ok (.aload_n 0, 1) := by decide +kernel
theorem dX9_stepAt_150 : decode cX9_stepAt 150 = .ok (.iconst 1, 1) := by decide +kernel
theorem dX9_stepAt_151 : decode cX9_stepAt 151 = .ok (.iload 5, 2) := by decide +kernel
theorem dX9_stepAt_153 : decode cX9_stepAt 153 = .ok (.iconst 4, 1) := by decide +kernel
theorem dX9_stepAt_154 : decode cX9_stepAt 154 = .ok (.idiv, 1) := by decide +kernel
theorem dX9_stepAt_155 : decode cX9_stepAt 155 = .ok (.iadd, 1) := by decide +kernel
theorem dX9_stepAt_156 : decode cX9_stepAt 156 = .ok (.invokevirtual 89, 3) := by decide +kernel
theorem dX9_stepAt_159 : decode cX9_stepAt 159 = .ok (.iload 5, 2) := by decide +kernel
theorem dX9_stepAt_161 : decode cX9_stepAt 161 = .ok (.iconst 2, 1) := by decide +kernel
theorem dX9_stepAt_162 : decode cX9_stepAt 162 = .ok (.irem, 1) := by decide +kernel
theorem dX9_stepAt_163 : decode cX9_stepAt 163 = .ok (.ifCond .ne 15, 3) := by decide +kernel
theorem dX9_stepAt_166 : decode cX9_stepAt 166 = .ok (.aload_n 0, 1) := by decide +kernel
theorem dX9_stepAt_167 : decode cX9_stepAt 167 = .ok (.iconst 1, 1) := by decide +kernel
theorem dX9_stepAt_168 : decode cX9_stepAt 168 = .ok (.iload 5, 2) := by decide +kernel
theorem dX9_stepAt_170 : decode cX9_stepAt 170 = .ok (.iconst 2, 1) := by decide +kernel
theorem dX9_stepAt_171 : decode cX9_stepAt 171 = .ok (.idiv, 1) := by decide +kernel
theorem dX9_stepAt_172 : decode cX9_stepAt 172 = .ok (.iconst 2, 1) := by decide +kernel
theorem dX9_stepAt_173 : decode cX9_stepAt 173 = .ok (.irem, 1) := by decide +kernel
theorem dX9_stepAt_174 : decode cX9_stepAt 174 = .ok (.iadd, 1) := by decide +kernel
theorem dX9_stepAt_175 : decode cX9_stepAt 175 = .ok (.invokevirtual 89, 3) := by decide +kernel
theorem dX9_stepAt_178 : decode cX9_stepAt 178 = .ok (.aload_n 0, 1) := by decide +kernel
theorem dX9_stepAt_179 : decode cX9_stepAt 179 = .ok (.iload 8, 2) := by decide +kernel
theorem dX9_stepAt_181 : decode cX9_stepAt 181 = .ok (.iload 11, 2) := by decide +kernel
theorem dX9_stepAt_183 : decode cX9_stepAt 183 = .ok (.invokevirtual 86, 3) := by decide +kernel
theorem dX9_stepAt_186 : decode cX9_stepAt 186 = .ok (.iload 5, 2) := by decide +kernel
theorem dX9_stepAt_188 : decode cX9_stepAt 188 = .ok (.iconst 2, 1) := by decide +kernel
theorem dX9_stepAt_189 : decode cX9_stepAt 189 = .ok (.irem, 1) := by decide +kernel
theorem dX9_stepAt_190 : decode cX9_stepAt 190 = .ok (.iconst 1, 1) := by decide +kernel
theorem dX9_stepAt_191 : decode cX9_stepAt 191 = .ok (.if_icmp .ne 15, 3) := by decide +kernel
theorem dX9_stepAt_194 : decode cX9_stepAt 194 = .ok (.aload_n 0, 1) := by decide +kernel
theorem dX9_stepAt_195 : decode cX9_stepAt 195 = .ok (.iconst 1, 1) := by decide +kernel
theorem dX9_stepAt_196 : decode cX9_stepAt 196 = .ok (.iload 5, 2) := by decide +kernel
theorem dX9_stepAt_198 : decode cX9_stepAt 198 = .ok (.iconst 2, 1) := by decide +kernel
theorem dX9_stepAt_199 : decode cX9_stepAt 199 = .ok (.idiv, 1) := by decide +kernel
theorem dX9_stepAt_200 : decode cX9_stepAt 200 = .ok (.iconst 2, 1) := by decide +kernel
theorem dX9_stepAt_201 : decode cX9_stepAt 201 = .ok (.irem, 1) := by decide +kernel
theorem dX9_stepAt_202 : decode cX9_stepAt 202 = .ok (.iadd, 1) := by decide +kernel
theorem dX9_stepAt_203 : decode cX9_stepAt 203 = .ok (.invokevirtual 89, 3) := by decide +kernel
theorem dX9_stepAt_206 : decode cX9_stepAt 206 = .ok (.aload_n 0, 1) := by decide +kernel
theorem dX9_stepAt_207 : decode cX9_stepAt 207 = .ok (.iload 9, 2) := by decide +kernel
theorem dX9_stepAt_209 : decode cX9_stepAt 209 = .ok (.iload 10, 2) := by decide +kernel
theorem dX9_stepAt_211 : decode cX9_stepAt 211 = .ok (.invokevirtual 86, 3) := by decide +kernel
theorem dX9_stepAt_214 : decode cX9_stepAt 214 = .ok (.aload_n 0, 1) := by decide +kernel
theorem dX9_stepAt_215 : decode cX9_stepAt 215 = .ok (.iload 10, 2) := by decide +kernel
theorem dX9_stepAt_217 : decode cX9_stepAt 217 = .ok (.iload 6, 2) := by decide +kernel
theorem dX9_stepAt_219 : decode cX9_stepAt 219 = .ok (.invokevirtual 86, 3) := by decide +kernel
theorem dX9_stepAt_222 : decode cX9_stepAt 222 = .ok (.aload_n 0, 1) := by decide +kernel
theorem dX9_stepAt_223 : decode cX9_stepAt 223 = .ok (.iload 6, 2) := by decide +kernel
theorem dX9_stepAt_225 : decode cX9_stepAt 225 = .ok (.aload_n 0, 1) := by decide +kernel
theorem dX9_stepAt_226 : decode cX9_stepAt 226 = .ok (.getfield 58, 3) := by decide +kernel
theorem dX9_stepAt_229 : decode cX9_stepAt 229 = .ok (.invokevirtual 86, 3) := by decide +kernel
theorem dX9_stepAt_232 : decode cX9_stepAt 232 = .ok (.aload_n 0, 1) := by decide +kernel
theorem dX9_stepAt_233 : decode cX9_stepAt 233 = .ok (.invokevirtual 93, 3) := by decide +kernel
theorem dX9_stepAt_236 : decode cX9_stepAt 236 = .ok (.aload_n 0, 1) := by decide +kernel
theorem dX9_stepAt_237 : decode cX9_stepAt 237 = .ok (.iload 4, 2) := by decide +kernel
theorem dX9_stepAt_239 : decode cX9_stepAt 239 = .ok (.iconst 3, 1) := by decide +kernel
theorem dX9_stepAt_240 : decode cX9_stepAt 240 = .ok (.if_icmp .ne 11, 3) := by decide +kernel
theorem dX9_stepAt_243 : decode cX9_stepAt 243 = .ok (.aload_n 0, 1) := by decide +kernel
theorem dX9_stepAt_244 : decode cX9_stepAt 244 = .ok (.getfield 61, 3) := by decide +kernel
theorem dX9_stepAt_247 : decode cX9_stepAt 247 = .ok (.ineg, 1) := by decide +kernel
theorem dX9_stepAt_248 : decode cX9_stepAt 248 = .ok (.goto 7, 3) := by decide +kernel
theorem dX9_stepAt_251 : decode cX9_stepAt 251 = .ok (.aload_n 0, 1) := by decide +kernel
theorem dX9_stepAt_252 : decode cX9_stepAt 252 = .ok (.getfield 61, 3) := by decide +kernel
theorem dX9_stepAt_255 : decode cX9_stepAt 255 = .ok (.putfield 61, 3) := by decide +kernel
theorem dX9_stepAt_258 : decode cX9_stepAt 258 = .ok (.return_, 1) := by decide +kernel
theorem dX9_makePlain_0 : decode cX9_makePlain 0 = .ok (.iconst 0, 1) := by decide +kernel
theorem dX9_makePlain_1 : decode cX9_makePlain 1 = .ok (.istore_n 1, 1) := by decide +kernel
theorem dX9_makePlain_2 : decode cX9_makePlain 2 = .ok (.iload_n 1, 1) := by decide +kernel
theorem dX9_makePlain_3 : decode cX9_makePlain 3 = .ok (.bipush 60, 2) := by decide +kernel
theorem dX9_makePlain_5 : decode cX9_makePlain 5 = .ok (.if_icmp .gt 33, 3) := by decide +kernel
theorem dX9_makePlain_8 : decode cX9_makePlain 8 = .ok (.aload_n 0, 1) := by decide +kernel
theorem dX9_makePlain_9 : decode cX9_makePlain 9 = .ok (.iconst 0, 1) := by decide +kernel
theorem dX9_makePlain_10 : decode cX9_makePlain 10 = .ok (.invokevirtual 96, 3) := by decide +kernel
theorem dX9_makePlain_13 : decode cX9_makePlain 13 = .ok (.istore_n 2, 1) := by decide +kernel
theorem dX9_makePlain_14 : decode cX9_makePlain 14 = .ok (.iload_n 2, 1) := by decide +kernel
theorem dX9_makePlain_15 : decode cX9_makePlain 15 = .ok (.iconst (-1), 1) := by decide +kernel
theorem dX9_makePlain_16 : decode cX9_makePlain 16 = .ok (.if_icmp .ne 5, 3) := by decide +kernel
theorem dX9_makePlain_19 : decode cX9_makePlain 19 = .ok (.iload_n 1, 1) := by decide +kernel
theorem dX9_makePlain_20 : decode cX9_makePlain 20 = .ok (.ireturn, 1) := by decide +kernel
theorem dX9_makePlain_21 : decode cX9_makePlain 21 = .ok (.iload_n 1, 1) := by decide +kernel
theorem dX9_makePlain_22 : decode cX9_makePlain 22 = .ok (.bipush 60, 2) := by decide +kernel
theorem dX9_makePlain_24 : decode cX9_makePlain 24 = .ok (.if_icmp .ge 8, 3) := by decide +kernel
theorem dX9_makePlain_27 : decode cX9_makePlain 27 = .ok (.aload_n 0, 1) := by decide +kernel
theorem dX9_makePlain_28 : decode cX9_makePlain 28 = .ok (.iload_n 2, 1) := by decide +kernel
theorem dX9_makePlain_29 : decode cX9_makePlain 29 = .ok (.invokevirtual 99, 3) := by decide +kernel
theorem dX9_makePlain_32 : decode cX9_makePlain 32 = .ok (.iinc 1 1, 3) := by decide +kernel
theorem dX9_makePlain_35 : decode cX9_makePlain 35 = .ok (.goto (-33), 3) := by decide +kernel
theorem dX9_makePlain_38 : decode cX9_makePlain 38 = .ok (.iconst (-1), 1) := by decide +kernel
theorem dX9_makePlain_39 : decode cX9_makePlain 39 = .ok (.ireturn, 1) := by decide +kernel
theorem dX9_turn_0 : decode cX9_turn 0 = .ok (.iconst 1, 1) := by decide +kernel
theorem dX9_turn_1 : decode cX9_turn 1 = .ok (.istore_n 1, 1) := by decide +kernel
theorem dX9_turn_2 : decode cX9_turn 2 = .ok (.aload_n 0, 1) := by decide +kernel
theorem dX9_turn_3 : decode cX9_turn 3 = .ok (.getfield 35, 3) := by decide +kernel
theorem dX9_turn_6 : decode cX9_turn 6 = .ok (.iconst 0, 1) := by decide +kernel
theorem dX9_turn_7 : decode cX9_turn 7 = .ok (.iconst 0, 1) := by decide +kernel
theorem dX9_turn_8 : decode cX9_turn 8 = .ok (.iastore, 1) := by decide +kernel
theorem dX9_turn_9 : decode cX9_turn 9 = .ok (.aload_n 0, 1) := by decide +kernel
theorem dX9_turn_10 : decode cX9_turn 10 = .ok (.iconst 0, 1) := by decide +kernel
theorem dX9_turn_11 : decode cX9_turn 11 = .ok (.putfield 83, 3) := by decide +kernel
theorem dX9_turn_14 : decode cX9_turn 14 = .ok (.iload_n 1, 1) := by decide +kernel
theorem dX9_turn_15 : decode cX9_turn 15 = .ok (.ifCond .le 62, 3) := by decide +kernel
theorem dX9_turn_18 : decode cX9_turn 18 = .ok (.iinc 1 (-1), 3) := by decide +kernel
theorem dX9_turn_21 : decode cX9_turn 21 = .ok (.aload_n 0, 1) := by decide +kernel
theorem dX9_turn_22 : decode cX9_turn 22 = .ok (.getfield 35, 3) := by decide +kernel
theorem dX9_turn_25 : decode cX9_turn 25 = .ok (.iload_n 1, 1) := by decide +kernel
theorem dX9_turn_26 : decode cX9_turn 26 = .ok (.iaload, 1) := by decide +kernel
theorem dX9_turn_27 : decode cX9_turn 27 = .ok (.istore_n 2, 1) := by decide +kernel
theorem dX9_turn_28 : decode cX9_turn 28 = .ok (.aload_n 0, 1) := by decide +kernel
theorem dX9_turn_29 : decode cX9_turn 29 = .ok (.aload_n 0, 1) := by decide +kernel
theorem dX9_turn_30 : decode cX9_turn 30 = .ok (.getfield 29, 3) := by decide +kernel
theorem dX9_turn_33 : decode cX9_turn 33 = .ok (.iload_n 2, 1) := by decide +kernel
theorem dX9_turn_34 : decode cX9_turn 34 = .ok (.iaload, 1) := by decide +kernel
theorem dX9_turn_35 : decode cX9_turn 35 = .ok (.invokevirtual 89, 3) := by decide +kernel
theorem dX9_turn_38 : decode cX9_turn 38 = .ok (.aload_n 0, 1) := by decide +kernel
theorem dX9_turn_39 : decode cX9_turn 39 = .ok (.getfield 29, 3) := by decide +kernel
theorem dX9_turn_42 : decode cX9_turn 42 = .ok (.iload_n 2, 1) := by decide +kernel
theorem dX9_turn_43 : decode cX9_turn 43 = .ok (.iaload, 1) := by decide +kernel
theorem dX9_turn_44 : decode cX9_turn 44 = .ok (.ifCond .eq 30, 3) := by decide +kernel
theorem dX9_turn_47 : decode cX9_turn 47 = .ok (.aload_n 0, 1) := by decide +kernel
theorem dX9_turn_48 : decode cX9_turn 48 = .ok (.getfield 35, 3) := by decide +kernel
theorem dX9_turn_51 : decode cX9_turn 51 = .ok (.iload_n 1, 1) := by decide +kernel
theorem dX9_turn_52 : decode cX9_turn 52 = .ok (.iload_n 2, 1) := by decide +kernel
theorem dX9_turn_53 : decode cX9_turn 53 = .ok (.iconst 1, 1) := by decide +kernel
theorem dX9_turn_54 : decode cX9_turn 54 = .ok (.iadd, 1) := by decide +kernel
theorem dX9_turn_55 : decode cX9_turn 55 = .ok (.iastore, 1) := by decide +kernel
theorem dX9_turn_56 : decode cX9_turn 56 = .ok (.aload_n 0, 1) := by decide +kernel
theorem dX9_turn_57 : decode cX9_turn 57 = .ok (.getfield 35, 3) := by decide +kernel
theorem dX9_turn_60 : decode cX9_turn 60 = .ok (.iload_n 1, 1) := by decide +kernel
theorem dX9_turn_61 : decode cX9_turn 61 = .ok (.iconst 1, 1) := by decide +kernel
theorem dX9_turn_62 : decode cX9_turn 62 = .ok (.iadd, 1) := by decide +kernel
theorem dX9_turn_63 : decode cX9_turn 63 = .ok (.aload_n 0, 1) := by decide +kernel
theorem dX9_turn_64 : decode cX9_turn 64 = .ok (.iload_n 2, 1) := by decide +kernel
theorem dX9_turn_65 : decode cX9_turn 65 = .ok (.iconst 1, 1) := by decide +kernel
theorem dX9_turn_66 : decode cX9_turn 66 = .ok (.iadd, 1) := by decide +kernel
theorem dX9_turn_67 : decode cX9_turn 67 = .ok (.invokevirtual 68, 3) := by decide +kernel
theorem dX9_turn_70 : decode cX9_turn 70 = .ok (.iastore, 1) := by decide +kernel
theorem dX9_turn_71 : decode cX9_turn 71 = .ok (.iinc 1 2, 3) := by decide +kernel
theorem dX9_turn_74 : decode cX9_turn 74 = .ok (.goto (-60), 3) := by decide +kernel
theorem dX9_turn_77 : decode cX9_turn 77 = .ok (.aload_n 0, 1) := by decide +kernel
theorem dX9_turn_78 : decode cX9_turn 78 = .ok (.invokevirtual 93, 3) := by decide +kernel
theorem dX9_turn_81 : decode cX9_turn 81 = .ok (.return_, 1) := by decide +kernel
theorem dX9_height_0 : decode cX9_height 0 = .ok (.iconst 0, 1) := by decide +kernel
theorem dX9_height_1 : decode cX9_height 1 = .ok (.istore_n 1, 1) := by decide +kernel
theorem dX9_height_2 : decode cX9_height 2 = .ok (.iconst 0, 1) := by decide +kernel
theorem dX9_height_3 : decode cX9_height 3 = .ok (.istore_n 2, 1) := by decide +kernel
theorem dX9_height_4 : decode cX9_height 4 = .ok (.iload_n 2, 1) := by decide +kernel
theorem dX9_height_5 : decode cX9_height 5 = .ok (.aload_n 0, 1) := by decide +kernel
theorem dX9_height_6 : decode cX9_height 6 = .ok (.getfield 58, 3) := by decide +kernel
theorem dX9_height_9 : decode cX9_height 9 = .ok (.if_icmp .ge 74, 3) := by decide +kernel
theorem dX9_height_12 : decode cX9_height 12 = .ok (.iconst 0, 1) := by decide +kernel
theorem dX9_height_13 : decode cX9_height 13 = .ok (.istore_n 3, 1) := by decide +kernel
theorem dX9_height_14 : decode cX9_height 14 = .ok (.iconst 0, 1) := by decide +kernel
theorem dX9_height_15 : decode cX9_height 15 = .ok (.istore 4, 2) := by decide +kernel
theorem dX9_height_17 : decode cX9_height 17 = .ok (.iload 4, 2) := by decide +kernel
theorem dX9_height_19 : decode cX9_height 19 = .ok (.iload_n 2, 1) := by decide +kernel
theorem dX9_height_20 : decode cX9_height 20 = .ok (.if_icmp .gt 46, 3) := by decide +kernel
theorem dX9_height_23 : decode cX9_height 23 = .ok (.aload_n 0, 1) := by decide +kernel
theorem dX9_height_24 : decode cX9_height 24 = .ok (.getfield 29, 3) := by decide +kernel
theorem dX9_height_27 : decode cX9_height 27 = .ok (.iload_n 2, 1) := by decide +kernel
theorem dX9_height_28 : decode cX9_height 28 = .ok (.iaload, 1) := by decide +kernel
theorem dX9_height_29 : decode cX9_height 29 = .ok (.ifCond .eq 37, 3) := by decide +kernel
theorem dX9_height_32 : decode cX9_height 32 = .ok (.iload_n 3, 1) := by decide +kernel
theorem dX9_height_33 : decode cX9_height 33 = .ok (.aload_n 0, 1) := by decide +kernel
theorem dX9_height_34 : decode cX9_height 34 = .ok (.getfield 29, 3) := by decide +kernel
theorem dX9_height_37 : decode cX9_height 37 = .ok (.iload 4, 2) := by decide +kernel
theorem dX9_height_39 : decode cX9_height 39 = .ok (.iaload, 1) := by decide +kernel
theorem dX9_height_40 : decode cX9_height 40 = .ok (.ifCond .eq 17, 3) := by decide +kernel
theorem dX9_height_43 : decode cX9_height 43 = .ok (.aload_n 0, 1) := by decide +kernel
theorem dX9_height_44 : decode cX9_height 44 = .ok (.iload 4, 2) := by decide +kernel
theorem dX9_height_46 : decode cX9_height 46 = .ok (.invokevirtual 68, 3) := by decide +kernel
theorem dX9_height_49 : decode cX9_height 49 = .ok (.iload_n 2, 1) := by decide +kernel
theorem dX9_height_50 : decode cX9_height 50 = .ok (.if_icmp .le 7, 3) := by decide +kernel
theorem dX9_height_53 : decode cX9_height 53 = .ok (.iconst 1, 1) := by decide +kernel
theorem dX9_height_54 : decode cX9_height 54 = .ok (.goto 4, 3) := by decide +kernel
theorem dX9_height_57 : decode cX9_height 57 = .ok (.iconst 0, 1) := by decide +kernel
theorem dX9_height_58 : decode cX9_height 58 = .ok (.iadd, 1) := by decide +kernel
theorem dX9_height_59 : decode cX9_height 59 = .ok (.istore_n 3, 1) := by decide +kernel
theorem dX9_height_60 : decode cX9_height 60 = .ok (.iinc 4 1, 3) := by decide +kernel
theorem dX9_height_63 : decode cX9_height 63 = .ok (.goto (-46), 3) := by decide +kernel
theorem dX9_height_66 : decode cX9_height 66 = .ok (.iload_n 3, 1) := by decide +kernel
theorem dX9_height_67 : decode cX9_height 67 = .ok (.iload_n 1, 1) := by decide +kernel
theorem dX9_height_68 : decode cX9_height 68 = .ok (.if_icmp .le 7, 3) := by decide +kernel
theorem dX9_height_71 : decode cX9_height 71 = .ok (.iload_n 3, 1) := by decide +kernel
theorem dX9_height_72 : decode cX9_height 72 = .ok (.goto 4, 3) := by decide +kernel
theorem dX9_height_75 : decode cX9_height 75 = .ok (.iload_n 1, 1) := by decide +kernel
theorem dX9_height_76 : decode cX9_height 76 = .ok (.istore_n 1, 1) := by decide +kernel
theorem dX9_height_77 : decode cX9_height 77 = .ok (.iinc 2 1, 3) := by decide +kernel
theorem dX9_height_80 : decode cX9_height 80 = .ok (.goto (-76), 3) := by decide +kernel
theorem dX9_height_83 : decode cX9_height 83 = .ok (.iload_n 1, 1) := by decide +kernel
theorem dX9_height_84 : decode cX9_height 84 = .ok (.ireturn, 1) := by decide +kernel
theorem dX9_leafAt_0 : decode cX9_leafAt 0 = .ok (.iconst 0, 1) := by decide +kernel
theorem dX9_leafAt_1 : decode cX9_leafAt 1 = .ok (.istore_n 2, 1) := by decide +kernel
theorem dX9_leafAt_2 : decode cX9_leafAt 2 = .ok (.iconst 0, 1) := by decide +kernel
theorem dX9_leafAt_3 : decode cX9_leafAt 3 = .ok (.istore_n 3, 1) := by decide +kernel
theorem dX9_leafAt_4 : decode cX9_leafAt 4 = .ok (.iload_n 3, 1) := by decide +kernel
theorem dX9_leafAt_5 : decode cX9_leafAt 5 = .ok (.aload_n 0, 1) := by decide +kernel
theorem dX9_leafAt_6 : decode cX9_leafAt 6 = .ok (.getfield 58, 3) := by decide +kernel
theorem dX9_leafAt_9 : decode cX9_leafAt 9 = .ok (.if_icmp .ge 28, 3) := by decide +kernel
theorem dX9_leafAt_12 : decode cX9_leafAt 12 = .ok (.aload_n 0, 1) := by decide +kernel
theorem dX9_leafAt_13 : decode cX9_leafAt 13 = .ok (.getfield 29, 3) := by decide +kernel
theorem dX9_leafAt_16 : decode cX9_leafAt 16 = .ok (.iload_n 3, 1) := by decide +kernel
theorem dX9_leafAt_17 : decode cX9_leafAt 17 = .ok (.iaload, 1) := by decide +kernel
theorem dX9_leafAt_18 : decode cX9_leafAt 18 = .ok (.ifCond .ne 13, 3) := by decide +kernel
theorem dX9_leafAt_21 : decode cX9_leafAt 21 = .ok (.iload_n 2, 1) := by decide +kernel
theorem dX9_leafAt_22 : decode cX9_leafAt 22 = .ok (.iload_n 1, 1) := by decide +kernel
theorem dX9_leafAt_23 : decode cX9_leafAt 23 = .ok (.if_icmp .ne 5, 3) := by decide +kernel
theorem dX9_leafAt_26 : decode cX9_leafAt 26 = .ok (.iload_n 3, 1) := by decide +kernel
theorem dX9_leafAt_27 : decode cX9_leafAt 27 = .ok (.ireturn, 1) := by decide +kernel
theorem dX9_leafAt_28 : decode cX9_leafAt 28 = .ok (.iinc 2 1, 3) := by decide +kernel
theorem dX9_leafAt_31 : decode cX9_leafAt 31 = .ok (.iinc 3 1, 3) := by decide +kernel
theorem dX9_leafAt_34 : decode cX9_leafAt 34 = .ok (.goto (-30), 3) := by decide +kernel
theorem dX9_leafAt_37 : decode cX9_leafAt 37 = .ok (.iconst (-1), 1) := by decide +kernel
theorem dX9_leafAt_38 : decode cX9_leafAt 38 = .ok (.ireturn, 1) := by decide +kernel
theorem dX9_isTreeWord_0 : decode cX9_isTreeWord 0 = .ok (.iconst 1, 1) := by decide +kernel
theorem dX9_isTreeWord_1 : decode cX9_isTreeWord 1 = .ok (.istore_n 1, 1) := by decide +kernel
theorem dX9_isTreeWord_2 : decode cX9_isTreeWord 2 = .ok (.iconst 0, 1) := by decide +kernel
theorem dX9_isTreeWord_3 : decode cX9_isTreeWord 3 = .ok (.istore_n 2, 1) := by decide +kernel
theorem dX9_isTreeWord_4 : decode cX9_isTreeWord 4 = .ok (.iload_n 2, 1) := by decide +kernel
theorem dX9_isTreeWord_5 : decode cX9_isTreeWord 5 = .ok (.aload_n 0, 1) := by decide +kernel
theorem dX9_isTreeWord_6 : decode cX9_isTreeWord 6 = .ok (.getfield 58, 3) := by decide +kernel
theorem dX9_isTreeWord_9 : decode cX9_isTreeWord 9 = .ok (.if_icmp .ge 32, 3) := by decide +kernel
theorem dX9_isTreeWord_12 : decode cX9_isTreeWord 12 = .ok (.iload_n 1, 1) := by decide +kernel
theorem dX9_isTreeWord_13 : decode cX9_isTreeWord 13 = .ok (.ifCond .ne 5, 3) := by decide +kernel
theorem dX9_isTreeWord_16 : decode cX9_isTreeWord 16 = .ok (.iconst 0, 1) := by decide +kernel
theorem dX9_isTreeWord_17 : decode cX9_isTreeWord 17 = .ok (.ireturn, 1) := by decide +kernel
theorem dX9_isTreeWord_18 : decode cX9_isTreeWord 18 = .ok (.iload_n 1, 1) := by decide +kernel
theorem dX9_isTreeWord_19 : decode cX9_isTreeWord 19 = .ok (.aload_n 0, 1) := by decide +kernel
theorem dX9_isTreeWord_20 : decode cX9_isTreeWord 20 = .ok (.getfield 29, 3) := by decide +kernel
theorem dX9_isTreeWord_23 : decode cX9_isTreeWord 23 = .ok (.iload_n 2, 1) := by decide +kernel
theorem dX9_isTreeWord_24 : decode cX9_isTreeWord 24 = .ok (.iaload, 1) := by decide +kernel
theorem dX9_isTreeWord_25 : decode cX9_isTreeWord 25 = .ok (.ifCond .ne 7, 3) := by decide +kernel
theorem dX9_isTreeWord_28 : decode cX9_isTreeWord 28 = .ok (.iconst (-1), 1) := by decide +kernel
theorem dX9_isTreeWord_29 : decode cX9_isTreeWord 29 = .ok (.goto 4, 3) := by decide +kernel
theorem dX9_isTreeWord_32 : decode cX9_isTreeWord 32 = .ok (.iconst 1, 1) := by decide +kernel
theorem dX9_isTreeWord_33 : decode cX9_isTreeWord 33 = .ok (.iadd, 1) := by decide +kernel
theorem dX9_isTreeWord_34 : decode cX9_isTreeWord 34 = .ok (.istore_n 1, 1) := by decide +kernel
theorem dX9_isTreeWord_35 : decode cX9_isTreeWord 35 = .ok (.iinc 2 1, 3) := by decide +kernel
theorem dX9_isTreeWord_38 : decode cX9_isTreeWord 38 = .ok (.goto (-34), 3) := by decide +kernel
theorem dX9_isTreeWord_41 : decode cX9_isTreeWord 41 = .ok (.iload_n 1, 1) := by decide +kernel
theorem dX9_isTreeWord_42 : decode cX9_isTreeWord 42 = .ok (.ifCond .ne 7, 3) := by decide +kernel
theorem dX9_isTreeWord_45 : decode cX9_isTreeWord 45 = .ok (.iconst 1, 1) := by decide +kernel
theorem dX9_isTreeWord_46 : decode cX9_isTreeWord 46 = .ok (.goto 4, 3) := by decide +kernel
theorem dX9_isTreeWord_49 : decode cX9_isTreeWord 49 = .ok (.iconst 0, 1) := by decide +kernel
theorem dX9_isTreeWord_50 : decode cX9_isTreeWord 50 = .ok (.ireturn, 1) := by decide +kernel
theorem dX9_isCritical_0 : decode cX9_isCritical 0 = .ok (.aload_n 0, 1) := by decide +kernel
theorem dX9_isCritical_1 : decode cX9_isCritical 1 = .ok (.iload_n 1, 1) := by decide +kernel
theorem dX9_isCritical_2 : decode cX9_isCritical 2 = .ok (.iconst 1, 1) := by decide +kernel
theorem dX9_isCritical_3 : decode cX9_isCritical 3 = .ok (.invokevirtual 64, 3) := by decide +kernel
theorem dX9_isCritical_6 : decode cX9_isCritical 6 = .ok (.aload_n 0, 1) := by decide +kernel
theorem dX9_isCritical_7 : decode cX9_isCritical 7 = .ok (.getfield 58, 3) := by decide +kernel
theorem dX9_isCritical_10 : decode cX9_isCritical 10 = .ok (.bipush 7, 2) := by decide +kernel
theorem dX9_isCritical_12 : decode cX9_isCritical 12 = .ok (.if_icmp .ne 22, 3) := by decide +kernel
theorem dX9_isCritical_15 : decode cX9_isCritical 15 = .ok (.aload_n 0, 1) := by decide +kernel
theorem dX9_isCritical_16 : decode cX9_isCritical 16 = .ok (.invokevirtual 102, 3) := by decide +kernel
theorem dX9_isCritical_19 : decode cX9_isCritical 19 = .ok (.ifCond .eq 15, 3) := by decide +kernel
theorem dX9_isCritical_22 : decode cX9_isCritical 22 = .ok (.aload_n 0, 1) := by decide +kernel
theorem dX9_isCritical_23 : decode cX9_isCritical 23 = .ok (.invokevirtual 106, 3) := by decide +kernel
theorem dX9_isCritical_26 : decode cX9_isCritical 26 = .ok (.iconst 2, 1) := by decide +kernel
theorem dX9_isCritical_27 : decode cX9_isCritical 27 = .ok (.if_icmp .ne 7, 3) := by decide +kernel
theorem dX9_isCritical_30 : decode cX9_isCritical 30 = .ok (.iconst 1, 1) := by decide +kernel
theorem dX9_isCritical_31 : decode cX9_isCritical 31 = .ok (.goto 4, 3) := by decide +kernel
theorem dX9_isCritical_34 : decode cX9_isCritical 34 = .ok (.iconst 0, 1) := by decide +kernel
theorem dX9_isCritical_35 : decode cX9_isCritical 35 = .ok (.ireturn, 1) := by decide +kernel
theorem dX9_isBad_0 : decode cX9_isBad 0 = .ok (.aload_n 0, 1) := by decide +kernel
theorem dX9_isBad_1 : decode cX9_isBad 1 = .ok (.iload_n 1, 1) := by decide +kernel
theorem dX9_isBad_2 : decode cX9_isBad 2 = .ok (.invokevirtual 110, 3) := by decide +kernel
theorem dX9_isBad_5 : decode cX9_isBad 5 = .ok (.ifCond .ne 5, 3) := by decide +kernel
theorem dX9_isBad_8 : decode cX9_isBad 8 = .ok (.iconst 0, 1) := by decide +kernel
theorem dX9_isBad_9 : decode cX9_isBad 9 = .ok (.ireturn, 1) := by decide +kernel
theorem dX9_isBad_10 : decode cX9_isBad 10 = .ok (.aload_n 0, 1) := by decide +kernel
theorem dX9_isBad_11 : decode cX9_isBad 11 = .ok (.aload_n 0, 1) := by decide +kernel
theorem dX9_isBad_12 : decode cX9_isBad 12 = .ok (.iconst 0, 1) := by decide +kernel
theorem dX9_isBad_13 : decode cX9_isBad 13 = .ok (.invokevirtual 96, 3) := by decide +kernel
theorem dX9_isBad_16 : decode cX9_isBad 16 = .ok (.invokevirtual 99, 3) := by decide +kernel
theorem dX9_isBad_19 : decode cX9_isBad 19 = .ok (.aload_n 0, 1) := by decide +kernel
theorem dX9_isBad_20 : decode cX9_isBad 20 = .ok (.invokevirtual 114, 3) := by decide +kernel
theorem dX9_isBad_23 : decode cX9_isBad 23 = .ok (.iconst (-1), 1) := by decide +kernel
theorem dX9_isBad_24 : decode cX9_isBad 24 = .ok (.if_icmp .ne 7, 3) := by decide +kernel
theorem dX9_isBad_27 : decode cX9_isBad 27 = .ok (.iconst (-1), 1) := by decide +kernel
theorem dX9_isBad_28 : decode cX9_isBad 28 = .ok (.goto 16, 3) := by decide +kernel
theorem dX9_isBad_31 : decode cX9_isBad 31 = .ok (.iconst 3, 1) := by decide +kernel
theorem dX9_isBad_32 : decode cX9_isBad 32 = .ok (.aload_n 0, 1) := by decide +kernel
theorem dX9_isBad_33 : decode cX9_isBad 33 = .ok (.invokevirtual 117, 3) := by decide +kernel
theorem dX9_isBad_36 : decode cX9_isBad 36 = .ok (.imul, 1) := by decide +kernel
theorem dX9_isBad_37 : decode cX9_isBad 37 = .ok (.aload_n 0, 1) := by decide +kernel
theorem dX9_isBad_38 : decode cX9_isBad 38 = .ok (.getfield 61, 3) := by decide +kernel
theorem dX9_isBad_41 : decode cX9_isBad 41 = .ok (.iadd, 1) := by decide +kernel
theorem dX9_isBad_42 : decode cX9_isBad 42 = .ok (.iconst 1, 1) := by decide +kernel
theorem dX9_isBad_43 : decode cX9_isBad 43 = .ok (.iadd, 1) := by decide +kernel
theorem dX9_isBad_44 : decode cX9_isBad 44 = .ok (.istore_n 2, 1) := by decide +kernel
theorem dX9_isBad_45 : decode cX9_isBad 45 = .ok (.aload_n 0, 1) := by decide +kernel
theorem dX9_isBad_46 : decode cX9_isBad 46 = .ok (.iload_n 1, 1) := by decide +kernel
theorem dX9_isBad_47 : decode cX9_isBad 47 = .ok (.iconst 1, 1) := by decide +kernel
theorem dX9_isBad_48 : decode cX9_isBad 48 = .ok (.invokevirtual 64, 3) := by decide +kernel
theorem dX9_isBad_51 : decode cX9_isBad 51 = .ok (.aload_n 0, 1) := by decide +kernel
theorem dX9_isBad_52 : decode cX9_isBad 52 = .ok (.aload_n 0, 1) := by decide +kernel
theorem dX9_isBad_53 : decode cX9_isBad 53 = .ok (.iconst 1, 1) := by decide +kernel
theorem dX9_isBad_54 : decode cX9_isBad 54 = .ok (.invokevirtual 96, 3) := by decide +kernel
theorem dX9_isBad_57 : decode cX9_isBad 57 = .ok (.invokevirtual 99, 3) := by decide +kernel
theorem dX9_isBad_60 : decode cX9_isBad 60 = .ok (.aload_n 0, 1) := by decide +kernel
theorem dX9_isBad_61 : decode cX9_isBad 61 = .ok (.invokevirtual 114, 3) := by decide +kernel
theorem dX9_isBad_64 : decode cX9_isBad 64 = .ok (.iconst (-1), 1) := by decide +kernel
theorem dX9_isBad_65 : decode cX9_isBad 65 = .ok (.if_icmp .ne 7, 3) := by decide +kernel
theorem dX9_isBad_68 : decode cX9_isBad 68 = .ok (.iconst (-1), 1) := by decide +kernel
theorem dX9_isBad_69 : decode cX9_isBad 69 = .ok (.goto 16, 3) := by decide +kernel
theorem dX9_isBad_72 : decode cX9_isBad 72 = .ok (.iconst 3, 1) := by decide +kernel
theorem dX9_isBad_73 : decode cX9_isBad 73 = .ok (.aload_n 0, 1) := by decide +kernel
theorem dX9_isBad_74 : decode cX9_isBad 74 = .ok (.invokevirtual 117, 3) := by decide +kernel
theorem dX9_isBad_77 : decode cX9_isBad 77 = .ok (.imul, 1) := by decide +kernel
theorem dX9_isBad_78 : decode cX9_isBad 78 = .ok (.aload_n 0, 1) := by decide +kernel
theorem dX9_isBad_79 : decode cX9_isBad 79 = .ok (.getfield 61, 3) := by decide +kernel
theorem dX9_isBad_82 : decode cX9_isBad 82 = .ok (.iadd, 1) := by decide +kernel
theorem dX9_isBad_83 : decode cX9_isBad 83 = .ok (.iconst 1, 1) := by decide +kernel
theorem dX9_isBad_84 : decode cX9_isBad 84 = .ok (.iadd, 1) := by decide +kernel
theorem dX9_isBad_85 : decode cX9_isBad 85 = .ok (.istore_n 3, 1) := by decide +kernel
theorem dX9_isBad_86 : decode cX9_isBad 86 = .ok (.iload_n 2, 1) := by decide +kernel
theorem dX9_isBad_87 : decode cX9_isBad 87 = .ok (.iconst (-1), 1) := by decide +kernel
theorem dX9_isBad_88 : decode cX9_isBad 88 = .ok (.if_icmp .eq 8, 3) := by decide +kernel
theorem dX9_isBad_91 : decode cX9_isBad 91 = .ok (.iload_n 2, 1) := by decide +kernel
theorem dX9_isBad_92 : decode cX9_isBad 92 = .ok (.iload_n 3, 1) := by decide +kernel
theorem dX9_isBad_93 : decode cX9_isBad 93 = .ok (.if_icmp .eq 7, 3) := by decide +kernel
theorem dX9_isBad_96 : decode cX9_isBad 96 = .ok (.iconst 1, 1) := by decide +kernel
theorem dX9_isBad_97 : decode cX9_isBad 97 = .ok (.goto 4, 3) := by decide +kernel
theorem dX9_isBad_100 : decode cX9_isBad 100 = .ok (.iconst 0, 1) := by decide +kernel
theorem dX9_isBad_101 : decode cX9_isBad 101 = .ok (.ireturn, 1) := by decide +kernel
theorem dX9_criticals_0 : decode cX9_criticals 0 = .ok (.iconst 0, 1) := by decide +kernel
theorem dX9_criticals_1 : decode cX9_criticals 1 = .ok (.istore_n 1, 1) := by decide +kernel
theorem dX9_criticals_2 : decode cX9_criticals 2 = .ok (.sipush 729, 3) := by decide +kernel
theorem dX9_criticals_5 : decode cX9_criticals 5 = .ok (.istore_n 2, 1) := by decide +kernel
theorem dX9_criticals_6 : decode cX9_criticals 6 = .ok (.iload_n 2, 1) := by decide +kernel
theorem dX9_criticals_7 : decode cX9_criticals 7 = .ok (.sipush 2187, 3) := by decide +kernel
theorem dX9_criticals_10 : decode cX9_criticals 10 = .ok (.if_icmp .ge 25, 3) := by decide +kernel
theorem dX9_criticals_13 : decode cX9_criticals 13 = .ok (.iload_n 1, 1) := by decide +kernel
theorem dX9_criticals_14 : decode cX9_criticals 14 = .ok (.aload_n 0, 1) := by decide +kernel
theorem dX9_criticals_15 : decode cX9_criticals 15 = .ok (.iload_n 2, 1) := by decide +kernel
theorem dX9_criticals_16 : decode cX9_criticals 16 = .ok (.invokevirtual 110, 3) := by decide +kernel
theorem dX9_criticals_19 : decode cX9_criticals 19 = .ok (.ifCond .eq 7, 3) := by decide +kernel
theorem dX9_criticals_22 : decode cX9_criticals 22 = .ok (.iconst 1, 1) := by decide +kernel
theorem dX9_criticals_23 : decode cX9_criticals 23 = .ok (.goto 4, 3) := by decide +kernel
theorem dX9_criticals_26 : decode cX9_criticals 26 = .ok (.iconst 0, 1) := by decide +kernel
theorem dX9_criticals_27 : decode cX9_criticals 27 = .ok (.iadd, 1) := by decide +kernel
theorem dX9_criticals_28 : decode cX9_criticals 28 = .ok (.istore_n 1, 1) := by decide +kernel
theorem dX9_criticals_29 : decode cX9_criticals 29 = .ok (.iinc 2 1, 3) := by decide +kernel
theorem dX9_criticals_32 : decode cX9_criticals 32 = .ok (.goto (-26), 3) := by decide +kernel
theorem dX9_criticals_35 : decode cX9_criticals 35 = .ok (.iload_n 1, 1) := by decide +kernel
theorem dX9_criticals_36 : decode cX9_criticals 36 = .ok (.ireturn, 1) := by decide +kernel
theorem dX9_bads_0 : decode cX9_bads 0 = .ok (.iconst 0, 1) := by decide +kernel
theorem dX9_bads_1 : decode cX9_bads 1 = .ok (.istore_n 1, 1) := by decide +kernel
theorem dX9_bads_2 : decode cX9_bads 2 = .ok (.sipush 729, 3) := by decide +kernel
theorem dX9_bads_5 : decode cX9_bads 5 = .ok (.istore_n 2, 1) := by decide +kernel
theorem dX9_bads_6 : decode cX9_bads 6 = .ok (.iload_n 2, 1) := by decide +kernel
theorem dX9_bads_7 : decode cX9_bads 7 = .ok (.sipush 2187, 3) := by decide +kernel
theorem dX9_bads_10 : decode cX9_bads 10 = .ok (.if_icmp .ge 25, 3) := by decide +kernel
theorem dX9_bads_13 : decode cX9_bads 13 = .ok (.iload_n 1, 1) := by decide +kernel
theorem dX9_bads_14 : decode cX9_bads 14 = .ok (.aload_n 0, 1) := by decide +kernel
theorem dX9_bads_15 : decode cX9_bads 15 = .ok (.iload_n 2, 1) := by decide +kernel
theorem dX9_bads_16 : decode cX9_bads 16 = .ok (.invokevirtual 120, 3) := by decide +kernel
theorem dX9_bads_19 : decode cX9_bads 19 = .ok (.ifCond .eq 7, 3) := by decide +kernel
theorem dX9_bads_22 : decode cX9_bads 22 = .ok (.iconst 1, 1) := by decide +kernel
theorem dX9_bads_23 : decode cX9_bads 23 = .ok (.goto 4, 3) := by decide +kernel
theorem dX9_bads_26 : decode cX9_bads 26 = .ok (.iconst 0, 1) := by decide +kernel
theorem dX9_bads_27 : decode cX9_bads 27 = .ok (.iadd, 1) := by decide +kernel
theorem dX9_bads_28 : decode cX9_bads 28 = .ok (.istore_n 1, 1) := by decide +kernel
theorem dX9_bads_29 : decode cX9_bads 29 = .ok (.iinc 2 1, 3) := by decide +kernel
theorem dX9_bads_32 : decode cX9_bads 32 = .ok (.goto (-26), 3) := by decide +kernel
theorem dX9_bads_35 : decode cX9_bads 35 = .ok (.iload_n 1, 1) := by decide +kernel
theorem dX9_bads_36 : decode cX9_bads 36 = .ok (.ireturn, 1) := by decide +kernel
theorem dX9_firstBad_0 : decode cX9_firstBad 0 = .ok (.sipush 729, 3) := by decide +kernel
theorem dX9_firstBad_3 : decode cX9_firstBad 3 = .ok (.istore_n 1, 1) := by decide +kernel
theorem dX9_firstBad_4 : decode cX9_firstBad 4 = .ok (.iload_n 1, 1) := by decide +kernel
theorem dX9_firstBad_5 : decode cX9_firstBad 5 = .ok (.sipush 2187, 3) := by decide +kernel
theorem dX9_firstBad_8 : decode cX9_firstBad 8 = .ok (.if_icmp .ge 19, 3) := by decide +kernel
theorem dX9_firstBad_11 : decode cX9_firstBad 11 = .ok (.aload_n 0, 1) := by decide +kernel
theorem dX9_firstBad_12 : decode cX9_firstBad 12 = .ok (.iload_n 1, 1) := by decide +kernel
theorem dX9_firstBad_13 : decode cX9_firstBad 13 = .ok (.invokevirtual 120, 3) := by decide +kernel
theorem dX9_firstBad_16 : decode cX9_firstBad 16 = .ok (.ifCond .eq 5, 3) := by decide +kernel
theorem dX9_firstBad_19 : decode cX9_firstBad 19 = .ok (.iload_n 1, 1) := by decide +kernel
theorem dX9_firstBad_20 : decode cX9_firstBad 20 = .ok (.ireturn, 1) := by decide +kernel
theorem dX9_firstBad_21 : decode cX9_firstBad 21 = .ok (.iinc 1 1, 3) := by decide +kernel
theorem dX9_firstBad_24 : decode cX9_firstBad 24 = .ok (.goto (-20), 3) := by decide +kernel
theorem dX9_firstBad_27 : decode cX9_firstBad 27 = .ok (.iconst (-1), 1) := by decide +kernel
theorem dX9_firstBad_28 : decode cX9_firstBad 28 = .ok (.ireturn, 1) := by decide +kernel
theorem dX9_mayStand_0 : decode cX9_mayStand 0 = .ok (.aload_n 0, 1) := by decide +kernel
theorem dX9_mayStand_1 : decode cX9_mayStand 1 = .ok (.getfield 38, 3) := by decide +kernel
theorem dX9_mayStand_4 : decode cX9_mayStand 4 = .ok (.iconst 3, 1) := by decide +kernel
theorem dX9_mayStand_5 : decode cX9_mayStand 5 = .ok (.iload_n 3, 1) := by decide +kernel
theorem dX9_mayStand_6 : decode cX9_mayStand 6 = .ok (.imul, 1) := by decide +kernel
theorem dX9_mayStand_7 : decode cX9_mayStand 7 = .ok (.laload, 1) := by decide +kernel
theorem dX9_mayStand_8 : decode cX9_mayStand 8 = .ok (.lstore 4, 2) := by decide +kernel
theorem dX9_mayStand_10 : decode cX9_mayStand 10 = .ok (.iconst 0, 1) := by decide +kernel
theorem dX9_mayStand_11 : decode cX9_mayStand 11 = .ok (.istore 6, 2) := by decide +kernel
theorem dX9_mayStand_13 : decode cX9_mayStand 13 = .ok (.iload 6, 2) := by decide +kernel
theorem dX9_mayStand_15 : decode cX9_mayStand 15 = .ok (.iconst 2, 1) := by decide +kernel
theorem dX9_mayStand_16 : decode cX9_mayStand 16 = .ok (.if_icmp .ge 52, 3) := by decide +kernel
theorem dX9_mayStand_19 : decode cX9_mayStand 19 = .ok (.lload 4, 2) := by decide +kernel
theorem dX9_mayStand_21 : decode cX9_mayStand 21 = .ok (.aload_n 0, 1) := by decide +kernel
theorem dX9_mayStand_22 : decode cX9_mayStand 22 = .ok (.getfield 7, 3) := by decide +kernel
theorem dX9_mayStand_25 : decode cX9_mayStand 25 = .ok (.bipush 17, 2) := by decide +kernel
theorem dX9_mayStand_27 : decode cX9_mayStand 27 = .ok (.iconst 4, 1) := by decide +kernel
theorem dX9_mayStand_28 : decode cX9_mayStand 28 = .ok (.iload_n 1, 1) := by decide +kernel
theorem dX9_mayStand_29 : decode cX9_mayStand 29 = .ok (.imul, 1) := by decide +kernel
theorem dX9_mayStand_30 : decode cX9_mayStand 30 = .ok (.iadd, 1) := by decide +kernel
theorem dX9_mayStand_31 : decode cX9_mayStand 31 = .ok (.iconst 2, 1) := by decide +kernel
theorem dX9_mayStand_32 : decode cX9_mayStand 32 = .ok (.iload 6, 2) := by decide +kernel
theorem dX9_mayStand_34 : decode cX9_mayStand 34 = .ok (.imul, 1) := by decide +kernel
theorem dX9_mayStand_35 : decode cX9_mayStand 35 = .ok (.iadd, 1) := by decide +kernel
theorem dX9_mayStand_36 : decode cX9_mayStand 36 = .ok (.iload_n 2, 1) := by decide +kernel
theorem dX9_mayStand_37 : decode cX9_mayStand 37 = .ok (.iadd, 1) := by decide +kernel
theorem dX9_mayStand_38 : decode cX9_mayStand 38 = .ok (.iaload, 1) := by decide +kernel
theorem dX9_mayStand_39 : decode cX9_mayStand 39 = .ok (.ifCond .ne 19, 3) := by decide +kernel
theorem dX9_mayStand_42 : decode cX9_mayStand 42 = .ok (.aload_n 0, 1) := by decide +kernel
theorem dX9_mayStand_43 : decode cX9_mayStand 43 = .ok (.getfield 38, 3) := by decide +kernel
theorem dX9_mayStand_46 : decode cX9_mayStand 46 = .ok (.iconst 3, 1) := by decide +kernel
theorem dX9_mayStand_47 : decode cX9_mayStand 47 = .ok (.iload_n 3, 1) := by decide +kernel
theorem dX9_mayStand_48 : decode cX9_mayStand 48 = .ok (.imul, 1) := by decide +kernel
theorem dX9_mayStand_49 : decode cX9_mayStand 49 = .ok (.iconst 1, 1) := by decide +kernel
theorem dX9_mayStand_50 : decode cX9_mayStand 50 = .ok (.iadd, 1) := by decide +kernel
theorem dX9_mayStand_51 : decode cX9_mayStand 51 = .ok (.iload 6, 2) := by decide +kernel
theorem dX9_mayStand_53 : decode cX9_mayStand 53 = .ok (.iadd, 1) := by decide +kernel
theorem dX9_mayStand_54 : decode cX9_mayStand 54 = .ok (.laload, 1) := by decide +kernel
theorem dX9_mayStand_55 : decode cX9_mayStand 55 = .ok (.goto 4, 3) := by decide +kernel
theorem dX9_mayStand_58 : decode cX9_mayStand 58 = .ok (.lconst 0, 1) := by decide +kernel
theorem dX9_mayStand_59 : decode cX9_mayStand 59 = .ok (.ladd, 1) := by decide +kernel
theorem dX9_mayStand_60 : decode cX9_mayStand 60 = .ok (.lstore 4, 2) := by decide +kernel
theorem dX9_mayStand_62 : decode cX9_mayStand 62 = .ok (.iinc 6 1, 3) := by decide +kernel
theorem dX9_mayStand_65 : decode cX9_mayStand 65 = .ok (.goto (-52), 3) := by decide +kernel
theorem dX9_mayStand_68 : decode cX9_mayStand 68 = .ok (.lload 4, 2) := by decide +kernel
theorem dX9_mayStand_70 : decode cX9_mayStand 70 = .ok (.lreturn, 1) := by decide +kernel
theorem dX9_countPlains_0 : decode cX9_countPlains 0 = .ok (.iconst 1, 1) := by decide +kernel
theorem dX9_countPlains_1 : decode cX9_countPlains 1 = .ok (.istore_n 1, 1) := by decide +kernel
theorem dX9_countPlains_2 : decode cX9_countPlains 2 = .ok (.iload_n 1, 1) := by decide +kernel
theorem dX9_countPlains_3 : decode cX9_countPlains 3 = .ok (.bipush 7, 2) := by decide +kernel
theorem dX9_countPlains_5 : decode cX9_countPlains 5 = .ok (.if_icmp .gt 92, 3) := by decide +kernel
theorem dX9_countPlains_8 : decode cX9_countPlains 8 = .ok (.aload_n 0, 1) := by decide +kernel
theorem dX9_countPlains_9 : decode cX9_countPlains 9 = .ok (.getfield 38, 3) := by decide +kernel
theorem dX9_countPlains_12 : decode cX9_countPlains 12 = .ok (.iconst 3, 1) := by decide +kernel
theorem dX9_countPlains_13 : decode cX9_countPlains 13 = .ok (.iload_n 1, 1) := by decide +kernel
theorem dX9_countPlains_14 : decode cX9_countPlains 14 = .ok (.imul, 1) := by decide +kernel
theorem dX9_countPlains_15 : decode cX9_countPlains 15 = .ok (.iload_n 1, 1) := by decide +kernel
theorem dX9_countPlains_16 : decode cX9_countPlains 16 = .ok (.iconst 1, 1) := by decide +kernel
theorem dX9_countPlains_17 : decode cX9_countPlains 17 = .ok (.if_icmp .ne 7, 3) := by decide +kernel
theorem dX9_countPlains_20 : decode cX9_countPlains 20 = .ok (.lconst 1, 1) := by decide +kernel
theorem dX9_countPlains_21 : decode cX9_countPlains 21 = .ok (.goto 4, 3) := by decide +kernel
theorem dX9_countPlains_24 : decode cX9_countPlains 24 = .ok (.lconst 0, 1) := by decide +kernel
theorem dX9_countPlains_25 : decode cX9_countPlains 25 = .ok (.lastore, 1) := by decide +kernel
theorem dX9_countPlains_26 : decode cX9_countPlains 26 = .ok (.iconst 0, 1) := by decide +kernel
theorem dX9_countPlains_27 : decode cX9_countPlains 27 = .ok (.istore_n 2, 1) := by decide +kernel
theorem dX9_countPlains_28 : decode cX9_countPlains 28 = .ok (.iload_n 2, 1) := by decide +kernel
theorem dX9_countPlains_29 : decode cX9_countPlains 29 = .ok (.iconst 2, 1) := by decide +kernel
theorem dX9_countPlains_30 : decode cX9_countPlains 30 = .ok (.if_icmp .ge 61, 3) := by decide +kernel
theorem dX9_countPlains_33 : decode cX9_countPlains 33 = .ok (.lconst 0, 1) := by decide +kernel
theorem dX9_countPlains_34 : decode cX9_countPlains 34 = .ok (.lstore_n 3, 1) := by decide +kernel
theorem dX9_countPlains_35 : decode cX9_countPlains 35 = .ok (.iconst 1, 1) := by decide +kernel
theorem dX9_countPlains_36 : decode cX9_countPlains 36 = .ok (.istore 5, 2) := by decide +kernel
theorem dX9_countPlains_38 : decode cX9_countPlains 38 = .ok (.iload 5, 2) := by decide +kernel
theorem dX9_countPlains_40 : decode cX9_countPlains 40 = .ok (.iload_n 1, 1) := by decide +kernel
theorem dX9_countPlains_41 : decode cX9_countPlains 41 = .ok (.if_icmp .ge 31, 3) := by decide +kernel
theorem dX9_countPlains_44 : decode cX9_countPlains 44 = .ok (.lload_n 3, 1) := by decide +kernel
theorem dX9_countPlains_45 : decode cX9_countPlains 45 = .ok (.aload_n 0, 1) := by decide +kernel
theorem dX9_countPlains_46 : decode cX9_countPlains 46 = .ok (.iload_n 2, 1) := by decide +kernel
theorem dX9_countPlains_47 : decode cX9_countPlains 47 = .ok (.iconst 0, 1) := by decide +kernel
theorem dX9_countPlains_48 : decode cX9_countPlains 48 = .ok (.iload 5, 2) := by decide +kernel
theorem dX9_countPlains_50 : decode cX9_countPlains 50 = .ok (.invokevirtual 123, 3) := by decide +kernel
theorem dX9_countPlains_53 : decode cX9_countPlains 53 = .ok (.aload_n 0, 1) := by decide +kernel
theorem dX9_countPlains_54 : decode cX9_countPlains 54 = .ok (.iload_n 2, 1) := by decide +kernel
theorem dX9_countPlains_55 : decode cX9_countPlains 55 = .ok (.iconst 1, 1) := by decide +kernel
theorem dX9_countPlains_56 : decode cX9_countPlains 56 = .ok (.iload_n 1, 1) := by decide +kernel
theorem dX9_countPlains_57 : decode cX9_countPlains 57 = .ok (.iload 5, 2) := by decide +kernel
theorem dX9_countPlains_59 : decode cX9_countPlains 59 = .ok (.isub, 1) := by decide +kernel
theorem dX9_countPlains_60 : decode cX9_countPlains 60 = .ok (.invokevirtual 123, 3) := by decide +kernel
theorem dX9_countPlains_63 : decode cX9_countPlains 63 = .ok (.lmul, 1) := by decide +kernel
theorem dX9_countPlains_64 : decode cX9_countPlains 64 = .ok (.ladd, 1) := by decide +kernel
theorem dX9_countPlains_65 : decode cX9_countPlains 65 = .ok (.lstore_n 3, 1) := by decide +kernel
theorem dX9_countPlains_66 : decode cX9_countPlains 66 = .ok (.iinc 5 1, 3) := by decide +kernel
theorem dX9_countPlains_69 : decode cX9_countPlains 69 = .ok (.goto (-31), 3) := by decide +kernel
theorem dX9_countPlains_72 : decode cX9_countPlains 72 = .ok (.aload_n 0, 1) := by decide +kernel
theorem dX9_countPlains_73 : decode cX9_countPlains 73 = .ok (.getfield 38, 3) := by decide +kernel
theorem dX9_countPlains_76 : decode cX9_countPlains 76 = .ok (.iconst 3, 1) := by decide +kernel
theorem dX9_countPlains_77 : decode cX9_countPlains 77 = .ok (.iload_n 1, 1) := by decide +kernel
theorem dX9_countPlains_78 : decode cX9_countPlains 78 = .ok (.imul, 1) := by decide +kernel
theorem dX9_countPlains_79 : decode cX9_countPlains 79 = .ok (.iconst 1, 1) := by decide +kernel
theorem dX9_countPlains_80 : decode cX9_countPlains 80 = .ok (.iadd, 1) := by decide +kernel
theorem dX9_countPlains_81 : decode cX9_countPlains 81 = .ok (.iload_n 2, 1) := by decide +kernel
theorem dX9_countPlains_82 : decode cX9_countPlains 82 = .ok (.iadd, 1) := by decide +kernel
theorem dX9_countPlains_83 : decode cX9_countPlains 83 = .ok (.lload_n 3, 1) := by decide +kernel
theorem dX9_countPlains_84 : decode cX9_countPlains 84 = .ok (.lastore, 1) := by decide +kernel
theorem dX9_countPlains_85 : decode cX9_countPlains 85 = .ok (.iinc 2 1, 3) := by decide +kernel
theorem dX9_countPlains_88 : decode cX9_countPlains 88 = .ok (.goto (-60), 3) := by decide +kernel
theorem dX9_countPlains_91 : decode cX9_countPlains 91 = .ok (.iinc 1 1, 3) := by decide +kernel
theorem dX9_countPlains_94 : decode cX9_countPlains 94 = .ok (.goto (-92), 3) := by decide +kernel
theorem dX9_countPlains_97 : decode cX9_countPlains 97 = .ok (.return_, 1) := by decide +kernel
theorem dX9_plainOf_0 : decode cX9_plainOf 0 = .ok (.aload_n 0, 1) := by decide +kernel
theorem dX9_plainOf_1 : decode cX9_plainOf 1 = .ok (.getfield 38, 3) := by decide +kernel
theorem dX9_plainOf_4 : decode cX9_plainOf 4 = .ok (.iconst 3, 1) := by decide +kernel
theorem dX9_plainOf_5 : decode cX9_plainOf 5 = .ok (.iload_n 1, 1) := by decide +kernel
theorem dX9_plainOf_6 : decode cX9_plainOf 6 = .ok (.imul, 1) := by decide +kernel
theorem dX9_plainOf_7 : decode cX9_plainOf 7 = .ok (.laload, 1) := by decide +kernel
theorem dX9_plainOf_8 : decode cX9_plainOf 8 = .ok (.aload_n 0, 1) := by decide +kernel
theorem dX9_plainOf_9 : decode cX9_plainOf 9 = .ok (.getfield 38, 3) := by decide +kernel
theorem dX9_plainOf_12 : decode cX9_plainOf 12 = .ok (.iconst 3, 1) := by decide +kernel
theorem dX9_plainOf_13 : decode cX9_plainOf 13 = .ok (.iload_n 1, 1) := by decide +kernel
theorem dX9_plainOf_14 : decode cX9_plainOf 14 = .ok (.imul, 1) := by decide +kernel
theorem dX9_plainOf_15 : decode cX9_plainOf 15 = .ok (.iconst 1, 1) := by decide +kernel
theorem dX9_plainOf_16 : decode cX9_plainOf 16 = .ok (.iadd, 1) := by decide +kernel
theorem dX9_plainOf_17 : decode cX9_plainOf 17 = .ok (.laload, 1) := by decide +kernel
theorem dX9_plainOf_18 : decode cX9_plainOf 18 = .ok (.ladd, 1) := by decide +kernel
theorem dX9_plainOf_19 : decode cX9_plainOf 19 = .ok (.aload_n 0, 1) := by decide +kernel
theorem dX9_plainOf_20 : decode cX9_plainOf 20 = .ok (.getfield 38, 3) := by decide +kernel
theorem dX9_plainOf_23 : decode cX9_plainOf 23 = .ok (.iconst 3, 1) := by decide +kernel
theorem dX9_plainOf_24 : decode cX9_plainOf 24 = .ok (.iload_n 1, 1) := by decide +kernel
theorem dX9_plainOf_25 : decode cX9_plainOf 25 = .ok (.imul, 1) := by decide +kernel
theorem dX9_plainOf_26 : decode cX9_plainOf 26 = .ok (.iconst 2, 1) := by decide +kernel
theorem dX9_plainOf_27 : decode cX9_plainOf 27 = .ok (.iadd, 1) := by decide +kernel
theorem dX9_plainOf_28 : decode cX9_plainOf 28 = .ok (.laload, 1) := by decide +kernel
theorem dX9_plainOf_29 : decode cX9_plainOf 29 = .ok (.ladd, 1) := by decide +kernel
theorem dX9_plainOf_30 : decode cX9_plainOf 30 = .ok (.lreturn, 1) := by decide +kernel
theorem dX9_powerUp_0 : decode cX9_powerUp 0 = .ok (.iconst 0, 1) := by decide +kernel
theorem dX9_powerUp_1 : decode cX9_powerUp 1 = .ok (.istore_n 1, 1) := by decide +kernel
theorem dX9_powerUp_2 : decode cX9_powerUp 2 = .ok (.iload_n 1, 1) := by decide +kernel
theorem dX9_powerUp_3 : decode cX9_powerUp 3 = .ok (.bipush 7, 2) := by decide +kernel
theorem dX9_powerUp_5 : decode cX9_powerUp 5 = .ok (.if_icmp .gt 53, 3) := by decide +kernel
theorem dX9_powerUp_8 : decode cX9_powerUp 8 = .ok (.aload_n 0, 1) := by decide +kernel
theorem dX9_powerUp_9 : decode cX9_powerUp 9 = .ok (.getfield 48, 3) := by decide +kernel
theorem dX9_powerUp_12 : decode cX9_powerUp 12 = .ok (.iload_n 1, 1) := by decide +kernel
theorem dX9_powerUp_13 : decode cX9_powerUp 13 = .ok (.lconst 0, 1) := by decide +kernel
theorem dX9_powerUp_14 : decode cX9_powerUp 14 = .ok (.lastore, 1) := by decide +kernel
theorem dX9_powerUp_15 : decode cX9_powerUp 15 = .ok (.iconst 0, 1) := by decide +kernel
theorem dX9_powerUp_16 : decode cX9_powerUp 16 = .ok (.istore_n 2, 1) := by decide +kernel
theorem dX9_powerUp_17 : decode cX9_powerUp 17 = .ok (.iload_n 2, 1) := by decide +kernel
theorem dX9_powerUp_18 : decode cX9_powerUp 18 = .ok (.iload_n 1, 1) := by decide +kernel
theorem dX9_powerUp_19 : decode cX9_powerUp 19 = .ok (.if_icmp .gt 33, 3) := by decide +kernel
theorem dX9_powerUp_22 : decode cX9_powerUp 22 = .ok (.aload_n 0, 1) := by decide +kernel
theorem dX9_powerUp_23 : decode cX9_powerUp 23 = .ok (.getfield 48, 3) := by decide +kernel
theorem dX9_powerUp_26 : decode cX9_powerUp 26 = .ok (.iload_n 1, 1) := by decide +kernel
theorem dX9_powerUp_27 : decode cX9_powerUp 27 = .ok (.dup2, 1) := by decide +kernel
theorem dX9_powerUp_28 : decode cX9_powerUp 28 = .ok (.laload, 1) := by decide +kernel
theorem dX9_powerUp_29 : decode cX9_powerUp 29 = .ok (.aload_n 0, 1) := by decide +kernel
theorem dX9_powerUp_30 : decode cX9_powerUp 30 = .ok (.getfield 45, 3) := by decide +kernel
theorem dX9_powerUp_33 : decode cX9_powerUp 33 = .ok (.iload_n 2, 1) := by decide +kernel
theorem dX9_powerUp_34 : decode cX9_powerUp 34 = .ok (.laload, 1) := by decide +kernel
theorem dX9_powerUp_35 : decode cX9_powerUp 35 = .ok (.aload_n 0, 1) := by decide +kernel
theorem dX9_powerUp_36 : decode cX9_powerUp 36 = .ok (.getfield 42, 3) := by decide +kernel
theorem dX9_powerUp_39 : decode cX9_powerUp 39 = .ok (.iload_n 1, 1) := by decide +kernel
theorem dX9_powerUp_40 : decode cX9_powerUp 40 = .ok (.iload_n 2, 1) := by decide +kernel
theorem dX9_powerUp_41 : decode cX9_powerUp 41 = .ok (.isub, 1) := by decide +kernel
theorem dX9_powerUp_42 : decode cX9_powerUp 42 = .ok (.laload, 1) := by decide +kernel
theorem dX9_powerUp_43 : decode cX9_powerUp 43 = .ok (.lmul, 1) := by decide +kernel
theorem dX9_powerUp_44 : decode cX9_powerUp 44 = .ok (.ladd, 1) := by decide +kernel
theorem dX9_powerUp_45 : decode cX9_powerUp 45 = .ok (.lastore, 1) := by decide +kernel
theorem dX9_powerUp_46 : decode cX9_powerUp 46 = .ok (.iinc 2 1, 3) := by decide +kernel
theorem dX9_powerUp_49 : decode cX9_powerUp 49 = .ok (.goto (-32), 3) := by decide +kernel
theorem dX9_powerUp_52 : decode cX9_powerUp 52 = .ok (.iinc 1 1, 3) := by decide +kernel
theorem dX9_powerUp_55 : decode cX9_powerUp 55 = .ok (.goto (-53), 3) := by decide +kernel
theorem dX9_powerUp_58 : decode cX9_powerUp 58 = .ok (.iconst 0, 1) := by decide +kernel
theorem dX9_powerUp_59 : decode cX9_powerUp 59 = .ok (.istore_n 1, 1) := by decide +kernel
theorem dX9_powerUp_60 : decode cX9_powerUp 60 = .ok (.iload_n 1, 1) := by decide +kernel
theorem dX9_powerUp_61 : decode cX9_powerUp 61 = .ok (.bipush 7, 2) := by decide +kernel
theorem dX9_powerUp_63 : decode cX9_powerUp 63 = .ok (.if_icmp .gt 21, 3) := by decide +kernel
theorem dX9_powerUp_66 : decode cX9_powerUp 66 = .ok (.aload_n 0, 1) := by decide +kernel
theorem dX9_powerUp_67 : decode cX9_powerUp 67 = .ok (.getfield 45, 3) := by decide +kernel
theorem dX9_powerUp_70 : decode cX9_powerUp 70 = .ok (.iload_n 1, 1) := by decide +kernel
theorem dX9_powerUp_71 : decode cX9_powerUp 71 = .ok (.aload_n 0, 1) := by decide +kernel
theorem dX9_powerUp_72 : decode cX9_powerUp 72 = .ok (.getfield 48, 3) := by decide +kernel
theorem dX9_powerUp_75 : decode cX9_powerUp 75 = .ok (.iload_n 1, 1) := by decide +kernel
theorem dX9_powerUp_76 : decode cX9_powerUp 76 = .ok (.laload, 1) := by decide +kernel
theorem dX9_powerUp_77 : decode cX9_powerUp 77 = .ok (.lastore, 1) := by decide +kernel
theorem dX9_powerUp_78 : decode cX9_powerUp 78 = .ok (.iinc 1 1, 3) := by decide +kernel
theorem dX9_powerUp_81 : decode cX9_powerUp 81 = .ok (.goto (-21), 3) := by decide +kernel
theorem dX9_powerUp_84 : decode cX9_powerUp 84 = .ok (.return_, 1) := by decide +kernel
theorem dX9_undoSeries_0 : decode cX9_undoSeries 0 = .ok (.aload_n 0, 1) := by decide +kernel
theorem dX9_undoSeries_1 : decode cX9_undoSeries 1 = .ok (.invokevirtual 127, 3) := by decide +kernel
theorem dX9_undoSeries_4 : decode cX9_undoSeries 4 = .ok (.iconst 0, 1) := by decide +kernel
theorem dX9_undoSeries_5 : decode cX9_undoSeries 5 = .ok (.istore_n 1, 1) := by decide +kernel
theorem dX9_undoSeries_6 : decode cX9_undoSeries 6 = .ok (.iload_n 1, 1) := by decide +kernel
theorem dX9_undoSeries_7 : decode cX9_undoSeries 7 = .ok (.bipush 7, 2) := by decide +kernel
theorem dX9_undoSeries_9 : decode cX9_undoSeries 9 = .ok (.if_icmp .gt 25, 3) := by decide +kernel
theorem dX9_undoSeries_12 : decode cX9_undoSeries 12 = .ok (.aload_n 0, 1) := by decide +kernel
theorem dX9_undoSeries_13 : decode cX9_undoSeries 13 = .ok (.getfield 42, 3) := by decide +kernel
theorem dX9_undoSeries_16 : decode cX9_undoSeries 16 = .ok (.iload_n 1, 1) := by decide +kernel
theorem dX9_undoSeries_17 : decode cX9_undoSeries 17 = .ok (.iload_n 1, 1) := by decide +kernel
theorem dX9_undoSeries_18 : decode cX9_undoSeries 18 = .ok (.iconst 1, 1) := by decide +kernel
theorem dX9_undoSeries_19 : decode cX9_undoSeries 19 = .ok (.if_icmp .ne 7, 3) := by decide +kernel
theorem dX9_undoSeries_22 : decode cX9_undoSeries 22 = .ok (.lconst 1, 1) := by decide +kernel
theorem dX9_undoSeries_23 : decode cX9_undoSeries 23 = .ok (.goto 4, 3) := by decide +kernel
theorem dX9_undoSeries_26 : decode cX9_undoSeries 26 = .ok (.lconst 0, 1) := by decide +kernel
theorem dX9_undoSeries_27 : decode cX9_undoSeries 27 = .ok (.lastore, 1) := by decide +kernel
theorem dX9_undoSeries_28 : decode cX9_undoSeries 28 = .ok (.iinc 1 1, 3) := by decide +kernel
theorem dX9_undoSeries_31 : decode cX9_undoSeries 31 = .ok (.goto (-25), 3) := by decide +kernel
theorem dX9_undoSeries_34 : decode cX9_undoSeries 34 = .ok (.iconst 2, 1) := by decide +kernel
theorem dX9_undoSeries_35 : decode cX9_undoSeries 35 = .ok (.istore_n 1, 1) := by decide +kernel
theorem dX9_undoSeries_36 : decode cX9_undoSeries 36 = .ok (.iload_n 1, 1) := by decide +kernel
theorem dX9_undoSeries_37 : decode cX9_undoSeries 37 = .ok (.bipush 7, 2) := by decide +kernel
theorem dX9_undoSeries_39 : decode cX9_undoSeries 39 = .ok (.if_icmp .gt 80, 3) := by decide +kernel
theorem dX9_undoSeries_42 : decode cX9_undoSeries 42 = .ok (.iconst 0, 1) := by decide +kernel
theorem dX9_undoSeries_43 : decode cX9_undoSeries 43 = .ok (.istore_n 2, 1) := by decide +kernel
theorem dX9_undoSeries_44 : decode cX9_undoSeries 44 = .ok (.iload_n 2, 1) := by decide +kernel
theorem dX9_undoSeries_45 : decode cX9_undoSeries 45 = .ok (.bipush 7, 2) := by decide +kernel
theorem dX9_undoSeries_47 : decode cX9_undoSeries 47 = .ok (.if_icmp .gt 21, 3) := by decide +kernel
theorem dX9_undoSeries_50 : decode cX9_undoSeries 50 = .ok (.aload_n 0, 1) := by decide +kernel
theorem dX9_undoSeries_51 : decode cX9_undoSeries 51 = .ok (.getfield 45, 3) := by decide +kernel
theorem dX9_undoSeries_54 : decode cX9_undoSeries 54 = .ok (.iload_n 2, 1) := by decide +kernel
theorem dX9_undoSeries_55 : decode cX9_undoSeries 55 = .ok (.aload_n 0, 1) := by decide +kernel
theorem dX9_undoSeries_56 : decode cX9_undoSeries 56 = .ok (.getfield 42, 3) := by decide +kernel
theorem dX9_undoSeries_59 : decode cX9_undoSeries 59 = .ok (.iload_n 2, 1) := by decide +kernel
theorem dX9_undoSeries_60 : decode cX9_undoSeries 60 = .ok (.laload, 1) := by decide +kernel
theorem dX9_undoSeries_61 : decode cX9_undoSeries 61 = .ok (.lastore, 1) := by decide +kernel
theorem dX9_undoSeries_62 : decode cX9_undoSeries 62 = .ok (.iinc 2 1, 3) := by decide +kernel
theorem dX9_undoSeries_65 : decode cX9_undoSeries 65 = .ok (.goto (-21), 3) := by decide +kernel
theorem dX9_undoSeries_68 : decode cX9_undoSeries 68 = .ok (.lconst 0, 1) := by decide +kernel
theorem dX9_undoSeries_69 : decode cX9_undoSeries 69 = .ok (.lstore_n 2, 1) := by decide +kernel
theorem dX9_undoSeries_70 : decode cX9_undoSeries 70 = .ok (.iconst 2, 1) := by decide +kernel
theorem dX9_undoSeries_71 : decode cX9_undoSeries 71 = .ok (.istore 4, 2) := by decide +kernel
theorem dX9_undoSeries_73 : decode cX9_undoSeries 73 = .ok (.iload 4, 2) := by decide +kernel
theorem dX9_undoSeries_75 : decode cX9_undoSeries 75 = .ok (.iload_n 1, 1) := by decide +kernel
theorem dX9_undoSeries_76 : decode cX9_undoSeries 76 = .ok (.if_icmp .gt 29, 3) := by decide +kernel
theorem dX9_undoSeries_79 : decode cX9_undoSeries 79 = .ok (.aload_n 0, 1) := by decide +kernel
theorem dX9_undoSeries_80 : decode cX9_undoSeries 80 = .ok (.invokevirtual 130, 3) := by decide +kernel
theorem dX9_undoSeries_83 : decode cX9_undoSeries 83 = .ok (.lload_n 2, 1) := by decide +kernel
theorem dX9_undoSeries_84 : decode cX9_undoSeries 84 = .ok (.aload_n 0, 1) := by decide +kernel
theorem dX9_undoSeries_85 : decode cX9_undoSeries 85 = .ok (.iload 4, 2) := by decide +kernel
theorem dX9_undoSeries_87 : decode cX9_undoSeries 87 = .ok (.invokevirtual 133, 3) := by decide +kernel
theorem dX9_undoSeries_90 : decode cX9_undoSeries 90 = .ok (.aload_n 0, 1) := by decide +kernel
theorem dX9_undoSeries_91 : decode cX9_undoSeries 91 = .ok (.getfield 45, 3) := by decide +kernel
theorem dX9_undoSeries_94 : decode cX9_undoSeries 94 = .ok (.iload_n 1, 1) := by decide +kernel
theorem dX9_undoSeries_95 : decode cX9_undoSeries 95 = .ok (.laload, 1) := by decide +kernel
theorem dX9_undoSeries_96 : decode cX9_undoSeries 96 = .ok (.lmul, 1) := by decide +kernel
theorem dX9_undoSeries_97 : decode cX9_undoSeries 97 = .ok (.ladd, 1) := by decide +kernel
theorem dX9_undoSeries_98 : decode cX9_undoSeries 98 = .ok (.lstore_n 2, 1) := by decide +kernel
theorem dX9_undoSeries_99 : decode cX9_undoSeries 99 = .ok (.iinc 4 1, 3) := by decide +kernel
theorem dX9_undoSeries_102 : decode cX9_undoSeries 102 = .ok (.goto (-29), 3) := by decide +kernel
theorem dX9_undoSeries_105 : decode cX9_undoSeries 105 = .ok (.aload_n 0, 1) := by decide +kernel
theorem dX9_undoSeries_106 : decode cX9_undoSeries 106 = .ok (.getfield 42, 3) := by decide +kernel
theorem dX9_undoSeries_109 : decode cX9_undoSeries 109 = .ok (.iload_n 1, 1) := by decide +kernel
theorem dX9_undoSeries_110 : decode cX9_undoSeries 110 = .ok (.lload_n 2, 1) := by decide +kernel
theorem dX9_undoSeries_111 : decode cX9_undoSeries 111 = .ok (.lneg, 1) := by decide +kernel
theorem dX9_undoSeries_112 : decode cX9_undoSeries 112 = .ok (.lastore, 1) := by decide +kernel
theorem dX9_undoSeries_113 : decode cX9_undoSeries 113 = .ok (.iinc 1 1, 3) := by decide +kernel
theorem dX9_undoSeries_116 : decode cX9_undoSeries 116 = .ok (.goto (-80), 3) := by decide +kernel
theorem dX9_undoSeries_119 : decode cX9_undoSeries 119 = .ok (.return_, 1) := by decide +kernel
theorem dX9_count_0 : decode cX9_count 0 = .ok (.iload_n 1, 1) := by decide +kernel
theorem dX9_count_1 : decode cX9_count 1 = .ok (.iconst 1, 1) := by decide +kernel
theorem dX9_count_2 : decode cX9_count 2 = .ok (.bipush 7, 2) := by decide +kernel
theorem dX9_count_4 : decode cX9_count 4 = .ok (.invokestatic 54, 3) := by decide +kernel
theorem dX9_count_7 : decode cX9_count 7 = .ok (.ifCond .ne 7, 3) := by decide +kernel
theorem dX9_count_10 : decode cX9_count 10 = .ok (.ldc2_w 137, 3) := by decide +kernel
theorem dX9_count_13 : decode cX9_count 13 = .ok (.lreturn, 1) := by decide +kernel
theorem dX9_count_14 : decode cX9_count 14 = .ok (.aload_n 0, 1) := by decide +kernel
theorem dX9_count_15 : decode cX9_count 15 = .ok (.invokevirtual 127, 3) := by decide +kernel
theorem dX9_count_18 : decode cX9_count 18 = .ok (.aload_n 0, 1) := by decide +kernel
theorem dX9_count_19 : decode cX9_count 19 = .ok (.iload_n 1, 1) := by decide +kernel
theorem dX9_count_20 : decode cX9_count 20 = .ok (.invokevirtual 133, 3) := by decide +kernel
theorem dX9_count_23 : decode cX9_count 23 = .ok (.lreturn, 1) := by decide +kernel
theorem dX9_undoneBy_0 : decode cX9_undoneBy 0 = .ok (.iload_n 1, 1) := by decide +kernel
theorem dX9_undoneBy_1 : decode cX9_undoneBy 1 = .ok (.iconst 1, 1) := by decide +kernel
theorem dX9_undoneBy_2 : decode cX9_undoneBy 2 = .ok (.bipush 7, 2) := by decide +kernel
theorem dX9_undoneBy_4 : decode cX9_undoneBy 4 = .ok (.invokestatic 54, 3) := by decide +kernel
theorem dX9_undoneBy_7 : decode cX9_undoneBy 7 = .ok (.ifCond .ne 7, 3) := by decide +kernel
theorem dX9_undoneBy_10 : decode cX9_undoneBy 10 = .ok (.ldc2_w 137, 3) := by decide +kernel
theorem dX9_undoneBy_13 : decode cX9_undoneBy 13 = .ok (.lreturn, 1) := by decide +kernel
theorem dX9_undoneBy_14 : decode cX9_undoneBy 14 = .ok (.aload_n 0, 1) := by decide +kernel
theorem dX9_undoneBy_15 : decode cX9_undoneBy 15 = .ok (.invokevirtual 139, 3) := by decide +kernel
theorem dX9_undoneBy_18 : decode cX9_undoneBy 18 = .ok (.aload_n 0, 1) := by decide +kernel
theorem dX9_undoneBy_19 : decode cX9_undoneBy 19 = .ok (.getfield 42, 3) := by decide +kernel
theorem dX9_undoneBy_22 : decode cX9_undoneBy 22 = .ok (.iload_n 1, 1) := by decide +kernel
theorem dX9_undoneBy_23 : decode cX9_undoneBy 23 = .ok (.laload, 1) := by decide +kernel
theorem dX9_undoneBy_24 : decode cX9_undoneBy 24 = .ok (.lreturn, 1) := by decide +kernel
theorem dX9_isPattern_0 : decode cX9_isPattern 0 = .ok (.iload_n 1, 1) := by decide +kernel
theorem dX9_isPattern_1 : decode cX9_isPattern 1 = .ok (.iconst 0, 1) := by decide +kernel
theorem dX9_isPattern_2 : decode cX9_isPattern 2 = .ok (.bipush 7, 2) := by decide +kernel
theorem dX9_isPattern_4 : decode cX9_isPattern 4 = .ok (.invokestatic 54, 3) := by decide +kernel
theorem dX9_isPattern_7 : decode cX9_isPattern 7 = .ok (.ireturn, 1) := by decide +kernel
theorem dX9_comesFrom_0 : decode cX9_comesFrom 0 = .ok (.iconst 0, 1) := by decide +kernel
theorem dX9_comesFrom_1 : decode cX9_comesFrom 1 = .ok (.istore_n 2, 1) := by decide +kernel
theorem dX9_comesFrom_2 : decode cX9_comesFrom 2 = .ok (.iload_n 2, 1) := by decide +kernel
theorem dX9_comesFrom_3 : decode cX9_comesFrom 3 = .ok (.bipush 8, 2) := by decide +kernel
theorem dX9_comesFrom_5 : decode cX9_comesFrom 5 = .ok (.if_icmp .ge 24, 3) := by decide +kernel
theorem dX9_comesFrom_8 : decode cX9_comesFrom 8 = .ok (.aload_n 0, 1) := by decide +kernel
theorem dX9_comesFrom_9 : decode cX9_comesFrom 9 = .ok (.getfield 7, 3) := by decide +kernel
theorem dX9_comesFrom_12 : decode cX9_comesFrom 12 = .ok (.bipush 25, 2) := by decide +kernel
theorem dX9_comesFrom_14 : decode cX9_comesFrom 14 = .ok (.iload_n 2, 1) := by decide +kernel
theorem dX9_comesFrom_15 : decode cX9_comesFrom 15 = .ok (.iadd, 1) := by decide +kernel
theorem dX9_comesFrom_16 : decode cX9_comesFrom 16 = .ok (.iaload, 1) := by decide +kernel
theorem dX9_comesFrom_17 : decode cX9_comesFrom 17 = .ok (.iload_n 1, 1) := by decide +kernel
theorem dX9_comesFrom_18 : decode cX9_comesFrom 18 = .ok (.if_icmp .ne 5, 3) := by decide +kernel
theorem dX9_comesFrom_21 : decode cX9_comesFrom 21 = .ok (.iload_n 2, 1) := by decide +kernel
theorem dX9_comesFrom_22 : decode cX9_comesFrom 22 = .ok (.ireturn, 1) := by decide +kernel
theorem dX9_comesFrom_23 : decode cX9_comesFrom 23 = .ok (.iinc 2 1, 3) := by decide +kernel
theorem dX9_comesFrom_26 : decode cX9_comesFrom 26 = .ok (.goto (-24), 3) := by decide +kernel
theorem dX9_comesFrom_29 : decode cX9_comesFrom 29 = .ok (.iconst (-1), 1) := by decide +kernel
theorem dX9_comesFrom_30 : decode cX9_comesFrom 30 = .ok (.ireturn, 1) := by decide +kernel
theorem dX9_dualOf_0 : decode cX9_dualOf 0 = .ok (.aload_n 0, 1) := by decide +kernel
theorem dX9_dualOf_1 : decode cX9_dualOf 1 = .ok (.getfield 7, 3) := by decide +kernel
theorem dX9_dualOf_4 : decode cX9_dualOf 4 = .ok (.bipush 17, 2) := by decide +kernel
theorem dX9_dualOf_6 : decode cX9_dualOf 6 = .ok (.iload_n 1, 1) := by decide +kernel
theorem dX9_dualOf_7 : decode cX9_dualOf 7 = .ok (.iadd, 1) := by decide +kernel
theorem dX9_dualOf_8 : decode cX9_dualOf 8 = .ok (.iaload, 1) := by decide +kernel
theorem dX9_dualOf_9 : decode cX9_dualOf 9 = .ok (.istore_n 2, 1) := by decide +kernel
theorem dX9_dualOf_10 : decode cX9_dualOf 10 = .ok (.iload_n 2, 1) := by decide +kernel
theorem dX9_dualOf_11 : decode cX9_dualOf 11 = .ok (.ifCond .ne 18, 3) := by decide +kernel
theorem dX9_dualOf_14 : decode cX9_dualOf 14 = .ok (.aload_n 0, 1) := by decide +kernel
theorem dX9_dualOf_15 : decode cX9_dualOf 15 = .ok (.iload_n 1, 1) := by decide +kernel
theorem dX9_dualOf_16 : decode cX9_dualOf 16 = .ok (.invokevirtual 142, 3) := by decide +kernel
theorem dX9_dualOf_19 : decode cX9_dualOf 19 = .ok (.iconst (-1), 1) := by decide +kernel
theorem dX9_dualOf_20 : decode cX9_dualOf 20 = .ok (.if_icmp .ne 7, 3) := by decide +kernel
theorem dX9_dualOf_23 : decode cX9_dualOf 23 = .ok (.iconst 1, 1) := by decide +kernel
theorem dX9_dualOf_24 : decode cX9_dualOf 24 = .ok (.goto 4, 3) := by decide +kernel
theorem dX9_dualOf_27 : decode cX9_dualOf 27 = .ok (.iconst 0, 1) := by decide +kernel
theorem dX9_dualOf_28 : decode cX9_dualOf 28 = .ok (.ireturn, 1) := by decide +kernel
theorem dX9_dualOf_29 : decode cX9_dualOf 29 = .ok (.iload_n 2, 1) := by decide +kernel
theorem dX9_dualOf_30 : decode cX9_dualOf 30 = .ok (.iconst 1, 1) := by decide +kernel
theorem dX9_dualOf_31 : decode cX9_dualOf 31 = .ok (.if_icmp .ne 5, 3) := by decide +kernel
theorem dX9_dualOf_34 : decode cX9_dualOf 34 = .ok (.iconst 0, 1) := by decide +kernel
theorem dX9_dualOf_35 : decode cX9_dualOf 35 = .ok (.ireturn, 1) := by decide +kernel
theorem dX9_dualOf_36 : decode cX9_dualOf 36 = .ok (.iload_n 1, 1) := by decide +kernel
theorem dX9_dualOf_37 : decode cX9_dualOf 37 = .ok (.iconst 2, 1) := by decide +kernel
theorem dX9_dualOf_38 : decode cX9_dualOf 38 = .ok (.irem, 1) := by decide +kernel
theorem dX9_dualOf_39 : decode cX9_dualOf 39 = .ok (.aload_n 0, 1) := by decide +kernel
theorem dX9_dualOf_40 : decode cX9_dualOf 40 = .ok (.getfield 7, 3) := by decide +kernel
theorem dX9_dualOf_43 : decode cX9_dualOf 43 = .ok (.bipush 25, 2) := by decide +kernel
theorem dX9_dualOf_45 : decode cX9_dualOf 45 = .ok (.iload_n 1, 1) := by decide +kernel
theorem dX9_dualOf_46 : decode cX9_dualOf 46 = .ok (.iadd, 1) := by decide +kernel
theorem dX9_dualOf_47 : decode cX9_dualOf 47 = .ok (.iaload, 1) := by decide +kernel
theorem dX9_dualOf_48 : decode cX9_dualOf 48 = .ok (.iconst 2, 1) := by decide +kernel
theorem dX9_dualOf_49 : decode cX9_dualOf 49 = .ok (.irem, 1) := by decide +kernel
theorem dX9_dualOf_50 : decode cX9_dualOf 50 = .ok (.if_icmp .ne 7, 3) := by decide +kernel
theorem dX9_dualOf_53 : decode cX9_dualOf 53 = .ok (.iconst 1, 1) := by decide +kernel
theorem dX9_dualOf_54 : decode cX9_dualOf 54 = .ok (.goto 4, 3) := by decide +kernel
theorem dX9_dualOf_57 : decode cX9_dualOf 57 = .ok (.iconst 0, 1) := by decide +kernel
theorem dX9_dualOf_58 : decode cX9_dualOf 58 = .ok (.istore_n 3, 1) := by decide +kernel
theorem dX9_dualOf_59 : decode cX9_dualOf 59 = .ok (.iload_n 3, 1) := by decide +kernel
theorem dX9_dualOf_60 : decode cX9_dualOf 60 = .ok (.ifCond .eq 9, 3) := by decide +kernel
theorem dX9_dualOf_63 : decode cX9_dualOf 63 = .ok (.iconst 5, 1) := by decide +kernel
theorem dX9_dualOf_64 : decode cX9_dualOf 64 = .ok (.iload_n 2, 1) := by decide +kernel
theorem dX9_dualOf_65 : decode cX9_dualOf 65 = .ok (.isub, 1) := by decide +kernel
theorem dX9_dualOf_66 : decode cX9_dualOf 66 = .ok (.goto 4, 3) := by decide +kernel
theorem dX9_dualOf_69 : decode cX9_dualOf 69 = .ok (.iload_n 2, 1) := by decide +kernel
theorem dX9_dualOf_70 : decode cX9_dualOf 70 = .ok (.ireturn, 1) := by decide +kernel
theorem dX9_isOwnDual_0 : decode cX9_isOwnDual 0 = .ok (.iconst 1, 1) := by decide +kernel
theorem dX9_isOwnDual_1 : decode cX9_isOwnDual 1 = .ok (.istore_n 1, 1) := by decide +kernel
theorem dX9_isOwnDual_2 : decode cX9_isOwnDual 2 = .ok (.iconst 0, 1) := by decide +kernel
theorem dX9_isOwnDual_3 : decode cX9_isOwnDual 3 = .ok (.istore_n 2, 1) := by decide +kernel
theorem dX9_isOwnDual_4 : decode cX9_isOwnDual 4 = .ok (.iload_n 2, 1) := by decide +kernel
theorem dX9_isOwnDual_5 : decode cX9_isOwnDual 5 = .ok (.bipush 8, 2) := by decide +kernel
theorem dX9_isOwnDual_7 : decode cX9_isOwnDual 7 = .ok (.if_icmp .ge 36, 3) := by decide +kernel
theorem dX9_isOwnDual_10 : decode cX9_isOwnDual 10 = .ok (.iload_n 1, 1) := by decide +kernel
theorem dX9_isOwnDual_11 : decode cX9_isOwnDual 11 = .ok (.ifCond .eq 24, 3) := by decide +kernel
theorem dX9_isOwnDual_14 : decode cX9_isOwnDual 14 = .ok (.aload_n 0, 1) := by decide +kernel
theorem dX9_isOwnDual_15 : decode cX9_isOwnDual 15 = .ok (.iload_n 2, 1) := by decide +kernel
theorem dX9_isOwnDual_16 : decode cX9_isOwnDual 16 = .ok (.invokevirtual 145, 3) := by decide +kernel
theorem dX9_isOwnDual_19 : decode cX9_isOwnDual 19 = .ok (.aload_n 0, 1) := by decide +kernel
theorem dX9_isOwnDual_20 : decode cX9_isOwnDual 20 = .ok (.getfield 7, 3) := by decide +kernel
theorem dX9_isOwnDual_23 : decode cX9_isOwnDual 23 = .ok (.bipush 17, 2) := by decide +kernel
theorem dX9_isOwnDual_25 : decode cX9_isOwnDual 25 = .ok (.iload_n 2, 1) := by decide +kernel
theorem dX9_isOwnDual_26 : decode cX9_isOwnDual 26 = .ok (.iadd, 1) := by decide +kernel
theorem dX9_isOwnDual_27 : decode cX9_isOwnDual 27 = .ok (.iaload, 1) := by decide +kernel
theorem dX9_isOwnDual_28 : decode cX9_isOwnDual 28 = .ok (.if_icmp .ne 7, 3) := by decide +kernel
theorem dX9_isOwnDual_31 : decode cX9_isOwnDual 31 = .ok (.iconst 1, 1) := by decide +kernel
theorem dX9_isOwnDual_32 : decode cX9_isOwnDual 32 = .ok (.goto 4, 3) := by decide +kernel
theorem dX9_isOwnDual_35 : decode cX9_isOwnDual 35 = .ok (.iconst 0, 1) := by decide +kernel
theorem dX9_isOwnDual_36 : decode cX9_isOwnDual 36 = .ok (.istore_n 1, 1) := by decide +kernel
theorem dX9_isOwnDual_37 : decode cX9_isOwnDual 37 = .ok (.iinc 2 1, 3) := by decide +kernel
theorem dX9_isOwnDual_40 : decode cX9_isOwnDual 40 = .ok (.goto (-36), 3) := by decide +kernel
theorem dX9_isOwnDual_43 : decode cX9_isOwnDual 43 = .ok (.iload_n 1, 1) := by decide +kernel
theorem dX9_isOwnDual_44 : decode cX9_isOwnDual 44 = .ok (.ireturn, 1) := by decide +kernel
theorem dX9_feed_0 : decode cX9_feed 0 = .ok (.iload_n 1, 1) := by decide +kernel
theorem dX9_feed_1 : decode cX9_feed 1 = .ok (.iconst 0, 1) := by decide +kernel
theorem dX9_feed_2 : decode cX9_feed 2 = .ok (.sipush 255, 3) := by decide +kernel
theorem dX9_feed_5 : decode cX9_feed 5 = .ok (.invokestatic 54, 3) := by decide +kernel
theorem dX9_feed_8 : decode cX9_feed 8 = .ok (.ifCond .ne 6, 3) := by decide +kernel
theorem dX9_feed_11 : decode cX9_feed 11 = .ok (.ldc 148, 2) := by decide +kernel
theorem dX9_feed_13 : decode cX9_feed 13 = .ok (.ireturn, 1) := by decide +kernel
theorem dX9_feed_14 : decode cX9_feed 14 = .ok (.aload_n 0, 1) := by decide +kernel
theorem dX9_feed_15 : decode cX9_feed 15 = .ok (.getfield 149, 3) := by decide +kernel
theorem dX9_feed_18 : decode cX9_feed 18 = .ok (.bipush 30, 2) := by decide +kernel
theorem dX9_feed_20 : decode cX9_feed 20 = .ok (.if_icmp .ne 6, 3) := by decide +kernel
theorem dX9_feed_23 : decode cX9_feed 23 = .ok (.ldc 152, 2) := by decide +kernel
theorem dX9_feed_25 : decode cX9_feed 25 = .ok (.ireturn, 1) := by decide +kernel
theorem dX9_feed_26 : decode cX9_feed 26 = .ok (.aload_n 0, 1) := by decide +kernel
theorem dX9_feed_27 : decode cX9_feed 27 = .ok (.getfield 16, 3) := by decide +kernel
theorem dX9_feed_30 : decode cX9_feed 30 = .ok (.aload_n 0, 1) := by decide +kernel
theorem dX9_feed_31 : decode cX9_feed 31 = .ok (.getfield 149, 3) := by decide +kernel
theorem dX9_feed_34 : decode cX9_feed 34 = .ok (.iload_n 1, 1) := by decide +kernel
theorem dX9_feed_35 : decode cX9_feed 35 = .ok (.iastore, 1) := by decide +kernel
theorem dX9_feed_36 : decode cX9_feed 36 = .ok (.aload_n 0, 1) := by decide +kernel
theorem dX9_feed_37 : decode cX9_feed 37 = .ok (.dup, 1) := by decide +kernel
theorem dX9_feed_38 : decode cX9_feed 38 = .ok (.getfield 149, 3) := by decide +kernel
theorem dX9_feed_41 : decode cX9_feed 41 = .ok (.iconst 1, 1) := by decide +kernel
theorem dX9_feed_42 : decode cX9_feed 42 = .ok (.iadd, 1) := by decide +kernel
theorem dX9_feed_43 : decode cX9_feed 43 = .ok (.putfield 149, 3) := by decide +kernel
theorem dX9_feed_46 : decode cX9_feed 46 = .ok (.aload_n 0, 1) := by decide +kernel
theorem dX9_feed_47 : decode cX9_feed 47 = .ok (.getfield 149, 3) := by decide +kernel
theorem dX9_feed_50 : decode cX9_feed 50 = .ok (.ireturn, 1) := by decide +kernel
theorem dX9_read_0 : decode cX9_read 0 = .ok (.iconst 1, 1) := by decide +kernel
theorem dX9_read_1 : decode cX9_read 1 = .ok (.istore_n 1, 1) := by decide +kernel
theorem dX9_read_2 : decode cX9_read 2 = .ok (.iconst 0, 1) := by decide +kernel
theorem dX9_read_3 : decode cX9_read 3 = .ok (.istore_n 2, 1) := by decide +kernel
theorem dX9_read_4 : decode cX9_read 4 = .ok (.aload_n 0, 1) := by decide +kernel
theorem dX9_read_5 : decode cX9_read 5 = .ok (.iconst 0, 1) := by decide +kernel
theorem dX9_read_6 : decode cX9_read 6 = .ok (.putfield 58, 3) := by decide +kernel
theorem dX9_read_9 : decode cX9_read 9 = .ok (.iconst 0, 1) := by decide +kernel
theorem dX9_read_10 : decode cX9_read 10 = .ok (.istore_n 3, 1) := by decide +kernel
theorem dX9_read_11 : decode cX9_read 11 = .ok (.iload_n 3, 1) := by decide +kernel
theorem dX9_read_12 : decode cX9_read 12 = .ok (.aload_n 0, 1) := by decide +kernel
theorem dX9_read_13 : decode cX9_read 13 = .ok (.getfield 149, 3) := by decide +kernel
theorem dX9_read_16 : decode cX9_read 16 = .ok (.if_icmp .ge 131, 3) := by decide +kernel
theorem dX9_read_19 : decode cX9_read 19 = .ok (.aload_n 0, 1) := by decide +kernel
theorem dX9_read_20 : decode cX9_read 20 = .ok (.getfield 16, 3) := by decide +kernel
theorem dX9_read_23 : decode cX9_read 23 = .ok (.iload_n 3, 1) := by decide +kernel
theorem dX9_read_24 : decode cX9_read 24 = .ok (.iaload, 1) := by decide +kernel
theorem dX9_read_25 : decode cX9_read 25 = .ok (.istore 4, 2) := by decide +kernel
theorem dX9_read_27 : decode cX9_read 27 = .ok (.aload_n 0, 1) := by decide +kernel
theorem dX9_read_28 : decode cX9_read 28 = .ok (.iload_n 3, 1) := by decide +kernel
theorem dX9_read_29 : decode cX9_read 29 = .ok (.putfield 19, 3) := by decide +kernel
theorem dX9_read_32 : decode cX9_read 32 = .ok (.iload_n 1, 1) := by decide +kernel
theorem dX9_read_33 : decode cX9_read 33 = .ok (.ifCond .eq 24, 3) := by decide +kernel
theorem dX9_read_36 : decode cX9_read 36 = .ok (.iload 4, 2) := by decide +kernel
theorem dX9_read_38 : decode cX9_read 38 = .ok (.bipush 46, 2) := by decide +kernel
theorem dX9_read_40 : decode cX9_read 40 = .ok (.if_icmp .eq 19, 3) := by decide +kernel
theorem dX9_read_43 : decode cX9_read 43 = .ok (.iload 4, 2) := by decide +kernel
theorem dX9_read_45 : decode cX9_read 45 = .ok (.bipush 97, 2) := by decide +kernel
theorem dX9_read_47 : decode cX9_read 47 = .ok (.if_icmp .eq 12, 3) := by decide +kernel
theorem dX9_read_50 : decode cX9_read 50 = .ok (.iload 4, 2) := by decide +kernel
theorem dX9_read_52 : decode cX9_read 52 = .ok (.bipush 98, 2) := by decide +kernel
theorem dX9_read_54 : decode cX9_read 54 = .ok (.if_icmp .eq 5, 3) := by decide +kernel
theorem dX9_read_57 : decode cX9_read 57 = .ok (.iconst 1, 1) := by decide +kernel
theorem dX9_read_58 : decode cX9_read 58 = .ok (.ireturn, 1) := by decide +kernel
theorem dX9_read_59 : decode cX9_read 59 = .ok (.iload 4, 2) := by decide +kernel
theorem dX9_read_61 : decode cX9_read 61 = .ok (.bipush 46, 2) := by decide +kernel
theorem dX9_read_63 : decode cX9_read 63 = .ok (.if_icmp .eq 11, 3) := by decide +kernel
theorem dX9_read_66 : decode cX9_read 66 = .ok (.iload_n 2, 1) := by decide +kernel
theorem dX9_read_67 : decode cX9_read 67 = .ok (.bipush 6, 2) := by decide +kernel
theorem dX9_read_69 : decode cX9_read 69 = .ok (.if_icmp .ne 5, 3) := by decide +kernel
theorem dX9_read_72 : decode cX9_read 72 = .ok (.iconst 2, 1) := by decide +kernel
theorem dX9_read_73 : decode cX9_read 73 = .ok (.ireturn, 1) := by decide +kernel
theorem dX9_read_74 : decode cX9_read 74 = .ok (.iload_n 2, 1) := by decide +kernel
theorem dX9_read_75 : decode cX9_read 75 = .ok (.iload 4, 2) := by decide +kernel
theorem dX9_read_77 : decode cX9_read 77 = .ok (.bipush 46, 2) := by decide +kernel
theorem dX9_read_79 : decode cX9_read 79 = .ok (.if_icmp .ne 7, 3) := by decide +kernel
theorem dX9_read_82 : decode cX9_read 82 = .ok (.iconst 0, 1) := by decide +kernel
theorem dX9_read_83 : decode cX9_read 83 = .ok (.goto 4, 3) := by decide +kernel
theorem dX9_read_86 : decode cX9_read 86 = .ok (.iconst 1, 1) := by decide +kernel
theorem dX9_read_87 : decode cX9_read 87 = .ok (.iadd, 1) := by decide +kernel
theorem dX9_read_88 : decode cX9_read 88 = .ok (.istore_n 2, 1) := by decide +kernel
theorem dX9_read_89 : decode cX9_read 89 = .ok (.iload_n 1, 1) := by decide +kernel
theorem dX9_read_90 : decode cX9_read 90 = .ok (.iload 4, 2) := by decide +kernel
theorem dX9_read_92 : decode cX9_read 92 = .ok (.bipush 46, 2) := by decide +kernel
theorem dX9_read_94 : decode cX9_read 94 = .ok (.if_icmp .ne 7, 3) := by decide +kernel
theorem dX9_read_97 : decode cX9_read 97 = .ok (.iconst (-1), 1) := by decide +kernel
theorem dX9_read_98 : decode cX9_read 98 = .ok (.goto 4, 3) := by decide +kernel
theorem dX9_read_101 : decode cX9_read 101 = .ok (.iconst 1, 1) := by decide +kernel
theorem dX9_read_102 : decode cX9_read 102 = .ok (.iadd, 1) := by decide +kernel
theorem dX9_read_103 : decode cX9_read 103 = .ok (.istore_n 1, 1) := by decide +kernel
theorem dX9_read_104 : decode cX9_read 104 = .ok (.aload_n 0, 1) := by decide +kernel
theorem dX9_read_105 : decode cX9_read 105 = .ok (.getfield 29, 3) := by decide +kernel
theorem dX9_read_108 : decode cX9_read 108 = .ok (.aload_n 0, 1) := by decide +kernel
theorem dX9_read_109 : decode cX9_read 109 = .ok (.getfield 58, 3) := by decide +kernel
theorem dX9_read_112 : decode cX9_read 112 = .ok (.iload 4, 2) := by decide +kernel
theorem dX9_read_114 : decode cX9_read 114 = .ok (.bipush 46, 2) := by decide +kernel
theorem dX9_read_116 : decode cX9_read 116 = .ok (.if_icmp .ne 7, 3) := by decide +kernel
theorem dX9_read_119 : decode cX9_read 119 = .ok (.iconst 0, 1) := by decide +kernel
theorem dX9_read_120 : decode cX9_read 120 = .ok (.goto 10, 3) := by decide +kernel
theorem dX9_read_123 : decode cX9_read 123 = .ok (.iload 4, 2) := by decide +kernel
theorem dX9_read_125 : decode cX9_read 125 = .ok (.bipush 97, 2) := by decide +kernel
theorem dX9_read_127 : decode cX9_read 127 = .ok (.isub, 1) := by decide +kernel
theorem dX9_read_128 : decode cX9_read 128 = .ok (.iconst 1, 1) := by decide +kernel
theorem dX9_read_129 : decode cX9_read 129 = .ok (.iadd, 1) := by decide +kernel
theorem dX9_read_130 : decode cX9_read 130 = .ok (.iastore, 1) := by decide +kernel
theorem dX9_read_131 : decode cX9_read 131 = .ok (.aload_n 0, 1) := by decide +kernel
theorem dX9_read_132 : decode cX9_read 132 = .ok (.dup, 1) := by decide +kernel
theorem dX9_read_133 : decode cX9_read 133 = .ok (.getfield 58, 3) := by decide +kernel
theorem dX9_read_136 : decode cX9_read 136 = .ok (.iconst 1, 1) := by decide +kernel
theorem dX9_read_137 : decode cX9_read 137 = .ok (.iadd, 1) := by decide +kernel
theorem dX9_read_138 : decode cX9_read 138 = .ok (.putfield 58, 3) := by decide +kernel
theorem dX9_read_141 : decode cX9_read 141 = .ok (.iinc 3 1, 3) := by decide +kernel
theorem dX9_read_144 : decode cX9_read 144 = .ok (.goto (-133), 3) := by decide +kernel
theorem dX9_read_147 : decode cX9_read 147 = .ok (.aload_n 0, 1) := by decide +kernel
theorem dX9_read_148 : decode cX9_read 148 = .ok (.iload_n 1, 1) := by decide +kernel
theorem dX9_read_149 : decode cX9_read 149 = .ok (.ifCond .ne 7, 3) := by decide +kernel
theorem dX9_read_152 : decode cX9_read 152 = .ok (.iconst (-1), 1) := by decide +kernel
theorem dX9_read_153 : decode cX9_read 153 = .ok (.goto 7, 3) := by decide +kernel
theorem dX9_read_156 : decode cX9_read 156 = .ok (.aload_n 0, 1) := by decide +kernel
theorem dX9_read_157 : decode cX9_read 157 = .ok (.getfield 149, 3) := by decide +kernel
theorem dX9_read_160 : decode cX9_read 160 = .ok (.putfield 19, 3) := by decide +kernel
theorem dX9_read_163 : decode cX9_read 163 = .ok (.iload_n 1, 1) := by decide +kernel
theorem dX9_read_164 : decode cX9_read 164 = .ok (.ifCond .ne 7, 3) := by decide +kernel
theorem dX9_read_167 : decode cX9_read 167 = .ok (.iconst 0, 1) := by decide +kernel
theorem dX9_read_168 : decode cX9_read 168 = .ok (.goto 4, 3) := by decide +kernel
theorem dX9_read_171 : decode cX9_read 171 = .ok (.iconst 1, 1) := by decide +kernel
theorem dX9_read_172 : decode cX9_read 172 = .ok (.ireturn, 1) := by decide +kernel
theorem dX9_tell_0 : decode cX9_tell 0 = .ok (.aload_n 0, 1) := by decide +kernel
theorem dX9_tell_1 : decode cX9_tell 1 = .ok (.getfield 7, 3) := by decide +kernel
theorem dX9_tell_4 : decode cX9_tell 4 = .ok (.iconst 0, 1) := by decide +kernel
theorem dX9_tell_5 : decode cX9_tell 5 = .ok (.iaload, 1) := by decide +kernel
theorem dX9_tell_6 : decode cX9_tell 6 = .ok (.bipush 8, 2) := by decide +kernel
theorem dX9_tell_8 : decode cX9_tell 8 = .ok (.if_icmp .ne 6, 3) := by decide +kernel
theorem dX9_tell_11 : decode cX9_tell 11 = .ok (.ldc 152, 2) := by decide +kernel
theorem dX9_tell_13 : decode cX9_tell 13 = .ok (.ireturn, 1) := by decide +kernel
theorem dX9_tell_14 : decode cX9_tell 14 = .ok (.aload_n 0, 1) := by decide +kernel
theorem dX9_tell_15 : decode cX9_tell 15 = .ok (.invokevirtual 153, 3) := by decide +kernel
theorem dX9_tell_18 : decode cX9_tell 18 = .ok (.istore_n 1, 1) := by decide +kernel
theorem dX9_tell_19 : decode cX9_tell 19 = .ok (.aload_n 0, 1) := by decide +kernel
theorem dX9_tell_20 : decode cX9_tell 20 = .ok (.iconst 0, 1) := by decide +kernel
theorem dX9_tell_21 : decode cX9_tell 21 = .ok (.putfield 149, 3) := by decide +kernel
theorem dX9_tell_24 : decode cX9_tell 24 = .ok (.iload_n 1, 1) := by decide +kernel
theorem dX9_tell_25 : decode cX9_tell 25 = .ok (.ifCond .eq 8, 3) := by decide +kernel
theorem dX9_tell_28 : decode cX9_tell 28 = .ok (.bipush (-10), 2) := by decide +kernel
theorem dX9_tell_30 : decode cX9_tell 30 = .ok (.iload_n 1, 1) := by decide +kernel
theorem dX9_tell_31 : decode cX9_tell 31 = .ok (.isub, 1) := by decide +kernel
theorem dX9_tell_32 : decode cX9_tell 32 = .ok (.ireturn, 1) := by decide +kernel
theorem dX9_tell_33 : decode cX9_tell 33 = .ok (.aload_n 0, 1) := by decide +kernel
theorem dX9_tell_34 : decode cX9_tell 34 = .ok (.iconst 1, 1) := by decide +kernel
theorem dX9_tell_35 : decode cX9_tell 35 = .ok (.putfield 61, 3) := by decide +kernel
theorem dX9_tell_38 : decode cX9_tell 38 = .ok (.aload_n 0, 1) := by decide +kernel
theorem dX9_tell_39 : decode cX9_tell 39 = .ok (.invokevirtual 156, 3) := by decide +kernel
theorem dX9_tell_42 : decode cX9_tell 42 = .ok (.aload_n 0, 1) := by decide +kernel
theorem dX9_tell_43 : decode cX9_tell 43 = .ok (.invokevirtual 159, 3) := by decide +kernel
theorem dX9_tell_46 : decode cX9_tell 46 = .ok (.ireturn, 1) := by decide +kernel
theorem dX9_fault_0 : decode cX9_fault 0 = .ok (.aload_n 0, 1) := by decide +kernel
theorem dX9_fault_1 : decode cX9_fault 1 = .ok (.getfield 19, 3) := by decide +kernel
theorem dX9_fault_4 : decode cX9_fault 4 = .ok (.ireturn, 1) := by decide +kernel
theorem dX9_wrongEntry_0 : decode cX9_wrongEntry 0 = .ok (.iconst 0, 1) := by decide +kernel
theorem dX9_wrongEntry_1 : decode cX9_wrongEntry 1 = .ok (.istore_n 1, 1) := by decide +kernel
theorem dX9_wrongEntry_2 : decode cX9_wrongEntry 2 = .ok (.iload_n 1, 1) := by decide +kernel
theorem dX9_wrongEntry_3 : decode cX9_wrongEntry 3 = .ok (.aload_n 0, 1) := by decide +kernel
theorem dX9_wrongEntry_4 : decode cX9_wrongEntry 4 = .ok (.getfield 162, 3) := by decide +kernel
theorem dX9_wrongEntry_7 : decode cX9_wrongEntry 7 = .ok (.if_icmp .ge 46, 3) := by decide +kernel
theorem dX9_wrongEntry_10 : decode cX9_wrongEntry 10 = .ok (.aload_n 0, 1) := by decide +kernel
theorem dX9_wrongEntry_11 : decode cX9_wrongEntry 11 = .ok (.aload_n 0, 1) := by decide +kernel
theorem dX9_wrongEntry_12 : decode cX9_wrongEntry 12 = .ok (.getfield 23, 3) := by decide +kernel
theorem dX9_wrongEntry_15 : decode cX9_wrongEntry 15 = .ok (.iload_n 1, 1) := by decide +kernel
theorem dX9_wrongEntry_16 : decode cX9_wrongEntry 16 = .ok (.iaload, 1) := by decide +kernel
theorem dX9_wrongEntry_17 : decode cX9_wrongEntry 17 = .ok (.invokevirtual 165, 3) := by decide +kernel
theorem dX9_wrongEntry_20 : decode cX9_wrongEntry 20 = .ok (.ifCond .eq 25, 3) := by decide +kernel
theorem dX9_wrongEntry_23 : decode cX9_wrongEntry 23 = .ok (.aload_n 0, 1) := by decide +kernel
theorem dX9_wrongEntry_24 : decode cX9_wrongEntry 24 = .ok (.getfield 7, 3) := by decide +kernel
theorem dX9_wrongEntry_27 : decode cX9_wrongEntry 27 = .ok (.iconst 1, 1) := by decide +kernel
theorem dX9_wrongEntry_28 : decode cX9_wrongEntry 28 = .ok (.aload_n 0, 1) := by decide +kernel
theorem dX9_wrongEntry_29 : decode cX9_wrongEntry 29 = .ok (.getfield 23, 3) := by decide +kernel
theorem dX9_wrongEntry_32 : decode cX9_wrongEntry 32 = .ok (.iload_n 1, 1) := by decide +kernel
theorem dX9_wrongEntry_33 : decode cX9_wrongEntry 33 = .ok (.iaload, 1) := by decide +kernel
theorem dX9_wrongEntry_34 : decode cX9_wrongEntry 34 = .ok (.iadd, 1) := by decide +kernel
theorem dX9_wrongEntry_35 : decode cX9_wrongEntry 35 = .ok (.iaload, 1) := by decide +kernel
theorem dX9_wrongEntry_36 : decode cX9_wrongEntry 36 = .ok (.aload_n 0, 1) := by decide +kernel
theorem dX9_wrongEntry_37 : decode cX9_wrongEntry 37 = .ok (.getfield 26, 3) := by decide +kernel
theorem dX9_wrongEntry_40 : decode cX9_wrongEntry 40 = .ok (.iload_n 1, 1) := by decide +kernel
theorem dX9_wrongEntry_41 : decode cX9_wrongEntry 41 = .ok (.iaload, 1) := by decide +kernel
theorem dX9_wrongEntry_42 : decode cX9_wrongEntry 42 = .ok (.if_icmp .eq 5, 3) := by decide +kernel
theorem dX9_wrongEntry_45 : decode cX9_wrongEntry 45 = .ok (.iload_n 1, 1) := by decide +kernel
theorem dX9_wrongEntry_46 : decode cX9_wrongEntry 46 = .ok (.ireturn, 1) := by decide +kernel
theorem dX9_wrongEntry_47 : decode cX9_wrongEntry 47 = .ok (.iinc 1 1, 3) := by decide +kernel
theorem dX9_wrongEntry_50 : decode cX9_wrongEntry 50 = .ok (.goto (-48), 3) := by decide +kernel
theorem dX9_wrongEntry_53 : decode cX9_wrongEntry 53 = .ok (.iconst (-1), 1) := by decide +kernel
theorem dX9_wrongEntry_54 : decode cX9_wrongEntry 54 = .ok (.ireturn, 1) := by decide +kernel
theorem dX9_told_0 : decode cX9_told 0 = .ok (.iload_n 1, 1) := by decide +kernel
theorem dX9_told_1 : decode cX9_told 1 = .ok (.tableswitch 124 0 9 #[55, 62, 67, 72, 77, 82, 96, 109, 114, 119], 55) := by decide +kernel
theorem dX9_told_56 : decode cX9_told 56 = .ok (.aload_n 0, 1) := by decide +kernel
theorem dX9_told_57 : decode cX9_told 57 = .ok (.getfield 7, 3) := by decide +kernel
theorem dX9_told_60 : decode cX9_told 60 = .ok (.iconst 0, 1) := by decide +kernel
theorem dX9_told_61 : decode cX9_told 61 = .ok (.iaload, 1) := by decide +kernel
theorem dX9_told_62 : decode cX9_told 62 = .ok (.ireturn, 1) := by decide +kernel
theorem dX9_told_63 : decode cX9_told 63 = .ok (.aload_n 0, 1) := by decide +kernel
theorem dX9_told_64 : decode cX9_told 64 = .ok (.getfield 149, 3) := by decide +kernel
theorem dX9_told_67 : decode cX9_told 67 = .ok (.ireturn, 1) := by decide +kernel
theorem dX9_told_68 : decode cX9_told 68 = .ok (.aload_n 0, 1) := by decide +kernel
theorem dX9_told_69 : decode cX9_told 69 = .ok (.invokevirtual 168, 3) := by decide +kernel
theorem dX9_told_72 : decode cX9_told 72 = .ok (.ireturn, 1) := by decide +kernel
theorem dX9_told_73 : decode cX9_told 73 = .ok (.aload_n 0, 1) := by decide +kernel
theorem dX9_told_74 : decode cX9_told 74 = .ok (.invokevirtual 171, 3) := by decide +kernel
theorem dX9_told_77 : decode cX9_told 77 = .ok (.ireturn, 1) := by decide +kernel
theorem dX9_told_78 : decode cX9_told 78 = .ok (.aload_n 0, 1) := by decide +kernel
theorem dX9_told_79 : decode cX9_told 79 = .ok (.invokevirtual 174, 3) := by decide +kernel
theorem dX9_told_82 : decode cX9_told 82 = .ok (.ireturn, 1) := by decide +kernel
theorem dX9_told_83 : decode cX9_told 83 = .ok (.aload_n 0, 1) := by decide +kernel
theorem dX9_told_84 : decode cX9_told 84 = .ok (.invokevirtual 174, 3) := by decide +kernel
theorem dX9_told_87 : decode cX9_told 87 = .ok (.iconst (-1), 1) := by decide +kernel
theorem dX9_told_88 : decode cX9_told 88 = .ok (.if_icmp .ne 7, 3) := by decide +kernel
theorem dX9_told_91 : decode cX9_told 91 = .ok (.iconst 1, 1) := by decide +kernel
theorem dX9_told_92 : decode cX9_told 92 = .ok (.goto 4, 3) := by decide +kernel
theorem dX9_told_95 : decode cX9_told 95 = .ok (.iconst 0, 1) := by decide +kernel
theorem dX9_told_96 : decode cX9_told 96 = .ok (.ireturn, 1) := by decide +kernel
theorem dX9_told_97 : decode cX9_told 97 = .ok (.aload_n 0, 1) := by decide +kernel
theorem dX9_told_98 : decode cX9_told 98 = .ok (.invokevirtual 177, 3) := by decide +kernel
theorem dX9_told_101 : decode cX9_told 101 = .ok (.ifCond .eq 7, 3) := by decide +kernel
theorem dX9_told_104 : decode cX9_told 104 = .ok (.iconst 1, 1) := by decide +kernel
theorem dX9_told_105 : decode cX9_told 105 = .ok (.goto 4, 3) := by decide +kernel
theorem dX9_told_108 : decode cX9_told 108 = .ok (.iconst 0, 1) := by decide +kernel
theorem dX9_told_109 : decode cX9_told 109 = .ok (.ireturn, 1) := by decide +kernel
theorem dX9_told_110 : decode cX9_told 110 = .ok (.aload_n 0, 1) := by decide +kernel
theorem dX9_told_111 : decode cX9_told 111 = .ok (.getfield 162, 3) := by decide +kernel
theorem dX9_told_114 : decode cX9_told 114 = .ok (.ireturn, 1) := by decide +kernel
theorem dX9_told_115 : decode cX9_told 115 = .ok (.aload_n 0, 1) := by decide +kernel
theorem dX9_told_116 : decode cX9_told 116 = .ok (.invokevirtual 180, 3) := by decide +kernel
theorem dX9_told_119 : decode cX9_told 119 = .ok (.ireturn, 1) := by decide +kernel
theorem dX9_told_120 : decode cX9_told 120 = .ok (.aload_n 0, 1) := by decide +kernel
theorem dX9_told_121 : decode cX9_told 121 = .ok (.getfield 183, 3) := by decide +kernel
theorem dX9_told_124 : decode cX9_told 124 = .ok (.ireturn, 1) := by decide +kernel
theorem dX9_told_125 : decode cX9_told 125 = .ok (.ldc 148, 2) := by decide +kernel
theorem dX9_told_127 : decode cX9_told 127 = .ok (.ireturn, 1) := by decide +kernel
theorem dX9_turnedCode_0 : decode cX9_turnedCode 0 = .ok (.aload_n 0, 1) := by decide +kernel
theorem dX9_turnedCode_1 : decode cX9_turnedCode 1 = .ok (.invokevirtual 186, 3) := by decide +kernel
theorem dX9_turnedCode_4 : decode cX9_turnedCode 4 = .ok (.aload_n 0, 1) := by decide +kernel
theorem dX9_turnedCode_5 : decode cX9_turnedCode 5 = .ok (.invokevirtual 117, 3) := by decide +kernel
theorem dX9_turnedCode_8 : decode cX9_turnedCode 8 = .ok (.ireturn, 1) := by decide +kernel
theorem dX9_ofPlain_0 : decode cX9_ofPlain 0 = .ok (.aload_n 0, 1) := by decide +kernel
theorem dX9_ofPlain_1 : decode cX9_ofPlain 1 = .ok (.invokevirtual 114, 3) := by decide +kernel
theorem dX9_ofPlain_4 : decode cX9_ofPlain 4 = .ok (.istore_n 2, 1) := by decide +kernel
theorem dX9_ofPlain_5 : decode cX9_ofPlain 5 = .ok (.iload_n 2, 1) := by decide +kernel
theorem dX9_ofPlain_6 : decode cX9_ofPlain 6 = .ok (.iconst (-1), 1) := by decide +kernel
theorem dX9_ofPlain_7 : decode cX9_ofPlain 7 = .ok (.if_icmp .ne 5, 3) := by decide +kernel
theorem dX9_ofPlain_10 : decode cX9_ofPlain 10 = .ok (.iconst (-1), 1) := by decide +kernel
theorem dX9_ofPlain_11 : decode cX9_ofPlain 11 = .ok (.ireturn, 1) := by decide +kernel
theorem dX9_ofPlain_12 : decode cX9_ofPlain 12 = .ok (.iload_n 1, 1) := by decide +kernel
theorem dX9_ofPlain_13 : decode cX9_ofPlain 13 = .ok (.iconst 4, 1) := by decide +kernel
theorem dX9_ofPlain_14 : decode cX9_ofPlain 14 = .ok (.if_icmp .ne 7, 3) := by decide +kernel
theorem dX9_ofPlain_17 : decode cX9_ofPlain 17 = .ok (.iload_n 2, 1) := by decide +kernel
theorem dX9_ofPlain_18 : decode cX9_ofPlain 18 = .ok (.goto 21, 3) := by decide +kernel
theorem dX9_ofPlain_21 : decode cX9_ofPlain 21 = .ok (.iload_n 1, 1) := by decide +kernel
theorem dX9_ofPlain_22 : decode cX9_ofPlain 22 = .ok (.iconst 5, 1) := by decide +kernel
theorem dX9_ofPlain_23 : decode cX9_ofPlain 23 = .ok (.if_icmp .ne 10, 3) := by decide +kernel
theorem dX9_ofPlain_26 : decode cX9_ofPlain 26 = .ok (.aload_n 0, 1) := by decide +kernel
theorem dX9_ofPlain_27 : decode cX9_ofPlain 27 = .ok (.invokevirtual 117, 3) := by decide +kernel
theorem dX9_ofPlain_30 : decode cX9_ofPlain 30 = .ok (.goto 9, 3) := by decide +kernel
theorem dX9_ofPlain_33 : decode cX9_ofPlain 33 = .ok (.aload_n 0, 1) := by decide +kernel
theorem dX9_ofPlain_34 : decode cX9_ofPlain 34 = .ok (.getfield 61, 3) := by decide +kernel
theorem dX9_ofPlain_37 : decode cX9_ofPlain 37 = .ok (.iconst 1, 1) := by decide +kernel
theorem dX9_ofPlain_38 : decode cX9_ofPlain 38 = .ok (.iadd, 1) := by decide +kernel
theorem dX9_ofPlain_39 : decode cX9_ofPlain 39 = .ok (.ireturn, 1) := by decide +kernel
theorem dX9_tree_0 : decode cX9_tree 0 = .ok (.aload_n 0, 1) := by decide +kernel
theorem dX9_tree_1 : decode cX9_tree 1 = .ok (.iload_n 1, 1) := by decide +kernel
theorem dX9_tree_2 : decode cX9_tree 2 = .ok (.invokevirtual 165, 3) := by decide +kernel
theorem dX9_tree_5 : decode cX9_tree 5 = .ok (.ifCond .ne 6, 3) := by decide +kernel
theorem dX9_tree_8 : decode cX9_tree 8 = .ok (.ldc 189, 2) := by decide +kernel
theorem dX9_tree_10 : decode cX9_tree 10 = .ok (.ireturn, 1) := by decide +kernel
theorem dX9_tree_11 : decode cX9_tree 11 = .ok (.aload_n 0, 1) := by decide +kernel
theorem dX9_tree_12 : decode cX9_tree 12 = .ok (.iload_n 1, 1) := by decide +kernel
theorem dX9_tree_13 : decode cX9_tree 13 = .ok (.invokevirtual 190, 3) := by decide +kernel
theorem dX9_tree_16 : decode cX9_tree 16 = .ok (.iload_n 2, 1) := by decide +kernel
theorem dX9_tree_17 : decode cX9_tree 17 = .ok (.tableswitch 98 0 8 #[51, 60, 72, 77, 82, 82, 82, 88, 93], 51) := by decide +kernel
theorem dX9_tree_68 : decode cX9_tree 68 = .ok (.aload_n 0, 1) := by decide +kernel
theorem dX9_tree_69 : decode cX9_tree 69 = .ok (.getfield 7, 3) := by decide +kernel
theorem dX9_tree_72 : decode cX9_tree 72 = .ok (.iconst 1, 1) := by decide +kernel
theorem dX9_tree_73 : decode cX9_tree 73 = .ok (.iload_n 1, 1) := by decide +kernel
theorem dX9_tree_74 : decode cX9_tree 74 = .ok (.iadd, 1) := by decide +kernel
theorem dX9_tree_75 : decode cX9_tree 75 = .ok (.iaload, 1) := by decide +kernel
theorem dX9_tree_76 : decode cX9_tree 76 = .ok (.ireturn, 1) := by decide +kernel
theorem dX9_tree_77 : decode cX9_tree 77 = .ok (.aload_n 0, 1) := by decide +kernel
theorem dX9_tree_78 : decode cX9_tree 78 = .ok (.getfield 7, 3) := by decide +kernel
theorem dX9_tree_81 : decode cX9_tree 81 = .ok (.bipush 9, 2) := by decide +kernel
theorem dX9_tree_83 : decode cX9_tree 83 = .ok (.iload_n 1, 1) := by decide +kernel
theorem dX9_tree_84 : decode cX9_tree 84 = .ok (.iadd, 1) := by decide +kernel
theorem dX9_tree_85 : decode cX9_tree 85 = .ok (.iaload, 1) := by decide +kernel
theorem dX9_tree_86 : decode cX9_tree 86 = .ok (.iconst 1, 1) := by decide +kernel
theorem dX9_tree_87 : decode cX9_tree 87 = .ok (.iadd, 1) := by decide +kernel
theorem dX9_tree_88 : decode cX9_tree 88 = .ok (.ireturn, 1) := by decide +kernel
theorem dX9_tree_89 : decode cX9_tree 89 = .ok (.aload_n 0, 1) := by decide +kernel
theorem dX9_tree_90 : decode cX9_tree 90 = .ok (.invokevirtual 193, 3) := by decide +kernel
theorem dX9_tree_93 : decode cX9_tree 93 = .ok (.ireturn, 1) := by decide +kernel
theorem dX9_tree_94 : decode cX9_tree 94 = .ok (.aload_n 0, 1) := by decide +kernel
theorem dX9_tree_95 : decode cX9_tree 95 = .ok (.invokevirtual 106, 3) := by decide +kernel
theorem dX9_tree_98 : decode cX9_tree 98 = .ok (.ireturn, 1) := by decide +kernel
theorem dX9_tree_99 : decode cX9_tree 99 = .ok (.aload_n 0, 1) := by decide +kernel
theorem dX9_tree_100 : decode cX9_tree 100 = .ok (.iload_n 2, 1) := by decide +kernel
theorem dX9_tree_101 : decode cX9_tree 101 = .ok (.invokevirtual 196, 3) := by decide +kernel
theorem dX9_tree_104 : decode cX9_tree 104 = .ok (.ireturn, 1) := by decide +kernel
theorem dX9_tree_105 : decode cX9_tree 105 = .ok (.aload_n 0, 1) := by decide +kernel
theorem dX9_tree_106 : decode cX9_tree 106 = .ok (.invokevirtual 199, 3) := by decide +kernel
theorem dX9_tree_109 : decode cX9_tree 109 = .ok (.ireturn, 1) := by decide +kernel
theorem dX9_tree_110 : decode cX9_tree 110 = .ok (.aload_n 0, 1) := by decide +kernel
theorem dX9_tree_111 : decode cX9_tree 111 = .ok (.invokevirtual 202, 3) := by decide +kernel
theorem dX9_tree_114 : decode cX9_tree 114 = .ok (.ireturn, 1) := by decide +kernel
theorem dX9_tree_115 : decode cX9_tree 115 = .ok (.ldc 148, 2) := by decide +kernel
theorem dX9_tree_117 : decode cX9_tree 117 = .ok (.ireturn, 1) := by decide +kernel
theorem dX9_pattern_0 : decode cX9_pattern 0 = .ok (.aload_n 0, 1) := by decide +kernel
theorem dX9_pattern_1 : decode cX9_pattern 1 = .ok (.iload_n 1, 1) := by decide +kernel
theorem dX9_pattern_2 : decode cX9_pattern 2 = .ok (.invokevirtual 205, 3) := by decide +kernel
theorem dX9_pattern_5 : decode cX9_pattern 5 = .ok (.ifCond .ne 6, 3) := by decide +kernel
theorem dX9_pattern_8 : decode cX9_pattern 8 = .ok (.ldc 189, 2) := by decide +kernel
theorem dX9_pattern_10 : decode cX9_pattern 10 = .ok (.ireturn, 1) := by decide +kernel
theorem dX9_pattern_11 : decode cX9_pattern 11 = .ok (.iload_n 2, 1) := by decide +kernel
theorem dX9_pattern_12 : decode cX9_pattern 12 = .ok (.tableswitch 54 0 2 #[28, 38, 48], 28) := by decide +kernel
theorem dX9_pattern_40 : decode cX9_pattern 40 = .ok (.aload_n 0, 1) := by decide +kernel
theorem dX9_pattern_41 : decode cX9_pattern 41 = .ok (.getfield 7, 3) := by decide +kernel
theorem dX9_pattern_44 : decode cX9_pattern 44 = .ok (.bipush 17, 2) := by decide +kernel
theorem dX9_pattern_46 : decode cX9_pattern 46 = .ok (.iload_n 1, 1) := by decide +kernel
theorem dX9_pattern_47 : decode cX9_pattern 47 = .ok (.iadd, 1) := by decide +kernel
theorem dX9_pattern_48 : decode cX9_pattern 48 = .ok (.iaload, 1) := by decide +kernel
theorem dX9_pattern_49 : decode cX9_pattern 49 = .ok (.ireturn, 1) := by decide +kernel
theorem dX9_pattern_50 : decode cX9_pattern 50 = .ok (.aload_n 0, 1) := by decide +kernel
theorem dX9_pattern_51 : decode cX9_pattern 51 = .ok (.getfield 7, 3) := by decide +kernel
theorem dX9_pattern_54 : decode cX9_pattern 54 = .ok (.bipush 25, 2) := by decide +kernel
theorem dX9_pattern_56 : decode cX9_pattern 56 = .ok (.iload_n 1, 1) := by decide +kernel
theorem dX9_pattern_57 : decode cX9_pattern 57 = .ok (.iadd, 1) := by decide +kernel
theorem dX9_pattern_58 : decode cX9_pattern 58 = .ok (.iaload, 1) := by decide +kernel
theorem dX9_pattern_59 : decode cX9_pattern 59 = .ok (.ireturn, 1) := by decide +kernel
theorem dX9_pattern_60 : decode cX9_pattern 60 = .ok (.aload_n 0, 1) := by decide +kernel
theorem dX9_pattern_61 : decode cX9_pattern 61 = .ok (.iload_n 1, 1) := by decide +kernel
theorem dX9_pattern_62 : decode cX9_pattern 62 = .ok (.invokevirtual 142, 3) := by decide +kernel
theorem dX9_pattern_65 : decode cX9_pattern 65 = .ok (.ireturn, 1) := by decide +kernel
theorem dX9_pattern_66 : decode cX9_pattern 66 = .ok (.ldc 148, 2) := by decide +kernel
theorem dX9_pattern_68 : decode cX9_pattern 68 = .ok (.ireturn, 1) := by decide +kernel
theorem dX9_same_0 : decode cX9_same 0 = .ok (.aload_n 0, 1) := by decide +kernel
theorem dX9_same_1 : decode cX9_same 1 = .ok (.iload_n 1, 1) := by decide +kernel
theorem dX9_same_2 : decode cX9_same 2 = .ok (.invokevirtual 165, 3) := by decide +kernel
theorem dX9_same_5 : decode cX9_same 5 = .ok (.ifCond .eq 11, 3) := by decide +kernel
theorem dX9_same_8 : decode cX9_same 8 = .ok (.aload_n 0, 1) := by decide +kernel
theorem dX9_same_9 : decode cX9_same 9 = .ok (.iload_n 2, 1) := by decide +kernel
theorem dX9_same_10 : decode cX9_same 10 = .ok (.invokevirtual 165, 3) := by decide +kernel
theorem dX9_same_13 : decode cX9_same 13 = .ok (.ifCond .ne 6, 3) := by decide +kernel
theorem dX9_same_16 : decode cX9_same 16 = .ok (.ldc 189, 2) := by decide +kernel
theorem dX9_same_18 : decode cX9_same 18 = .ok (.ireturn, 1) := by decide +kernel
theorem dX9_same_19 : decode cX9_same 19 = .ok (.aload_n 0, 1) := by decide +kernel
theorem dX9_same_20 : decode cX9_same 20 = .ok (.iload_n 1, 1) := by decide +kernel
theorem dX9_same_21 : decode cX9_same 21 = .ok (.invokevirtual 190, 3) := by decide +kernel
theorem dX9_same_24 : decode cX9_same 24 = .ok (.aload_n 0, 1) := by decide +kernel
theorem dX9_same_25 : decode cX9_same 25 = .ok (.invokevirtual 114, 3) := by decide +kernel
theorem dX9_same_28 : decode cX9_same 28 = .ok (.iconst (-1), 1) := by decide +kernel
theorem dX9_same_29 : decode cX9_same 29 = .ok (.if_icmp .ne 7, 3) := by decide +kernel
theorem dX9_same_32 : decode cX9_same 32 = .ok (.iconst (-1), 1) := by decide +kernel
theorem dX9_same_33 : decode cX9_same 33 = .ok (.goto 16, 3) := by decide +kernel
theorem dX9_same_36 : decode cX9_same 36 = .ok (.iconst 3, 1) := by decide +kernel
theorem dX9_same_37 : decode cX9_same 37 = .ok (.aload_n 0, 1) := by decide +kernel
theorem dX9_same_38 : decode cX9_same 38 = .ok (.invokevirtual 117, 3) := by decide +kernel
theorem dX9_same_41 : decode cX9_same 41 = .ok (.imul, 1) := by decide +kernel
theorem dX9_same_42 : decode cX9_same 42 = .ok (.aload_n 0, 1) := by decide +kernel
theorem dX9_same_43 : decode cX9_same 43 = .ok (.getfield 61, 3) := by decide +kernel
theorem dX9_same_46 : decode cX9_same 46 = .ok (.iadd, 1) := by decide +kernel
theorem dX9_same_47 : decode cX9_same 47 = .ok (.iconst 1, 1) := by decide +kernel
theorem dX9_same_48 : decode cX9_same 48 = .ok (.iadd, 1) := by decide +kernel
theorem dX9_same_49 : decode cX9_same 49 = .ok (.istore_n 3, 1) := by decide +kernel
theorem dX9_same_50 : decode cX9_same 50 = .ok (.aload_n 0, 1) := by decide +kernel
theorem dX9_same_51 : decode cX9_same 51 = .ok (.iload_n 2, 1) := by decide +kernel
theorem dX9_same_52 : decode cX9_same 52 = .ok (.invokevirtual 190, 3) := by decide +kernel
theorem dX9_same_55 : decode cX9_same 55 = .ok (.aload_n 0, 1) := by decide +kernel
theorem dX9_same_56 : decode cX9_same 56 = .ok (.invokevirtual 114, 3) := by decide +kernel
theorem dX9_same_59 : decode cX9_same 59 = .ok (.iconst (-1), 1) := by decide +kernel
theorem dX9_same_60 : decode cX9_same 60 = .ok (.if_icmp .ne 7, 3) := by decide +kernel
theorem dX9_same_63 : decode cX9_same 63 = .ok (.iconst (-1), 1) := by decide +kernel
theorem dX9_same_64 : decode cX9_same 64 = .ok (.goto 16, 3) := by decide +kernel
theorem dX9_same_67 : decode cX9_same 67 = .ok (.iconst 3, 1) := by decide +kernel
theorem dX9_same_68 : decode cX9_same 68 = .ok (.aload_n 0, 1) := by decide +kernel
theorem dX9_same_69 : decode cX9_same 69 = .ok (.invokevirtual 117, 3) := by decide +kernel
theorem dX9_same_72 : decode cX9_same 72 = .ok (.imul, 1) := by decide +kernel
theorem dX9_same_73 : decode cX9_same 73 = .ok (.aload_n 0, 1) := by decide +kernel
theorem dX9_same_74 : decode cX9_same 74 = .ok (.getfield 61, 3) := by decide +kernel
theorem dX9_same_77 : decode cX9_same 77 = .ok (.iadd, 1) := by decide +kernel
theorem dX9_same_78 : decode cX9_same 78 = .ok (.iconst 1, 1) := by decide +kernel
theorem dX9_same_79 : decode cX9_same 79 = .ok (.iadd, 1) := by decide +kernel
theorem dX9_same_80 : decode cX9_same 80 = .ok (.istore 4, 2) := by decide +kernel
theorem dX9_same_82 : decode cX9_same 82 = .ok (.iload_n 3, 1) := by decide +kernel
theorem dX9_same_83 : decode cX9_same 83 = .ok (.iconst (-1), 1) := by decide +kernel
theorem dX9_same_84 : decode cX9_same 84 = .ok (.if_icmp .eq 9, 3) := by decide +kernel
theorem dX9_same_87 : decode cX9_same 87 = .ok (.iload 4, 2) := by decide +kernel
theorem dX9_same_89 : decode cX9_same 89 = .ok (.iconst (-1), 1) := by decide +kernel
theorem dX9_same_90 : decode cX9_same 90 = .ok (.if_icmp .ne 5, 3) := by decide +kernel
theorem dX9_same_93 : decode cX9_same 93 = .ok (.iconst (-1), 1) := by decide +kernel
theorem dX9_same_94 : decode cX9_same 94 = .ok (.ireturn, 1) := by decide +kernel
theorem dX9_same_95 : decode cX9_same 95 = .ok (.iload_n 3, 1) := by decide +kernel
theorem dX9_same_96 : decode cX9_same 96 = .ok (.iload 4, 2) := by decide +kernel
theorem dX9_same_98 : decode cX9_same 98 = .ok (.if_icmp .ne 7, 3) := by decide +kernel
theorem dX9_same_101 : decode cX9_same 101 = .ok (.iconst 1, 1) := by decide +kernel
theorem dX9_same_102 : decode cX9_same 102 = .ok (.goto 4, 3) := by decide +kernel
theorem dX9_same_105 : decode cX9_same 105 = .ok (.iconst 0, 1) := by decide +kernel
theorem dX9_same_106 : decode cX9_same 106 = .ok (.ireturn, 1) := by decide +kernel
theorem dX9_remember_0 : decode cX9_remember 0 = .ok (.aload_n 0, 1) := by decide +kernel
theorem dX9_remember_1 : decode cX9_remember 1 = .ok (.getfield 183, 3) := by decide +kernel
theorem dX9_remember_4 : decode cX9_remember 4 = .ok (.bipush 20, 2) := by decide +kernel
theorem dX9_remember_6 : decode cX9_remember 6 = .ok (.if_icmp .ne 41, 3) := by decide +kernel
theorem dX9_remember_9 : decode cX9_remember 9 = .ok (.iconst 1, 1) := by decide +kernel
theorem dX9_remember_10 : decode cX9_remember 10 = .ok (.istore_n 1, 1) := by decide +kernel
theorem dX9_remember_11 : decode cX9_remember 11 = .ok (.iload_n 1, 1) := by decide +kernel
theorem dX9_remember_12 : decode cX9_remember 12 = .ok (.bipush 20, 2) := by decide +kernel
theorem dX9_remember_14 : decode cX9_remember 14 = .ok (.if_icmp .ge 23, 3) := by decide +kernel
theorem dX9_remember_17 : decode cX9_remember 17 = .ok (.aload_n 0, 1) := by decide +kernel
theorem dX9_remember_18 : decode cX9_remember 18 = .ok (.bipush 34, 2) := by decide +kernel
theorem dX9_remember_20 : decode cX9_remember 20 = .ok (.iload_n 1, 1) := by decide +kernel
theorem dX9_remember_21 : decode cX9_remember 21 = .ok (.iconst 1, 1) := by decide +kernel
theorem dX9_remember_22 : decode cX9_remember 22 = .ok (.iadd, 1) := by decide +kernel
theorem dX9_remember_23 : decode cX9_remember 23 = .ok (.imul, 1) := by decide +kernel
theorem dX9_remember_24 : decode cX9_remember 24 = .ok (.bipush 34, 2) := by decide +kernel
theorem dX9_remember_26 : decode cX9_remember 26 = .ok (.iload_n 1, 1) := by decide +kernel
theorem dX9_remember_27 : decode cX9_remember 27 = .ok (.imul, 1) := by decide +kernel
theorem dX9_remember_28 : decode cX9_remember 28 = .ok (.invokevirtual 208, 3) := by decide +kernel
theorem dX9_remember_31 : decode cX9_remember 31 = .ok (.iinc 1 1, 3) := by decide +kernel
theorem dX9_remember_34 : decode cX9_remember 34 = .ok (.goto (-23), 3) := by decide +kernel
theorem dX9_remember_37 : decode cX9_remember 37 = .ok (.aload_n 0, 1) := by decide +kernel
theorem dX9_remember_38 : decode cX9_remember 38 = .ok (.dup, 1) := by decide +kernel
theorem dX9_remember_39 : decode cX9_remember 39 = .ok (.getfield 183, 3) := by decide +kernel
theorem dX9_remember_42 : decode cX9_remember 42 = .ok (.iconst 1, 1) := by decide +kernel
theorem dX9_remember_43 : decode cX9_remember 43 = .ok (.isub, 1) := by decide +kernel
theorem dX9_remember_44 : decode cX9_remember 44 = .ok (.putfield 183, 3) := by decide +kernel
theorem dX9_remember_47 : decode cX9_remember 47 = .ok (.aload_n 0, 1) := by decide +kernel
theorem dX9_remember_48 : decode cX9_remember 48 = .ok (.iconst 0, 1) := by decide +kernel
theorem dX9_remember_49 : decode cX9_remember 49 = .ok (.bipush 34, 2) := by decide +kernel
theorem dX9_remember_51 : decode cX9_remember 51 = .ok (.aload_n 0, 1) := by decide +kernel
theorem dX9_remember_52 : decode cX9_remember 52 = .ok (.getfield 183, 3) := by decide +kernel
theorem dX9_remember_55 : decode cX9_remember 55 = .ok (.iconst 1, 1) := by decide +kernel
theorem dX9_remember_56 : decode cX9_remember 56 = .ok (.iadd, 1) := by decide +kernel
theorem dX9_remember_57 : decode cX9_remember 57 = .ok (.imul, 1) := by decide +kernel
theorem dX9_remember_58 : decode cX9_remember 58 = .ok (.invokevirtual 208, 3) := by decide +kernel
theorem dX9_remember_61 : decode cX9_remember 61 = .ok (.aload_n 0, 1) := by decide +kernel
theorem dX9_remember_62 : decode cX9_remember 62 = .ok (.dup, 1) := by decide +kernel
theorem dX9_remember_63 : decode cX9_remember 63 = .ok (.getfield 183, 3) := by decide +kernel
theorem dX9_remember_66 : decode cX9_remember 66 = .ok (.iconst 1, 1) := by decide +kernel
theorem dX9_remember_67 : decode cX9_remember 67 = .ok (.iadd, 1) := by decide +kernel
theorem dX9_remember_68 : decode cX9_remember 68 = .ok (.putfield 183, 3) := by decide +kernel
theorem dX9_remember_71 : decode cX9_remember 71 = .ok (.return_, 1) := by decide +kernel
theorem dX9_shelve_0 : decode cX9_shelve 0 = .ok (.aload_n 0, 1) := by decide +kernel
theorem dX9_shelve_1 : decode cX9_shelve 1 = .ok (.getfield 7, 3) := by decide +kernel
theorem dX9_shelve_4 : decode cX9_shelve 4 = .ok (.iconst 0, 1) := by decide +kernel
theorem dX9_shelve_5 : decode cX9_shelve 5 = .ok (.iaload, 1) := by decide +kernel
theorem dX9_shelve_6 : decode cX9_shelve 6 = .ok (.istore_n 1, 1) := by decide +kernel
theorem dX9_shelve_7 : decode cX9_shelve 7 = .ok (.aload_n 0, 1) := by decide +kernel
theorem dX9_shelve_8 : decode cX9_shelve 8 = .ok (.getfield 7, 3) := by decide +kernel
theorem dX9_shelve_11 : decode cX9_shelve 11 = .ok (.iconst 0, 1) := by decide +kernel
theorem dX9_shelve_12 : decode cX9_shelve 12 = .ok (.dup2, 1) := by decide +kernel
theorem dX9_shelve_13 : decode cX9_shelve 13 = .ok (.iaload, 1) := by decide +kernel
theorem dX9_shelve_14 : decode cX9_shelve 14 = .ok (.iconst 1, 1) := by decide +kernel
theorem dX9_shelve_15 : decode cX9_shelve 15 = .ok (.iadd, 1) := by decide +kernel
theorem dX9_shelve_16 : decode cX9_shelve 16 = .ok (.iastore, 1) := by decide +kernel
theorem dX9_shelve_17 : decode cX9_shelve 17 = .ok (.aload_n 0, 1) := by decide +kernel
theorem dX9_shelve_18 : decode cX9_shelve 18 = .ok (.iload_n 1, 1) := by decide +kernel
theorem dX9_shelve_19 : decode cX9_shelve 19 = .ok (.invokevirtual 211, 3) := by decide +kernel
theorem dX9_shelve_22 : decode cX9_shelve 22 = .ok (.iload_n 1, 1) := by decide +kernel
theorem dX9_shelve_23 : decode cX9_shelve 23 = .ok (.ireturn, 1) := by decide +kernel
theorem dX9_lay_0 : decode cX9_lay 0 = .ok (.aload_n 0, 1) := by decide +kernel
theorem dX9_lay_1 : decode cX9_lay 1 = .ok (.getfield 7, 3) := by decide +kernel
theorem dX9_lay_4 : decode cX9_lay 4 = .ok (.iconst 1, 1) := by decide +kernel
theorem dX9_lay_5 : decode cX9_lay 5 = .ok (.iload_n 1, 1) := by decide +kernel
theorem dX9_lay_6 : decode cX9_lay 6 = .ok (.iadd, 1) := by decide +kernel
theorem dX9_lay_7 : decode cX9_lay 7 = .ok (.aload_n 0, 1) := by decide +kernel
theorem dX9_lay_8 : decode cX9_lay 8 = .ok (.invokevirtual 117, 3) := by decide +kernel
theorem dX9_lay_11 : decode cX9_lay 11 = .ok (.iastore, 1) := by decide +kernel
theorem dX9_lay_12 : decode cX9_lay 12 = .ok (.aload_n 0, 1) := by decide +kernel
theorem dX9_lay_13 : decode cX9_lay 13 = .ok (.getfield 7, 3) := by decide +kernel
theorem dX9_lay_16 : decode cX9_lay 16 = .ok (.bipush 9, 2) := by decide +kernel
theorem dX9_lay_18 : decode cX9_lay 18 = .ok (.iload_n 1, 1) := by decide +kernel
theorem dX9_lay_19 : decode cX9_lay 19 = .ok (.iadd, 1) := by decide +kernel
theorem dX9_lay_20 : decode cX9_lay 20 = .ok (.aload_n 0, 1) := by decide +kernel
theorem dX9_lay_21 : decode cX9_lay 21 = .ok (.getfield 61, 3) := by decide +kernel
theorem dX9_lay_24 : decode cX9_lay 24 = .ok (.iastore, 1) := by decide +kernel
theorem dX9_lay_25 : decode cX9_lay 25 = .ok (.return_, 1) := by decide +kernel
theorem dX9_graft_0 : decode cX9_graft 0 = .ok (.aload_n 0, 1) := by decide +kernel
theorem dX9_graft_1 : decode cX9_graft 1 = .ok (.iload_n 1, 1) := by decide +kernel
theorem dX9_graft_2 : decode cX9_graft 2 = .ok (.invokevirtual 165, 3) := by decide +kernel
theorem dX9_graft_5 : decode cX9_graft 5 = .ok (.ifCond .eq 11, 3) := by decide +kernel
theorem dX9_graft_8 : decode cX9_graft 8 = .ok (.aload_n 0, 1) := by decide +kernel
theorem dX9_graft_9 : decode cX9_graft 9 = .ok (.iload_n 3, 1) := by decide +kernel
theorem dX9_graft_10 : decode cX9_graft 10 = .ok (.invokevirtual 165, 3) := by decide +kernel
theorem dX9_graft_13 : decode cX9_graft 13 = .ok (.ifCond .ne 6, 3) := by decide +kernel
theorem dX9_graft_16 : decode cX9_graft 16 = .ok (.ldc 189, 2) := by decide +kernel
theorem dX9_graft_18 : decode cX9_graft 18 = .ok (.ireturn, 1) := by decide +kernel
theorem dX9_graft_19 : decode cX9_graft 19 = .ok (.aload_n 0, 1) := by decide +kernel
theorem dX9_graft_20 : decode cX9_graft 20 = .ok (.iload_n 3, 1) := by decide +kernel
theorem dX9_graft_21 : decode cX9_graft 21 = .ok (.invokevirtual 190, 3) := by decide +kernel
theorem dX9_graft_24 : decode cX9_graft 24 = .ok (.aload_n 0, 1) := by decide +kernel
theorem dX9_graft_25 : decode cX9_graft 25 = .ok (.invokevirtual 193, 3) := by decide +kernel
theorem dX9_graft_28 : decode cX9_graft 28 = .ok (.istore 4, 2) := by decide +kernel
theorem dX9_graft_30 : decode cX9_graft 30 = .ok (.aload_n 0, 1) := by decide +kernel
theorem dX9_graft_31 : decode cX9_graft 31 = .ok (.iload_n 1, 1) := by decide +kernel
theorem dX9_graft_32 : decode cX9_graft 32 = .ok (.invokevirtual 190, 3) := by decide +kernel
theorem dX9_graft_35 : decode cX9_graft 35 = .ok (.aload_n 0, 1) := by decide +kernel
theorem dX9_graft_36 : decode cX9_graft 36 = .ok (.iload_n 2, 1) := by decide +kernel
theorem dX9_graft_37 : decode cX9_graft 37 = .ok (.invokevirtual 214, 3) := by decide +kernel
theorem dX9_graft_40 : decode cX9_graft 40 = .ok (.istore 5, 2) := by decide +kernel
theorem dX9_graft_42 : decode cX9_graft 42 = .ok (.iload 5, 2) := by decide +kernel
theorem dX9_graft_44 : decode cX9_graft 44 = .ok (.iconst (-1), 1) := by decide +kernel
theorem dX9_graft_45 : decode cX9_graft 45 = .ok (.if_icmp .ne 6, 3) := by decide +kernel
theorem dX9_graft_48 : decode cX9_graft 48 = .ok (.ldc 189, 2) := by decide +kernel
theorem dX9_graft_50 : decode cX9_graft 50 = .ok (.ireturn, 1) := by decide +kernel
theorem dX9_graft_51 : decode cX9_graft 51 = .ok (.aload_n 0, 1) := by decide +kernel
theorem dX9_graft_52 : decode cX9_graft 52 = .ok (.getfield 7, 3) := by decide +kernel
theorem dX9_graft_55 : decode cX9_graft 55 = .ok (.iconst 0, 1) := by decide +kernel
theorem dX9_graft_56 : decode cX9_graft 56 = .ok (.iaload, 1) := by decide +kernel
theorem dX9_graft_57 : decode cX9_graft 57 = .ok (.bipush 8, 2) := by decide +kernel
theorem dX9_graft_59 : decode cX9_graft 59 = .ok (.if_icmp .ne 6, 3) := by decide +kernel
theorem dX9_graft_62 : decode cX9_graft 62 = .ok (.ldc 152, 2) := by decide +kernel
theorem dX9_graft_64 : decode cX9_graft 64 = .ok (.ireturn, 1) := by decide +kernel
theorem dX9_graft_65 : decode cX9_graft 65 = .ok (.aload_n 0, 1) := by decide +kernel
theorem dX9_graft_66 : decode cX9_graft 66 = .ok (.invokevirtual 193, 3) := by decide +kernel
theorem dX9_graft_69 : decode cX9_graft 69 = .ok (.iload 4, 2) := by decide +kernel
theorem dX9_graft_71 : decode cX9_graft 71 = .ok (.iadd, 1) := by decide +kernel
theorem dX9_graft_72 : decode cX9_graft 72 = .ok (.bipush 6, 2) := by decide +kernel
theorem dX9_graft_74 : decode cX9_graft 74 = .ok (.if_icmp .gt 27, 3) := by decide +kernel
theorem dX9_graft_77 : decode cX9_graft 77 = .ok (.aload_n 0, 1) := by decide +kernel
theorem dX9_graft_78 : decode cX9_graft 78 = .ok (.getfield 7, 3) := by decide +kernel
theorem dX9_graft_81 : decode cX9_graft 81 = .ok (.bipush 9, 2) := by decide +kernel
theorem dX9_graft_83 : decode cX9_graft 83 = .ok (.iload_n 1, 1) := by decide +kernel
theorem dX9_graft_84 : decode cX9_graft 84 = .ok (.iadd, 1) := by decide +kernel
theorem dX9_graft_85 : decode cX9_graft 85 = .ok (.iaload, 1) := by decide +kernel
theorem dX9_graft_86 : decode cX9_graft 86 = .ok (.ifCond .eq 15, 3) := by decide +kernel
theorem dX9_graft_89 : decode cX9_graft 89 = .ok (.aload_n 0, 1) := by decide +kernel
theorem dX9_graft_90 : decode cX9_graft 90 = .ok (.getfield 7, 3) := by decide +kernel
theorem dX9_graft_93 : decode cX9_graft 93 = .ok (.bipush 9, 2) := by decide +kernel
theorem dX9_graft_95 : decode cX9_graft 95 = .ok (.iload_n 3, 1) := by decide +kernel
theorem dX9_graft_96 : decode cX9_graft 96 = .ok (.iadd, 1) := by decide +kernel
theorem dX9_graft_97 : decode cX9_graft 97 = .ok (.iaload, 1) := by decide +kernel
theorem dX9_graft_98 : decode cX9_graft 98 = .ok (.ifCond .ne 6, 3) := by decide +kernel
theorem dX9_graft_101 : decode cX9_graft 101 = .ok (.ldc 217, 2) := by decide +kernel
theorem dX9_graft_103 : decode cX9_graft 103 = .ok (.ireturn, 1) := by decide +kernel
theorem dX9_graft_104 : decode cX9_graft 104 = .ok (.aload_n 0, 1) := by decide +kernel
theorem dX9_graft_105 : decode cX9_graft 105 = .ok (.invokevirtual 156, 3) := by decide +kernel
theorem dX9_graft_108 : decode cX9_graft 108 = .ok (.iconst 0, 1) := by decide +kernel
theorem dX9_graft_109 : decode cX9_graft 109 = .ok (.istore 6, 2) := by decide +kernel
theorem dX9_graft_111 : decode cX9_graft 111 = .ok (.iconst 0, 1) := by decide +kernel
theorem dX9_graft_112 : decode cX9_graft 112 = .ok (.istore 7, 2) := by decide +kernel
theorem dX9_graft_114 : decode cX9_graft 114 = .ok (.iload 7, 2) := by decide +kernel
theorem dX9_graft_116 : decode cX9_graft 116 = .ok (.iload 5, 2) := by decide +kernel
theorem dX9_graft_118 : decode cX9_graft 118 = .ok (.if_icmp .ge 23, 3) := by decide +kernel
theorem dX9_graft_121 : decode cX9_graft 121 = .ok (.iconst 3, 1) := by decide +kernel
theorem dX9_graft_122 : decode cX9_graft 122 = .ok (.iload 6, 2) := by decide +kernel
theorem dX9_graft_124 : decode cX9_graft 124 = .ok (.imul, 1) := by decide +kernel
theorem dX9_graft_125 : decode cX9_graft 125 = .ok (.aload_n 0, 1) := by decide +kernel
theorem dX9_graft_126 : decode cX9_graft 126 = .ok (.getfield 29, 3) := by decide +kernel
theorem dX9_graft_129 : decode cX9_graft 129 = .ok (.iload 7, 2) := by decide +kernel
theorem dX9_graft_131 : decode cX9_graft 131 = .ok (.iaload, 1) := by decide +kernel
theorem dX9_graft_132 : decode cX9_graft 132 = .ok (.iadd, 1) := by decide +kernel
theorem dX9_graft_133 : decode cX9_graft 133 = .ok (.istore 6, 2) := by decide +kernel
theorem dX9_graft_135 : decode cX9_graft 135 = .ok (.iinc 7 1, 3) := by decide +kernel
theorem dX9_graft_138 : decode cX9_graft 138 = .ok (.goto (-24), 3) := by decide +kernel
theorem dX9_graft_141 : decode cX9_graft 141 = .ok (.aload_n 0, 1) := by decide +kernel
theorem dX9_graft_142 : decode cX9_graft 142 = .ok (.getfield 58, 3) := by decide +kernel
theorem dX9_graft_145 : decode cX9_graft 145 = .ok (.iload 5, 2) := by decide +kernel
theorem dX9_graft_147 : decode cX9_graft 147 = .ok (.isub, 1) := by decide +kernel
theorem dX9_graft_148 : decode cX9_graft 148 = .ok (.iconst 1, 1) := by decide +kernel
theorem dX9_graft_149 : decode cX9_graft 149 = .ok (.isub, 1) := by decide +kernel
theorem dX9_graft_150 : decode cX9_graft 150 = .ok (.istore 7, 2) := by decide +kernel
theorem dX9_graft_152 : decode cX9_graft 152 = .ok (.iconst 0, 1) := by decide +kernel
theorem dX9_graft_153 : decode cX9_graft 153 = .ok (.istore 8, 2) := by decide +kernel
theorem dX9_graft_155 : decode cX9_graft 155 = .ok (.iload 5, 2) := by decide +kernel
theorem dX9_graft_157 : decode cX9_graft 157 = .ok (.iconst 1, 1) := by decide +kernel
theorem dX9_graft_158 : decode cX9_graft 158 = .ok (.iadd, 1) := by decide +kernel
theorem dX9_graft_159 : decode cX9_graft 159 = .ok (.istore 9, 2) := by decide +kernel
theorem dX9_graft_161 : decode cX9_graft 161 = .ok (.iload 9, 2) := by decide +kernel
theorem dX9_graft_163 : decode cX9_graft 163 = .ok (.aload_n 0, 1) := by decide +kernel
theorem dX9_graft_164 : decode cX9_graft 164 = .ok (.getfield 58, 3) := by decide +kernel
theorem dX9_graft_167 : decode cX9_graft 167 = .ok (.if_icmp .ge 23, 3) := by decide +kernel
theorem dX9_graft_170 : decode cX9_graft 170 = .ok (.iconst 3, 1) := by decide +kernel
theorem dX9_graft_171 : decode cX9_graft 171 = .ok (.iload 8, 2) := by decide +kernel
theorem dX9_graft_173 : decode cX9_graft 173 = .ok (.imul, 1) := by decide +kernel
theorem dX9_graft_174 : decode cX9_graft 174 = .ok (.aload_n 0, 1) := by decide +kernel
theorem dX9_graft_175 : decode cX9_graft 175 = .ok (.getfield 29, 3) := by decide +kernel
theorem dX9_graft_178 : decode cX9_graft 178 = .ok (.iload 9, 2) := by decide +kernel
theorem dX9_graft_180 : decode cX9_graft 180 = .ok (.iaload, 1) := by decide +kernel
theorem dX9_graft_181 : decode cX9_graft 181 = .ok (.iadd, 1) := by decide +kernel
theorem dX9_graft_182 : decode cX9_graft 182 = .ok (.istore 8, 2) := by decide +kernel
theorem dX9_graft_184 : decode cX9_graft 184 = .ok (.iinc 9 1, 3) := by decide +kernel
theorem dX9_graft_187 : decode cX9_graft 187 = .ok (.goto (-26), 3) := by decide +kernel
theorem dX9_graft_190 : decode cX9_graft 190 = .ok (.aload_n 0, 1) := by decide +kernel
theorem dX9_graft_191 : decode cX9_graft 191 = .ok (.iload_n 3, 1) := by decide +kernel
theorem dX9_graft_192 : decode cX9_graft 192 = .ok (.invokevirtual 190, 3) := by decide +kernel
theorem dX9_graft_195 : decode cX9_graft 195 = .ok (.iconst 0, 1) := by decide +kernel
theorem dX9_graft_196 : decode cX9_graft 196 = .ok (.istore 9, 2) := by decide +kernel
theorem dX9_graft_198 : decode cX9_graft 198 = .ok (.iload 9, 2) := by decide +kernel
theorem dX9_graft_200 : decode cX9_graft 200 = .ok (.aload_n 0, 1) := by decide +kernel
theorem dX9_graft_201 : decode cX9_graft 201 = .ok (.getfield 58, 3) := by decide +kernel
theorem dX9_graft_204 : decode cX9_graft 204 = .ok (.if_icmp .ge 23, 3) := by decide +kernel
theorem dX9_graft_207 : decode cX9_graft 207 = .ok (.iconst 3, 1) := by decide +kernel
theorem dX9_graft_208 : decode cX9_graft 208 = .ok (.iload 6, 2) := by decide +kernel
theorem dX9_graft_210 : decode cX9_graft 210 = .ok (.imul, 1) := by decide +kernel
theorem dX9_graft_211 : decode cX9_graft 211 = .ok (.aload_n 0, 1) := by decide +kernel
theorem dX9_graft_212 : decode cX9_graft 212 = .ok (.getfield 29, 3) := by decide +kernel
theorem dX9_graft_215 : decode cX9_graft 215 = .ok (.iload 9, 2) := by decide +kernel
theorem dX9_graft_217 : decode cX9_graft 217 = .ok (.iaload, 1) := by decide +kernel
theorem dX9_graft_218 : decode cX9_graft 218 = .ok (.iadd, 1) := by decide +kernel
theorem dX9_graft_219 : decode cX9_graft 219 = .ok (.istore 6, 2) := by decide +kernel
theorem dX9_graft_221 : decode cX9_graft 221 = .ok (.iinc 9 1, 3) := by decide +kernel
theorem dX9_graft_224 : decode cX9_graft 224 = .ok (.goto (-26), 3) := by decide +kernel
theorem dX9_graft_227 : decode cX9_graft 227 = .ok (.iconst 0, 1) := by decide +kernel
theorem dX9_graft_228 : decode cX9_graft 228 = .ok (.istore 9, 2) := by decide +kernel
theorem dX9_graft_230 : decode cX9_graft 230 = .ok (.iload 9, 2) := by decide +kernel
theorem dX9_graft_232 : decode cX9_graft 232 = .ok (.iload 7, 2) := by decide +kernel
theorem dX9_graft_234 : decode cX9_graft 234 = .ok (.if_icmp .ge 15, 3) := by decide +kernel
theorem dX9_graft_237 : decode cX9_graft 237 = .ok (.iconst 3, 1) := by decide +kernel
theorem dX9_graft_238 : decode cX9_graft 238 = .ok (.iload 6, 2) := by decide +kernel
theorem dX9_graft_240 : decode cX9_graft 240 = .ok (.imul, 1) := by decide +kernel
theorem dX9_graft_241 : decode cX9_graft 241 = .ok (.istore 6, 2) := by decide +kernel
theorem dX9_graft_243 : decode cX9_graft 243 = .ok (.iinc 9 1, 3) := by decide +kernel
theorem dX9_graft_246 : decode cX9_graft 246 = .ok (.goto (-16), 3) := by decide +kernel
theorem dX9_graft_249 : decode cX9_graft 249 = .ok (.aload_n 0, 1) := by decide +kernel
theorem dX9_graft_250 : decode cX9_graft 250 = .ok (.iload 6, 2) := by decide +kernel
theorem dX9_graft_252 : decode cX9_graft 252 = .ok (.iload 8, 2) := by decide +kernel
theorem dX9_graft_254 : decode cX9_graft 254 = .ok (.iadd, 1) := by decide +kernel
theorem dX9_graft_255 : decode cX9_graft 255 = .ok (.aload_n 0, 1) := by decide +kernel
theorem dX9_graft_256 : decode cX9_graft 256 = .ok (.getfield 7, 3) := by decide +kernel
theorem dX9_graft_259 : decode cX9_graft 259 = .ok (.bipush 9, 2) := by decide +kernel
theorem dX9_graft_261 : decode cX9_graft 261 = .ok (.iload_n 1, 1) := by decide +kernel
theorem dX9_graft_262 : decode cX9_graft 262 = .ok (.iadd, 1) := by decide +kernel
theorem dX9_graft_263 : decode cX9_graft 263 = .ok (.iaload, 1) := by decide +kernel
theorem dX9_graft_264 : decode cX9_graft 264 = .ok (.aload_n 0, 1) := by decide +kernel
theorem dX9_graft_265 : decode cX9_graft 265 = .ok (.getfield 7, 3) := by decide +kernel
theorem dX9_graft_268 : decode cX9_graft 268 = .ok (.bipush 9, 2) := by decide +kernel
theorem dX9_graft_270 : decode cX9_graft 270 = .ok (.iload_n 3, 1) := by decide +kernel
theorem dX9_graft_271 : decode cX9_graft 271 = .ok (.iadd, 1) := by decide +kernel
theorem dX9_graft_272 : decode cX9_graft 272 = .ok (.iaload, 1) := by decide +kernel
theorem dX9_graft_273 : decode cX9_graft 273 = .ok (.imul, 1) := by decide +kernel
theorem dX9_graft_274 : decode cX9_graft 274 = .ok (.invokevirtual 64, 3) := by decide +kernel
theorem dX9_graft_277 : decode cX9_graft 277 = .ok (.aload_n 0, 1) := by decide +kernel
theorem dX9_graft_278 : decode cX9_graft 278 = .ok (.invokevirtual 159, 3) := by decide +kernel
theorem dX9_graft_281 : decode cX9_graft 281 = .ok (.ireturn, 1) := by decide +kernel
theorem dX9_step_0 : decode cX9_step 0 = .ok (.aload_n 0, 1) := by decide +kernel
theorem dX9_step_1 : decode cX9_step 1 = .ok (.iload_n 1, 1) := by decide +kernel
theorem dX9_step_2 : decode cX9_step 2 = .ok (.invokevirtual 165, 3) := by decide +kernel
theorem dX9_step_5 : decode cX9_step 5 = .ok (.ifCond .ne 6, 3) := by decide +kernel
theorem dX9_step_8 : decode cX9_step 8 = .ok (.ldc 189, 2) := by decide +kernel
theorem dX9_step_10 : decode cX9_step 10 = .ok (.ireturn, 1) := by decide +kernel
theorem dX9_step_11 : decode cX9_step 11 = .ok (.aload_n 0, 1) := by decide +kernel
theorem dX9_step_12 : decode cX9_step 12 = .ok (.iload_n 1, 1) := by decide +kernel
theorem dX9_step_13 : decode cX9_step 13 = .ok (.invokevirtual 190, 3) := by decide +kernel
theorem dX9_step_16 : decode cX9_step 16 = .ok (.iload_n 2, 1) := by decide +kernel
theorem dX9_step_17 : decode cX9_step 17 = .ok (.ifCond .ge 7, 3) := by decide +kernel
theorem dX9_step_20 : decode cX9_step 20 = .ok (.iconst (-1), 1) := by decide +kernel
theorem dX9_step_21 : decode cX9_step 21 = .ok (.goto 8, 3) := by decide +kernel
theorem dX9_step_24 : decode cX9_step 24 = .ok (.aload_n 0, 1) := by decide +kernel
theorem dX9_step_25 : decode cX9_step 25 = .ok (.iload_n 2, 1) := by decide +kernel
theorem dX9_step_26 : decode cX9_step 26 = .ok (.invokevirtual 96, 3) := by decide +kernel
theorem dX9_step_29 : decode cX9_step 29 = .ok (.istore_n 3, 1) := by decide +kernel
theorem dX9_step_30 : decode cX9_step 30 = .ok (.iload_n 3, 1) := by decide +kernel
theorem dX9_step_31 : decode cX9_step 31 = .ok (.iconst (-1), 1) := by decide +kernel
theorem dX9_step_32 : decode cX9_step 32 = .ok (.if_icmp .ne 6, 3) := by decide +kernel
theorem dX9_step_35 : decode cX9_step 35 = .ok (.ldc 148, 2) := by decide +kernel
theorem dX9_step_37 : decode cX9_step 37 = .ok (.ireturn, 1) := by decide +kernel
theorem dX9_step_38 : decode cX9_step 38 = .ok (.aload_n 0, 1) := by decide +kernel
theorem dX9_step_39 : decode cX9_step 39 = .ok (.invokevirtual 156, 3) := by decide +kernel
theorem dX9_step_42 : decode cX9_step 42 = .ok (.aload_n 0, 1) := by decide +kernel
theorem dX9_step_43 : decode cX9_step 43 = .ok (.iload_n 3, 1) := by decide +kernel
theorem dX9_step_44 : decode cX9_step 44 = .ok (.invokevirtual 99, 3) := by decide +kernel
theorem dX9_step_47 : decode cX9_step 47 = .ok (.aload_n 0, 1) := by decide +kernel
theorem dX9_step_48 : decode cX9_step 48 = .ok (.iload_n 1, 1) := by decide +kernel
theorem dX9_step_49 : decode cX9_step 49 = .ok (.invokevirtual 211, 3) := by decide +kernel
theorem dX9_step_52 : decode cX9_step 52 = .ok (.aload_n 0, 1) := by decide +kernel
theorem dX9_step_53 : decode cX9_step 53 = .ok (.invokevirtual 106, 3) := by decide +kernel
theorem dX9_step_56 : decode cX9_step 56 = .ok (.ireturn, 1) := by decide +kernel
theorem dX9_plain_0 : decode cX9_plain 0 = .ok (.aload_n 0, 1) := by decide +kernel
theorem dX9_plain_1 : decode cX9_plain 1 = .ok (.iload_n 1, 1) := by decide +kernel
theorem dX9_plain_2 : decode cX9_plain 2 = .ok (.invokevirtual 165, 3) := by decide +kernel
theorem dX9_plain_5 : decode cX9_plain 5 = .ok (.ifCond .ne 6, 3) := by decide +kernel
theorem dX9_plain_8 : decode cX9_plain 8 = .ok (.ldc 189, 2) := by decide +kernel
theorem dX9_plain_10 : decode cX9_plain 10 = .ok (.ireturn, 1) := by decide +kernel
theorem dX9_plain_11 : decode cX9_plain 11 = .ok (.aload_n 0, 1) := by decide +kernel
theorem dX9_plain_12 : decode cX9_plain 12 = .ok (.iload_n 1, 1) := by decide +kernel
theorem dX9_plain_13 : decode cX9_plain 13 = .ok (.invokevirtual 190, 3) := by decide +kernel
theorem dX9_plain_16 : decode cX9_plain 16 = .ok (.aload_n 0, 1) := by decide +kernel
theorem dX9_plain_17 : decode cX9_plain 17 = .ok (.invokevirtual 114, 3) := by decide +kernel
theorem dX9_plain_20 : decode cX9_plain 20 = .ok (.istore_n 2, 1) := by decide +kernel
theorem dX9_plain_21 : decode cX9_plain 21 = .ok (.iload_n 2, 1) := by decide +kernel
theorem dX9_plain_22 : decode cX9_plain 22 = .ok (.iconst (-1), 1) := by decide +kernel
theorem dX9_plain_23 : decode cX9_plain 23 = .ok (.if_icmp .ne 6, 3) := by decide +kernel
theorem dX9_plain_26 : decode cX9_plain 26 = .ok (.ldc 217, 2) := by decide +kernel
theorem dX9_plain_28 : decode cX9_plain 28 = .ok (.ireturn, 1) := by decide +kernel
theorem dX9_plain_29 : decode cX9_plain 29 = .ok (.aload_n 0, 1) := by decide +kernel
theorem dX9_plain_30 : decode cX9_plain 30 = .ok (.invokevirtual 156, 3) := by decide +kernel
theorem dX9_plain_33 : decode cX9_plain 33 = .ok (.aload_n 0, 1) := by decide +kernel
theorem dX9_plain_34 : decode cX9_plain 34 = .ok (.iload_n 1, 1) := by decide +kernel
theorem dX9_plain_35 : decode cX9_plain 35 = .ok (.invokevirtual 211, 3) := by decide +kernel
theorem dX9_plain_38 : decode cX9_plain 38 = .ok (.iload_n 2, 1) := by decide +kernel
theorem dX9_plain_39 : decode cX9_plain 39 = .ok (.ireturn, 1) := by decide +kernel
theorem dX9_mirror_0 : decode cX9_mirror 0 = .ok (.aload_n 0, 1) := by decide +kernel
theorem dX9_mirror_1 : decode cX9_mirror 1 = .ok (.iload_n 1, 1) := by decide +kernel
theorem dX9_mirror_2 : decode cX9_mirror 2 = .ok (.invokevirtual 165, 3) := by decide +kernel
theorem dX9_mirror_5 : decode cX9_mirror 5 = .ok (.ifCond .ne 6, 3) := by decide +kernel
theorem dX9_mirror_8 : decode cX9_mirror 8 = .ok (.ldc 189, 2) := by decide +kernel
theorem dX9_mirror_10 : decode cX9_mirror 10 = .ok (.ireturn, 1) := by decide +kernel
theorem dX9_mirror_11 : decode cX9_mirror 11 = .ok (.aload_n 0, 1) := by decide +kernel
theorem dX9_mirror_12 : decode cX9_mirror 12 = .ok (.invokevirtual 156, 3) := by decide +kernel
theorem dX9_mirror_15 : decode cX9_mirror 15 = .ok (.aload_n 0, 1) := by decide +kernel
theorem dX9_mirror_16 : decode cX9_mirror 16 = .ok (.iload_n 1, 1) := by decide +kernel
theorem dX9_mirror_17 : decode cX9_mirror 17 = .ok (.invokevirtual 190, 3) := by decide +kernel
theorem dX9_mirror_20 : decode cX9_mirror 20 = .ok (.aload_n 0, 1) := by decide +kernel
theorem dX9_mirror_21 : decode cX9_mirror 21 = .ok (.invokevirtual 186, 3) := by decide +kernel
theorem dX9_mirror_24 : decode cX9_mirror 24 = .ok (.aload_n 0, 1) := by decide +kernel
theorem dX9_mirror_25 : decode cX9_mirror 25 = .ok (.iload_n 1, 1) := by decide +kernel
theorem dX9_mirror_26 : decode cX9_mirror 26 = .ok (.invokevirtual 211, 3) := by decide +kernel
theorem dX9_mirror_29 : decode cX9_mirror 29 = .ok (.aload_n 0, 1) := by decide +kernel
theorem dX9_mirror_30 : decode cX9_mirror 30 = .ok (.getfield 7, 3) := by decide +kernel
theorem dX9_mirror_33 : decode cX9_mirror 33 = .ok (.iconst 1, 1) := by decide +kernel
theorem dX9_mirror_34 : decode cX9_mirror 34 = .ok (.iload_n 1, 1) := by decide +kernel
theorem dX9_mirror_35 : decode cX9_mirror 35 = .ok (.iadd, 1) := by decide +kernel
theorem dX9_mirror_36 : decode cX9_mirror 36 = .ok (.iaload, 1) := by decide +kernel
theorem dX9_mirror_37 : decode cX9_mirror 37 = .ok (.ireturn, 1) := by decide +kernel
theorem dX9_take_0 : decode cX9_take 0 = .ok (.aload_n 0, 1) := by decide +kernel
theorem dX9_take_1 : decode cX9_take 1 = .ok (.iload_n 1, 1) := by decide +kernel
theorem dX9_take_2 : decode cX9_take 2 = .ok (.invokevirtual 165, 3) := by decide +kernel
theorem dX9_take_5 : decode cX9_take 5 = .ok (.ifCond .ne 6, 3) := by decide +kernel
theorem dX9_take_8 : decode cX9_take 8 = .ok (.ldc 189, 2) := by decide +kernel
theorem dX9_take_10 : decode cX9_take 10 = .ok (.ireturn, 1) := by decide +kernel
theorem dX9_take_11 : decode cX9_take 11 = .ok (.aload_n 0, 1) := by decide +kernel
theorem dX9_take_12 : decode cX9_take 12 = .ok (.invokevirtual 156, 3) := by decide +kernel
theorem dX9_take_15 : decode cX9_take 15 = .ok (.aload_n 0, 1) := by decide +kernel
theorem dX9_take_16 : decode cX9_take 16 = .ok (.getfield 7, 3) := by decide +kernel
theorem dX9_take_19 : decode cX9_take 19 = .ok (.iconst 0, 1) := by decide +kernel
theorem dX9_take_20 : decode cX9_take 20 = .ok (.dup2, 1) := by decide +kernel
theorem dX9_take_21 : decode cX9_take 21 = .ok (.iaload, 1) := by decide +kernel
theorem dX9_take_22 : decode cX9_take 22 = .ok (.iconst 1, 1) := by decide +kernel
theorem dX9_take_23 : decode cX9_take 23 = .ok (.isub, 1) := by decide +kernel
theorem dX9_take_24 : decode cX9_take 24 = .ok (.iastore, 1) := by decide +kernel
theorem dX9_take_25 : decode cX9_take 25 = .ok (.iload_n 1, 1) := by decide +kernel
theorem dX9_take_26 : decode cX9_take 26 = .ok (.istore_n 2, 1) := by decide +kernel
theorem dX9_take_27 : decode cX9_take 27 = .ok (.iload_n 2, 1) := by decide +kernel
theorem dX9_take_28 : decode cX9_take 28 = .ok (.aload_n 0, 1) := by decide +kernel
theorem dX9_take_29 : decode cX9_take 29 = .ok (.getfield 7, 3) := by decide +kernel
theorem dX9_take_32 : decode cX9_take 32 = .ok (.iconst 0, 1) := by decide +kernel
theorem dX9_take_33 : decode cX9_take 33 = .ok (.iaload, 1) := by decide +kernel
theorem dX9_take_34 : decode cX9_take 34 = .ok (.if_icmp .ge 47, 3) := by decide +kernel
theorem dX9_take_37 : decode cX9_take 37 = .ok (.aload_n 0, 1) := by decide +kernel
theorem dX9_take_38 : decode cX9_take 38 = .ok (.getfield 7, 3) := by decide +kernel
theorem dX9_take_41 : decode cX9_take 41 = .ok (.iconst 1, 1) := by decide +kernel
theorem dX9_take_42 : decode cX9_take 42 = .ok (.iload_n 2, 1) := by decide +kernel
theorem dX9_take_43 : decode cX9_take 43 = .ok (.iadd, 1) := by decide +kernel
theorem dX9_take_44 : decode cX9_take 44 = .ok (.aload_n 0, 1) := by decide +kernel
theorem dX9_take_45 : decode cX9_take 45 = .ok (.getfield 7, 3) := by decide +kernel
theorem dX9_take_48 : decode cX9_take 48 = .ok (.iconst 1, 1) := by decide +kernel
theorem dX9_take_49 : decode cX9_take 49 = .ok (.iload_n 2, 1) := by decide +kernel
theorem dX9_take_50 : decode cX9_take 50 = .ok (.iadd, 1) := by decide +kernel
theorem dX9_take_51 : decode cX9_take 51 = .ok (.iconst 1, 1) := by decide +kernel
theorem dX9_take_52 : decode cX9_take 52 = .ok (.iadd, 1) := by decide +kernel
theorem dX9_take_53 : decode cX9_take 53 = .ok (.iaload, 1) := by decide +kernel
theorem dX9_take_54 : decode cX9_take 54 = .ok (.iastore, 1) := by decide +kernel
theorem dX9_take_55 : decode cX9_take 55 = .ok (.aload_n 0, 1) := by decide +kernel
theorem dX9_take_56 : decode cX9_take 56 = .ok (.getfield 7, 3) := by decide +kernel
theorem dX9_take_59 : decode cX9_take 59 = .ok (.bipush 9, 2) := by decide +kernel
theorem dX9_take_61 : decode cX9_take 61 = .ok (.iload_n 2, 1) := by decide +kernel
theorem dX9_take_62 : decode cX9_take 62 = .ok (.iadd, 1) := by decide +kernel
theorem dX9_take_63 : decode cX9_take 63 = .ok (.aload_n 0, 1) := by decide +kernel
theorem dX9_take_64 : decode cX9_take 64 = .ok (.getfield 7, 3) := by decide +kernel
theorem dX9_take_67 : decode cX9_take 67 = .ok (.bipush 9, 2) := by decide +kernel
theorem dX9_take_69 : decode cX9_take 69 = .ok (.iload_n 2, 1) := by decide +kernel
theorem dX9_take_70 : decode cX9_take 70 = .ok (.iadd, 1) := by decide +kernel
theorem dX9_take_71 : decode cX9_take 71 = .ok (.iconst 1, 1) := by decide +kernel
theorem dX9_take_72 : decode cX9_take 72 = .ok (.iadd, 1) := by decide +kernel
theorem dX9_take_73 : decode cX9_take 73 = .ok (.iaload, 1) := by decide +kernel
theorem dX9_take_74 : decode cX9_take 74 = .ok (.iastore, 1) := by decide +kernel
theorem dX9_take_75 : decode cX9_take 75 = .ok (.iinc 2 1, 3) := by decide +kernel
theorem dX9_take_78 : decode cX9_take 78 = .ok (.goto (-51), 3) := by decide +kernel
theorem dX9_take_81 : decode cX9_take 81 = .ok (.aload_n 0, 1) := by decide +kernel
theorem dX9_take_82 : decode cX9_take 82 = .ok (.getfield 7, 3) := by decide +kernel
theorem dX9_take_85 : decode cX9_take 85 = .ok (.iconst 0, 1) := by decide +kernel
theorem dX9_take_86 : decode cX9_take 86 = .ok (.iaload, 1) := by decide +kernel
theorem dX9_take_87 : decode cX9_take 87 = .ok (.ireturn, 1) := by decide +kernel
theorem dX9_mayBecome_0 : decode cX9_mayBecome 0 = .ok (.iload_n 2, 1) := by decide +kernel
theorem dX9_mayBecome_1 : decode cX9_mayBecome 1 = .ok (.iload_n 1, 1) := by decide +kernel
theorem dX9_mayBecome_2 : decode cX9_mayBecome 2 = .ok (.if_icmp .eq 37, 3) := by decide +kernel
theorem dX9_mayBecome_5 : decode cX9_mayBecome 5 = .ok (.aload_n 0, 1) := by decide +kernel
theorem dX9_mayBecome_6 : decode cX9_mayBecome 6 = .ok (.getfield 7, 3) := by decide +kernel
theorem dX9_mayBecome_9 : decode cX9_mayBecome 9 = .ok (.bipush 17, 2) := by decide +kernel
theorem dX9_mayBecome_11 : decode cX9_mayBecome 11 = .ok (.iload_n 2, 1) := by decide +kernel
theorem dX9_mayBecome_12 : decode cX9_mayBecome 12 = .ok (.iadd, 1) := by decide +kernel
theorem dX9_mayBecome_13 : decode cX9_mayBecome 13 = .ok (.iaload, 1) := by decide +kernel
theorem dX9_mayBecome_14 : decode cX9_mayBecome 14 = .ok (.ifCond .ne 25, 3) := by decide +kernel
theorem dX9_mayBecome_17 : decode cX9_mayBecome 17 = .ok (.aload_n 0, 1) := by decide +kernel
theorem dX9_mayBecome_18 : decode cX9_mayBecome 18 = .ok (.iload_n 2, 1) := by decide +kernel
theorem dX9_mayBecome_19 : decode cX9_mayBecome 19 = .ok (.invokevirtual 142, 3) := by decide +kernel
theorem dX9_mayBecome_22 : decode cX9_mayBecome 22 = .ok (.iconst (-1), 1) := by decide +kernel
theorem dX9_mayBecome_23 : decode cX9_mayBecome 23 = .ok (.if_icmp .eq 12, 3) := by decide +kernel
theorem dX9_mayBecome_26 : decode cX9_mayBecome 26 = .ok (.aload_n 0, 1) := by decide +kernel
theorem dX9_mayBecome_27 : decode cX9_mayBecome 27 = .ok (.iload_n 2, 1) := by decide +kernel
theorem dX9_mayBecome_28 : decode cX9_mayBecome 28 = .ok (.invokevirtual 142, 3) := by decide +kernel
theorem dX9_mayBecome_31 : decode cX9_mayBecome 31 = .ok (.iload_n 1, 1) := by decide +kernel
theorem dX9_mayBecome_32 : decode cX9_mayBecome 32 = .ok (.if_icmp .ne 7, 3) := by decide +kernel
theorem dX9_mayBecome_35 : decode cX9_mayBecome 35 = .ok (.iconst 1, 1) := by decide +kernel
theorem dX9_mayBecome_36 : decode cX9_mayBecome 36 = .ok (.goto 4, 3) := by decide +kernel
theorem dX9_mayBecome_39 : decode cX9_mayBecome 39 = .ok (.iconst 0, 1) := by decide +kernel
theorem dX9_mayBecome_40 : decode cX9_mayBecome 40 = .ok (.ireturn, 1) := by decide +kernel
theorem dX9_fate_0 : decode cX9_fate 0 = .ok (.aload_n 0, 1) := by decide +kernel
theorem dX9_fate_1 : decode cX9_fate 1 = .ok (.iload_n 1, 1) := by decide +kernel
theorem dX9_fate_2 : decode cX9_fate 2 = .ok (.invokevirtual 205, 3) := by decide +kernel
theorem dX9_fate_5 : decode cX9_fate 5 = .ok (.ifCond .eq 20, 3) := by decide +kernel
theorem dX9_fate_8 : decode cX9_fate 8 = .ok (.iload_n 2, 1) := by decide +kernel
theorem dX9_fate_9 : decode cX9_fate 9 = .ok (.iconst 2, 1) := by decide +kernel
theorem dX9_fate_10 : decode cX9_fate 10 = .ok (.iconst 3, 1) := by decide +kernel
theorem dX9_fate_11 : decode cX9_fate 11 = .ok (.invokestatic 54, 3) := by decide +kernel
theorem dX9_fate_14 : decode cX9_fate 14 = .ok (.ifCond .eq 14, 3) := by decide +kernel
theorem dX9_fate_17 : decode cX9_fate 17 = .ok (.aload_n 0, 1) := by decide +kernel
theorem dX9_fate_18 : decode cX9_fate 18 = .ok (.iload_n 3, 1) := by decide +kernel
theorem dX9_fate_19 : decode cX9_fate 19 = .ok (.invokevirtual 205, 3) := by decide +kernel
theorem dX9_fate_22 : decode cX9_fate 22 = .ok (.ifCond .ne 6, 3) := by decide +kernel
theorem dX9_fate_25 : decode cX9_fate 25 = .ok (.ldc 189, 2) := by decide +kernel
theorem dX9_fate_27 : decode cX9_fate 27 = .ok (.ireturn, 1) := by decide +kernel
theorem dX9_fate_28 : decode cX9_fate 28 = .ok (.iload_n 2, 1) := by decide +kernel
theorem dX9_fate_29 : decode cX9_fate 29 = .ok (.iconst 0, 1) := by decide +kernel
theorem dX9_fate_30 : decode cX9_fate 30 = .ok (.iconst 3, 1) := by decide +kernel
theorem dX9_fate_31 : decode cX9_fate 31 = .ok (.invokestatic 54, 3) := by decide +kernel
theorem dX9_fate_34 : decode cX9_fate 34 = .ok (.ifCond .ne 6, 3) := by decide +kernel
theorem dX9_fate_37 : decode cX9_fate 37 = .ok (.ldc 148, 2) := by decide +kernel
theorem dX9_fate_39 : decode cX9_fate 39 = .ok (.ireturn, 1) := by decide +kernel
theorem dX9_fate_40 : decode cX9_fate 40 = .ok (.iload_n 2, 1) := by decide +kernel
theorem dX9_fate_41 : decode cX9_fate 41 = .ok (.iconst 2, 1) := by decide +kernel
theorem dX9_fate_42 : decode cX9_fate 42 = .ok (.if_icmp .lt 12, 3) := by decide +kernel
theorem dX9_fate_45 : decode cX9_fate 45 = .ok (.aload_n 0, 1) := by decide +kernel
theorem dX9_fate_46 : decode cX9_fate 46 = .ok (.iload_n 1, 1) := by decide +kernel
theorem dX9_fate_47 : decode cX9_fate 47 = .ok (.iload_n 3, 1) := by decide +kernel
theorem dX9_fate_48 : decode cX9_fate 48 = .ok (.invokevirtual 218, 3) := by decide +kernel
theorem dX9_fate_51 : decode cX9_fate 51 = .ok (.ifCond .eq 16, 3) := by decide +kernel
theorem dX9_fate_54 : decode cX9_fate 54 = .ok (.iload_n 2, 1) := by decide +kernel
theorem dX9_fate_55 : decode cX9_fate 55 = .ok (.ifCond .eq 15, 3) := by decide +kernel
theorem dX9_fate_58 : decode cX9_fate 58 = .ok (.aload_n 0, 1) := by decide +kernel
theorem dX9_fate_59 : decode cX9_fate 59 = .ok (.iload_n 1, 1) := by decide +kernel
theorem dX9_fate_60 : decode cX9_fate 60 = .ok (.invokevirtual 142, 3) := by decide +kernel
theorem dX9_fate_63 : decode cX9_fate 63 = .ok (.iconst (-1), 1) := by decide +kernel
theorem dX9_fate_64 : decode cX9_fate 64 = .ok (.if_icmp .eq 6, 3) := by decide +kernel
theorem dX9_fate_67 : decode cX9_fate 67 = .ok (.ldc 217, 2) := by decide +kernel
theorem dX9_fate_69 : decode cX9_fate 69 = .ok (.ireturn, 1) := by decide +kernel
theorem dX9_fate_70 : decode cX9_fate 70 = .ok (.aload_n 0, 1) := by decide +kernel
theorem dX9_fate_71 : decode cX9_fate 71 = .ok (.invokevirtual 156, 3) := by decide +kernel
theorem dX9_fate_74 : decode cX9_fate 74 = .ok (.aload_n 0, 1) := by decide +kernel
theorem dX9_fate_75 : decode cX9_fate 75 = .ok (.getfield 7, 3) := by decide +kernel
theorem dX9_fate_78 : decode cX9_fate 78 = .ok (.bipush 17, 2) := by decide +kernel
theorem dX9_fate_80 : decode cX9_fate 80 = .ok (.iload_n 1, 1) := by decide +kernel
theorem dX9_fate_81 : decode cX9_fate 81 = .ok (.iadd, 1) := by decide +kernel
theorem dX9_fate_82 : decode cX9_fate 82 = .ok (.iaload, 1) := by decide +kernel
theorem dX9_fate_83 : decode cX9_fate 83 = .ok (.istore 4, 2) := by decide +kernel
theorem dX9_fate_85 : decode cX9_fate 85 = .ok (.aload_n 0, 1) := by decide +kernel
theorem dX9_fate_86 : decode cX9_fate 86 = .ok (.getfield 7, 3) := by decide +kernel
theorem dX9_fate_89 : decode cX9_fate 89 = .ok (.bipush 17, 2) := by decide +kernel
theorem dX9_fate_91 : decode cX9_fate 91 = .ok (.iload_n 1, 1) := by decide +kernel
theorem dX9_fate_92 : decode cX9_fate 92 = .ok (.iadd, 1) := by decide +kernel
theorem dX9_fate_93 : decode cX9_fate 93 = .ok (.iload_n 2, 1) := by decide +kernel
theorem dX9_fate_94 : decode cX9_fate 94 = .ok (.iastore, 1) := by decide +kernel
theorem dX9_fate_95 : decode cX9_fate 95 = .ok (.aload_n 0, 1) := by decide +kernel
theorem dX9_fate_96 : decode cX9_fate 96 = .ok (.getfield 7, 3) := by decide +kernel
theorem dX9_fate_99 : decode cX9_fate 99 = .ok (.bipush 25, 2) := by decide +kernel
theorem dX9_fate_101 : decode cX9_fate 101 = .ok (.iload_n 1, 1) := by decide +kernel
theorem dX9_fate_102 : decode cX9_fate 102 = .ok (.iadd, 1) := by decide +kernel
theorem dX9_fate_103 : decode cX9_fate 103 = .ok (.iload_n 2, 1) := by decide +kernel
theorem dX9_fate_104 : decode cX9_fate 104 = .ok (.iconst 2, 1) := by decide +kernel
theorem dX9_fate_105 : decode cX9_fate 105 = .ok (.if_icmp .lt 7, 3) := by decide +kernel
theorem dX9_fate_108 : decode cX9_fate 108 = .ok (.iload_n 3, 1) := by decide +kernel
theorem dX9_fate_109 : decode cX9_fate 109 = .ok (.goto 4, 3) := by decide +kernel
theorem dX9_fate_112 : decode cX9_fate 112 = .ok (.iconst (-1), 1) := by decide +kernel
theorem dX9_fate_113 : decode cX9_fate 113 = .ok (.iastore, 1) := by decide +kernel
theorem dX9_fate_114 : decode cX9_fate 114 = .ok (.iload 4, 2) := by decide +kernel
theorem dX9_fate_116 : decode cX9_fate 116 = .ok (.ireturn, 1) := by decide +kernel
theorem dX9_dual_0 : decode cX9_dual 0 = .ok (.aload_n 0, 1) := by decide +kernel
theorem dX9_dual_1 : decode cX9_dual 1 = .ok (.invokevirtual 156, 3) := by decide +kernel
theorem dX9_dual_4 : decode cX9_dual 4 = .ok (.iconst 0, 1) := by decide +kernel
theorem dX9_dual_5 : decode cX9_dual 5 = .ok (.istore_n 1, 1) := by decide +kernel
theorem dX9_dual_6 : decode cX9_dual 6 = .ok (.iload_n 1, 1) := by decide +kernel
theorem dX9_dual_7 : decode cX9_dual 7 = .ok (.bipush 8, 2) := by decide +kernel
theorem dX9_dual_9 : decode cX9_dual 9 = .ok (.if_icmp .ge 20, 3) := by decide +kernel
theorem dX9_dual_12 : decode cX9_dual 12 = .ok (.aload_n 0, 1) := by decide +kernel
theorem dX9_dual_13 : decode cX9_dual 13 = .ok (.getfield 51, 3) := by decide +kernel
theorem dX9_dual_16 : decode cX9_dual 16 = .ok (.iload_n 1, 1) := by decide +kernel
theorem dX9_dual_17 : decode cX9_dual 17 = .ok (.aload_n 0, 1) := by decide +kernel
theorem dX9_dual_18 : decode cX9_dual 18 = .ok (.iload_n 1, 1) := by decide +kernel
theorem dX9_dual_19 : decode cX9_dual 19 = .ok (.invokevirtual 145, 3) := by decide +kernel
theorem dX9_dual_22 : decode cX9_dual 22 = .ok (.iastore, 1) := by decide +kernel
theorem dX9_dual_23 : decode cX9_dual 23 = .ok (.iinc 1 1, 3) := by decide +kernel
theorem dX9_dual_26 : decode cX9_dual 26 = .ok (.goto (-20), 3) := by decide +kernel
theorem dX9_dual_29 : decode cX9_dual 29 = .ok (.iconst 0, 1) := by decide +kernel
theorem dX9_dual_30 : decode cX9_dual 30 = .ok (.istore_n 1, 1) := by decide +kernel
theorem dX9_dual_31 : decode cX9_dual 31 = .ok (.iload_n 1, 1) := by decide +kernel
theorem dX9_dual_32 : decode cX9_dual 32 = .ok (.bipush 8, 2) := by decide +kernel
theorem dX9_dual_34 : decode cX9_dual 34 = .ok (.if_icmp .ge 24, 3) := by decide +kernel
theorem dX9_dual_37 : decode cX9_dual 37 = .ok (.aload_n 0, 1) := by decide +kernel
theorem dX9_dual_38 : decode cX9_dual 38 = .ok (.getfield 7, 3) := by decide +kernel
theorem dX9_dual_41 : decode cX9_dual 41 = .ok (.bipush 17, 2) := by decide +kernel
theorem dX9_dual_43 : decode cX9_dual 43 = .ok (.iload_n 1, 1) := by decide +kernel
theorem dX9_dual_44 : decode cX9_dual 44 = .ok (.iadd, 1) := by decide +kernel
theorem dX9_dual_45 : decode cX9_dual 45 = .ok (.aload_n 0, 1) := by decide +kernel
theorem dX9_dual_46 : decode cX9_dual 46 = .ok (.getfield 51, 3) := by decide +kernel
theorem dX9_dual_49 : decode cX9_dual 49 = .ok (.iload_n 1, 1) := by decide +kernel
theorem dX9_dual_50 : decode cX9_dual 50 = .ok (.iaload, 1) := by decide +kernel
theorem dX9_dual_51 : decode cX9_dual 51 = .ok (.iastore, 1) := by decide +kernel
theorem dX9_dual_52 : decode cX9_dual 52 = .ok (.iinc 1 1, 3) := by decide +kernel
theorem dX9_dual_55 : decode cX9_dual 55 = .ok (.goto (-24), 3) := by decide +kernel
theorem dX9_dual_58 : decode cX9_dual 58 = .ok (.aload_n 0, 1) := by decide +kernel
theorem dX9_dual_59 : decode cX9_dual 59 = .ok (.invokevirtual 171, 3) := by decide +kernel
theorem dX9_dual_62 : decode cX9_dual 62 = .ok (.ireturn, 1) := by decide +kernel
theorem dX9_clear_0 : decode cX9_clear 0 = .ok (.aload_n 0, 1) := by decide +kernel
theorem dX9_clear_1 : decode cX9_clear 1 = .ok (.invokevirtual 156, 3) := by decide +kernel
theorem dX9_clear_4 : decode cX9_clear 4 = .ok (.iconst 0, 1) := by decide +kernel
theorem dX9_clear_5 : decode cX9_clear 5 = .ok (.istore_n 1, 1) := by decide +kernel
theorem dX9_clear_6 : decode cX9_clear 6 = .ok (.iconst 0, 1) := by decide +kernel
theorem dX9_clear_7 : decode cX9_clear 7 = .ok (.istore_n 2, 1) := by decide +kernel
theorem dX9_clear_8 : decode cX9_clear 8 = .ok (.iload_n 2, 1) := by decide +kernel
theorem dX9_clear_9 : decode cX9_clear 9 = .ok (.bipush 8, 2) := by decide +kernel
theorem dX9_clear_11 : decode cX9_clear 11 = .ok (.if_icmp .ge 49, 3) := by decide +kernel
theorem dX9_clear_14 : decode cX9_clear 14 = .ok (.iload_n 1, 1) := by decide +kernel
theorem dX9_clear_15 : decode cX9_clear 15 = .ok (.aload_n 0, 1) := by decide +kernel
theorem dX9_clear_16 : decode cX9_clear 16 = .ok (.getfield 7, 3) := by decide +kernel
theorem dX9_clear_19 : decode cX9_clear 19 = .ok (.bipush 17, 2) := by decide +kernel
theorem dX9_clear_21 : decode cX9_clear 21 = .ok (.iload_n 2, 1) := by decide +kernel
theorem dX9_clear_22 : decode cX9_clear 22 = .ok (.iadd, 1) := by decide +kernel
theorem dX9_clear_23 : decode cX9_clear 23 = .ok (.iaload, 1) := by decide +kernel
theorem dX9_clear_24 : decode cX9_clear 24 = .ok (.ifCond .eq 7, 3) := by decide +kernel
theorem dX9_clear_27 : decode cX9_clear 27 = .ok (.iconst 1, 1) := by decide +kernel
theorem dX9_clear_28 : decode cX9_clear 28 = .ok (.goto 4, 3) := by decide +kernel
theorem dX9_clear_31 : decode cX9_clear 31 = .ok (.iconst 0, 1) := by decide +kernel
theorem dX9_clear_32 : decode cX9_clear 32 = .ok (.iadd, 1) := by decide +kernel
theorem dX9_clear_33 : decode cX9_clear 33 = .ok (.istore_n 1, 1) := by decide +kernel
theorem dX9_clear_34 : decode cX9_clear 34 = .ok (.aload_n 0, 1) := by decide +kernel
theorem dX9_clear_35 : decode cX9_clear 35 = .ok (.getfield 7, 3) := by decide +kernel
theorem dX9_clear_38 : decode cX9_clear 38 = .ok (.bipush 17, 2) := by decide +kernel
theorem dX9_clear_40 : decode cX9_clear 40 = .ok (.iload_n 2, 1) := by decide +kernel
theorem dX9_clear_41 : decode cX9_clear 41 = .ok (.iadd, 1) := by decide +kernel
theorem dX9_clear_42 : decode cX9_clear 42 = .ok (.iconst 0, 1) := by decide +kernel
theorem dX9_clear_43 : decode cX9_clear 43 = .ok (.iastore, 1) := by decide +kernel
theorem dX9_clear_44 : decode cX9_clear 44 = .ok (.aload_n 0, 1) := by decide +kernel
theorem dX9_clear_45 : decode cX9_clear 45 = .ok (.getfield 7, 3) := by decide +kernel
theorem dX9_clear_48 : decode cX9_clear 48 = .ok (.bipush 25, 2) := by decide +kernel
theorem dX9_clear_50 : decode cX9_clear 50 = .ok (.iload_n 2, 1) := by decide +kernel
theorem dX9_clear_51 : decode cX9_clear 51 = .ok (.iadd, 1) := by decide +kernel
theorem dX9_clear_52 : decode cX9_clear 52 = .ok (.iconst (-1), 1) := by decide +kernel
theorem dX9_clear_53 : decode cX9_clear 53 = .ok (.iastore, 1) := by decide +kernel
theorem dX9_clear_54 : decode cX9_clear 54 = .ok (.iinc 2 1, 3) := by decide +kernel
theorem dX9_clear_57 : decode cX9_clear 57 = .ok (.goto (-49), 3) := by decide +kernel
theorem dX9_clear_60 : decode cX9_clear 60 = .ok (.iload_n 1, 1) := by decide +kernel
theorem dX9_clear_61 : decode cX9_clear 61 = .ok (.ireturn, 1) := by decide +kernel
theorem dX9_draw_0 : decode cX9_draw 0 = .ok (.aload_n 0, 1) := by decide +kernel
theorem dX9_draw_1 : decode cX9_draw 1 = .ok (.getfield 221, 3) := by decide +kernel
theorem dX9_draw_4 : decode cX9_draw 4 = .ok (.i2l, 1) := by decide +kernel
theorem dX9_draw_5 : decode cX9_draw 5 = .ok (.ldc2_w 224, 3) := by decide +kernel
theorem dX9_draw_8 : decode cX9_draw 8 = .ok (.lmul, 1) := by decide +kernel
theorem dX9_draw_9 : decode cX9_draw 9 = .ok (.ldc2_w 226, 3) := by decide +kernel
theorem dX9_draw_12 : decode cX9_draw 12 = .ok (.ladd, 1) := by decide +kernel
theorem dX9_draw_13 : decode cX9_draw 13 = .ok (.ldc2_w 228, 3) := by decide +kernel
theorem dX9_draw_16 : decode cX9_draw 16 = .ok (.lrem, 1) := by decide +kernel
theorem dX9_draw_17 : decode cX9_draw 17 = .ok (.lstore_n 2, 1) := by decide +kernel
theorem dX9_draw_18 : decode cX9_draw 18 = .ok (.aload_n 0, 1) := by decide +kernel
theorem dX9_draw_19 : decode cX9_draw 19 = .ok (.lload_n 2, 1) := by decide +kernel
theorem dX9_draw_20 : decode cX9_draw 20 = .ok (.l2i, 1) := by decide +kernel
theorem dX9_draw_21 : decode cX9_draw 21 = .ok (.putfield 221, 3) := by decide +kernel
theorem dX9_draw_24 : decode cX9_draw 24 = .ok (.aload_n 0, 1) := by decide +kernel
theorem dX9_draw_25 : decode cX9_draw 25 = .ok (.getfield 221, 3) := by decide +kernel
theorem dX9_draw_28 : decode cX9_draw 28 = .ok (.ldc 230, 2) := by decide +kernel
theorem dX9_draw_30 : decode cX9_draw 30 = .ok (.idiv, 1) := by decide +kernel
theorem dX9_draw_31 : decode cX9_draw 31 = .ok (.iload_n 1, 1) := by decide +kernel
theorem dX9_draw_32 : decode cX9_draw 32 = .ok (.irem, 1) := by decide +kernel
theorem dX9_draw_33 : decode cX9_draw 33 = .ok (.ireturn, 1) := by decide +kernel
theorem dX9_put_0 : decode cX9_put 0 = .ok (.aload_n 0, 1) := by decide +kernel
theorem dX9_put_1 : decode cX9_put 1 = .ok (.iload_n 1, 1) := by decide +kernel
theorem dX9_put_2 : decode cX9_put 2 = .ok (.invokevirtual 214, 3) := by decide +kernel
theorem dX9_put_5 : decode cX9_put 5 = .ok (.istore_n 3, 1) := by decide +kernel
theorem dX9_put_6 : decode cX9_put 6 = .ok (.aload_n 0, 1) := by decide +kernel
theorem dX9_put_7 : decode cX9_put 7 = .ok (.iconst 0, 1) := by decide +kernel
theorem dX9_put_8 : decode cX9_put 8 = .ok (.putfield 83, 3) := by decide +kernel
theorem dX9_put_11 : decode cX9_put 11 = .ok (.aload_n 0, 1) := by decide +kernel
theorem dX9_put_12 : decode cX9_put 12 = .ok (.iconst 0, 1) := by decide +kernel
theorem dX9_put_13 : decode cX9_put 13 = .ok (.iload_n 3, 1) := by decide +kernel
theorem dX9_put_14 : decode cX9_put 14 = .ok (.invokevirtual 86, 3) := by decide +kernel
theorem dX9_put_17 : decode cX9_put 17 = .ok (.aload_n 0, 1) := by decide +kernel
theorem dX9_put_18 : decode cX9_put 18 = .ok (.iconst 1, 1) := by decide +kernel
theorem dX9_put_19 : decode cX9_put 19 = .ok (.iload_n 2, 1) := by decide +kernel
theorem dX9_put_20 : decode cX9_put 20 = .ok (.iadd, 1) := by decide +kernel
theorem dX9_put_21 : decode cX9_put 21 = .ok (.invokevirtual 89, 3) := by decide +kernel
theorem dX9_put_24 : decode cX9_put 24 = .ok (.aload_n 0, 1) := by decide +kernel
theorem dX9_put_25 : decode cX9_put 25 = .ok (.iconst 0, 1) := by decide +kernel
theorem dX9_put_26 : decode cX9_put 26 = .ok (.invokevirtual 89, 3) := by decide +kernel
theorem dX9_put_29 : decode cX9_put 29 = .ok (.aload_n 0, 1) := by decide +kernel
theorem dX9_put_30 : decode cX9_put 30 = .ok (.iload_n 3, 1) := by decide +kernel
theorem dX9_put_31 : decode cX9_put 31 = .ok (.aload_n 0, 1) := by decide +kernel
theorem dX9_put_32 : decode cX9_put 32 = .ok (.getfield 58, 3) := by decide +kernel
theorem dX9_put_35 : decode cX9_put 35 = .ok (.invokevirtual 86, 3) := by decide +kernel
theorem dX9_put_38 : decode cX9_put 38 = .ok (.aload_n 0, 1) := by decide +kernel
theorem dX9_put_39 : decode cX9_put 39 = .ok (.invokevirtual 93, 3) := by decide +kernel
theorem dX9_put_42 : decode cX9_put 42 = .ok (.return_, 1) := by decide +kernel
theorem dX9_chance_0 : decode cX9_chance 0 = .ok (.aload_n 0, 1) := by decide +kernel
theorem dX9_chance_1 : decode cX9_chance 1 = .ok (.iconst 5, 1) := by decide +kernel
theorem dX9_chance_2 : decode cX9_chance 2 = .ok (.invokevirtual 231, 3) := by decide +kernel
theorem dX9_chance_5 : decode cX9_chance 5 = .ok (.iconst 1, 1) := by decide +kernel
theorem dX9_chance_6 : decode cX9_chance 6 = .ok (.iadd, 1) := by decide +kernel
theorem dX9_chance_7 : decode cX9_chance 7 = .ok (.istore_n 1, 1) := by decide +kernel
theorem dX9_chance_8 : decode cX9_chance 8 = .ok (.aload_n 0, 1) := by decide +kernel
theorem dX9_chance_9 : decode cX9_chance 9 = .ok (.iconst 0, 1) := by decide +kernel
theorem dX9_chance_10 : decode cX9_chance 10 = .ok (.iconst 1, 1) := by decide +kernel
theorem dX9_chance_11 : decode cX9_chance 11 = .ok (.invokevirtual 64, 3) := by decide +kernel
theorem dX9_chance_14 : decode cX9_chance 14 = .ok (.aload_n 0, 1) := by decide +kernel
theorem dX9_chance_15 : decode cX9_chance 15 = .ok (.iconst 0, 1) := by decide +kernel
theorem dX9_chance_16 : decode cX9_chance 16 = .ok (.aload_n 0, 1) := by decide +kernel
theorem dX9_chance_17 : decode cX9_chance 17 = .ok (.iconst 2, 1) := by decide +kernel
theorem dX9_chance_18 : decode cX9_chance 18 = .ok (.invokevirtual 231, 3) := by decide +kernel
theorem dX9_chance_21 : decode cX9_chance 21 = .ok (.invokevirtual 234, 3) := by decide +kernel
theorem dX9_chance_24 : decode cX9_chance 24 = .ok (.iconst 1, 1) := by decide +kernel
theorem dX9_chance_25 : decode cX9_chance 25 = .ok (.istore_n 2, 1) := by decide +kernel
theorem dX9_chance_26 : decode cX9_chance 26 = .ok (.iload_n 2, 1) := by decide +kernel
theorem dX9_chance_27 : decode cX9_chance 27 = .ok (.iload_n 1, 1) := by decide +kernel
theorem dX9_chance_28 : decode cX9_chance 28 = .ok (.if_icmp .ge 27, 3) := by decide +kernel
theorem dX9_chance_31 : decode cX9_chance 31 = .ok (.aload_n 0, 1) := by decide +kernel
theorem dX9_chance_32 : decode cX9_chance 32 = .ok (.iload_n 2, 1) := by decide +kernel
theorem dX9_chance_33 : decode cX9_chance 33 = .ok (.iconst 1, 1) := by decide +kernel
theorem dX9_chance_34 : decode cX9_chance 34 = .ok (.iadd, 1) := by decide +kernel
theorem dX9_chance_35 : decode cX9_chance 35 = .ok (.invokevirtual 231, 3) := by decide +kernel
theorem dX9_chance_38 : decode cX9_chance 38 = .ok (.istore_n 3, 1) := by decide +kernel
theorem dX9_chance_39 : decode cX9_chance 39 = .ok (.aload_n 0, 1) := by decide +kernel
theorem dX9_chance_40 : decode cX9_chance 40 = .ok (.iload_n 3, 1) := by decide +kernel
theorem dX9_chance_41 : decode cX9_chance 41 = .ok (.aload_n 0, 1) := by decide +kernel
theorem dX9_chance_42 : decode cX9_chance 42 = .ok (.iconst 2, 1) := by decide +kernel
theorem dX9_chance_43 : decode cX9_chance 43 = .ok (.invokevirtual 231, 3) := by decide +kernel
theorem dX9_chance_46 : decode cX9_chance 46 = .ok (.invokevirtual 234, 3) := by decide +kernel
theorem dX9_chance_49 : decode cX9_chance 49 = .ok (.iinc 2 1, 3) := by decide +kernel
theorem dX9_chance_52 : decode cX9_chance 52 = .ok (.goto (-26), 3) := by decide +kernel
theorem dX9_chance_55 : decode cX9_chance 55 = .ok (.aload_n 0, 1) := by decide +kernel
theorem dX9_chance_56 : decode cX9_chance 56 = .ok (.invokevirtual 156, 3) := by decide +kernel
theorem dX9_chance_59 : decode cX9_chance 59 = .ok (.aload_n 0, 1) := by decide +kernel
theorem dX9_chance_60 : decode cX9_chance 60 = .ok (.invokevirtual 159, 3) := by decide +kernel
theorem dX9_chance_63 : decode cX9_chance 63 = .ok (.istore_n 2, 1) := by decide +kernel
theorem dX9_chance_64 : decode cX9_chance 64 = .ok (.return_, 1) := by decide +kernel
theorem dX9_drift_0 : decode cX9_drift 0 = .ok (.iload_n 1, 1) := by decide +kernel
theorem dX9_drift_1 : decode cX9_drift 1 = .ok (.iconst 1, 1) := by decide +kernel
theorem dX9_drift_2 : decode cX9_drift 2 = .ok (.bipush 8, 2) := by decide +kernel
theorem dX9_drift_4 : decode cX9_drift 4 = .ok (.invokestatic 54, 3) := by decide +kernel
theorem dX9_drift_7 : decode cX9_drift 7 = .ok (.ifCond .ne 6, 3) := by decide +kernel
theorem dX9_drift_10 : decode cX9_drift 10 = .ok (.ldc 148, 2) := by decide +kernel
theorem dX9_drift_12 : decode cX9_drift 12 = .ok (.ireturn, 1) := by decide +kernel
theorem dX9_drift_13 : decode cX9_drift 13 = .ok (.iconst 0, 1) := by decide +kernel
theorem dX9_drift_14 : decode cX9_drift 14 = .ok (.istore_n 2, 1) := by decide +kernel
theorem dX9_drift_15 : decode cX9_drift 15 = .ok (.iload_n 2, 1) := by decide +kernel
theorem dX9_drift_16 : decode cX9_drift 16 = .ok (.iload_n 1, 1) := by decide +kernel
theorem dX9_drift_17 : decode cX9_drift 17 = .ok (.if_icmp .ge 24, 3) := by decide +kernel
theorem dX9_drift_20 : decode cX9_drift 20 = .ok (.aload_n 0, 1) := by decide +kernel
theorem dX9_drift_21 : decode cX9_drift 21 = .ok (.getfield 7, 3) := by decide +kernel
theorem dX9_drift_24 : decode cX9_drift 24 = .ok (.iconst 0, 1) := by decide +kernel
theorem dX9_drift_25 : decode cX9_drift 25 = .ok (.iaload, 1) := by decide +kernel
theorem dX9_drift_26 : decode cX9_drift 26 = .ok (.bipush 8, 2) := by decide +kernel
theorem dX9_drift_28 : decode cX9_drift 28 = .ok (.if_icmp .ge 13, 3) := by decide +kernel
theorem dX9_drift_31 : decode cX9_drift 31 = .ok (.aload_n 0, 1) := by decide +kernel
theorem dX9_drift_32 : decode cX9_drift 32 = .ok (.invokevirtual 237, 3) := by decide +kernel
theorem dX9_drift_35 : decode cX9_drift 35 = .ok (.iinc 2 1, 3) := by decide +kernel
theorem dX9_drift_38 : decode cX9_drift 38 = .ok (.goto (-23), 3) := by decide +kernel
theorem dX9_drift_41 : decode cX9_drift 41 = .ok (.aload_n 0, 1) := by decide +kernel
theorem dX9_drift_42 : decode cX9_drift 42 = .ok (.getfield 7, 3) := by decide +kernel
theorem dX9_drift_45 : decode cX9_drift 45 = .ok (.iconst 0, 1) := by decide +kernel
theorem dX9_drift_46 : decode cX9_drift 46 = .ok (.iaload, 1) := by decide +kernel
theorem dX9_drift_47 : decode cX9_drift 47 = .ok (.ireturn, 1) := by decide +kernel
theorem dX9_undo_0 : decode cX9_undo 0 = .ok (.iload_n 1, 1) := by decide +kernel
theorem dX9_undo_1 : decode cX9_undo 1 = .ok (.iconst 1, 1) := by decide +kernel
theorem dX9_undo_2 : decode cX9_undo 2 = .ok (.bipush 20, 2) := by decide +kernel
theorem dX9_undo_4 : decode cX9_undo 4 = .ok (.invokestatic 54, 3) := by decide +kernel
theorem dX9_undo_7 : decode cX9_undo 7 = .ok (.ifCond .ne 6, 3) := by decide +kernel
theorem dX9_undo_10 : decode cX9_undo 10 = .ok (.ldc 148, 2) := by decide +kernel
theorem dX9_undo_12 : decode cX9_undo 12 = .ok (.ireturn, 1) := by decide +kernel
theorem dX9_undo_13 : decode cX9_undo 13 = .ok (.iload_n 1, 1) := by decide +kernel
theorem dX9_undo_14 : decode cX9_undo 14 = .ok (.aload_n 0, 1) := by decide +kernel
theorem dX9_undo_15 : decode cX9_undo 15 = .ok (.getfield 183, 3) := by decide +kernel
theorem dX9_undo_18 : decode cX9_undo 18 = .ok (.if_icmp .le 6, 3) := by decide +kernel
theorem dX9_undo_21 : decode cX9_undo 21 = .ok (.ldc 217, 2) := by decide +kernel
theorem dX9_undo_23 : decode cX9_undo 23 = .ok (.ireturn, 1) := by decide +kernel
theorem dX9_undo_24 : decode cX9_undo 24 = .ok (.aload_n 0, 1) := by decide +kernel
theorem dX9_undo_25 : decode cX9_undo 25 = .ok (.dup, 1) := by decide +kernel
theorem dX9_undo_26 : decode cX9_undo 26 = .ok (.getfield 183, 3) := by decide +kernel
theorem dX9_undo_29 : decode cX9_undo 29 = .ok (.iload_n 1, 1) := by decide +kernel
theorem dX9_undo_30 : decode cX9_undo 30 = .ok (.isub, 1) := by decide +kernel
theorem dX9_undo_31 : decode cX9_undo 31 = .ok (.putfield 183, 3) := by decide +kernel
theorem dX9_undo_34 : decode cX9_undo 34 = .ok (.aload_n 0, 1) := by decide +kernel
theorem dX9_undo_35 : decode cX9_undo 35 = .ok (.bipush 34, 2) := by decide +kernel
theorem dX9_undo_37 : decode cX9_undo 37 = .ok (.aload_n 0, 1) := by decide +kernel
theorem dX9_undo_38 : decode cX9_undo 38 = .ok (.getfield 183, 3) := by decide +kernel
theorem dX9_undo_41 : decode cX9_undo 41 = .ok (.iconst 1, 1) := by decide +kernel
theorem dX9_undo_42 : decode cX9_undo 42 = .ok (.iadd, 1) := by decide +kernel
theorem dX9_undo_43 : decode cX9_undo 43 = .ok (.imul, 1) := by decide +kernel
theorem dX9_undo_44 : decode cX9_undo 44 = .ok (.iconst 0, 1) := by decide +kernel
theorem dX9_undo_45 : decode cX9_undo 45 = .ok (.invokevirtual 208, 3) := by decide +kernel
theorem dX9_undo_48 : decode cX9_undo 48 = .ok (.aload_n 0, 1) := by decide +kernel
theorem dX9_undo_49 : decode cX9_undo 49 = .ok (.getfield 7, 3) := by decide +kernel
theorem dX9_undo_52 : decode cX9_undo 52 = .ok (.iconst 0, 1) := by decide +kernel
theorem dX9_undo_53 : decode cX9_undo 53 = .ok (.iaload, 1) := by decide +kernel
theorem dX9_undo_54 : decode cX9_undo 54 = .ok (.ireturn, 1) := by decide +kernel
theorem dX9_write_0 : decode cX9_write 0 = .ok (.aload_n 0, 1) := by decide +kernel
theorem dX9_write_1 : decode cX9_write 1 = .ok (.iload_n 1, 1) := by decide +kernel
theorem dX9_write_2 : decode cX9_write 2 = .ok (.invokevirtual 165, 3) := by decide +kernel
theorem dX9_write_5 : decode cX9_write 5 = .ok (.ifCond .ne 6, 3) := by decide +kernel
theorem dX9_write_8 : decode cX9_write 8 = .ok (.ldc 189, 2) := by decide +kernel
theorem dX9_write_10 : decode cX9_write 10 = .ok (.ireturn, 1) := by decide +kernel
theorem dX9_write_11 : decode cX9_write 11 = .ok (.aload_n 0, 1) := by decide +kernel
theorem dX9_write_12 : decode cX9_write 12 = .ok (.getfield 162, 3) := by decide +kernel
theorem dX9_write_15 : decode cX9_write 15 = .ok (.bipush 20, 2) := by decide +kernel
theorem dX9_write_17 : decode cX9_write 17 = .ok (.if_icmp .ne 6, 3) := by decide +kernel
theorem dX9_write_20 : decode cX9_write 20 = .ok (.ldc 152, 2) := by decide +kernel
theorem dX9_write_22 : decode cX9_write 22 = .ok (.ireturn, 1) := by decide +kernel
theorem dX9_write_23 : decode cX9_write 23 = .ok (.aload_n 0, 1) := by decide +kernel
theorem dX9_write_24 : decode cX9_write 24 = .ok (.getfield 23, 3) := by decide +kernel
theorem dX9_write_27 : decode cX9_write 27 = .ok (.aload_n 0, 1) := by decide +kernel
theorem dX9_write_28 : decode cX9_write 28 = .ok (.getfield 162, 3) := by decide +kernel
theorem dX9_write_31 : decode cX9_write 31 = .ok (.iload_n 1, 1) := by decide +kernel
theorem dX9_write_32 : decode cX9_write 32 = .ok (.iastore, 1) := by decide +kernel
theorem dX9_write_33 : decode cX9_write 33 = .ok (.aload_n 0, 1) := by decide +kernel
theorem dX9_write_34 : decode cX9_write 34 = .ok (.getfield 26, 3) := by decide +kernel
theorem dX9_write_37 : decode cX9_write 37 = .ok (.aload_n 0, 1) := by decide +kernel
theorem dX9_write_38 : decode cX9_write 38 = .ok (.getfield 162, 3) := by decide +kernel
theorem dX9_write_41 : decode cX9_write 41 = .ok (.iload_n 2, 1) := by decide +kernel
theorem dX9_write_42 : decode cX9_write 42 = .ok (.iastore, 1) := by decide +kernel
theorem dX9_write_43 : decode cX9_write 43 = .ok (.aload_n 0, 1) := by decide +kernel
theorem dX9_write_44 : decode cX9_write 44 = .ok (.dup, 1) := by decide +kernel
theorem dX9_write_45 : decode cX9_write 45 = .ok (.getfield 162, 3) := by decide +kernel
theorem dX9_write_48 : decode cX9_write 48 = .ok (.iconst 1, 1) := by decide +kernel
theorem dX9_write_49 : decode cX9_write 49 = .ok (.iadd, 1) := by decide +kernel
theorem dX9_write_50 : decode cX9_write 50 = .ok (.putfield 162, 3) := by decide +kernel
theorem dX9_write_53 : decode cX9_write 53 = .ok (.aload_n 0, 1) := by decide +kernel
theorem dX9_write_54 : decode cX9_write 54 = .ok (.getfield 162, 3) := by decide +kernel
theorem dX9_write_57 : decode cX9_write 57 = .ok (.ireturn, 1) := by decide +kernel
theorem dX9_tear_0 : decode cX9_tear 0 = .ok (.aload_n 0, 1) := by decide +kernel
theorem dX9_tear_1 : decode cX9_tear 1 = .ok (.getfield 162, 3) := by decide +kernel
theorem dX9_tear_4 : decode cX9_tear 4 = .ok (.istore_n 1, 1) := by decide +kernel
theorem dX9_tear_5 : decode cX9_tear 5 = .ok (.aload_n 0, 1) := by decide +kernel
theorem dX9_tear_6 : decode cX9_tear 6 = .ok (.iconst 0, 1) := by decide +kernel
theorem dX9_tear_7 : decode cX9_tear 7 = .ok (.putfield 162, 3) := by decide +kernel
theorem dX9_tear_10 : decode cX9_tear 10 = .ok (.iload_n 1, 1) := by decide +kernel
theorem dX9_tear_11 : decode cX9_tear 11 = .ok (.ireturn, 1) := by decide +kernel
theorem dX9_seed_0 : decode cX9_seed 0 = .ok (.iload_n 1, 1) := by decide +kernel
theorem dX9_seed_1 : decode cX9_seed 1 = .ok (.ifCond .ge 6, 3) := by decide +kernel
theorem dX9_seed_4 : decode cX9_seed 4 = .ok (.ldc 148, 2) := by decide +kernel
theorem dX9_seed_6 : decode cX9_seed 6 = .ok (.ireturn, 1) := by decide +kernel
theorem dX9_seed_7 : decode cX9_seed 7 = .ok (.aload_n 0, 1) := by decide +kernel
theorem dX9_seed_8 : decode cX9_seed 8 = .ok (.getfield 221, 3) := by decide +kernel
theorem dX9_seed_11 : decode cX9_seed 11 = .ok (.istore_n 2, 1) := by decide +kernel
theorem dX9_seed_12 : decode cX9_seed 12 = .ok (.aload_n 0, 1) := by decide +kernel
theorem dX9_seed_13 : decode cX9_seed 13 = .ok (.iload_n 1, 1) := by decide +kernel
theorem dX9_seed_14 : decode cX9_seed 14 = .ok (.putfield 221, 3) := by decide +kernel
theorem dX9_seed_17 : decode cX9_seed 17 = .ok (.iload_n 2, 1) := by decide +kernel
theorem dX9_seed_18 : decode cX9_seed 18 = .ok (.ireturn, 1) := by decide +kernel
theorem dX9_keep_0 : decode cX9_keep 0 = .ok (.iload_n 1, 1) := by decide +kernel
theorem dX9_keep_1 : decode cX9_keep 1 = .ok (.iconst 0, 1) := by decide +kernel
theorem dX9_keep_2 : decode cX9_keep 2 = .ok (.iconst 1, 1) := by decide +kernel
theorem dX9_keep_3 : decode cX9_keep 3 = .ok (.invokestatic 54, 3) := by decide +kernel
theorem dX9_keep_6 : decode cX9_keep 6 = .ok (.ifCond .ne 6, 3) := by decide +kernel
theorem dX9_keep_9 : decode cX9_keep 9 = .ok (.ldc 189, 2) := by decide +kernel
theorem dX9_keep_11 : decode cX9_keep 11 = .ok (.ireturn, 1) := by decide +kernel
theorem dX9_keep_12 : decode cX9_keep 12 = .ok (.aload_n 0, 1) := by decide +kernel
theorem dX9_keep_13 : decode cX9_keep 13 = .ok (.iconst 0, 1) := by decide +kernel
theorem dX9_keep_14 : decode cX9_keep 14 = .ok (.sipush 714, 3) := by decide +kernel
theorem dX9_keep_17 : decode cX9_keep 17 = .ok (.bipush 34, 2) := by decide +kernel
theorem dX9_keep_19 : decode cX9_keep 19 = .ok (.iload_n 1, 1) := by decide +kernel
theorem dX9_keep_20 : decode cX9_keep 20 = .ok (.imul, 1) := by decide +kernel
theorem dX9_keep_21 : decode cX9_keep 21 = .ok (.iadd, 1) := by decide +kernel
theorem dX9_keep_22 : decode cX9_keep 22 = .ok (.invokevirtual 208, 3) := by decide +kernel
theorem dX9_keep_25 : decode cX9_keep 25 = .ok (.aload_n 0, 1) := by decide +kernel
theorem dX9_keep_26 : decode cX9_keep 26 = .ok (.getfield 13, 3) := by decide +kernel
theorem dX9_keep_29 : decode cX9_keep 29 = .ok (.iload_n 1, 1) := by decide +kernel
theorem dX9_keep_30 : decode cX9_keep 30 = .ok (.aload_n 0, 1) := by decide +kernel
theorem dX9_keep_31 : decode cX9_keep 31 = .ok (.getfield 221, 3) := by decide +kernel
theorem dX9_keep_34 : decode cX9_keep 34 = .ok (.iastore, 1) := by decide +kernel
theorem dX9_keep_35 : decode cX9_keep 35 = .ok (.aload_n 0, 1) := by decide +kernel
theorem dX9_keep_36 : decode cX9_keep 36 = .ok (.dup, 1) := by decide +kernel
theorem dX9_keep_37 : decode cX9_keep 37 = .ok (.getfield 240, 3) := by decide +kernel
theorem dX9_keep_40 : decode cX9_keep 40 = .ok (.iconst 1, 1) := by decide +kernel
theorem dX9_keep_41 : decode cX9_keep 41 = .ok (.iload_n 1, 1) := by decide +kernel
theorem dX9_keep_42 : decode cX9_keep 42 = .ok (.ishl, 1) := by decide +kernel
theorem dX9_keep_43 : decode cX9_keep 43 = .ok (.ior, 1) := by decide +kernel
theorem dX9_keep_44 : decode cX9_keep 44 = .ok (.putfield 240, 3) := by decide +kernel
theorem dX9_keep_47 : decode cX9_keep 47 = .ok (.aload_n 0, 1) := by decide +kernel
theorem dX9_keep_48 : decode cX9_keep 48 = .ok (.iconst 0, 1) := by decide +kernel
theorem dX9_keep_49 : decode cX9_keep 49 = .ok (.putfield 183, 3) := by decide +kernel
theorem dX9_keep_52 : decode cX9_keep 52 = .ok (.iconst 1, 1) := by decide +kernel
theorem dX9_keep_53 : decode cX9_keep 53 = .ok (.ireturn, 1) := by decide +kernel
theorem dX9_goBack_0 : decode cX9_goBack 0 = .ok (.iload_n 1, 1) := by decide +kernel
theorem dX9_goBack_1 : decode cX9_goBack 1 = .ok (.iconst 0, 1) := by decide +kernel
theorem dX9_goBack_2 : decode cX9_goBack 2 = .ok (.iconst 1, 1) := by decide +kernel
theorem dX9_goBack_3 : decode cX9_goBack 3 = .ok (.invokestatic 54, 3) := by decide +kernel
theorem dX9_goBack_6 : decode cX9_goBack 6 = .ok (.ifCond .ne 6, 3) := by decide +kernel
theorem dX9_goBack_9 : decode cX9_goBack 9 = .ok (.ldc 189, 2) := by decide +kernel
theorem dX9_goBack_11 : decode cX9_goBack 11 = .ok (.ireturn, 1) := by decide +kernel
theorem dX9_goBack_12 : decode cX9_goBack 12 = .ok (.aload_n 0, 1) := by decide +kernel
theorem dX9_goBack_13 : decode cX9_goBack 13 = .ok (.getfield 240, 3) := by decide +kernel
theorem dX9_goBack_16 : decode cX9_goBack 16 = .ok (.iload_n 1, 1) := by decide +kernel
theorem dX9_goBack_17 : decode cX9_goBack 17 = .ok (.ishr, 1) := by decide +kernel
theorem dX9_goBack_18 : decode cX9_goBack 18 = .ok (.iconst 1, 1) := by decide +kernel
theorem dX9_goBack_19 : decode cX9_goBack 19 = .ok (.iand, 1) := by decide +kernel
theorem dX9_goBack_20 : decode cX9_goBack 20 = .ok (.ifCond .ne 6, 3) := by decide +kernel
theorem dX9_goBack_23 : decode cX9_goBack 23 = .ok (.ldc 217, 2) := by decide +kernel
theorem dX9_goBack_25 : decode cX9_goBack 25 = .ok (.ireturn, 1) := by decide +kernel
theorem dX9_goBack_26 : decode cX9_goBack 26 = .ok (.aload_n 0, 1) := by decide +kernel
theorem dX9_goBack_27 : decode cX9_goBack 27 = .ok (.sipush 714, 3) := by decide +kernel
theorem dX9_goBack_30 : decode cX9_goBack 30 = .ok (.bipush 34, 2) := by decide +kernel
theorem dX9_goBack_32 : decode cX9_goBack 32 = .ok (.iload_n 1, 1) := by decide +kernel
theorem dX9_goBack_33 : decode cX9_goBack 33 = .ok (.imul, 1) := by decide +kernel
theorem dX9_goBack_34 : decode cX9_goBack 34 = .ok (.iadd, 1) := by decide +kernel
theorem dX9_goBack_35 : decode cX9_goBack 35 = .ok (.iconst 0, 1) := by decide +kernel
theorem dX9_goBack_36 : decode cX9_goBack 36 = .ok (.invokevirtual 208, 3) := by decide +kernel
theorem dX9_goBack_39 : decode cX9_goBack 39 = .ok (.aload_n 0, 1) := by decide +kernel
theorem dX9_goBack_40 : decode cX9_goBack 40 = .ok (.aload_n 0, 1) := by decide +kernel
theorem dX9_goBack_41 : decode cX9_goBack 41 = .ok (.getfield 13, 3) := by decide +kernel
theorem dX9_goBack_44 : decode cX9_goBack 44 = .ok (.iload_n 1, 1) := by decide +kernel
theorem dX9_goBack_45 : decode cX9_goBack 45 = .ok (.iaload, 1) := by decide +kernel
theorem dX9_goBack_46 : decode cX9_goBack 46 = .ok (.putfield 221, 3) := by decide +kernel
theorem dX9_goBack_49 : decode cX9_goBack 49 = .ok (.aload_n 0, 1) := by decide +kernel
theorem dX9_goBack_50 : decode cX9_goBack 50 = .ok (.iconst 0, 1) := by decide +kernel
theorem dX9_goBack_51 : decode cX9_goBack 51 = .ok (.putfield 183, 3) := by decide +kernel
theorem dX9_goBack_54 : decode cX9_goBack 54 = .ok (.iconst 1, 1) := by decide +kernel
theorem dX9_goBack_55 : decode cX9_goBack 55 = .ok (.ireturn, 1) := by decide +kernel
theorem dL_law_0 : decode cL_law 0 = .ok (.new 7, 3) := by decide +kernel
theorem dL_law_3 : decode cL_law 3 = .ok (.dup, 1) := by decide +kernel
theorem dL_law_4 : decode cL_law 4 = .ok (.invokespecial 9, 3) := by decide +kernel
theorem dL_law_7 : decode cL_law 7 = .ok (.astore_n 1, 1) := by decide +kernel
theorem dL_law_8 : decode cL_law 8 = .ok (.new 10, 3) := by decide +kernel
theorem dL_law_11 : decode cL_law 11 = .ok (.dup, 1) := by decide +kernel
theorem dL_law_12 : decode cL_law 12 = .ok (.invokespecial 12, 3) := by decide +kernel
theorem dL_law_15 : decode cL_law 15 = .ok (.astore_n 2, 1) := by decide +kernel
theorem dL_law_16 : decode cL_law 16 = .ok (.iconst 0, 1) := by decide +kernel
theorem dL_law_17 : decode cL_law 17 = .ok (.istore_n 3, 1) := by decide +kernel
theorem dL_law_18 : decode cL_law 18 = .ok (.iload_n 3, 1) := by decide +kernel
theorem dL_law_19 : decode cL_law 19 = .ok (.aload_n 0, 1) := by decide +kernel
theorem dL_law_20 : decode cL_law 20 = .ok (.arraylength, 1) := by decide +kernel
theorem dL_law_21 : decode cL_law 21 = .ok (.iconst 4, 1) := by decide +kernel
theorem dL_law_22 : decode cL_law 22 = .ok (.isub, 1) := by decide +kernel
theorem dL_law_23 : decode cL_law 23 = .ok (.if_icmp .gt 721, 3) := by decide +kernel
theorem dL_law_26 : decode cL_law 26 = .ok (.aload_n 0, 1) := by decide +kernel
theorem dL_law_27 : decode cL_law 27 = .ok (.iload_n 3, 1) := by decide +kernel
theorem dL_law_28 : decode cL_law 28 = .ok (.iaload, 1) := by decide +kernel
theorem dL_law_29 : decode cL_law 29 = .ok (.bipush 31, 2) := by decide +kernel
theorem dL_law_31 : decode cL_law 31 = .ok (.iand, 1) := by decide +kernel
theorem dL_law_32 : decode cL_law 32 = .ok (.tableswitch 706 0 23 #[112, 135, 148, 161, 184, 217, 250, 283, 307, 331, 374, 407, 430, 453, 476, 519, 532, 545, 568, 591, 624, 637, 660, 683], 112) := by decide +kernel
theorem dL_law_144 : decode cL_law 144 = .ok (.aload_n 1, 1) := by decide +kernel
theorem dL_law_145 : decode cL_law 145 = .ok (.aload_n 0, 1) := by decide +kernel
theorem dL_law_146 : decode cL_law 146 = .ok (.iload_n 3, 1) := by decide +kernel
theorem dL_law_147 : decode cL_law 147 = .ok (.iconst 1, 1) := by decide +kernel
theorem dL_law_148 : decode cL_law 148 = .ok (.iadd, 1) := by decide +kernel
theorem dL_law_149 : decode cL_law 149 = .ok (.iaload, 1) := by decide +kernel
theorem dL_law_150 : decode cL_law 150 = .ok (.invokevirtual 13, 3) := by decide +kernel
theorem dL_law_153 : decode cL_law 153 = .ok (.aload_n 2, 1) := by decide +kernel
theorem dL_law_154 : decode cL_law 154 = .ok (.aload_n 0, 1) := by decide +kernel
theorem dL_law_155 : decode cL_law 155 = .ok (.iload_n 3, 1) := by decide +kernel
theorem dL_law_156 : decode cL_law 156 = .ok (.iconst 1, 1) := by decide +kernel
theorem dL_law_157 : decode cL_law 157 = .ok (.iadd, 1) := by decide +kernel
theorem dL_law_158 : decode cL_law 158 = .ok (.iaload, 1) := by decide +kernel
theorem dL_law_159 : decode cL_law 159 = .ok (.invokevirtual 17, 3) := by decide +kernel
theorem dL_law_162 : decode cL_law 162 = .ok (.if_icmp .eq 576, 3) := by decide +kernel
theorem dL_law_165 : decode cL_law 165 = .ok (.iconst 0, 1) := by decide +kernel
theorem dL_law_166 : decode cL_law 166 = .ok (.ireturn, 1) := by decide +kernel
theorem dL_law_167 : decode cL_law 167 = .ok (.aload_n 1, 1) := by decide +kernel
theorem dL_law_168 : decode cL_law 168 = .ok (.invokevirtual 18, 3) := by decide +kernel
theorem dL_law_171 : decode cL_law 171 = .ok (.aload_n 2, 1) := by decide +kernel
theorem dL_law_172 : decode cL_law 172 = .ok (.invokevirtual 22, 3) := by decide +kernel
theorem dL_law_175 : decode cL_law 175 = .ok (.if_icmp .eq 563, 3) := by decide +kernel
theorem dL_law_178 : decode cL_law 178 = .ok (.iconst 0, 1) := by decide +kernel
theorem dL_law_179 : decode cL_law 179 = .ok (.ireturn, 1) := by decide +kernel
theorem dL_law_180 : decode cL_law 180 = .ok (.aload_n 1, 1) := by decide +kernel
theorem dL_law_181 : decode cL_law 181 = .ok (.invokevirtual 23, 3) := by decide +kernel
theorem dL_law_184 : decode cL_law 184 = .ok (.aload_n 2, 1) := by decide +kernel
theorem dL_law_185 : decode cL_law 185 = .ok (.invokevirtual 26, 3) := by decide +kernel
theorem dL_law_188 : decode cL_law 188 = .ok (.if_icmp .eq 550, 3) := by decide +kernel
theorem dL_law_191 : decode cL_law 191 = .ok (.iconst 0, 1) := by decide +kernel
theorem dL_law_192 : decode cL_law 192 = .ok (.ireturn, 1) := by decide +kernel
theorem dL_law_193 : decode cL_law 193 = .ok (.aload_n 1, 1) := by decide +kernel
theorem dL_law_194 : decode cL_law 194 = .ok (.aload_n 0, 1) := by decide +kernel
theorem dL_law_195 : decode cL_law 195 = .ok (.iload_n 3, 1) := by decide +kernel
theorem dL_law_196 : decode cL_law 196 = .ok (.iconst 1, 1) := by decide +kernel
theorem dL_law_197 : decode cL_law 197 = .ok (.iadd, 1) := by decide +kernel
theorem dL_law_198 : decode cL_law 198 = .ok (.iaload, 1) := by decide +kernel
theorem dL_law_199 : decode cL_law 199 = .ok (.invokevirtual 27, 3) := by decide +kernel
theorem dL_law_202 : decode cL_law 202 = .ok (.aload_n 2, 1) := by decide +kernel
theorem dL_law_203 : decode cL_law 203 = .ok (.aload_n 0, 1) := by decide +kernel
theorem dL_law_204 : decode cL_law 204 = .ok (.iload_n 3, 1) := by decide +kernel
theorem dL_law_205 : decode cL_law 205 = .ok (.iconst 1, 1) := by decide +kernel
theorem dL_law_206 : decode cL_law 206 = .ok (.iadd, 1) := by decide +kernel
theorem dL_law_207 : decode cL_law 207 = .ok (.iaload, 1) := by decide +kernel
theorem dL_law_208 : decode cL_law 208 = .ok (.invokevirtual 30, 3) := by decide +kernel
theorem dL_law_211 : decode cL_law 211 = .ok (.if_icmp .eq 527, 3) := by decide +kernel
theorem dL_law_214 : decode cL_law 214 = .ok (.iconst 0, 1) := by decide +kernel
theorem dL_law_215 : decode cL_law 215 = .ok (.ireturn, 1) := by decide +kernel
theorem dL_law_216 : decode cL_law 216 = .ok (.aload_n 1, 1) := by decide +kernel
theorem dL_law_217 : decode cL_law 217 = .ok (.aload_n 0, 1) := by decide +kernel
theorem dL_law_218 : decode cL_law 218 = .ok (.iload_n 3, 1) := by decide +kernel
theorem dL_law_219 : decode cL_law 219 = .ok (.iconst 1, 1) := by decide +kernel
theorem dL_law_220 : decode cL_law 220 = .ok (.iadd, 1) := by decide +kernel
theorem dL_law_221 : decode cL_law 221 = .ok (.iaload, 1) := by decide +kernel
theorem dL_law_222 : decode cL_law 222 = .ok (.aload_n 0, 1) := by decide +kernel
theorem dL_law_223 : decode cL_law 223 = .ok (.iload_n 3, 1) := by decide +kernel
theorem dL_law_224 : decode cL_law 224 = .ok (.iconst 2, 1) := by decide +kernel
theorem dL_law_225 : decode cL_law 225 = .ok (.iadd, 1) := by decide +kernel
theorem dL_law_226 : decode cL_law 226 = .ok (.iaload, 1) := by decide +kernel
theorem dL_law_227 : decode cL_law 227 = .ok (.invokevirtual 31, 3) := by decide +kernel
theorem dL_law_230 : decode cL_law 230 = .ok (.aload_n 2, 1) := by decide +kernel
theorem dL_law_231 : decode cL_law 231 = .ok (.aload_n 0, 1) := by decide +kernel
theorem dL_law_232 : decode cL_law 232 = .ok (.iload_n 3, 1) := by decide +kernel
theorem dL_law_233 : decode cL_law 233 = .ok (.iconst 1, 1) := by decide +kernel
theorem dL_law_234 : decode cL_law 234 = .ok (.iadd, 1) := by decide +kernel
theorem dL_law_235 : decode cL_law 235 = .ok (.iaload, 1) := by decide +kernel
theorem dL_law_236 : decode cL_law 236 = .ok (.aload_n 0, 1) := by decide +kernel
theorem dL_law_237 : decode cL_law 237 = .ok (.iload_n 3, 1) := by decide +kernel
theorem dL_law_238 : decode cL_law 238 = .ok (.iconst 2, 1) := by decide +kernel
theorem dL_law_239 : decode cL_law 239 = .ok (.iadd, 1) := by decide +kernel
theorem dL_law_240 : decode cL_law 240 = .ok (.iaload, 1) := by decide +kernel
theorem dL_law_241 : decode cL_law 241 = .ok (.invokevirtual 35, 3) := by decide +kernel
theorem dL_law_244 : decode cL_law 244 = .ok (.if_icmp .eq 494, 3) := by decide +kernel
theorem dL_law_247 : decode cL_law 247 = .ok (.iconst 0, 1) := by decide +kernel
theorem dL_law_248 : decode cL_law 248 = .ok (.ireturn, 1) := by decide +kernel
theorem dL_law_249 : decode cL_law 249 = .ok (.aload_n 1, 1) := by decide +kernel
theorem dL_law_250 : decode cL_law 250 = .ok (.aload_n 0, 1) := by decide +kernel
theorem dL_law_251 : decode cL_law 251 = .ok (.iload_n 3, 1) := by decide +kernel
theorem dL_law_252 : decode cL_law 252 = .ok (.iconst 1, 1) := by decide +kernel
theorem dL_law_253 : decode cL_law 253 = .ok (.iadd, 1) := by decide +kernel
theorem dL_law_254 : decode cL_law 254 = .ok (.iaload, 1) := by decide +kernel
theorem dL_law_255 : decode cL_law 255 = .ok (.aload_n 0, 1) := by decide +kernel
theorem dL_law_256 : decode cL_law 256 = .ok (.iload_n 3, 1) := by decide +kernel
theorem dL_law_257 : decode cL_law 257 = .ok (.iconst 2, 1) := by decide +kernel
theorem dL_law_258 : decode cL_law 258 = .ok (.iadd, 1) := by decide +kernel
theorem dL_law_259 : decode cL_law 259 = .ok (.iaload, 1) := by decide +kernel
theorem dL_law_260 : decode cL_law 260 = .ok (.invokevirtual 36, 3) := by decide +kernel
theorem dL_law_263 : decode cL_law 263 = .ok (.aload_n 2, 1) := by decide +kernel
theorem dL_law_264 : decode cL_law 264 = .ok (.aload_n 0, 1) := by decide +kernel
theorem dL_law_265 : decode cL_law 265 = .ok (.iload_n 3, 1) := by decide +kernel
theorem dL_law_266 : decode cL_law 266 = .ok (.iconst 1, 1) := by decide +kernel
theorem dL_law_267 : decode cL_law 267 = .ok (.iadd, 1) := by decide +kernel
theorem dL_law_268 : decode cL_law 268 = .ok (.iaload, 1) := by decide +kernel
theorem dL_law_269 : decode cL_law 269 = .ok (.aload_n 0, 1) := by decide +kernel
theorem dL_law_270 : decode cL_law 270 = .ok (.iload_n 3, 1) := by decide +kernel
theorem dL_law_271 : decode cL_law 271 = .ok (.iconst 2, 1) := by decide +kernel
theorem dL_law_272 : decode cL_law 272 = .ok (.iadd, 1) := by decide +kernel
theorem dL_law_273 : decode cL_law 273 = .ok (.iaload, 1) := by decide +kernel
theorem dL_law_274 : decode cL_law 274 = .ok (.invokevirtual 39, 3) := by decide +kernel
theorem dL_law_277 : decode cL_law 277 = .ok (.if_icmp .eq 461, 3) := by decide +kernel
theorem dL_law_280 : decode cL_law 280 = .ok (.iconst 0, 1) := by decide +kernel
theorem dL_law_281 : decode cL_law 281 = .ok (.ireturn, 1) := by decide +kernel
theorem dL_law_282 : decode cL_law 282 = .ok (.aload_n 1, 1) := by decide +kernel
theorem dL_law_283 : decode cL_law 283 = .ok (.aload_n 0, 1) := by decide +kernel
theorem dL_law_284 : decode cL_law 284 = .ok (.iload_n 3, 1) := by decide +kernel
theorem dL_law_285 : decode cL_law 285 = .ok (.iconst 1, 1) := by decide +kernel
theorem dL_law_286 : decode cL_law 286 = .ok (.iadd, 1) := by decide +kernel
theorem dL_law_287 : decode cL_law 287 = .ok (.iaload, 1) := by decide +kernel
theorem dL_law_288 : decode cL_law 288 = .ok (.aload_n 0, 1) := by decide +kernel
theorem dL_law_289 : decode cL_law 289 = .ok (.iload_n 3, 1) := by decide +kernel
theorem dL_law_290 : decode cL_law 290 = .ok (.iconst 2, 1) := by decide +kernel
theorem dL_law_291 : decode cL_law 291 = .ok (.iadd, 1) := by decide +kernel
theorem dL_law_292 : decode cL_law 292 = .ok (.iaload, 1) := by decide +kernel
theorem dL_law_293 : decode cL_law 293 = .ok (.invokevirtual 40, 3) := by decide +kernel
theorem dL_law_296 : decode cL_law 296 = .ok (.aload_n 2, 1) := by decide +kernel
theorem dL_law_297 : decode cL_law 297 = .ok (.aload_n 0, 1) := by decide +kernel
theorem dL_law_298 : decode cL_law 298 = .ok (.iload_n 3, 1) := by decide +kernel
theorem dL_law_299 : decode cL_law 299 = .ok (.iconst 1, 1) := by decide +kernel
theorem dL_law_300 : decode cL_law 300 = .ok (.iadd, 1) := by decide +kernel
theorem dL_law_301 : decode cL_law 301 = .ok (.iaload, 1) := by decide +kernel
theorem dL_law_302 : decode cL_law 302 = .ok (.aload_n 0, 1) := by decide +kernel
theorem dL_law_303 : decode cL_law 303 = .ok (.iload_n 3, 1) := by decide +kernel
theorem dL_law_304 : decode cL_law 304 = .ok (.iconst 2, 1) := by decide +kernel
theorem dL_law_305 : decode cL_law 305 = .ok (.iadd, 1) := by decide +kernel
theorem dL_law_306 : decode cL_law 306 = .ok (.iaload, 1) := by decide +kernel
theorem dL_law_307 : decode cL_law 307 = .ok (.invokevirtual 43, 3) := by decide +kernel
theorem dL_law_310 : decode cL_law 310 = .ok (.if_icmp .eq 428, 3) := by decide +kernel
theorem dL_law_313 : decode cL_law 313 = .ok (.iconst 0, 1) := by decide +kernel
theorem dL_law_314 : decode cL_law 314 = .ok (.ireturn, 1) := by decide +kernel
theorem dL_law_315 : decode cL_law 315 = .ok (.aload_n 1, 1) := by decide +kernel
theorem dL_law_316 : decode cL_law 316 = .ok (.aload_n 0, 1) := by decide +kernel
theorem dL_law_317 : decode cL_law 317 = .ok (.iload_n 3, 1) := by decide +kernel
theorem dL_law_318 : decode cL_law 318 = .ok (.iconst 1, 1) := by decide +kernel
theorem dL_law_319 : decode cL_law 319 = .ok (.iadd, 1) := by decide +kernel
theorem dL_law_320 : decode cL_law 320 = .ok (.iaload, 1) := by decide +kernel
theorem dL_law_321 : decode cL_law 321 = .ok (.invokevirtual 44, 3) := by decide +kernel
theorem dL_law_324 : decode cL_law 324 = .ok (.aload_n 2, 1) := by decide +kernel
theorem dL_law_325 : decode cL_law 325 = .ok (.aload_n 0, 1) := by decide +kernel
theorem dL_law_326 : decode cL_law 326 = .ok (.iload_n 3, 1) := by decide +kernel
theorem dL_law_327 : decode cL_law 327 = .ok (.iconst 1, 1) := by decide +kernel
theorem dL_law_328 : decode cL_law 328 = .ok (.iadd, 1) := by decide +kernel
theorem dL_law_329 : decode cL_law 329 = .ok (.iaload, 1) := by decide +kernel
theorem dL_law_330 : decode cL_law 330 = .ok (.invokevirtual 48, 3) := by decide +kernel
theorem dL_law_333 : decode cL_law 333 = .ok (.lcmp, 1) := by decide +kernel
theorem dL_law_334 : decode cL_law 334 = .ok (.ifCond .eq 404, 3) := by decide +kernel
theorem dL_law_337 : decode cL_law 337 = .ok (.iconst 0, 1) := by decide +kernel
theorem dL_law_338 : decode cL_law 338 = .ok (.ireturn, 1) := by decide +kernel
theorem dL_law_339 : decode cL_law 339 = .ok (.aload_n 1, 1) := by decide +kernel
theorem dL_law_340 : decode cL_law 340 = .ok (.aload_n 0, 1) := by decide +kernel
theorem dL_law_341 : decode cL_law 341 = .ok (.iload_n 3, 1) := by decide +kernel
theorem dL_law_342 : decode cL_law 342 = .ok (.iconst 1, 1) := by decide +kernel
theorem dL_law_343 : decode cL_law 343 = .ok (.iadd, 1) := by decide +kernel
theorem dL_law_344 : decode cL_law 344 = .ok (.iaload, 1) := by decide +kernel
theorem dL_law_345 : decode cL_law 345 = .ok (.invokevirtual 49, 3) := by decide +kernel
theorem dL_law_348 : decode cL_law 348 = .ok (.aload_n 2, 1) := by decide +kernel
theorem dL_law_349 : decode cL_law 349 = .ok (.aload_n 0, 1) := by decide +kernel
theorem dL_law_350 : decode cL_law 350 = .ok (.iload_n 3, 1) := by decide +kernel
theorem dL_law_351 : decode cL_law 351 = .ok (.iconst 1, 1) := by decide +kernel
theorem dL_law_352 : decode cL_law 352 = .ok (.iadd, 1) := by decide +kernel
theorem dL_law_353 : decode cL_law 353 = .ok (.iaload, 1) := by decide +kernel
theorem dL_law_354 : decode cL_law 354 = .ok (.invokevirtual 52, 3) := by decide +kernel
theorem dL_law_357 : decode cL_law 357 = .ok (.lcmp, 1) := by decide +kernel
theorem dL_law_358 : decode cL_law 358 = .ok (.ifCond .eq 380, 3) := by decide +kernel
theorem dL_law_361 : decode cL_law 361 = .ok (.iconst 0, 1) := by decide +kernel
theorem dL_law_362 : decode cL_law 362 = .ok (.ireturn, 1) := by decide +kernel
theorem dL_law_363 : decode cL_law 363 = .ok (.aload_n 1, 1) := by decide +kernel
theorem dL_law_364 : decode cL_law 364 = .ok (.aload_n 0, 1) := by decide +kernel
theorem dL_law_365 : decode cL_law 365 = .ok (.iload_n 3, 1) := by decide +kernel
theorem dL_law_366 : decode cL_law 366 = .ok (.iconst 1, 1) := by decide +kernel
theorem dL_law_367 : decode cL_law 367 = .ok (.iadd, 1) := by decide +kernel
theorem dL_law_368 : decode cL_law 368 = .ok (.iaload, 1) := by decide +kernel
theorem dL_law_369 : decode cL_law 369 = .ok (.aload_n 0, 1) := by decide +kernel
theorem dL_law_370 : decode cL_law 370 = .ok (.iload_n 3, 1) := by decide +kernel
theorem dL_law_371 : decode cL_law 371 = .ok (.iconst 2, 1) := by decide +kernel
theorem dL_law_372 : decode cL_law 372 = .ok (.iadd, 1) := by decide +kernel
theorem dL_law_373 : decode cL_law 373 = .ok (.iaload, 1) := by decide +kernel
theorem dL_law_374 : decode cL_law 374 = .ok (.aload_n 0, 1) := by decide +kernel
theorem dL_law_375 : decode cL_law 375 = .ok (.iload_n 3, 1) := by decide +kernel
theorem dL_law_376 : decode cL_law 376 = .ok (.iconst 3, 1) := by decide +kernel
theorem dL_law_377 : decode cL_law 377 = .ok (.iadd, 1) := by decide +kernel
theorem dL_law_378 : decode cL_law 378 = .ok (.iaload, 1) := by decide +kernel
theorem dL_law_379 : decode cL_law 379 = .ok (.invokevirtual 53, 3) := by decide +kernel
theorem dL_law_382 : decode cL_law 382 = .ok (.aload_n 2, 1) := by decide +kernel
theorem dL_law_383 : decode cL_law 383 = .ok (.aload_n 0, 1) := by decide +kernel
theorem dL_law_384 : decode cL_law 384 = .ok (.iload_n 3, 1) := by decide +kernel
theorem dL_law_385 : decode cL_law 385 = .ok (.iconst 1, 1) := by decide +kernel
theorem dL_law_386 : decode cL_law 386 = .ok (.iadd, 1) := by decide +kernel
theorem dL_law_387 : decode cL_law 387 = .ok (.iaload, 1) := by decide +kernel
theorem dL_law_388 : decode cL_law 388 = .ok (.aload_n 0, 1) := by decide +kernel
theorem dL_law_389 : decode cL_law 389 = .ok (.iload_n 3, 1) := by decide +kernel
theorem dL_law_390 : decode cL_law 390 = .ok (.iconst 2, 1) := by decide +kernel
theorem dL_law_391 : decode cL_law 391 = .ok (.iadd, 1) := by decide +kernel
theorem dL_law_392 : decode cL_law 392 = .ok (.iaload, 1) := by decide +kernel
theorem dL_law_393 : decode cL_law 393 = .ok (.aload_n 0, 1) := by decide +kernel
theorem dL_law_394 : decode cL_law 394 = .ok (.iload_n 3, 1) := by decide +kernel
theorem dL_law_395 : decode cL_law 395 = .ok (.iconst 3, 1) := by decide +kernel
theorem dL_law_396 : decode cL_law 396 = .ok (.iadd, 1) := by decide +kernel
theorem dL_law_397 : decode cL_law 397 = .ok (.iaload, 1) := by decide +kernel
theorem dL_law_398 : decode cL_law 398 = .ok (.invokevirtual 57, 3) := by decide +kernel
theorem dL_law_401 : decode cL_law 401 = .ok (.if_icmp .eq 337, 3) := by decide +kernel
theorem dL_law_404 : decode cL_law 404 = .ok (.iconst 0, 1) := by decide +kernel
theorem dL_law_405 : decode cL_law 405 = .ok (.ireturn, 1) := by decide +kernel
theorem dL_law_406 : decode cL_law 406 = .ok (.aload_n 1, 1) := by decide +kernel
theorem dL_law_407 : decode cL_law 407 = .ok (.aload_n 0, 1) := by decide +kernel
theorem dL_law_408 : decode cL_law 408 = .ok (.iload_n 3, 1) := by decide +kernel
theorem dL_law_409 : decode cL_law 409 = .ok (.iconst 1, 1) := by decide +kernel
theorem dL_law_410 : decode cL_law 410 = .ok (.iadd, 1) := by decide +kernel
theorem dL_law_411 : decode cL_law 411 = .ok (.iaload, 1) := by decide +kernel
theorem dL_law_412 : decode cL_law 412 = .ok (.aload_n 0, 1) := by decide +kernel
theorem dL_law_413 : decode cL_law 413 = .ok (.iload_n 3, 1) := by decide +kernel
theorem dL_law_414 : decode cL_law 414 = .ok (.iconst 2, 1) := by decide +kernel
theorem dL_law_415 : decode cL_law 415 = .ok (.iadd, 1) := by decide +kernel
theorem dL_law_416 : decode cL_law 416 = .ok (.iaload, 1) := by decide +kernel
theorem dL_law_417 : decode cL_law 417 = .ok (.invokevirtual 58, 3) := by decide +kernel
theorem dL_law_420 : decode cL_law 420 = .ok (.aload_n 2, 1) := by decide +kernel
theorem dL_law_421 : decode cL_law 421 = .ok (.aload_n 0, 1) := by decide +kernel
theorem dL_law_422 : decode cL_law 422 = .ok (.iload_n 3, 1) := by decide +kernel
theorem dL_law_423 : decode cL_law 423 = .ok (.iconst 1, 1) := by decide +kernel
theorem dL_law_424 : decode cL_law 424 = .ok (.iadd, 1) := by decide +kernel
theorem dL_law_425 : decode cL_law 425 = .ok (.iaload, 1) := by decide +kernel
theorem dL_law_426 : decode cL_law 426 = .ok (.aload_n 0, 1) := by decide +kernel
theorem dL_law_427 : decode cL_law 427 = .ok (.iload_n 3, 1) := by decide +kernel
theorem dL_law_428 : decode cL_law 428 = .ok (.iconst 2, 1) := by decide +kernel
theorem dL_law_429 : decode cL_law 429 = .ok (.iadd, 1) := by decide +kernel
theorem dL_law_430 : decode cL_law 430 = .ok (.iaload, 1) := by decide +kernel
theorem dL_law_431 : decode cL_law 431 = .ok (.invokevirtual 61, 3) := by decide +kernel
theorem dL_law_434 : decode cL_law 434 = .ok (.if_icmp .eq 304, 3) := by decide +kernel
theorem dL_law_437 : decode cL_law 437 = .ok (.iconst 0, 1) := by decide +kernel
theorem dL_law_438 : decode cL_law 438 = .ok (.ireturn, 1) := by decide +kernel
theorem dL_law_439 : decode cL_law 439 = .ok (.aload_n 1, 1) := by decide +kernel
theorem dL_law_440 : decode cL_law 440 = .ok (.aload_n 0, 1) := by decide +kernel
theorem dL_law_441 : decode cL_law 441 = .ok (.iload_n 3, 1) := by decide +kernel
theorem dL_law_442 : decode cL_law 442 = .ok (.iconst 1, 1) := by decide +kernel
theorem dL_law_443 : decode cL_law 443 = .ok (.iadd, 1) := by decide +kernel
theorem dL_law_444 : decode cL_law 444 = .ok (.iaload, 1) := by decide +kernel
theorem dL_law_445 : decode cL_law 445 = .ok (.invokevirtual 62, 3) := by decide +kernel
theorem dL_law_448 : decode cL_law 448 = .ok (.aload_n 2, 1) := by decide +kernel
theorem dL_law_449 : decode cL_law 449 = .ok (.aload_n 0, 1) := by decide +kernel
theorem dL_law_450 : decode cL_law 450 = .ok (.iload_n 3, 1) := by decide +kernel
theorem dL_law_451 : decode cL_law 451 = .ok (.iconst 1, 1) := by decide +kernel
theorem dL_law_452 : decode cL_law 452 = .ok (.iadd, 1) := by decide +kernel
theorem dL_law_453 : decode cL_law 453 = .ok (.iaload, 1) := by decide +kernel
theorem dL_law_454 : decode cL_law 454 = .ok (.invokevirtual 65, 3) := by decide +kernel
theorem dL_law_457 : decode cL_law 457 = .ok (.if_icmp .eq 281, 3) := by decide +kernel
theorem dL_law_460 : decode cL_law 460 = .ok (.iconst 0, 1) := by decide +kernel
theorem dL_law_461 : decode cL_law 461 = .ok (.ireturn, 1) := by decide +kernel
theorem dL_law_462 : decode cL_law 462 = .ok (.aload_n 1, 1) := by decide +kernel
theorem dL_law_463 : decode cL_law 463 = .ok (.aload_n 0, 1) := by decide +kernel
theorem dL_law_464 : decode cL_law 464 = .ok (.iload_n 3, 1) := by decide +kernel
theorem dL_law_465 : decode cL_law 465 = .ok (.iconst 1, 1) := by decide +kernel
theorem dL_law_466 : decode cL_law 466 = .ok (.iadd, 1) := by decide +kernel
theorem dL_law_467 : decode cL_law 467 = .ok (.iaload, 1) := by decide +kernel
theorem dL_law_468 : decode cL_law 468 = .ok (.invokevirtual 66, 3) := by decide +kernel
theorem dL_law_471 : decode cL_law 471 = .ok (.aload_n 2, 1) := by decide +kernel
theorem dL_law_472 : decode cL_law 472 = .ok (.aload_n 0, 1) := by decide +kernel
theorem dL_law_473 : decode cL_law 473 = .ok (.iload_n 3, 1) := by decide +kernel
theorem dL_law_474 : decode cL_law 474 = .ok (.iconst 1, 1) := by decide +kernel
theorem dL_law_475 : decode cL_law 475 = .ok (.iadd, 1) := by decide +kernel
theorem dL_law_476 : decode cL_law 476 = .ok (.iaload, 1) := by decide +kernel
theorem dL_law_477 : decode cL_law 477 = .ok (.invokevirtual 69, 3) := by decide +kernel
theorem dL_law_480 : decode cL_law 480 = .ok (.if_icmp .eq 258, 3) := by decide +kernel
theorem dL_law_483 : decode cL_law 483 = .ok (.iconst 0, 1) := by decide +kernel
theorem dL_law_484 : decode cL_law 484 = .ok (.ireturn, 1) := by decide +kernel
theorem dL_law_485 : decode cL_law 485 = .ok (.aload_n 1, 1) := by decide +kernel
theorem dL_law_486 : decode cL_law 486 = .ok (.aload_n 0, 1) := by decide +kernel
theorem dL_law_487 : decode cL_law 487 = .ok (.iload_n 3, 1) := by decide +kernel
theorem dL_law_488 : decode cL_law 488 = .ok (.iconst 1, 1) := by decide +kernel
theorem dL_law_489 : decode cL_law 489 = .ok (.iadd, 1) := by decide +kernel
theorem dL_law_490 : decode cL_law 490 = .ok (.iaload, 1) := by decide +kernel
theorem dL_law_491 : decode cL_law 491 = .ok (.invokevirtual 70, 3) := by decide +kernel
theorem dL_law_494 : decode cL_law 494 = .ok (.aload_n 2, 1) := by decide +kernel
theorem dL_law_495 : decode cL_law 495 = .ok (.aload_n 0, 1) := by decide +kernel
theorem dL_law_496 : decode cL_law 496 = .ok (.iload_n 3, 1) := by decide +kernel
theorem dL_law_497 : decode cL_law 497 = .ok (.iconst 1, 1) := by decide +kernel
theorem dL_law_498 : decode cL_law 498 = .ok (.iadd, 1) := by decide +kernel
theorem dL_law_499 : decode cL_law 499 = .ok (.iaload, 1) := by decide +kernel
theorem dL_law_500 : decode cL_law 500 = .ok (.invokevirtual 73, 3) := by decide +kernel
theorem dL_law_503 : decode cL_law 503 = .ok (.if_icmp .eq 235, 3) := by decide +kernel
theorem dL_law_506 : decode cL_law 506 = .ok (.iconst 0, 1) := by decide +kernel
theorem dL_law_507 : decode cL_law 507 = .ok (.ireturn, 1) := by decide +kernel
theorem dL_law_508 : decode cL_law 508 = .ok (.aload_n 1, 1) := by decide +kernel
theorem dL_law_509 : decode cL_law 509 = .ok (.aload_n 0, 1) := by decide +kernel
theorem dL_law_510 : decode cL_law 510 = .ok (.iload_n 3, 1) := by decide +kernel
theorem dL_law_511 : decode cL_law 511 = .ok (.iconst 1, 1) := by decide +kernel
theorem dL_law_512 : decode cL_law 512 = .ok (.iadd, 1) := by decide +kernel
theorem dL_law_513 : decode cL_law 513 = .ok (.iaload, 1) := by decide +kernel
theorem dL_law_514 : decode cL_law 514 = .ok (.aload_n 0, 1) := by decide +kernel
theorem dL_law_515 : decode cL_law 515 = .ok (.iload_n 3, 1) := by decide +kernel
theorem dL_law_516 : decode cL_law 516 = .ok (.iconst 2, 1) := by decide +kernel
theorem dL_law_517 : decode cL_law 517 = .ok (.iadd, 1) := by decide +kernel
theorem dL_law_518 : decode cL_law 518 = .ok (.iaload, 1) := by decide +kernel
theorem dL_law_519 : decode cL_law 519 = .ok (.aload_n 0, 1) := by decide +kernel
theorem dL_law_520 : decode cL_law 520 = .ok (.iload_n 3, 1) := by decide +kernel
theorem dL_law_521 : decode cL_law 521 = .ok (.iconst 3, 1) := by decide +kernel
theorem dL_law_522 : decode cL_law 522 = .ok (.iadd, 1) := by decide +kernel
theorem dL_law_523 : decode cL_law 523 = .ok (.iaload, 1) := by decide +kernel
theorem dL_law_524 : decode cL_law 524 = .ok (.invokevirtual 74, 3) := by decide +kernel
theorem dL_law_527 : decode cL_law 527 = .ok (.aload_n 2, 1) := by decide +kernel
theorem dL_law_528 : decode cL_law 528 = .ok (.aload_n 0, 1) := by decide +kernel
theorem dL_law_529 : decode cL_law 529 = .ok (.iload_n 3, 1) := by decide +kernel
theorem dL_law_530 : decode cL_law 530 = .ok (.iconst 1, 1) := by decide +kernel
theorem dL_law_531 : decode cL_law 531 = .ok (.iadd, 1) := by decide +kernel
theorem dL_law_532 : decode cL_law 532 = .ok (.iaload, 1) := by decide +kernel
theorem dL_law_533 : decode cL_law 533 = .ok (.aload_n 0, 1) := by decide +kernel
theorem dL_law_534 : decode cL_law 534 = .ok (.iload_n 3, 1) := by decide +kernel
theorem dL_law_535 : decode cL_law 535 = .ok (.iconst 2, 1) := by decide +kernel
theorem dL_law_536 : decode cL_law 536 = .ok (.iadd, 1) := by decide +kernel
theorem dL_law_537 : decode cL_law 537 = .ok (.iaload, 1) := by decide +kernel
theorem dL_law_538 : decode cL_law 538 = .ok (.aload_n 0, 1) := by decide +kernel
theorem dL_law_539 : decode cL_law 539 = .ok (.iload_n 3, 1) := by decide +kernel
theorem dL_law_540 : decode cL_law 540 = .ok (.iconst 3, 1) := by decide +kernel
theorem dL_law_541 : decode cL_law 541 = .ok (.iadd, 1) := by decide +kernel
theorem dL_law_542 : decode cL_law 542 = .ok (.iaload, 1) := by decide +kernel
theorem dL_law_543 : decode cL_law 543 = .ok (.invokevirtual 77, 3) := by decide +kernel
theorem dL_law_546 : decode cL_law 546 = .ok (.if_icmp .eq 192, 3) := by decide +kernel
theorem dL_law_549 : decode cL_law 549 = .ok (.iconst 0, 1) := by decide +kernel
theorem dL_law_550 : decode cL_law 550 = .ok (.ireturn, 1) := by decide +kernel
theorem dL_law_551 : decode cL_law 551 = .ok (.aload_n 1, 1) := by decide +kernel
theorem dL_law_552 : decode cL_law 552 = .ok (.invokevirtual 78, 3) := by decide +kernel
theorem dL_law_555 : decode cL_law 555 = .ok (.aload_n 2, 1) := by decide +kernel
theorem dL_law_556 : decode cL_law 556 = .ok (.invokevirtual 81, 3) := by decide +kernel
theorem dL_law_559 : decode cL_law 559 = .ok (.if_icmp .eq 179, 3) := by decide +kernel
theorem dL_law_562 : decode cL_law 562 = .ok (.iconst 0, 1) := by decide +kernel
theorem dL_law_563 : decode cL_law 563 = .ok (.ireturn, 1) := by decide +kernel
theorem dL_law_564 : decode cL_law 564 = .ok (.aload_n 1, 1) := by decide +kernel
theorem dL_law_565 : decode cL_law 565 = .ok (.invokevirtual 82, 3) := by decide +kernel
theorem dL_law_568 : decode cL_law 568 = .ok (.aload_n 2, 1) := by decide +kernel
theorem dL_law_569 : decode cL_law 569 = .ok (.invokevirtual 85, 3) := by decide +kernel
theorem dL_law_572 : decode cL_law 572 = .ok (.if_icmp .eq 166, 3) := by decide +kernel
theorem dL_law_575 : decode cL_law 575 = .ok (.iconst 0, 1) := by decide +kernel
theorem dL_law_576 : decode cL_law 576 = .ok (.ireturn, 1) := by decide +kernel
theorem dL_law_577 : decode cL_law 577 = .ok (.aload_n 1, 1) := by decide +kernel
theorem dL_law_578 : decode cL_law 578 = .ok (.aload_n 0, 1) := by decide +kernel
theorem dL_law_579 : decode cL_law 579 = .ok (.iload_n 3, 1) := by decide +kernel
theorem dL_law_580 : decode cL_law 580 = .ok (.iconst 1, 1) := by decide +kernel
theorem dL_law_581 : decode cL_law 581 = .ok (.iadd, 1) := by decide +kernel
theorem dL_law_582 : decode cL_law 582 = .ok (.iaload, 1) := by decide +kernel
theorem dL_law_583 : decode cL_law 583 = .ok (.invokevirtual 86, 3) := by decide +kernel
theorem dL_law_586 : decode cL_law 586 = .ok (.aload_n 2, 1) := by decide +kernel
theorem dL_law_587 : decode cL_law 587 = .ok (.aload_n 0, 1) := by decide +kernel
theorem dL_law_588 : decode cL_law 588 = .ok (.iload_n 3, 1) := by decide +kernel
theorem dL_law_589 : decode cL_law 589 = .ok (.iconst 1, 1) := by decide +kernel
theorem dL_law_590 : decode cL_law 590 = .ok (.iadd, 1) := by decide +kernel
theorem dL_law_591 : decode cL_law 591 = .ok (.iaload, 1) := by decide +kernel
theorem dL_law_592 : decode cL_law 592 = .ok (.invokevirtual 89, 3) := by decide +kernel
theorem dL_law_595 : decode cL_law 595 = .ok (.if_icmp .eq 143, 3) := by decide +kernel
theorem dL_law_598 : decode cL_law 598 = .ok (.iconst 0, 1) := by decide +kernel
theorem dL_law_599 : decode cL_law 599 = .ok (.ireturn, 1) := by decide +kernel
theorem dL_law_600 : decode cL_law 600 = .ok (.aload_n 1, 1) := by decide +kernel
theorem dL_law_601 : decode cL_law 601 = .ok (.aload_n 0, 1) := by decide +kernel
theorem dL_law_602 : decode cL_law 602 = .ok (.iload_n 3, 1) := by decide +kernel
theorem dL_law_603 : decode cL_law 603 = .ok (.iconst 1, 1) := by decide +kernel
theorem dL_law_604 : decode cL_law 604 = .ok (.iadd, 1) := by decide +kernel
theorem dL_law_605 : decode cL_law 605 = .ok (.iaload, 1) := by decide +kernel
theorem dL_law_606 : decode cL_law 606 = .ok (.invokevirtual 90, 3) := by decide +kernel
theorem dL_law_609 : decode cL_law 609 = .ok (.aload_n 2, 1) := by decide +kernel
theorem dL_law_610 : decode cL_law 610 = .ok (.aload_n 0, 1) := by decide +kernel
theorem dL_law_611 : decode cL_law 611 = .ok (.iload_n 3, 1) := by decide +kernel
theorem dL_law_612 : decode cL_law 612 = .ok (.iconst 1, 1) := by decide +kernel
theorem dL_law_613 : decode cL_law 613 = .ok (.iadd, 1) := by decide +kernel
theorem dL_law_614 : decode cL_law 614 = .ok (.iaload, 1) := by decide +kernel
theorem dL_law_615 : decode cL_law 615 = .ok (.invokevirtual 93, 3) := by decide +kernel
theorem dL_law_618 : decode cL_law 618 = .ok (.if_icmp .eq 120, 3) := by decide +kernel
theorem dL_law_621 : decode cL_law 621 = .ok (.iconst 0, 1) := by decide +kernel
theorem dL_law_622 : decode cL_law 622 = .ok (.ireturn, 1) := by decide +kernel
theorem dL_law_623 : decode cL_law 623 = .ok (.aload_n 1, 1) := by decide +kernel
theorem dL_law_624 : decode cL_law 624 = .ok (.aload_n 0, 1) := by decide +kernel
theorem dL_law_625 : decode cL_law 625 = .ok (.iload_n 3, 1) := by decide +kernel
theorem dL_law_626 : decode cL_law 626 = .ok (.iconst 1, 1) := by decide +kernel
theorem dL_law_627 : decode cL_law 627 = .ok (.iadd, 1) := by decide +kernel
theorem dL_law_628 : decode cL_law 628 = .ok (.iaload, 1) := by decide +kernel
theorem dL_law_629 : decode cL_law 629 = .ok (.aload_n 0, 1) := by decide +kernel
theorem dL_law_630 : decode cL_law 630 = .ok (.iload_n 3, 1) := by decide +kernel
theorem dL_law_631 : decode cL_law 631 = .ok (.iconst 2, 1) := by decide +kernel
theorem dL_law_632 : decode cL_law 632 = .ok (.iadd, 1) := by decide +kernel
theorem dL_law_633 : decode cL_law 633 = .ok (.iaload, 1) := by decide +kernel
theorem dL_law_634 : decode cL_law 634 = .ok (.invokevirtual 94, 3) := by decide +kernel
theorem dL_law_637 : decode cL_law 637 = .ok (.aload_n 2, 1) := by decide +kernel
theorem dL_law_638 : decode cL_law 638 = .ok (.aload_n 0, 1) := by decide +kernel
theorem dL_law_639 : decode cL_law 639 = .ok (.iload_n 3, 1) := by decide +kernel
theorem dL_law_640 : decode cL_law 640 = .ok (.iconst 1, 1) := by decide +kernel
theorem dL_law_641 : decode cL_law 641 = .ok (.iadd, 1) := by decide +kernel
theorem dL_law_642 : decode cL_law 642 = .ok (.iaload, 1) := by decide +kernel
theorem dL_law_643 : decode cL_law 643 = .ok (.aload_n 0, 1) := by decide +kernel
theorem dL_law_644 : decode cL_law 644 = .ok (.iload_n 3, 1) := by decide +kernel
theorem dL_law_645 : decode cL_law 645 = .ok (.iconst 2, 1) := by decide +kernel
theorem dL_law_646 : decode cL_law 646 = .ok (.iadd, 1) := by decide +kernel
theorem dL_law_647 : decode cL_law 647 = .ok (.iaload, 1) := by decide +kernel
theorem dL_law_648 : decode cL_law 648 = .ok (.invokevirtual 97, 3) := by decide +kernel
theorem dL_law_651 : decode cL_law 651 = .ok (.if_icmp .eq 87, 3) := by decide +kernel
theorem dL_law_654 : decode cL_law 654 = .ok (.iconst 0, 1) := by decide +kernel
theorem dL_law_655 : decode cL_law 655 = .ok (.ireturn, 1) := by decide +kernel
theorem dL_law_656 : decode cL_law 656 = .ok (.aload_n 1, 1) := by decide +kernel
theorem dL_law_657 : decode cL_law 657 = .ok (.invokevirtual 98, 3) := by decide +kernel
theorem dL_law_660 : decode cL_law 660 = .ok (.aload_n 2, 1) := by decide +kernel
theorem dL_law_661 : decode cL_law 661 = .ok (.invokevirtual 101, 3) := by decide +kernel
theorem dL_law_664 : decode cL_law 664 = .ok (.if_icmp .eq 74, 3) := by decide +kernel
theorem dL_law_667 : decode cL_law 667 = .ok (.iconst 0, 1) := by decide +kernel
theorem dL_law_668 : decode cL_law 668 = .ok (.ireturn, 1) := by decide +kernel
theorem dL_law_669 : decode cL_law 669 = .ok (.aload_n 1, 1) := by decide +kernel
theorem dL_law_670 : decode cL_law 670 = .ok (.aload_n 0, 1) := by decide +kernel
theorem dL_law_671 : decode cL_law 671 = .ok (.iload_n 3, 1) := by decide +kernel
theorem dL_law_672 : decode cL_law 672 = .ok (.iconst 1, 1) := by decide +kernel
theorem dL_law_673 : decode cL_law 673 = .ok (.iadd, 1) := by decide +kernel
theorem dL_law_674 : decode cL_law 674 = .ok (.iaload, 1) := by decide +kernel
theorem dL_law_675 : decode cL_law 675 = .ok (.invokevirtual 102, 3) := by decide +kernel
theorem dL_law_678 : decode cL_law 678 = .ok (.aload_n 2, 1) := by decide +kernel
theorem dL_law_679 : decode cL_law 679 = .ok (.aload_n 0, 1) := by decide +kernel
theorem dL_law_680 : decode cL_law 680 = .ok (.iload_n 3, 1) := by decide +kernel
theorem dL_law_681 : decode cL_law 681 = .ok (.iconst 1, 1) := by decide +kernel
theorem dL_law_682 : decode cL_law 682 = .ok (.iadd, 1) := by decide +kernel
theorem dL_law_683 : decode cL_law 683 = .ok (.iaload, 1) := by decide +kernel
theorem dL_law_684 : decode cL_law 684 = .ok (.invokevirtual 105, 3) := by decide +kernel
theorem dL_law_687 : decode cL_law 687 = .ok (.if_icmp .eq 51, 3) := by decide +kernel
theorem dL_law_690 : decode cL_law 690 = .ok (.iconst 0, 1) := by decide +kernel
theorem dL_law_691 : decode cL_law 691 = .ok (.ireturn, 1) := by decide +kernel
theorem dL_law_692 : decode cL_law 692 = .ok (.aload_n 1, 1) := by decide +kernel
theorem dL_law_693 : decode cL_law 693 = .ok (.aload_n 0, 1) := by decide +kernel
theorem dL_law_694 : decode cL_law 694 = .ok (.iload_n 3, 1) := by decide +kernel
theorem dL_law_695 : decode cL_law 695 = .ok (.iconst 1, 1) := by decide +kernel
theorem dL_law_696 : decode cL_law 696 = .ok (.iadd, 1) := by decide +kernel
theorem dL_law_697 : decode cL_law 697 = .ok (.iaload, 1) := by decide +kernel
theorem dL_law_698 : decode cL_law 698 = .ok (.invokevirtual 106, 3) := by decide +kernel
theorem dL_law_701 : decode cL_law 701 = .ok (.aload_n 2, 1) := by decide +kernel
theorem dL_law_702 : decode cL_law 702 = .ok (.aload_n 0, 1) := by decide +kernel
theorem dL_law_703 : decode cL_law 703 = .ok (.iload_n 3, 1) := by decide +kernel
theorem dL_law_704 : decode cL_law 704 = .ok (.iconst 1, 1) := by decide +kernel
theorem dL_law_705 : decode cL_law 705 = .ok (.iadd, 1) := by decide +kernel
theorem dL_law_706 : decode cL_law 706 = .ok (.iaload, 1) := by decide +kernel
theorem dL_law_707 : decode cL_law 707 = .ok (.invokevirtual 109, 3) := by decide +kernel
theorem dL_law_710 : decode cL_law 710 = .ok (.if_icmp .eq 28, 3) := by decide +kernel
theorem dL_law_713 : decode cL_law 713 = .ok (.iconst 0, 1) := by decide +kernel
theorem dL_law_714 : decode cL_law 714 = .ok (.ireturn, 1) := by decide +kernel
theorem dL_law_715 : decode cL_law 715 = .ok (.aload_n 1, 1) := by decide +kernel
theorem dL_law_716 : decode cL_law 716 = .ok (.aload_n 0, 1) := by decide +kernel
theorem dL_law_717 : decode cL_law 717 = .ok (.iload_n 3, 1) := by decide +kernel
theorem dL_law_718 : decode cL_law 718 = .ok (.iconst 1, 1) := by decide +kernel
theorem dL_law_719 : decode cL_law 719 = .ok (.iadd, 1) := by decide +kernel
theorem dL_law_720 : decode cL_law 720 = .ok (.iaload, 1) := by decide +kernel
theorem dL_law_721 : decode cL_law 721 = .ok (.invokevirtual 110, 3) := by decide +kernel
theorem dL_law_724 : decode cL_law 724 = .ok (.aload_n 2, 1) := by decide +kernel
theorem dL_law_725 : decode cL_law 725 = .ok (.aload_n 0, 1) := by decide +kernel
theorem dL_law_726 : decode cL_law 726 = .ok (.iload_n 3, 1) := by decide +kernel
theorem dL_law_727 : decode cL_law 727 = .ok (.iconst 1, 1) := by decide +kernel
theorem dL_law_728 : decode cL_law 728 = .ok (.iadd, 1) := by decide +kernel
theorem dL_law_729 : decode cL_law 729 = .ok (.iaload, 1) := by decide +kernel
theorem dL_law_730 : decode cL_law 730 = .ok (.invokevirtual 113, 3) := by decide +kernel
theorem dL_law_733 : decode cL_law 733 = .ok (.if_icmp .eq 5, 3) := by decide +kernel
theorem dL_law_736 : decode cL_law 736 = .ok (.iconst 0, 1) := by decide +kernel
theorem dL_law_737 : decode cL_law 737 = .ok (.ireturn, 1) := by decide +kernel
theorem dL_law_738 : decode cL_law 738 = .ok (.iinc 3 4, 3) := by decide +kernel
theorem dL_law_741 : decode cL_law 741 = .ok (.goto (-723), 3) := by decide +kernel
theorem dL_law_744 : decode cL_law 744 = .ok (.iconst 1, 1) := by decide +kernel
theorem dL_law_745 : decode cL_law 745 = .ok (.ireturn, 1) := by decide +kernel
