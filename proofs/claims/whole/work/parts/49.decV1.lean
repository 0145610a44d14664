theorem d_M_init_0 : decode b_M_init 0 = .ok (.aload_n 0, 1) := by decide +kernel
theorem d_M_init_1 : decode b_M_init 1 = .ok (.invokespecial 1, 3) := by decide +kernel
theorem d_M_init_4 : decode b_M_init 4 = .ok (.aload_n 0, 1) := by decide +kernel
theorem d_M_init_5 : decode b_M_init 5 = .ok (.bipush 10, 2) := by decide +kernel
theorem d_M_init_7 : decode b_M_init 7 = .ok (.newarray .int, 2) := by decide +kernel
theorem d_M_init_9 : decode b_M_init 9 = .ok (.putfield 7, 3) := by decide +kernel
theorem d_M_init_12 : decode b_M_init 12 = .ok (.aload_n 0, 1) := by decide +kernel
theorem d_M_init_13 : decode b_M_init 13 = .ok (.bipush 10, 2) := by decide +kernel
theorem d_M_init_15 : decode b_M_init 15 = .ok (.newarray .int, 2) := by decide +kernel
theorem d_M_init_17 : decode b_M_init 17 = .ok (.putfield 13, 3) := by decide +kernel
theorem d_M_init_20 : decode b_M_init 20 = .ok (.aload_n 0, 1) := by decide +kernel
theorem d_M_init_21 : decode b_M_init 21 = .ok (.bipush 10, 2) := by decide +kernel
theorem d_M_init_23 : decode b_M_init 23 = .ok (.newarray .int, 2) := by decide +kernel
theorem d_M_init_25 : decode b_M_init 25 = .ok (.putfield 16, 3) := by decide +kernel
theorem d_M_init_28 : decode b_M_init 28 = .ok (.aload_n 0, 1) := by decide +kernel
theorem d_M_init_29 : decode b_M_init 29 = .ok (.sipush 240, 3) := by decide +kernel
theorem d_M_init_32 : decode b_M_init 32 = .ok (.newarray .int, 2) := by decide +kernel
theorem d_M_init_34 : decode b_M_init 34 = .ok (.putfield 19, 3) := by decide +kernel
theorem d_M_init_37 : decode b_M_init 37 = .ok (.aload_n 0, 1) := by decide +kernel
theorem d_M_init_38 : decode b_M_init 38 = .ok (.sipush 240, 3) := by decide +kernel
theorem d_M_init_41 : decode b_M_init 41 = .ok (.newarray .int, 2) := by decide +kernel
theorem d_M_init_43 : decode b_M_init 43 = .ok (.putfield 22, 3) := by decide +kernel
theorem d_M_init_46 : decode b_M_init 46 = .ok (.aload_n 0, 1) := by decide +kernel
theorem d_M_init_47 : decode b_M_init 47 = .ok (.bipush 10, 2) := by decide +kernel
theorem d_M_init_49 : decode b_M_init 49 = .ok (.newarray .int, 2) := by decide +kernel
theorem d_M_init_51 : decode b_M_init 51 = .ok (.putfield 25, 3) := by decide +kernel
theorem d_M_init_54 : decode b_M_init 54 = .ok (.aload_n 0, 1) := by decide +kernel
theorem d_M_init_55 : decode b_M_init 55 = .ok (.bipush 10, 2) := by decide +kernel
theorem d_M_init_57 : decode b_M_init 57 = .ok (.newarray .int, 2) := by decide +kernel
theorem d_M_init_59 : decode b_M_init 59 = .ok (.putfield 28, 3) := by decide +kernel
theorem d_M_init_62 : decode b_M_init 62 = .ok (.aload_n 0, 1) := by decide +kernel
theorem d_M_init_63 : decode b_M_init 63 = .ok (.bipush 10, 2) := by decide +kernel
theorem d_M_init_65 : decode b_M_init 65 = .ok (.newarray .int, 2) := by decide +kernel
theorem d_M_init_67 : decode b_M_init 67 = .ok (.putfield 31, 3) := by decide +kernel
theorem d_M_init_70 : decode b_M_init 70 = .ok (.aload_n 0, 1) := by decide +kernel
theorem d_M_init_71 : decode b_M_init 71 = .ok (.bipush 10, 2) := by decide +kernel
theorem d_M_init_73 : decode b_M_init 73 = .ok (.newarray .int, 2) := by decide +kernel
theorem d_M_init_75 : decode b_M_init 75 = .ok (.putfield 34, 3) := by decide +kernel
theorem d_M_init_78 : decode b_M_init 78 = .ok (.aload_n 0, 1) := by decide +kernel
theorem d_M_init_79 : decode b_M_init 79 = .ok (.bipush 10, 2) := by decide +kernel
theorem d_M_init_81 : decode b_M_init 81 = .ok (.newarray .int, 2) := by decide +kernel
theorem d_M_init_83 : decode b_M_init 83 = .ok (.putfield 37, 3) := by decide +kernel
theorem d_M_init_86 : decode b_M_init 86 = .ok (.aload_n 0, 1) := by decide +kernel
theorem d_M_init_87 : decode b_M_init 87 = .ok (.bipush 10, 2) := by decide +kernel
theorem d_M_init_89 : decode b_M_init 89 = .ok (.newarray .int, 2) := by decide +kernel
theorem d_M_init_91 : decode b_M_init 91 = .ok (.putfield 40, 3) := by decide +kernel
theorem d_M_init_94 : decode b_M_init 94 = .ok (.aload_n 0, 1) := by decide +kernel
theorem d_M_init_95 : decode b_M_init 95 = .ok (.iconst 4, 1) := by decide +kernel
theorem d_M_init_96 : decode b_M_init 96 = .ok (.newarray .int, 2) := by decide +kernel
theorem d_M_init_98 : decode b_M_init 98 = .ok (.dup, 1) := by decide +kernel
theorem d_M_init_99 : decode b_M_init 99 = .ok (.iconst 0, 1) := by decide +kernel
theorem d_M_init_100 : decode b_M_init 100 = .ok (.iconst (-1), 1) := by decide +kernel
theorem d_M_init_101 : decode b_M_init 101 = .ok (.iastore, 1) := by decide +kernel
theorem d_M_init_102 : decode b_M_init 102 = .ok (.dup, 1) := by decide +kernel
theorem d_M_init_103 : decode b_M_init 103 = .ok (.iconst 1, 1) := by decide +kernel
theorem d_M_init_104 : decode b_M_init 104 = .ok (.iconst (-1), 1) := by decide +kernel
theorem d_M_init_105 : decode b_M_init 105 = .ok (.iastore, 1) := by decide +kernel
theorem d_M_init_106 : decode b_M_init 106 = .ok (.dup, 1) := by decide +kernel
theorem d_M_init_107 : decode b_M_init 107 = .ok (.iconst 2, 1) := by decide +kernel
theorem d_M_init_108 : decode b_M_init 108 = .ok (.iconst (-1), 1) := by decide +kernel
theorem d_M_init_109 : decode b_M_init 109 = .ok (.iastore, 1) := by decide +kernel
theorem d_M_init_110 : decode b_M_init 110 = .ok (.dup, 1) := by decide +kernel
theorem d_M_init_111 : decode b_M_init 111 = .ok (.iconst 3, 1) := by decide +kernel
theorem d_M_init_112 : decode b_M_init 112 = .ok (.iconst (-1), 1) := by decide +kernel
theorem d_M_init_113 : decode b_M_init 113 = .ok (.iastore, 1) := by decide +kernel
theorem d_M_init_114 : decode b_M_init 114 = .ok (.putfield 43, 3) := by decide +kernel
theorem d_M_init_117 : decode b_M_init 117 = .ok (.aload_n 0, 1) := by decide +kernel
theorem d_M_init_118 : decode b_M_init 118 = .ok (.iconst 4, 1) := by decide +kernel
theorem d_M_init_119 : decode b_M_init 119 = .ok (.newarray .int, 2) := by decide +kernel
theorem d_M_init_121 : decode b_M_init 121 = .ok (.putfield 46, 3) := by decide +kernel
theorem d_M_init_124 : decode b_M_init 124 = .ok (.aload_n 0, 1) := by decide +kernel
theorem d_M_init_125 : decode b_M_init 125 = .ok (.iconst 4, 1) := by decide +kernel
theorem d_M_init_126 : decode b_M_init 126 = .ok (.newarray .int, 2) := by decide +kernel
theorem d_M_init_128 : decode b_M_init 128 = .ok (.putfield 49, 3) := by decide +kernel
theorem d_M_init_131 : decode b_M_init 131 = .ok (.aload_n 0, 1) := by decide +kernel
theorem d_M_init_132 : decode b_M_init 132 = .ok (.iconst 4, 1) := by decide +kernel
theorem d_M_init_133 : decode b_M_init 133 = .ok (.newarray .int, 2) := by decide +kernel
theorem d_M_init_135 : decode b_M_init 135 = .ok (.putfield 52, 3) := by decide +kernel
theorem d_M_init_138 : decode b_M_init 138 = .ok (.return_, 1) := by decide +kernel
theorem d_M_thrown_0 : decode b_M_thrown 0 = .ok (.aload_n 0, 1) := by decide +kernel
theorem d_M_thrown_1 : decode b_M_thrown 1 = .ok (.getfield 55, 3) := by decide +kernel
theorem d_M_thrown_4 : decode b_M_thrown 4 = .ok (.ireturn, 1) := by decide +kernel
theorem d_M_fail_0 : decode b_M_fail 0 = .ok (.aload_n 0, 1) := by decide +kernel
theorem d_M_fail_1 : decode b_M_fail 1 = .ok (.iload_n 1, 1) := by decide +kernel
theorem d_M_fail_2 : decode b_M_fail 2 = .ok (.putfield 55, 3) := by decide +kernel
theorem d_M_fail_5 : decode b_M_fail 5 = .ok (.iconst 0, 1) := by decide +kernel
theorem d_M_fail_6 : decode b_M_fail 6 = .ok (.ireturn, 1) := by decide +kernel
theorem d_M_isThere_0 : decode b_M_isThere 0 = .ok (.iload_n 1, 1) := by decide +kernel
theorem d_M_isThere_1 : decode b_M_isThere 1 = .ok (.ifCond .lt 15, 3) := by decide +kernel
theorem d_M_isThere_4 : decode b_M_isThere 4 = .ok (.iload_n 1, 1) := by decide +kernel
theorem d_M_isThere_5 : decode b_M_isThere 5 = .ok (.aload_n 0, 1) := by decide +kernel
theorem d_M_isThere_6 : decode b_M_isThere 6 = .ok (.getfield 59, 3) := by decide +kernel
theorem d_M_isThere_9 : decode b_M_isThere 9 = .ok (.if_icmp .ge 7, 3) := by decide +kernel
theorem d_M_isThere_12 : decode b_M_isThere 12 = .ok (.iconst 1, 1) := by decide +kernel
theorem d_M_isThere_13 : decode b_M_isThere 13 = .ok (.goto 4, 3) := by decide +kernel
theorem d_M_isThere_16 : decode b_M_isThere 16 = .ok (.iconst 0, 1) := by decide +kernel
theorem d_M_isThere_17 : decode b_M_isThere 17 = .ok (.ireturn, 1) := by decide +kernel
theorem d_M_isList_0 : decode b_M_isList 0 = .ok (.aload_n 0, 1) := by decide +kernel
theorem d_M_isList_1 : decode b_M_isList 1 = .ok (.getfield 7, 3) := by decide +kernel
theorem d_M_isList_4 : decode b_M_isList 4 = .ok (.iload_n 1, 1) := by decide +kernel
theorem d_M_isList_5 : decode b_M_isList 5 = .ok (.iaload, 1) := by decide +kernel
theorem d_M_isList_6 : decode b_M_isList 6 = .ok (.iconst 1, 1) := by decide +kernel
theorem d_M_isList_7 : decode b_M_isList 7 = .ok (.if_icmp .le 14, 3) := by decide +kernel
theorem d_M_isList_10 : decode b_M_isList 10 = .ok (.aload_n 0, 1) := by decide +kernel
theorem d_M_isList_11 : decode b_M_isList 11 = .ok (.getfield 7, 3) := by decide +kernel
theorem d_M_isList_14 : decode b_M_isList 14 = .ok (.iload_n 1, 1) := by decide +kernel
theorem d_M_isList_15 : decode b_M_isList 15 = .ok (.iaload, 1) := by decide +kernel
theorem d_M_isList_16 : decode b_M_isList 16 = .ok (.bipush 6, 2) := by decide +kernel
theorem d_M_isList_18 : decode b_M_isList 18 = .ok (.if_icmp .ne 7, 3) := by decide +kernel
theorem d_M_isList_21 : decode b_M_isList 21 = .ok (.iconst 1, 1) := by decide +kernel
theorem d_M_isList_22 : decode b_M_isList 22 = .ok (.goto 4, 3) := by decide +kernel
theorem d_M_isList_25 : decode b_M_isList 25 = .ok (.iconst 0, 1) := by decide +kernel
theorem d_M_isList_26 : decode b_M_isList 26 = .ok (.ireturn, 1) := by decide +kernel
theorem d_M_isMap_0 : decode b_M_isMap 0 = .ok (.aload_n 0, 1) := by decide +kernel
theorem d_M_isMap_1 : decode b_M_isMap 1 = .ok (.iload_n 1, 1) := by decide +kernel
theorem d_M_isMap_2 : decode b_M_isMap 2 = .ok (.invokevirtual 62, 3) := by decide +kernel
theorem d_M_isMap_5 : decode b_M_isMap 5 = .ok (.ifCond .ne 17, 3) := by decide +kernel
theorem d_M_isMap_8 : decode b_M_isMap 8 = .ok (.aload_n 0, 1) := by decide +kernel
theorem d_M_isMap_9 : decode b_M_isMap 9 = .ok (.getfield 7, 3) := by decide +kernel
theorem d_M_isMap_12 : decode b_M_isMap 12 = .ok (.iload_n 1, 1) := by decide +kernel
theorem d_M_isMap_13 : decode b_M_isMap 13 = .ok (.iaload, 1) := by decide +kernel
theorem d_M_isMap_14 : decode b_M_isMap 14 = .ok (.iconst 5, 1) := by decide +kernel
theorem d_M_isMap_15 : decode b_M_isMap 15 = .ok (.if_icmp .eq 7, 3) := by decide +kernel
theorem d_M_isMap_18 : decode b_M_isMap 18 = .ok (.iconst 1, 1) := by decide +kernel
theorem d_M_isMap_19 : decode b_M_isMap 19 = .ok (.goto 4, 3) := by decide +kernel
theorem d_M_isMap_22 : decode b_M_isMap 22 = .ok (.iconst 0, 1) := by decide +kernel
theorem d_M_isMap_23 : decode b_M_isMap 23 = .ok (.ireturn, 1) := by decide +kernel
theorem d_M_isTree_0 : decode b_M_isTree 0 = .ok (.aload_n 0, 1) := by decide +kernel
theorem d_M_isTree_1 : decode b_M_isTree 1 = .ok (.getfield 7, 3) := by decide +kernel
theorem d_M_isTree_4 : decode b_M_isTree 4 = .ok (.iload_n 1, 1) := by decide +kernel
theorem d_M_isTree_5 : decode b_M_isTree 5 = .ok (.iaload, 1) := by decide +kernel
theorem d_M_isTree_6 : decode b_M_isTree 6 = .ok (.iconst 4, 1) := by decide +kernel
theorem d_M_isTree_7 : decode b_M_isTree 7 = .ok (.if_icmp .eq 14, 3) := by decide +kernel
theorem d_M_isTree_10 : decode b_M_isTree 10 = .ok (.aload_n 0, 1) := by decide +kernel
theorem d_M_isTree_11 : decode b_M_isTree 11 = .ok (.getfield 7, 3) := by decide +kernel
theorem d_M_isTree_14 : decode b_M_isTree 14 = .ok (.iload_n 1, 1) := by decide +kernel
theorem d_M_isTree_15 : decode b_M_isTree 15 = .ok (.iaload, 1) := by decide +kernel
theorem d_M_isTree_16 : decode b_M_isTree 16 = .ok (.bipush 7, 2) := by decide +kernel
theorem d_M_isTree_18 : decode b_M_isTree 18 = .ok (.if_icmp .ne 7, 3) := by decide +kernel
theorem d_M_isTree_21 : decode b_M_isTree 21 = .ok (.iconst 1, 1) := by decide +kernel
theorem d_M_isTree_22 : decode b_M_isTree 22 = .ok (.goto 4, 3) := by decide +kernel
theorem d_M_isTree_25 : decode b_M_isTree 25 = .ok (.iconst 0, 1) := by decide +kernel
theorem d_M_isTree_26 : decode b_M_isTree 26 = .ok (.ireturn, 1) := by decide +kernel
theorem d_M_hashes_0 : decode b_M_hashes 0 = .ok (.aload_n 0, 1) := by decide +kernel
theorem d_M_hashes_1 : decode b_M_hashes 1 = .ok (.getfield 7, 3) := by decide +kernel
theorem d_M_hashes_4 : decode b_M_hashes 4 = .ok (.iload_n 1, 1) := by decide +kernel
theorem d_M_hashes_5 : decode b_M_hashes 5 = .ok (.iaload, 1) := by decide +kernel
theorem d_M_hashes_6 : decode b_M_hashes 6 = .ok (.iconst 2, 1) := by decide +kernel
theorem d_M_hashes_7 : decode b_M_hashes 7 = .ok (.if_icmp .eq 13, 3) := by decide +kernel
theorem d_M_hashes_10 : decode b_M_hashes 10 = .ok (.aload_n 0, 1) := by decide +kernel
theorem d_M_hashes_11 : decode b_M_hashes 11 = .ok (.getfield 7, 3) := by decide +kernel
theorem d_M_hashes_14 : decode b_M_hashes 14 = .ok (.iload_n 1, 1) := by decide +kernel
theorem d_M_hashes_15 : decode b_M_hashes 15 = .ok (.iaload, 1) := by decide +kernel
theorem d_M_hashes_16 : decode b_M_hashes 16 = .ok (.iconst 3, 1) := by decide +kernel
theorem d_M_hashes_17 : decode b_M_hashes 17 = .ok (.if_icmp .ne 7, 3) := by decide +kernel
theorem d_M_hashes_20 : decode b_M_hashes 20 = .ok (.iconst 1, 1) := by decide +kernel
theorem d_M_hashes_21 : decode b_M_hashes 21 = .ok (.goto 4, 3) := by decide +kernel
theorem d_M_hashes_24 : decode b_M_hashes 24 = .ok (.iconst 0, 1) := by decide +kernel
theorem d_M_hashes_25 : decode b_M_hashes 25 = .ok (.ireturn, 1) := by decide +kernel
theorem d_M_isStale_0 : decode b_M_isStale 0 = .ok (.iconst 0, 1) := by decide +kernel
theorem d_M_isStale_1 : decode b_M_isStale 1 = .ok (.istore_n 2, 1) := by decide +kernel
theorem d_M_isStale_2 : decode b_M_isStale 2 = .ok (.iload_n 1, 1) := by decide +kernel
theorem d_M_isStale_3 : decode b_M_isStale 3 = .ok (.istore_n 3, 1) := by decide +kernel
theorem d_M_isStale_4 : decode b_M_isStale 4 = .ok (.aload_n 0, 1) := by decide +kernel
theorem d_M_isStale_5 : decode b_M_isStale 5 = .ok (.getfield 7, 3) := by decide +kernel
theorem d_M_isStale_8 : decode b_M_isStale 8 = .ok (.iload_n 3, 1) := by decide +kernel
theorem d_M_isStale_9 : decode b_M_isStale 9 = .ok (.iaload, 1) := by decide +kernel
theorem d_M_isStale_10 : decode b_M_isStale 10 = .ok (.bipush 6, 2) := by decide +kernel
theorem d_M_isStale_12 : decode b_M_isStale 12 = .ok (.if_icmp .ne 43, 3) := by decide +kernel
theorem d_M_isStale_15 : decode b_M_isStale 15 = .ok (.iload_n 2, 1) := by decide +kernel
theorem d_M_isStale_16 : decode b_M_isStale 16 = .ok (.ifCond .ne 23, 3) := by decide +kernel
theorem d_M_isStale_19 : decode b_M_isStale 19 = .ok (.aload_n 0, 1) := by decide +kernel
theorem d_M_isStale_20 : decode b_M_isStale 20 = .ok (.getfield 40, 3) := by decide +kernel
theorem d_M_isStale_23 : decode b_M_isStale 23 = .ok (.iload_n 3, 1) := by decide +kernel
theorem d_M_isStale_24 : decode b_M_isStale 24 = .ok (.iaload, 1) := by decide +kernel
theorem d_M_isStale_25 : decode b_M_isStale 25 = .ok (.aload_n 0, 1) := by decide +kernel
theorem d_M_isStale_26 : decode b_M_isStale 26 = .ok (.getfield 28, 3) := by decide +kernel
theorem d_M_isStale_29 : decode b_M_isStale 29 = .ok (.aload_n 0, 1) := by decide +kernel
theorem d_M_isStale_30 : decode b_M_isStale 30 = .ok (.getfield 16, 3) := by decide +kernel
theorem d_M_isStale_33 : decode b_M_isStale 33 = .ok (.iload_n 3, 1) := by decide +kernel
theorem d_M_isStale_34 : decode b_M_isStale 34 = .ok (.iaload, 1) := by decide +kernel
theorem d_M_isStale_35 : decode b_M_isStale 35 = .ok (.iaload, 1) := by decide +kernel
theorem d_M_isStale_36 : decode b_M_isStale 36 = .ok (.if_icmp .eq 7, 3) := by decide +kernel
theorem d_M_isStale_39 : decode b_M_isStale 39 = .ok (.iconst 1, 1) := by decide +kernel
theorem d_M_isStale_40 : decode b_M_isStale 40 = .ok (.goto 4, 3) := by decide +kernel
theorem d_M_isStale_43 : decode b_M_isStale 43 = .ok (.iconst 0, 1) := by decide +kernel
theorem d_M_isStale_44 : decode b_M_isStale 44 = .ok (.istore_n 2, 1) := by decide +kernel
theorem d_M_isStale_45 : decode b_M_isStale 45 = .ok (.aload_n 0, 1) := by decide +kernel
theorem d_M_isStale_46 : decode b_M_isStale 46 = .ok (.getfield 13, 3) := by decide +kernel
theorem d_M_isStale_49 : decode b_M_isStale 49 = .ok (.iload_n 3, 1) := by decide +kernel
theorem d_M_isStale_50 : decode b_M_isStale 50 = .ok (.iaload, 1) := by decide +kernel
theorem d_M_isStale_51 : decode b_M_isStale 51 = .ok (.istore_n 3, 1) := by decide +kernel
theorem d_M_isStale_52 : decode b_M_isStale 52 = .ok (.goto (-48), 3) := by decide +kernel
theorem d_M_isStale_55 : decode b_M_isStale 55 = .ok (.iload_n 2, 1) := by decide +kernel
theorem d_M_isStale_56 : decode b_M_isStale 56 = .ok (.ireturn, 1) := by decide +kernel
theorem d_M_make_0 : decode b_M_make 0 = .ok (.aload_n 0, 1) := by decide +kernel
theorem d_M_make_1 : decode b_M_make 1 = .ok (.getfield 59, 3) := by decide +kernel
theorem d_M_make_4 : decode b_M_make 4 = .ok (.istore_n 3, 1) := by decide +kernel
theorem d_M_make_5 : decode b_M_make 5 = .ok (.aload_n 0, 1) := by decide +kernel
theorem d_M_make_6 : decode b_M_make 6 = .ok (.getfield 7, 3) := by decide +kernel
theorem d_M_make_9 : decode b_M_make 9 = .ok (.iload_n 3, 1) := by decide +kernel
theorem d_M_make_10 : decode b_M_make 10 = .ok (.iload_n 1, 1) := by decide +kernel
theorem d_M_make_11 : decode b_M_make 11 = .ok (.iastore, 1) := by decide +kernel
theorem d_M_make_12 : decode b_M_make 12 = .ok (.aload_n 0, 1) := by decide +kernel
theorem d_M_make_13 : decode b_M_make 13 = .ok (.getfield 13, 3) := by decide +kernel
theorem d_M_make_16 : decode b_M_make 16 = .ok (.iload_n 3, 1) := by decide +kernel
theorem d_M_make_17 : decode b_M_make 17 = .ok (.iload_n 2, 1) := by decide +kernel
theorem d_M_make_18 : decode b_M_make 18 = .ok (.iastore, 1) := by decide +kernel
theorem d_M_make_19 : decode b_M_make 19 = .ok (.aload_n 0, 1) := by decide +kernel
theorem d_M_make_20 : decode b_M_make 20 = .ok (.getfield 16, 3) := by decide +kernel
theorem d_M_make_23 : decode b_M_make 23 = .ok (.iload_n 3, 1) := by decide +kernel
theorem d_M_make_24 : decode b_M_make 24 = .ok (.iload_n 2, 1) := by decide +kernel
theorem d_M_make_25 : decode b_M_make 25 = .ok (.iconst (-1), 1) := by decide +kernel
theorem d_M_make_26 : decode b_M_make 26 = .ok (.if_icmp .ne 7, 3) := by decide +kernel
theorem d_M_make_29 : decode b_M_make 29 = .ok (.iload_n 3, 1) := by decide +kernel
theorem d_M_make_30 : decode b_M_make 30 = .ok (.goto 9, 3) := by decide +kernel
theorem d_M_make_33 : decode b_M_make 33 = .ok (.aload_n 0, 1) := by decide +kernel
theorem d_M_make_34 : decode b_M_make 34 = .ok (.getfield 16, 3) := by decide +kernel
theorem d_M_make_37 : decode b_M_make 37 = .ok (.iload_n 2, 1) := by decide +kernel
theorem d_M_make_38 : decode b_M_make 38 = .ok (.iaload, 1) := by decide +kernel
theorem d_M_make_39 : decode b_M_make 39 = .ok (.iastore, 1) := by decide +kernel
theorem d_M_make_40 : decode b_M_make 40 = .ok (.aload_n 0, 1) := by decide +kernel
theorem d_M_make_41 : decode b_M_make 41 = .ok (.getfield 25, 3) := by decide +kernel
theorem d_M_make_44 : decode b_M_make 44 = .ok (.iload_n 3, 1) := by decide +kernel
theorem d_M_make_45 : decode b_M_make 45 = .ok (.iconst 0, 1) := by decide +kernel
theorem d_M_make_46 : decode b_M_make 46 = .ok (.iastore, 1) := by decide +kernel
theorem d_M_make_47 : decode b_M_make 47 = .ok (.aload_n 0, 1) := by decide +kernel
theorem d_M_make_48 : decode b_M_make 48 = .ok (.getfield 28, 3) := by decide +kernel
theorem d_M_make_51 : decode b_M_make 51 = .ok (.iload_n 3, 1) := by decide +kernel
theorem d_M_make_52 : decode b_M_make 52 = .ok (.iconst 0, 1) := by decide +kernel
theorem d_M_make_53 : decode b_M_make 53 = .ok (.iastore, 1) := by decide +kernel
theorem d_M_make_54 : decode b_M_make 54 = .ok (.aload_n 0, 1) := by decide +kernel
theorem d_M_make_55 : decode b_M_make 55 = .ok (.getfield 31, 3) := by decide +kernel
theorem d_M_make_58 : decode b_M_make 58 = .ok (.iload_n 3, 1) := by decide +kernel
theorem d_M_make_59 : decode b_M_make 59 = .ok (.iconst 4, 1) := by decide +kernel
theorem d_M_make_60 : decode b_M_make 60 = .ok (.iastore, 1) := by decide +kernel
theorem d_M_make_61 : decode b_M_make 61 = .ok (.aload_n 0, 1) := by decide +kernel
theorem d_M_make_62 : decode b_M_make 62 = .ok (.dup, 1) := by decide +kernel
theorem d_M_make_63 : decode b_M_make 63 = .ok (.getfield 59, 3) := by decide +kernel
theorem d_M_make_66 : decode b_M_make 66 = .ok (.iconst 1, 1) := by decide +kernel
theorem d_M_make_67 : decode b_M_make 67 = .ok (.iadd, 1) := by decide +kernel
theorem d_M_make_68 : decode b_M_make 68 = .ok (.putfield 59, 3) := by decide +kernel
theorem d_M_make_71 : decode b_M_make 71 = .ok (.iload_n 3, 1) := by decide +kernel
theorem d_M_make_72 : decode b_M_make 72 = .ok (.ireturn, 1) := by decide +kernel
theorem d_M_create_0 : decode b_M_create 0 = .ok (.aload_n 0, 1) := by decide +kernel
theorem d_M_create_1 : decode b_M_create 1 = .ok (.iload_n 1, 1) := by decide +kernel
theorem d_M_create_2 : decode b_M_create 2 = .ok (.ifCond .lt 8, 3) := by decide +kernel
theorem d_M_create_5 : decode b_M_create 5 = .ok (.iload_n 1, 1) := by decide +kernel
theorem d_M_create_6 : decode b_M_create 6 = .ok (.iconst 5, 1) := by decide +kernel
theorem d_M_create_7 : decode b_M_create 7 = .ok (.if_icmp .le 7, 3) := by decide +kernel
theorem d_M_create_10 : decode b_M_create 10 = .ok (.iconst 1, 1) := by decide +kernel
theorem d_M_create_11 : decode b_M_create 11 = .ok (.goto 17, 3) := by decide +kernel
theorem d_M_create_14 : decode b_M_create 14 = .ok (.aload_n 0, 1) := by decide +kernel
theorem d_M_create_15 : decode b_M_create 15 = .ok (.getfield 59, 3) := by decide +kernel
theorem d_M_create_18 : decode b_M_create 18 = .ok (.bipush 10, 2) := by decide +kernel
theorem d_M_create_20 : decode b_M_create 20 = .ok (.if_icmp .ne 7, 3) := by decide +kernel
theorem d_M_create_23 : decode b_M_create 23 = .ok (.iconst 2, 1) := by decide +kernel
theorem d_M_create_24 : decode b_M_create 24 = .ok (.goto 4, 3) := by decide +kernel
theorem d_M_create_27 : decode b_M_create 27 = .ok (.iconst 0, 1) := by decide +kernel
theorem d_M_create_28 : decode b_M_create 28 = .ok (.putfield 55, 3) := by decide +kernel
theorem d_M_create_31 : decode b_M_create 31 = .ok (.aload_n 0, 1) := by decide +kernel
theorem d_M_create_32 : decode b_M_create 32 = .ok (.getfield 55, 3) := by decide +kernel
theorem d_M_create_35 : decode b_M_create 35 = .ok (.ifCond .le 7, 3) := by decide +kernel
theorem d_M_create_38 : decode b_M_create 38 = .ok (.iconst 0, 1) := by decide +kernel
theorem d_M_create_39 : decode b_M_create 39 = .ok (.goto 9, 3) := by decide +kernel
theorem d_M_create_42 : decode b_M_create 42 = .ok (.aload_n 0, 1) := by decide +kernel
theorem d_M_create_43 : decode b_M_create 43 = .ok (.iload_n 1, 1) := by decide +kernel
theorem d_M_create_44 : decode b_M_create 44 = .ok (.iconst (-1), 1) := by decide +kernel
theorem d_M_create_45 : decode b_M_create 45 = .ok (.invokevirtual 66, 3) := by decide +kernel
theorem d_M_create_48 : decode b_M_create 48 = .ok (.ireturn, 1) := by decide +kernel
theorem d_M_view_0 : decode b_M_view 0 = .ok (.aload_n 0, 1) := by decide +kernel
theorem d_M_view_1 : decode b_M_view 1 = .ok (.aload_n 0, 1) := by decide +kernel
theorem d_M_view_2 : decode b_M_view 2 = .ok (.iload_n 1, 1) := by decide +kernel
theorem d_M_view_3 : decode b_M_view 3 = .ok (.invokevirtual 70, 3) := by decide +kernel
theorem d_M_view_6 : decode b_M_view 6 = .ok (.ifCond .ne 7, 3) := by decide +kernel
theorem d_M_view_9 : decode b_M_view 9 = .ok (.iconst 1, 1) := by decide +kernel
theorem d_M_view_10 : decode b_M_view 10 = .ok (.goto 36, 3) := by decide +kernel
theorem d_M_view_13 : decode b_M_view 13 = .ok (.aload_n 0, 1) := by decide +kernel
theorem d_M_view_14 : decode b_M_view 14 = .ok (.iload_n 1, 1) := by decide +kernel
theorem d_M_view_15 : decode b_M_view 15 = .ok (.invokevirtual 62, 3) := by decide +kernel
theorem d_M_view_18 : decode b_M_view 18 = .ok (.ifCond .ne 15, 3) := by decide +kernel
theorem d_M_view_21 : decode b_M_view 21 = .ok (.aload_n 0, 1) := by decide +kernel
theorem d_M_view_22 : decode b_M_view 22 = .ok (.iload_n 1, 1) := by decide +kernel
theorem d_M_view_23 : decode b_M_view 23 = .ok (.invokevirtual 73, 3) := by decide +kernel
theorem d_M_view_26 : decode b_M_view 26 = .ok (.ifCond .ne 7, 3) := by decide +kernel
theorem d_M_view_29 : decode b_M_view 29 = .ok (.iconst 2, 1) := by decide +kernel
theorem d_M_view_30 : decode b_M_view 30 = .ok (.goto 16, 3) := by decide +kernel
theorem d_M_view_33 : decode b_M_view 33 = .ok (.aload_n 0, 1) := by decide +kernel
theorem d_M_view_34 : decode b_M_view 34 = .ok (.iload_n 1, 1) := by decide +kernel
theorem d_M_view_35 : decode b_M_view 35 = .ok (.invokevirtual 76, 3) := by decide +kernel
theorem d_M_view_38 : decode b_M_view 38 = .ok (.ifCond .eq 7, 3) := by decide +kernel
theorem d_M_view_41 : decode b_M_view 41 = .ok (.iconst 5, 1) := by decide +kernel
theorem d_M_view_42 : decode b_M_view 42 = .ok (.goto 4, 3) := by decide +kernel
theorem d_M_view_45 : decode b_M_view 45 = .ok (.iconst 0, 1) := by decide +kernel
theorem d_M_view_46 : decode b_M_view 46 = .ok (.putfield 55, 3) := by decide +kernel
theorem d_M_view_49 : decode b_M_view 49 = .ok (.aload_n 0, 1) := by decide +kernel
theorem d_M_view_50 : decode b_M_view 50 = .ok (.getfield 55, 3) := by decide +kernel
theorem d_M_view_53 : decode b_M_view 53 = .ok (.ifCond .le 5, 3) := by decide +kernel
theorem d_M_view_56 : decode b_M_view 56 = .ok (.iconst 0, 1) := by decide +kernel
theorem d_M_view_57 : decode b_M_view 57 = .ok (.ireturn, 1) := by decide +kernel
theorem d_M_view_58 : decode b_M_view 58 = .ok (.iload_n 2, 1) := by decide +kernel
theorem d_M_view_59 : decode b_M_view 59 = .ok (.iload_n 3, 1) := by decide +kernel
theorem d_M_view_60 : decode b_M_view 60 = .ok (.if_icmp .gt 28, 3) := by decide +kernel
theorem d_M_view_63 : decode b_M_view 63 = .ok (.aload_n 0, 1) := by decide +kernel
theorem d_M_view_64 : decode b_M_view 64 = .ok (.iload_n 1, 1) := by decide +kernel
theorem d_M_view_65 : decode b_M_view 65 = .ok (.invokevirtual 73, 3) := by decide +kernel
theorem d_M_view_68 : decode b_M_view 68 = .ok (.ifCond .ne 16, 3) := by decide +kernel
theorem d_M_view_71 : decode b_M_view 71 = .ok (.iload_n 2, 1) := by decide +kernel
theorem d_M_view_72 : decode b_M_view 72 = .ok (.ifCond .lt 16, 3) := by decide +kernel
theorem d_M_view_75 : decode b_M_view 75 = .ok (.iload_n 3, 1) := by decide +kernel
theorem d_M_view_76 : decode b_M_view 76 = .ok (.aload_n 0, 1) := by decide +kernel
theorem d_M_view_77 : decode b_M_view 77 = .ok (.iload_n 1, 1) := by decide +kernel
theorem d_M_view_78 : decode b_M_view 78 = .ok (.invokevirtual 79, 3) := by decide +kernel
theorem d_M_view_81 : decode b_M_view 81 = .ok (.if_icmp .gt 7, 3) := by decide +kernel
theorem d_M_view_84 : decode b_M_view 84 = .ok (.iconst 1, 1) := by decide +kernel
theorem d_M_view_85 : decode b_M_view 85 = .ok (.goto 4, 3) := by decide +kernel
theorem d_M_view_88 : decode b_M_view 88 = .ok (.iconst 0, 1) := by decide +kernel
theorem d_M_view_89 : decode b_M_view 89 = .ok (.istore 4, 2) := by decide +kernel
theorem d_M_view_91 : decode b_M_view 91 = .ok (.aload_n 0, 1) := by decide +kernel
theorem d_M_view_92 : decode b_M_view 92 = .ok (.iload 4, 2) := by decide +kernel
theorem d_M_view_94 : decode b_M_view 94 = .ok (.ifCond .ne 7, 3) := by decide +kernel
theorem d_M_view_97 : decode b_M_view 97 = .ok (.iconst 3, 1) := by decide +kernel
theorem d_M_view_98 : decode b_M_view 98 = .ok (.goto 17, 3) := by decide +kernel
theorem d_M_view_101 : decode b_M_view 101 = .ok (.aload_n 0, 1) := by decide +kernel
theorem d_M_view_102 : decode b_M_view 102 = .ok (.getfield 59, 3) := by decide +kernel
theorem d_M_view_105 : decode b_M_view 105 = .ok (.bipush 10, 2) := by decide +kernel
theorem d_M_view_107 : decode b_M_view 107 = .ok (.if_icmp .ne 7, 3) := by decide +kernel
theorem d_M_view_110 : decode b_M_view 110 = .ok (.iconst 4, 1) := by decide +kernel
theorem d_M_view_111 : decode b_M_view 111 = .ok (.goto 4, 3) := by decide +kernel
theorem d_M_view_114 : decode b_M_view 114 = .ok (.iconst 0, 1) := by decide +kernel
theorem d_M_view_115 : decode b_M_view 115 = .ok (.putfield 55, 3) := by decide +kernel
theorem d_M_view_118 : decode b_M_view 118 = .ok (.aload_n 0, 1) := by decide +kernel
theorem d_M_view_119 : decode b_M_view 119 = .ok (.getfield 55, 3) := by decide +kernel
theorem d_M_view_122 : decode b_M_view 122 = .ok (.ifCond .le 5, 3) := by decide +kernel
theorem d_M_view_125 : decode b_M_view 125 = .ok (.iconst 0, 1) := by decide +kernel
theorem d_M_view_126 : decode b_M_view 126 = .ok (.ireturn, 1) := by decide +kernel
theorem d_M_view_127 : decode b_M_view 127 = .ok (.aload_n 0, 1) := by decide +kernel
theorem d_M_view_128 : decode b_M_view 128 = .ok (.iload_n 1, 1) := by decide +kernel
theorem d_M_view_129 : decode b_M_view 129 = .ok (.invokevirtual 73, 3) := by decide +kernel
theorem d_M_view_132 : decode b_M_view 132 = .ok (.istore 5, 2) := by decide +kernel
theorem d_M_view_134 : decode b_M_view 134 = .ok (.aload_n 0, 1) := by decide +kernel
theorem d_M_view_135 : decode b_M_view 135 = .ok (.iload 5, 2) := by decide +kernel
theorem d_M_view_137 : decode b_M_view 137 = .ok (.ifCond .eq 8, 3) := by decide +kernel
theorem d_M_view_140 : decode b_M_view 140 = .ok (.bipush 7, 2) := by decide +kernel
theorem d_M_view_142 : decode b_M_view 142 = .ok (.goto 5, 3) := by decide +kernel
theorem d_M_view_145 : decode b_M_view 145 = .ok (.bipush 6, 2) := by decide +kernel
theorem d_M_view_147 : decode b_M_view 147 = .ok (.iload_n 1, 1) := by decide +kernel
theorem d_M_view_148 : decode b_M_view 148 = .ok (.invokevirtual 66, 3) := by decide +kernel
theorem d_M_view_151 : decode b_M_view 151 = .ok (.istore 6, 2) := by decide +kernel
theorem d_M_view_153 : decode b_M_view 153 = .ok (.iload 5, 2) := by decide +kernel
theorem d_M_view_155 : decode b_M_view 155 = .ok (.ifCond .eq 88, 3) := by decide +kernel
theorem d_M_view_158 : decode b_M_view 158 = .ok (.aload_n 0, 1) := by decide +kernel
theorem d_M_view_159 : decode b_M_view 159 = .ok (.getfield 7, 3) := by decide +kernel
theorem d_M_view_162 : decode b_M_view 162 = .ok (.iload_n 1, 1) := by decide +kernel
theorem d_M_view_163 : decode b_M_view 163 = .ok (.iaload, 1) := by decide +kernel
theorem d_M_view_164 : decode b_M_view 164 = .ok (.bipush 7, 2) := by decide +kernel
theorem d_M_view_166 : decode b_M_view 166 = .ok (.if_icmp .ne 7, 3) := by decide +kernel
theorem d_M_view_169 : decode b_M_view 169 = .ok (.iconst 1, 1) := by decide +kernel
theorem d_M_view_170 : decode b_M_view 170 = .ok (.goto 4, 3) := by decide +kernel
theorem d_M_view_173 : decode b_M_view 173 = .ok (.iconst 0, 1) := by decide +kernel
theorem d_M_view_174 : decode b_M_view 174 = .ok (.istore 7, 2) := by decide +kernel
theorem d_M_view_176 : decode b_M_view 176 = .ok (.aload_n 0, 1) := by decide +kernel
theorem d_M_view_177 : decode b_M_view 177 = .ok (.getfield 34, 3) := by decide +kernel
theorem d_M_view_180 : decode b_M_view 180 = .ok (.iload 6, 2) := by decide +kernel
theorem d_M_view_182 : decode b_M_view 182 = .ok (.iload 7, 2) := by decide +kernel
theorem d_M_view_184 : decode b_M_view 184 = .ok (.ifCond .eq 22, 3) := by decide +kernel
theorem d_M_view_187 : decode b_M_view 187 = .ok (.aload_n 0, 1) := by decide +kernel
theorem d_M_view_188 : decode b_M_view 188 = .ok (.getfield 34, 3) := by decide +kernel
theorem d_M_view_191 : decode b_M_view 191 = .ok (.iload_n 1, 1) := by decide +kernel
theorem d_M_view_192 : decode b_M_view 192 = .ok (.iaload, 1) := by decide +kernel
theorem d_M_view_193 : decode b_M_view 193 = .ok (.iload_n 2, 1) := by decide +kernel
theorem d_M_view_194 : decode b_M_view 194 = .ok (.if_icmp .le 12, 3) := by decide +kernel
theorem d_M_view_197 : decode b_M_view 197 = .ok (.aload_n 0, 1) := by decide +kernel
theorem d_M_view_198 : decode b_M_view 198 = .ok (.getfield 34, 3) := by decide +kernel
theorem d_M_view_201 : decode b_M_view 201 = .ok (.iload_n 1, 1) := by decide +kernel
theorem d_M_view_202 : decode b_M_view 202 = .ok (.iaload, 1) := by decide +kernel
theorem d_M_view_203 : decode b_M_view 203 = .ok (.goto 4, 3) := by decide +kernel
theorem d_M_view_206 : decode b_M_view 206 = .ok (.iload_n 2, 1) := by decide +kernel
theorem d_M_view_207 : decode b_M_view 207 = .ok (.iastore, 1) := by decide +kernel
theorem d_M_view_208 : decode b_M_view 208 = .ok (.aload_n 0, 1) := by decide +kernel
theorem d_M_view_209 : decode b_M_view 209 = .ok (.getfield 37, 3) := by decide +kernel
theorem d_M_view_212 : decode b_M_view 212 = .ok (.iload 6, 2) := by decide +kernel
theorem d_M_view_214 : decode b_M_view 214 = .ok (.iload 7, 2) := by decide +kernel
theorem d_M_view_216 : decode b_M_view 216 = .ok (.ifCond .eq 22, 3) := by decide +kernel
theorem d_M_view_219 : decode b_M_view 219 = .ok (.aload_n 0, 1) := by decide +kernel
theorem d_M_view_220 : decode b_M_view 220 = .ok (.getfield 37, 3) := by decide +kernel
theorem d_M_view_223 : decode b_M_view 223 = .ok (.iload_n 1, 1) := by decide +kernel
theorem d_M_view_224 : decode b_M_view 224 = .ok (.iaload, 1) := by decide +kernel
theorem d_M_view_225 : decode b_M_view 225 = .ok (.iload_n 3, 1) := by decide +kernel
theorem d_M_view_226 : decode b_M_view 226 = .ok (.if_icmp .ge 12, 3) := by decide +kernel
theorem d_M_view_229 : decode b_M_view 229 = .ok (.aload_n 0, 1) := by decide +kernel
theorem d_M_view_230 : decode b_M_view 230 = .ok (.getfield 37, 3) := by decide +kernel
theorem d_M_view_233 : decode b_M_view 233 = .ok (.iload_n 1, 1) := by decide +kernel
theorem d_M_view_234 : decode b_M_view 234 = .ok (.iaload, 1) := by decide +kernel
theorem d_M_view_235 : decode b_M_view 235 = .ok (.goto 4, 3) := by decide +kernel
theorem d_M_view_238 : decode b_M_view 238 = .ok (.iload_n 3, 1) := by decide +kernel
theorem d_M_view_239 : decode b_M_view 239 = .ok (.iastore, 1) := by decide +kernel
theorem d_M_view_240 : decode b_M_view 240 = .ok (.iload 6, 2) := by decide +kernel
theorem d_M_view_242 : decode b_M_view 242 = .ok (.ireturn, 1) := by decide +kernel
theorem d_M_view_243 : decode b_M_view 243 = .ok (.aload_n 0, 1) := by decide +kernel
theorem d_M_view_244 : decode b_M_view 244 = .ok (.getfield 34, 3) := by decide +kernel
theorem d_M_view_247 : decode b_M_view 247 = .ok (.iload 6, 2) := by decide +kernel
theorem d_M_view_249 : decode b_M_view 249 = .ok (.aload_n 0, 1) := by decide +kernel
theorem d_M_view_250 : decode b_M_view 250 = .ok (.iload_n 1, 1) := by decide +kernel
theorem d_M_view_251 : decode b_M_view 251 = .ok (.invokevirtual 83, 3) := by decide +kernel
theorem d_M_view_254 : decode b_M_view 254 = .ok (.iload_n 2, 1) := by decide +kernel
theorem d_M_view_255 : decode b_M_view 255 = .ok (.iadd, 1) := by decide +kernel
theorem d_M_view_256 : decode b_M_view 256 = .ok (.iastore, 1) := by decide +kernel
theorem d_M_view_257 : decode b_M_view 257 = .ok (.aload_n 0, 1) := by decide +kernel
theorem d_M_view_258 : decode b_M_view 258 = .ok (.getfield 37, 3) := by decide +kernel
theorem d_M_view_261 : decode b_M_view 261 = .ok (.iload 6, 2) := by decide +kernel
theorem d_M_view_263 : decode b_M_view 263 = .ok (.iload_n 3, 1) := by decide +kernel
theorem d_M_view_264 : decode b_M_view 264 = .ok (.iload_n 2, 1) := by decide +kernel
theorem d_M_view_265 : decode b_M_view 265 = .ok (.isub, 1) := by decide +kernel
theorem d_M_view_266 : decode b_M_view 266 = .ok (.iastore, 1) := by decide +kernel
theorem d_M_view_267 : decode b_M_view 267 = .ok (.aload_n 0, 1) := by decide +kernel
theorem d_M_view_268 : decode b_M_view 268 = .ok (.getfield 40, 3) := by decide +kernel
theorem d_M_view_271 : decode b_M_view 271 = .ok (.iload 6, 2) := by decide +kernel
theorem d_M_view_273 : decode b_M_view 273 = .ok (.aload_n 0, 1) := by decide +kernel
theorem d_M_view_274 : decode b_M_view 274 = .ok (.getfield 28, 3) := by decide +kernel
theorem d_M_view_277 : decode b_M_view 277 = .ok (.aload_n 0, 1) := by decide +kernel
theorem d_M_view_278 : decode b_M_view 278 = .ok (.getfield 16, 3) := by decide +kernel
theorem d_M_view_281 : decode b_M_view 281 = .ok (.iload 6, 2) := by decide +kernel
theorem d_M_view_283 : decode b_M_view 283 = .ok (.iaload, 1) := by decide +kernel
theorem d_M_view_284 : decode b_M_view 284 = .ok (.iaload, 1) := by decide +kernel
theorem d_M_view_285 : decode b_M_view 285 = .ok (.iastore, 1) := by decide +kernel
theorem d_M_view_286 : decode b_M_view 286 = .ok (.iload 6, 2) := by decide +kernel
theorem d_M_view_288 : decode b_M_view 288 = .ok (.ireturn, 1) := by decide +kernel
theorem d_M_kind_0 : decode b_M_kind 0 = .ok (.aload_n 0, 1) := by decide +kernel
theorem d_M_kind_1 : decode b_M_kind 1 = .ok (.aload_n 0, 1) := by decide +kernel
theorem d_M_kind_2 : decode b_M_kind 2 = .ok (.iload_n 1, 1) := by decide +kernel
theorem d_M_kind_3 : decode b_M_kind 3 = .ok (.invokevirtual 70, 3) := by decide +kernel
theorem d_M_kind_6 : decode b_M_kind 6 = .ok (.ifCond .eq 7, 3) := by decide +kernel
theorem d_M_kind_9 : decode b_M_kind 9 = .ok (.iconst 0, 1) := by decide +kernel
theorem d_M_kind_10 : decode b_M_kind 10 = .ok (.goto 4, 3) := by decide +kernel
theorem d_M_kind_13 : decode b_M_kind 13 = .ok (.iconst 1, 1) := by decide +kernel
theorem d_M_kind_14 : decode b_M_kind 14 = .ok (.putfield 55, 3) := by decide +kernel
theorem d_M_kind_17 : decode b_M_kind 17 = .ok (.aload_n 0, 1) := by decide +kernel
theorem d_M_kind_18 : decode b_M_kind 18 = .ok (.getfield 55, 3) := by decide +kernel
theorem d_M_kind_21 : decode b_M_kind 21 = .ok (.ifCond .le 7, 3) := by decide +kernel
theorem d_M_kind_24 : decode b_M_kind 24 = .ok (.iconst 0, 1) := by decide +kernel
theorem d_M_kind_25 : decode b_M_kind 25 = .ok (.goto 9, 3) := by decide +kernel
theorem d_M_kind_28 : decode b_M_kind 28 = .ok (.aload_n 0, 1) := by decide +kernel
theorem d_M_kind_29 : decode b_M_kind 29 = .ok (.getfield 7, 3) := by decide +kernel
theorem d_M_kind_32 : decode b_M_kind 32 = .ok (.iload_n 1, 1) := by decide +kernel
theorem d_M_kind_33 : decode b_M_kind 33 = .ok (.iaload, 1) := by decide +kernel
theorem d_M_kind_34 : decode b_M_kind 34 = .ok (.ireturn, 1) := by decide +kernel
theorem d_M_isIn_0 : decode b_M_isIn 0 = .ok (.aload_n 0, 1) := by decide +kernel
theorem d_M_isIn_1 : decode b_M_isIn 1 = .ok (.getfield 7, 3) := by decide +kernel
theorem d_M_isIn_4 : decode b_M_isIn 4 = .ok (.iload_n 1, 1) := by decide +kernel
theorem d_M_isIn_5 : decode b_M_isIn 5 = .ok (.iaload, 1) := by decide +kernel
theorem d_M_isIn_6 : decode b_M_isIn 6 = .ok (.bipush 7, 2) := by decide +kernel
theorem d_M_isIn_8 : decode b_M_isIn 8 = .ok (.if_icmp .ne 23, 3) := by decide +kernel
theorem d_M_isIn_11 : decode b_M_isIn 11 = .ok (.iload_n 2, 1) := by decide +kernel
theorem d_M_isIn_12 : decode b_M_isIn 12 = .ok (.aload_n 0, 1) := by decide +kernel
theorem d_M_isIn_13 : decode b_M_isIn 13 = .ok (.getfield 34, 3) := by decide +kernel
theorem d_M_isIn_16 : decode b_M_isIn 16 = .ok (.iload_n 1, 1) := by decide +kernel
theorem d_M_isIn_17 : decode b_M_isIn 17 = .ok (.iaload, 1) := by decide +kernel
theorem d_M_isIn_18 : decode b_M_isIn 18 = .ok (.if_icmp .lt 17, 3) := by decide +kernel
theorem d_M_isIn_21 : decode b_M_isIn 21 = .ok (.iload_n 2, 1) := by decide +kernel
theorem d_M_isIn_22 : decode b_M_isIn 22 = .ok (.aload_n 0, 1) := by decide +kernel
theorem d_M_isIn_23 : decode b_M_isIn 23 = .ok (.getfield 37, 3) := by decide +kernel
theorem d_M_isIn_26 : decode b_M_isIn 26 = .ok (.iload_n 1, 1) := by decide +kernel
theorem d_M_isIn_27 : decode b_M_isIn 27 = .ok (.iaload, 1) := by decide +kernel
theorem d_M_isIn_28 : decode b_M_isIn 28 = .ok (.if_icmp .gt 7, 3) := by decide +kernel
theorem d_M_isIn_31 : decode b_M_isIn 31 = .ok (.iconst 1, 1) := by decide +kernel
theorem d_M_isIn_32 : decode b_M_isIn 32 = .ok (.goto 4, 3) := by decide +kernel
theorem d_M_isIn_35 : decode b_M_isIn 35 = .ok (.iconst 0, 1) := by decide +kernel
theorem d_M_isIn_36 : decode b_M_isIn 36 = .ok (.ireturn, 1) := by decide +kernel
theorem d_M_placeIn_0 : decode b_M_placeIn 0 = .ok (.aload_n 0, 1) := by decide +kernel
theorem d_M_placeIn_1 : decode b_M_placeIn 1 = .ok (.getfield 7, 3) := by decide +kernel
theorem d_M_placeIn_4 : decode b_M_placeIn 4 = .ok (.iload_n 1, 1) := by decide +kernel
theorem d_M_placeIn_5 : decode b_M_placeIn 5 = .ok (.iaload, 1) := by decide +kernel
theorem d_M_placeIn_6 : decode b_M_placeIn 6 = .ok (.bipush 6, 2) := by decide +kernel
theorem d_M_placeIn_8 : decode b_M_placeIn 8 = .ok (.if_icmp .ne 10, 3) := by decide +kernel
theorem d_M_placeIn_11 : decode b_M_placeIn 11 = .ok (.aload_n 0, 1) := by decide +kernel
theorem d_M_placeIn_12 : decode b_M_placeIn 12 = .ok (.getfield 34, 3) := by decide +kernel
theorem d_M_placeIn_15 : decode b_M_placeIn 15 = .ok (.iload_n 1, 1) := by decide +kernel
theorem d_M_placeIn_16 : decode b_M_placeIn 16 = .ok (.iaload, 1) := by decide +kernel
theorem d_M_placeIn_17 : decode b_M_placeIn 17 = .ok (.ireturn, 1) := by decide +kernel
theorem d_M_placeIn_18 : decode b_M_placeIn 18 = .ok (.aload_n 0, 1) := by decide +kernel
theorem d_M_placeIn_19 : decode b_M_placeIn 19 = .ok (.getfield 7, 3) := by decide +kernel
theorem d_M_placeIn_22 : decode b_M_placeIn 22 = .ok (.iload_n 1, 1) := by decide +kernel
theorem d_M_placeIn_23 : decode b_M_placeIn 23 = .ok (.iaload, 1) := by decide +kernel
theorem d_M_placeIn_24 : decode b_M_placeIn 24 = .ok (.bipush 7, 2) := by decide +kernel
theorem d_M_placeIn_26 : decode b_M_placeIn 26 = .ok (.if_icmp .eq 5, 3) := by decide +kernel
theorem d_M_placeIn_29 : decode b_M_placeIn 29 = .ok (.iconst 0, 1) := by decide +kernel
theorem d_M_placeIn_30 : decode b_M_placeIn 30 = .ok (.ireturn, 1) := by decide +kernel
theorem d_M_placeIn_31 : decode b_M_placeIn 31 = .ok (.iconst 0, 1) := by decide +kernel
theorem d_M_placeIn_32 : decode b_M_placeIn 32 = .ok (.istore_n 2, 1) := by decide +kernel
theorem d_M_placeIn_33 : decode b_M_placeIn 33 = .ok (.iload_n 2, 1) := by decide +kernel
theorem d_M_placeIn_34 : decode b_M_placeIn 34 = .ok (.aload_n 0, 1) := by decide +kernel
theorem d_M_placeIn_35 : decode b_M_placeIn 35 = .ok (.getfield 25, 3) := by decide +kernel
theorem d_M_placeIn_38 : decode b_M_placeIn 38 = .ok (.aload_n 0, 1) := by decide +kernel
theorem d_M_placeIn_39 : decode b_M_placeIn 39 = .ok (.getfield 16, 3) := by decide +kernel
theorem d_M_placeIn_42 : decode b_M_placeIn 42 = .ok (.iload_n 1, 1) := by decide +kernel
theorem d_M_placeIn_43 : decode b_M_placeIn 43 = .ok (.iaload, 1) := by decide +kernel
theorem d_M_placeIn_44 : decode b_M_placeIn 44 = .ok (.iaload, 1) := by decide +kernel
theorem d_M_placeIn_45 : decode b_M_placeIn 45 = .ok (.if_icmp .ge 34, 3) := by decide +kernel
theorem d_M_placeIn_48 : decode b_M_placeIn 48 = .ok (.aload_n 0, 1) := by decide +kernel
theorem d_M_placeIn_49 : decode b_M_placeIn 49 = .ok (.getfield 19, 3) := by decide +kernel
theorem d_M_placeIn_52 : decode b_M_placeIn 52 = .ok (.bipush 24, 2) := by decide +kernel
theorem d_M_placeIn_54 : decode b_M_placeIn 54 = .ok (.aload_n 0, 1) := by decide +kernel
theorem d_M_placeIn_55 : decode b_M_placeIn 55 = .ok (.getfield 16, 3) := by decide +kernel
theorem d_M_placeIn_58 : decode b_M_placeIn 58 = .ok (.iload_n 1, 1) := by decide +kernel
theorem d_M_placeIn_59 : decode b_M_placeIn 59 = .ok (.iaload, 1) := by decide +kernel
theorem d_M_placeIn_60 : decode b_M_placeIn 60 = .ok (.imul, 1) := by decide +kernel
theorem d_M_placeIn_61 : decode b_M_placeIn 61 = .ok (.iload_n 2, 1) := by decide +kernel
theorem d_M_placeIn_62 : decode b_M_placeIn 62 = .ok (.iadd, 1) := by decide +kernel
theorem d_M_placeIn_63 : decode b_M_placeIn 63 = .ok (.iaload, 1) := by decide +kernel
theorem d_M_placeIn_64 : decode b_M_placeIn 64 = .ok (.aload_n 0, 1) := by decide +kernel
theorem d_M_placeIn_65 : decode b_M_placeIn 65 = .ok (.getfield 34, 3) := by decide +kernel
theorem d_M_placeIn_68 : decode b_M_placeIn 68 = .ok (.iload_n 1, 1) := by decide +kernel
theorem d_M_placeIn_69 : decode b_M_placeIn 69 = .ok (.iaload, 1) := by decide +kernel
theorem d_M_placeIn_70 : decode b_M_placeIn 70 = .ok (.if_icmp .ge 9, 3) := by decide +kernel
theorem d_M_placeIn_73 : decode b_M_placeIn 73 = .ok (.iinc 2 1, 3) := by decide +kernel
theorem d_M_placeIn_76 : decode b_M_placeIn 76 = .ok (.goto (-43), 3) := by decide +kernel
theorem d_M_placeIn_79 : decode b_M_placeIn 79 = .ok (.iload_n 2, 1) := by decide +kernel
theorem d_M_placeIn_80 : decode b_M_placeIn 80 = .ok (.ireturn, 1) := by decide +kernel
theorem d_M_sizeOf_0 : decode b_M_sizeOf 0 = .ok (.aload_n 0, 1) := by decide +kernel
theorem d_M_sizeOf_1 : decode b_M_sizeOf 1 = .ok (.getfield 7, 3) := by decide +kernel
theorem d_M_sizeOf_4 : decode b_M_sizeOf 4 = .ok (.iload_n 1, 1) := by decide +kernel
theorem d_M_sizeOf_5 : decode b_M_sizeOf 5 = .ok (.iaload, 1) := by decide +kernel
theorem d_M_sizeOf_6 : decode b_M_sizeOf 6 = .ok (.bipush 6, 2) := by decide +kernel
theorem d_M_sizeOf_8 : decode b_M_sizeOf 8 = .ok (.if_icmp .ne 10, 3) := by decide +kernel
theorem d_M_sizeOf_11 : decode b_M_sizeOf 11 = .ok (.aload_n 0, 1) := by decide +kernel
theorem d_M_sizeOf_12 : decode b_M_sizeOf 12 = .ok (.getfield 37, 3) := by decide +kernel
theorem d_M_sizeOf_15 : decode b_M_sizeOf 15 = .ok (.iload_n 1, 1) := by decide +kernel
theorem d_M_sizeOf_16 : decode b_M_sizeOf 16 = .ok (.iaload, 1) := by decide +kernel
theorem d_M_sizeOf_17 : decode b_M_sizeOf 17 = .ok (.ireturn, 1) := by decide +kernel
theorem d_M_sizeOf_18 : decode b_M_sizeOf 18 = .ok (.aload_n 0, 1) := by decide +kernel
theorem d_M_sizeOf_19 : decode b_M_sizeOf 19 = .ok (.getfield 7, 3) := by decide +kernel
theorem d_M_sizeOf_22 : decode b_M_sizeOf 22 = .ok (.iload_n 1, 1) := by decide +kernel
theorem d_M_sizeOf_23 : decode b_M_sizeOf 23 = .ok (.iaload, 1) := by decide +kernel
theorem d_M_sizeOf_24 : decode b_M_sizeOf 24 = .ok (.bipush 7, 2) := by decide +kernel
theorem d_M_sizeOf_26 : decode b_M_sizeOf 26 = .ok (.if_icmp .eq 10, 3) := by decide +kernel
theorem d_M_sizeOf_29 : decode b_M_sizeOf 29 = .ok (.aload_n 0, 1) := by decide +kernel
theorem d_M_sizeOf_30 : decode b_M_sizeOf 30 = .ok (.getfield 25, 3) := by decide +kernel
theorem d_M_sizeOf_33 : decode b_M_sizeOf 33 = .ok (.iload_n 1, 1) := by decide +kernel
theorem d_M_sizeOf_34 : decode b_M_sizeOf 34 = .ok (.iaload, 1) := by decide +kernel
theorem d_M_sizeOf_35 : decode b_M_sizeOf 35 = .ok (.ireturn, 1) := by decide +kernel
theorem d_M_sizeOf_36 : decode b_M_sizeOf 36 = .ok (.iconst 0, 1) := by decide +kernel
theorem d_M_sizeOf_37 : decode b_M_sizeOf 37 = .ok (.istore_n 2, 1) := by decide +kernel
theorem d_M_sizeOf_38 : decode b_M_sizeOf 38 = .ok (.iconst 0, 1) := by decide +kernel
theorem d_M_sizeOf_39 : decode b_M_sizeOf 39 = .ok (.istore_n 3, 1) := by decide +kernel
theorem d_M_sizeOf_40 : decode b_M_sizeOf 40 = .ok (.iload_n 3, 1) := by decide +kernel
theorem d_M_sizeOf_41 : decode b_M_sizeOf 41 = .ok (.aload_n 0, 1) := by decide +kernel
theorem d_M_sizeOf_42 : decode b_M_sizeOf 42 = .ok (.getfield 25, 3) := by decide +kernel
theorem d_M_sizeOf_45 : decode b_M_sizeOf 45 = .ok (.aload_n 0, 1) := by decide +kernel
theorem d_M_sizeOf_46 : decode b_M_sizeOf 46 = .ok (.getfield 16, 3) := by decide +kernel
theorem d_M_sizeOf_49 : decode b_M_sizeOf 49 = .ok (.iload_n 1, 1) := by decide +kernel
theorem d_M_sizeOf_50 : decode b_M_sizeOf 50 = .ok (.iaload, 1) := by decide +kernel
theorem d_M_sizeOf_51 : decode b_M_sizeOf 51 = .ok (.iaload, 1) := by decide +kernel
theorem d_M_sizeOf_52 : decode b_M_sizeOf 52 = .ok (.if_icmp .ge 41, 3) := by decide +kernel
theorem d_M_sizeOf_55 : decode b_M_sizeOf 55 = .ok (.iload_n 2, 1) := by decide +kernel
theorem d_M_sizeOf_56 : decode b_M_sizeOf 56 = .ok (.aload_n 0, 1) := by decide +kernel
theorem d_M_sizeOf_57 : decode b_M_sizeOf 57 = .ok (.iload_n 1, 1) := by decide +kernel
theorem d_M_sizeOf_58 : decode b_M_sizeOf 58 = .ok (.aload_n 0, 1) := by decide +kernel
theorem d_M_sizeOf_59 : decode b_M_sizeOf 59 = .ok (.getfield 19, 3) := by decide +kernel
theorem d_M_sizeOf_62 : decode b_M_sizeOf 62 = .ok (.bipush 24, 2) := by decide +kernel
theorem d_M_sizeOf_64 : decode b_M_sizeOf 64 = .ok (.aload_n 0, 1) := by decide +kernel
theorem d_M_sizeOf_65 : decode b_M_sizeOf 65 = .ok (.getfield 16, 3) := by decide +kernel
theorem d_M_sizeOf_68 : decode b_M_sizeOf 68 = .ok (.iload_n 1, 1) := by decide +kernel
theorem d_M_sizeOf_69 : decode b_M_sizeOf 69 = .ok (.iaload, 1) := by decide +kernel
theorem d_M_sizeOf_70 : decode b_M_sizeOf 70 = .ok (.imul, 1) := by decide +kernel
theorem d_M_sizeOf_71 : decode b_M_sizeOf 71 = .ok (.iload_n 3, 1) := by decide +kernel
theorem d_M_sizeOf_72 : decode b_M_sizeOf 72 = .ok (.iadd, 1) := by decide +kernel
theorem d_M_sizeOf_73 : decode b_M_sizeOf 73 = .ok (.iaload, 1) := by decide +kernel
theorem d_M_sizeOf_74 : decode b_M_sizeOf 74 = .ok (.invokevirtual 86, 3) := by decide +kernel
theorem d_M_sizeOf_77 : decode b_M_sizeOf 77 = .ok (.ifCond .eq 7, 3) := by decide +kernel
theorem d_M_sizeOf_80 : decode b_M_sizeOf 80 = .ok (.iconst 1, 1) := by decide +kernel
theorem d_M_sizeOf_81 : decode b_M_sizeOf 81 = .ok (.goto 4, 3) := by decide +kernel
theorem d_M_sizeOf_84 : decode b_M_sizeOf 84 = .ok (.iconst 0, 1) := by decide +kernel
theorem d_M_sizeOf_85 : decode b_M_sizeOf 85 = .ok (.iadd, 1) := by decide +kernel
theorem d_M_sizeOf_86 : decode b_M_sizeOf 86 = .ok (.istore_n 2, 1) := by decide +kernel
theorem d_M_sizeOf_87 : decode b_M_sizeOf 87 = .ok (.iinc 3 1, 3) := by decide +kernel
theorem d_M_sizeOf_90 : decode b_M_sizeOf 90 = .ok (.goto (-50), 3) := by decide +kernel
theorem d_M_sizeOf_93 : decode b_M_sizeOf 93 = .ok (.iload_n 2, 1) := by decide +kernel
theorem d_M_sizeOf_94 : decode b_M_sizeOf 94 = .ok (.ireturn, 1) := by decide +kernel
theorem d_M_size_0 : decode b_M_size 0 = .ok (.aload_n 0, 1) := by decide +kernel
theorem d_M_size_1 : decode b_M_size 1 = .ok (.aload_n 0, 1) := by decide +kernel
theorem d_M_size_2 : decode b_M_size 2 = .ok (.iload_n 1, 1) := by decide +kernel
theorem d_M_size_3 : decode b_M_size 3 = .ok (.invokevirtual 70, 3) := by decide +kernel
theorem d_M_size_6 : decode b_M_size 6 = .ok (.ifCond .ne 7, 3) := by decide +kernel
theorem d_M_size_9 : decode b_M_size 9 = .ok (.iconst 1, 1) := by decide +kernel
theorem d_M_size_10 : decode b_M_size 10 = .ok (.goto 16, 3) := by decide +kernel
theorem d_M_size_13 : decode b_M_size 13 = .ok (.aload_n 0, 1) := by decide +kernel
theorem d_M_size_14 : decode b_M_size 14 = .ok (.iload_n 1, 1) := by decide +kernel
theorem d_M_size_15 : decode b_M_size 15 = .ok (.invokevirtual 76, 3) := by decide +kernel
theorem d_M_size_18 : decode b_M_size 18 = .ok (.ifCond .eq 7, 3) := by decide +kernel
theorem d_M_size_21 : decode b_M_size 21 = .ok (.iconst 2, 1) := by decide +kernel
theorem d_M_size_22 : decode b_M_size 22 = .ok (.goto 4, 3) := by decide +kernel
theorem d_M_size_25 : decode b_M_size 25 = .ok (.iconst 0, 1) := by decide +kernel
theorem d_M_size_26 : decode b_M_size 26 = .ok (.putfield 55, 3) := by decide +kernel
theorem d_M_size_29 : decode b_M_size 29 = .ok (.aload_n 0, 1) := by decide +kernel
theorem d_M_size_30 : decode b_M_size 30 = .ok (.getfield 55, 3) := by decide +kernel
theorem d_M_size_33 : decode b_M_size 33 = .ok (.ifCond .le 7, 3) := by decide +kernel
theorem d_M_size_36 : decode b_M_size 36 = .ok (.iconst 0, 1) := by decide +kernel
theorem d_M_size_37 : decode b_M_size 37 = .ok (.goto 8, 3) := by decide +kernel
theorem d_M_size_40 : decode b_M_size 40 = .ok (.aload_n 0, 1) := by decide +kernel
theorem d_M_size_41 : decode b_M_size 41 = .ok (.iload_n 1, 1) := by decide +kernel
theorem d_M_size_42 : decode b_M_size 42 = .ok (.invokevirtual 79, 3) := by decide +kernel
theorem d_M_size_45 : decode b_M_size 45 = .ok (.ireturn, 1) := by decide +kernel
theorem d_M_at_0 : decode b_M_at 0 = .ok (.bipush 24, 2) := by decide +kernel
theorem d_M_at_2 : decode b_M_at 2 = .ok (.aload_n 0, 1) := by decide +kernel
theorem d_M_at_3 : decode b_M_at 3 = .ok (.getfield 16, 3) := by decide +kernel
theorem d_M_at_6 : decode b_M_at 6 = .ok (.iload_n 1, 1) := by decide +kernel
theorem d_M_at_7 : decode b_M_at 7 = .ok (.iaload, 1) := by decide +kernel
theorem d_M_at_8 : decode b_M_at 8 = .ok (.imul, 1) := by decide +kernel
theorem d_M_at_9 : decode b_M_at 9 = .ok (.aload_n 0, 1) := by decide +kernel
theorem d_M_at_10 : decode b_M_at 10 = .ok (.iload_n 1, 1) := by decide +kernel
theorem d_M_at_11 : decode b_M_at 11 = .ok (.invokevirtual 83, 3) := by decide +kernel
theorem d_M_at_14 : decode b_M_at 14 = .ok (.iadd, 1) := by decide +kernel
theorem d_M_at_15 : decode b_M_at 15 = .ok (.iload_n 2, 1) := by decide +kernel
theorem d_M_at_16 : decode b_M_at 16 = .ok (.iadd, 1) := by decide +kernel
theorem d_M_at_17 : decode b_M_at 17 = .ok (.ireturn, 1) := by decide +kernel
theorem d_M_changed_0 : decode b_M_changed 0 = .ok (.aload_n 0, 1) := by decide +kernel
theorem d_M_changed_1 : decode b_M_changed 1 = .ok (.getfield 16, 3) := by decide +kernel
theorem d_M_changed_4 : decode b_M_changed 4 = .ok (.iload_n 1, 1) := by decide +kernel
theorem d_M_changed_5 : decode b_M_changed 5 = .ok (.iaload, 1) := by decide +kernel
theorem d_M_changed_6 : decode b_M_changed 6 = .ok (.istore_n 3, 1) := by decide +kernel
theorem d_M_changed_7 : decode b_M_changed 7 = .ok (.aload_n 0, 1) := by decide +kernel
theorem d_M_changed_8 : decode b_M_changed 8 = .ok (.getfield 28, 3) := by decide +kernel
theorem d_M_changed_11 : decode b_M_changed 11 = .ok (.iload_n 3, 1) := by decide +kernel
theorem d_M_changed_12 : decode b_M_changed 12 = .ok (.dup2, 1) := by decide +kernel
theorem d_M_changed_13 : decode b_M_changed 13 = .ok (.iaload, 1) := by decide +kernel
theorem d_M_changed_14 : decode b_M_changed 14 = .ok (.iconst 1, 1) := by decide +kernel
theorem d_M_changed_15 : decode b_M_changed 15 = .ok (.iadd, 1) := by decide +kernel
theorem d_M_changed_16 : decode b_M_changed 16 = .ok (.iastore, 1) := by decide +kernel
theorem d_M_changed_17 : decode b_M_changed 17 = .ok (.iload_n 1, 1) := by decide +kernel
theorem d_M_changed_18 : decode b_M_changed 18 = .ok (.istore 4, 2) := by decide +kernel
theorem d_M_changed_20 : decode b_M_changed 20 = .ok (.aload_n 0, 1) := by decide +kernel
theorem d_M_changed_21 : decode b_M_changed 21 = .ok (.getfield 7, 3) := by decide +kernel
theorem d_M_changed_24 : decode b_M_changed 24 = .ok (.iload 4, 2) := by decide +kernel
theorem d_M_changed_26 : decode b_M_changed 26 = .ok (.iaload, 1) := by decide +kernel
theorem d_M_changed_27 : decode b_M_changed 27 = .ok (.bipush 6, 2) := by decide +kernel
theorem d_M_changed_29 : decode b_M_changed 29 = .ok (.if_icmp .ne 39, 3) := by decide +kernel
theorem d_M_changed_32 : decode b_M_changed 32 = .ok (.aload_n 0, 1) := by decide +kernel
theorem d_M_changed_33 : decode b_M_changed 33 = .ok (.getfield 40, 3) := by decide +kernel
theorem d_M_changed_36 : decode b_M_changed 36 = .ok (.iload 4, 2) := by decide +kernel
theorem d_M_changed_38 : decode b_M_changed 38 = .ok (.aload_n 0, 1) := by decide +kernel
theorem d_M_changed_39 : decode b_M_changed 39 = .ok (.getfield 28, 3) := by decide +kernel
theorem d_M_changed_42 : decode b_M_changed 42 = .ok (.iload_n 3, 1) := by decide +kernel
theorem d_M_changed_43 : decode b_M_changed 43 = .ok (.iaload, 1) := by decide +kernel
theorem d_M_changed_44 : decode b_M_changed 44 = .ok (.iastore, 1) := by decide +kernel
theorem d_M_changed_45 : decode b_M_changed 45 = .ok (.aload_n 0, 1) := by decide +kernel
theorem d_M_changed_46 : decode b_M_changed 46 = .ok (.getfield 37, 3) := by decide +kernel
theorem d_M_changed_49 : decode b_M_changed 49 = .ok (.iload 4, 2) := by decide +kernel
theorem d_M_changed_51 : decode b_M_changed 51 = .ok (.dup2, 1) := by decide +kernel
theorem d_M_changed_52 : decode b_M_changed 52 = .ok (.iaload, 1) := by decide +kernel
theorem d_M_changed_53 : decode b_M_changed 53 = .ok (.iload_n 2, 1) := by decide +kernel
theorem d_M_changed_54 : decode b_M_changed 54 = .ok (.iadd, 1) := by decide +kernel
theorem d_M_changed_55 : decode b_M_changed 55 = .ok (.iastore, 1) := by decide +kernel
theorem d_M_changed_56 : decode b_M_changed 56 = .ok (.aload_n 0, 1) := by decide +kernel
theorem d_M_changed_57 : decode b_M_changed 57 = .ok (.getfield 13, 3) := by decide +kernel
theorem d_M_changed_60 : decode b_M_changed 60 = .ok (.iload 4, 2) := by decide +kernel
theorem d_M_changed_62 : decode b_M_changed 62 = .ok (.iaload, 1) := by decide +kernel
theorem d_M_changed_63 : decode b_M_changed 63 = .ok (.istore 4, 2) := by decide +kernel
theorem d_M_changed_65 : decode b_M_changed 65 = .ok (.goto (-45), 3) := by decide +kernel
theorem d_M_changed_68 : decode b_M_changed 68 = .ok (.return_, 1) := by decide +kernel
theorem d_M_putIn_0 : decode b_M_putIn 0 = .ok (.aload_n 0, 1) := by decide +kernel
theorem d_M_putIn_1 : decode b_M_putIn 1 = .ok (.getfield 16, 3) := by decide +kernel
theorem d_M_putIn_4 : decode b_M_putIn 4 = .ok (.iload_n 1, 1) := by decide +kernel
theorem d_M_putIn_5 : decode b_M_putIn 5 = .ok (.iaload, 1) := by decide +kernel
theorem d_M_putIn_6 : decode b_M_putIn 6 = .ok (.istore 5, 2) := by decide +kernel
theorem d_M_putIn_8 : decode b_M_putIn 8 = .ok (.bipush 24, 2) := by decide +kernel
theorem d_M_putIn_10 : decode b_M_putIn 10 = .ok (.iload 5, 2) := by decide +kernel
theorem d_M_putIn_12 : decode b_M_putIn 12 = .ok (.imul, 1) := by decide +kernel
theorem d_M_putIn_13 : decode b_M_putIn 13 = .ok (.aload_n 0, 1) := by decide +kernel
theorem d_M_putIn_14 : decode b_M_putIn 14 = .ok (.getfield 25, 3) := by decide +kernel
theorem d_M_putIn_17 : decode b_M_putIn 17 = .ok (.iload 5, 2) := by decide +kernel
theorem d_M_putIn_19 : decode b_M_putIn 19 = .ok (.iaload, 1) := by decide +kernel
theorem d_M_putIn_20 : decode b_M_putIn 20 = .ok (.iadd, 1) := by decide +kernel
theorem d_M_putIn_21 : decode b_M_putIn 21 = .ok (.istore 6, 2) := by decide +kernel
theorem d_M_putIn_23 : decode b_M_putIn 23 = .ok (.iload 6, 2) := by decide +kernel
theorem d_M_putIn_25 : decode b_M_putIn 25 = .ok (.bipush 24, 2) := by decide +kernel
theorem d_M_putIn_27 : decode b_M_putIn 27 = .ok (.iload 5, 2) := by decide +kernel
theorem d_M_putIn_29 : decode b_M_putIn 29 = .ok (.imul, 1) := by decide +kernel
theorem d_M_putIn_30 : decode b_M_putIn 30 = .ok (.iload_n 2, 1) := by decide +kernel
theorem d_M_putIn_31 : decode b_M_putIn 31 = .ok (.iadd, 1) := by decide +kernel
theorem d_M_putIn_32 : decode b_M_putIn 32 = .ok (.if_icmp .le 41, 3) := by decide +kernel
theorem d_M_putIn_35 : decode b_M_putIn 35 = .ok (.aload_n 0, 1) := by decide +kernel
theorem d_M_putIn_36 : decode b_M_putIn 36 = .ok (.getfield 19, 3) := by decide +kernel
theorem d_M_putIn_39 : decode b_M_putIn 39 = .ok (.iload 6, 2) := by decide +kernel
theorem d_M_putIn_41 : decode b_M_putIn 41 = .ok (.aload_n 0, 1) := by decide +kernel
theorem d_M_putIn_42 : decode b_M_putIn 42 = .ok (.getfield 19, 3) := by decide +kernel
theorem d_M_putIn_45 : decode b_M_putIn 45 = .ok (.iload 6, 2) := by decide +kernel
theorem d_M_putIn_47 : decode b_M_putIn 47 = .ok (.iconst 1, 1) := by decide +kernel
theorem d_M_putIn_48 : decode b_M_putIn 48 = .ok (.isub, 1) := by decide +kernel
theorem d_M_putIn_49 : decode b_M_putIn 49 = .ok (.iaload, 1) := by decide +kernel
theorem d_M_putIn_50 : decode b_M_putIn 50 = .ok (.iastore, 1) := by decide +kernel
theorem d_M_putIn_51 : decode b_M_putIn 51 = .ok (.aload_n 0, 1) := by decide +kernel
theorem d_M_putIn_52 : decode b_M_putIn 52 = .ok (.getfield 22, 3) := by decide +kernel
theorem d_M_putIn_55 : decode b_M_putIn 55 = .ok (.iload 6, 2) := by decide +kernel
theorem d_M_putIn_57 : decode b_M_putIn 57 = .ok (.aload_n 0, 1) := by decide +kernel
theorem d_M_putIn_58 : decode b_M_putIn 58 = .ok (.getfield 22, 3) := by decide +kernel
theorem d_M_putIn_61 : decode b_M_putIn 61 = .ok (.iload 6, 2) := by decide +kernel
theorem d_M_putIn_63 : decode b_M_putIn 63 = .ok (.iconst 1, 1) := by decide +kernel
theorem d_M_putIn_64 : decode b_M_putIn 64 = .ok (.isub, 1) := by decide +kernel
theorem d_M_putIn_65 : decode b_M_putIn 65 = .ok (.iaload, 1) := by decide +kernel
theorem d_M_putIn_66 : decode b_M_putIn 66 = .ok (.iastore, 1) := by decide +kernel
theorem d_M_putIn_67 : decode b_M_putIn 67 = .ok (.iinc 6 (-1), 3) := by decide +kernel
theorem d_M_putIn_70 : decode b_M_putIn 70 = .ok (.goto (-47), 3) := by decide +kernel
theorem d_M_putIn_73 : decode b_M_putIn 73 = .ok (.aload_n 0, 1) := by decide +kernel
theorem d_M_putIn_74 : decode b_M_putIn 74 = .ok (.getfield 19, 3) := by decide +kernel
theorem d_M_putIn_77 : decode b_M_putIn 77 = .ok (.bipush 24, 2) := by decide +kernel
theorem d_M_putIn_79 : decode b_M_putIn 79 = .ok (.iload 5, 2) := by decide +kernel
theorem d_M_putIn_81 : decode b_M_putIn 81 = .ok (.imul, 1) := by decide +kernel
theorem d_M_putIn_82 : decode b_M_putIn 82 = .ok (.iload_n 2, 1) := by decide +kernel
theorem d_M_putIn_83 : decode b_M_putIn 83 = .ok (.iadd, 1) := by decide +kernel
theorem d_M_putIn_84 : decode b_M_putIn 84 = .ok (.iload_n 3, 1) := by decide +kernel
theorem d_M_putIn_85 : decode b_M_putIn 85 = .ok (.iastore, 1) := by decide +kernel
theorem d_M_putIn_86 : decode b_M_putIn 86 = .ok (.aload_n 0, 1) := by decide +kernel
theorem d_M_putIn_87 : decode b_M_putIn 87 = .ok (.getfield 22, 3) := by decide +kernel
theorem d_M_putIn_90 : decode b_M_putIn 90 = .ok (.bipush 24, 2) := by decide +kernel
theorem d_M_putIn_92 : decode b_M_putIn 92 = .ok (.iload 5, 2) := by decide +kernel
theorem d_M_putIn_94 : decode b_M_putIn 94 = .ok (.imul, 1) := by decide +kernel
theorem d_M_putIn_95 : decode b_M_putIn 95 = .ok (.iload_n 2, 1) := by decide +kernel
theorem d_M_putIn_96 : decode b_M_putIn 96 = .ok (.iadd, 1) := by decide +kernel
theorem d_M_putIn_97 : decode b_M_putIn 97 = .ok (.iload 4, 2) := by decide +kernel
theorem d_M_putIn_99 : decode b_M_putIn 99 = .ok (.iastore, 1) := by decide +kernel
theorem d_M_putIn_100 : decode b_M_putIn 100 = .ok (.aload_n 0, 1) := by decide +kernel
theorem d_M_putIn_101 : decode b_M_putIn 101 = .ok (.getfield 25, 3) := by decide +kernel
theorem d_M_putIn_104 : decode b_M_putIn 104 = .ok (.iload 5, 2) := by decide +kernel
theorem d_M_putIn_106 : decode b_M_putIn 106 = .ok (.dup2, 1) := by decide +kernel
theorem d_M_putIn_107 : decode b_M_putIn 107 = .ok (.iaload, 1) := by decide +kernel
theorem d_M_putIn_108 : decode b_M_putIn 108 = .ok (.iconst 1, 1) := by decide +kernel
theorem d_M_putIn_109 : decode b_M_putIn 109 = .ok (.iadd, 1) := by decide +kernel
theorem d_M_putIn_110 : decode b_M_putIn 110 = .ok (.iastore, 1) := by decide +kernel
theorem d_M_putIn_111 : decode b_M_putIn 111 = .ok (.aload_n 0, 1) := by decide +kernel
theorem d_M_putIn_112 : decode b_M_putIn 112 = .ok (.iload_n 1, 1) := by decide +kernel
theorem d_M_putIn_113 : decode b_M_putIn 113 = .ok (.iconst 1, 1) := by decide +kernel
theorem d_M_putIn_114 : decode b_M_putIn 114 = .ok (.invokevirtual 90, 3) := by decide +kernel
theorem d_M_putIn_117 : decode b_M_putIn 117 = .ok (.return_, 1) := by decide +kernel
theorem d_M_takeOut_0 : decode b_M_takeOut 0 = .ok (.aload_n 0, 1) := by decide +kernel
theorem d_M_takeOut_1 : decode b_M_takeOut 1 = .ok (.getfield 16, 3) := by decide +kernel
theorem d_M_takeOut_4 : decode b_M_takeOut 4 = .ok (.iload_n 1, 1) := by decide +kernel
theorem d_M_takeOut_5 : decode b_M_takeOut 5 = .ok (.iaload, 1) := by decide +kernel
theorem d_M_takeOut_6 : decode b_M_takeOut 6 = .ok (.istore_n 3, 1) := by decide +kernel
theorem d_M_takeOut_7 : decode b_M_takeOut 7 = .ok (.aload_n 0, 1) := by decide +kernel
theorem d_M_takeOut_8 : decode b_M_takeOut 8 = .ok (.getfield 25, 3) := by decide +kernel
theorem d_M_takeOut_11 : decode b_M_takeOut 11 = .ok (.iload_n 3, 1) := by decide +kernel
theorem d_M_takeOut_12 : decode b_M_takeOut 12 = .ok (.dup2, 1) := by decide +kernel
theorem d_M_takeOut_13 : decode b_M_takeOut 13 = .ok (.iaload, 1) := by decide +kernel
theorem d_M_takeOut_14 : decode b_M_takeOut 14 = .ok (.iconst 1, 1) := by decide +kernel
theorem d_M_takeOut_15 : decode b_M_takeOut 15 = .ok (.isub, 1) := by decide +kernel
theorem d_M_takeOut_16 : decode b_M_takeOut 16 = .ok (.iastore, 1) := by decide +kernel
theorem d_M_takeOut_17 : decode b_M_takeOut 17 = .ok (.bipush 24, 2) := by decide +kernel
theorem d_M_takeOut_19 : decode b_M_takeOut 19 = .ok (.iload_n 3, 1) := by decide +kernel
theorem d_M_takeOut_20 : decode b_M_takeOut 20 = .ok (.imul, 1) := by decide +kernel
theorem d_M_takeOut_21 : decode b_M_takeOut 21 = .ok (.iload_n 2, 1) := by decide +kernel
theorem d_M_takeOut_22 : decode b_M_takeOut 22 = .ok (.iadd, 1) := by decide +kernel
theorem d_M_takeOut_23 : decode b_M_takeOut 23 = .ok (.istore 4, 2) := by decide +kernel
theorem d_M_takeOut_25 : decode b_M_takeOut 25 = .ok (.iload 4, 2) := by decide +kernel
theorem d_M_takeOut_27 : decode b_M_takeOut 27 = .ok (.bipush 24, 2) := by decide +kernel
theorem d_M_takeOut_29 : decode b_M_takeOut 29 = .ok (.iload_n 3, 1) := by decide +kernel
theorem d_M_takeOut_30 : decode b_M_takeOut 30 = .ok (.imul, 1) := by decide +kernel
theorem d_M_takeOut_31 : decode b_M_takeOut 31 = .ok (.aload_n 0, 1) := by decide +kernel
theorem d_M_takeOut_32 : decode b_M_takeOut 32 = .ok (.getfield 25, 3) := by decide +kernel
theorem d_M_takeOut_35 : decode b_M_takeOut 35 = .ok (.iload_n 3, 1) := by decide +kernel
theorem d_M_takeOut_36 : decode b_M_takeOut 36 = .ok (.iaload, 1) := by decide +kernel
theorem d_M_takeOut_37 : decode b_M_takeOut 37 = .ok (.iadd, 1) := by decide +kernel
theorem d_M_takeOut_38 : decode b_M_takeOut 38 = .ok (.if_icmp .ge 41, 3) := by decide +kernel
theorem d_M_takeOut_41 : decode b_M_takeOut 41 = .ok (.aload_n 0, 1) := by decide +kernel
theorem d_M_takeOut_42 : decode b_M_takeOut 42 = .ok (.getfield 19, 3) := by decide +kernel
theorem d_M_takeOut_45 : decode b_M_takeOut 45 = .ok (.iload 4, 2) := by decide +kernel
theorem d_M_takeOut_47 : decode b_M_takeOut 47 = .ok (.aload_n 0, 1) := by decide +kernel
theorem d_M_takeOut_48 : decode b_M_takeOut 48 = .ok (.getfield 19, 3) := by decide +kernel
theorem d_M_takeOut_51 : decode b_M_takeOut 51 = .ok (.iload 4, 2) := by decide +kernel
theorem d_M_takeOut_53 : decode b_M_takeOut 53 = .ok (.iconst 1, 1) := by decide +kernel
theorem d_M_takeOut_54 : decode b_M_takeOut 54 = .ok (.iadd, 1) := by decide +kernel
theorem d_M_takeOut_55 : decode b_M_takeOut 55 = .ok (.iaload, 1) := by decide +kernel
theorem d_M_takeOut_56 : decode b_M_takeOut 56 = .ok (.iastore, 1) := by decide +kernel
theorem d_M_takeOut_57 : decode b_M_takeOut 57 = .ok (.aload_n 0, 1) := by decide +kernel
theorem d_M_takeOut_58 : decode b_M_takeOut 58 = .ok (.getfield 22, 3) := by decide +kernel
theorem d_M_takeOut_61 : decode b_M_takeOut 61 = .ok (.iload 4, 2) := by decide +kernel
theorem d_M_takeOut_63 : decode b_M_takeOut 63 = .ok (.aload_n 0, 1) := by decide +kernel
theorem d_M_takeOut_64 : decode b_M_takeOut 64 = .ok (.getfield 22, 3) := by decide +kernel
theorem d_M_takeOut_67 : decode b_M_takeOut 67 = .ok (.iload 4, 2) := by decide +kernel
theorem d_M_takeOut_69 : decode b_M_takeOut 69 = .ok (.iconst 1, 1) := by decide +kernel
theorem d_M_takeOut_70 : decode b_M_takeOut 70 = .ok (.iadd, 1) := by decide +kernel
theorem d_M_takeOut_71 : decode b_M_takeOut 71 = .ok (.iaload, 1) := by decide +kernel
theorem d_M_takeOut_72 : decode b_M_takeOut 72 = .ok (.iastore, 1) := by decide +kernel
theorem d_M_takeOut_73 : decode b_M_takeOut 73 = .ok (.iinc 4 1, 3) := by decide +kernel
theorem d_M_takeOut_76 : decode b_M_takeOut 76 = .ok (.goto (-51), 3) := by decide +kernel
theorem d_M_takeOut_79 : decode b_M_takeOut 79 = .ok (.aload_n 0, 1) := by decide +kernel
theorem d_M_takeOut_80 : decode b_M_takeOut 80 = .ok (.iload_n 1, 1) := by decide +kernel
theorem d_M_takeOut_81 : decode b_M_takeOut 81 = .ok (.iconst (-1), 1) := by decide +kernel
theorem d_M_takeOut_82 : decode b_M_takeOut 82 = .ok (.invokevirtual 90, 3) := by decide +kernel
theorem d_M_takeOut_85 : decode b_M_takeOut 85 = .ok (.return_, 1) := by decide +kernel
theorem d_M_checkList_0 : decode b_M_checkList 0 = .ok (.aload_n 0, 1) := by decide +kernel
theorem d_M_checkList_1 : decode b_M_checkList 1 = .ok (.iload_n 1, 1) := by decide +kernel
theorem d_M_checkList_2 : decode b_M_checkList 2 = .ok (.invokevirtual 70, 3) := by decide +kernel
theorem d_M_checkList_5 : decode b_M_checkList 5 = .ok (.ifCond .ne 7, 3) := by decide +kernel
theorem d_M_checkList_8 : decode b_M_checkList 8 = .ok (.iconst 1, 1) := by decide +kernel
theorem d_M_checkList_9 : decode b_M_checkList 9 = .ok (.goto 28, 3) := by decide +kernel
theorem d_M_checkList_12 : decode b_M_checkList 12 = .ok (.aload_n 0, 1) := by decide +kernel
theorem d_M_checkList_13 : decode b_M_checkList 13 = .ok (.iload_n 1, 1) := by decide +kernel
theorem d_M_checkList_14 : decode b_M_checkList 14 = .ok (.invokevirtual 62, 3) := by decide +kernel
theorem d_M_checkList_17 : decode b_M_checkList 17 = .ok (.ifCond .ne 7, 3) := by decide +kernel
theorem d_M_checkList_20 : decode b_M_checkList 20 = .ok (.iconst 2, 1) := by decide +kernel
theorem d_M_checkList_21 : decode b_M_checkList 21 = .ok (.goto 16, 3) := by decide +kernel
theorem d_M_checkList_24 : decode b_M_checkList 24 = .ok (.aload_n 0, 1) := by decide +kernel
theorem d_M_checkList_25 : decode b_M_checkList 25 = .ok (.iload_n 1, 1) := by decide +kernel
theorem d_M_checkList_26 : decode b_M_checkList 26 = .ok (.invokevirtual 76, 3) := by decide +kernel
theorem d_M_checkList_29 : decode b_M_checkList 29 = .ok (.ifCond .eq 7, 3) := by decide +kernel
theorem d_M_checkList_32 : decode b_M_checkList 32 = .ok (.iload_n 2, 1) := by decide +kernel
theorem d_M_checkList_33 : decode b_M_checkList 33 = .ok (.goto 4, 3) := by decide +kernel
theorem d_M_checkList_36 : decode b_M_checkList 36 = .ok (.iconst 0, 1) := by decide +kernel
theorem d_M_checkList_37 : decode b_M_checkList 37 = .ok (.ireturn, 1) := by decide +kernel
theorem d_M_get_0 : decode b_M_get 0 = .ok (.aload_n 0, 1) := by decide +kernel
theorem d_M_get_1 : decode b_M_get 1 = .ok (.aload_n 0, 1) := by decide +kernel
theorem d_M_get_2 : decode b_M_get 2 = .ok (.iload_n 1, 1) := by decide +kernel
theorem d_M_get_3 : decode b_M_get 3 = .ok (.iconst 4, 1) := by decide +kernel
theorem d_M_get_4 : decode b_M_get 4 = .ok (.invokevirtual 94, 3) := by decide +kernel
theorem d_M_get_7 : decode b_M_get 7 = .ok (.putfield 55, 3) := by decide +kernel
theorem d_M_get_10 : decode b_M_get 10 = .ok (.aload_n 0, 1) := by decide +kernel
theorem d_M_get_11 : decode b_M_get 11 = .ok (.getfield 55, 3) := by decide +kernel
theorem d_M_get_14 : decode b_M_get 14 = .ok (.ifCond .ne 21, 3) := by decide +kernel
theorem d_M_get_17 : decode b_M_get 17 = .ok (.iload_n 2, 1) := by decide +kernel
theorem d_M_get_18 : decode b_M_get 18 = .ok (.ifCond .lt 12, 3) := by decide +kernel
theorem d_M_get_21 : decode b_M_get 21 = .ok (.iload_n 2, 1) := by decide +kernel
theorem d_M_get_22 : decode b_M_get 22 = .ok (.aload_n 0, 1) := by decide +kernel
theorem d_M_get_23 : decode b_M_get 23 = .ok (.iload_n 1, 1) := by decide +kernel
theorem d_M_get_24 : decode b_M_get 24 = .ok (.invokevirtual 79, 3) := by decide +kernel
theorem d_M_get_27 : decode b_M_get 27 = .ok (.if_icmp .lt 8, 3) := by decide +kernel
theorem d_M_get_30 : decode b_M_get 30 = .ok (.aload_n 0, 1) := by decide +kernel
theorem d_M_get_31 : decode b_M_get 31 = .ok (.iconst 3, 1) := by decide +kernel
theorem d_M_get_32 : decode b_M_get 32 = .ok (.putfield 55, 3) := by decide +kernel
theorem d_M_get_35 : decode b_M_get 35 = .ok (.aload_n 0, 1) := by decide +kernel
theorem d_M_get_36 : decode b_M_get 36 = .ok (.getfield 55, 3) := by decide +kernel
theorem d_M_get_39 : decode b_M_get 39 = .ok (.ifCond .le 7, 3) := by decide +kernel
theorem d_M_get_42 : decode b_M_get 42 = .ok (.iconst 0, 1) := by decide +kernel
theorem d_M_get_43 : decode b_M_get 43 = .ok (.goto 14, 3) := by decide +kernel
theorem d_M_get_46 : decode b_M_get 46 = .ok (.aload_n 0, 1) := by decide +kernel
theorem d_M_get_47 : decode b_M_get 47 = .ok (.getfield 19, 3) := by decide +kernel
theorem d_M_get_50 : decode b_M_get 50 = .ok (.aload_n 0, 1) := by decide +kernel
theorem d_M_get_51 : decode b_M_get 51 = .ok (.iload_n 1, 1) := by decide +kernel
theorem d_M_get_52 : decode b_M_get 52 = .ok (.iload_n 2, 1) := by decide +kernel
theorem d_M_get_53 : decode b_M_get 53 = .ok (.invokevirtual 97, 3) := by decide +kernel
theorem d_M_get_56 : decode b_M_get 56 = .ok (.iaload, 1) := by decide +kernel
theorem d_M_get_57 : decode b_M_get 57 = .ok (.ireturn, 1) := by decide +kernel
theorem d_M_set_0 : decode b_M_set 0 = .ok (.aload_n 0, 1) := by decide +kernel
theorem d_M_set_1 : decode b_M_set 1 = .ok (.iload_n 1, 1) := by decide +kernel
theorem d_M_set_2 : decode b_M_set 2 = .ok (.iload_n 2, 1) := by decide +kernel
theorem d_M_set_3 : decode b_M_set 3 = .ok (.invokevirtual 100, 3) := by decide +kernel
theorem d_M_set_6 : decode b_M_set 6 = .ok (.istore 4, 2) := by decide +kernel
theorem d_M_set_8 : decode b_M_set 8 = .ok (.aload_n 0, 1) := by decide +kernel
theorem d_M_set_9 : decode b_M_set 9 = .ok (.getfield 55, 3) := by decide +kernel
theorem d_M_set_12 : decode b_M_set 12 = .ok (.ifCond .ne 15, 3) := by decide +kernel
theorem d_M_set_15 : decode b_M_set 15 = .ok (.aload_n 0, 1) := by decide +kernel
theorem d_M_set_16 : decode b_M_set 16 = .ok (.getfield 19, 3) := by decide +kernel
theorem d_M_set_19 : decode b_M_set 19 = .ok (.aload_n 0, 1) := by decide +kernel
theorem d_M_set_20 : decode b_M_set 20 = .ok (.iload_n 1, 1) := by decide +kernel
theorem d_M_set_21 : decode b_M_set 21 = .ok (.iload_n 2, 1) := by decide +kernel
theorem d_M_set_22 : decode b_M_set 22 = .ok (.invokevirtual 97, 3) := by decide +kernel
theorem d_M_set_25 : decode b_M_set 25 = .ok (.iload_n 3, 1) := by decide +kernel
theorem d_M_set_26 : decode b_M_set 26 = .ok (.iastore, 1) := by decide +kernel
theorem d_M_set_27 : decode b_M_set 27 = .ok (.iload 4, 2) := by decide +kernel
theorem d_M_set_29 : decode b_M_set 29 = .ok (.ireturn, 1) := by decide +kernel
