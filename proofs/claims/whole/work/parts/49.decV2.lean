theorem d_M_insertAt_0 : decode b_M_insertAt 0 = .ok (.aload_n 0, 1) := by decide +kernel
theorem d_M_insertAt_1 : decode b_M_insertAt 1 = .ok (.getfield 16, 3) := by decide +kernel
theorem d_M_insertAt_4 : decode b_M_insertAt 4 = .ok (.iload_n 1, 1) := by decide +kernel
theorem d_M_insertAt_5 : decode b_M_insertAt 5 = .ok (.iaload, 1) := by decide +kernel
theorem d_M_insertAt_6 : decode b_M_insertAt 6 = .ok (.istore 4, 2) := by decide +kernel
theorem d_M_insertAt_8 : decode b_M_insertAt 8 = .ok (.aload_n 0, 1) := by decide +kernel
theorem d_M_insertAt_9 : decode b_M_insertAt 9 = .ok (.getfield 7, 3) := by decide +kernel
theorem d_M_insertAt_12 : decode b_M_insertAt 12 = .ok (.iload 4, 2) := by decide +kernel
theorem d_M_insertAt_14 : decode b_M_insertAt 14 = .ok (.iaload, 1) := by decide +kernel
theorem d_M_insertAt_15 : decode b_M_insertAt 15 = .ok (.ifCond .ne 39, 3) := by decide +kernel
theorem d_M_insertAt_18 : decode b_M_insertAt 18 = .ok (.aload_n 0, 1) := by decide +kernel
theorem d_M_insertAt_19 : decode b_M_insertAt 19 = .ok (.getfield 25, 3) := by decide +kernel
theorem d_M_insertAt_22 : decode b_M_insertAt 22 = .ok (.iload 4, 2) := by decide +kernel
theorem d_M_insertAt_24 : decode b_M_insertAt 24 = .ok (.iaload, 1) := by decide +kernel
theorem d_M_insertAt_25 : decode b_M_insertAt 25 = .ok (.aload_n 0, 1) := by decide +kernel
theorem d_M_insertAt_26 : decode b_M_insertAt 26 = .ok (.getfield 31, 3) := by decide +kernel
theorem d_M_insertAt_29 : decode b_M_insertAt 29 = .ok (.iload 4, 2) := by decide +kernel
theorem d_M_insertAt_31 : decode b_M_insertAt 31 = .ok (.iaload, 1) := by decide +kernel
theorem d_M_insertAt_32 : decode b_M_insertAt 32 = .ok (.if_icmp .ne 22, 3) := by decide +kernel
theorem d_M_insertAt_35 : decode b_M_insertAt 35 = .ok (.aload_n 0, 1) := by decide +kernel
theorem d_M_insertAt_36 : decode b_M_insertAt 36 = .ok (.getfield 31, 3) := by decide +kernel
theorem d_M_insertAt_39 : decode b_M_insertAt 39 = .ok (.iload 4, 2) := by decide +kernel
theorem d_M_insertAt_41 : decode b_M_insertAt 41 = .ok (.dup2, 1) := by decide +kernel
theorem d_M_insertAt_42 : decode b_M_insertAt 42 = .ok (.iaload, 1) := by decide +kernel
theorem d_M_insertAt_43 : decode b_M_insertAt 43 = .ok (.aload_n 0, 1) := by decide +kernel
theorem d_M_insertAt_44 : decode b_M_insertAt 44 = .ok (.getfield 31, 3) := by decide +kernel
theorem d_M_insertAt_47 : decode b_M_insertAt 47 = .ok (.iload 4, 2) := by decide +kernel
theorem d_M_insertAt_49 : decode b_M_insertAt 49 = .ok (.iaload, 1) := by decide +kernel
theorem d_M_insertAt_50 : decode b_M_insertAt 50 = .ok (.iconst 2, 1) := by decide +kernel
theorem d_M_insertAt_51 : decode b_M_insertAt 51 = .ok (.idiv, 1) := by decide +kernel
theorem d_M_insertAt_52 : decode b_M_insertAt 52 = .ok (.iadd, 1) := by decide +kernel
theorem d_M_insertAt_53 : decode b_M_insertAt 53 = .ok (.iastore, 1) := by decide +kernel
theorem d_M_insertAt_54 : decode b_M_insertAt 54 = .ok (.aload_n 0, 1) := by decide +kernel
theorem d_M_insertAt_55 : decode b_M_insertAt 55 = .ok (.iload_n 1, 1) := by decide +kernel
theorem d_M_insertAt_56 : decode b_M_insertAt 56 = .ok (.aload_n 0, 1) := by decide +kernel
theorem d_M_insertAt_57 : decode b_M_insertAt 57 = .ok (.iload_n 1, 1) := by decide +kernel
theorem d_M_insertAt_58 : decode b_M_insertAt 58 = .ok (.invokevirtual 83, 3) := by decide +kernel
theorem d_M_insertAt_61 : decode b_M_insertAt 61 = .ok (.iload_n 2, 1) := by decide +kernel
theorem d_M_insertAt_62 : decode b_M_insertAt 62 = .ok (.iadd, 1) := by decide +kernel
theorem d_M_insertAt_63 : decode b_M_insertAt 63 = .ok (.iload_n 3, 1) := by decide +kernel
theorem d_M_insertAt_64 : decode b_M_insertAt 64 = .ok (.iconst 0, 1) := by decide +kernel
theorem d_M_insertAt_65 : decode b_M_insertAt 65 = .ok (.invokevirtual 103, 3) := by decide +kernel
theorem d_M_insertAt_68 : decode b_M_insertAt 68 = .ok (.return_, 1) := by decide +kernel
theorem d_M_insert_0 : decode b_M_insert 0 = .ok (.aload_n 0, 1) := by decide +kernel
theorem d_M_insert_1 : decode b_M_insert 1 = .ok (.iload_n 1, 1) := by decide +kernel
theorem d_M_insert_2 : decode b_M_insert 2 = .ok (.invokevirtual 70, 3) := by decide +kernel
theorem d_M_insert_5 : decode b_M_insert 5 = .ok (.ifCond .eq 17, 3) := by decide +kernel
theorem d_M_insert_8 : decode b_M_insert 8 = .ok (.aload_n 0, 1) := by decide +kernel
theorem d_M_insert_9 : decode b_M_insert 9 = .ok (.getfield 7, 3) := by decide +kernel
theorem d_M_insert_12 : decode b_M_insert 12 = .ok (.iload_n 1, 1) := by decide +kernel
theorem d_M_insert_13 : decode b_M_insert 13 = .ok (.iaload, 1) := by decide +kernel
theorem d_M_insert_14 : decode b_M_insert 14 = .ok (.iconst 5, 1) := by decide +kernel
theorem d_M_insert_15 : decode b_M_insert 15 = .ok (.if_icmp .ne 7, 3) := by decide +kernel
theorem d_M_insert_18 : decode b_M_insert 18 = .ok (.iconst 1, 1) := by decide +kernel
theorem d_M_insert_19 : decode b_M_insert 19 = .ok (.goto 4, 3) := by decide +kernel
theorem d_M_insert_22 : decode b_M_insert 22 = .ok (.iconst 0, 1) := by decide +kernel
theorem d_M_insert_23 : decode b_M_insert 23 = .ok (.istore 4, 2) := by decide +kernel
theorem d_M_insert_25 : decode b_M_insert 25 = .ok (.aload_n 0, 1) := by decide +kernel
theorem d_M_insert_26 : decode b_M_insert 26 = .ok (.iload 4, 2) := by decide +kernel
theorem d_M_insert_28 : decode b_M_insert 28 = .ok (.ifCond .eq 7, 3) := by decide +kernel
theorem d_M_insert_31 : decode b_M_insert 31 = .ok (.iconst 0, 1) := by decide +kernel
theorem d_M_insert_32 : decode b_M_insert 32 = .ok (.goto 9, 3) := by decide +kernel
theorem d_M_insert_35 : decode b_M_insert 35 = .ok (.aload_n 0, 1) := by decide +kernel
theorem d_M_insert_36 : decode b_M_insert 36 = .ok (.iload_n 1, 1) := by decide +kernel
theorem d_M_insert_37 : decode b_M_insert 37 = .ok (.iconst 5, 1) := by decide +kernel
theorem d_M_insert_38 : decode b_M_insert 38 = .ok (.invokevirtual 94, 3) := by decide +kernel
theorem d_M_insert_41 : decode b_M_insert 41 = .ok (.putfield 55, 3) := by decide +kernel
theorem d_M_insert_44 : decode b_M_insert 44 = .ok (.aload_n 0, 1) := by decide +kernel
theorem d_M_insert_45 : decode b_M_insert 45 = .ok (.getfield 55, 3) := by decide +kernel
theorem d_M_insert_48 : decode b_M_insert 48 = .ok (.ifCond .le 4, 3) := by decide +kernel
theorem d_M_insert_51 : decode b_M_insert 51 = .ok (.return_, 1) := by decide +kernel
theorem d_M_insert_52 : decode b_M_insert 52 = .ok (.aload_n 0, 1) := by decide +kernel
theorem d_M_insert_53 : decode b_M_insert 53 = .ok (.iload 4, 2) := by decide +kernel
theorem d_M_insert_55 : decode b_M_insert 55 = .ok (.ifCond .ne 20, 3) := by decide +kernel
theorem d_M_insert_58 : decode b_M_insert 58 = .ok (.iload_n 2, 1) := by decide +kernel
theorem d_M_insert_59 : decode b_M_insert 59 = .ok (.ifCond .lt 12, 3) := by decide +kernel
theorem d_M_insert_62 : decode b_M_insert 62 = .ok (.iload_n 2, 1) := by decide +kernel
theorem d_M_insert_63 : decode b_M_insert 63 = .ok (.aload_n 0, 1) := by decide +kernel
theorem d_M_insert_64 : decode b_M_insert 64 = .ok (.iload_n 1, 1) := by decide +kernel
theorem d_M_insert_65 : decode b_M_insert 65 = .ok (.invokevirtual 79, 3) := by decide +kernel
theorem d_M_insert_68 : decode b_M_insert 68 = .ok (.if_icmp .le 7, 3) := by decide +kernel
theorem d_M_insert_71 : decode b_M_insert 71 = .ok (.iconst 3, 1) := by decide +kernel
theorem d_M_insert_72 : decode b_M_insert 72 = .ok (.goto 24, 3) := by decide +kernel
theorem d_M_insert_75 : decode b_M_insert 75 = .ok (.aload_n 0, 1) := by decide +kernel
theorem d_M_insert_76 : decode b_M_insert 76 = .ok (.getfield 25, 3) := by decide +kernel
theorem d_M_insert_79 : decode b_M_insert 79 = .ok (.aload_n 0, 1) := by decide +kernel
theorem d_M_insert_80 : decode b_M_insert 80 = .ok (.getfield 16, 3) := by decide +kernel
theorem d_M_insert_83 : decode b_M_insert 83 = .ok (.iload_n 1, 1) := by decide +kernel
theorem d_M_insert_84 : decode b_M_insert 84 = .ok (.iaload, 1) := by decide +kernel
theorem d_M_insert_85 : decode b_M_insert 85 = .ok (.iaload, 1) := by decide +kernel
theorem d_M_insert_86 : decode b_M_insert 86 = .ok (.bipush 24, 2) := by decide +kernel
theorem d_M_insert_88 : decode b_M_insert 88 = .ok (.if_icmp .ne 7, 3) := by decide +kernel
theorem d_M_insert_91 : decode b_M_insert 91 = .ok (.iconst 4, 1) := by decide +kernel
theorem d_M_insert_92 : decode b_M_insert 92 = .ok (.goto 4, 3) := by decide +kernel
theorem d_M_insert_95 : decode b_M_insert 95 = .ok (.iconst 0, 1) := by decide +kernel
theorem d_M_insert_96 : decode b_M_insert 96 = .ok (.putfield 55, 3) := by decide +kernel
theorem d_M_insert_99 : decode b_M_insert 99 = .ok (.aload_n 0, 1) := by decide +kernel
theorem d_M_insert_100 : decode b_M_insert 100 = .ok (.getfield 55, 3) := by decide +kernel
theorem d_M_insert_103 : decode b_M_insert 103 = .ok (.ifCond .le 4, 3) := by decide +kernel
theorem d_M_insert_106 : decode b_M_insert 106 = .ok (.return_, 1) := by decide +kernel
theorem d_M_insert_107 : decode b_M_insert 107 = .ok (.iload 4, 2) := by decide +kernel
theorem d_M_insert_109 : decode b_M_insert 109 = .ok (.ifCond .eq 19, 3) := by decide +kernel
theorem d_M_insert_112 : decode b_M_insert 112 = .ok (.aload_n 0, 1) := by decide +kernel
theorem d_M_insert_113 : decode b_M_insert 113 = .ok (.iload_n 1, 1) := by decide +kernel
theorem d_M_insert_114 : decode b_M_insert 114 = .ok (.aload_n 0, 1) := by decide +kernel
theorem d_M_insert_115 : decode b_M_insert 115 = .ok (.getfield 25, 3) := by decide +kernel
theorem d_M_insert_118 : decode b_M_insert 118 = .ok (.iload_n 1, 1) := by decide +kernel
theorem d_M_insert_119 : decode b_M_insert 119 = .ok (.iaload, 1) := by decide +kernel
theorem d_M_insert_120 : decode b_M_insert 120 = .ok (.iload_n 3, 1) := by decide +kernel
theorem d_M_insert_121 : decode b_M_insert 121 = .ok (.iconst 0, 1) := by decide +kernel
theorem d_M_insert_122 : decode b_M_insert 122 = .ok (.invokevirtual 103, 3) := by decide +kernel
theorem d_M_insert_125 : decode b_M_insert 125 = .ok (.goto 10, 3) := by decide +kernel
theorem d_M_insert_128 : decode b_M_insert 128 = .ok (.aload_n 0, 1) := by decide +kernel
theorem d_M_insert_129 : decode b_M_insert 129 = .ok (.iload_n 1, 1) := by decide +kernel
theorem d_M_insert_130 : decode b_M_insert 130 = .ok (.iload_n 2, 1) := by decide +kernel
theorem d_M_insert_131 : decode b_M_insert 131 = .ok (.iload_n 3, 1) := by decide +kernel
theorem d_M_insert_132 : decode b_M_insert 132 = .ok (.invokevirtual 107, 3) := by decide +kernel
theorem d_M_insert_135 : decode b_M_insert 135 = .ok (.return_, 1) := by decide +kernel
theorem d_M_remove_0 : decode b_M_remove 0 = .ok (.aload_n 0, 1) := by decide +kernel
theorem d_M_remove_1 : decode b_M_remove 1 = .ok (.iload_n 1, 1) := by decide +kernel
theorem d_M_remove_2 : decode b_M_remove 2 = .ok (.invokevirtual 70, 3) := by decide +kernel
theorem d_M_remove_5 : decode b_M_remove 5 = .ok (.ifCond .eq 17, 3) := by decide +kernel
theorem d_M_remove_8 : decode b_M_remove 8 = .ok (.aload_n 0, 1) := by decide +kernel
theorem d_M_remove_9 : decode b_M_remove 9 = .ok (.getfield 7, 3) := by decide +kernel
theorem d_M_remove_12 : decode b_M_remove 12 = .ok (.iload_n 1, 1) := by decide +kernel
theorem d_M_remove_13 : decode b_M_remove 13 = .ok (.iaload, 1) := by decide +kernel
theorem d_M_remove_14 : decode b_M_remove 14 = .ok (.iconst 5, 1) := by decide +kernel
theorem d_M_remove_15 : decode b_M_remove 15 = .ok (.if_icmp .ne 7, 3) := by decide +kernel
theorem d_M_remove_18 : decode b_M_remove 18 = .ok (.iconst 1, 1) := by decide +kernel
theorem d_M_remove_19 : decode b_M_remove 19 = .ok (.goto 4, 3) := by decide +kernel
theorem d_M_remove_22 : decode b_M_remove 22 = .ok (.iconst 0, 1) := by decide +kernel
theorem d_M_remove_23 : decode b_M_remove 23 = .ok (.istore_n 3, 1) := by decide +kernel
theorem d_M_remove_24 : decode b_M_remove 24 = .ok (.aload_n 0, 1) := by decide +kernel
theorem d_M_remove_25 : decode b_M_remove 25 = .ok (.iload_n 3, 1) := by decide +kernel
theorem d_M_remove_26 : decode b_M_remove 26 = .ok (.ifCond .eq 7, 3) := by decide +kernel
theorem d_M_remove_29 : decode b_M_remove 29 = .ok (.iconst 0, 1) := by decide +kernel
theorem d_M_remove_30 : decode b_M_remove 30 = .ok (.goto 9, 3) := by decide +kernel
theorem d_M_remove_33 : decode b_M_remove 33 = .ok (.aload_n 0, 1) := by decide +kernel
theorem d_M_remove_34 : decode b_M_remove 34 = .ok (.iload_n 1, 1) := by decide +kernel
theorem d_M_remove_35 : decode b_M_remove 35 = .ok (.iconst 4, 1) := by decide +kernel
theorem d_M_remove_36 : decode b_M_remove 36 = .ok (.invokevirtual 94, 3) := by decide +kernel
theorem d_M_remove_39 : decode b_M_remove 39 = .ok (.putfield 55, 3) := by decide +kernel
theorem d_M_remove_42 : decode b_M_remove 42 = .ok (.aload_n 0, 1) := by decide +kernel
theorem d_M_remove_43 : decode b_M_remove 43 = .ok (.getfield 55, 3) := by decide +kernel
theorem d_M_remove_46 : decode b_M_remove 46 = .ok (.ifCond .le 5, 3) := by decide +kernel
theorem d_M_remove_49 : decode b_M_remove 49 = .ok (.iconst 0, 1) := by decide +kernel
theorem d_M_remove_50 : decode b_M_remove 50 = .ok (.ireturn, 1) := by decide +kernel
theorem d_M_remove_51 : decode b_M_remove 51 = .ok (.aload_n 0, 1) := by decide +kernel
theorem d_M_remove_52 : decode b_M_remove 52 = .ok (.iload_n 3, 1) := by decide +kernel
theorem d_M_remove_53 : decode b_M_remove 53 = .ok (.ifCond .eq 20, 3) := by decide +kernel
theorem d_M_remove_56 : decode b_M_remove 56 = .ok (.aload_n 0, 1) := by decide +kernel
theorem d_M_remove_57 : decode b_M_remove 57 = .ok (.getfield 25, 3) := by decide +kernel
theorem d_M_remove_60 : decode b_M_remove 60 = .ok (.iload_n 1, 1) := by decide +kernel
theorem d_M_remove_61 : decode b_M_remove 61 = .ok (.iaload, 1) := by decide +kernel
theorem d_M_remove_62 : decode b_M_remove 62 = .ok (.ifCond .ne 7, 3) := by decide +kernel
theorem d_M_remove_65 : decode b_M_remove 65 = .ok (.iconst 3, 1) := by decide +kernel
theorem d_M_remove_66 : decode b_M_remove 66 = .ok (.goto 25, 3) := by decide +kernel
theorem d_M_remove_69 : decode b_M_remove 69 = .ok (.iconst 0, 1) := by decide +kernel
theorem d_M_remove_70 : decode b_M_remove 70 = .ok (.goto 21, 3) := by decide +kernel
theorem d_M_remove_73 : decode b_M_remove 73 = .ok (.iload_n 2, 1) := by decide +kernel
theorem d_M_remove_74 : decode b_M_remove 74 = .ok (.ifCond .lt 12, 3) := by decide +kernel
theorem d_M_remove_77 : decode b_M_remove 77 = .ok (.iload_n 2, 1) := by decide +kernel
theorem d_M_remove_78 : decode b_M_remove 78 = .ok (.aload_n 0, 1) := by decide +kernel
theorem d_M_remove_79 : decode b_M_remove 79 = .ok (.iload_n 1, 1) := by decide +kernel
theorem d_M_remove_80 : decode b_M_remove 80 = .ok (.invokevirtual 79, 3) := by decide +kernel
theorem d_M_remove_83 : decode b_M_remove 83 = .ok (.if_icmp .lt 7, 3) := by decide +kernel
theorem d_M_remove_86 : decode b_M_remove 86 = .ok (.iconst 3, 1) := by decide +kernel
theorem d_M_remove_87 : decode b_M_remove 87 = .ok (.goto 4, 3) := by decide +kernel
theorem d_M_remove_90 : decode b_M_remove 90 = .ok (.iconst 0, 1) := by decide +kernel
theorem d_M_remove_91 : decode b_M_remove 91 = .ok (.putfield 55, 3) := by decide +kernel
theorem d_M_remove_94 : decode b_M_remove 94 = .ok (.aload_n 0, 1) := by decide +kernel
theorem d_M_remove_95 : decode b_M_remove 95 = .ok (.getfield 55, 3) := by decide +kernel
theorem d_M_remove_98 : decode b_M_remove 98 = .ok (.ifCond .le 5, 3) := by decide +kernel
theorem d_M_remove_101 : decode b_M_remove 101 = .ok (.iconst 0, 1) := by decide +kernel
theorem d_M_remove_102 : decode b_M_remove 102 = .ok (.ireturn, 1) := by decide +kernel
theorem d_M_remove_103 : decode b_M_remove 103 = .ok (.iload_n 3, 1) := by decide +kernel
theorem d_M_remove_104 : decode b_M_remove 104 = .ok (.ifCond .eq 7, 3) := by decide +kernel
theorem d_M_remove_107 : decode b_M_remove 107 = .ok (.iconst 0, 1) := by decide +kernel
theorem d_M_remove_108 : decode b_M_remove 108 = .ok (.goto 4, 3) := by decide +kernel
theorem d_M_remove_111 : decode b_M_remove 111 = .ok (.iload_n 2, 1) := by decide +kernel
theorem d_M_remove_112 : decode b_M_remove 112 = .ok (.istore 4, 2) := by decide +kernel
theorem d_M_remove_114 : decode b_M_remove 114 = .ok (.iconst 0, 1) := by decide +kernel
theorem d_M_remove_115 : decode b_M_remove 115 = .ok (.istore 5, 2) := by decide +kernel
theorem d_M_remove_117 : decode b_M_remove 117 = .ok (.iload_n 3, 1) := by decide +kernel
theorem d_M_remove_118 : decode b_M_remove 118 = .ok (.ifCond .eq 56, 3) := by decide +kernel
theorem d_M_remove_121 : decode b_M_remove 121 = .ok (.iload 5, 2) := by decide +kernel
theorem d_M_remove_123 : decode b_M_remove 123 = .ok (.aload_n 0, 1) := by decide +kernel
theorem d_M_remove_124 : decode b_M_remove 124 = .ok (.getfield 25, 3) := by decide +kernel
theorem d_M_remove_127 : decode b_M_remove 127 = .ok (.iload_n 1, 1) := by decide +kernel
theorem d_M_remove_128 : decode b_M_remove 128 = .ok (.iaload, 1) := by decide +kernel
theorem d_M_remove_129 : decode b_M_remove 129 = .ok (.if_icmp .ge 45, 3) := by decide +kernel
theorem d_M_remove_132 : decode b_M_remove 132 = .ok (.aload_n 0, 1) := by decide +kernel
theorem d_M_remove_133 : decode b_M_remove 133 = .ok (.getfield 19, 3) := by decide +kernel
theorem d_M_remove_136 : decode b_M_remove 136 = .ok (.bipush 24, 2) := by decide +kernel
theorem d_M_remove_138 : decode b_M_remove 138 = .ok (.iload_n 1, 1) := by decide +kernel
theorem d_M_remove_139 : decode b_M_remove 139 = .ok (.imul, 1) := by decide +kernel
theorem d_M_remove_140 : decode b_M_remove 140 = .ok (.iload 5, 2) := by decide +kernel
theorem d_M_remove_142 : decode b_M_remove 142 = .ok (.iadd, 1) := by decide +kernel
theorem d_M_remove_143 : decode b_M_remove 143 = .ok (.iaload, 1) := by decide +kernel
theorem d_M_remove_144 : decode b_M_remove 144 = .ok (.aload_n 0, 1) := by decide +kernel
theorem d_M_remove_145 : decode b_M_remove 145 = .ok (.getfield 19, 3) := by decide +kernel
theorem d_M_remove_148 : decode b_M_remove 148 = .ok (.bipush 24, 2) := by decide +kernel
theorem d_M_remove_150 : decode b_M_remove 150 = .ok (.iload_n 1, 1) := by decide +kernel
theorem d_M_remove_151 : decode b_M_remove 151 = .ok (.imul, 1) := by decide +kernel
theorem d_M_remove_152 : decode b_M_remove 152 = .ok (.iload 4, 2) := by decide +kernel
theorem d_M_remove_154 : decode b_M_remove 154 = .ok (.iadd, 1) := by decide +kernel
theorem d_M_remove_155 : decode b_M_remove 155 = .ok (.iaload, 1) := by decide +kernel
theorem d_M_remove_156 : decode b_M_remove 156 = .ok (.if_icmp .ge 8, 3) := by decide +kernel
theorem d_M_remove_159 : decode b_M_remove 159 = .ok (.iload 5, 2) := by decide +kernel
theorem d_M_remove_161 : decode b_M_remove 161 = .ok (.goto 5, 3) := by decide +kernel
theorem d_M_remove_164 : decode b_M_remove 164 = .ok (.iload 4, 2) := by decide +kernel
theorem d_M_remove_166 : decode b_M_remove 166 = .ok (.istore 4, 2) := by decide +kernel
theorem d_M_remove_168 : decode b_M_remove 168 = .ok (.iinc 5 1, 3) := by decide +kernel
theorem d_M_remove_171 : decode b_M_remove 171 = .ok (.goto (-54), 3) := by decide +kernel
theorem d_M_remove_174 : decode b_M_remove 174 = .ok (.aload_n 0, 1) := by decide +kernel
theorem d_M_remove_175 : decode b_M_remove 175 = .ok (.getfield 19, 3) := by decide +kernel
theorem d_M_remove_178 : decode b_M_remove 178 = .ok (.aload_n 0, 1) := by decide +kernel
theorem d_M_remove_179 : decode b_M_remove 179 = .ok (.iload_n 1, 1) := by decide +kernel
theorem d_M_remove_180 : decode b_M_remove 180 = .ok (.iload 4, 2) := by decide +kernel
theorem d_M_remove_182 : decode b_M_remove 182 = .ok (.invokevirtual 97, 3) := by decide +kernel
theorem d_M_remove_185 : decode b_M_remove 185 = .ok (.iaload, 1) := by decide +kernel
theorem d_M_remove_186 : decode b_M_remove 186 = .ok (.istore 5, 2) := by decide +kernel
theorem d_M_remove_188 : decode b_M_remove 188 = .ok (.aload_n 0, 1) := by decide +kernel
theorem d_M_remove_189 : decode b_M_remove 189 = .ok (.iload_n 1, 1) := by decide +kernel
theorem d_M_remove_190 : decode b_M_remove 190 = .ok (.aload_n 0, 1) := by decide +kernel
theorem d_M_remove_191 : decode b_M_remove 191 = .ok (.iload_n 1, 1) := by decide +kernel
theorem d_M_remove_192 : decode b_M_remove 192 = .ok (.invokevirtual 83, 3) := by decide +kernel
theorem d_M_remove_195 : decode b_M_remove 195 = .ok (.iload 4, 2) := by decide +kernel
theorem d_M_remove_197 : decode b_M_remove 197 = .ok (.iadd, 1) := by decide +kernel
theorem d_M_remove_198 : decode b_M_remove 198 = .ok (.invokevirtual 111, 3) := by decide +kernel
theorem d_M_remove_201 : decode b_M_remove 201 = .ok (.iload 5, 2) := by decide +kernel
theorem d_M_remove_203 : decode b_M_remove 203 = .ok (.ireturn, 1) := by decide +kernel
theorem d_M_modulo_0 : decode b_M_modulo 0 = .ok (.iload_n 0, 1) := by decide +kernel
theorem d_M_modulo_1 : decode b_M_modulo 1 = .ok (.iload_n 1, 1) := by decide +kernel
theorem d_M_modulo_2 : decode b_M_modulo 2 = .ok (.irem, 1) := by decide +kernel
theorem d_M_modulo_3 : decode b_M_modulo 3 = .ok (.istore_n 2, 1) := by decide +kernel
theorem d_M_modulo_4 : decode b_M_modulo 4 = .ok (.iload_n 2, 1) := by decide +kernel
theorem d_M_modulo_5 : decode b_M_modulo 5 = .ok (.ifCond .ge 9, 3) := by decide +kernel
theorem d_M_modulo_8 : decode b_M_modulo 8 = .ok (.iload_n 2, 1) := by decide +kernel
theorem d_M_modulo_9 : decode b_M_modulo 9 = .ok (.iload_n 1, 1) := by decide +kernel
theorem d_M_modulo_10 : decode b_M_modulo 10 = .ok (.iadd, 1) := by decide +kernel
theorem d_M_modulo_11 : decode b_M_modulo 11 = .ok (.goto 4, 3) := by decide +kernel
theorem d_M_modulo_14 : decode b_M_modulo 14 = .ok (.iload_n 2, 1) := by decide +kernel
theorem d_M_modulo_15 : decode b_M_modulo 15 = .ok (.ireturn, 1) := by decide +kernel
theorem d_M_isBefore_0 : decode b_M_isBefore 0 = .ok (.iload_n 2, 1) := by decide +kernel
theorem d_M_isBefore_1 : decode b_M_isBefore 1 = .ok (.ifCond .ne 16, 3) := by decide +kernel
theorem d_M_isBefore_4 : decode b_M_isBefore 4 = .ok (.iload_n 0, 1) := by decide +kernel
theorem d_M_isBefore_5 : decode b_M_isBefore 5 = .ok (.iload_n 1, 1) := by decide +kernel
theorem d_M_isBefore_6 : decode b_M_isBefore 6 = .ok (.if_icmp .ge 7, 3) := by decide +kernel
theorem d_M_isBefore_9 : decode b_M_isBefore 9 = .ok (.iconst 1, 1) := by decide +kernel
theorem d_M_isBefore_10 : decode b_M_isBefore 10 = .ok (.goto 45, 3) := by decide +kernel
theorem d_M_isBefore_13 : decode b_M_isBefore 13 = .ok (.iconst 0, 1) := by decide +kernel
theorem d_M_isBefore_14 : decode b_M_isBefore 14 = .ok (.goto 41, 3) := by decide +kernel
theorem d_M_isBefore_17 : decode b_M_isBefore 17 = .ok (.iload_n 2, 1) := by decide +kernel
theorem d_M_isBefore_18 : decode b_M_isBefore 18 = .ok (.iconst 1, 1) := by decide +kernel
theorem d_M_isBefore_19 : decode b_M_isBefore 19 = .ok (.if_icmp .ne 16, 3) := by decide +kernel
theorem d_M_isBefore_22 : decode b_M_isBefore 22 = .ok (.iload_n 0, 1) := by decide +kernel
theorem d_M_isBefore_23 : decode b_M_isBefore 23 = .ok (.iload_n 1, 1) := by decide +kernel
theorem d_M_isBefore_24 : decode b_M_isBefore 24 = .ok (.if_icmp .le 7, 3) := by decide +kernel
theorem d_M_isBefore_27 : decode b_M_isBefore 27 = .ok (.iconst 1, 1) := by decide +kernel
theorem d_M_isBefore_28 : decode b_M_isBefore 28 = .ok (.goto 27, 3) := by decide +kernel
theorem d_M_isBefore_31 : decode b_M_isBefore 31 = .ok (.iconst 0, 1) := by decide +kernel
theorem d_M_isBefore_32 : decode b_M_isBefore 32 = .ok (.goto 23, 3) := by decide +kernel
theorem d_M_isBefore_35 : decode b_M_isBefore 35 = .ok (.iload_n 0, 1) := by decide +kernel
theorem d_M_isBefore_36 : decode b_M_isBefore 36 = .ok (.bipush 10, 2) := by decide +kernel
theorem d_M_isBefore_38 : decode b_M_isBefore 38 = .ok (.invokestatic 114, 3) := by decide +kernel
theorem d_M_isBefore_41 : decode b_M_isBefore 41 = .ok (.iload_n 1, 1) := by decide +kernel
theorem d_M_isBefore_42 : decode b_M_isBefore 42 = .ok (.bipush 10, 2) := by decide +kernel
theorem d_M_isBefore_44 : decode b_M_isBefore 44 = .ok (.invokestatic 114, 3) := by decide +kernel
theorem d_M_isBefore_47 : decode b_M_isBefore 47 = .ok (.if_icmp .ge 7, 3) := by decide +kernel
theorem d_M_isBefore_50 : decode b_M_isBefore 50 = .ok (.iconst 1, 1) := by decide +kernel
theorem d_M_isBefore_51 : decode b_M_isBefore 51 = .ok (.goto 4, 3) := by decide +kernel
theorem d_M_isBefore_54 : decode b_M_isBefore 54 = .ok (.iconst 0, 1) := by decide +kernel
theorem d_M_isBefore_55 : decode b_M_isBefore 55 = .ok (.ireturn, 1) := by decide +kernel
theorem d_M_sort_0 : decode b_M_sort 0 = .ok (.aload_n 0, 1) := by decide +kernel
theorem d_M_sort_1 : decode b_M_sort 1 = .ok (.aload_n 0, 1) := by decide +kernel
theorem d_M_sort_2 : decode b_M_sort 2 = .ok (.iload_n 1, 1) := by decide +kernel
theorem d_M_sort_3 : decode b_M_sort 3 = .ok (.iconst 4, 1) := by decide +kernel
theorem d_M_sort_4 : decode b_M_sort 4 = .ok (.invokevirtual 94, 3) := by decide +kernel
theorem d_M_sort_7 : decode b_M_sort 7 = .ok (.putfield 55, 3) := by decide +kernel
theorem d_M_sort_10 : decode b_M_sort 10 = .ok (.aload_n 0, 1) := by decide +kernel
theorem d_M_sort_11 : decode b_M_sort 11 = .ok (.getfield 55, 3) := by decide +kernel
theorem d_M_sort_14 : decode b_M_sort 14 = .ok (.ifCond .ne 17, 3) := by decide +kernel
theorem d_M_sort_17 : decode b_M_sort 17 = .ok (.iload_n 2, 1) := by decide +kernel
theorem d_M_sort_18 : decode b_M_sort 18 = .ok (.ifCond .lt 8, 3) := by decide +kernel
theorem d_M_sort_21 : decode b_M_sort 21 = .ok (.iload_n 2, 1) := by decide +kernel
theorem d_M_sort_22 : decode b_M_sort 22 = .ok (.iconst 2, 1) := by decide +kernel
theorem d_M_sort_23 : decode b_M_sort 23 = .ok (.if_icmp .le 8, 3) := by decide +kernel
theorem d_M_sort_26 : decode b_M_sort 26 = .ok (.aload_n 0, 1) := by decide +kernel
theorem d_M_sort_27 : decode b_M_sort 27 = .ok (.iconst 3, 1) := by decide +kernel
theorem d_M_sort_28 : decode b_M_sort 28 = .ok (.putfield 55, 3) := by decide +kernel
theorem d_M_sort_31 : decode b_M_sort 31 = .ok (.aload_n 0, 1) := by decide +kernel
theorem d_M_sort_32 : decode b_M_sort 32 = .ok (.getfield 55, 3) := by decide +kernel
theorem d_M_sort_35 : decode b_M_sort 35 = .ok (.ifCond .le 4, 3) := by decide +kernel
theorem d_M_sort_38 : decode b_M_sort 38 = .ok (.return_, 1) := by decide +kernel
theorem d_M_sort_39 : decode b_M_sort 39 = .ok (.aload_n 0, 1) := by decide +kernel
theorem d_M_sort_40 : decode b_M_sort 40 = .ok (.iload_n 1, 1) := by decide +kernel
theorem d_M_sort_41 : decode b_M_sort 41 = .ok (.iconst 0, 1) := by decide +kernel
theorem d_M_sort_42 : decode b_M_sort 42 = .ok (.invokevirtual 97, 3) := by decide +kernel
theorem d_M_sort_45 : decode b_M_sort 45 = .ok (.istore_n 3, 1) := by decide +kernel
theorem d_M_sort_46 : decode b_M_sort 46 = .ok (.iload_n 3, 1) := by decide +kernel
theorem d_M_sort_47 : decode b_M_sort 47 = .ok (.iconst 1, 1) := by decide +kernel
theorem d_M_sort_48 : decode b_M_sort 48 = .ok (.iadd, 1) := by decide +kernel
theorem d_M_sort_49 : decode b_M_sort 49 = .ok (.istore 4, 2) := by decide +kernel
theorem d_M_sort_51 : decode b_M_sort 51 = .ok (.iload 4, 2) := by decide +kernel
theorem d_M_sort_53 : decode b_M_sort 53 = .ok (.iload_n 3, 1) := by decide +kernel
theorem d_M_sort_54 : decode b_M_sort 54 = .ok (.aload_n 0, 1) := by decide +kernel
theorem d_M_sort_55 : decode b_M_sort 55 = .ok (.iload_n 1, 1) := by decide +kernel
theorem d_M_sort_56 : decode b_M_sort 56 = .ok (.invokevirtual 79, 3) := by decide +kernel
theorem d_M_sort_59 : decode b_M_sort 59 = .ok (.iadd, 1) := by decide +kernel
theorem d_M_sort_60 : decode b_M_sort 60 = .ok (.if_icmp .ge 77, 3) := by decide +kernel
theorem d_M_sort_63 : decode b_M_sort 63 = .ok (.aload_n 0, 1) := by decide +kernel
theorem d_M_sort_64 : decode b_M_sort 64 = .ok (.getfield 19, 3) := by decide +kernel
theorem d_M_sort_67 : decode b_M_sort 67 = .ok (.iload 4, 2) := by decide +kernel
theorem d_M_sort_69 : decode b_M_sort 69 = .ok (.iaload, 1) := by decide +kernel
theorem d_M_sort_70 : decode b_M_sort 70 = .ok (.istore 5, 2) := by decide +kernel
theorem d_M_sort_72 : decode b_M_sort 72 = .ok (.iload 4, 2) := by decide +kernel
theorem d_M_sort_74 : decode b_M_sort 74 = .ok (.istore 6, 2) := by decide +kernel
theorem d_M_sort_76 : decode b_M_sort 76 = .ok (.iload 6, 2) := by decide +kernel
theorem d_M_sort_78 : decode b_M_sort 78 = .ok (.iload_n 3, 1) := by decide +kernel
theorem d_M_sort_79 : decode b_M_sort 79 = .ok (.if_icmp .le 43, 3) := by decide +kernel
theorem d_M_sort_82 : decode b_M_sort 82 = .ok (.iload 5, 2) := by decide +kernel
theorem d_M_sort_84 : decode b_M_sort 84 = .ok (.aload_n 0, 1) := by decide +kernel
theorem d_M_sort_85 : decode b_M_sort 85 = .ok (.getfield 19, 3) := by decide +kernel
theorem d_M_sort_88 : decode b_M_sort 88 = .ok (.iload 6, 2) := by decide +kernel
theorem d_M_sort_90 : decode b_M_sort 90 = .ok (.iconst 1, 1) := by decide +kernel
theorem d_M_sort_91 : decode b_M_sort 91 = .ok (.isub, 1) := by decide +kernel
theorem d_M_sort_92 : decode b_M_sort 92 = .ok (.iaload, 1) := by decide +kernel
theorem d_M_sort_93 : decode b_M_sort 93 = .ok (.iload_n 2, 1) := by decide +kernel
theorem d_M_sort_94 : decode b_M_sort 94 = .ok (.invokestatic 117, 3) := by decide +kernel
theorem d_M_sort_97 : decode b_M_sort 97 = .ok (.ifCond .eq 25, 3) := by decide +kernel
theorem d_M_sort_100 : decode b_M_sort 100 = .ok (.aload_n 0, 1) := by decide +kernel
theorem d_M_sort_101 : decode b_M_sort 101 = .ok (.getfield 19, 3) := by decide +kernel
theorem d_M_sort_104 : decode b_M_sort 104 = .ok (.iload 6, 2) := by decide +kernel
theorem d_M_sort_106 : decode b_M_sort 106 = .ok (.aload_n 0, 1) := by decide +kernel
theorem d_M_sort_107 : decode b_M_sort 107 = .ok (.getfield 19, 3) := by decide +kernel
theorem d_M_sort_110 : decode b_M_sort 110 = .ok (.iload 6, 2) := by decide +kernel
theorem d_M_sort_112 : decode b_M_sort 112 = .ok (.iconst 1, 1) := by decide +kernel
theorem d_M_sort_113 : decode b_M_sort 113 = .ok (.isub, 1) := by decide +kernel
theorem d_M_sort_114 : decode b_M_sort 114 = .ok (.iaload, 1) := by decide +kernel
theorem d_M_sort_115 : decode b_M_sort 115 = .ok (.iastore, 1) := by decide +kernel
theorem d_M_sort_116 : decode b_M_sort 116 = .ok (.iinc 6 (-1), 3) := by decide +kernel
theorem d_M_sort_119 : decode b_M_sort 119 = .ok (.goto (-43), 3) := by decide +kernel
theorem d_M_sort_122 : decode b_M_sort 122 = .ok (.aload_n 0, 1) := by decide +kernel
theorem d_M_sort_123 : decode b_M_sort 123 = .ok (.getfield 19, 3) := by decide +kernel
theorem d_M_sort_126 : decode b_M_sort 126 = .ok (.iload 6, 2) := by decide +kernel
theorem d_M_sort_128 : decode b_M_sort 128 = .ok (.iload 5, 2) := by decide +kernel
theorem d_M_sort_130 : decode b_M_sort 130 = .ok (.iastore, 1) := by decide +kernel
theorem d_M_sort_131 : decode b_M_sort 131 = .ok (.iinc 4 1, 3) := by decide +kernel
theorem d_M_sort_134 : decode b_M_sort 134 = .ok (.goto (-83), 3) := by decide +kernel
theorem d_M_sort_137 : decode b_M_sort 137 = .ok (.aload_n 0, 1) := by decide +kernel
theorem d_M_sort_138 : decode b_M_sort 138 = .ok (.iload_n 1, 1) := by decide +kernel
theorem d_M_sort_139 : decode b_M_sort 139 = .ok (.iconst 0, 1) := by decide +kernel
theorem d_M_sort_140 : decode b_M_sort 140 = .ok (.invokevirtual 90, 3) := by decide +kernel
theorem d_M_sort_143 : decode b_M_sort 143 = .ok (.return_, 1) := by decide +kernel
theorem d_M_checkMap_0 : decode b_M_checkMap 0 = .ok (.aload_n 0, 1) := by decide +kernel
theorem d_M_checkMap_1 : decode b_M_checkMap 1 = .ok (.iload_n 1, 1) := by decide +kernel
theorem d_M_checkMap_2 : decode b_M_checkMap 2 = .ok (.invokevirtual 70, 3) := by decide +kernel
theorem d_M_checkMap_5 : decode b_M_checkMap 5 = .ok (.ifCond .ne 7, 3) := by decide +kernel
theorem d_M_checkMap_8 : decode b_M_checkMap 8 = .ok (.iconst 1, 1) := by decide +kernel
theorem d_M_checkMap_9 : decode b_M_checkMap 9 = .ok (.goto 16, 3) := by decide +kernel
theorem d_M_checkMap_12 : decode b_M_checkMap 12 = .ok (.aload_n 0, 1) := by decide +kernel
theorem d_M_checkMap_13 : decode b_M_checkMap 13 = .ok (.iload_n 1, 1) := by decide +kernel
theorem d_M_checkMap_14 : decode b_M_checkMap 14 = .ok (.invokevirtual 121, 3) := by decide +kernel
theorem d_M_checkMap_17 : decode b_M_checkMap 17 = .ok (.ifCond .eq 7, 3) := by decide +kernel
theorem d_M_checkMap_20 : decode b_M_checkMap 20 = .ok (.iconst 0, 1) := by decide +kernel
theorem d_M_checkMap_21 : decode b_M_checkMap 21 = .ok (.goto 4, 3) := by decide +kernel
theorem d_M_checkMap_24 : decode b_M_checkMap 24 = .ok (.iconst 2, 1) := by decide +kernel
theorem d_M_checkMap_25 : decode b_M_checkMap 25 = .ok (.ireturn, 1) := by decide +kernel
theorem d_M_find_0 : decode b_M_find 0 = .ok (.aload_n 0, 1) := by decide +kernel
theorem d_M_find_1 : decode b_M_find 1 = .ok (.getfield 16, 3) := by decide +kernel
theorem d_M_find_4 : decode b_M_find 4 = .ok (.iload_n 1, 1) := by decide +kernel
theorem d_M_find_5 : decode b_M_find 5 = .ok (.iaload, 1) := by decide +kernel
theorem d_M_find_6 : decode b_M_find 6 = .ok (.istore_n 3, 1) := by decide +kernel
theorem d_M_find_7 : decode b_M_find 7 = .ok (.iconst 0, 1) := by decide +kernel
theorem d_M_find_8 : decode b_M_find 8 = .ok (.istore 4, 2) := by decide +kernel
theorem d_M_find_10 : decode b_M_find 10 = .ok (.iload 4, 2) := by decide +kernel
theorem d_M_find_12 : decode b_M_find 12 = .ok (.aload_n 0, 1) := by decide +kernel
theorem d_M_find_13 : decode b_M_find 13 = .ok (.getfield 25, 3) := by decide +kernel
theorem d_M_find_16 : decode b_M_find 16 = .ok (.iload_n 3, 1) := by decide +kernel
theorem d_M_find_17 : decode b_M_find 17 = .ok (.iaload, 1) := by decide +kernel
theorem d_M_find_18 : decode b_M_find 18 = .ok (.if_icmp .ge 25, 3) := by decide +kernel
theorem d_M_find_21 : decode b_M_find 21 = .ok (.aload_n 0, 1) := by decide +kernel
theorem d_M_find_22 : decode b_M_find 22 = .ok (.getfield 19, 3) := by decide +kernel
theorem d_M_find_25 : decode b_M_find 25 = .ok (.bipush 24, 2) := by decide +kernel
theorem d_M_find_27 : decode b_M_find 27 = .ok (.iload_n 3, 1) := by decide +kernel
theorem d_M_find_28 : decode b_M_find 28 = .ok (.imul, 1) := by decide +kernel
theorem d_M_find_29 : decode b_M_find 29 = .ok (.iload 4, 2) := by decide +kernel
theorem d_M_find_31 : decode b_M_find 31 = .ok (.iadd, 1) := by decide +kernel
theorem d_M_find_32 : decode b_M_find 32 = .ok (.iaload, 1) := by decide +kernel
theorem d_M_find_33 : decode b_M_find 33 = .ok (.iload_n 2, 1) := by decide +kernel
theorem d_M_find_34 : decode b_M_find 34 = .ok (.if_icmp .eq 9, 3) := by decide +kernel
theorem d_M_find_37 : decode b_M_find 37 = .ok (.iinc 4 1, 3) := by decide +kernel
theorem d_M_find_40 : decode b_M_find 40 = .ok (.goto (-30), 3) := by decide +kernel
theorem d_M_find_43 : decode b_M_find 43 = .ok (.iload 4, 2) := by decide +kernel
theorem d_M_find_45 : decode b_M_find 45 = .ok (.aload_n 0, 1) := by decide +kernel
theorem d_M_find_46 : decode b_M_find 46 = .ok (.getfield 25, 3) := by decide +kernel
theorem d_M_find_49 : decode b_M_find 49 = .ok (.iload_n 3, 1) := by decide +kernel
theorem d_M_find_50 : decode b_M_find 50 = .ok (.iaload, 1) := by decide +kernel
theorem d_M_find_51 : decode b_M_find 51 = .ok (.if_icmp .ge 17, 3) := by decide +kernel
theorem d_M_find_54 : decode b_M_find 54 = .ok (.aload_n 0, 1) := by decide +kernel
theorem d_M_find_55 : decode b_M_find 55 = .ok (.iload_n 1, 1) := by decide +kernel
theorem d_M_find_56 : decode b_M_find 56 = .ok (.iload_n 2, 1) := by decide +kernel
theorem d_M_find_57 : decode b_M_find 57 = .ok (.invokevirtual 86, 3) := by decide +kernel
theorem d_M_find_60 : decode b_M_find 60 = .ok (.ifCond .eq 8, 3) := by decide +kernel
theorem d_M_find_63 : decode b_M_find 63 = .ok (.iload 4, 2) := by decide +kernel
theorem d_M_find_65 : decode b_M_find 65 = .ok (.goto 4, 3) := by decide +kernel
theorem d_M_find_68 : decode b_M_find 68 = .ok (.iconst (-1), 1) := by decide +kernel
theorem d_M_find_69 : decode b_M_find 69 = .ok (.ireturn, 1) := by decide +kernel
theorem d_M_freshen_0 : decode b_M_freshen 0 = .ok (.aload_n 0, 1) := by decide +kernel
theorem d_M_freshen_1 : decode b_M_freshen 1 = .ok (.getfield 7, 3) := by decide +kernel
theorem d_M_freshen_4 : decode b_M_freshen 4 = .ok (.iload_n 1, 1) := by decide +kernel
theorem d_M_freshen_5 : decode b_M_freshen 5 = .ok (.iaload, 1) := by decide +kernel
theorem d_M_freshen_6 : decode b_M_freshen 6 = .ok (.iconst 3, 1) := by decide +kernel
theorem d_M_freshen_7 : decode b_M_freshen 7 = .ok (.if_icmp .ne 15, 3) := by decide +kernel
theorem d_M_freshen_10 : decode b_M_freshen 10 = .ok (.iload_n 2, 1) := by decide +kernel
theorem d_M_freshen_11 : decode b_M_freshen 11 = .ok (.aload_n 0, 1) := by decide +kernel
theorem d_M_freshen_12 : decode b_M_freshen 12 = .ok (.getfield 25, 3) := by decide +kernel
theorem d_M_freshen_15 : decode b_M_freshen 15 = .ok (.iload_n 1, 1) := by decide +kernel
theorem d_M_freshen_16 : decode b_M_freshen 16 = .ok (.iaload, 1) := by decide +kernel
theorem d_M_freshen_17 : decode b_M_freshen 17 = .ok (.iconst 1, 1) := by decide +kernel
theorem d_M_freshen_18 : decode b_M_freshen 18 = .ok (.isub, 1) := by decide +kernel
theorem d_M_freshen_19 : decode b_M_freshen 19 = .ok (.if_icmp .ne 4, 3) := by decide +kernel
theorem d_M_freshen_22 : decode b_M_freshen 22 = .ok (.return_, 1) := by decide +kernel
theorem d_M_freshen_23 : decode b_M_freshen 23 = .ok (.aload_n 0, 1) := by decide +kernel
theorem d_M_freshen_24 : decode b_M_freshen 24 = .ok (.getfield 19, 3) := by decide +kernel
theorem d_M_freshen_27 : decode b_M_freshen 27 = .ok (.bipush 24, 2) := by decide +kernel
theorem d_M_freshen_29 : decode b_M_freshen 29 = .ok (.iload_n 1, 1) := by decide +kernel
theorem d_M_freshen_30 : decode b_M_freshen 30 = .ok (.imul, 1) := by decide +kernel
theorem d_M_freshen_31 : decode b_M_freshen 31 = .ok (.iload_n 2, 1) := by decide +kernel
theorem d_M_freshen_32 : decode b_M_freshen 32 = .ok (.iadd, 1) := by decide +kernel
theorem d_M_freshen_33 : decode b_M_freshen 33 = .ok (.iaload, 1) := by decide +kernel
theorem d_M_freshen_34 : decode b_M_freshen 34 = .ok (.istore_n 3, 1) := by decide +kernel
theorem d_M_freshen_35 : decode b_M_freshen 35 = .ok (.aload_n 0, 1) := by decide +kernel
theorem d_M_freshen_36 : decode b_M_freshen 36 = .ok (.getfield 22, 3) := by decide +kernel
theorem d_M_freshen_39 : decode b_M_freshen 39 = .ok (.bipush 24, 2) := by decide +kernel
theorem d_M_freshen_41 : decode b_M_freshen 41 = .ok (.iload_n 1, 1) := by decide +kernel
theorem d_M_freshen_42 : decode b_M_freshen 42 = .ok (.imul, 1) := by decide +kernel
theorem d_M_freshen_43 : decode b_M_freshen 43 = .ok (.iload_n 2, 1) := by decide +kernel
theorem d_M_freshen_44 : decode b_M_freshen 44 = .ok (.iadd, 1) := by decide +kernel
theorem d_M_freshen_45 : decode b_M_freshen 45 = .ok (.iaload, 1) := by decide +kernel
theorem d_M_freshen_46 : decode b_M_freshen 46 = .ok (.istore 4, 2) := by decide +kernel
theorem d_M_freshen_48 : decode b_M_freshen 48 = .ok (.bipush 24, 2) := by decide +kernel
theorem d_M_freshen_50 : decode b_M_freshen 50 = .ok (.iload_n 1, 1) := by decide +kernel
theorem d_M_freshen_51 : decode b_M_freshen 51 = .ok (.imul, 1) := by decide +kernel
theorem d_M_freshen_52 : decode b_M_freshen 52 = .ok (.iload_n 2, 1) := by decide +kernel
theorem d_M_freshen_53 : decode b_M_freshen 53 = .ok (.iadd, 1) := by decide +kernel
theorem d_M_freshen_54 : decode b_M_freshen 54 = .ok (.istore 5, 2) := by decide +kernel
theorem d_M_freshen_56 : decode b_M_freshen 56 = .ok (.iload 5, 2) := by decide +kernel
theorem d_M_freshen_58 : decode b_M_freshen 58 = .ok (.bipush 24, 2) := by decide +kernel
theorem d_M_freshen_60 : decode b_M_freshen 60 = .ok (.iload_n 1, 1) := by decide +kernel
theorem d_M_freshen_61 : decode b_M_freshen 61 = .ok (.imul, 1) := by decide +kernel
theorem d_M_freshen_62 : decode b_M_freshen 62 = .ok (.aload_n 0, 1) := by decide +kernel
theorem d_M_freshen_63 : decode b_M_freshen 63 = .ok (.getfield 25, 3) := by decide +kernel
theorem d_M_freshen_66 : decode b_M_freshen 66 = .ok (.iload_n 1, 1) := by decide +kernel
theorem d_M_freshen_67 : decode b_M_freshen 67 = .ok (.iaload, 1) := by decide +kernel
theorem d_M_freshen_68 : decode b_M_freshen 68 = .ok (.iadd, 1) := by decide +kernel
theorem d_M_freshen_69 : decode b_M_freshen 69 = .ok (.iconst 1, 1) := by decide +kernel
theorem d_M_freshen_70 : decode b_M_freshen 70 = .ok (.isub, 1) := by decide +kernel
theorem d_M_freshen_71 : decode b_M_freshen 71 = .ok (.if_icmp .ge 41, 3) := by decide +kernel
theorem d_M_freshen_74 : decode b_M_freshen 74 = .ok (.aload_n 0, 1) := by decide +kernel
theorem d_M_freshen_75 : decode b_M_freshen 75 = .ok (.getfield 19, 3) := by decide +kernel
theorem d_M_freshen_78 : decode b_M_freshen 78 = .ok (.iload 5, 2) := by decide +kernel
theorem d_M_freshen_80 : decode b_M_freshen 80 = .ok (.aload_n 0, 1) := by decide +kernel
theorem d_M_freshen_81 : decode b_M_freshen 81 = .ok (.getfield 19, 3) := by decide +kernel
theorem d_M_freshen_84 : decode b_M_freshen 84 = .ok (.iload 5, 2) := by decide +kernel
theorem d_M_freshen_86 : decode b_M_freshen 86 = .ok (.iconst 1, 1) := by decide +kernel
theorem d_M_freshen_87 : decode b_M_freshen 87 = .ok (.iadd, 1) := by decide +kernel
theorem d_M_freshen_88 : decode b_M_freshen 88 = .ok (.iaload, 1) := by decide +kernel
theorem d_M_freshen_89 : decode b_M_freshen 89 = .ok (.iastore, 1) := by decide +kernel
theorem d_M_freshen_90 : decode b_M_freshen 90 = .ok (.aload_n 0, 1) := by decide +kernel
theorem d_M_freshen_91 : decode b_M_freshen 91 = .ok (.getfield 22, 3) := by decide +kernel
theorem d_M_freshen_94 : decode b_M_freshen 94 = .ok (.iload 5, 2) := by decide +kernel
theorem d_M_freshen_96 : decode b_M_freshen 96 = .ok (.aload_n 0, 1) := by decide +kernel
theorem d_M_freshen_97 : decode b_M_freshen 97 = .ok (.getfield 22, 3) := by decide +kernel
theorem d_M_freshen_100 : decode b_M_freshen 100 = .ok (.iload 5, 2) := by decide +kernel
theorem d_M_freshen_102 : decode b_M_freshen 102 = .ok (.iconst 1, 1) := by decide +kernel
theorem d_M_freshen_103 : decode b_M_freshen 103 = .ok (.iadd, 1) := by decide +kernel
theorem d_M_freshen_104 : decode b_M_freshen 104 = .ok (.iaload, 1) := by decide +kernel
theorem d_M_freshen_105 : decode b_M_freshen 105 = .ok (.iastore, 1) := by decide +kernel
theorem d_M_freshen_106 : decode b_M_freshen 106 = .ok (.iinc 5 1, 3) := by decide +kernel
theorem d_M_freshen_109 : decode b_M_freshen 109 = .ok (.goto (-53), 3) := by decide +kernel
theorem d_M_freshen_112 : decode b_M_freshen 112 = .ok (.aload_n 0, 1) := by decide +kernel
theorem d_M_freshen_113 : decode b_M_freshen 113 = .ok (.getfield 19, 3) := by decide +kernel
theorem d_M_freshen_116 : decode b_M_freshen 116 = .ok (.bipush 24, 2) := by decide +kernel
theorem d_M_freshen_118 : decode b_M_freshen 118 = .ok (.iload_n 1, 1) := by decide +kernel
theorem d_M_freshen_119 : decode b_M_freshen 119 = .ok (.imul, 1) := by decide +kernel
theorem d_M_freshen_120 : decode b_M_freshen 120 = .ok (.aload_n 0, 1) := by decide +kernel
theorem d_M_freshen_121 : decode b_M_freshen 121 = .ok (.getfield 25, 3) := by decide +kernel
theorem d_M_freshen_124 : decode b_M_freshen 124 = .ok (.iload_n 1, 1) := by decide +kernel
theorem d_M_freshen_125 : decode b_M_freshen 125 = .ok (.iaload, 1) := by decide +kernel
theorem d_M_freshen_126 : decode b_M_freshen 126 = .ok (.iadd, 1) := by decide +kernel
theorem d_M_freshen_127 : decode b_M_freshen 127 = .ok (.iconst 1, 1) := by decide +kernel
theorem d_M_freshen_128 : decode b_M_freshen 128 = .ok (.isub, 1) := by decide +kernel
theorem d_M_freshen_129 : decode b_M_freshen 129 = .ok (.iload_n 3, 1) := by decide +kernel
theorem d_M_freshen_130 : decode b_M_freshen 130 = .ok (.iastore, 1) := by decide +kernel
theorem d_M_freshen_131 : decode b_M_freshen 131 = .ok (.aload_n 0, 1) := by decide +kernel
theorem d_M_freshen_132 : decode b_M_freshen 132 = .ok (.getfield 22, 3) := by decide +kernel
theorem d_M_freshen_135 : decode b_M_freshen 135 = .ok (.bipush 24, 2) := by decide +kernel
theorem d_M_freshen_137 : decode b_M_freshen 137 = .ok (.iload_n 1, 1) := by decide +kernel
theorem d_M_freshen_138 : decode b_M_freshen 138 = .ok (.imul, 1) := by decide +kernel
theorem d_M_freshen_139 : decode b_M_freshen 139 = .ok (.aload_n 0, 1) := by decide +kernel
theorem d_M_freshen_140 : decode b_M_freshen 140 = .ok (.getfield 25, 3) := by decide +kernel
theorem d_M_freshen_143 : decode b_M_freshen 143 = .ok (.iload_n 1, 1) := by decide +kernel
theorem d_M_freshen_144 : decode b_M_freshen 144 = .ok (.iaload, 1) := by decide +kernel
theorem d_M_freshen_145 : decode b_M_freshen 145 = .ok (.iadd, 1) := by decide +kernel
theorem d_M_freshen_146 : decode b_M_freshen 146 = .ok (.iconst 1, 1) := by decide +kernel
theorem d_M_freshen_147 : decode b_M_freshen 147 = .ok (.isub, 1) := by decide +kernel
theorem d_M_freshen_148 : decode b_M_freshen 148 = .ok (.iload 4, 2) := by decide +kernel
theorem d_M_freshen_150 : decode b_M_freshen 150 = .ok (.iastore, 1) := by decide +kernel
theorem d_M_freshen_151 : decode b_M_freshen 151 = .ok (.aload_n 0, 1) := by decide +kernel
theorem d_M_freshen_152 : decode b_M_freshen 152 = .ok (.getfield 28, 3) := by decide +kernel
theorem d_M_freshen_155 : decode b_M_freshen 155 = .ok (.iload_n 1, 1) := by decide +kernel
theorem d_M_freshen_156 : decode b_M_freshen 156 = .ok (.dup2, 1) := by decide +kernel
theorem d_M_freshen_157 : decode b_M_freshen 157 = .ok (.iaload, 1) := by decide +kernel
theorem d_M_freshen_158 : decode b_M_freshen 158 = .ok (.iconst 1, 1) := by decide +kernel
theorem d_M_freshen_159 : decode b_M_freshen 159 = .ok (.iadd, 1) := by decide +kernel
theorem d_M_freshen_160 : decode b_M_freshen 160 = .ok (.iastore, 1) := by decide +kernel
theorem d_M_freshen_161 : decode b_M_freshen 161 = .ok (.return_, 1) := by decide +kernel
theorem d_M_add_0 : decode b_M_add 0 = .ok (.aload_n 0, 1) := by decide +kernel
theorem d_M_add_1 : decode b_M_add 1 = .ok (.getfield 16, 3) := by decide +kernel
theorem d_M_add_4 : decode b_M_add 4 = .ok (.iload_n 1, 1) := by decide +kernel
theorem d_M_add_5 : decode b_M_add 5 = .ok (.iaload, 1) := by decide +kernel
theorem d_M_add_6 : decode b_M_add 6 = .ok (.istore 4, 2) := by decide +kernel
theorem d_M_add_8 : decode b_M_add 8 = .ok (.aload_n 0, 1) := by decide +kernel
theorem d_M_add_9 : decode b_M_add 9 = .ok (.getfield 25, 3) := by decide +kernel
theorem d_M_add_12 : decode b_M_add 12 = .ok (.iload 4, 2) := by decide +kernel
theorem d_M_add_14 : decode b_M_add 14 = .ok (.iaload, 1) := by decide +kernel
theorem d_M_add_15 : decode b_M_add 15 = .ok (.istore 5, 2) := by decide +kernel
theorem d_M_add_17 : decode b_M_add 17 = .ok (.aload_n 0, 1) := by decide +kernel
theorem d_M_add_18 : decode b_M_add 18 = .ok (.getfield 7, 3) := by decide +kernel
theorem d_M_add_21 : decode b_M_add 21 = .ok (.iload 4, 2) := by decide +kernel
theorem d_M_add_23 : decode b_M_add 23 = .ok (.iaload, 1) := by decide +kernel
theorem d_M_add_24 : decode b_M_add 24 = .ok (.iconst 4, 1) := by decide +kernel
theorem d_M_add_25 : decode b_M_add 25 = .ok (.if_icmp .ne 41, 3) := by decide +kernel
theorem d_M_add_28 : decode b_M_add 28 = .ok (.iconst 0, 1) := by decide +kernel
theorem d_M_add_29 : decode b_M_add 29 = .ok (.istore 5, 2) := by decide +kernel
theorem d_M_add_31 : decode b_M_add 31 = .ok (.iload 5, 2) := by decide +kernel
theorem d_M_add_33 : decode b_M_add 33 = .ok (.aload_n 0, 1) := by decide +kernel
theorem d_M_add_34 : decode b_M_add 34 = .ok (.getfield 25, 3) := by decide +kernel
theorem d_M_add_37 : decode b_M_add 37 = .ok (.iload 4, 2) := by decide +kernel
theorem d_M_add_39 : decode b_M_add 39 = .ok (.iaload, 1) := by decide +kernel
theorem d_M_add_40 : decode b_M_add 40 = .ok (.if_icmp .ge 26, 3) := by decide +kernel
theorem d_M_add_43 : decode b_M_add 43 = .ok (.aload_n 0, 1) := by decide +kernel
theorem d_M_add_44 : decode b_M_add 44 = .ok (.getfield 19, 3) := by decide +kernel
theorem d_M_add_47 : decode b_M_add 47 = .ok (.bipush 24, 2) := by decide +kernel
theorem d_M_add_49 : decode b_M_add 49 = .ok (.iload 4, 2) := by decide +kernel
theorem d_M_add_51 : decode b_M_add 51 = .ok (.imul, 1) := by decide +kernel
theorem d_M_add_52 : decode b_M_add 52 = .ok (.iload 5, 2) := by decide +kernel
theorem d_M_add_54 : decode b_M_add 54 = .ok (.iadd, 1) := by decide +kernel
theorem d_M_add_55 : decode b_M_add 55 = .ok (.iaload, 1) := by decide +kernel
theorem d_M_add_56 : decode b_M_add 56 = .ok (.iload_n 2, 1) := by decide +kernel
theorem d_M_add_57 : decode b_M_add 57 = .ok (.if_icmp .ge 9, 3) := by decide +kernel
theorem d_M_add_60 : decode b_M_add 60 = .ok (.iinc 5 1, 3) := by decide +kernel
theorem d_M_add_63 : decode b_M_add 63 = .ok (.goto (-32), 3) := by decide +kernel
theorem d_M_add_66 : decode b_M_add 66 = .ok (.aload_n 0, 1) := by decide +kernel
theorem d_M_add_67 : decode b_M_add 67 = .ok (.iload_n 1, 1) := by decide +kernel
theorem d_M_add_68 : decode b_M_add 68 = .ok (.iload 5, 2) := by decide +kernel
theorem d_M_add_70 : decode b_M_add 70 = .ok (.iload_n 2, 1) := by decide +kernel
theorem d_M_add_71 : decode b_M_add 71 = .ok (.iload_n 3, 1) := by decide +kernel
theorem d_M_add_72 : decode b_M_add 72 = .ok (.invokevirtual 103, 3) := by decide +kernel
theorem d_M_add_75 : decode b_M_add 75 = .ok (.aload_n 0, 1) := by decide +kernel
theorem d_M_add_76 : decode b_M_add 76 = .ok (.iload 4, 2) := by decide +kernel
theorem d_M_add_78 : decode b_M_add 78 = .ok (.invokevirtual 124, 3) := by decide +kernel
theorem d_M_add_81 : decode b_M_add 81 = .ok (.ifCond .ne 4, 3) := by decide +kernel
theorem d_M_add_84 : decode b_M_add 84 = .ok (.return_, 1) := by decide +kernel
theorem d_M_add_85 : decode b_M_add 85 = .ok (.iconst 4, 1) := by decide +kernel
theorem d_M_add_86 : decode b_M_add 86 = .ok (.aload_n 0, 1) := by decide +kernel
theorem d_M_add_87 : decode b_M_add 87 = .ok (.getfield 25, 3) := by decide +kernel
theorem d_M_add_90 : decode b_M_add 90 = .ok (.iload 4, 2) := by decide +kernel
theorem d_M_add_92 : decode b_M_add 92 = .ok (.iaload, 1) := by decide +kernel
theorem d_M_add_93 : decode b_M_add 93 = .ok (.imul, 1) := by decide +kernel
theorem d_M_add_94 : decode b_M_add 94 = .ok (.iconst 3, 1) := by decide +kernel
theorem d_M_add_95 : decode b_M_add 95 = .ok (.aload_n 0, 1) := by decide +kernel
theorem d_M_add_96 : decode b_M_add 96 = .ok (.getfield 31, 3) := by decide +kernel
theorem d_M_add_99 : decode b_M_add 99 = .ok (.iload 4, 2) := by decide +kernel
theorem d_M_add_101 : decode b_M_add 101 = .ok (.iaload, 1) := by decide +kernel
theorem d_M_add_102 : decode b_M_add 102 = .ok (.imul, 1) := by decide +kernel
theorem d_M_add_103 : decode b_M_add 103 = .ok (.if_icmp .le 14, 3) := by decide +kernel
theorem d_M_add_106 : decode b_M_add 106 = .ok (.aload_n 0, 1) := by decide +kernel
theorem d_M_add_107 : decode b_M_add 107 = .ok (.getfield 31, 3) := by decide +kernel
theorem d_M_add_110 : decode b_M_add 110 = .ok (.iload 4, 2) := by decide +kernel
theorem d_M_add_112 : decode b_M_add 112 = .ok (.dup2, 1) := by decide +kernel
theorem d_M_add_113 : decode b_M_add 113 = .ok (.iaload, 1) := by decide +kernel
theorem d_M_add_114 : decode b_M_add 114 = .ok (.iconst 2, 1) := by decide +kernel
theorem d_M_add_115 : decode b_M_add 115 = .ok (.imul, 1) := by decide +kernel
theorem d_M_add_116 : decode b_M_add 116 = .ok (.iastore, 1) := by decide +kernel
theorem d_M_add_117 : decode b_M_add 117 = .ok (.aload_n 0, 1) := by decide +kernel
theorem d_M_add_118 : decode b_M_add 118 = .ok (.getfield 7, 3) := by decide +kernel
theorem d_M_add_121 : decode b_M_add 121 = .ok (.iload 4, 2) := by decide +kernel
theorem d_M_add_123 : decode b_M_add 123 = .ok (.iaload, 1) := by decide +kernel
theorem d_M_add_124 : decode b_M_add 124 = .ok (.iconst 3, 1) := by decide +kernel
theorem d_M_add_125 : decode b_M_add 125 = .ok (.if_icmp .ne 22, 3) := by decide +kernel
theorem d_M_add_128 : decode b_M_add 128 = .ok (.aload_n 0, 1) := by decide +kernel
theorem d_M_add_129 : decode b_M_add 129 = .ok (.getfield 25, 3) := by decide +kernel
theorem d_M_add_132 : decode b_M_add 132 = .ok (.iload 4, 2) := by decide +kernel
theorem d_M_add_134 : decode b_M_add 134 = .ok (.iaload, 1) := by decide +kernel
theorem d_M_add_135 : decode b_M_add 135 = .ok (.bipush 6, 2) := by decide +kernel
theorem d_M_add_137 : decode b_M_add 137 = .ok (.if_icmp .le 10, 3) := by decide +kernel
theorem d_M_add_140 : decode b_M_add 140 = .ok (.aload_n 0, 1) := by decide +kernel
theorem d_M_add_141 : decode b_M_add 141 = .ok (.iload 4, 2) := by decide +kernel
theorem d_M_add_143 : decode b_M_add 143 = .ok (.iconst 0, 1) := by decide +kernel
theorem d_M_add_144 : decode b_M_add 144 = .ok (.invokevirtual 111, 3) := by decide +kernel
theorem d_M_add_147 : decode b_M_add 147 = .ok (.return_, 1) := by decide +kernel
theorem d_M_lookUp_0 : decode b_M_lookUp 0 = .ok (.aload_n 0, 1) := by decide +kernel
theorem d_M_lookUp_1 : decode b_M_lookUp 1 = .ok (.aload_n 0, 1) := by decide +kernel
theorem d_M_lookUp_2 : decode b_M_lookUp 2 = .ok (.iload_n 1, 1) := by decide +kernel
theorem d_M_lookUp_3 : decode b_M_lookUp 3 = .ok (.invokevirtual 127, 3) := by decide +kernel
theorem d_M_lookUp_6 : decode b_M_lookUp 6 = .ok (.putfield 55, 3) := by decide +kernel
theorem d_M_lookUp_9 : decode b_M_lookUp 9 = .ok (.aload_n 0, 1) := by decide +kernel
theorem d_M_lookUp_10 : decode b_M_lookUp 10 = .ok (.getfield 55, 3) := by decide +kernel
theorem d_M_lookUp_13 : decode b_M_lookUp 13 = .ok (.ifCond .le 5, 3) := by decide +kernel
theorem d_M_lookUp_16 : decode b_M_lookUp 16 = .ok (.iconst (-1), 1) := by decide +kernel
theorem d_M_lookUp_17 : decode b_M_lookUp 17 = .ok (.ireturn, 1) := by decide +kernel
theorem d_M_lookUp_18 : decode b_M_lookUp 18 = .ok (.aload_n 0, 1) := by decide +kernel
theorem d_M_lookUp_19 : decode b_M_lookUp 19 = .ok (.aload_n 0, 1) := by decide +kernel
theorem d_M_lookUp_20 : decode b_M_lookUp 20 = .ok (.iload_n 1, 1) := by decide +kernel
theorem d_M_lookUp_21 : decode b_M_lookUp 21 = .ok (.iload_n 2, 1) := by decide +kernel
theorem d_M_lookUp_22 : decode b_M_lookUp 22 = .ok (.invokevirtual 86, 3) := by decide +kernel
theorem d_M_lookUp_25 : decode b_M_lookUp 25 = .ok (.ifCond .eq 7, 3) := by decide +kernel
theorem d_M_lookUp_28 : decode b_M_lookUp 28 = .ok (.iconst 0, 1) := by decide +kernel
theorem d_M_lookUp_29 : decode b_M_lookUp 29 = .ok (.goto 4, 3) := by decide +kernel
theorem d_M_lookUp_32 : decode b_M_lookUp 32 = .ok (.iconst 3, 1) := by decide +kernel
theorem d_M_lookUp_33 : decode b_M_lookUp 33 = .ok (.putfield 55, 3) := by decide +kernel
theorem d_M_lookUp_36 : decode b_M_lookUp 36 = .ok (.aload_n 0, 1) := by decide +kernel
theorem d_M_lookUp_37 : decode b_M_lookUp 37 = .ok (.getfield 55, 3) := by decide +kernel
theorem d_M_lookUp_40 : decode b_M_lookUp 40 = .ok (.ifCond .le 5, 3) := by decide +kernel
theorem d_M_lookUp_43 : decode b_M_lookUp 43 = .ok (.iconst (-1), 1) := by decide +kernel
theorem d_M_lookUp_44 : decode b_M_lookUp 44 = .ok (.ireturn, 1) := by decide +kernel
theorem d_M_lookUp_45 : decode b_M_lookUp 45 = .ok (.aload_n 0, 1) := by decide +kernel
theorem d_M_lookUp_46 : decode b_M_lookUp 46 = .ok (.iload_n 1, 1) := by decide +kernel
theorem d_M_lookUp_47 : decode b_M_lookUp 47 = .ok (.iload_n 2, 1) := by decide +kernel
theorem d_M_lookUp_48 : decode b_M_lookUp 48 = .ok (.invokevirtual 130, 3) := by decide +kernel
theorem d_M_lookUp_51 : decode b_M_lookUp 51 = .ok (.istore_n 3, 1) := by decide +kernel
theorem d_M_lookUp_52 : decode b_M_lookUp 52 = .ok (.iload_n 3, 1) := by decide +kernel
theorem d_M_lookUp_53 : decode b_M_lookUp 53 = .ok (.iconst (-1), 1) := by decide +kernel
theorem d_M_lookUp_54 : decode b_M_lookUp 54 = .ok (.if_icmp .ne 24, 3) := by decide +kernel
theorem d_M_lookUp_57 : decode b_M_lookUp 57 = .ok (.aload_n 0, 1) := by decide +kernel
theorem d_M_lookUp_58 : decode b_M_lookUp 58 = .ok (.getfield 25, 3) := by decide +kernel
theorem d_M_lookUp_61 : decode b_M_lookUp 61 = .ok (.aload_n 0, 1) := by decide +kernel
theorem d_M_lookUp_62 : decode b_M_lookUp 62 = .ok (.getfield 16, 3) := by decide +kernel
theorem d_M_lookUp_65 : decode b_M_lookUp 65 = .ok (.iload_n 1, 1) := by decide +kernel
theorem d_M_lookUp_66 : decode b_M_lookUp 66 = .ok (.iaload, 1) := by decide +kernel
theorem d_M_lookUp_67 : decode b_M_lookUp 67 = .ok (.iaload, 1) := by decide +kernel
theorem d_M_lookUp_68 : decode b_M_lookUp 68 = .ok (.bipush 24, 2) := by decide +kernel
theorem d_M_lookUp_70 : decode b_M_lookUp 70 = .ok (.if_icmp .ne 8, 3) := by decide +kernel
theorem d_M_lookUp_73 : decode b_M_lookUp 73 = .ok (.aload_n 0, 1) := by decide +kernel
theorem d_M_lookUp_74 : decode b_M_lookUp 74 = .ok (.iconst 4, 1) := by decide +kernel
theorem d_M_lookUp_75 : decode b_M_lookUp 75 = .ok (.putfield 55, 3) := by decide +kernel
theorem d_M_lookUp_78 : decode b_M_lookUp 78 = .ok (.iload_n 3, 1) := by decide +kernel
theorem d_M_lookUp_79 : decode b_M_lookUp 79 = .ok (.ireturn, 1) := by decide +kernel
theorem d_M_put_0 : decode b_M_put 0 = .ok (.aload_n 0, 1) := by decide +kernel
theorem d_M_put_1 : decode b_M_put 1 = .ok (.iload_n 1, 1) := by decide +kernel
theorem d_M_put_2 : decode b_M_put 2 = .ok (.iload_n 2, 1) := by decide +kernel
theorem d_M_put_3 : decode b_M_put 3 = .ok (.invokevirtual 133, 3) := by decide +kernel
theorem d_M_put_6 : decode b_M_put 6 = .ok (.istore 4, 2) := by decide +kernel
theorem d_M_put_8 : decode b_M_put 8 = .ok (.aload_n 0, 1) := by decide +kernel
theorem d_M_put_9 : decode b_M_put 9 = .ok (.getfield 55, 3) := by decide +kernel
theorem d_M_put_12 : decode b_M_put 12 = .ok (.ifCond .le 5, 3) := by decide +kernel
theorem d_M_put_15 : decode b_M_put 15 = .ok (.iconst 0, 1) := by decide +kernel
theorem d_M_put_16 : decode b_M_put 16 = .ok (.ireturn, 1) := by decide +kernel
theorem d_M_put_17 : decode b_M_put 17 = .ok (.iload 4, 2) := by decide +kernel
theorem d_M_put_19 : decode b_M_put 19 = .ok (.iconst (-1), 1) := by decide +kernel
theorem d_M_put_20 : decode b_M_put 20 = .ok (.if_icmp .ne 12, 3) := by decide +kernel
theorem d_M_put_23 : decode b_M_put 23 = .ok (.aload_n 0, 1) := by decide +kernel
theorem d_M_put_24 : decode b_M_put 24 = .ok (.iload_n 1, 1) := by decide +kernel
theorem d_M_put_25 : decode b_M_put 25 = .ok (.iload_n 2, 1) := by decide +kernel
theorem d_M_put_26 : decode b_M_put 26 = .ok (.iload_n 3, 1) := by decide +kernel
theorem d_M_put_27 : decode b_M_put 27 = .ok (.invokevirtual 136, 3) := by decide +kernel
theorem d_M_put_30 : decode b_M_put 30 = .ok (.iconst 1, 1) := by decide +kernel
theorem d_M_put_31 : decode b_M_put 31 = .ok (.ireturn, 1) := by decide +kernel
theorem d_M_put_32 : decode b_M_put 32 = .ok (.aload_n 0, 1) := by decide +kernel
theorem d_M_put_33 : decode b_M_put 33 = .ok (.getfield 22, 3) := by decide +kernel
theorem d_M_put_36 : decode b_M_put 36 = .ok (.bipush 24, 2) := by decide +kernel
theorem d_M_put_38 : decode b_M_put 38 = .ok (.aload_n 0, 1) := by decide +kernel
theorem d_M_put_39 : decode b_M_put 39 = .ok (.getfield 16, 3) := by decide +kernel
theorem d_M_put_42 : decode b_M_put 42 = .ok (.iload_n 1, 1) := by decide +kernel
theorem d_M_put_43 : decode b_M_put 43 = .ok (.iaload, 1) := by decide +kernel
theorem d_M_put_44 : decode b_M_put 44 = .ok (.imul, 1) := by decide +kernel
theorem d_M_put_45 : decode b_M_put 45 = .ok (.iload 4, 2) := by decide +kernel
theorem d_M_put_47 : decode b_M_put 47 = .ok (.iadd, 1) := by decide +kernel
theorem d_M_put_48 : decode b_M_put 48 = .ok (.iload_n 3, 1) := by decide +kernel
theorem d_M_put_49 : decode b_M_put 49 = .ok (.iastore, 1) := by decide +kernel
theorem d_M_put_50 : decode b_M_put 50 = .ok (.aload_n 0, 1) := by decide +kernel
theorem d_M_put_51 : decode b_M_put 51 = .ok (.iload_n 1, 1) := by decide +kernel
theorem d_M_put_52 : decode b_M_put 52 = .ok (.iload 4, 2) := by decide +kernel
theorem d_M_put_54 : decode b_M_put 54 = .ok (.invokevirtual 139, 3) := by decide +kernel
theorem d_M_put_57 : decode b_M_put 57 = .ok (.iconst 0, 1) := by decide +kernel
theorem d_M_put_58 : decode b_M_put 58 = .ok (.ireturn, 1) := by decide +kernel
theorem d_M_merge_0 : decode b_M_merge 0 = .ok (.aload_n 0, 1) := by decide +kernel
theorem d_M_merge_1 : decode b_M_merge 1 = .ok (.iload_n 1, 1) := by decide +kernel
theorem d_M_merge_2 : decode b_M_merge 2 = .ok (.iload_n 2, 1) := by decide +kernel
theorem d_M_merge_3 : decode b_M_merge 3 = .ok (.invokevirtual 133, 3) := by decide +kernel
theorem d_M_merge_6 : decode b_M_merge 6 = .ok (.istore 4, 2) := by decide +kernel
theorem d_M_merge_8 : decode b_M_merge 8 = .ok (.aload_n 0, 1) := by decide +kernel
theorem d_M_merge_9 : decode b_M_merge 9 = .ok (.getfield 55, 3) := by decide +kernel
theorem d_M_merge_12 : decode b_M_merge 12 = .ok (.ifCond .le 5, 3) := by decide +kernel
theorem d_M_merge_15 : decode b_M_merge 15 = .ok (.iconst 0, 1) := by decide +kernel
theorem d_M_merge_16 : decode b_M_merge 16 = .ok (.ireturn, 1) := by decide +kernel
theorem d_M_merge_17 : decode b_M_merge 17 = .ok (.iload 4, 2) := by decide +kernel
theorem d_M_merge_19 : decode b_M_merge 19 = .ok (.iconst (-1), 1) := by decide +kernel
theorem d_M_merge_20 : decode b_M_merge 20 = .ok (.if_icmp .ne 12, 3) := by decide +kernel
theorem d_M_merge_23 : decode b_M_merge 23 = .ok (.aload_n 0, 1) := by decide +kernel
theorem d_M_merge_24 : decode b_M_merge 24 = .ok (.iload_n 1, 1) := by decide +kernel
theorem d_M_merge_25 : decode b_M_merge 25 = .ok (.iload_n 2, 1) := by decide +kernel
theorem d_M_merge_26 : decode b_M_merge 26 = .ok (.iload_n 3, 1) := by decide +kernel
theorem d_M_merge_27 : decode b_M_merge 27 = .ok (.invokevirtual 136, 3) := by decide +kernel
theorem d_M_merge_30 : decode b_M_merge 30 = .ok (.iload_n 3, 1) := by decide +kernel
theorem d_M_merge_31 : decode b_M_merge 31 = .ok (.ireturn, 1) := by decide +kernel
theorem d_M_merge_32 : decode b_M_merge 32 = .ok (.aload_n 0, 1) := by decide +kernel
theorem d_M_merge_33 : decode b_M_merge 33 = .ok (.getfield 22, 3) := by decide +kernel
theorem d_M_merge_36 : decode b_M_merge 36 = .ok (.bipush 24, 2) := by decide +kernel
theorem d_M_merge_38 : decode b_M_merge 38 = .ok (.aload_n 0, 1) := by decide +kernel
theorem d_M_merge_39 : decode b_M_merge 39 = .ok (.getfield 16, 3) := by decide +kernel
theorem d_M_merge_42 : decode b_M_merge 42 = .ok (.iload_n 1, 1) := by decide +kernel
theorem d_M_merge_43 : decode b_M_merge 43 = .ok (.iaload, 1) := by decide +kernel
theorem d_M_merge_44 : decode b_M_merge 44 = .ok (.imul, 1) := by decide +kernel
theorem d_M_merge_45 : decode b_M_merge 45 = .ok (.iload 4, 2) := by decide +kernel
theorem d_M_merge_47 : decode b_M_merge 47 = .ok (.iadd, 1) := by decide +kernel
theorem d_M_merge_48 : decode b_M_merge 48 = .ok (.dup2, 1) := by decide +kernel
theorem d_M_merge_49 : decode b_M_merge 49 = .ok (.iaload, 1) := by decide +kernel
theorem d_M_merge_50 : decode b_M_merge 50 = .ok (.iload_n 3, 1) := by decide +kernel
theorem d_M_merge_51 : decode b_M_merge 51 = .ok (.iadd, 1) := by decide +kernel
theorem d_M_merge_52 : decode b_M_merge 52 = .ok (.iastore, 1) := by decide +kernel
theorem d_M_merge_53 : decode b_M_merge 53 = .ok (.aload_n 0, 1) := by decide +kernel
theorem d_M_merge_54 : decode b_M_merge 54 = .ok (.getfield 22, 3) := by decide +kernel
theorem d_M_merge_57 : decode b_M_merge 57 = .ok (.bipush 24, 2) := by decide +kernel
theorem d_M_merge_59 : decode b_M_merge 59 = .ok (.aload_n 0, 1) := by decide +kernel
theorem d_M_merge_60 : decode b_M_merge 60 = .ok (.getfield 16, 3) := by decide +kernel
theorem d_M_merge_63 : decode b_M_merge 63 = .ok (.iload_n 1, 1) := by decide +kernel
theorem d_M_merge_64 : decode b_M_merge 64 = .ok (.iaload, 1) := by decide +kernel
theorem d_M_merge_65 : decode b_M_merge 65 = .ok (.imul, 1) := by decide +kernel
theorem d_M_merge_66 : decode b_M_merge 66 = .ok (.iload 4, 2) := by decide +kernel
theorem d_M_merge_68 : decode b_M_merge 68 = .ok (.iadd, 1) := by decide +kernel
theorem d_M_merge_69 : decode b_M_merge 69 = .ok (.iaload, 1) := by decide +kernel
theorem d_M_merge_70 : decode b_M_merge 70 = .ok (.istore 5, 2) := by decide +kernel
theorem d_M_merge_72 : decode b_M_merge 72 = .ok (.aload_n 0, 1) := by decide +kernel
theorem d_M_merge_73 : decode b_M_merge 73 = .ok (.iload_n 1, 1) := by decide +kernel
theorem d_M_merge_74 : decode b_M_merge 74 = .ok (.iload 4, 2) := by decide +kernel
theorem d_M_merge_76 : decode b_M_merge 76 = .ok (.invokevirtual 139, 3) := by decide +kernel
theorem d_M_merge_79 : decode b_M_merge 79 = .ok (.iload 5, 2) := by decide +kernel
theorem d_M_merge_81 : decode b_M_merge 81 = .ok (.ireturn, 1) := by decide +kernel
theorem d_M_has_0 : decode b_M_has 0 = .ok (.aload_n 0, 1) := by decide +kernel
theorem d_M_has_1 : decode b_M_has 1 = .ok (.aload_n 0, 1) := by decide +kernel
theorem d_M_has_2 : decode b_M_has 2 = .ok (.iload_n 1, 1) := by decide +kernel
theorem d_M_has_3 : decode b_M_has 3 = .ok (.invokevirtual 127, 3) := by decide +kernel
theorem d_M_has_6 : decode b_M_has 6 = .ok (.putfield 55, 3) := by decide +kernel
theorem d_M_has_9 : decode b_M_has 9 = .ok (.aload_n 0, 1) := by decide +kernel
theorem d_M_has_10 : decode b_M_has 10 = .ok (.getfield 55, 3) := by decide +kernel
theorem d_M_has_13 : decode b_M_has 13 = .ok (.ifCond .ne 17, 3) := by decide +kernel
theorem d_M_has_16 : decode b_M_has 16 = .ok (.aload_n 0, 1) := by decide +kernel
theorem d_M_has_17 : decode b_M_has 17 = .ok (.iload_n 1, 1) := by decide +kernel
theorem d_M_has_18 : decode b_M_has 18 = .ok (.iload_n 2, 1) := by decide +kernel
theorem d_M_has_19 : decode b_M_has 19 = .ok (.invokevirtual 130, 3) := by decide +kernel
theorem d_M_has_22 : decode b_M_has 22 = .ok (.iconst (-1), 1) := by decide +kernel
theorem d_M_has_23 : decode b_M_has 23 = .ok (.if_icmp .eq 7, 3) := by decide +kernel
theorem d_M_has_26 : decode b_M_has 26 = .ok (.iconst 1, 1) := by decide +kernel
theorem d_M_has_27 : decode b_M_has 27 = .ok (.goto 4, 3) := by decide +kernel
theorem d_M_has_30 : decode b_M_has 30 = .ok (.iconst 0, 1) := by decide +kernel
theorem d_M_has_31 : decode b_M_has 31 = .ok (.ireturn, 1) := by decide +kernel
theorem d_M_value_0 : decode b_M_value 0 = .ok (.aload_n 0, 1) := by decide +kernel
theorem d_M_value_1 : decode b_M_value 1 = .ok (.aload_n 0, 1) := by decide +kernel
theorem d_M_value_2 : decode b_M_value 2 = .ok (.iload_n 1, 1) := by decide +kernel
theorem d_M_value_3 : decode b_M_value 3 = .ok (.invokevirtual 127, 3) := by decide +kernel
theorem d_M_value_6 : decode b_M_value 6 = .ok (.putfield 55, 3) := by decide +kernel
theorem d_M_value_9 : decode b_M_value 9 = .ok (.aload_n 0, 1) := by decide +kernel
theorem d_M_value_10 : decode b_M_value 10 = .ok (.getfield 55, 3) := by decide +kernel
theorem d_M_value_13 : decode b_M_value 13 = .ok (.ifCond .le 5, 3) := by decide +kernel
theorem d_M_value_16 : decode b_M_value 16 = .ok (.iconst 0, 1) := by decide +kernel
theorem d_M_value_17 : decode b_M_value 17 = .ok (.ireturn, 1) := by decide +kernel
theorem d_M_value_18 : decode b_M_value 18 = .ok (.aload_n 0, 1) := by decide +kernel
theorem d_M_value_19 : decode b_M_value 19 = .ok (.iload_n 1, 1) := by decide +kernel
theorem d_M_value_20 : decode b_M_value 20 = .ok (.iload_n 2, 1) := by decide +kernel
theorem d_M_value_21 : decode b_M_value 21 = .ok (.invokevirtual 130, 3) := by decide +kernel
theorem d_M_value_24 : decode b_M_value 24 = .ok (.istore_n 3, 1) := by decide +kernel
theorem d_M_value_25 : decode b_M_value 25 = .ok (.iload_n 3, 1) := by decide +kernel
theorem d_M_value_26 : decode b_M_value 26 = .ok (.iconst (-1), 1) := by decide +kernel
theorem d_M_value_27 : decode b_M_value 27 = .ok (.if_icmp .ne 9, 3) := by decide +kernel
theorem d_M_value_30 : decode b_M_value 30 = .ok (.aload_n 0, 1) := by decide +kernel
theorem d_M_value_31 : decode b_M_value 31 = .ok (.iconst 3, 1) := by decide +kernel
theorem d_M_value_32 : decode b_M_value 32 = .ok (.invokevirtual 142, 3) := by decide +kernel
theorem d_M_value_35 : decode b_M_value 35 = .ok (.ireturn, 1) := by decide +kernel
theorem d_M_value_36 : decode b_M_value 36 = .ok (.aload_n 0, 1) := by decide +kernel
theorem d_M_value_37 : decode b_M_value 37 = .ok (.getfield 22, 3) := by decide +kernel
theorem d_M_value_40 : decode b_M_value 40 = .ok (.bipush 24, 2) := by decide +kernel
theorem d_M_value_42 : decode b_M_value 42 = .ok (.aload_n 0, 1) := by decide +kernel
theorem d_M_value_43 : decode b_M_value 43 = .ok (.getfield 16, 3) := by decide +kernel
theorem d_M_value_46 : decode b_M_value 46 = .ok (.iload_n 1, 1) := by decide +kernel
theorem d_M_value_47 : decode b_M_value 47 = .ok (.iaload, 1) := by decide +kernel
theorem d_M_value_48 : decode b_M_value 48 = .ok (.imul, 1) := by decide +kernel
theorem d_M_value_49 : decode b_M_value 49 = .ok (.iload_n 3, 1) := by decide +kernel
theorem d_M_value_50 : decode b_M_value 50 = .ok (.iadd, 1) := by decide +kernel
theorem d_M_value_51 : decode b_M_value 51 = .ok (.iaload, 1) := by decide +kernel
theorem d_M_value_52 : decode b_M_value 52 = .ok (.istore 4, 2) := by decide +kernel
theorem d_M_value_54 : decode b_M_value 54 = .ok (.aload_n 0, 1) := by decide +kernel
theorem d_M_value_55 : decode b_M_value 55 = .ok (.iload_n 1, 1) := by decide +kernel
theorem d_M_value_56 : decode b_M_value 56 = .ok (.iload_n 3, 1) := by decide +kernel
theorem d_M_value_57 : decode b_M_value 57 = .ok (.invokevirtual 139, 3) := by decide +kernel
theorem d_M_value_60 : decode b_M_value 60 = .ok (.iload 4, 2) := by decide +kernel
theorem d_M_value_62 : decode b_M_value 62 = .ok (.ireturn, 1) := by decide +kernel
theorem d_M_drop_0 : decode b_M_drop 0 = .ok (.aload_n 0, 1) := by decide +kernel
theorem d_M_drop_1 : decode b_M_drop 1 = .ok (.aload_n 0, 1) := by decide +kernel
theorem d_M_drop_2 : decode b_M_drop 2 = .ok (.iload_n 1, 1) := by decide +kernel
theorem d_M_drop_3 : decode b_M_drop 3 = .ok (.invokevirtual 127, 3) := by decide +kernel
theorem d_M_drop_6 : decode b_M_drop 6 = .ok (.putfield 55, 3) := by decide +kernel
theorem d_M_drop_9 : decode b_M_drop 9 = .ok (.aload_n 0, 1) := by decide +kernel
theorem d_M_drop_10 : decode b_M_drop 10 = .ok (.getfield 55, 3) := by decide +kernel
theorem d_M_drop_13 : decode b_M_drop 13 = .ok (.ifCond .le 5, 3) := by decide +kernel
theorem d_M_drop_16 : decode b_M_drop 16 = .ok (.iconst 0, 1) := by decide +kernel
theorem d_M_drop_17 : decode b_M_drop 17 = .ok (.ireturn, 1) := by decide +kernel
theorem d_M_drop_18 : decode b_M_drop 18 = .ok (.aload_n 0, 1) := by decide +kernel
theorem d_M_drop_19 : decode b_M_drop 19 = .ok (.iload_n 1, 1) := by decide +kernel
theorem d_M_drop_20 : decode b_M_drop 20 = .ok (.iload_n 2, 1) := by decide +kernel
theorem d_M_drop_21 : decode b_M_drop 21 = .ok (.invokevirtual 130, 3) := by decide +kernel
theorem d_M_drop_24 : decode b_M_drop 24 = .ok (.istore_n 3, 1) := by decide +kernel
theorem d_M_drop_25 : decode b_M_drop 25 = .ok (.iload_n 3, 1) := by decide +kernel
theorem d_M_drop_26 : decode b_M_drop 26 = .ok (.iconst (-1), 1) := by decide +kernel
theorem d_M_drop_27 : decode b_M_drop 27 = .ok (.if_icmp .ne 9, 3) := by decide +kernel
theorem d_M_drop_30 : decode b_M_drop 30 = .ok (.aload_n 0, 1) := by decide +kernel
theorem d_M_drop_31 : decode b_M_drop 31 = .ok (.iconst 3, 1) := by decide +kernel
theorem d_M_drop_32 : decode b_M_drop 32 = .ok (.invokevirtual 142, 3) := by decide +kernel
theorem d_M_drop_35 : decode b_M_drop 35 = .ok (.ireturn, 1) := by decide +kernel
theorem d_M_drop_36 : decode b_M_drop 36 = .ok (.aload_n 0, 1) := by decide +kernel
theorem d_M_drop_37 : decode b_M_drop 37 = .ok (.getfield 22, 3) := by decide +kernel
theorem d_M_drop_40 : decode b_M_drop 40 = .ok (.bipush 24, 2) := by decide +kernel
theorem d_M_drop_42 : decode b_M_drop 42 = .ok (.aload_n 0, 1) := by decide +kernel
theorem d_M_drop_43 : decode b_M_drop 43 = .ok (.getfield 16, 3) := by decide +kernel
theorem d_M_drop_46 : decode b_M_drop 46 = .ok (.iload_n 1, 1) := by decide +kernel
theorem d_M_drop_47 : decode b_M_drop 47 = .ok (.iaload, 1) := by decide +kernel
theorem d_M_drop_48 : decode b_M_drop 48 = .ok (.imul, 1) := by decide +kernel
theorem d_M_drop_49 : decode b_M_drop 49 = .ok (.iload_n 3, 1) := by decide +kernel
theorem d_M_drop_50 : decode b_M_drop 50 = .ok (.iadd, 1) := by decide +kernel
theorem d_M_drop_51 : decode b_M_drop 51 = .ok (.iaload, 1) := by decide +kernel
theorem d_M_drop_52 : decode b_M_drop 52 = .ok (.istore 4, 2) := by decide +kernel
theorem d_M_drop_54 : decode b_M_drop 54 = .ok (.aload_n 0, 1) := by decide +kernel
theorem d_M_drop_55 : decode b_M_drop 55 = .ok (.iload_n 1, 1) := by decide +kernel
theorem d_M_drop_56 : decode b_M_drop 56 = .ok (.iload_n 3, 1) := by decide +kernel
theorem d_M_drop_57 : decode b_M_drop 57 = .ok (.invokevirtual 111, 3) := by decide +kernel
theorem d_M_drop_60 : decode b_M_drop 60 = .ok (.iload 4, 2) := by decide +kernel
theorem d_M_drop_62 : decode b_M_drop 62 = .ok (.ireturn, 1) := by decide +kernel
theorem d_M_fits_0 : decode b_M_fits 0 = .ok (.iload_n 2, 1) := by decide +kernel
theorem d_M_fits_1 : decode b_M_fits 1 = .ok (.ifCond .ne 16, 3) := by decide +kernel
theorem d_M_fits_4 : decode b_M_fits 4 = .ok (.iload_n 0, 1) := by decide +kernel
theorem d_M_fits_5 : decode b_M_fits 5 = .ok (.iload_n 1, 1) := by decide +kernel
theorem d_M_fits_6 : decode b_M_fits 6 = .ok (.if_icmp .ge 7, 3) := by decide +kernel
theorem d_M_fits_9 : decode b_M_fits 9 = .ok (.iconst 1, 1) := by decide +kernel
theorem d_M_fits_10 : decode b_M_fits 10 = .ok (.goto 53, 3) := by decide +kernel
theorem d_M_fits_13 : decode b_M_fits 13 = .ok (.iconst 0, 1) := by decide +kernel
theorem d_M_fits_14 : decode b_M_fits 14 = .ok (.goto 49, 3) := by decide +kernel
theorem d_M_fits_17 : decode b_M_fits 17 = .ok (.iload_n 2, 1) := by decide +kernel
theorem d_M_fits_18 : decode b_M_fits 18 = .ok (.iconst 1, 1) := by decide +kernel
theorem d_M_fits_19 : decode b_M_fits 19 = .ok (.if_icmp .ne 16, 3) := by decide +kernel
theorem d_M_fits_22 : decode b_M_fits 22 = .ok (.iload_n 0, 1) := by decide +kernel
theorem d_M_fits_23 : decode b_M_fits 23 = .ok (.iload_n 1, 1) := by decide +kernel
theorem d_M_fits_24 : decode b_M_fits 24 = .ok (.if_icmp .gt 7, 3) := by decide +kernel
theorem d_M_fits_27 : decode b_M_fits 27 = .ok (.iconst 1, 1) := by decide +kernel
theorem d_M_fits_28 : decode b_M_fits 28 = .ok (.goto 35, 3) := by decide +kernel
theorem d_M_fits_31 : decode b_M_fits 31 = .ok (.iconst 0, 1) := by decide +kernel
theorem d_M_fits_32 : decode b_M_fits 32 = .ok (.goto 31, 3) := by decide +kernel
theorem d_M_fits_35 : decode b_M_fits 35 = .ok (.iload_n 2, 1) := by decide +kernel
theorem d_M_fits_36 : decode b_M_fits 36 = .ok (.iconst 2, 1) := by decide +kernel
theorem d_M_fits_37 : decode b_M_fits 37 = .ok (.if_icmp .ne 16, 3) := by decide +kernel
theorem d_M_fits_40 : decode b_M_fits 40 = .ok (.iload_n 0, 1) := by decide +kernel
theorem d_M_fits_41 : decode b_M_fits 41 = .ok (.iload_n 1, 1) := by decide +kernel
theorem d_M_fits_42 : decode b_M_fits 42 = .ok (.if_icmp .lt 7, 3) := by decide +kernel
theorem d_M_fits_45 : decode b_M_fits 45 = .ok (.iconst 1, 1) := by decide +kernel
theorem d_M_fits_46 : decode b_M_fits 46 = .ok (.goto 17, 3) := by decide +kernel
theorem d_M_fits_49 : decode b_M_fits 49 = .ok (.iconst 0, 1) := by decide +kernel
theorem d_M_fits_50 : decode b_M_fits 50 = .ok (.goto 13, 3) := by decide +kernel
theorem d_M_fits_53 : decode b_M_fits 53 = .ok (.iload_n 0, 1) := by decide +kernel
theorem d_M_fits_54 : decode b_M_fits 54 = .ok (.iload_n 1, 1) := by decide +kernel
theorem d_M_fits_55 : decode b_M_fits 55 = .ok (.if_icmp .le 7, 3) := by decide +kernel
theorem d_M_fits_58 : decode b_M_fits 58 = .ok (.iconst 1, 1) := by decide +kernel
theorem d_M_fits_59 : decode b_M_fits 59 = .ok (.goto 4, 3) := by decide +kernel
theorem d_M_fits_62 : decode b_M_fits 62 = .ok (.iconst 0, 1) := by decide +kernel
theorem d_M_fits_63 : decode b_M_fits 63 = .ok (.ireturn, 1) := by decide +kernel
