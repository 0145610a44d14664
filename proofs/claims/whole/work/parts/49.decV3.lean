theorem d_M_near_0 : decode b_M_near 0 = .ok (.aload_n 0, 1) := by decide +kernel
theorem d_M_near_1 : decode b_M_near 1 = .ok (.aload_n 0, 1) := by decide +kernel
theorem d_M_near_2 : decode b_M_near 2 = .ok (.iload_n 1, 1) := by decide +kernel
theorem d_M_near_3 : decode b_M_near 3 = .ok (.invokevirtual 70, 3) := by decide +kernel
theorem d_M_near_6 : decode b_M_near 6 = .ok (.ifCond .ne 7, 3) := by decide +kernel
theorem d_M_near_9 : decode b_M_near 9 = .ok (.iconst 1, 1) := by decide +kernel
theorem d_M_near_10 : decode b_M_near 10 = .ok (.goto 29, 3) := by decide +kernel
theorem d_M_near_13 : decode b_M_near 13 = .ok (.aload_n 0, 1) := by decide +kernel
theorem d_M_near_14 : decode b_M_near 14 = .ok (.iload_n 1, 1) := by decide +kernel
theorem d_M_near_15 : decode b_M_near 15 = .ok (.invokevirtual 73, 3) := by decide +kernel
theorem d_M_near_18 : decode b_M_near 18 = .ok (.ifCond .ne 7, 3) := by decide +kernel
theorem d_M_near_21 : decode b_M_near 21 = .ok (.iconst 2, 1) := by decide +kernel
theorem d_M_near_22 : decode b_M_near 22 = .ok (.goto 17, 3) := by decide +kernel
theorem d_M_near_25 : decode b_M_near 25 = .ok (.iload_n 3, 1) := by decide +kernel
theorem d_M_near_26 : decode b_M_near 26 = .ok (.ifCond .lt 8, 3) := by decide +kernel
theorem d_M_near_29 : decode b_M_near 29 = .ok (.iload_n 3, 1) := by decide +kernel
theorem d_M_near_30 : decode b_M_near 30 = .ok (.iconst 3, 1) := by decide +kernel
theorem d_M_near_31 : decode b_M_near 31 = .ok (.if_icmp .le 7, 3) := by decide +kernel
theorem d_M_near_34 : decode b_M_near 34 = .ok (.iconst 3, 1) := by decide +kernel
theorem d_M_near_35 : decode b_M_near 35 = .ok (.goto 4, 3) := by decide +kernel
theorem d_M_near_38 : decode b_M_near 38 = .ok (.iconst 0, 1) := by decide +kernel
theorem d_M_near_39 : decode b_M_near 39 = .ok (.putfield 55, 3) := by decide +kernel
theorem d_M_near_42 : decode b_M_near 42 = .ok (.aload_n 0, 1) := by decide +kernel
theorem d_M_near_43 : decode b_M_near 43 = .ok (.getfield 55, 3) := by decide +kernel
theorem d_M_near_46 : decode b_M_near 46 = .ok (.ifCond .le 5, 3) := by decide +kernel
theorem d_M_near_49 : decode b_M_near 49 = .ok (.iconst 0, 1) := by decide +kernel
theorem d_M_near_50 : decode b_M_near 50 = .ok (.ireturn, 1) := by decide +kernel
theorem d_M_near_51 : decode b_M_near 51 = .ok (.iconst (-1), 1) := by decide +kernel
theorem d_M_near_52 : decode b_M_near 52 = .ok (.istore 4, 2) := by decide +kernel
theorem d_M_near_54 : decode b_M_near 54 = .ok (.iconst 0, 1) := by decide +kernel
theorem d_M_near_55 : decode b_M_near 55 = .ok (.istore 5, 2) := by decide +kernel
theorem d_M_near_57 : decode b_M_near 57 = .ok (.iload 5, 2) := by decide +kernel
theorem d_M_near_59 : decode b_M_near 59 = .ok (.aload_n 0, 1) := by decide +kernel
theorem d_M_near_60 : decode b_M_near 60 = .ok (.iload_n 1, 1) := by decide +kernel
theorem d_M_near_61 : decode b_M_near 61 = .ok (.invokevirtual 79, 3) := by decide +kernel
theorem d_M_near_64 : decode b_M_near 64 = .ok (.if_icmp .ge 44, 3) := by decide +kernel
theorem d_M_near_67 : decode b_M_near 67 = .ok (.aload_n 0, 1) := by decide +kernel
theorem d_M_near_68 : decode b_M_near 68 = .ok (.getfield 19, 3) := by decide +kernel
theorem d_M_near_71 : decode b_M_near 71 = .ok (.aload_n 0, 1) := by decide +kernel
theorem d_M_near_72 : decode b_M_near 72 = .ok (.iload_n 1, 1) := by decide +kernel
theorem d_M_near_73 : decode b_M_near 73 = .ok (.iload 5, 2) := by decide +kernel
theorem d_M_near_75 : decode b_M_near 75 = .ok (.invokevirtual 97, 3) := by decide +kernel
theorem d_M_near_78 : decode b_M_near 78 = .ok (.iaload, 1) := by decide +kernel
theorem d_M_near_79 : decode b_M_near 79 = .ok (.iload_n 2, 1) := by decide +kernel
theorem d_M_near_80 : decode b_M_near 80 = .ok (.iload_n 3, 1) := by decide +kernel
theorem d_M_near_81 : decode b_M_near 81 = .ok (.invokestatic 145, 3) := by decide +kernel
theorem d_M_near_84 : decode b_M_near 84 = .ok (.ifCond .eq 18, 3) := by decide +kernel
theorem d_M_near_87 : decode b_M_near 87 = .ok (.iload 4, 2) := by decide +kernel
theorem d_M_near_89 : decode b_M_near 89 = .ok (.iconst (-1), 1) := by decide +kernel
theorem d_M_near_90 : decode b_M_near 90 = .ok (.if_icmp .eq 8, 3) := by decide +kernel
theorem d_M_near_93 : decode b_M_near 93 = .ok (.iload_n 3, 1) := by decide +kernel
theorem d_M_near_94 : decode b_M_near 94 = .ok (.iconst 2, 1) := by decide +kernel
theorem d_M_near_95 : decode b_M_near 95 = .ok (.if_icmp .ge 7, 3) := by decide +kernel
theorem d_M_near_98 : decode b_M_near 98 = .ok (.iload 5, 2) := by decide +kernel
theorem d_M_near_100 : decode b_M_near 100 = .ok (.istore 4, 2) := by decide +kernel
theorem d_M_near_102 : decode b_M_near 102 = .ok (.iinc 5 1, 3) := by decide +kernel
theorem d_M_near_105 : decode b_M_near 105 = .ok (.goto (-48), 3) := by decide +kernel
theorem d_M_near_108 : decode b_M_near 108 = .ok (.iload 4, 2) := by decide +kernel
theorem d_M_near_110 : decode b_M_near 110 = .ok (.iconst (-1), 1) := by decide +kernel
theorem d_M_near_111 : decode b_M_near 111 = .ok (.if_icmp .ne 11, 3) := by decide +kernel
theorem d_M_near_114 : decode b_M_near 114 = .ok (.aload_n 0, 1) := by decide +kernel
theorem d_M_near_115 : decode b_M_near 115 = .ok (.iconst 4, 1) := by decide +kernel
theorem d_M_near_116 : decode b_M_near 116 = .ok (.invokevirtual 142, 3) := by decide +kernel
theorem d_M_near_119 : decode b_M_near 119 = .ok (.goto 15, 3) := by decide +kernel
theorem d_M_near_122 : decode b_M_near 122 = .ok (.aload_n 0, 1) := by decide +kernel
theorem d_M_near_123 : decode b_M_near 123 = .ok (.getfield 19, 3) := by decide +kernel
theorem d_M_near_126 : decode b_M_near 126 = .ok (.aload_n 0, 1) := by decide +kernel
theorem d_M_near_127 : decode b_M_near 127 = .ok (.iload_n 1, 1) := by decide +kernel
theorem d_M_near_128 : decode b_M_near 128 = .ok (.iload 4, 2) := by decide +kernel
theorem d_M_near_130 : decode b_M_near 130 = .ok (.invokevirtual 97, 3) := by decide +kernel
theorem d_M_near_133 : decode b_M_near 133 = .ok (.iaload, 1) := by decide +kernel
theorem d_M_near_134 : decode b_M_near 134 = .ok (.ireturn, 1) := by decide +kernel
theorem d_M_room_0 : decode b_M_room 0 = .ok (.aload_n 0, 1) := by decide +kernel
theorem d_M_room_1 : decode b_M_room 1 = .ok (.aload_n 0, 1) := by decide +kernel
theorem d_M_room_2 : decode b_M_room 2 = .ok (.iload_n 1, 1) := by decide +kernel
theorem d_M_room_3 : decode b_M_room 3 = .ok (.invokevirtual 70, 3) := by decide +kernel
theorem d_M_room_6 : decode b_M_room 6 = .ok (.ifCond .ne 7, 3) := by decide +kernel
theorem d_M_room_9 : decode b_M_room 9 = .ok (.iconst 1, 1) := by decide +kernel
theorem d_M_room_10 : decode b_M_room 10 = .ok (.goto 25, 3) := by decide +kernel
theorem d_M_room_13 : decode b_M_room 13 = .ok (.aload_n 0, 1) := by decide +kernel
theorem d_M_room_14 : decode b_M_room 14 = .ok (.getfield 7, 3) := by decide +kernel
theorem d_M_room_17 : decode b_M_room 17 = .ok (.iload_n 1, 1) := by decide +kernel
theorem d_M_room_18 : decode b_M_room 18 = .ok (.iaload, 1) := by decide +kernel
theorem d_M_room_19 : decode b_M_room 19 = .ok (.ifCond .eq 11, 3) := by decide +kernel
theorem d_M_room_22 : decode b_M_room 22 = .ok (.aload_n 0, 1) := by decide +kernel
theorem d_M_room_23 : decode b_M_room 23 = .ok (.iload_n 1, 1) := by decide +kernel
theorem d_M_room_24 : decode b_M_room 24 = .ok (.invokevirtual 124, 3) := by decide +kernel
theorem d_M_room_27 : decode b_M_room 27 = .ok (.ifCond .eq 7, 3) := by decide +kernel
theorem d_M_room_30 : decode b_M_room 30 = .ok (.iconst 0, 1) := by decide +kernel
theorem d_M_room_31 : decode b_M_room 31 = .ok (.goto 4, 3) := by decide +kernel
theorem d_M_room_34 : decode b_M_room 34 = .ok (.iconst 2, 1) := by decide +kernel
theorem d_M_room_35 : decode b_M_room 35 = .ok (.putfield 55, 3) := by decide +kernel
theorem d_M_room_38 : decode b_M_room 38 = .ok (.aload_n 0, 1) := by decide +kernel
theorem d_M_room_39 : decode b_M_room 39 = .ok (.getfield 55, 3) := by decide +kernel
theorem d_M_room_42 : decode b_M_room 42 = .ok (.ifCond .le 7, 3) := by decide +kernel
theorem d_M_room_45 : decode b_M_room 45 = .ok (.iconst 0, 1) := by decide +kernel
theorem d_M_room_46 : decode b_M_room 46 = .ok (.goto 9, 3) := by decide +kernel
theorem d_M_room_49 : decode b_M_room 49 = .ok (.aload_n 0, 1) := by decide +kernel
theorem d_M_room_50 : decode b_M_room 50 = .ok (.getfield 31, 3) := by decide +kernel
theorem d_M_room_53 : decode b_M_room 53 = .ok (.iload_n 1, 1) := by decide +kernel
theorem d_M_room_54 : decode b_M_room 54 = .ok (.iaload, 1) := by decide +kernel
theorem d_M_room_55 : decode b_M_room 55 = .ok (.ireturn, 1) := by decide +kernel
theorem d_M_spread_0 : decode b_M_spread 0 = .ok (.iload_n 0, 1) := by decide +kernel
theorem d_M_spread_1 : decode b_M_spread 1 = .ok (.iload_n 0, 1) := by decide +kernel
theorem d_M_spread_2 : decode b_M_spread 2 = .ok (.bipush 16, 2) := by decide +kernel
theorem d_M_spread_4 : decode b_M_spread 4 = .ok (.iushr, 1) := by decide +kernel
theorem d_M_spread_5 : decode b_M_spread 5 = .ok (.ixor, 1) := by decide +kernel
theorem d_M_spread_6 : decode b_M_spread 6 = .ok (.ireturn, 1) := by decide +kernel
theorem d_M_bucket_0 : decode b_M_bucket 0 = .ok (.aload_n 0, 1) := by decide +kernel
theorem d_M_bucket_1 : decode b_M_bucket 1 = .ok (.aload_n 0, 1) := by decide +kernel
theorem d_M_bucket_2 : decode b_M_bucket 2 = .ok (.iload_n 1, 1) := by decide +kernel
theorem d_M_bucket_3 : decode b_M_bucket 3 = .ok (.invokevirtual 70, 3) := by decide +kernel
theorem d_M_bucket_6 : decode b_M_bucket 6 = .ok (.ifCond .ne 7, 3) := by decide +kernel
theorem d_M_bucket_9 : decode b_M_bucket 9 = .ok (.iconst 1, 1) := by decide +kernel
theorem d_M_bucket_10 : decode b_M_bucket 10 = .ok (.goto 16, 3) := by decide +kernel
theorem d_M_bucket_13 : decode b_M_bucket 13 = .ok (.aload_n 0, 1) := by decide +kernel
theorem d_M_bucket_14 : decode b_M_bucket 14 = .ok (.iload_n 1, 1) := by decide +kernel
theorem d_M_bucket_15 : decode b_M_bucket 15 = .ok (.invokevirtual 124, 3) := by decide +kernel
theorem d_M_bucket_18 : decode b_M_bucket 18 = .ok (.ifCond .eq 7, 3) := by decide +kernel
theorem d_M_bucket_21 : decode b_M_bucket 21 = .ok (.iconst 0, 1) := by decide +kernel
theorem d_M_bucket_22 : decode b_M_bucket 22 = .ok (.goto 4, 3) := by decide +kernel
theorem d_M_bucket_25 : decode b_M_bucket 25 = .ok (.iconst 2, 1) := by decide +kernel
theorem d_M_bucket_26 : decode b_M_bucket 26 = .ok (.putfield 55, 3) := by decide +kernel
theorem d_M_bucket_29 : decode b_M_bucket 29 = .ok (.aload_n 0, 1) := by decide +kernel
theorem d_M_bucket_30 : decode b_M_bucket 30 = .ok (.getfield 55, 3) := by decide +kernel
theorem d_M_bucket_33 : decode b_M_bucket 33 = .ok (.ifCond .le 5, 3) := by decide +kernel
theorem d_M_bucket_36 : decode b_M_bucket 36 = .ok (.iconst 0, 1) := by decide +kernel
theorem d_M_bucket_37 : decode b_M_bucket 37 = .ok (.ireturn, 1) := by decide +kernel
theorem d_M_bucket_38 : decode b_M_bucket 38 = .ok (.iconst 0, 1) := by decide +kernel
theorem d_M_bucket_39 : decode b_M_bucket 39 = .ok (.istore_n 3, 1) := by decide +kernel
theorem d_M_bucket_40 : decode b_M_bucket 40 = .ok (.iconst 0, 1) := by decide +kernel
theorem d_M_bucket_41 : decode b_M_bucket 41 = .ok (.istore 4, 2) := by decide +kernel
theorem d_M_bucket_43 : decode b_M_bucket 43 = .ok (.iload 4, 2) := by decide +kernel
theorem d_M_bucket_45 : decode b_M_bucket 45 = .ok (.aload_n 0, 1) := by decide +kernel
theorem d_M_bucket_46 : decode b_M_bucket 46 = .ok (.getfield 25, 3) := by decide +kernel
theorem d_M_bucket_49 : decode b_M_bucket 49 = .ok (.iload_n 1, 1) := by decide +kernel
theorem d_M_bucket_50 : decode b_M_bucket 50 = .ok (.iaload, 1) := by decide +kernel
theorem d_M_bucket_51 : decode b_M_bucket 51 = .ok (.if_icmp .ge 49, 3) := by decide +kernel
theorem d_M_bucket_54 : decode b_M_bucket 54 = .ok (.iload_n 3, 1) := by decide +kernel
theorem d_M_bucket_55 : decode b_M_bucket 55 = .ok (.aload_n 0, 1) := by decide +kernel
theorem d_M_bucket_56 : decode b_M_bucket 56 = .ok (.getfield 19, 3) := by decide +kernel
theorem d_M_bucket_59 : decode b_M_bucket 59 = .ok (.bipush 24, 2) := by decide +kernel
theorem d_M_bucket_61 : decode b_M_bucket 61 = .ok (.iload_n 1, 1) := by decide +kernel
theorem d_M_bucket_62 : decode b_M_bucket 62 = .ok (.imul, 1) := by decide +kernel
theorem d_M_bucket_63 : decode b_M_bucket 63 = .ok (.iload 4, 2) := by decide +kernel
theorem d_M_bucket_65 : decode b_M_bucket 65 = .ok (.iadd, 1) := by decide +kernel
theorem d_M_bucket_66 : decode b_M_bucket 66 = .ok (.iaload, 1) := by decide +kernel
theorem d_M_bucket_67 : decode b_M_bucket 67 = .ok (.invokestatic 148, 3) := by decide +kernel
theorem d_M_bucket_70 : decode b_M_bucket 70 = .ok (.iload_n 2, 1) := by decide +kernel
theorem d_M_bucket_71 : decode b_M_bucket 71 = .ok (.invokestatic 148, 3) := by decide +kernel
theorem d_M_bucket_74 : decode b_M_bucket 74 = .ok (.ixor, 1) := by decide +kernel
theorem d_M_bucket_75 : decode b_M_bucket 75 = .ok (.aload_n 0, 1) := by decide +kernel
theorem d_M_bucket_76 : decode b_M_bucket 76 = .ok (.getfield 31, 3) := by decide +kernel
theorem d_M_bucket_79 : decode b_M_bucket 79 = .ok (.iload_n 1, 1) := by decide +kernel
theorem d_M_bucket_80 : decode b_M_bucket 80 = .ok (.iaload, 1) := by decide +kernel
theorem d_M_bucket_81 : decode b_M_bucket 81 = .ok (.iconst 1, 1) := by decide +kernel
theorem d_M_bucket_82 : decode b_M_bucket 82 = .ok (.isub, 1) := by decide +kernel
theorem d_M_bucket_83 : decode b_M_bucket 83 = .ok (.iand, 1) := by decide +kernel
theorem d_M_bucket_84 : decode b_M_bucket 84 = .ok (.ifCond .ne 7, 3) := by decide +kernel
theorem d_M_bucket_87 : decode b_M_bucket 87 = .ok (.iconst 1, 1) := by decide +kernel
theorem d_M_bucket_88 : decode b_M_bucket 88 = .ok (.goto 4, 3) := by decide +kernel
theorem d_M_bucket_91 : decode b_M_bucket 91 = .ok (.iconst 0, 1) := by decide +kernel
theorem d_M_bucket_92 : decode b_M_bucket 92 = .ok (.iadd, 1) := by decide +kernel
theorem d_M_bucket_93 : decode b_M_bucket 93 = .ok (.istore_n 3, 1) := by decide +kernel
theorem d_M_bucket_94 : decode b_M_bucket 94 = .ok (.iinc 4 1, 3) := by decide +kernel
theorem d_M_bucket_97 : decode b_M_bucket 97 = .ok (.goto (-54), 3) := by decide +kernel
theorem d_M_bucket_100 : decode b_M_bucket 100 = .ok (.iload_n 3, 1) := by decide +kernel
theorem d_M_bucket_101 : decode b_M_bucket 101 = .ok (.ireturn, 1) := by decide +kernel
theorem d_M_sift_0 : decode b_M_sift 0 = .ok (.aload_n 0, 1) := by decide +kernel
theorem d_M_sift_1 : decode b_M_sift 1 = .ok (.aload_n 0, 1) := by decide +kernel
theorem d_M_sift_2 : decode b_M_sift 2 = .ok (.iload_n 1, 1) := by decide +kernel
theorem d_M_sift_3 : decode b_M_sift 3 = .ok (.invokevirtual 70, 3) := by decide +kernel
theorem d_M_sift_6 : decode b_M_sift 6 = .ok (.ifCond .ne 7, 3) := by decide +kernel
theorem d_M_sift_9 : decode b_M_sift 9 = .ok (.iconst 1, 1) := by decide +kernel
theorem d_M_sift_10 : decode b_M_sift 10 = .ok (.goto 39, 3) := by decide +kernel
theorem d_M_sift_13 : decode b_M_sift 13 = .ok (.aload_n 0, 1) := by decide +kernel
theorem d_M_sift_14 : decode b_M_sift 14 = .ok (.getfield 7, 3) := by decide +kernel
theorem d_M_sift_17 : decode b_M_sift 17 = .ok (.iload_n 1, 1) := by decide +kernel
theorem d_M_sift_18 : decode b_M_sift 18 = .ok (.iaload, 1) := by decide +kernel
theorem d_M_sift_19 : decode b_M_sift 19 = .ok (.iconst 5, 1) := by decide +kernel
theorem d_M_sift_20 : decode b_M_sift 20 = .ok (.if_icmp .ne 7, 3) := by decide +kernel
theorem d_M_sift_23 : decode b_M_sift 23 = .ok (.iconst 2, 1) := by decide +kernel
theorem d_M_sift_24 : decode b_M_sift 24 = .ok (.goto 25, 3) := by decide +kernel
theorem d_M_sift_27 : decode b_M_sift 27 = .ok (.aload_n 0, 1) := by decide +kernel
theorem d_M_sift_28 : decode b_M_sift 28 = .ok (.iload_n 1, 1) := by decide +kernel
theorem d_M_sift_29 : decode b_M_sift 29 = .ok (.invokevirtual 76, 3) := by decide +kernel
theorem d_M_sift_32 : decode b_M_sift 32 = .ok (.ifCond .eq 7, 3) := by decide +kernel
theorem d_M_sift_35 : decode b_M_sift 35 = .ok (.iconst 4, 1) := by decide +kernel
theorem d_M_sift_36 : decode b_M_sift 36 = .ok (.goto 13, 3) := by decide +kernel
theorem d_M_sift_39 : decode b_M_sift 39 = .ok (.iload_n 2, 1) := by decide +kernel
theorem d_M_sift_40 : decode b_M_sift 40 = .ok (.iconst 1, 1) := by decide +kernel
theorem d_M_sift_41 : decode b_M_sift 41 = .ok (.if_icmp .ge 7, 3) := by decide +kernel
theorem d_M_sift_44 : decode b_M_sift 44 = .ok (.iconst 3, 1) := by decide +kernel
theorem d_M_sift_45 : decode b_M_sift 45 = .ok (.goto 4, 3) := by decide +kernel
theorem d_M_sift_48 : decode b_M_sift 48 = .ok (.iconst 0, 1) := by decide +kernel
theorem d_M_sift_49 : decode b_M_sift 49 = .ok (.putfield 55, 3) := by decide +kernel
theorem d_M_sift_52 : decode b_M_sift 52 = .ok (.aload_n 0, 1) := by decide +kernel
theorem d_M_sift_53 : decode b_M_sift 53 = .ok (.getfield 55, 3) := by decide +kernel
theorem d_M_sift_56 : decode b_M_sift 56 = .ok (.ifCond .le 5, 3) := by decide +kernel
theorem d_M_sift_59 : decode b_M_sift 59 = .ok (.iconst 0, 1) := by decide +kernel
theorem d_M_sift_60 : decode b_M_sift 60 = .ok (.ireturn, 1) := by decide +kernel
theorem d_M_sift_61 : decode b_M_sift 61 = .ok (.iconst 0, 1) := by decide +kernel
theorem d_M_sift_62 : decode b_M_sift 62 = .ok (.istore 4, 2) := by decide +kernel
theorem d_M_sift_64 : decode b_M_sift 64 = .ok (.aload_n 0, 1) := by decide +kernel
theorem d_M_sift_65 : decode b_M_sift 65 = .ok (.iload_n 1, 1) := by decide +kernel
theorem d_M_sift_66 : decode b_M_sift 66 = .ok (.invokevirtual 79, 3) := by decide +kernel
theorem d_M_sift_69 : decode b_M_sift 69 = .ok (.iconst 1, 1) := by decide +kernel
theorem d_M_sift_70 : decode b_M_sift 70 = .ok (.isub, 1) := by decide +kernel
theorem d_M_sift_71 : decode b_M_sift 71 = .ok (.istore 5, 2) := by decide +kernel
theorem d_M_sift_73 : decode b_M_sift 73 = .ok (.iload 5, 2) := by decide +kernel
theorem d_M_sift_75 : decode b_M_sift 75 = .ok (.ifCond .lt 48, 3) := by decide +kernel
theorem d_M_sift_78 : decode b_M_sift 78 = .ok (.aload_n 0, 1) := by decide +kernel
theorem d_M_sift_79 : decode b_M_sift 79 = .ok (.getfield 19, 3) := by decide +kernel
theorem d_M_sift_82 : decode b_M_sift 82 = .ok (.aload_n 0, 1) := by decide +kernel
theorem d_M_sift_83 : decode b_M_sift 83 = .ok (.iload_n 1, 1) := by decide +kernel
theorem d_M_sift_84 : decode b_M_sift 84 = .ok (.iload 5, 2) := by decide +kernel
theorem d_M_sift_86 : decode b_M_sift 86 = .ok (.invokevirtual 97, 3) := by decide +kernel
theorem d_M_sift_89 : decode b_M_sift 89 = .ok (.iaload, 1) := by decide +kernel
theorem d_M_sift_90 : decode b_M_sift 90 = .ok (.iload_n 2, 1) := by decide +kernel
theorem d_M_sift_91 : decode b_M_sift 91 = .ok (.invokestatic 114, 3) := by decide +kernel
theorem d_M_sift_94 : decode b_M_sift 94 = .ok (.iload_n 3, 1) := by decide +kernel
theorem d_M_sift_95 : decode b_M_sift 95 = .ok (.if_icmp .eq 6, 3) := by decide +kernel
theorem d_M_sift_98 : decode b_M_sift 98 = .ok (.goto 19, 3) := by decide +kernel
theorem d_M_sift_101 : decode b_M_sift 101 = .ok (.aload_n 0, 1) := by decide +kernel
theorem d_M_sift_102 : decode b_M_sift 102 = .ok (.iload_n 1, 1) := by decide +kernel
theorem d_M_sift_103 : decode b_M_sift 103 = .ok (.aload_n 0, 1) := by decide +kernel
theorem d_M_sift_104 : decode b_M_sift 104 = .ok (.iload_n 1, 1) := by decide +kernel
theorem d_M_sift_105 : decode b_M_sift 105 = .ok (.invokevirtual 83, 3) := by decide +kernel
theorem d_M_sift_108 : decode b_M_sift 108 = .ok (.iload 5, 2) := by decide +kernel
theorem d_M_sift_110 : decode b_M_sift 110 = .ok (.iadd, 1) := by decide +kernel
theorem d_M_sift_111 : decode b_M_sift 111 = .ok (.invokevirtual 111, 3) := by decide +kernel
theorem d_M_sift_114 : decode b_M_sift 114 = .ok (.iinc 4 1, 3) := by decide +kernel
theorem d_M_sift_117 : decode b_M_sift 117 = .ok (.iinc 5 (-1), 3) := by decide +kernel
theorem d_M_sift_120 : decode b_M_sift 120 = .ok (.goto (-47), 3) := by decide +kernel
theorem d_M_sift_123 : decode b_M_sift 123 = .ok (.iload 4, 2) := by decide +kernel
theorem d_M_sift_125 : decode b_M_sift 125 = .ok (.ireturn, 1) := by decide +kernel
theorem d_M_same_0 : decode b_M_same 0 = .ok (.aload_n 0, 1) := by decide +kernel
theorem d_M_same_1 : decode b_M_same 1 = .ok (.aload_n 0, 1) := by decide +kernel
theorem d_M_same_2 : decode b_M_same 2 = .ok (.iload_n 1, 1) := by decide +kernel
theorem d_M_same_3 : decode b_M_same 3 = .ok (.invokevirtual 70, 3) := by decide +kernel
theorem d_M_same_6 : decode b_M_same 6 = .ok (.ifCond .eq 11, 3) := by decide +kernel
theorem d_M_same_9 : decode b_M_same 9 = .ok (.aload_n 0, 1) := by decide +kernel
theorem d_M_same_10 : decode b_M_same 10 = .ok (.iload_n 2, 1) := by decide +kernel
theorem d_M_same_11 : decode b_M_same 11 = .ok (.invokevirtual 70, 3) := by decide +kernel
theorem d_M_same_14 : decode b_M_same 14 = .ok (.ifCond .ne 7, 3) := by decide +kernel
theorem d_M_same_17 : decode b_M_same 17 = .ok (.iconst 1, 1) := by decide +kernel
theorem d_M_same_18 : decode b_M_same 18 = .ok (.goto 24, 3) := by decide +kernel
theorem d_M_same_21 : decode b_M_same 21 = .ok (.aload_n 0, 1) := by decide +kernel
theorem d_M_same_22 : decode b_M_same 22 = .ok (.iload_n 1, 1) := by decide +kernel
theorem d_M_same_23 : decode b_M_same 23 = .ok (.invokevirtual 76, 3) := by decide +kernel
theorem d_M_same_26 : decode b_M_same 26 = .ok (.ifCond .ne 11, 3) := by decide +kernel
theorem d_M_same_29 : decode b_M_same 29 = .ok (.aload_n 0, 1) := by decide +kernel
theorem d_M_same_30 : decode b_M_same 30 = .ok (.iload_n 2, 1) := by decide +kernel
theorem d_M_same_31 : decode b_M_same 31 = .ok (.invokevirtual 76, 3) := by decide +kernel
theorem d_M_same_34 : decode b_M_same 34 = .ok (.ifCond .eq 7, 3) := by decide +kernel
theorem d_M_same_37 : decode b_M_same 37 = .ok (.iconst 2, 1) := by decide +kernel
theorem d_M_same_38 : decode b_M_same 38 = .ok (.goto 4, 3) := by decide +kernel
theorem d_M_same_41 : decode b_M_same 41 = .ok (.iconst 0, 1) := by decide +kernel
theorem d_M_same_42 : decode b_M_same 42 = .ok (.putfield 55, 3) := by decide +kernel
theorem d_M_same_45 : decode b_M_same 45 = .ok (.aload_n 0, 1) := by decide +kernel
theorem d_M_same_46 : decode b_M_same 46 = .ok (.getfield 55, 3) := by decide +kernel
theorem d_M_same_49 : decode b_M_same 49 = .ok (.ifCond .le 5, 3) := by decide +kernel
theorem d_M_same_52 : decode b_M_same 52 = .ok (.iconst 0, 1) := by decide +kernel
theorem d_M_same_53 : decode b_M_same 53 = .ok (.ireturn, 1) := by decide +kernel
theorem d_M_same_54 : decode b_M_same 54 = .ok (.aload_n 0, 1) := by decide +kernel
theorem d_M_same_55 : decode b_M_same 55 = .ok (.iload_n 1, 1) := by decide +kernel
theorem d_M_same_56 : decode b_M_same 56 = .ok (.invokevirtual 62, 3) := by decide +kernel
theorem d_M_same_59 : decode b_M_same 59 = .ok (.ifCond .eq 15, 3) := by decide +kernel
theorem d_M_same_62 : decode b_M_same 62 = .ok (.aload_n 0, 1) := by decide +kernel
theorem d_M_same_63 : decode b_M_same 63 = .ok (.iload_n 2, 1) := by decide +kernel
theorem d_M_same_64 : decode b_M_same 64 = .ok (.invokevirtual 62, 3) := by decide +kernel
theorem d_M_same_67 : decode b_M_same 67 = .ok (.ifCond .eq 7, 3) := by decide +kernel
theorem d_M_same_70 : decode b_M_same 70 = .ok (.iconst 1, 1) := by decide +kernel
theorem d_M_same_71 : decode b_M_same 71 = .ok (.goto 4, 3) := by decide +kernel
theorem d_M_same_74 : decode b_M_same 74 = .ok (.iconst 0, 1) := by decide +kernel
theorem d_M_same_75 : decode b_M_same 75 = .ok (.istore_n 3, 1) := by decide +kernel
theorem d_M_same_76 : decode b_M_same 76 = .ok (.iload_n 3, 1) := by decide +kernel
theorem d_M_same_77 : decode b_M_same 77 = .ok (.ifCond .ne 19, 3) := by decide +kernel
theorem d_M_same_80 : decode b_M_same 80 = .ok (.aload_n 0, 1) := by decide +kernel
theorem d_M_same_81 : decode b_M_same 81 = .ok (.iload_n 1, 1) := by decide +kernel
theorem d_M_same_82 : decode b_M_same 82 = .ok (.invokevirtual 121, 3) := by decide +kernel
theorem d_M_same_85 : decode b_M_same 85 = .ok (.ifCond .eq 24, 3) := by decide +kernel
theorem d_M_same_88 : decode b_M_same 88 = .ok (.aload_n 0, 1) := by decide +kernel
theorem d_M_same_89 : decode b_M_same 89 = .ok (.iload_n 2, 1) := by decide +kernel
theorem d_M_same_90 : decode b_M_same 90 = .ok (.invokevirtual 121, 3) := by decide +kernel
theorem d_M_same_93 : decode b_M_same 93 = .ok (.ifCond .eq 16, 3) := by decide +kernel
theorem d_M_same_96 : decode b_M_same 96 = .ok (.aload_n 0, 1) := by decide +kernel
theorem d_M_same_97 : decode b_M_same 97 = .ok (.iload_n 1, 1) := by decide +kernel
theorem d_M_same_98 : decode b_M_same 98 = .ok (.invokevirtual 79, 3) := by decide +kernel
theorem d_M_same_101 : decode b_M_same 101 = .ok (.aload_n 0, 1) := by decide +kernel
theorem d_M_same_102 : decode b_M_same 102 = .ok (.iload_n 2, 1) := by decide +kernel
theorem d_M_same_103 : decode b_M_same 103 = .ok (.invokevirtual 79, 3) := by decide +kernel
theorem d_M_same_106 : decode b_M_same 106 = .ok (.if_icmp .eq 5, 3) := by decide +kernel
theorem d_M_same_109 : decode b_M_same 109 = .ok (.iconst 0, 1) := by decide +kernel
theorem d_M_same_110 : decode b_M_same 110 = .ok (.ireturn, 1) := by decide +kernel
theorem d_M_same_111 : decode b_M_same 111 = .ok (.iconst 1, 1) := by decide +kernel
theorem d_M_same_112 : decode b_M_same 112 = .ok (.istore 4, 2) := by decide +kernel
theorem d_M_same_114 : decode b_M_same 114 = .ok (.iconst 0, 1) := by decide +kernel
theorem d_M_same_115 : decode b_M_same 115 = .ok (.istore 5, 2) := by decide +kernel
theorem d_M_same_117 : decode b_M_same 117 = .ok (.iload 5, 2) := by decide +kernel
theorem d_M_same_119 : decode b_M_same 119 = .ok (.aload_n 0, 1) := by decide +kernel
theorem d_M_same_120 : decode b_M_same 120 = .ok (.iload_n 1, 1) := by decide +kernel
theorem d_M_same_121 : decode b_M_same 121 = .ok (.invokevirtual 79, 3) := by decide +kernel
theorem d_M_same_124 : decode b_M_same 124 = .ok (.if_icmp .ge 123, 3) := by decide +kernel
theorem d_M_same_127 : decode b_M_same 127 = .ok (.aload_n 0, 1) := by decide +kernel
theorem d_M_same_128 : decode b_M_same 128 = .ok (.iload_n 1, 1) := by decide +kernel
theorem d_M_same_129 : decode b_M_same 129 = .ok (.iload 5, 2) := by decide +kernel
theorem d_M_same_131 : decode b_M_same 131 = .ok (.invokevirtual 97, 3) := by decide +kernel
theorem d_M_same_134 : decode b_M_same 134 = .ok (.istore 6, 2) := by decide +kernel
theorem d_M_same_136 : decode b_M_same 136 = .ok (.iload_n 3, 1) := by decide +kernel
theorem d_M_same_137 : decode b_M_same 137 = .ok (.ifCond .eq 14, 3) := by decide +kernel
theorem d_M_same_140 : decode b_M_same 140 = .ok (.aload_n 0, 1) := by decide +kernel
theorem d_M_same_141 : decode b_M_same 141 = .ok (.iload_n 2, 1) := by decide +kernel
theorem d_M_same_142 : decode b_M_same 142 = .ok (.invokevirtual 83, 3) := by decide +kernel
theorem d_M_same_145 : decode b_M_same 145 = .ok (.iload 5, 2) := by decide +kernel
theorem d_M_same_147 : decode b_M_same 147 = .ok (.iadd, 1) := by decide +kernel
theorem d_M_same_148 : decode b_M_same 148 = .ok (.goto 15, 3) := by decide +kernel
theorem d_M_same_151 : decode b_M_same 151 = .ok (.aload_n 0, 1) := by decide +kernel
theorem d_M_same_152 : decode b_M_same 152 = .ok (.iload_n 2, 1) := by decide +kernel
theorem d_M_same_153 : decode b_M_same 153 = .ok (.aload_n 0, 1) := by decide +kernel
theorem d_M_same_154 : decode b_M_same 154 = .ok (.getfield 19, 3) := by decide +kernel
theorem d_M_same_157 : decode b_M_same 157 = .ok (.iload 6, 2) := by decide +kernel
theorem d_M_same_159 : decode b_M_same 159 = .ok (.iaload, 1) := by decide +kernel
theorem d_M_same_160 : decode b_M_same 160 = .ok (.invokevirtual 130, 3) := by decide +kernel
theorem d_M_same_163 : decode b_M_same 163 = .ok (.istore 7, 2) := by decide +kernel
theorem d_M_same_165 : decode b_M_same 165 = .ok (.iload 4, 2) := by decide +kernel
theorem d_M_same_167 : decode b_M_same 167 = .ok (.ifCond .eq 71, 3) := by decide +kernel
theorem d_M_same_170 : decode b_M_same 170 = .ok (.iload 7, 2) := by decide +kernel
theorem d_M_same_172 : decode b_M_same 172 = .ok (.iconst (-1), 1) := by decide +kernel
theorem d_M_same_173 : decode b_M_same 173 = .ok (.if_icmp .eq 65, 3) := by decide +kernel
theorem d_M_same_176 : decode b_M_same 176 = .ok (.aload_n 0, 1) := by decide +kernel
theorem d_M_same_177 : decode b_M_same 177 = .ok (.getfield 19, 3) := by decide +kernel
theorem d_M_same_180 : decode b_M_same 180 = .ok (.bipush 24, 2) := by decide +kernel
theorem d_M_same_182 : decode b_M_same 182 = .ok (.aload_n 0, 1) := by decide +kernel
theorem d_M_same_183 : decode b_M_same 183 = .ok (.getfield 16, 3) := by decide +kernel
theorem d_M_same_186 : decode b_M_same 186 = .ok (.iload_n 2, 1) := by decide +kernel
theorem d_M_same_187 : decode b_M_same 187 = .ok (.iaload, 1) := by decide +kernel
theorem d_M_same_188 : decode b_M_same 188 = .ok (.imul, 1) := by decide +kernel
theorem d_M_same_189 : decode b_M_same 189 = .ok (.iload 7, 2) := by decide +kernel
theorem d_M_same_191 : decode b_M_same 191 = .ok (.iadd, 1) := by decide +kernel
theorem d_M_same_192 : decode b_M_same 192 = .ok (.iaload, 1) := by decide +kernel
theorem d_M_same_193 : decode b_M_same 193 = .ok (.aload_n 0, 1) := by decide +kernel
theorem d_M_same_194 : decode b_M_same 194 = .ok (.getfield 19, 3) := by decide +kernel
theorem d_M_same_197 : decode b_M_same 197 = .ok (.iload 6, 2) := by decide +kernel
theorem d_M_same_199 : decode b_M_same 199 = .ok (.iaload, 1) := by decide +kernel
theorem d_M_same_200 : decode b_M_same 200 = .ok (.if_icmp .ne 38, 3) := by decide +kernel
theorem d_M_same_203 : decode b_M_same 203 = .ok (.iload_n 3, 1) := by decide +kernel
theorem d_M_same_204 : decode b_M_same 204 = .ok (.ifCond .ne 30, 3) := by decide +kernel
theorem d_M_same_207 : decode b_M_same 207 = .ok (.aload_n 0, 1) := by decide +kernel
theorem d_M_same_208 : decode b_M_same 208 = .ok (.getfield 22, 3) := by decide +kernel
theorem d_M_same_211 : decode b_M_same 211 = .ok (.bipush 24, 2) := by decide +kernel
theorem d_M_same_213 : decode b_M_same 213 = .ok (.aload_n 0, 1) := by decide +kernel
theorem d_M_same_214 : decode b_M_same 214 = .ok (.getfield 16, 3) := by decide +kernel
theorem d_M_same_217 : decode b_M_same 217 = .ok (.iload_n 2, 1) := by decide +kernel
theorem d_M_same_218 : decode b_M_same 218 = .ok (.iaload, 1) := by decide +kernel
theorem d_M_same_219 : decode b_M_same 219 = .ok (.imul, 1) := by decide +kernel
theorem d_M_same_220 : decode b_M_same 220 = .ok (.iload 7, 2) := by decide +kernel
theorem d_M_same_222 : decode b_M_same 222 = .ok (.iadd, 1) := by decide +kernel
theorem d_M_same_223 : decode b_M_same 223 = .ok (.iaload, 1) := by decide +kernel
theorem d_M_same_224 : decode b_M_same 224 = .ok (.aload_n 0, 1) := by decide +kernel
theorem d_M_same_225 : decode b_M_same 225 = .ok (.getfield 22, 3) := by decide +kernel
theorem d_M_same_228 : decode b_M_same 228 = .ok (.iload 6, 2) := by decide +kernel
theorem d_M_same_230 : decode b_M_same 230 = .ok (.iaload, 1) := by decide +kernel
theorem d_M_same_231 : decode b_M_same 231 = .ok (.if_icmp .ne 7, 3) := by decide +kernel
theorem d_M_same_234 : decode b_M_same 234 = .ok (.iconst 1, 1) := by decide +kernel
theorem d_M_same_235 : decode b_M_same 235 = .ok (.goto 4, 3) := by decide +kernel
theorem d_M_same_238 : decode b_M_same 238 = .ok (.iconst 0, 1) := by decide +kernel
theorem d_M_same_239 : decode b_M_same 239 = .ok (.istore 4, 2) := by decide +kernel
theorem d_M_same_241 : decode b_M_same 241 = .ok (.iinc 5 1, 3) := by decide +kernel
theorem d_M_same_244 : decode b_M_same 244 = .ok (.goto (-127), 3) := by decide +kernel
theorem d_M_same_247 : decode b_M_same 247 = .ok (.iload 4, 2) := by decide +kernel
theorem d_M_same_249 : decode b_M_same 249 = .ok (.ireturn, 1) := by decide +kernel
theorem d_M_open_0 : decode b_M_open 0 = .ok (.aload_n 0, 1) := by decide +kernel
theorem d_M_open_1 : decode b_M_open 1 = .ok (.aload_n 0, 1) := by decide +kernel
theorem d_M_open_2 : decode b_M_open 2 = .ok (.iload_n 2, 1) := by decide +kernel
theorem d_M_open_3 : decode b_M_open 3 = .ok (.invokevirtual 70, 3) := by decide +kernel
theorem d_M_open_6 : decode b_M_open 6 = .ok (.ifCond .eq 12, 3) := by decide +kernel
theorem d_M_open_9 : decode b_M_open 9 = .ok (.iload_n 1, 1) := by decide +kernel
theorem d_M_open_10 : decode b_M_open 10 = .ok (.ifCond .lt 8, 3) := by decide +kernel
theorem d_M_open_13 : decode b_M_open 13 = .ok (.iload_n 1, 1) := by decide +kernel
theorem d_M_open_14 : decode b_M_open 14 = .ok (.iconst 4, 1) := by decide +kernel
theorem d_M_open_15 : decode b_M_open 15 = .ok (.if_icmp .lt 7, 3) := by decide +kernel
theorem d_M_open_18 : decode b_M_open 18 = .ok (.iconst 1, 1) := by decide +kernel
theorem d_M_open_19 : decode b_M_open 19 = .ok (.goto 30, 3) := by decide +kernel
theorem d_M_open_22 : decode b_M_open 22 = .ok (.aload_n 0, 1) := by decide +kernel
theorem d_M_open_23 : decode b_M_open 23 = .ok (.getfield 7, 3) := by decide +kernel
theorem d_M_open_26 : decode b_M_open 26 = .ok (.iload_n 2, 1) := by decide +kernel
theorem d_M_open_27 : decode b_M_open 27 = .ok (.iaload, 1) := by decide +kernel
theorem d_M_open_28 : decode b_M_open 28 = .ok (.iconst 5, 1) := by decide +kernel
theorem d_M_open_29 : decode b_M_open 29 = .ok (.if_icmp .ne 7, 3) := by decide +kernel
theorem d_M_open_32 : decode b_M_open 32 = .ok (.iconst 2, 1) := by decide +kernel
theorem d_M_open_33 : decode b_M_open 33 = .ok (.goto 16, 3) := by decide +kernel
theorem d_M_open_36 : decode b_M_open 36 = .ok (.aload_n 0, 1) := by decide +kernel
theorem d_M_open_37 : decode b_M_open 37 = .ok (.iload_n 2, 1) := by decide +kernel
theorem d_M_open_38 : decode b_M_open 38 = .ok (.invokevirtual 76, 3) := by decide +kernel
theorem d_M_open_41 : decode b_M_open 41 = .ok (.ifCond .eq 7, 3) := by decide +kernel
theorem d_M_open_44 : decode b_M_open 44 = .ok (.iconst 3, 1) := by decide +kernel
theorem d_M_open_45 : decode b_M_open 45 = .ok (.goto 4, 3) := by decide +kernel
theorem d_M_open_48 : decode b_M_open 48 = .ok (.iconst 0, 1) := by decide +kernel
theorem d_M_open_49 : decode b_M_open 49 = .ok (.putfield 55, 3) := by decide +kernel
theorem d_M_open_52 : decode b_M_open 52 = .ok (.aload_n 0, 1) := by decide +kernel
theorem d_M_open_53 : decode b_M_open 53 = .ok (.getfield 55, 3) := by decide +kernel
theorem d_M_open_56 : decode b_M_open 56 = .ok (.ifCond .le 4, 3) := by decide +kernel
theorem d_M_open_59 : decode b_M_open 59 = .ok (.return_, 1) := by decide +kernel
theorem d_M_open_60 : decode b_M_open 60 = .ok (.aload_n 0, 1) := by decide +kernel
theorem d_M_open_61 : decode b_M_open 61 = .ok (.getfield 43, 3) := by decide +kernel
theorem d_M_open_64 : decode b_M_open 64 = .ok (.iload_n 1, 1) := by decide +kernel
theorem d_M_open_65 : decode b_M_open 65 = .ok (.iload_n 2, 1) := by decide +kernel
theorem d_M_open_66 : decode b_M_open 66 = .ok (.iastore, 1) := by decide +kernel
theorem d_M_open_67 : decode b_M_open 67 = .ok (.aload_n 0, 1) := by decide +kernel
theorem d_M_open_68 : decode b_M_open 68 = .ok (.getfield 46, 3) := by decide +kernel
theorem d_M_open_71 : decode b_M_open 71 = .ok (.iload_n 1, 1) := by decide +kernel
theorem d_M_open_72 : decode b_M_open 72 = .ok (.iconst 0, 1) := by decide +kernel
theorem d_M_open_73 : decode b_M_open 73 = .ok (.iastore, 1) := by decide +kernel
theorem d_M_open_74 : decode b_M_open 74 = .ok (.aload_n 0, 1) := by decide +kernel
theorem d_M_open_75 : decode b_M_open 75 = .ok (.getfield 49, 3) := by decide +kernel
theorem d_M_open_78 : decode b_M_open 78 = .ok (.iload_n 1, 1) := by decide +kernel
theorem d_M_open_79 : decode b_M_open 79 = .ok (.iconst (-1), 1) := by decide +kernel
theorem d_M_open_80 : decode b_M_open 80 = .ok (.iastore, 1) := by decide +kernel
theorem d_M_open_81 : decode b_M_open 81 = .ok (.aload_n 0, 1) := by decide +kernel
theorem d_M_open_82 : decode b_M_open 82 = .ok (.getfield 52, 3) := by decide +kernel
theorem d_M_open_85 : decode b_M_open 85 = .ok (.iload_n 1, 1) := by decide +kernel
theorem d_M_open_86 : decode b_M_open 86 = .ok (.aload_n 0, 1) := by decide +kernel
theorem d_M_open_87 : decode b_M_open 87 = .ok (.getfield 28, 3) := by decide +kernel
theorem d_M_open_90 : decode b_M_open 90 = .ok (.aload_n 0, 1) := by decide +kernel
theorem d_M_open_91 : decode b_M_open 91 = .ok (.getfield 16, 3) := by decide +kernel
theorem d_M_open_94 : decode b_M_open 94 = .ok (.iload_n 2, 1) := by decide +kernel
theorem d_M_open_95 : decode b_M_open 95 = .ok (.iaload, 1) := by decide +kernel
theorem d_M_open_96 : decode b_M_open 96 = .ok (.iaload, 1) := by decide +kernel
theorem d_M_open_97 : decode b_M_open 97 = .ok (.iastore, 1) := by decide +kernel
theorem d_M_open_98 : decode b_M_open 98 = .ok (.return_, 1) := by decide +kernel
theorem d_M_isOpen_0 : decode b_M_isOpen 0 = .ok (.iload_n 1, 1) := by decide +kernel
theorem d_M_isOpen_1 : decode b_M_isOpen 1 = .ok (.ifCond .lt 22, 3) := by decide +kernel
theorem d_M_isOpen_4 : decode b_M_isOpen 4 = .ok (.iload_n 1, 1) := by decide +kernel
theorem d_M_isOpen_5 : decode b_M_isOpen 5 = .ok (.iconst 4, 1) := by decide +kernel
theorem d_M_isOpen_6 : decode b_M_isOpen 6 = .ok (.if_icmp .ge 17, 3) := by decide +kernel
theorem d_M_isOpen_9 : decode b_M_isOpen 9 = .ok (.aload_n 0, 1) := by decide +kernel
theorem d_M_isOpen_10 : decode b_M_isOpen 10 = .ok (.getfield 43, 3) := by decide +kernel
theorem d_M_isOpen_13 : decode b_M_isOpen 13 = .ok (.iload_n 1, 1) := by decide +kernel
theorem d_M_isOpen_14 : decode b_M_isOpen 14 = .ok (.iaload, 1) := by decide +kernel
theorem d_M_isOpen_15 : decode b_M_isOpen 15 = .ok (.iconst (-1), 1) := by decide +kernel
theorem d_M_isOpen_16 : decode b_M_isOpen 16 = .ok (.if_icmp .eq 7, 3) := by decide +kernel
theorem d_M_isOpen_19 : decode b_M_isOpen 19 = .ok (.iconst 1, 1) := by decide +kernel
theorem d_M_isOpen_20 : decode b_M_isOpen 20 = .ok (.goto 4, 3) := by decide +kernel
theorem d_M_isOpen_23 : decode b_M_isOpen 23 = .ok (.iconst 0, 1) := by decide +kernel
theorem d_M_isOpen_24 : decode b_M_isOpen 24 = .ok (.ireturn, 1) := by decide +kernel
theorem d_M_isLost_0 : decode b_M_isLost 0 = .ok (.aload_n 0, 1) := by decide +kernel
theorem d_M_isLost_1 : decode b_M_isLost 1 = .ok (.aload_n 0, 1) := by decide +kernel
theorem d_M_isLost_2 : decode b_M_isLost 2 = .ok (.getfield 43, 3) := by decide +kernel
theorem d_M_isLost_5 : decode b_M_isLost 5 = .ok (.iload_n 1, 1) := by decide +kernel
theorem d_M_isLost_6 : decode b_M_isLost 6 = .ok (.iaload, 1) := by decide +kernel
theorem d_M_isLost_7 : decode b_M_isLost 7 = .ok (.invokevirtual 76, 3) := by decide +kernel
theorem d_M_isLost_10 : decode b_M_isLost 10 = .ok (.ifCond .ne 28, 3) := by decide +kernel
theorem d_M_isLost_13 : decode b_M_isLost 13 = .ok (.aload_n 0, 1) := by decide +kernel
theorem d_M_isLost_14 : decode b_M_isLost 14 = .ok (.getfield 52, 3) := by decide +kernel
theorem d_M_isLost_17 : decode b_M_isLost 17 = .ok (.iload_n 1, 1) := by decide +kernel
theorem d_M_isLost_18 : decode b_M_isLost 18 = .ok (.iaload, 1) := by decide +kernel
theorem d_M_isLost_19 : decode b_M_isLost 19 = .ok (.aload_n 0, 1) := by decide +kernel
theorem d_M_isLost_20 : decode b_M_isLost 20 = .ok (.getfield 28, 3) := by decide +kernel
theorem d_M_isLost_23 : decode b_M_isLost 23 = .ok (.aload_n 0, 1) := by decide +kernel
theorem d_M_isLost_24 : decode b_M_isLost 24 = .ok (.getfield 16, 3) := by decide +kernel
theorem d_M_isLost_27 : decode b_M_isLost 27 = .ok (.aload_n 0, 1) := by decide +kernel
theorem d_M_isLost_28 : decode b_M_isLost 28 = .ok (.getfield 43, 3) := by decide +kernel
theorem d_M_isLost_31 : decode b_M_isLost 31 = .ok (.iload_n 1, 1) := by decide +kernel
theorem d_M_isLost_32 : decode b_M_isLost 32 = .ok (.iaload, 1) := by decide +kernel
theorem d_M_isLost_33 : decode b_M_isLost 33 = .ok (.iaload, 1) := by decide +kernel
theorem d_M_isLost_34 : decode b_M_isLost 34 = .ok (.iaload, 1) := by decide +kernel
theorem d_M_isLost_35 : decode b_M_isLost 35 = .ok (.if_icmp .eq 7, 3) := by decide +kernel
theorem d_M_isLost_38 : decode b_M_isLost 38 = .ok (.iconst 1, 1) := by decide +kernel
theorem d_M_isLost_39 : decode b_M_isLost 39 = .ok (.goto 4, 3) := by decide +kernel
theorem d_M_isLost_42 : decode b_M_isLost 42 = .ok (.iconst 0, 1) := by decide +kernel
theorem d_M_isLost_43 : decode b_M_isLost 43 = .ok (.ireturn, 1) := by decide +kernel
theorem d_M_next_0 : decode b_M_next 0 = .ok (.aload_n 0, 1) := by decide +kernel
theorem d_M_next_1 : decode b_M_next 1 = .ok (.aload_n 0, 1) := by decide +kernel
theorem d_M_next_2 : decode b_M_next 2 = .ok (.iload_n 1, 1) := by decide +kernel
theorem d_M_next_3 : decode b_M_next 3 = .ok (.invokevirtual 151, 3) := by decide +kernel
theorem d_M_next_6 : decode b_M_next 6 = .ok (.ifCond .ne 7, 3) := by decide +kernel
theorem d_M_next_9 : decode b_M_next 9 = .ok (.iconst 1, 1) := by decide +kernel
theorem d_M_next_10 : decode b_M_next 10 = .ok (.goto 37, 3) := by decide +kernel
theorem d_M_next_13 : decode b_M_next 13 = .ok (.iload_n 2, 1) := by decide +kernel
theorem d_M_next_14 : decode b_M_next 14 = .ok (.ifCond .ne 20, 3) := by decide +kernel
theorem d_M_next_17 : decode b_M_next 17 = .ok (.aload_n 0, 1) := by decide +kernel
theorem d_M_next_18 : decode b_M_next 18 = .ok (.aload_n 0, 1) := by decide +kernel
theorem d_M_next_19 : decode b_M_next 19 = .ok (.getfield 43, 3) := by decide +kernel
theorem d_M_next_22 : decode b_M_next 22 = .ok (.iload_n 1, 1) := by decide +kernel
theorem d_M_next_23 : decode b_M_next 23 = .ok (.iaload, 1) := by decide +kernel
theorem d_M_next_24 : decode b_M_next 24 = .ok (.invokevirtual 62, 3) := by decide +kernel
theorem d_M_next_27 : decode b_M_next 27 = .ok (.ifCond .ne 7, 3) := by decide +kernel
theorem d_M_next_30 : decode b_M_next 30 = .ok (.iconst 2, 1) := by decide +kernel
theorem d_M_next_31 : decode b_M_next 31 = .ok (.goto 16, 3) := by decide +kernel
theorem d_M_next_34 : decode b_M_next 34 = .ok (.aload_n 0, 1) := by decide +kernel
theorem d_M_next_35 : decode b_M_next 35 = .ok (.iload_n 1, 1) := by decide +kernel
theorem d_M_next_36 : decode b_M_next 36 = .ok (.invokevirtual 154, 3) := by decide +kernel
theorem d_M_next_39 : decode b_M_next 39 = .ok (.ifCond .eq 7, 3) := by decide +kernel
theorem d_M_next_42 : decode b_M_next 42 = .ok (.iconst 4, 1) := by decide +kernel
theorem d_M_next_43 : decode b_M_next 43 = .ok (.goto 4, 3) := by decide +kernel
theorem d_M_next_46 : decode b_M_next 46 = .ok (.iconst 0, 1) := by decide +kernel
theorem d_M_next_47 : decode b_M_next 47 = .ok (.putfield 55, 3) := by decide +kernel
theorem d_M_next_50 : decode b_M_next 50 = .ok (.aload_n 0, 1) := by decide +kernel
theorem d_M_next_51 : decode b_M_next 51 = .ok (.getfield 55, 3) := by decide +kernel
theorem d_M_next_54 : decode b_M_next 54 = .ok (.ifCond .le 5, 3) := by decide +kernel
theorem d_M_next_57 : decode b_M_next 57 = .ok (.iconst 0, 1) := by decide +kernel
theorem d_M_next_58 : decode b_M_next 58 = .ok (.ireturn, 1) := by decide +kernel
theorem d_M_next_59 : decode b_M_next 59 = .ok (.aload_n 0, 1) := by decide +kernel
theorem d_M_next_60 : decode b_M_next 60 = .ok (.getfield 43, 3) := by decide +kernel
theorem d_M_next_63 : decode b_M_next 63 = .ok (.iload_n 1, 1) := by decide +kernel
theorem d_M_next_64 : decode b_M_next 64 = .ok (.iaload, 1) := by decide +kernel
theorem d_M_next_65 : decode b_M_next 65 = .ok (.istore_n 3, 1) := by decide +kernel
theorem d_M_next_66 : decode b_M_next 66 = .ok (.iload_n 2, 1) := by decide +kernel
theorem d_M_next_67 : decode b_M_next 67 = .ok (.ifCond .eq 12, 3) := by decide +kernel
theorem d_M_next_70 : decode b_M_next 70 = .ok (.aload_n 0, 1) := by decide +kernel
theorem d_M_next_71 : decode b_M_next 71 = .ok (.getfield 46, 3) := by decide +kernel
theorem d_M_next_74 : decode b_M_next 74 = .ok (.iload_n 1, 1) := by decide +kernel
theorem d_M_next_75 : decode b_M_next 75 = .ok (.iaload, 1) := by decide +kernel
theorem d_M_next_76 : decode b_M_next 76 = .ok (.goto 11, 3) := by decide +kernel
theorem d_M_next_79 : decode b_M_next 79 = .ok (.aload_n 0, 1) := by decide +kernel
theorem d_M_next_80 : decode b_M_next 80 = .ok (.getfield 46, 3) := by decide +kernel
theorem d_M_next_83 : decode b_M_next 83 = .ok (.iload_n 1, 1) := by decide +kernel
theorem d_M_next_84 : decode b_M_next 84 = .ok (.iaload, 1) := by decide +kernel
theorem d_M_next_85 : decode b_M_next 85 = .ok (.iconst 1, 1) := by decide +kernel
theorem d_M_next_86 : decode b_M_next 86 = .ok (.isub, 1) := by decide +kernel
theorem d_M_next_87 : decode b_M_next 87 = .ok (.istore 4, 2) := by decide +kernel
theorem d_M_next_89 : decode b_M_next 89 = .ok (.iload 4, 2) := by decide +kernel
theorem d_M_next_91 : decode b_M_next 91 = .ok (.ifCond .lt 13, 3) := by decide +kernel
theorem d_M_next_94 : decode b_M_next 94 = .ok (.iload 4, 2) := by decide +kernel
theorem d_M_next_96 : decode b_M_next 96 = .ok (.aload_n 0, 1) := by decide +kernel
theorem d_M_next_97 : decode b_M_next 97 = .ok (.iload_n 3, 1) := by decide +kernel
theorem d_M_next_98 : decode b_M_next 98 = .ok (.invokevirtual 79, 3) := by decide +kernel
theorem d_M_next_101 : decode b_M_next 101 = .ok (.if_icmp .lt 9, 3) := by decide +kernel
theorem d_M_next_104 : decode b_M_next 104 = .ok (.aload_n 0, 1) := by decide +kernel
theorem d_M_next_105 : decode b_M_next 105 = .ok (.iconst 3, 1) := by decide +kernel
theorem d_M_next_106 : decode b_M_next 106 = .ok (.invokevirtual 142, 3) := by decide +kernel
theorem d_M_next_109 : decode b_M_next 109 = .ok (.ireturn, 1) := by decide +kernel
theorem d_M_next_110 : decode b_M_next 110 = .ok (.aload_n 0, 1) := by decide +kernel
theorem d_M_next_111 : decode b_M_next 111 = .ok (.getfield 49, 3) := by decide +kernel
theorem d_M_next_114 : decode b_M_next 114 = .ok (.iload_n 1, 1) := by decide +kernel
theorem d_M_next_115 : decode b_M_next 115 = .ok (.iload 4, 2) := by decide +kernel
theorem d_M_next_117 : decode b_M_next 117 = .ok (.iastore, 1) := by decide +kernel
theorem d_M_next_118 : decode b_M_next 118 = .ok (.aload_n 0, 1) := by decide +kernel
theorem d_M_next_119 : decode b_M_next 119 = .ok (.getfield 46, 3) := by decide +kernel
theorem d_M_next_122 : decode b_M_next 122 = .ok (.iload_n 1, 1) := by decide +kernel
theorem d_M_next_123 : decode b_M_next 123 = .ok (.iload_n 2, 1) := by decide +kernel
theorem d_M_next_124 : decode b_M_next 124 = .ok (.ifCond .eq 10, 3) := by decide +kernel
theorem d_M_next_127 : decode b_M_next 127 = .ok (.iload 4, 2) := by decide +kernel
theorem d_M_next_129 : decode b_M_next 129 = .ok (.iconst 1, 1) := by decide +kernel
theorem d_M_next_130 : decode b_M_next 130 = .ok (.iadd, 1) := by decide +kernel
theorem d_M_next_131 : decode b_M_next 131 = .ok (.goto 5, 3) := by decide +kernel
theorem d_M_next_134 : decode b_M_next 134 = .ok (.iload 4, 2) := by decide +kernel
theorem d_M_next_136 : decode b_M_next 136 = .ok (.iastore, 1) := by decide +kernel
theorem d_M_next_137 : decode b_M_next 137 = .ok (.aload_n 0, 1) := by decide +kernel
theorem d_M_next_138 : decode b_M_next 138 = .ok (.getfield 19, 3) := by decide +kernel
theorem d_M_next_141 : decode b_M_next 141 = .ok (.aload_n 0, 1) := by decide +kernel
theorem d_M_next_142 : decode b_M_next 142 = .ok (.iload_n 3, 1) := by decide +kernel
theorem d_M_next_143 : decode b_M_next 143 = .ok (.iload 4, 2) := by decide +kernel
theorem d_M_next_145 : decode b_M_next 145 = .ok (.invokevirtual 97, 3) := by decide +kernel
theorem d_M_next_148 : decode b_M_next 148 = .ok (.iaload, 1) := by decide +kernel
theorem d_M_next_149 : decode b_M_next 149 = .ok (.ireturn, 1) := by decide +kernel
theorem d_M_left_0 : decode b_M_left 0 = .ok (.aload_n 0, 1) := by decide +kernel
theorem d_M_left_1 : decode b_M_left 1 = .ok (.aload_n 0, 1) := by decide +kernel
theorem d_M_left_2 : decode b_M_left 2 = .ok (.iload_n 1, 1) := by decide +kernel
theorem d_M_left_3 : decode b_M_left 3 = .ok (.invokevirtual 151, 3) := by decide +kernel
theorem d_M_left_6 : decode b_M_left 6 = .ok (.ifCond .ne 7, 3) := by decide +kernel
theorem d_M_left_9 : decode b_M_left 9 = .ok (.iconst 1, 1) := by decide +kernel
theorem d_M_left_10 : decode b_M_left 10 = .ok (.goto 16, 3) := by decide +kernel
theorem d_M_left_13 : decode b_M_left 13 = .ok (.aload_n 0, 1) := by decide +kernel
theorem d_M_left_14 : decode b_M_left 14 = .ok (.iload_n 1, 1) := by decide +kernel
theorem d_M_left_15 : decode b_M_left 15 = .ok (.invokevirtual 154, 3) := by decide +kernel
theorem d_M_left_18 : decode b_M_left 18 = .ok (.ifCond .eq 7, 3) := by decide +kernel
theorem d_M_left_21 : decode b_M_left 21 = .ok (.iconst 2, 1) := by decide +kernel
theorem d_M_left_22 : decode b_M_left 22 = .ok (.goto 4, 3) := by decide +kernel
theorem d_M_left_25 : decode b_M_left 25 = .ok (.iconst 0, 1) := by decide +kernel
theorem d_M_left_26 : decode b_M_left 26 = .ok (.putfield 55, 3) := by decide +kernel
theorem d_M_left_29 : decode b_M_left 29 = .ok (.aload_n 0, 1) := by decide +kernel
theorem d_M_left_30 : decode b_M_left 30 = .ok (.getfield 55, 3) := by decide +kernel
theorem d_M_left_33 : decode b_M_left 33 = .ok (.ifCond .le 7, 3) := by decide +kernel
theorem d_M_left_36 : decode b_M_left 36 = .ok (.iconst 0, 1) := by decide +kernel
theorem d_M_left_37 : decode b_M_left 37 = .ok (.goto 20, 3) := by decide +kernel
theorem d_M_left_40 : decode b_M_left 40 = .ok (.aload_n 0, 1) := by decide +kernel
theorem d_M_left_41 : decode b_M_left 41 = .ok (.aload_n 0, 1) := by decide +kernel
theorem d_M_left_42 : decode b_M_left 42 = .ok (.getfield 43, 3) := by decide +kernel
theorem d_M_left_45 : decode b_M_left 45 = .ok (.iload_n 1, 1) := by decide +kernel
theorem d_M_left_46 : decode b_M_left 46 = .ok (.iaload, 1) := by decide +kernel
theorem d_M_left_47 : decode b_M_left 47 = .ok (.invokevirtual 79, 3) := by decide +kernel
theorem d_M_left_50 : decode b_M_left 50 = .ok (.aload_n 0, 1) := by decide +kernel
theorem d_M_left_51 : decode b_M_left 51 = .ok (.getfield 46, 3) := by decide +kernel
theorem d_M_left_54 : decode b_M_left 54 = .ok (.iload_n 1, 1) := by decide +kernel
theorem d_M_left_55 : decode b_M_left 55 = .ok (.iaload, 1) := by decide +kernel
theorem d_M_left_56 : decode b_M_left 56 = .ok (.isub, 1) := by decide +kernel
theorem d_M_left_57 : decode b_M_left 57 = .ok (.ireturn, 1) := by decide +kernel
theorem d_M_checkLatest_0 : decode b_M_checkLatest 0 = .ok (.aload_n 0, 1) := by decide +kernel
theorem d_M_checkLatest_1 : decode b_M_checkLatest 1 = .ok (.iload_n 1, 1) := by decide +kernel
theorem d_M_checkLatest_2 : decode b_M_checkLatest 2 = .ok (.invokevirtual 151, 3) := by decide +kernel
theorem d_M_checkLatest_5 : decode b_M_checkLatest 5 = .ok (.ifCond .ne 7, 3) := by decide +kernel
theorem d_M_checkLatest_8 : decode b_M_checkLatest 8 = .ok (.iconst 1, 1) := by decide +kernel
theorem d_M_checkLatest_9 : decode b_M_checkLatest 9 = .ok (.goto 30, 3) := by decide +kernel
theorem d_M_checkLatest_12 : decode b_M_checkLatest 12 = .ok (.aload_n 0, 1) := by decide +kernel
theorem d_M_checkLatest_13 : decode b_M_checkLatest 13 = .ok (.iload_n 1, 1) := by decide +kernel
theorem d_M_checkLatest_14 : decode b_M_checkLatest 14 = .ok (.invokevirtual 154, 3) := by decide +kernel
theorem d_M_checkLatest_17 : decode b_M_checkLatest 17 = .ok (.ifCond .eq 7, 3) := by decide +kernel
theorem d_M_checkLatest_20 : decode b_M_checkLatest 20 = .ok (.iconst 3, 1) := by decide +kernel
theorem d_M_checkLatest_21 : decode b_M_checkLatest 21 = .ok (.goto 18, 3) := by decide +kernel
theorem d_M_checkLatest_24 : decode b_M_checkLatest 24 = .ok (.aload_n 0, 1) := by decide +kernel
theorem d_M_checkLatest_25 : decode b_M_checkLatest 25 = .ok (.getfield 49, 3) := by decide +kernel
theorem d_M_checkLatest_28 : decode b_M_checkLatest 28 = .ok (.iload_n 1, 1) := by decide +kernel
theorem d_M_checkLatest_29 : decode b_M_checkLatest 29 = .ok (.iaload, 1) := by decide +kernel
theorem d_M_checkLatest_30 : decode b_M_checkLatest 30 = .ok (.iconst (-1), 1) := by decide +kernel
theorem d_M_checkLatest_31 : decode b_M_checkLatest 31 = .ok (.if_icmp .ne 7, 3) := by decide +kernel
theorem d_M_checkLatest_34 : decode b_M_checkLatest 34 = .ok (.iconst 2, 1) := by decide +kernel
theorem d_M_checkLatest_35 : decode b_M_checkLatest 35 = .ok (.goto 4, 3) := by decide +kernel
theorem d_M_checkLatest_38 : decode b_M_checkLatest 38 = .ok (.iconst 0, 1) := by decide +kernel
theorem d_M_checkLatest_39 : decode b_M_checkLatest 39 = .ok (.ireturn, 1) := by decide +kernel
theorem d_M_settle_0 : decode b_M_settle 0 = .ok (.aload_n 0, 1) := by decide +kernel
theorem d_M_settle_1 : decode b_M_settle 1 = .ok (.getfield 46, 3) := by decide +kernel
theorem d_M_settle_4 : decode b_M_settle 4 = .ok (.iload_n 1, 1) := by decide +kernel
theorem d_M_settle_5 : decode b_M_settle 5 = .ok (.iload_n 2, 1) := by decide +kernel
theorem d_M_settle_6 : decode b_M_settle 6 = .ok (.iastore, 1) := by decide +kernel
theorem d_M_settle_7 : decode b_M_settle 7 = .ok (.aload_n 0, 1) := by decide +kernel
theorem d_M_settle_8 : decode b_M_settle 8 = .ok (.getfield 49, 3) := by decide +kernel
theorem d_M_settle_11 : decode b_M_settle 11 = .ok (.iload_n 1, 1) := by decide +kernel
theorem d_M_settle_12 : decode b_M_settle 12 = .ok (.iconst (-1), 1) := by decide +kernel
theorem d_M_settle_13 : decode b_M_settle 13 = .ok (.iastore, 1) := by decide +kernel
theorem d_M_settle_14 : decode b_M_settle 14 = .ok (.aload_n 0, 1) := by decide +kernel
theorem d_M_settle_15 : decode b_M_settle 15 = .ok (.getfield 52, 3) := by decide +kernel
theorem d_M_settle_18 : decode b_M_settle 18 = .ok (.iload_n 1, 1) := by decide +kernel
theorem d_M_settle_19 : decode b_M_settle 19 = .ok (.aload_n 0, 1) := by decide +kernel
theorem d_M_settle_20 : decode b_M_settle 20 = .ok (.getfield 28, 3) := by decide +kernel
theorem d_M_settle_23 : decode b_M_settle 23 = .ok (.aload_n 0, 1) := by decide +kernel
theorem d_M_settle_24 : decode b_M_settle 24 = .ok (.getfield 16, 3) := by decide +kernel
theorem d_M_settle_27 : decode b_M_settle 27 = .ok (.aload_n 0, 1) := by decide +kernel
theorem d_M_settle_28 : decode b_M_settle 28 = .ok (.getfield 43, 3) := by decide +kernel
theorem d_M_settle_31 : decode b_M_settle 31 = .ok (.iload_n 1, 1) := by decide +kernel
theorem d_M_settle_32 : decode b_M_settle 32 = .ok (.iaload, 1) := by decide +kernel
theorem d_M_settle_33 : decode b_M_settle 33 = .ok (.iaload, 1) := by decide +kernel
theorem d_M_settle_34 : decode b_M_settle 34 = .ok (.iaload, 1) := by decide +kernel
theorem d_M_settle_35 : decode b_M_settle 35 = .ok (.iastore, 1) := by decide +kernel
theorem d_M_settle_36 : decode b_M_settle 36 = .ok (.return_, 1) := by decide +kernel
theorem d_M_erase_0 : decode b_M_erase 0 = .ok (.aload_n 0, 1) := by decide +kernel
theorem d_M_erase_1 : decode b_M_erase 1 = .ok (.aload_n 0, 1) := by decide +kernel
theorem d_M_erase_2 : decode b_M_erase 2 = .ok (.iload_n 1, 1) := by decide +kernel
theorem d_M_erase_3 : decode b_M_erase 3 = .ok (.invokevirtual 157, 3) := by decide +kernel
theorem d_M_erase_6 : decode b_M_erase 6 = .ok (.putfield 55, 3) := by decide +kernel
theorem d_M_erase_9 : decode b_M_erase 9 = .ok (.aload_n 0, 1) := by decide +kernel
theorem d_M_erase_10 : decode b_M_erase 10 = .ok (.getfield 55, 3) := by decide +kernel
theorem d_M_erase_13 : decode b_M_erase 13 = .ok (.ifCond .le 4, 3) := by decide +kernel
theorem d_M_erase_16 : decode b_M_erase 16 = .ok (.return_, 1) := by decide +kernel
theorem d_M_erase_17 : decode b_M_erase 17 = .ok (.aload_n 0, 1) := by decide +kernel
theorem d_M_erase_18 : decode b_M_erase 18 = .ok (.getfield 49, 3) := by decide +kernel
theorem d_M_erase_21 : decode b_M_erase 21 = .ok (.iload_n 1, 1) := by decide +kernel
theorem d_M_erase_22 : decode b_M_erase 22 = .ok (.iaload, 1) := by decide +kernel
theorem d_M_erase_23 : decode b_M_erase 23 = .ok (.istore_n 2, 1) := by decide +kernel
theorem d_M_erase_24 : decode b_M_erase 24 = .ok (.aload_n 0, 1) := by decide +kernel
theorem d_M_erase_25 : decode b_M_erase 25 = .ok (.aload_n 0, 1) := by decide +kernel
theorem d_M_erase_26 : decode b_M_erase 26 = .ok (.getfield 43, 3) := by decide +kernel
theorem d_M_erase_29 : decode b_M_erase 29 = .ok (.iload_n 1, 1) := by decide +kernel
theorem d_M_erase_30 : decode b_M_erase 30 = .ok (.iaload, 1) := by decide +kernel
theorem d_M_erase_31 : decode b_M_erase 31 = .ok (.aload_n 0, 1) := by decide +kernel
theorem d_M_erase_32 : decode b_M_erase 32 = .ok (.aload_n 0, 1) := by decide +kernel
theorem d_M_erase_33 : decode b_M_erase 33 = .ok (.getfield 43, 3) := by decide +kernel
theorem d_M_erase_36 : decode b_M_erase 36 = .ok (.iload_n 1, 1) := by decide +kernel
theorem d_M_erase_37 : decode b_M_erase 37 = .ok (.iaload, 1) := by decide +kernel
theorem d_M_erase_38 : decode b_M_erase 38 = .ok (.invokevirtual 83, 3) := by decide +kernel
theorem d_M_erase_41 : decode b_M_erase 41 = .ok (.iload_n 2, 1) := by decide +kernel
theorem d_M_erase_42 : decode b_M_erase 42 = .ok (.iadd, 1) := by decide +kernel
theorem d_M_erase_43 : decode b_M_erase 43 = .ok (.invokevirtual 111, 3) := by decide +kernel
theorem d_M_erase_46 : decode b_M_erase 46 = .ok (.aload_n 0, 1) := by decide +kernel
theorem d_M_erase_47 : decode b_M_erase 47 = .ok (.iload_n 1, 1) := by decide +kernel
theorem d_M_erase_48 : decode b_M_erase 48 = .ok (.iload_n 2, 1) := by decide +kernel
theorem d_M_erase_49 : decode b_M_erase 49 = .ok (.invokevirtual 160, 3) := by decide +kernel
theorem d_M_erase_52 : decode b_M_erase 52 = .ok (.return_, 1) := by decide +kernel
theorem d_M_assign_0 : decode b_M_assign 0 = .ok (.aload_n 0, 1) := by decide +kernel
theorem d_M_assign_1 : decode b_M_assign 1 = .ok (.aload_n 0, 1) := by decide +kernel
theorem d_M_assign_2 : decode b_M_assign 2 = .ok (.iload_n 1, 1) := by decide +kernel
theorem d_M_assign_3 : decode b_M_assign 3 = .ok (.invokevirtual 157, 3) := by decide +kernel
theorem d_M_assign_6 : decode b_M_assign 6 = .ok (.putfield 55, 3) := by decide +kernel
theorem d_M_assign_9 : decode b_M_assign 9 = .ok (.aload_n 0, 1) := by decide +kernel
theorem d_M_assign_10 : decode b_M_assign 10 = .ok (.getfield 55, 3) := by decide +kernel
theorem d_M_assign_13 : decode b_M_assign 13 = .ok (.ifCond .le 5, 3) := by decide +kernel
theorem d_M_assign_16 : decode b_M_assign 16 = .ok (.iconst 0, 1) := by decide +kernel
theorem d_M_assign_17 : decode b_M_assign 17 = .ok (.ireturn, 1) := by decide +kernel
theorem d_M_assign_18 : decode b_M_assign 18 = .ok (.aload_n 0, 1) := by decide +kernel
theorem d_M_assign_19 : decode b_M_assign 19 = .ok (.aload_n 0, 1) := by decide +kernel
theorem d_M_assign_20 : decode b_M_assign 20 = .ok (.getfield 43, 3) := by decide +kernel
theorem d_M_assign_23 : decode b_M_assign 23 = .ok (.iload_n 1, 1) := by decide +kernel
theorem d_M_assign_24 : decode b_M_assign 24 = .ok (.iaload, 1) := by decide +kernel
theorem d_M_assign_25 : decode b_M_assign 25 = .ok (.aload_n 0, 1) := by decide +kernel
theorem d_M_assign_26 : decode b_M_assign 26 = .ok (.getfield 49, 3) := by decide +kernel
theorem d_M_assign_29 : decode b_M_assign 29 = .ok (.iload_n 1, 1) := by decide +kernel
theorem d_M_assign_30 : decode b_M_assign 30 = .ok (.iaload, 1) := by decide +kernel
theorem d_M_assign_31 : decode b_M_assign 31 = .ok (.invokevirtual 97, 3) := by decide +kernel
theorem d_M_assign_34 : decode b_M_assign 34 = .ok (.istore_n 3, 1) := by decide +kernel
theorem d_M_assign_35 : decode b_M_assign 35 = .ok (.aload_n 0, 1) := by decide +kernel
theorem d_M_assign_36 : decode b_M_assign 36 = .ok (.aload_n 0, 1) := by decide +kernel
theorem d_M_assign_37 : decode b_M_assign 37 = .ok (.getfield 43, 3) := by decide +kernel
theorem d_M_assign_40 : decode b_M_assign 40 = .ok (.iload_n 1, 1) := by decide +kernel
theorem d_M_assign_41 : decode b_M_assign 41 = .ok (.iaload, 1) := by decide +kernel
theorem d_M_assign_42 : decode b_M_assign 42 = .ok (.invokevirtual 62, 3) := by decide +kernel
theorem d_M_assign_45 : decode b_M_assign 45 = .ok (.istore 4, 2) := by decide +kernel
theorem d_M_assign_47 : decode b_M_assign 47 = .ok (.iload 4, 2) := by decide +kernel
theorem d_M_assign_49 : decode b_M_assign 49 = .ok (.ifCond .eq 12, 3) := by decide +kernel
theorem d_M_assign_52 : decode b_M_assign 52 = .ok (.aload_n 0, 1) := by decide +kernel
theorem d_M_assign_53 : decode b_M_assign 53 = .ok (.getfield 19, 3) := by decide +kernel
theorem d_M_assign_56 : decode b_M_assign 56 = .ok (.iload_n 3, 1) := by decide +kernel
theorem d_M_assign_57 : decode b_M_assign 57 = .ok (.iaload, 1) := by decide +kernel
theorem d_M_assign_58 : decode b_M_assign 58 = .ok (.goto 9, 3) := by decide +kernel
theorem d_M_assign_61 : decode b_M_assign 61 = .ok (.aload_n 0, 1) := by decide +kernel
theorem d_M_assign_62 : decode b_M_assign 62 = .ok (.getfield 22, 3) := by decide +kernel
theorem d_M_assign_65 : decode b_M_assign 65 = .ok (.iload_n 3, 1) := by decide +kernel
theorem d_M_assign_66 : decode b_M_assign 66 = .ok (.iaload, 1) := by decide +kernel
theorem d_M_assign_67 : decode b_M_assign 67 = .ok (.istore 5, 2) := by decide +kernel
theorem d_M_assign_69 : decode b_M_assign 69 = .ok (.aload_n 0, 1) := by decide +kernel
theorem d_M_assign_70 : decode b_M_assign 70 = .ok (.getfield 19, 3) := by decide +kernel
theorem d_M_assign_73 : decode b_M_assign 73 = .ok (.iload_n 3, 1) := by decide +kernel
theorem d_M_assign_74 : decode b_M_assign 74 = .ok (.iload 4, 2) := by decide +kernel
theorem d_M_assign_76 : decode b_M_assign 76 = .ok (.ifCond .eq 7, 3) := by decide +kernel
theorem d_M_assign_79 : decode b_M_assign 79 = .ok (.iload_n 2, 1) := by decide +kernel
theorem d_M_assign_80 : decode b_M_assign 80 = .ok (.goto 9, 3) := by decide +kernel
theorem d_M_assign_83 : decode b_M_assign 83 = .ok (.aload_n 0, 1) := by decide +kernel
theorem d_M_assign_84 : decode b_M_assign 84 = .ok (.getfield 19, 3) := by decide +kernel
theorem d_M_assign_87 : decode b_M_assign 87 = .ok (.iload_n 3, 1) := by decide +kernel
theorem d_M_assign_88 : decode b_M_assign 88 = .ok (.iaload, 1) := by decide +kernel
theorem d_M_assign_89 : decode b_M_assign 89 = .ok (.iastore, 1) := by decide +kernel
theorem d_M_assign_90 : decode b_M_assign 90 = .ok (.aload_n 0, 1) := by decide +kernel
theorem d_M_assign_91 : decode b_M_assign 91 = .ok (.getfield 22, 3) := by decide +kernel
theorem d_M_assign_94 : decode b_M_assign 94 = .ok (.iload_n 3, 1) := by decide +kernel
theorem d_M_assign_95 : decode b_M_assign 95 = .ok (.iload 4, 2) := by decide +kernel
theorem d_M_assign_97 : decode b_M_assign 97 = .ok (.ifCond .eq 7, 3) := by decide +kernel
theorem d_M_assign_100 : decode b_M_assign 100 = .ok (.iconst 0, 1) := by decide +kernel
theorem d_M_assign_101 : decode b_M_assign 101 = .ok (.goto 4, 3) := by decide +kernel
theorem d_M_assign_104 : decode b_M_assign 104 = .ok (.iload_n 2, 1) := by decide +kernel
theorem d_M_assign_105 : decode b_M_assign 105 = .ok (.iastore, 1) := by decide +kernel
theorem d_M_assign_106 : decode b_M_assign 106 = .ok (.iload 5, 2) := by decide +kernel
theorem d_M_assign_108 : decode b_M_assign 108 = .ok (.ireturn, 1) := by decide +kernel
theorem d_M_plant_0 : decode b_M_plant 0 = .ok (.aload_n 0, 1) := by decide +kernel
theorem d_M_plant_1 : decode b_M_plant 1 = .ok (.aload_n 0, 1) := by decide +kernel
theorem d_M_plant_2 : decode b_M_plant 2 = .ok (.iload_n 1, 1) := by decide +kernel
theorem d_M_plant_3 : decode b_M_plant 3 = .ok (.invokevirtual 151, 3) := by decide +kernel
theorem d_M_plant_6 : decode b_M_plant 6 = .ok (.ifCond .ne 7, 3) := by decide +kernel
theorem d_M_plant_9 : decode b_M_plant 9 = .ok (.iconst 1, 1) := by decide +kernel
theorem d_M_plant_10 : decode b_M_plant 10 = .ok (.goto 58, 3) := by decide +kernel
theorem d_M_plant_13 : decode b_M_plant 13 = .ok (.aload_n 0, 1) := by decide +kernel
theorem d_M_plant_14 : decode b_M_plant 14 = .ok (.aload_n 0, 1) := by decide +kernel
theorem d_M_plant_15 : decode b_M_plant 15 = .ok (.getfield 43, 3) := by decide +kernel
theorem d_M_plant_18 : decode b_M_plant 18 = .ok (.iload_n 1, 1) := by decide +kernel
theorem d_M_plant_19 : decode b_M_plant 19 = .ok (.iaload, 1) := by decide +kernel
theorem d_M_plant_20 : decode b_M_plant 20 = .ok (.invokevirtual 62, 3) := by decide +kernel
theorem d_M_plant_23 : decode b_M_plant 23 = .ok (.ifCond .ne 7, 3) := by decide +kernel
theorem d_M_plant_26 : decode b_M_plant 26 = .ok (.iconst 2, 1) := by decide +kernel
theorem d_M_plant_27 : decode b_M_plant 27 = .ok (.goto 41, 3) := by decide +kernel
theorem d_M_plant_30 : decode b_M_plant 30 = .ok (.aload_n 0, 1) := by decide +kernel
theorem d_M_plant_31 : decode b_M_plant 31 = .ok (.iload_n 1, 1) := by decide +kernel
theorem d_M_plant_32 : decode b_M_plant 32 = .ok (.invokevirtual 154, 3) := by decide +kernel
theorem d_M_plant_35 : decode b_M_plant 35 = .ok (.ifCond .eq 7, 3) := by decide +kernel
theorem d_M_plant_38 : decode b_M_plant 38 = .ok (.iconst 4, 1) := by decide +kernel
theorem d_M_plant_39 : decode b_M_plant 39 = .ok (.goto 29, 3) := by decide +kernel
theorem d_M_plant_42 : decode b_M_plant 42 = .ok (.aload_n 0, 1) := by decide +kernel
theorem d_M_plant_43 : decode b_M_plant 43 = .ok (.getfield 25, 3) := by decide +kernel
theorem d_M_plant_46 : decode b_M_plant 46 = .ok (.aload_n 0, 1) := by decide +kernel
theorem d_M_plant_47 : decode b_M_plant 47 = .ok (.getfield 16, 3) := by decide +kernel
theorem d_M_plant_50 : decode b_M_plant 50 = .ok (.aload_n 0, 1) := by decide +kernel
theorem d_M_plant_51 : decode b_M_plant 51 = .ok (.getfield 43, 3) := by decide +kernel
theorem d_M_plant_54 : decode b_M_plant 54 = .ok (.iload_n 1, 1) := by decide +kernel
theorem d_M_plant_55 : decode b_M_plant 55 = .ok (.iaload, 1) := by decide +kernel
theorem d_M_plant_56 : decode b_M_plant 56 = .ok (.iaload, 1) := by decide +kernel
theorem d_M_plant_57 : decode b_M_plant 57 = .ok (.iaload, 1) := by decide +kernel
theorem d_M_plant_58 : decode b_M_plant 58 = .ok (.bipush 24, 2) := by decide +kernel
theorem d_M_plant_60 : decode b_M_plant 60 = .ok (.if_icmp .ne 7, 3) := by decide +kernel
theorem d_M_plant_63 : decode b_M_plant 63 = .ok (.iconst 3, 1) := by decide +kernel
theorem d_M_plant_64 : decode b_M_plant 64 = .ok (.goto 4, 3) := by decide +kernel
theorem d_M_plant_67 : decode b_M_plant 67 = .ok (.iconst 0, 1) := by decide +kernel
theorem d_M_plant_68 : decode b_M_plant 68 = .ok (.putfield 55, 3) := by decide +kernel
theorem d_M_plant_71 : decode b_M_plant 71 = .ok (.aload_n 0, 1) := by decide +kernel
theorem d_M_plant_72 : decode b_M_plant 72 = .ok (.getfield 55, 3) := by decide +kernel
theorem d_M_plant_75 : decode b_M_plant 75 = .ok (.ifCond .le 4, 3) := by decide +kernel
theorem d_M_plant_78 : decode b_M_plant 78 = .ok (.return_, 1) := by decide +kernel
theorem d_M_plant_79 : decode b_M_plant 79 = .ok (.aload_n 0, 1) := by decide +kernel
theorem d_M_plant_80 : decode b_M_plant 80 = .ok (.aload_n 0, 1) := by decide +kernel
theorem d_M_plant_81 : decode b_M_plant 81 = .ok (.getfield 43, 3) := by decide +kernel
theorem d_M_plant_84 : decode b_M_plant 84 = .ok (.iload_n 1, 1) := by decide +kernel
theorem d_M_plant_85 : decode b_M_plant 85 = .ok (.iaload, 1) := by decide +kernel
theorem d_M_plant_86 : decode b_M_plant 86 = .ok (.aload_n 0, 1) := by decide +kernel
theorem d_M_plant_87 : decode b_M_plant 87 = .ok (.getfield 46, 3) := by decide +kernel
theorem d_M_plant_90 : decode b_M_plant 90 = .ok (.iload_n 1, 1) := by decide +kernel
theorem d_M_plant_91 : decode b_M_plant 91 = .ok (.iaload, 1) := by decide +kernel
theorem d_M_plant_92 : decode b_M_plant 92 = .ok (.iload_n 2, 1) := by decide +kernel
theorem d_M_plant_93 : decode b_M_plant 93 = .ok (.invokevirtual 107, 3) := by decide +kernel
theorem d_M_plant_96 : decode b_M_plant 96 = .ok (.aload_n 0, 1) := by decide +kernel
theorem d_M_plant_97 : decode b_M_plant 97 = .ok (.iload_n 1, 1) := by decide +kernel
theorem d_M_plant_98 : decode b_M_plant 98 = .ok (.aload_n 0, 1) := by decide +kernel
theorem d_M_plant_99 : decode b_M_plant 99 = .ok (.getfield 46, 3) := by decide +kernel
theorem d_M_plant_102 : decode b_M_plant 102 = .ok (.iload_n 1, 1) := by decide +kernel
theorem d_M_plant_103 : decode b_M_plant 103 = .ok (.iaload, 1) := by decide +kernel
theorem d_M_plant_104 : decode b_M_plant 104 = .ok (.iconst 1, 1) := by decide +kernel
theorem d_M_plant_105 : decode b_M_plant 105 = .ok (.iadd, 1) := by decide +kernel
theorem d_M_plant_106 : decode b_M_plant 106 = .ok (.invokevirtual 160, 3) := by decide +kernel
theorem d_M_plant_109 : decode b_M_plant 109 = .ok (.return_, 1) := by decide +kernel
