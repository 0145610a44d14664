theorem d_S_init_0 : decode b_S_init 0 = .ok (.aload_n 0, 1) := by decide +kernel
theorem d_S_init_1 : decode b_S_init 1 = .ok (.invokespecial 3, 3) := by decide +kernel
theorem d_S_init_4 : decode b_S_init 4 = .ok (.aload_n 0, 1) := by decide +kernel
theorem d_S_init_5 : decode b_S_init 5 = .ok (.bipush 24, 2) := by decide +kernel
theorem d_S_init_7 : decode b_S_init 7 = .ok (.newarray .int, 2) := by decide +kernel
theorem d_S_init_9 : decode b_S_init 9 = .ok (.putfield 9, 3) := by decide +kernel
theorem d_S_init_12 : decode b_S_init 12 = .ok (.aload_n 0, 1) := by decide +kernel
theorem d_S_init_13 : decode b_S_init 13 = .ok (.bipush 24, 2) := by decide +kernel
theorem d_S_init_15 : decode b_S_init 15 = .ok (.newarray .int, 2) := by decide +kernel
theorem d_S_init_17 : decode b_S_init 17 = .ok (.putfield 15, 3) := by decide +kernel
theorem d_S_init_20 : decode b_S_init 20 = .ok (.aload_n 0, 1) := by decide +kernel
theorem d_S_init_21 : decode b_S_init 21 = .ok (.iconst 0, 1) := by decide +kernel
theorem d_S_init_22 : decode b_S_init 22 = .ok (.putfield 18, 3) := by decide +kernel
theorem d_S_init_25 : decode b_S_init 25 = .ok (.aload_n 0, 1) := by decide +kernel
theorem d_S_init_26 : decode b_S_init 26 = .ok (.iconst 4, 1) := by decide +kernel
theorem d_S_init_27 : decode b_S_init 27 = .ok (.putfield 22, 3) := by decide +kernel
theorem d_S_init_30 : decode b_S_init 30 = .ok (.aload_n 0, 1) := by decide +kernel
theorem d_S_init_31 : decode b_S_init 31 = .ok (.iconst 0, 1) := by decide +kernel
theorem d_S_init_32 : decode b_S_init 32 = .ok (.putfield 25, 3) := by decide +kernel
theorem d_S_init_35 : decode b_S_init 35 = .ok (.aload_n 0, 1) := by decide +kernel
theorem d_S_init_36 : decode b_S_init 36 = .ok (.iload_n 1, 1) := by decide +kernel
theorem d_S_init_37 : decode b_S_init 37 = .ok (.putfield 28, 3) := by decide +kernel
theorem d_S_init_40 : decode b_S_init 40 = .ok (.return_, 1) := by decide +kernel
theorem d_S_isFull_0 : decode b_S_isFull 0 = .ok (.aload_n 0, 1) := by decide +kernel
theorem d_S_isFull_1 : decode b_S_isFull 1 = .ok (.getfield 18, 3) := by decide +kernel
theorem d_S_isFull_4 : decode b_S_isFull 4 = .ok (.aload_n 0, 1) := by decide +kernel
theorem d_S_isFull_5 : decode b_S_isFull 5 = .ok (.getfield 9, 3) := by decide +kernel
theorem d_S_isFull_8 : decode b_S_isFull 8 = .ok (.arraylength, 1) := by decide +kernel
theorem d_S_isFull_9 : decode b_S_isFull 9 = .ok (.if_icmp .lt 7, 3) := by decide +kernel
theorem d_S_isFull_12 : decode b_S_isFull 12 = .ok (.iconst 1, 1) := by decide +kernel
theorem d_S_isFull_13 : decode b_S_isFull 13 = .ok (.goto 4, 3) := by decide +kernel
theorem d_S_isFull_16 : decode b_S_isFull 16 = .ok (.iconst 0, 1) := by decide +kernel
theorem d_S_isFull_17 : decode b_S_isFull 17 = .ok (.ireturn, 1) := by decide +kernel
theorem d_S_isHeld_0 : decode b_S_isHeld 0 = .ok (.iload_n 1, 1) := by decide +kernel
theorem d_S_isHeld_1 : decode b_S_isHeld 1 = .ok (.ifCond .lt 15, 3) := by decide +kernel
theorem d_S_isHeld_4 : decode b_S_isHeld 4 = .ok (.iload_n 1, 1) := by decide +kernel
theorem d_S_isHeld_5 : decode b_S_isHeld 5 = .ok (.aload_n 0, 1) := by decide +kernel
theorem d_S_isHeld_6 : decode b_S_isHeld 6 = .ok (.getfield 18, 3) := by decide +kernel
theorem d_S_isHeld_9 : decode b_S_isHeld 9 = .ok (.if_icmp .ge 7, 3) := by decide +kernel
theorem d_S_isHeld_12 : decode b_S_isHeld 12 = .ok (.iconst 1, 1) := by decide +kernel
theorem d_S_isHeld_13 : decode b_S_isHeld 13 = .ok (.goto 4, 3) := by decide +kernel
theorem d_S_isHeld_16 : decode b_S_isHeld 16 = .ok (.iconst 0, 1) := by decide +kernel
theorem d_S_isHeld_17 : decode b_S_isHeld 17 = .ok (.ireturn, 1) := by decide +kernel
theorem d_S_numberAt_0 : decode b_S_numberAt 0 = .ok (.aload_n 0, 1) := by decide +kernel
theorem d_S_numberAt_1 : decode b_S_numberAt 1 = .ok (.iload_n 1, 1) := by decide +kernel
theorem d_S_numberAt_2 : decode b_S_numberAt 2 = .ok (.invokevirtual 31, 3) := by decide +kernel
theorem d_S_numberAt_5 : decode b_S_numberAt 5 = .ok (.ifCond .eq 12, 3) := by decide +kernel
theorem d_S_numberAt_8 : decode b_S_numberAt 8 = .ok (.aload_n 0, 1) := by decide +kernel
theorem d_S_numberAt_9 : decode b_S_numberAt 9 = .ok (.getfield 9, 3) := by decide +kernel
theorem d_S_numberAt_12 : decode b_S_numberAt 12 = .ok (.iload_n 1, 1) := by decide +kernel
theorem d_S_numberAt_13 : decode b_S_numberAt 13 = .ok (.iaload, 1) := by decide +kernel
theorem d_S_numberAt_14 : decode b_S_numberAt 14 = .ok (.goto 4, 3) := by decide +kernel
theorem d_S_numberAt_17 : decode b_S_numberAt 17 = .ok (.iconst 0, 1) := by decide +kernel
theorem d_S_numberAt_18 : decode b_S_numberAt 18 = .ok (.ireturn, 1) := by decide +kernel
theorem d_S_valueAt_0 : decode b_S_valueAt 0 = .ok (.aload_n 0, 1) := by decide +kernel
theorem d_S_valueAt_1 : decode b_S_valueAt 1 = .ok (.iload_n 1, 1) := by decide +kernel
theorem d_S_valueAt_2 : decode b_S_valueAt 2 = .ok (.invokevirtual 31, 3) := by decide +kernel
theorem d_S_valueAt_5 : decode b_S_valueAt 5 = .ok (.ifCond .eq 12, 3) := by decide +kernel
theorem d_S_valueAt_8 : decode b_S_valueAt 8 = .ok (.aload_n 0, 1) := by decide +kernel
theorem d_S_valueAt_9 : decode b_S_valueAt 9 = .ok (.getfield 15, 3) := by decide +kernel
theorem d_S_valueAt_12 : decode b_S_valueAt 12 = .ok (.iload_n 1, 1) := by decide +kernel
theorem d_S_valueAt_13 : decode b_S_valueAt 13 = .ok (.iaload, 1) := by decide +kernel
theorem d_S_valueAt_14 : decode b_S_valueAt 14 = .ok (.goto 4, 3) := by decide +kernel
theorem d_S_valueAt_17 : decode b_S_valueAt 17 = .ok (.iconst 0, 1) := by decide +kernel
theorem d_S_valueAt_18 : decode b_S_valueAt 18 = .ok (.ireturn, 1) := by decide +kernel
theorem d_S_setNumber_0 : decode b_S_setNumber 0 = .ok (.aload_n 0, 1) := by decide +kernel
theorem d_S_setNumber_1 : decode b_S_setNumber 1 = .ok (.iload_n 1, 1) := by decide +kernel
theorem d_S_setNumber_2 : decode b_S_setNumber 2 = .ok (.invokevirtual 31, 3) := by decide +kernel
theorem d_S_setNumber_5 : decode b_S_setNumber 5 = .ok (.ifCond .eq 10, 3) := by decide +kernel
theorem d_S_setNumber_8 : decode b_S_setNumber 8 = .ok (.aload_n 0, 1) := by decide +kernel
theorem d_S_setNumber_9 : decode b_S_setNumber 9 = .ok (.getfield 9, 3) := by decide +kernel
theorem d_S_setNumber_12 : decode b_S_setNumber 12 = .ok (.iload_n 1, 1) := by decide +kernel
theorem d_S_setNumber_13 : decode b_S_setNumber 13 = .ok (.iload_n 2, 1) := by decide +kernel
theorem d_S_setNumber_14 : decode b_S_setNumber 14 = .ok (.iastore, 1) := by decide +kernel
theorem d_S_setNumber_15 : decode b_S_setNumber 15 = .ok (.return_, 1) := by decide +kernel
theorem d_S_setValue_0 : decode b_S_setValue 0 = .ok (.aload_n 0, 1) := by decide +kernel
theorem d_S_setValue_1 : decode b_S_setValue 1 = .ok (.iload_n 1, 1) := by decide +kernel
theorem d_S_setValue_2 : decode b_S_setValue 2 = .ok (.invokevirtual 31, 3) := by decide +kernel
theorem d_S_setValue_5 : decode b_S_setValue 5 = .ok (.ifCond .eq 10, 3) := by decide +kernel
theorem d_S_setValue_8 : decode b_S_setValue 8 = .ok (.aload_n 0, 1) := by decide +kernel
theorem d_S_setValue_9 : decode b_S_setValue 9 = .ok (.getfield 15, 3) := by decide +kernel
theorem d_S_setValue_12 : decode b_S_setValue 12 = .ok (.iload_n 1, 1) := by decide +kernel
theorem d_S_setValue_13 : decode b_S_setValue 13 = .ok (.iload_n 2, 1) := by decide +kernel
theorem d_S_setValue_14 : decode b_S_setValue 14 = .ok (.iastore, 1) := by decide +kernel
theorem d_S_setValue_15 : decode b_S_setValue 15 = .ok (.return_, 1) := by decide +kernel
theorem d_S_placeOf_0 : decode b_S_placeOf 0 = .ok (.iconst 0, 1) := by decide +kernel
theorem d_S_placeOf_1 : decode b_S_placeOf 1 = .ok (.istore_n 2, 1) := by decide +kernel
theorem d_S_placeOf_2 : decode b_S_placeOf 2 = .ok (.iload_n 2, 1) := by decide +kernel
theorem d_S_placeOf_3 : decode b_S_placeOf 3 = .ok (.aload_n 0, 1) := by decide +kernel
theorem d_S_placeOf_4 : decode b_S_placeOf 4 = .ok (.getfield 18, 3) := by decide +kernel
theorem d_S_placeOf_7 : decode b_S_placeOf 7 = .ok (.if_icmp .ge 21, 3) := by decide +kernel
theorem d_S_placeOf_10 : decode b_S_placeOf 10 = .ok (.aload_n 0, 1) := by decide +kernel
theorem d_S_placeOf_11 : decode b_S_placeOf 11 = .ok (.getfield 9, 3) := by decide +kernel
theorem d_S_placeOf_14 : decode b_S_placeOf 14 = .ok (.iload_n 2, 1) := by decide +kernel
theorem d_S_placeOf_15 : decode b_S_placeOf 15 = .ok (.iaload, 1) := by decide +kernel
theorem d_S_placeOf_16 : decode b_S_placeOf 16 = .ok (.iload_n 1, 1) := by decide +kernel
theorem d_S_placeOf_17 : decode b_S_placeOf 17 = .ok (.if_icmp .ne 5, 3) := by decide +kernel
theorem d_S_placeOf_20 : decode b_S_placeOf 20 = .ok (.iload_n 2, 1) := by decide +kernel
theorem d_S_placeOf_21 : decode b_S_placeOf 21 = .ok (.ireturn, 1) := by decide +kernel
theorem d_S_placeOf_22 : decode b_S_placeOf 22 = .ok (.iinc 2 1, 3) := by decide +kernel
theorem d_S_placeOf_25 : decode b_S_placeOf 25 = .ok (.goto (-23), 3) := by decide +kernel
theorem d_S_placeOf_28 : decode b_S_placeOf 28 = .ok (.iconst (-1), 1) := by decide +kernel
theorem d_S_placeOf_29 : decode b_S_placeOf 29 = .ok (.ireturn, 1) := by decide +kernel
theorem d_S_placesBefore_0 : decode b_S_placesBefore 0 = .ok (.iconst 0, 1) := by decide +kernel
theorem d_S_placesBefore_1 : decode b_S_placesBefore 1 = .ok (.istore_n 3, 1) := by decide +kernel
theorem d_S_placesBefore_2 : decode b_S_placesBefore 2 = .ok (.iconst 0, 1) := by decide +kernel
theorem d_S_placesBefore_3 : decode b_S_placesBefore 3 = .ok (.istore 4, 2) := by decide +kernel
theorem d_S_placesBefore_5 : decode b_S_placesBefore 5 = .ok (.iload 4, 2) := by decide +kernel
theorem d_S_placesBefore_7 : decode b_S_placesBefore 7 = .ok (.aload_n 0, 1) := by decide +kernel
theorem d_S_placesBefore_8 : decode b_S_placesBefore 8 = .ok (.getfield 18, 3) := by decide +kernel
theorem d_S_placesBefore_11 : decode b_S_placesBefore 11 = .ok (.if_icmp .ge 38, 3) := by decide +kernel
theorem d_S_placesBefore_14 : decode b_S_placesBefore 14 = .ok (.aload_n 0, 1) := by decide +kernel
theorem d_S_placesBefore_15 : decode b_S_placesBefore 15 = .ok (.getfield 9, 3) := by decide +kernel
theorem d_S_placesBefore_18 : decode b_S_placesBefore 18 = .ok (.iload 4, 2) := by decide +kernel
theorem d_S_placesBefore_20 : decode b_S_placesBefore 20 = .ok (.iaload, 1) := by decide +kernel
theorem d_S_placesBefore_21 : decode b_S_placesBefore 21 = .ok (.iload_n 1, 1) := by decide +kernel
theorem d_S_placesBefore_22 : decode b_S_placesBefore 22 = .ok (.if_icmp .lt 18, 3) := by decide +kernel
theorem d_S_placesBefore_25 : decode b_S_placesBefore 25 = .ok (.iload_n 2, 1) := by decide +kernel
theorem d_S_placesBefore_26 : decode b_S_placesBefore 26 = .ok (.ifCond .eq 17, 3) := by decide +kernel
theorem d_S_placesBefore_29 : decode b_S_placesBefore 29 = .ok (.aload_n 0, 1) := by decide +kernel
theorem d_S_placesBefore_30 : decode b_S_placesBefore 30 = .ok (.getfield 9, 3) := by decide +kernel
theorem d_S_placesBefore_33 : decode b_S_placesBefore 33 = .ok (.iload 4, 2) := by decide +kernel
theorem d_S_placesBefore_35 : decode b_S_placesBefore 35 = .ok (.iaload, 1) := by decide +kernel
theorem d_S_placesBefore_36 : decode b_S_placesBefore 36 = .ok (.iload_n 1, 1) := by decide +kernel
theorem d_S_placesBefore_37 : decode b_S_placesBefore 37 = .ok (.if_icmp .ne 6, 3) := by decide +kernel
theorem d_S_placesBefore_40 : decode b_S_placesBefore 40 = .ok (.iinc 3 1, 3) := by decide +kernel
theorem d_S_placesBefore_43 : decode b_S_placesBefore 43 = .ok (.iinc 4 1, 3) := by decide +kernel
theorem d_S_placesBefore_46 : decode b_S_placesBefore 46 = .ok (.goto (-41), 3) := by decide +kernel
theorem d_S_placesBefore_49 : decode b_S_placesBefore 49 = .ok (.iload_n 3, 1) := by decide +kernel
theorem d_S_placesBefore_50 : decode b_S_placesBefore 50 = .ok (.ireturn, 1) := by decide +kernel
theorem d_S_bringIn_0 : decode b_S_bringIn 0 = .ok (.aload_n 0, 1) := by decide +kernel
theorem d_S_bringIn_1 : decode b_S_bringIn 1 = .ok (.invokevirtual 35, 3) := by decide +kernel
theorem d_S_bringIn_4 : decode b_S_bringIn 4 = .ok (.ifCond .ne 15, 3) := by decide +kernel
theorem d_S_bringIn_7 : decode b_S_bringIn 7 = .ok (.iload_n 1, 1) := by decide +kernel
theorem d_S_bringIn_8 : decode b_S_bringIn 8 = .ok (.ifCond .lt 11, 3) := by decide +kernel
theorem d_S_bringIn_11 : decode b_S_bringIn 11 = .ok (.iload_n 1, 1) := by decide +kernel
theorem d_S_bringIn_12 : decode b_S_bringIn 12 = .ok (.aload_n 0, 1) := by decide +kernel
theorem d_S_bringIn_13 : decode b_S_bringIn 13 = .ok (.getfield 18, 3) := by decide +kernel
theorem d_S_bringIn_16 : decode b_S_bringIn 16 = .ok (.if_icmp .le 4, 3) := by decide +kernel
theorem d_S_bringIn_19 : decode b_S_bringIn 19 = .ok (.return_, 1) := by decide +kernel
theorem d_S_bringIn_20 : decode b_S_bringIn 20 = .ok (.aload_n 0, 1) := by decide +kernel
theorem d_S_bringIn_21 : decode b_S_bringIn 21 = .ok (.getfield 28, 3) := by decide +kernel
theorem d_S_bringIn_24 : decode b_S_bringIn 24 = .ok (.ifCond .ne 29, 3) := by decide +kernel
theorem d_S_bringIn_27 : decode b_S_bringIn 27 = .ok (.aload_n 0, 1) := by decide +kernel
theorem d_S_bringIn_28 : decode b_S_bringIn 28 = .ok (.getfield 18, 3) := by decide +kernel
theorem d_S_bringIn_31 : decode b_S_bringIn 31 = .ok (.aload_n 0, 1) := by decide +kernel
theorem d_S_bringIn_32 : decode b_S_bringIn 32 = .ok (.getfield 22, 3) := by decide +kernel
theorem d_S_bringIn_35 : decode b_S_bringIn 35 = .ok (.if_icmp .lt 18, 3) := by decide +kernel
theorem d_S_bringIn_38 : decode b_S_bringIn 38 = .ok (.aload_n 0, 1) := by decide +kernel
theorem d_S_bringIn_39 : decode b_S_bringIn 39 = .ok (.dup, 1) := by decide +kernel
theorem d_S_bringIn_40 : decode b_S_bringIn 40 = .ok (.getfield 22, 3) := by decide +kernel
theorem d_S_bringIn_43 : decode b_S_bringIn 43 = .ok (.aload_n 0, 1) := by decide +kernel
theorem d_S_bringIn_44 : decode b_S_bringIn 44 = .ok (.getfield 22, 3) := by decide +kernel
theorem d_S_bringIn_47 : decode b_S_bringIn 47 = .ok (.iconst 2, 1) := by decide +kernel
theorem d_S_bringIn_48 : decode b_S_bringIn 48 = .ok (.idiv, 1) := by decide +kernel
theorem d_S_bringIn_49 : decode b_S_bringIn 49 = .ok (.iadd, 1) := by decide +kernel
theorem d_S_bringIn_50 : decode b_S_bringIn 50 = .ok (.putfield 22, 3) := by decide +kernel
theorem d_S_bringIn_53 : decode b_S_bringIn 53 = .ok (.aload_n 0, 1) := by decide +kernel
theorem d_S_bringIn_54 : decode b_S_bringIn 54 = .ok (.getfield 18, 3) := by decide +kernel
theorem d_S_bringIn_57 : decode b_S_bringIn 57 = .ok (.istore 4, 2) := by decide +kernel
theorem d_S_bringIn_59 : decode b_S_bringIn 59 = .ok (.iload 4, 2) := by decide +kernel
theorem d_S_bringIn_61 : decode b_S_bringIn 61 = .ok (.iload_n 1, 1) := by decide +kernel
theorem d_S_bringIn_62 : decode b_S_bringIn 62 = .ok (.if_icmp .le 41, 3) := by decide +kernel
theorem d_S_bringIn_65 : decode b_S_bringIn 65 = .ok (.aload_n 0, 1) := by decide +kernel
theorem d_S_bringIn_66 : decode b_S_bringIn 66 = .ok (.getfield 9, 3) := by decide +kernel
theorem d_S_bringIn_69 : decode b_S_bringIn 69 = .ok (.iload 4, 2) := by decide +kernel
theorem d_S_bringIn_71 : decode b_S_bringIn 71 = .ok (.aload_n 0, 1) := by decide +kernel
theorem d_S_bringIn_72 : decode b_S_bringIn 72 = .ok (.getfield 9, 3) := by decide +kernel
theorem d_S_bringIn_75 : decode b_S_bringIn 75 = .ok (.iload 4, 2) := by decide +kernel
theorem d_S_bringIn_77 : decode b_S_bringIn 77 = .ok (.iconst 1, 1) := by decide +kernel
theorem d_S_bringIn_78 : decode b_S_bringIn 78 = .ok (.isub, 1) := by decide +kernel
theorem d_S_bringIn_79 : decode b_S_bringIn 79 = .ok (.iaload, 1) := by decide +kernel
theorem d_S_bringIn_80 : decode b_S_bringIn 80 = .ok (.iastore, 1) := by decide +kernel
theorem d_S_bringIn_81 : decode b_S_bringIn 81 = .ok (.aload_n 0, 1) := by decide +kernel
theorem d_S_bringIn_82 : decode b_S_bringIn 82 = .ok (.getfield 15, 3) := by decide +kernel
theorem d_S_bringIn_85 : decode b_S_bringIn 85 = .ok (.iload 4, 2) := by decide +kernel
theorem d_S_bringIn_87 : decode b_S_bringIn 87 = .ok (.aload_n 0, 1) := by decide +kernel
theorem d_S_bringIn_88 : decode b_S_bringIn 88 = .ok (.getfield 15, 3) := by decide +kernel
theorem d_S_bringIn_91 : decode b_S_bringIn 91 = .ok (.iload 4, 2) := by decide +kernel
theorem d_S_bringIn_93 : decode b_S_bringIn 93 = .ok (.iconst 1, 1) := by decide +kernel
theorem d_S_bringIn_94 : decode b_S_bringIn 94 = .ok (.isub, 1) := by decide +kernel
theorem d_S_bringIn_95 : decode b_S_bringIn 95 = .ok (.iaload, 1) := by decide +kernel
theorem d_S_bringIn_96 : decode b_S_bringIn 96 = .ok (.iastore, 1) := by decide +kernel
theorem d_S_bringIn_97 : decode b_S_bringIn 97 = .ok (.iinc 4 (-1), 3) := by decide +kernel
theorem d_S_bringIn_100 : decode b_S_bringIn 100 = .ok (.goto (-41), 3) := by decide +kernel
theorem d_S_bringIn_103 : decode b_S_bringIn 103 = .ok (.aload_n 0, 1) := by decide +kernel
theorem d_S_bringIn_104 : decode b_S_bringIn 104 = .ok (.getfield 9, 3) := by decide +kernel
theorem d_S_bringIn_107 : decode b_S_bringIn 107 = .ok (.iload_n 1, 1) := by decide +kernel
theorem d_S_bringIn_108 : decode b_S_bringIn 108 = .ok (.iload_n 2, 1) := by decide +kernel
theorem d_S_bringIn_109 : decode b_S_bringIn 109 = .ok (.iastore, 1) := by decide +kernel
theorem d_S_bringIn_110 : decode b_S_bringIn 110 = .ok (.aload_n 0, 1) := by decide +kernel
theorem d_S_bringIn_111 : decode b_S_bringIn 111 = .ok (.getfield 15, 3) := by decide +kernel
theorem d_S_bringIn_114 : decode b_S_bringIn 114 = .ok (.iload_n 1, 1) := by decide +kernel
theorem d_S_bringIn_115 : decode b_S_bringIn 115 = .ok (.iload_n 3, 1) := by decide +kernel
theorem d_S_bringIn_116 : decode b_S_bringIn 116 = .ok (.iastore, 1) := by decide +kernel
theorem d_S_bringIn_117 : decode b_S_bringIn 117 = .ok (.aload_n 0, 1) := by decide +kernel
theorem d_S_bringIn_118 : decode b_S_bringIn 118 = .ok (.dup, 1) := by decide +kernel
theorem d_S_bringIn_119 : decode b_S_bringIn 119 = .ok (.getfield 18, 3) := by decide +kernel
theorem d_S_bringIn_122 : decode b_S_bringIn 122 = .ok (.iconst 1, 1) := by decide +kernel
theorem d_S_bringIn_123 : decode b_S_bringIn 123 = .ok (.iadd, 1) := by decide +kernel
theorem d_S_bringIn_124 : decode b_S_bringIn 124 = .ok (.putfield 18, 3) := by decide +kernel
theorem d_S_bringIn_127 : decode b_S_bringIn 127 = .ok (.aload_n 0, 1) := by decide +kernel
theorem d_S_bringIn_128 : decode b_S_bringIn 128 = .ok (.dup, 1) := by decide +kernel
theorem d_S_bringIn_129 : decode b_S_bringIn 129 = .ok (.getfield 25, 3) := by decide +kernel
theorem d_S_bringIn_132 : decode b_S_bringIn 132 = .ok (.iconst 1, 1) := by decide +kernel
theorem d_S_bringIn_133 : decode b_S_bringIn 133 = .ok (.iadd, 1) := by decide +kernel
theorem d_S_bringIn_134 : decode b_S_bringIn 134 = .ok (.putfield 25, 3) := by decide +kernel
theorem d_S_bringIn_137 : decode b_S_bringIn 137 = .ok (.return_, 1) := by decide +kernel
theorem d_S_takeOut_0 : decode b_S_takeOut 0 = .ok (.aload_n 0, 1) := by decide +kernel
theorem d_S_takeOut_1 : decode b_S_takeOut 1 = .ok (.iload_n 1, 1) := by decide +kernel
theorem d_S_takeOut_2 : decode b_S_takeOut 2 = .ok (.invokevirtual 31, 3) := by decide +kernel
theorem d_S_takeOut_5 : decode b_S_takeOut 5 = .ok (.ifCond .eq 28, 3) := by decide +kernel
theorem d_S_takeOut_8 : decode b_S_takeOut 8 = .ok (.aload_n 0, 1) := by decide +kernel
theorem d_S_takeOut_9 : decode b_S_takeOut 9 = .ok (.iload_n 1, 1) := by decide +kernel
theorem d_S_takeOut_10 : decode b_S_takeOut 10 = .ok (.invokevirtual 39, 3) := by decide +kernel
theorem d_S_takeOut_13 : decode b_S_takeOut 13 = .ok (.aload_n 0, 1) := by decide +kernel
theorem d_S_takeOut_14 : decode b_S_takeOut 14 = .ok (.dup, 1) := by decide +kernel
theorem d_S_takeOut_15 : decode b_S_takeOut 15 = .ok (.getfield 18, 3) := by decide +kernel
theorem d_S_takeOut_18 : decode b_S_takeOut 18 = .ok (.iconst 1, 1) := by decide +kernel
theorem d_S_takeOut_19 : decode b_S_takeOut 19 = .ok (.isub, 1) := by decide +kernel
theorem d_S_takeOut_20 : decode b_S_takeOut 20 = .ok (.putfield 18, 3) := by decide +kernel
theorem d_S_takeOut_23 : decode b_S_takeOut 23 = .ok (.aload_n 0, 1) := by decide +kernel
theorem d_S_takeOut_24 : decode b_S_takeOut 24 = .ok (.dup, 1) := by decide +kernel
theorem d_S_takeOut_25 : decode b_S_takeOut 25 = .ok (.getfield 25, 3) := by decide +kernel
theorem d_S_takeOut_28 : decode b_S_takeOut 28 = .ok (.iconst 1, 1) := by decide +kernel
theorem d_S_takeOut_29 : decode b_S_takeOut 29 = .ok (.iadd, 1) := by decide +kernel
theorem d_S_takeOut_30 : decode b_S_takeOut 30 = .ok (.putfield 25, 3) := by decide +kernel
theorem d_S_takeOut_33 : decode b_S_takeOut 33 = .ok (.return_, 1) := by decide +kernel
theorem d_S_closeGap_0 : decode b_S_closeGap 0 = .ok (.iload_n 1, 1) := by decide +kernel
theorem d_S_closeGap_1 : decode b_S_closeGap 1 = .ok (.istore_n 2, 1) := by decide +kernel
theorem d_S_closeGap_2 : decode b_S_closeGap 2 = .ok (.iload_n 2, 1) := by decide +kernel
theorem d_S_closeGap_3 : decode b_S_closeGap 3 = .ok (.aload_n 0, 1) := by decide +kernel
theorem d_S_closeGap_4 : decode b_S_closeGap 4 = .ok (.getfield 18, 3) := by decide +kernel
theorem d_S_closeGap_7 : decode b_S_closeGap 7 = .ok (.iconst 1, 1) := by decide +kernel
theorem d_S_closeGap_8 : decode b_S_closeGap 8 = .ok (.isub, 1) := by decide +kernel
theorem d_S_closeGap_9 : decode b_S_closeGap 9 = .ok (.if_icmp .ge 37, 3) := by decide +kernel
theorem d_S_closeGap_12 : decode b_S_closeGap 12 = .ok (.aload_n 0, 1) := by decide +kernel
theorem d_S_closeGap_13 : decode b_S_closeGap 13 = .ok (.getfield 9, 3) := by decide +kernel
theorem d_S_closeGap_16 : decode b_S_closeGap 16 = .ok (.iload_n 2, 1) := by decide +kernel
theorem d_S_closeGap_17 : decode b_S_closeGap 17 = .ok (.aload_n 0, 1) := by decide +kernel
theorem d_S_closeGap_18 : decode b_S_closeGap 18 = .ok (.getfield 9, 3) := by decide +kernel
theorem d_S_closeGap_21 : decode b_S_closeGap 21 = .ok (.iload_n 2, 1) := by decide +kernel
theorem d_S_closeGap_22 : decode b_S_closeGap 22 = .ok (.iconst 1, 1) := by decide +kernel
theorem d_S_closeGap_23 : decode b_S_closeGap 23 = .ok (.iadd, 1) := by decide +kernel
theorem d_S_closeGap_24 : decode b_S_closeGap 24 = .ok (.iaload, 1) := by decide +kernel
theorem d_S_closeGap_25 : decode b_S_closeGap 25 = .ok (.iastore, 1) := by decide +kernel
theorem d_S_closeGap_26 : decode b_S_closeGap 26 = .ok (.aload_n 0, 1) := by decide +kernel
theorem d_S_closeGap_27 : decode b_S_closeGap 27 = .ok (.getfield 15, 3) := by decide +kernel
theorem d_S_closeGap_30 : decode b_S_closeGap 30 = .ok (.iload_n 2, 1) := by decide +kernel
theorem d_S_closeGap_31 : decode b_S_closeGap 31 = .ok (.aload_n 0, 1) := by decide +kernel
theorem d_S_closeGap_32 : decode b_S_closeGap 32 = .ok (.getfield 15, 3) := by decide +kernel
theorem d_S_closeGap_35 : decode b_S_closeGap 35 = .ok (.iload_n 2, 1) := by decide +kernel
theorem d_S_closeGap_36 : decode b_S_closeGap 36 = .ok (.iconst 1, 1) := by decide +kernel
theorem d_S_closeGap_37 : decode b_S_closeGap 37 = .ok (.iadd, 1) := by decide +kernel
theorem d_S_closeGap_38 : decode b_S_closeGap 38 = .ok (.iaload, 1) := by decide +kernel
theorem d_S_closeGap_39 : decode b_S_closeGap 39 = .ok (.iastore, 1) := by decide +kernel
theorem d_S_closeGap_40 : decode b_S_closeGap 40 = .ok (.iinc 2 1, 3) := by decide +kernel
theorem d_S_closeGap_43 : decode b_S_closeGap 43 = .ok (.goto (-41), 3) := by decide +kernel
theorem d_S_closeGap_46 : decode b_S_closeGap 46 = .ok (.return_, 1) := by decide +kernel
theorem d_S_putKey_0 : decode b_S_putKey 0 = .ok (.aload_n 0, 1) := by decide +kernel
theorem d_S_putKey_1 : decode b_S_putKey 1 = .ok (.iload_n 1, 1) := by decide +kernel
theorem d_S_putKey_2 : decode b_S_putKey 2 = .ok (.invokevirtual 43, 3) := by decide +kernel
theorem d_S_putKey_5 : decode b_S_putKey 5 = .ok (.istore_n 3, 1) := by decide +kernel
theorem d_S_putKey_6 : decode b_S_putKey 6 = .ok (.iload_n 3, 1) := by decide +kernel
theorem d_S_putKey_7 : decode b_S_putKey 7 = .ok (.iconst (-1), 1) := by decide +kernel
theorem d_S_putKey_8 : decode b_S_putKey 8 = .ok (.if_icmp .ne 12, 3) := by decide +kernel
theorem d_S_putKey_11 : decode b_S_putKey 11 = .ok (.aload_n 0, 1) := by decide +kernel
theorem d_S_putKey_12 : decode b_S_putKey 12 = .ok (.iload_n 1, 1) := by decide +kernel
theorem d_S_putKey_13 : decode b_S_putKey 13 = .ok (.iload_n 2, 1) := by decide +kernel
theorem d_S_putKey_14 : decode b_S_putKey 14 = .ok (.invokevirtual 47, 3) := by decide +kernel
theorem d_S_putKey_17 : decode b_S_putKey 17 = .ok (.goto 14, 3) := by decide +kernel
theorem d_S_putKey_20 : decode b_S_putKey 20 = .ok (.aload_n 0, 1) := by decide +kernel
theorem d_S_putKey_21 : decode b_S_putKey 21 = .ok (.iload_n 3, 1) := by decide +kernel
theorem d_S_putKey_22 : decode b_S_putKey 22 = .ok (.iload_n 2, 1) := by decide +kernel
theorem d_S_putKey_23 : decode b_S_putKey 23 = .ok (.invokevirtual 51, 3) := by decide +kernel
theorem d_S_putKey_26 : decode b_S_putKey 26 = .ok (.aload_n 0, 1) := by decide +kernel
theorem d_S_putKey_27 : decode b_S_putKey 27 = .ok (.iload_n 1, 1) := by decide +kernel
theorem d_S_putKey_28 : decode b_S_putKey 28 = .ok (.invokevirtual 54, 3) := by decide +kernel
theorem d_S_putKey_31 : decode b_S_putKey 31 = .ok (.return_, 1) := by decide +kernel
theorem d_S_bringKeyIn_0 : decode b_S_bringKeyIn 0 = .ok (.aload_n 0, 1) := by decide +kernel
theorem d_S_bringKeyIn_1 : decode b_S_bringKeyIn 1 = .ok (.aload_n 0, 1) := by decide +kernel
theorem d_S_bringKeyIn_2 : decode b_S_bringKeyIn 2 = .ok (.getfield 28, 3) := by decide +kernel
theorem d_S_bringKeyIn_5 : decode b_S_bringKeyIn 5 = .ok (.iconst 4, 1) := by decide +kernel
theorem d_S_bringKeyIn_6 : decode b_S_bringKeyIn 6 = .ok (.if_icmp .ne 12, 3) := by decide +kernel
theorem d_S_bringKeyIn_9 : decode b_S_bringKeyIn 9 = .ok (.aload_n 0, 1) := by decide +kernel
theorem d_S_bringKeyIn_10 : decode b_S_bringKeyIn 10 = .ok (.iload_n 1, 1) := by decide +kernel
theorem d_S_bringKeyIn_11 : decode b_S_bringKeyIn 11 = .ok (.iconst 0, 1) := by decide +kernel
theorem d_S_bringKeyIn_12 : decode b_S_bringKeyIn 12 = .ok (.invokevirtual 57, 3) := by decide +kernel
theorem d_S_bringKeyIn_15 : decode b_S_bringKeyIn 15 = .ok (.goto 7, 3) := by decide +kernel
theorem d_S_bringKeyIn_18 : decode b_S_bringKeyIn 18 = .ok (.aload_n 0, 1) := by decide +kernel
theorem d_S_bringKeyIn_19 : decode b_S_bringKeyIn 19 = .ok (.getfield 18, 3) := by decide +kernel
theorem d_S_bringKeyIn_22 : decode b_S_bringKeyIn 22 = .ok (.iload_n 1, 1) := by decide +kernel
theorem d_S_bringKeyIn_23 : decode b_S_bringKeyIn 23 = .ok (.iload_n 2, 1) := by decide +kernel
theorem d_S_bringKeyIn_24 : decode b_S_bringKeyIn 24 = .ok (.invokevirtual 61, 3) := by decide +kernel
theorem d_S_bringKeyIn_27 : decode b_S_bringKeyIn 27 = .ok (.aload_n 0, 1) := by decide +kernel
theorem d_S_bringKeyIn_28 : decode b_S_bringKeyIn 28 = .ok (.getfield 28, 3) := by decide +kernel
theorem d_S_bringKeyIn_31 : decode b_S_bringKeyIn 31 = .ok (.iconst 2, 1) := by decide +kernel
theorem d_S_bringKeyIn_32 : decode b_S_bringKeyIn 32 = .ok (.if_icmp .eq 11, 3) := by decide +kernel
theorem d_S_bringKeyIn_35 : decode b_S_bringKeyIn 35 = .ok (.aload_n 0, 1) := by decide +kernel
theorem d_S_bringKeyIn_36 : decode b_S_bringKeyIn 36 = .ok (.getfield 28, 3) := by decide +kernel
theorem d_S_bringKeyIn_39 : decode b_S_bringKeyIn 39 = .ok (.iconst 3, 1) := by decide +kernel
theorem d_S_bringKeyIn_40 : decode b_S_bringKeyIn 40 = .ok (.if_icmp .ne 28, 3) := by decide +kernel
theorem d_S_bringKeyIn_43 : decode b_S_bringKeyIn 43 = .ok (.aload_n 0, 1) := by decide +kernel
theorem d_S_bringKeyIn_44 : decode b_S_bringKeyIn 44 = .ok (.getfield 18, 3) := by decide +kernel
theorem d_S_bringKeyIn_47 : decode b_S_bringKeyIn 47 = .ok (.iconst 4, 1) := by decide +kernel
theorem d_S_bringKeyIn_48 : decode b_S_bringKeyIn 48 = .ok (.imul, 1) := by decide +kernel
theorem d_S_bringKeyIn_49 : decode b_S_bringKeyIn 49 = .ok (.aload_n 0, 1) := by decide +kernel
theorem d_S_bringKeyIn_50 : decode b_S_bringKeyIn 50 = .ok (.getfield 22, 3) := by decide +kernel
theorem d_S_bringKeyIn_53 : decode b_S_bringKeyIn 53 = .ok (.iconst 3, 1) := by decide +kernel
theorem d_S_bringKeyIn_54 : decode b_S_bringKeyIn 54 = .ok (.imul, 1) := by decide +kernel
theorem d_S_bringKeyIn_55 : decode b_S_bringKeyIn 55 = .ok (.if_icmp .le 13, 3) := by decide +kernel
theorem d_S_bringKeyIn_58 : decode b_S_bringKeyIn 58 = .ok (.aload_n 0, 1) := by decide +kernel
theorem d_S_bringKeyIn_59 : decode b_S_bringKeyIn 59 = .ok (.dup, 1) := by decide +kernel
theorem d_S_bringKeyIn_60 : decode b_S_bringKeyIn 60 = .ok (.getfield 22, 3) := by decide +kernel
theorem d_S_bringKeyIn_63 : decode b_S_bringKeyIn 63 = .ok (.iconst 2, 1) := by decide +kernel
theorem d_S_bringKeyIn_64 : decode b_S_bringKeyIn 64 = .ok (.imul, 1) := by decide +kernel
theorem d_S_bringKeyIn_65 : decode b_S_bringKeyIn 65 = .ok (.putfield 22, 3) := by decide +kernel
theorem d_S_bringKeyIn_68 : decode b_S_bringKeyIn 68 = .ok (.aload_n 0, 1) := by decide +kernel
theorem d_S_bringKeyIn_69 : decode b_S_bringKeyIn 69 = .ok (.getfield 28, 3) := by decide +kernel
theorem d_S_bringKeyIn_72 : decode b_S_bringKeyIn 72 = .ok (.iconst 3, 1) := by decide +kernel
theorem d_S_bringKeyIn_73 : decode b_S_bringKeyIn 73 = .ok (.if_icmp .ne 17, 3) := by decide +kernel
theorem d_S_bringKeyIn_76 : decode b_S_bringKeyIn 76 = .ok (.aload_n 0, 1) := by decide +kernel
theorem d_S_bringKeyIn_77 : decode b_S_bringKeyIn 77 = .ok (.getfield 18, 3) := by decide +kernel
theorem d_S_bringKeyIn_80 : decode b_S_bringKeyIn 80 = .ok (.bipush 7, 2) := by decide +kernel
theorem d_S_bringKeyIn_82 : decode b_S_bringKeyIn 82 = .ok (.if_icmp .lt 8, 3) := by decide +kernel
theorem d_S_bringKeyIn_85 : decode b_S_bringKeyIn 85 = .ok (.aload_n 0, 1) := by decide +kernel
theorem d_S_bringKeyIn_86 : decode b_S_bringKeyIn 86 = .ok (.iconst 0, 1) := by decide +kernel
theorem d_S_bringKeyIn_87 : decode b_S_bringKeyIn 87 = .ok (.invokevirtual 65, 3) := by decide +kernel
theorem d_S_bringKeyIn_90 : decode b_S_bringKeyIn 90 = .ok (.return_, 1) := by decide +kernel
theorem d_S_noteUse_0 : decode b_S_noteUse 0 = .ok (.aload_n 0, 1) := by decide +kernel
theorem d_S_noteUse_1 : decode b_S_noteUse 1 = .ok (.iload_n 1, 1) := by decide +kernel
theorem d_S_noteUse_2 : decode b_S_noteUse 2 = .ok (.invokevirtual 43, 3) := by decide +kernel
theorem d_S_noteUse_5 : decode b_S_noteUse 5 = .ok (.istore_n 2, 1) := by decide +kernel
theorem d_S_noteUse_6 : decode b_S_noteUse 6 = .ok (.aload_n 0, 1) := by decide +kernel
theorem d_S_noteUse_7 : decode b_S_noteUse 7 = .ok (.getfield 28, 3) := by decide +kernel
theorem d_S_noteUse_10 : decode b_S_noteUse 10 = .ok (.iconst 3, 1) := by decide +kernel
theorem d_S_noteUse_11 : decode b_S_noteUse 11 = .ok (.if_icmp .ne 18, 3) := by decide +kernel
theorem d_S_noteUse_14 : decode b_S_noteUse 14 = .ok (.iload_n 2, 1) := by decide +kernel
theorem d_S_noteUse_15 : decode b_S_noteUse 15 = .ok (.iconst (-1), 1) := by decide +kernel
theorem d_S_noteUse_16 : decode b_S_noteUse 16 = .ok (.if_icmp .eq 13, 3) := by decide +kernel
theorem d_S_noteUse_19 : decode b_S_noteUse 19 = .ok (.iload_n 2, 1) := by decide +kernel
theorem d_S_noteUse_20 : decode b_S_noteUse 20 = .ok (.aload_n 0, 1) := by decide +kernel
theorem d_S_noteUse_21 : decode b_S_noteUse 21 = .ok (.getfield 18, 3) := by decide +kernel
theorem d_S_noteUse_24 : decode b_S_noteUse 24 = .ok (.iconst 1, 1) := by decide +kernel
theorem d_S_noteUse_25 : decode b_S_noteUse 25 = .ok (.isub, 1) := by decide +kernel
theorem d_S_noteUse_26 : decode b_S_noteUse 26 = .ok (.if_icmp .ne 4, 3) := by decide +kernel
theorem d_S_noteUse_29 : decode b_S_noteUse 29 = .ok (.return_, 1) := by decide +kernel
theorem d_S_noteUse_30 : decode b_S_noteUse 30 = .ok (.aload_n 0, 1) := by decide +kernel
theorem d_S_noteUse_31 : decode b_S_noteUse 31 = .ok (.getfield 15, 3) := by decide +kernel
theorem d_S_noteUse_34 : decode b_S_noteUse 34 = .ok (.iload_n 2, 1) := by decide +kernel
theorem d_S_noteUse_35 : decode b_S_noteUse 35 = .ok (.iaload, 1) := by decide +kernel
theorem d_S_noteUse_36 : decode b_S_noteUse 36 = .ok (.istore_n 3, 1) := by decide +kernel
theorem d_S_noteUse_37 : decode b_S_noteUse 37 = .ok (.aload_n 0, 1) := by decide +kernel
theorem d_S_noteUse_38 : decode b_S_noteUse 38 = .ok (.iload_n 2, 1) := by decide +kernel
theorem d_S_noteUse_39 : decode b_S_noteUse 39 = .ok (.invokevirtual 39, 3) := by decide +kernel
theorem d_S_noteUse_42 : decode b_S_noteUse 42 = .ok (.aload_n 0, 1) := by decide +kernel
theorem d_S_noteUse_43 : decode b_S_noteUse 43 = .ok (.getfield 9, 3) := by decide +kernel
theorem d_S_noteUse_46 : decode b_S_noteUse 46 = .ok (.aload_n 0, 1) := by decide +kernel
theorem d_S_noteUse_47 : decode b_S_noteUse 47 = .ok (.getfield 18, 3) := by decide +kernel
theorem d_S_noteUse_50 : decode b_S_noteUse 50 = .ok (.iconst 1, 1) := by decide +kernel
theorem d_S_noteUse_51 : decode b_S_noteUse 51 = .ok (.isub, 1) := by decide +kernel
theorem d_S_noteUse_52 : decode b_S_noteUse 52 = .ok (.iload_n 1, 1) := by decide +kernel
theorem d_S_noteUse_53 : decode b_S_noteUse 53 = .ok (.iastore, 1) := by decide +kernel
theorem d_S_noteUse_54 : decode b_S_noteUse 54 = .ok (.aload_n 0, 1) := by decide +kernel
theorem d_S_noteUse_55 : decode b_S_noteUse 55 = .ok (.getfield 15, 3) := by decide +kernel
theorem d_S_noteUse_58 : decode b_S_noteUse 58 = .ok (.aload_n 0, 1) := by decide +kernel
theorem d_S_noteUse_59 : decode b_S_noteUse 59 = .ok (.getfield 18, 3) := by decide +kernel
theorem d_S_noteUse_62 : decode b_S_noteUse 62 = .ok (.iconst 1, 1) := by decide +kernel
theorem d_S_noteUse_63 : decode b_S_noteUse 63 = .ok (.isub, 1) := by decide +kernel
theorem d_S_noteUse_64 : decode b_S_noteUse 64 = .ok (.iload_n 3, 1) := by decide +kernel
theorem d_S_noteUse_65 : decode b_S_noteUse 65 = .ok (.iastore, 1) := by decide +kernel
theorem d_S_noteUse_66 : decode b_S_noteUse 66 = .ok (.aload_n 0, 1) := by decide +kernel
theorem d_S_noteUse_67 : decode b_S_noteUse 67 = .ok (.dup, 1) := by decide +kernel
theorem d_S_noteUse_68 : decode b_S_noteUse 68 = .ok (.getfield 25, 3) := by decide +kernel
theorem d_S_noteUse_71 : decode b_S_noteUse 71 = .ok (.iconst 1, 1) := by decide +kernel
theorem d_S_noteUse_72 : decode b_S_noteUse 72 = .ok (.iadd, 1) := by decide +kernel
theorem d_S_noteUse_73 : decode b_S_noteUse 73 = .ok (.putfield 25, 3) := by decide +kernel
theorem d_S_noteUse_76 : decode b_S_noteUse 76 = .ok (.return_, 1) := by decide +kernel
theorem d_S_countInBucketOf_0 : decode b_S_countInBucketOf 0 = .ok (.iconst 0, 1) := by decide +kernel
theorem d_S_countInBucketOf_1 : decode b_S_countInBucketOf 1 = .ok (.istore_n 2, 1) := by decide +kernel
theorem d_S_countInBucketOf_2 : decode b_S_countInBucketOf 2 = .ok (.iconst 0, 1) := by decide +kernel
theorem d_S_countInBucketOf_3 : decode b_S_countInBucketOf 3 = .ok (.istore_n 3, 1) := by decide +kernel
theorem d_S_countInBucketOf_4 : decode b_S_countInBucketOf 4 = .ok (.iload_n 3, 1) := by decide +kernel
theorem d_S_countInBucketOf_5 : decode b_S_countInBucketOf 5 = .ok (.aload_n 0, 1) := by decide +kernel
theorem d_S_countInBucketOf_6 : decode b_S_countInBucketOf 6 = .ok (.getfield 18, 3) := by decide +kernel
theorem d_S_countInBucketOf_9 : decode b_S_countInBucketOf 9 = .ok (.if_icmp .ge 30, 3) := by decide +kernel
theorem d_S_countInBucketOf_12 : decode b_S_countInBucketOf 12 = .ok (.aload_n 0, 1) := by decide +kernel
theorem d_S_countInBucketOf_13 : decode b_S_countInBucketOf 13 = .ok (.aload_n 0, 1) := by decide +kernel
theorem d_S_countInBucketOf_14 : decode b_S_countInBucketOf 14 = .ok (.getfield 9, 3) := by decide +kernel
theorem d_S_countInBucketOf_17 : decode b_S_countInBucketOf 17 = .ok (.iload_n 3, 1) := by decide +kernel
theorem d_S_countInBucketOf_18 : decode b_S_countInBucketOf 18 = .ok (.iaload, 1) := by decide +kernel
theorem d_S_countInBucketOf_19 : decode b_S_countInBucketOf 19 = .ok (.invokevirtual 68, 3) := by decide +kernel
theorem d_S_countInBucketOf_22 : decode b_S_countInBucketOf 22 = .ok (.aload_n 0, 1) := by decide +kernel
theorem d_S_countInBucketOf_23 : decode b_S_countInBucketOf 23 = .ok (.iload_n 1, 1) := by decide +kernel
theorem d_S_countInBucketOf_24 : decode b_S_countInBucketOf 24 = .ok (.invokevirtual 68, 3) := by decide +kernel
theorem d_S_countInBucketOf_27 : decode b_S_countInBucketOf 27 = .ok (.if_icmp .ne 6, 3) := by decide +kernel
theorem d_S_countInBucketOf_30 : decode b_S_countInBucketOf 30 = .ok (.iinc 2 1, 3) := by decide +kernel
theorem d_S_countInBucketOf_33 : decode b_S_countInBucketOf 33 = .ok (.iinc 3 1, 3) := by decide +kernel
theorem d_S_countInBucketOf_36 : decode b_S_countInBucketOf 36 = .ok (.goto (-32), 3) := by decide +kernel
theorem d_S_countInBucketOf_39 : decode b_S_countInBucketOf 39 = .ok (.iload_n 2, 1) := by decide +kernel
theorem d_S_countInBucketOf_40 : decode b_S_countInBucketOf 40 = .ok (.ireturn, 1) := by decide +kernel
theorem d_S_bucketOf_0 : decode b_S_bucketOf 0 = .ok (.iload_n 1, 1) := by decide +kernel
theorem d_S_bucketOf_1 : decode b_S_bucketOf 1 = .ok (.iload_n 1, 1) := by decide +kernel
theorem d_S_bucketOf_2 : decode b_S_bucketOf 2 = .ok (.bipush 16, 2) := by decide +kernel
theorem d_S_bucketOf_4 : decode b_S_bucketOf 4 = .ok (.iushr, 1) := by decide +kernel
theorem d_S_bucketOf_5 : decode b_S_bucketOf 5 = .ok (.ixor, 1) := by decide +kernel
theorem d_S_bucketOf_6 : decode b_S_bucketOf 6 = .ok (.aload_n 0, 1) := by decide +kernel
theorem d_S_bucketOf_7 : decode b_S_bucketOf 7 = .ok (.getfield 22, 3) := by decide +kernel
theorem d_S_bucketOf_10 : decode b_S_bucketOf 10 = .ok (.iconst 1, 1) := by decide +kernel
theorem d_S_bucketOf_11 : decode b_S_bucketOf 11 = .ok (.isub, 1) := by decide +kernel
theorem d_S_bucketOf_12 : decode b_S_bucketOf 12 = .ok (.iand, 1) := by decide +kernel
theorem d_S_bucketOf_13 : decode b_S_bucketOf 13 = .ok (.ireturn, 1) := by decide +kernel
theorem d_S_arrange_0 : decode b_S_arrange 0 = .ok (.iload_n 1, 1) := by decide +kernel
theorem d_S_arrange_1 : decode b_S_arrange 1 = .ok (.iconst 1, 1) := by decide +kernel
theorem d_S_arrange_2 : decode b_S_arrange 2 = .ok (.iadd, 1) := by decide +kernel
theorem d_S_arrange_3 : decode b_S_arrange 3 = .ok (.istore 4, 2) := by decide +kernel
theorem d_S_arrange_5 : decode b_S_arrange 5 = .ok (.iload 4, 2) := by decide +kernel
theorem d_S_arrange_7 : decode b_S_arrange 7 = .ok (.iload_n 2, 1) := by decide +kernel
theorem d_S_arrange_8 : decode b_S_arrange 8 = .ok (.if_icmp .ge 72, 3) := by decide +kernel
theorem d_S_arrange_11 : decode b_S_arrange 11 = .ok (.aload_n 0, 1) := by decide +kernel
theorem d_S_arrange_12 : decode b_S_arrange 12 = .ok (.iload 4, 2) := by decide +kernel
theorem d_S_arrange_14 : decode b_S_arrange 14 = .ok (.invokevirtual 71, 3) := by decide +kernel
theorem d_S_arrange_17 : decode b_S_arrange 17 = .ok (.istore 5, 2) := by decide +kernel
theorem d_S_arrange_19 : decode b_S_arrange 19 = .ok (.iload 4, 2) := by decide +kernel
theorem d_S_arrange_21 : decode b_S_arrange 21 = .ok (.istore 6, 2) := by decide +kernel
theorem d_S_arrange_23 : decode b_S_arrange 23 = .ok (.iload 6, 2) := by decide +kernel
theorem d_S_arrange_25 : decode b_S_arrange 25 = .ok (.iload_n 1, 1) := by decide +kernel
theorem d_S_arrange_26 : decode b_S_arrange 26 = .ok (.if_icmp .le 40, 3) := by decide +kernel
theorem d_S_arrange_29 : decode b_S_arrange 29 = .ok (.iload 5, 2) := by decide +kernel
theorem d_S_arrange_31 : decode b_S_arrange 31 = .ok (.aload_n 0, 1) := by decide +kernel
theorem d_S_arrange_32 : decode b_S_arrange 32 = .ok (.iload 6, 2) := by decide +kernel
theorem d_S_arrange_34 : decode b_S_arrange 34 = .ok (.iconst 1, 1) := by decide +kernel
theorem d_S_arrange_35 : decode b_S_arrange 35 = .ok (.isub, 1) := by decide +kernel
theorem d_S_arrange_36 : decode b_S_arrange 36 = .ok (.invokevirtual 71, 3) := by decide +kernel
theorem d_S_arrange_39 : decode b_S_arrange 39 = .ok (.iload_n 3, 1) := by decide +kernel
theorem d_S_arrange_40 : decode b_S_arrange 40 = .ok (.invokestatic 74, 3) := by decide +kernel
theorem d_S_arrange_43 : decode b_S_arrange 43 = .ok (.ifCond .eq 23, 3) := by decide +kernel
theorem d_S_arrange_46 : decode b_S_arrange 46 = .ok (.aload_n 0, 1) := by decide +kernel
theorem d_S_arrange_47 : decode b_S_arrange 47 = .ok (.iload 6, 2) := by decide +kernel
theorem d_S_arrange_49 : decode b_S_arrange 49 = .ok (.aload_n 0, 1) := by decide +kernel
theorem d_S_arrange_50 : decode b_S_arrange 50 = .ok (.iload 6, 2) := by decide +kernel
theorem d_S_arrange_52 : decode b_S_arrange 52 = .ok (.iconst 1, 1) := by decide +kernel
theorem d_S_arrange_53 : decode b_S_arrange 53 = .ok (.isub, 1) := by decide +kernel
theorem d_S_arrange_54 : decode b_S_arrange 54 = .ok (.invokevirtual 71, 3) := by decide +kernel
theorem d_S_arrange_57 : decode b_S_arrange 57 = .ok (.invokevirtual 78, 3) := by decide +kernel
theorem d_S_arrange_60 : decode b_S_arrange 60 = .ok (.iinc 6 (-1), 3) := by decide +kernel
theorem d_S_arrange_63 : decode b_S_arrange 63 = .ok (.goto (-40), 3) := by decide +kernel
theorem d_S_arrange_66 : decode b_S_arrange 66 = .ok (.aload_n 0, 1) := by decide +kernel
theorem d_S_arrange_67 : decode b_S_arrange 67 = .ok (.iload 6, 2) := by decide +kernel
theorem d_S_arrange_69 : decode b_S_arrange 69 = .ok (.iload 5, 2) := by decide +kernel
theorem d_S_arrange_71 : decode b_S_arrange 71 = .ok (.invokevirtual 78, 3) := by decide +kernel
theorem d_S_arrange_74 : decode b_S_arrange 74 = .ok (.iinc 4 1, 3) := by decide +kernel
theorem d_S_arrange_77 : decode b_S_arrange 77 = .ok (.goto (-72), 3) := by decide +kernel
theorem d_S_arrange_80 : decode b_S_arrange 80 = .ok (.aload_n 0, 1) := by decide +kernel
theorem d_S_arrange_81 : decode b_S_arrange 81 = .ok (.dup, 1) := by decide +kernel
theorem d_S_arrange_82 : decode b_S_arrange 82 = .ok (.getfield 25, 3) := by decide +kernel
theorem d_S_arrange_85 : decode b_S_arrange 85 = .ok (.iconst 1, 1) := by decide +kernel
theorem d_S_arrange_86 : decode b_S_arrange 86 = .ok (.iadd, 1) := by decide +kernel
theorem d_S_arrange_87 : decode b_S_arrange 87 = .ok (.putfield 25, 3) := by decide +kernel
theorem d_S_arrange_90 : decode b_S_arrange 90 = .ok (.return_, 1) := by decide +kernel
theorem d_S_comesBefore_0 : decode b_S_comesBefore 0 = .ok (.iload_n 2, 1) := by decide +kernel
theorem d_S_comesBefore_1 : decode b_S_comesBefore 1 = .ok (.ifCond .ne 14, 3) := by decide +kernel
theorem d_S_comesBefore_4 : decode b_S_comesBefore 4 = .ok (.iload_n 0, 1) := by decide +kernel
theorem d_S_comesBefore_5 : decode b_S_comesBefore 5 = .ok (.iload_n 1, 1) := by decide +kernel
theorem d_S_comesBefore_6 : decode b_S_comesBefore 6 = .ok (.if_icmp .ge 7, 3) := by decide +kernel
theorem d_S_comesBefore_9 : decode b_S_comesBefore 9 = .ok (.iconst 1, 1) := by decide +kernel
theorem d_S_comesBefore_10 : decode b_S_comesBefore 10 = .ok (.goto 4, 3) := by decide +kernel
theorem d_S_comesBefore_13 : decode b_S_comesBefore 13 = .ok (.iconst 0, 1) := by decide +kernel
theorem d_S_comesBefore_14 : decode b_S_comesBefore 14 = .ok (.ireturn, 1) := by decide +kernel
theorem d_S_comesBefore_15 : decode b_S_comesBefore 15 = .ok (.iload_n 2, 1) := by decide +kernel
theorem d_S_comesBefore_16 : decode b_S_comesBefore 16 = .ok (.iconst 1, 1) := by decide +kernel
theorem d_S_comesBefore_17 : decode b_S_comesBefore 17 = .ok (.if_icmp .ne 14, 3) := by decide +kernel
theorem d_S_comesBefore_20 : decode b_S_comesBefore 20 = .ok (.iload_n 0, 1) := by decide +kernel
theorem d_S_comesBefore_21 : decode b_S_comesBefore 21 = .ok (.iload_n 1, 1) := by decide +kernel
theorem d_S_comesBefore_22 : decode b_S_comesBefore 22 = .ok (.if_icmp .le 7, 3) := by decide +kernel
theorem d_S_comesBefore_25 : decode b_S_comesBefore 25 = .ok (.iconst 1, 1) := by decide +kernel
theorem d_S_comesBefore_26 : decode b_S_comesBefore 26 = .ok (.goto 4, 3) := by decide +kernel
theorem d_S_comesBefore_29 : decode b_S_comesBefore 29 = .ok (.iconst 0, 1) := by decide +kernel
theorem d_S_comesBefore_30 : decode b_S_comesBefore 30 = .ok (.ireturn, 1) := by decide +kernel
theorem d_S_comesBefore_31 : decode b_S_comesBefore 31 = .ok (.iload_n 0, 1) := by decide +kernel
theorem d_S_comesBefore_32 : decode b_S_comesBefore 32 = .ok (.bipush 10, 2) := by decide +kernel
theorem d_S_comesBefore_34 : decode b_S_comesBefore 34 = .ok (.invokestatic 81, 3) := by decide +kernel
theorem d_S_comesBefore_37 : decode b_S_comesBefore 37 = .ok (.iload_n 1, 1) := by decide +kernel
theorem d_S_comesBefore_38 : decode b_S_comesBefore 38 = .ok (.bipush 10, 2) := by decide +kernel
theorem d_S_comesBefore_40 : decode b_S_comesBefore 40 = .ok (.invokestatic 81, 3) := by decide +kernel
theorem d_S_comesBefore_43 : decode b_S_comesBefore 43 = .ok (.if_icmp .ge 7, 3) := by decide +kernel
theorem d_S_comesBefore_46 : decode b_S_comesBefore 46 = .ok (.iconst 1, 1) := by decide +kernel
theorem d_S_comesBefore_47 : decode b_S_comesBefore 47 = .ok (.goto 4, 3) := by decide +kernel
theorem d_S_comesBefore_50 : decode b_S_comesBefore 50 = .ok (.iconst 0, 1) := by decide +kernel
theorem d_S_comesBefore_51 : decode b_S_comesBefore 51 = .ok (.ireturn, 1) := by decide +kernel
theorem d_X_max_0 : decode b_X_max 0 = .ok (.iload_n 0, 1) := by decide +kernel
theorem d_X_max_1 : decode b_X_max 1 = .ok (.iload_n 1, 1) := by decide +kernel
theorem d_X_max_2 : decode b_X_max 2 = .ok (.if_icmp .lt 7, 3) := by decide +kernel
theorem d_X_max_5 : decode b_X_max 5 = .ok (.iload_n 0, 1) := by decide +kernel
theorem d_X_max_6 : decode b_X_max 6 = .ok (.goto 4, 3) := by decide +kernel
theorem d_X_max_9 : decode b_X_max 9 = .ok (.iload_n 1, 1) := by decide +kernel
theorem d_X_max_10 : decode b_X_max 10 = .ok (.ireturn, 1) := by decide +kernel
theorem d_X_min_0 : decode b_X_min 0 = .ok (.iload_n 0, 1) := by decide +kernel
theorem d_X_min_1 : decode b_X_min 1 = .ok (.iload_n 1, 1) := by decide +kernel
theorem d_X_min_2 : decode b_X_min 2 = .ok (.if_icmp .gt 7, 3) := by decide +kernel
theorem d_X_min_5 : decode b_X_min 5 = .ok (.iload_n 0, 1) := by decide +kernel
theorem d_X_min_6 : decode b_X_min 6 = .ok (.goto 4, 3) := by decide +kernel
theorem d_X_min_9 : decode b_X_min 9 = .ok (.iload_n 1, 1) := by decide +kernel
theorem d_X_min_10 : decode b_X_min 10 = .ok (.ireturn, 1) := by decide +kernel
theorem d_X_floorMod_0 : decode b_X_floorMod 0 = .ok (.iload_n 0, 1) := by decide +kernel
theorem d_X_floorMod_1 : decode b_X_floorMod 1 = .ok (.iload_n 1, 1) := by decide +kernel
theorem d_X_floorMod_2 : decode b_X_floorMod 2 = .ok (.irem, 1) := by decide +kernel
theorem d_X_floorMod_3 : decode b_X_floorMod 3 = .ok (.istore_n 2, 1) := by decide +kernel
theorem d_X_floorMod_4 : decode b_X_floorMod 4 = .ok (.iload_n 0, 1) := by decide +kernel
theorem d_X_floorMod_5 : decode b_X_floorMod 5 = .ok (.iload_n 1, 1) := by decide +kernel
theorem d_X_floorMod_6 : decode b_X_floorMod 6 = .ok (.ixor, 1) := by decide +kernel
theorem d_X_floorMod_7 : decode b_X_floorMod 7 = .ok (.ifCond .ge 11, 3) := by decide +kernel
theorem d_X_floorMod_10 : decode b_X_floorMod 10 = .ok (.iload_n 2, 1) := by decide +kernel
theorem d_X_floorMod_11 : decode b_X_floorMod 11 = .ok (.ifCond .eq 7, 3) := by decide +kernel
theorem d_X_floorMod_14 : decode b_X_floorMod 14 = .ok (.iload_n 2, 1) := by decide +kernel
theorem d_X_floorMod_15 : decode b_X_floorMod 15 = .ok (.iload_n 1, 1) := by decide +kernel
theorem d_X_floorMod_16 : decode b_X_floorMod 16 = .ok (.iadd, 1) := by decide +kernel
theorem d_X_floorMod_17 : decode b_X_floorMod 17 = .ok (.ireturn, 1) := by decide +kernel
theorem d_X_floorMod_18 : decode b_X_floorMod 18 = .ok (.iload_n 2, 1) := by decide +kernel
theorem d_X_floorMod_19 : decode b_X_floorMod 19 = .ok (.ireturn, 1) := by decide +kernel
