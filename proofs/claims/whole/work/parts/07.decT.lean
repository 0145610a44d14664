theorem d_C_init_0 : decode b_C_init 0 = .ok (.aload_n 0, 1) := by decide +kernel
theorem d_C_init_1 : decode b_C_init 1 = .ok (.invokespecial 3, 3) := by decide +kernel
theorem d_C_init_4 : decode b_C_init 4 = .ok (.aload_n 0, 1) := by decide +kernel
theorem d_C_init_5 : decode b_C_init 5 = .ok (.iload_n 1, 1) := by decide +kernel
theorem d_C_init_6 : decode b_C_init 6 = .ok (.putfield 9, 3) := by decide +kernel
theorem d_C_init_9 : decode b_C_init 9 = .ok (.aload_n 0, 1) := by decide +kernel
theorem d_C_init_10 : decode b_C_init 10 = .ok (.aload_n 2, 1) := by decide +kernel
theorem d_C_init_11 : decode b_C_init 11 = .ok (.putfield 15, 3) := by decide +kernel
theorem d_C_init_14 : decode b_C_init 14 = .ok (.return_, 1) := by decide +kernel
theorem d_C_isStale_0 : decode b_C_isStale 0 = .ok (.iconst 0, 1) := by decide +kernel
theorem d_C_isStale_1 : decode b_C_isStale 1 = .ok (.ireturn, 1) := by decide +kernel
theorem d_C_covers_0 : decode b_C_covers 0 = .ok (.iconst 1, 1) := by decide +kernel
theorem d_C_covers_1 : decode b_C_covers 1 = .ok (.ireturn, 1) := by decide +kernel
theorem d_C_follow_0 : decode b_C_follow 0 = .ok (.return_, 1) := by decide +kernel
theorem d_C_isList_0 : decode b_C_isList 0 = .ok (.aload_n 0, 1) := by decide +kernel
theorem d_C_isList_1 : decode b_C_isList 1 = .ok (.getfield 9, 3) := by decide +kernel
theorem d_C_isList_4 : decode b_C_isList 4 = .ok (.ifCond .eq 20, 3) := by decide +kernel
theorem d_C_isList_7 : decode b_C_isList 7 = .ok (.aload_n 0, 1) := by decide +kernel
theorem d_C_isList_8 : decode b_C_isList 8 = .ok (.getfield 9, 3) := by decide +kernel
theorem d_C_isList_11 : decode b_C_isList 11 = .ok (.iconst 1, 1) := by decide +kernel
theorem d_C_isList_12 : decode b_C_isList 12 = .ok (.if_icmp .eq 12, 3) := by decide +kernel
theorem d_C_isList_15 : decode b_C_isList 15 = .ok (.aload_n 0, 1) := by decide +kernel
theorem d_C_isList_16 : decode b_C_isList 16 = .ok (.getfield 9, 3) := by decide +kernel
theorem d_C_isList_19 : decode b_C_isList 19 = .ok (.bipush 6, 2) := by decide +kernel
theorem d_C_isList_21 : decode b_C_isList 21 = .ok (.if_icmp .ne 7, 3) := by decide +kernel
theorem d_C_isList_24 : decode b_C_isList 24 = .ok (.iconst 1, 1) := by decide +kernel
theorem d_C_isList_25 : decode b_C_isList 25 = .ok (.goto 4, 3) := by decide +kernel
theorem d_C_isList_28 : decode b_C_isList 28 = .ok (.iconst 0, 1) := by decide +kernel
theorem d_C_isList_29 : decode b_C_isList 29 = .ok (.ireturn, 1) := by decide +kernel
theorem d_C_isMap_0 : decode b_C_isMap 0 = .ok (.aload_n 0, 1) := by decide +kernel
theorem d_C_isMap_1 : decode b_C_isMap 1 = .ok (.invokevirtual 19, 3) := by decide +kernel
theorem d_C_isMap_4 : decode b_C_isMap 4 = .ok (.ifCond .ne 10, 3) := by decide +kernel
theorem d_C_isMap_7 : decode b_C_isMap 7 = .ok (.aload_n 0, 1) := by decide +kernel
theorem d_C_isMap_8 : decode b_C_isMap 8 = .ok (.invokevirtual 23, 3) := by decide +kernel
theorem d_C_isMap_11 : decode b_C_isMap 11 = .ok (.ifCond .eq 7, 3) := by decide +kernel
theorem d_C_isMap_14 : decode b_C_isMap 14 = .ok (.iconst 1, 1) := by decide +kernel
theorem d_C_isMap_15 : decode b_C_isMap 15 = .ok (.goto 4, 3) := by decide +kernel
theorem d_C_isMap_18 : decode b_C_isMap 18 = .ok (.iconst 0, 1) := by decide +kernel
theorem d_C_isMap_19 : decode b_C_isMap 19 = .ok (.ireturn, 1) := by decide +kernel
theorem d_C_isHashed_0 : decode b_C_isHashed 0 = .ok (.aload_n 0, 1) := by decide +kernel
theorem d_C_isHashed_1 : decode b_C_isHashed 1 = .ok (.getfield 9, 3) := by decide +kernel
theorem d_C_isHashed_4 : decode b_C_isHashed 4 = .ok (.iconst 2, 1) := by decide +kernel
theorem d_C_isHashed_5 : decode b_C_isHashed 5 = .ok (.if_icmp .eq 11, 3) := by decide +kernel
theorem d_C_isHashed_8 : decode b_C_isHashed 8 = .ok (.aload_n 0, 1) := by decide +kernel
theorem d_C_isHashed_9 : decode b_C_isHashed 9 = .ok (.getfield 9, 3) := by decide +kernel
theorem d_C_isHashed_12 : decode b_C_isHashed 12 = .ok (.iconst 3, 1) := by decide +kernel
theorem d_C_isHashed_13 : decode b_C_isHashed 13 = .ok (.if_icmp .ne 7, 3) := by decide +kernel
theorem d_C_isHashed_16 : decode b_C_isHashed 16 = .ok (.iconst 1, 1) := by decide +kernel
theorem d_C_isHashed_17 : decode b_C_isHashed 17 = .ok (.goto 4, 3) := by decide +kernel
theorem d_C_isHashed_20 : decode b_C_isHashed 20 = .ok (.iconst 0, 1) := by decide +kernel
theorem d_C_isHashed_21 : decode b_C_isHashed 21 = .ok (.ireturn, 1) := by decide +kernel
theorem d_C_isSorted_0 : decode b_C_isSorted 0 = .ok (.aload_n 0, 1) := by decide +kernel
theorem d_C_isSorted_1 : decode b_C_isSorted 1 = .ok (.getfield 9, 3) := by decide +kernel
theorem d_C_isSorted_4 : decode b_C_isSorted 4 = .ok (.iconst 4, 1) := by decide +kernel
theorem d_C_isSorted_5 : decode b_C_isSorted 5 = .ok (.if_icmp .eq 12, 3) := by decide +kernel
theorem d_C_isSorted_8 : decode b_C_isSorted 8 = .ok (.aload_n 0, 1) := by decide +kernel
theorem d_C_isSorted_9 : decode b_C_isSorted 9 = .ok (.getfield 9, 3) := by decide +kernel
theorem d_C_isSorted_12 : decode b_C_isSorted 12 = .ok (.bipush 7, 2) := by decide +kernel
theorem d_C_isSorted_14 : decode b_C_isSorted 14 = .ok (.if_icmp .ne 7, 3) := by decide +kernel
theorem d_C_isSorted_17 : decode b_C_isSorted 17 = .ok (.iconst 1, 1) := by decide +kernel
theorem d_C_isSorted_18 : decode b_C_isSorted 18 = .ok (.goto 4, 3) := by decide +kernel
theorem d_C_isSorted_21 : decode b_C_isSorted 21 = .ok (.iconst 0, 1) := by decide +kernel
theorem d_C_isSorted_22 : decode b_C_isSorted 22 = .ok (.ireturn, 1) := by decide +kernel
theorem d_C_isPlace_0 : decode b_C_isPlace 0 = .ok (.iload_n 1, 1) := by decide +kernel
theorem d_C_isPlace_1 : decode b_C_isPlace 1 = .ok (.ifCond .lt 15, 3) := by decide +kernel
theorem d_C_isPlace_4 : decode b_C_isPlace 4 = .ok (.iload_n 1, 1) := by decide +kernel
theorem d_C_isPlace_5 : decode b_C_isPlace 5 = .ok (.aload_n 0, 1) := by decide +kernel
theorem d_C_isPlace_6 : decode b_C_isPlace 6 = .ok (.invokevirtual 26, 3) := by decide +kernel
theorem d_C_isPlace_9 : decode b_C_isPlace 9 = .ok (.if_icmp .ge 7, 3) := by decide +kernel
theorem d_C_isPlace_12 : decode b_C_isPlace 12 = .ok (.iconst 1, 1) := by decide +kernel
theorem d_C_isPlace_13 : decode b_C_isPlace 13 = .ok (.goto 4, 3) := by decide +kernel
theorem d_C_isPlace_16 : decode b_C_isPlace 16 = .ok (.iconst 0, 1) := by decide +kernel
theorem d_C_isPlace_17 : decode b_C_isPlace 17 = .ok (.ireturn, 1) := by decide +kernel
theorem d_C_numberAt_0 : decode b_C_numberAt 0 = .ok (.aload_n 0, 1) := by decide +kernel
theorem d_C_numberAt_1 : decode b_C_numberAt 1 = .ok (.getfield 15, 3) := by decide +kernel
theorem d_C_numberAt_4 : decode b_C_numberAt 4 = .ok (.aload_n 0, 1) := by decide +kernel
theorem d_C_numberAt_5 : decode b_C_numberAt 5 = .ok (.invokevirtual 30, 3) := by decide +kernel
theorem d_C_numberAt_8 : decode b_C_numberAt 8 = .ok (.iload_n 1, 1) := by decide +kernel
theorem d_C_numberAt_9 : decode b_C_numberAt 9 = .ok (.iadd, 1) := by decide +kernel
theorem d_C_numberAt_10 : decode b_C_numberAt 10 = .ok (.invokevirtual 33, 3) := by decide +kernel
theorem d_C_numberAt_13 : decode b_C_numberAt 13 = .ok (.ireturn, 1) := by decide +kernel
theorem d_C_valueAt_0 : decode b_C_valueAt 0 = .ok (.aload_n 0, 1) := by decide +kernel
theorem d_C_valueAt_1 : decode b_C_valueAt 1 = .ok (.getfield 15, 3) := by decide +kernel
theorem d_C_valueAt_4 : decode b_C_valueAt 4 = .ok (.aload_n 0, 1) := by decide +kernel
theorem d_C_valueAt_5 : decode b_C_valueAt 5 = .ok (.invokevirtual 30, 3) := by decide +kernel
theorem d_C_valueAt_8 : decode b_C_valueAt 8 = .ok (.iload_n 1, 1) := by decide +kernel
theorem d_C_valueAt_9 : decode b_C_valueAt 9 = .ok (.iadd, 1) := by decide +kernel
theorem d_C_valueAt_10 : decode b_C_valueAt 10 = .ok (.invokevirtual 39, 3) := by decide +kernel
theorem d_C_valueAt_13 : decode b_C_valueAt 13 = .ok (.ireturn, 1) := by decide +kernel
theorem d_C_placeOf_0 : decode b_C_placeOf 0 = .ok (.aload_n 0, 1) := by decide +kernel
theorem d_C_placeOf_1 : decode b_C_placeOf 1 = .ok (.iload_n 1, 1) := by decide +kernel
theorem d_C_placeOf_2 : decode b_C_placeOf 2 = .ok (.invokevirtual 42, 3) := by decide +kernel
theorem d_C_placeOf_5 : decode b_C_placeOf 5 = .ok (.ifCond .eq 31, 3) := by decide +kernel
theorem d_C_placeOf_8 : decode b_C_placeOf 8 = .ok (.aload_n 0, 1) := by decide +kernel
theorem d_C_placeOf_9 : decode b_C_placeOf 9 = .ok (.getfield 15, 3) := by decide +kernel
theorem d_C_placeOf_12 : decode b_C_placeOf 12 = .ok (.iload_n 1, 1) := by decide +kernel
theorem d_C_placeOf_13 : decode b_C_placeOf 13 = .ok (.invokevirtual 46, 3) := by decide +kernel
theorem d_C_placeOf_16 : decode b_C_placeOf 16 = .ok (.iconst (-1), 1) := by decide +kernel
theorem d_C_placeOf_17 : decode b_C_placeOf 17 = .ok (.if_icmp .eq 19, 3) := by decide +kernel
theorem d_C_placeOf_20 : decode b_C_placeOf 20 = .ok (.aload_n 0, 1) := by decide +kernel
theorem d_C_placeOf_21 : decode b_C_placeOf 21 = .ok (.getfield 15, 3) := by decide +kernel
theorem d_C_placeOf_24 : decode b_C_placeOf 24 = .ok (.iload_n 1, 1) := by decide +kernel
theorem d_C_placeOf_25 : decode b_C_placeOf 25 = .ok (.invokevirtual 46, 3) := by decide +kernel
theorem d_C_placeOf_28 : decode b_C_placeOf 28 = .ok (.aload_n 0, 1) := by decide +kernel
theorem d_C_placeOf_29 : decode b_C_placeOf 29 = .ok (.invokevirtual 30, 3) := by decide +kernel
theorem d_C_placeOf_32 : decode b_C_placeOf 32 = .ok (.isub, 1) := by decide +kernel
theorem d_C_placeOf_33 : decode b_C_placeOf 33 = .ok (.goto 4, 3) := by decide +kernel
theorem d_C_placeOf_36 : decode b_C_placeOf 36 = .ok (.iconst (-1), 1) := by decide +kernel
theorem d_C_placeOf_37 : decode b_C_placeOf 37 = .ok (.ireturn, 1) := by decide +kernel
theorem d_C_placesBefore_0 : decode b_C_placesBefore 0 = .ok (.aload_n 0, 1) := by decide +kernel
theorem d_C_placesBefore_1 : decode b_C_placesBefore 1 = .ok (.getfield 15, 3) := by decide +kernel
theorem d_C_placesBefore_4 : decode b_C_placesBefore 4 = .ok (.iload_n 1, 1) := by decide +kernel
theorem d_C_placesBefore_5 : decode b_C_placesBefore 5 = .ok (.iload_n 2, 1) := by decide +kernel
theorem d_C_placesBefore_6 : decode b_C_placesBefore 6 = .ok (.invokevirtual 49, 3) := by decide +kernel
theorem d_C_placesBefore_9 : decode b_C_placesBefore 9 = .ok (.aload_n 0, 1) := by decide +kernel
theorem d_C_placesBefore_10 : decode b_C_placesBefore 10 = .ok (.invokevirtual 30, 3) := by decide +kernel
theorem d_C_placesBefore_13 : decode b_C_placesBefore 13 = .ok (.isub, 1) := by decide +kernel
theorem d_C_placesBefore_14 : decode b_C_placesBefore 14 = .ok (.istore_n 3, 1) := by decide +kernel
theorem d_C_placesBefore_15 : decode b_C_placesBefore 15 = .ok (.iconst 0, 1) := by decide +kernel
theorem d_C_placesBefore_16 : decode b_C_placesBefore 16 = .ok (.iload_n 3, 1) := by decide +kernel
theorem d_C_placesBefore_17 : decode b_C_placesBefore 17 = .ok (.aload_n 0, 1) := by decide +kernel
theorem d_C_placesBefore_18 : decode b_C_placesBefore 18 = .ok (.invokevirtual 26, 3) := by decide +kernel
theorem d_C_placesBefore_21 : decode b_C_placesBefore 21 = .ok (.invokestatic 53, 3) := by decide +kernel
theorem d_C_placesBefore_24 : decode b_C_placesBefore 24 = .ok (.invokestatic 59, 3) := by decide +kernel
theorem d_C_placesBefore_27 : decode b_C_placesBefore 27 = .ok (.ireturn, 1) := by decide +kernel
theorem d_C_changeNumber_0 : decode b_C_changeNumber 0 = .ok (.aload_n 0, 1) := by decide +kernel
theorem d_C_changeNumber_1 : decode b_C_changeNumber 1 = .ok (.iload_n 1, 1) := by decide +kernel
theorem d_C_changeNumber_2 : decode b_C_changeNumber 2 = .ok (.invokevirtual 62, 3) := by decide +kernel
theorem d_C_changeNumber_5 : decode b_C_changeNumber 5 = .ok (.istore_n 3, 1) := by decide +kernel
theorem d_C_changeNumber_6 : decode b_C_changeNumber 6 = .ok (.aload_n 0, 1) := by decide +kernel
theorem d_C_changeNumber_7 : decode b_C_changeNumber 7 = .ok (.getfield 15, 3) := by decide +kernel
theorem d_C_changeNumber_10 : decode b_C_changeNumber 10 = .ok (.aload_n 0, 1) := by decide +kernel
theorem d_C_changeNumber_11 : decode b_C_changeNumber 11 = .ok (.invokevirtual 30, 3) := by decide +kernel
theorem d_C_changeNumber_14 : decode b_C_changeNumber 14 = .ok (.iload_n 1, 1) := by decide +kernel
theorem d_C_changeNumber_15 : decode b_C_changeNumber 15 = .ok (.iadd, 1) := by decide +kernel
theorem d_C_changeNumber_16 : decode b_C_changeNumber 16 = .ok (.iload_n 2, 1) := by decide +kernel
theorem d_C_changeNumber_17 : decode b_C_changeNumber 17 = .ok (.invokevirtual 63, 3) := by decide +kernel
theorem d_C_changeNumber_20 : decode b_C_changeNumber 20 = .ok (.iload_n 3, 1) := by decide +kernel
theorem d_C_changeNumber_21 : decode b_C_changeNumber 21 = .ok (.ireturn, 1) := by decide +kernel
theorem d_C_changeValue_0 : decode b_C_changeValue 0 = .ok (.aload_n 0, 1) := by decide +kernel
theorem d_C_changeValue_1 : decode b_C_changeValue 1 = .ok (.iload_n 1, 1) := by decide +kernel
theorem d_C_changeValue_2 : decode b_C_changeValue 2 = .ok (.invokevirtual 67, 3) := by decide +kernel
theorem d_C_changeValue_5 : decode b_C_changeValue 5 = .ok (.istore_n 3, 1) := by decide +kernel
theorem d_C_changeValue_6 : decode b_C_changeValue 6 = .ok (.aload_n 0, 1) := by decide +kernel
theorem d_C_changeValue_7 : decode b_C_changeValue 7 = .ok (.getfield 15, 3) := by decide +kernel
theorem d_C_changeValue_10 : decode b_C_changeValue 10 = .ok (.aload_n 0, 1) := by decide +kernel
theorem d_C_changeValue_11 : decode b_C_changeValue 11 = .ok (.invokevirtual 30, 3) := by decide +kernel
theorem d_C_changeValue_14 : decode b_C_changeValue 14 = .ok (.iload_n 1, 1) := by decide +kernel
theorem d_C_changeValue_15 : decode b_C_changeValue 15 = .ok (.iadd, 1) := by decide +kernel
theorem d_C_changeValue_16 : decode b_C_changeValue 16 = .ok (.iload_n 2, 1) := by decide +kernel
theorem d_C_changeValue_17 : decode b_C_changeValue 17 = .ok (.invokevirtual 68, 3) := by decide +kernel
theorem d_C_changeValue_20 : decode b_C_changeValue 20 = .ok (.iload_n 3, 1) := by decide +kernel
theorem d_C_changeValue_21 : decode b_C_changeValue 21 = .ok (.ireturn, 1) := by decide +kernel
theorem d_C_bring_0 : decode b_C_bring 0 = .ok (.aload_n 0, 1) := by decide +kernel
theorem d_C_bring_1 : decode b_C_bring 1 = .ok (.getfield 15, 3) := by decide +kernel
theorem d_C_bring_4 : decode b_C_bring 4 = .ok (.aload_n 0, 1) := by decide +kernel
theorem d_C_bring_5 : decode b_C_bring 5 = .ok (.invokevirtual 30, 3) := by decide +kernel
theorem d_C_bring_8 : decode b_C_bring 8 = .ok (.iload_n 1, 1) := by decide +kernel
theorem d_C_bring_9 : decode b_C_bring 9 = .ok (.iadd, 1) := by decide +kernel
theorem d_C_bring_10 : decode b_C_bring 10 = .ok (.iload_n 2, 1) := by decide +kernel
theorem d_C_bring_11 : decode b_C_bring 11 = .ok (.iconst 0, 1) := by decide +kernel
theorem d_C_bring_12 : decode b_C_bring 12 = .ok (.invokevirtual 71, 3) := by decide +kernel
theorem d_C_bring_15 : decode b_C_bring 15 = .ok (.aload_n 0, 1) := by decide +kernel
theorem d_C_bring_16 : decode b_C_bring 16 = .ok (.iconst 1, 1) := by decide +kernel
theorem d_C_bring_17 : decode b_C_bring 17 = .ok (.invokevirtual 75, 3) := by decide +kernel
theorem d_C_bring_20 : decode b_C_bring 20 = .ok (.return_, 1) := by decide +kernel
theorem d_C_take_0 : decode b_C_take 0 = .ok (.aload_n 0, 1) := by decide +kernel
theorem d_C_take_1 : decode b_C_take 1 = .ok (.iload_n 1, 1) := by decide +kernel
theorem d_C_take_2 : decode b_C_take 2 = .ok (.invokevirtual 62, 3) := by decide +kernel
theorem d_C_take_5 : decode b_C_take 5 = .ok (.istore_n 2, 1) := by decide +kernel
theorem d_C_take_6 : decode b_C_take 6 = .ok (.aload_n 0, 1) := by decide +kernel
theorem d_C_take_7 : decode b_C_take 7 = .ok (.getfield 15, 3) := by decide +kernel
theorem d_C_take_10 : decode b_C_take 10 = .ok (.aload_n 0, 1) := by decide +kernel
theorem d_C_take_11 : decode b_C_take 11 = .ok (.invokevirtual 30, 3) := by decide +kernel
theorem d_C_take_14 : decode b_C_take 14 = .ok (.iload_n 1, 1) := by decide +kernel
theorem d_C_take_15 : decode b_C_take 15 = .ok (.iadd, 1) := by decide +kernel
theorem d_C_take_16 : decode b_C_take 16 = .ok (.invokevirtual 79, 3) := by decide +kernel
theorem d_C_take_19 : decode b_C_take 19 = .ok (.aload_n 0, 1) := by decide +kernel
theorem d_C_take_20 : decode b_C_take 20 = .ok (.iconst (-1), 1) := by decide +kernel
theorem d_C_take_21 : decode b_C_take 21 = .ok (.invokevirtual 75, 3) := by decide +kernel
theorem d_C_take_24 : decode b_C_take 24 = .ok (.iload_n 2, 1) := by decide +kernel
theorem d_C_take_25 : decode b_C_take 25 = .ok (.ireturn, 1) := by decide +kernel
theorem d_C_arrange_0 : decode b_C_arrange 0 = .ok (.aload_n 0, 1) := by decide +kernel
theorem d_C_arrange_1 : decode b_C_arrange 1 = .ok (.getfield 15, 3) := by decide +kernel
theorem d_C_arrange_4 : decode b_C_arrange 4 = .ok (.aload_n 0, 1) := by decide +kernel
theorem d_C_arrange_5 : decode b_C_arrange 5 = .ok (.invokevirtual 30, 3) := by decide +kernel
theorem d_C_arrange_8 : decode b_C_arrange 8 = .ok (.aload_n 0, 1) := by decide +kernel
theorem d_C_arrange_9 : decode b_C_arrange 9 = .ok (.invokevirtual 30, 3) := by decide +kernel
theorem d_C_arrange_12 : decode b_C_arrange 12 = .ok (.aload_n 0, 1) := by decide +kernel
theorem d_C_arrange_13 : decode b_C_arrange 13 = .ok (.invokevirtual 26, 3) := by decide +kernel
theorem d_C_arrange_16 : decode b_C_arrange 16 = .ok (.iadd, 1) := by decide +kernel
theorem d_C_arrange_17 : decode b_C_arrange 17 = .ok (.iload_n 1, 1) := by decide +kernel
theorem d_C_arrange_18 : decode b_C_arrange 18 = .ok (.invokevirtual 82, 3) := by decide +kernel
theorem d_C_arrange_21 : decode b_C_arrange 21 = .ok (.aload_n 0, 1) := by decide +kernel
theorem d_C_arrange_22 : decode b_C_arrange 22 = .ok (.iconst 0, 1) := by decide +kernel
theorem d_C_arrange_23 : decode b_C_arrange 23 = .ok (.invokevirtual 75, 3) := by decide +kernel
theorem d_C_arrange_26 : decode b_C_arrange 26 = .ok (.return_, 1) := by decide +kernel
theorem d_C_takeAll_0 : decode b_C_takeAll 0 = .ok (.iload_n 1, 1) := by decide +kernel
theorem d_C_takeAll_1 : decode b_C_takeAll 1 = .ok (.iconst 1, 1) := by decide +kernel
theorem d_C_takeAll_2 : decode b_C_takeAll 2 = .ok (.if_icmp .ge 5, 3) := by decide +kernel
theorem d_C_takeAll_5 : decode b_C_takeAll 5 = .ok (.iconst 0, 1) := by decide +kernel
theorem d_C_takeAll_6 : decode b_C_takeAll 6 = .ok (.ireturn, 1) := by decide +kernel
theorem d_C_takeAll_7 : decode b_C_takeAll 7 = .ok (.iconst 0, 1) := by decide +kernel
theorem d_C_takeAll_8 : decode b_C_takeAll 8 = .ok (.istore_n 3, 1) := by decide +kernel
theorem d_C_takeAll_9 : decode b_C_takeAll 9 = .ok (.aload_n 0, 1) := by decide +kernel
theorem d_C_takeAll_10 : decode b_C_takeAll 10 = .ok (.invokevirtual 26, 3) := by decide +kernel
theorem d_C_takeAll_13 : decode b_C_takeAll 13 = .ok (.iconst 1, 1) := by decide +kernel
theorem d_C_takeAll_14 : decode b_C_takeAll 14 = .ok (.isub, 1) := by decide +kernel
theorem d_C_takeAll_15 : decode b_C_takeAll 15 = .ok (.istore 4, 2) := by decide +kernel
theorem d_C_takeAll_17 : decode b_C_takeAll 17 = .ok (.iload 4, 2) := by decide +kernel
theorem d_C_takeAll_19 : decode b_C_takeAll 19 = .ok (.ifCond .lt 33, 3) := by decide +kernel
theorem d_C_takeAll_22 : decode b_C_takeAll 22 = .ok (.aload_n 0, 1) := by decide +kernel
theorem d_C_takeAll_23 : decode b_C_takeAll 23 = .ok (.iload 4, 2) := by decide +kernel
theorem d_C_takeAll_25 : decode b_C_takeAll 25 = .ok (.invokevirtual 62, 3) := by decide +kernel
theorem d_C_takeAll_28 : decode b_C_takeAll 28 = .ok (.iload_n 1, 1) := by decide +kernel
theorem d_C_takeAll_29 : decode b_C_takeAll 29 = .ok (.invokestatic 85, 3) := by decide +kernel
theorem d_C_takeAll_32 : decode b_C_takeAll 32 = .ok (.iload_n 2, 1) := by decide +kernel
theorem d_C_takeAll_33 : decode b_C_takeAll 33 = .ok (.if_icmp .ne 13, 3) := by decide +kernel
theorem d_C_takeAll_36 : decode b_C_takeAll 36 = .ok (.aload_n 0, 1) := by decide +kernel
theorem d_C_takeAll_37 : decode b_C_takeAll 37 = .ok (.iload 4, 2) := by decide +kernel
theorem d_C_takeAll_39 : decode b_C_takeAll 39 = .ok (.invokevirtual 88, 3) := by decide +kernel
theorem d_C_takeAll_42 : decode b_C_takeAll 42 = .ok (.pop, 1) := by decide +kernel
theorem d_C_takeAll_43 : decode b_C_takeAll 43 = .ok (.iinc 3 1, 3) := by decide +kernel
theorem d_C_takeAll_46 : decode b_C_takeAll 46 = .ok (.iinc 4 (-1), 3) := by decide +kernel
theorem d_C_takeAll_49 : decode b_C_takeAll 49 = .ok (.goto (-32), 3) := by decide +kernel
theorem d_C_takeAll_52 : decode b_C_takeAll 52 = .ok (.iload_n 3, 1) := by decide +kernel
theorem d_C_takeAll_53 : decode b_C_takeAll 53 = .ok (.ireturn, 1) := by decide +kernel
theorem d_C_hasNumbersOf_0 : decode b_C_hasNumbersOf 0 = .ok (.aload_n 0, 1) := by decide +kernel
theorem d_C_hasNumbersOf_1 : decode b_C_hasNumbersOf 1 = .ok (.invokevirtual 26, 3) := by decide +kernel
theorem d_C_hasNumbersOf_4 : decode b_C_hasNumbersOf 4 = .ok (.istore_n 2, 1) := by decide +kernel
theorem d_C_hasNumbersOf_5 : decode b_C_hasNumbersOf 5 = .ok (.iload_n 2, 1) := by decide +kernel
theorem d_C_hasNumbersOf_6 : decode b_C_hasNumbersOf 6 = .ok (.aload_n 1, 1) := by decide +kernel
theorem d_C_hasNumbersOf_7 : decode b_C_hasNumbersOf 7 = .ok (.invokevirtual 26, 3) := by decide +kernel
theorem d_C_hasNumbersOf_10 : decode b_C_hasNumbersOf 10 = .ok (.if_icmp .eq 5, 3) := by decide +kernel
theorem d_C_hasNumbersOf_13 : decode b_C_hasNumbersOf 13 = .ok (.iconst 0, 1) := by decide +kernel
theorem d_C_hasNumbersOf_14 : decode b_C_hasNumbersOf 14 = .ok (.ireturn, 1) := by decide +kernel
theorem d_C_hasNumbersOf_15 : decode b_C_hasNumbersOf 15 = .ok (.iconst 0, 1) := by decide +kernel
theorem d_C_hasNumbersOf_16 : decode b_C_hasNumbersOf 16 = .ok (.istore_n 3, 1) := by decide +kernel
theorem d_C_hasNumbersOf_17 : decode b_C_hasNumbersOf 17 = .ok (.iload_n 3, 1) := by decide +kernel
theorem d_C_hasNumbersOf_18 : decode b_C_hasNumbersOf 18 = .ok (.iload_n 2, 1) := by decide +kernel
theorem d_C_hasNumbersOf_19 : decode b_C_hasNumbersOf 19 = .ok (.if_icmp .ge 24, 3) := by decide +kernel
theorem d_C_hasNumbersOf_22 : decode b_C_hasNumbersOf 22 = .ok (.aload_n 0, 1) := by decide +kernel
theorem d_C_hasNumbersOf_23 : decode b_C_hasNumbersOf 23 = .ok (.iload_n 3, 1) := by decide +kernel
theorem d_C_hasNumbersOf_24 : decode b_C_hasNumbersOf 24 = .ok (.invokevirtual 62, 3) := by decide +kernel
theorem d_C_hasNumbersOf_27 : decode b_C_hasNumbersOf 27 = .ok (.aload_n 1, 1) := by decide +kernel
theorem d_C_hasNumbersOf_28 : decode b_C_hasNumbersOf 28 = .ok (.iload_n 3, 1) := by decide +kernel
theorem d_C_hasNumbersOf_29 : decode b_C_hasNumbersOf 29 = .ok (.invokevirtual 62, 3) := by decide +kernel
theorem d_C_hasNumbersOf_32 : decode b_C_hasNumbersOf 32 = .ok (.if_icmp .eq 5, 3) := by decide +kernel
theorem d_C_hasNumbersOf_35 : decode b_C_hasNumbersOf 35 = .ok (.iconst 0, 1) := by decide +kernel
theorem d_C_hasNumbersOf_36 : decode b_C_hasNumbersOf 36 = .ok (.ireturn, 1) := by decide +kernel
theorem d_C_hasNumbersOf_37 : decode b_C_hasNumbersOf 37 = .ok (.iinc 3 1, 3) := by decide +kernel
theorem d_C_hasNumbersOf_40 : decode b_C_hasNumbersOf 40 = .ok (.goto (-23), 3) := by decide +kernel
theorem d_C_hasNumbersOf_43 : decode b_C_hasNumbersOf 43 = .ok (.iconst 1, 1) := by decide +kernel
theorem d_C_hasNumbersOf_44 : decode b_C_hasNumbersOf 44 = .ok (.ireturn, 1) := by decide +kernel
theorem d_C_hasPairsOf_0 : decode b_C_hasPairsOf 0 = .ok (.aload_n 0, 1) := by decide +kernel
theorem d_C_hasPairsOf_1 : decode b_C_hasPairsOf 1 = .ok (.invokevirtual 26, 3) := by decide +kernel
theorem d_C_hasPairsOf_4 : decode b_C_hasPairsOf 4 = .ok (.istore_n 2, 1) := by decide +kernel
theorem d_C_hasPairsOf_5 : decode b_C_hasPairsOf 5 = .ok (.iload_n 2, 1) := by decide +kernel
theorem d_C_hasPairsOf_6 : decode b_C_hasPairsOf 6 = .ok (.aload_n 1, 1) := by decide +kernel
theorem d_C_hasPairsOf_7 : decode b_C_hasPairsOf 7 = .ok (.invokevirtual 26, 3) := by decide +kernel
theorem d_C_hasPairsOf_10 : decode b_C_hasPairsOf 10 = .ok (.if_icmp .eq 5, 3) := by decide +kernel
theorem d_C_hasPairsOf_13 : decode b_C_hasPairsOf 13 = .ok (.iconst 0, 1) := by decide +kernel
theorem d_C_hasPairsOf_14 : decode b_C_hasPairsOf 14 = .ok (.ireturn, 1) := by decide +kernel
theorem d_C_hasPairsOf_15 : decode b_C_hasPairsOf 15 = .ok (.iconst 0, 1) := by decide +kernel
theorem d_C_hasPairsOf_16 : decode b_C_hasPairsOf 16 = .ok (.istore_n 3, 1) := by decide +kernel
theorem d_C_hasPairsOf_17 : decode b_C_hasPairsOf 17 = .ok (.iload_n 3, 1) := by decide +kernel
theorem d_C_hasPairsOf_18 : decode b_C_hasPairsOf 18 = .ok (.iload_n 2, 1) := by decide +kernel
theorem d_C_hasPairsOf_19 : decode b_C_hasPairsOf 19 = .ok (.if_icmp .ge 42, 3) := by decide +kernel
theorem d_C_hasPairsOf_22 : decode b_C_hasPairsOf 22 = .ok (.aload_n 1, 1) := by decide +kernel
theorem d_C_hasPairsOf_23 : decode b_C_hasPairsOf 23 = .ok (.aload_n 0, 1) := by decide +kernel
theorem d_C_hasPairsOf_24 : decode b_C_hasPairsOf 24 = .ok (.iload_n 3, 1) := by decide +kernel
theorem d_C_hasPairsOf_25 : decode b_C_hasPairsOf 25 = .ok (.invokevirtual 62, 3) := by decide +kernel
theorem d_C_hasPairsOf_28 : decode b_C_hasPairsOf 28 = .ok (.invokevirtual 91, 3) := by decide +kernel
theorem d_C_hasPairsOf_31 : decode b_C_hasPairsOf 31 = .ok (.istore 4, 2) := by decide +kernel
theorem d_C_hasPairsOf_33 : decode b_C_hasPairsOf 33 = .ok (.iload 4, 2) := by decide +kernel
theorem d_C_hasPairsOf_35 : decode b_C_hasPairsOf 35 = .ok (.iconst (-1), 1) := by decide +kernel
theorem d_C_hasPairsOf_36 : decode b_C_hasPairsOf 36 = .ok (.if_icmp .eq 17, 3) := by decide +kernel
theorem d_C_hasPairsOf_39 : decode b_C_hasPairsOf 39 = .ok (.aload_n 0, 1) := by decide +kernel
theorem d_C_hasPairsOf_40 : decode b_C_hasPairsOf 40 = .ok (.iload_n 3, 1) := by decide +kernel
theorem d_C_hasPairsOf_41 : decode b_C_hasPairsOf 41 = .ok (.invokevirtual 67, 3) := by decide +kernel
theorem d_C_hasPairsOf_44 : decode b_C_hasPairsOf 44 = .ok (.aload_n 1, 1) := by decide +kernel
theorem d_C_hasPairsOf_45 : decode b_C_hasPairsOf 45 = .ok (.iload 4, 2) := by decide +kernel
theorem d_C_hasPairsOf_47 : decode b_C_hasPairsOf 47 = .ok (.invokevirtual 67, 3) := by decide +kernel
theorem d_C_hasPairsOf_50 : decode b_C_hasPairsOf 50 = .ok (.if_icmp .eq 5, 3) := by decide +kernel
theorem d_C_hasPairsOf_53 : decode b_C_hasPairsOf 53 = .ok (.iconst 0, 1) := by decide +kernel
theorem d_C_hasPairsOf_54 : decode b_C_hasPairsOf 54 = .ok (.ireturn, 1) := by decide +kernel
theorem d_C_hasPairsOf_55 : decode b_C_hasPairsOf 55 = .ok (.iinc 3 1, 3) := by decide +kernel
theorem d_C_hasPairsOf_58 : decode b_C_hasPairsOf 58 = .ok (.goto (-41), 3) := by decide +kernel
theorem d_C_hasPairsOf_61 : decode b_C_hasPairsOf 61 = .ok (.iconst 1, 1) := by decide +kernel
theorem d_C_hasPairsOf_62 : decode b_C_hasPairsOf 62 = .ok (.ireturn, 1) := by decide +kernel
theorem d_P_init_0 : decode b_P_init 0 = .ok (.aload_n 0, 1) := by decide +kernel
theorem d_P_init_1 : decode b_P_init 1 = .ok (.bipush 6, 2) := by decide +kernel
theorem d_P_init_3 : decode b_P_init 3 = .ok (.aload_n 1, 1) := by decide +kernel
theorem d_P_init_4 : decode b_P_init 4 = .ok (.invokespecial 3, 3) := by decide +kernel
theorem d_P_init_7 : decode b_P_init 7 = .ok (.aload_n 0, 1) := by decide +kernel
theorem d_P_init_8 : decode b_P_init 8 = .ok (.aload_n 2, 1) := by decide +kernel
theorem d_P_init_9 : decode b_P_init 9 = .ok (.putfield 9, 3) := by decide +kernel
theorem d_P_init_12 : decode b_P_init 12 = .ok (.aload_n 0, 1) := by decide +kernel
theorem d_P_init_13 : decode b_P_init 13 = .ok (.iload_n 3, 1) := by decide +kernel
theorem d_P_init_14 : decode b_P_init 14 = .ok (.putfield 15, 3) := by decide +kernel
theorem d_P_init_17 : decode b_P_init 17 = .ok (.aload_n 0, 1) := by decide +kernel
theorem d_P_init_18 : decode b_P_init 18 = .ok (.iload 4, 2) := by decide +kernel
theorem d_P_init_20 : decode b_P_init 20 = .ok (.putfield 19, 3) := by decide +kernel
theorem d_P_init_23 : decode b_P_init 23 = .ok (.aload_n 0, 1) := by decide +kernel
theorem d_P_init_24 : decode b_P_init 24 = .ok (.aload_n 1, 1) := by decide +kernel
theorem d_P_init_25 : decode b_P_init 25 = .ok (.getfield 22, 3) := by decide +kernel
theorem d_P_init_28 : decode b_P_init 28 = .ok (.putfield 27, 3) := by decide +kernel
theorem d_P_init_31 : decode b_P_init 31 = .ok (.return_, 1) := by decide +kernel
theorem d_P_start_0 : decode b_P_start 0 = .ok (.aload_n 0, 1) := by decide +kernel
theorem d_P_start_1 : decode b_P_start 1 = .ok (.getfield 15, 3) := by decide +kernel
theorem d_P_start_4 : decode b_P_start 4 = .ok (.ireturn, 1) := by decide +kernel
theorem d_P_count_0 : decode b_P_count 0 = .ok (.aload_n 0, 1) := by decide +kernel
theorem d_P_count_1 : decode b_P_count 1 = .ok (.getfield 19, 3) := by decide +kernel
theorem d_P_count_4 : decode b_P_count 4 = .ok (.ireturn, 1) := by decide +kernel
theorem d_P_isStale_0 : decode b_P_isStale 0 = .ok (.aload_n 0, 1) := by decide +kernel
theorem d_P_isStale_1 : decode b_P_isStale 1 = .ok (.getfield 27, 3) := by decide +kernel
theorem d_P_isStale_4 : decode b_P_isStale 4 = .ok (.aload_n 0, 1) := by decide +kernel
theorem d_P_isStale_5 : decode b_P_isStale 5 = .ok (.getfield 30, 3) := by decide +kernel
theorem d_P_isStale_8 : decode b_P_isStale 8 = .ok (.getfield 22, 3) := by decide +kernel
theorem d_P_isStale_11 : decode b_P_isStale 11 = .ok (.if_icmp .eq 7, 3) := by decide +kernel
theorem d_P_isStale_14 : decode b_P_isStale 14 = .ok (.iconst 1, 1) := by decide +kernel
theorem d_P_isStale_15 : decode b_P_isStale 15 = .ok (.goto 4, 3) := by decide +kernel
theorem d_P_isStale_18 : decode b_P_isStale 18 = .ok (.iconst 0, 1) := by decide +kernel
theorem d_P_isStale_19 : decode b_P_isStale 19 = .ok (.ireturn, 1) := by decide +kernel
theorem d_P_follow_0 : decode b_P_follow 0 = .ok (.aload_n 0, 1) := by decide +kernel
theorem d_P_follow_1 : decode b_P_follow 1 = .ok (.astore_n 2, 1) := by decide +kernel
theorem d_P_follow_2 : decode b_P_follow 2 = .ok (.aload_n 2, 1) := by decide +kernel
theorem d_P_follow_3 : decode b_P_follow 3 = .ok (.ifnull 32, 3) := by decide +kernel
theorem d_P_follow_6 : decode b_P_follow 6 = .ok (.aload_n 2, 1) := by decide +kernel
theorem d_P_follow_7 : decode b_P_follow 7 = .ok (.dup, 1) := by decide +kernel
theorem d_P_follow_8 : decode b_P_follow 8 = .ok (.getfield 19, 3) := by decide +kernel
theorem d_P_follow_11 : decode b_P_follow 11 = .ok (.iload_n 1, 1) := by decide +kernel
theorem d_P_follow_12 : decode b_P_follow 12 = .ok (.iadd, 1) := by decide +kernel
theorem d_P_follow_13 : decode b_P_follow 13 = .ok (.putfield 19, 3) := by decide +kernel
theorem d_P_follow_16 : decode b_P_follow 16 = .ok (.aload_n 2, 1) := by decide +kernel
theorem d_P_follow_17 : decode b_P_follow 17 = .ok (.aload_n 0, 1) := by decide +kernel
theorem d_P_follow_18 : decode b_P_follow 18 = .ok (.getfield 30, 3) := by decide +kernel
theorem d_P_follow_21 : decode b_P_follow 21 = .ok (.getfield 22, 3) := by decide +kernel
theorem d_P_follow_24 : decode b_P_follow 24 = .ok (.putfield 27, 3) := by decide +kernel
theorem d_P_follow_27 : decode b_P_follow 27 = .ok (.aload_n 2, 1) := by decide +kernel
theorem d_P_follow_28 : decode b_P_follow 28 = .ok (.getfield 9, 3) := by decide +kernel
theorem d_P_follow_31 : decode b_P_follow 31 = .ok (.astore_n 2, 1) := by decide +kernel
theorem d_P_follow_32 : decode b_P_follow 32 = .ok (.goto (-30), 3) := by decide +kernel
theorem d_P_follow_35 : decode b_P_follow 35 = .ok (.return_, 1) := by decide +kernel
theorem d_R_init_0 : decode b_R_init 0 = .ok (.aload_n 0, 1) := by decide +kernel
theorem d_R_init_1 : decode b_R_init 1 = .ok (.bipush 7, 2) := by decide +kernel
theorem d_R_init_3 : decode b_R_init 3 = .ok (.aload_n 1, 1) := by decide +kernel
theorem d_R_init_4 : decode b_R_init 4 = .ok (.invokespecial 3, 3) := by decide +kernel
theorem d_R_init_7 : decode b_R_init 7 = .ok (.aload_n 0, 1) := by decide +kernel
theorem d_R_init_8 : decode b_R_init 8 = .ok (.iload_n 2, 1) := by decide +kernel
theorem d_R_init_9 : decode b_R_init 9 = .ok (.putfield 9, 3) := by decide +kernel
theorem d_R_init_12 : decode b_R_init 12 = .ok (.aload_n 0, 1) := by decide +kernel
theorem d_R_init_13 : decode b_R_init 13 = .ok (.iload_n 3, 1) := by decide +kernel
theorem d_R_init_14 : decode b_R_init 14 = .ok (.putfield 15, 3) := by decide +kernel
theorem d_R_init_17 : decode b_R_init 17 = .ok (.return_, 1) := by decide +kernel
theorem d_R_start_0 : decode b_R_start 0 = .ok (.aload_n 0, 1) := by decide +kernel
theorem d_R_start_1 : decode b_R_start 1 = .ok (.getfield 18, 3) := by decide +kernel
theorem d_R_start_4 : decode b_R_start 4 = .ok (.aload_n 0, 1) := by decide +kernel
theorem d_R_start_5 : decode b_R_start 5 = .ok (.getfield 9, 3) := by decide +kernel
theorem d_R_start_8 : decode b_R_start 8 = .ok (.iconst 0, 1) := by decide +kernel
theorem d_R_start_9 : decode b_R_start 9 = .ok (.invokevirtual 22, 3) := by decide +kernel
theorem d_R_start_12 : decode b_R_start 12 = .ok (.ireturn, 1) := by decide +kernel
theorem d_R_count_0 : decode b_R_count 0 = .ok (.iconst 0, 1) := by decide +kernel
theorem d_R_count_1 : decode b_R_count 1 = .ok (.aload_n 0, 1) := by decide +kernel
theorem d_R_count_2 : decode b_R_count 2 = .ok (.getfield 18, 3) := by decide +kernel
theorem d_R_count_5 : decode b_R_count 5 = .ok (.aload_n 0, 1) := by decide +kernel
theorem d_R_count_6 : decode b_R_count 6 = .ok (.getfield 15, 3) := by decide +kernel
theorem d_R_count_9 : decode b_R_count 9 = .ok (.iconst 1, 1) := by decide +kernel
theorem d_R_count_10 : decode b_R_count 10 = .ok (.invokevirtual 22, 3) := by decide +kernel
theorem d_R_count_13 : decode b_R_count 13 = .ok (.aload_n 0, 1) := by decide +kernel
theorem d_R_count_14 : decode b_R_count 14 = .ok (.invokevirtual 28, 3) := by decide +kernel
theorem d_R_count_17 : decode b_R_count 17 = .ok (.isub, 1) := by decide +kernel
theorem d_R_count_18 : decode b_R_count 18 = .ok (.invokestatic 32, 3) := by decide +kernel
theorem d_R_count_21 : decode b_R_count 21 = .ok (.ireturn, 1) := by decide +kernel
theorem d_R_covers_0 : decode b_R_covers 0 = .ok (.iload_n 1, 1) := by decide +kernel
theorem d_R_covers_1 : decode b_R_covers 1 = .ok (.aload_n 0, 1) := by decide +kernel
theorem d_R_covers_2 : decode b_R_covers 2 = .ok (.getfield 9, 3) := by decide +kernel
theorem d_R_covers_5 : decode b_R_covers 5 = .ok (.if_icmp .lt 15, 3) := by decide +kernel
theorem d_R_covers_8 : decode b_R_covers 8 = .ok (.iload_n 1, 1) := by decide +kernel
theorem d_R_covers_9 : decode b_R_covers 9 = .ok (.aload_n 0, 1) := by decide +kernel
theorem d_R_covers_10 : decode b_R_covers 10 = .ok (.getfield 15, 3) := by decide +kernel
theorem d_R_covers_13 : decode b_R_covers 13 = .ok (.if_icmp .gt 7, 3) := by decide +kernel
theorem d_R_covers_16 : decode b_R_covers 16 = .ok (.iconst 1, 1) := by decide +kernel
theorem d_R_covers_17 : decode b_R_covers 17 = .ok (.goto 4, 3) := by decide +kernel
theorem d_R_covers_20 : decode b_R_covers 20 = .ok (.iconst 0, 1) := by decide +kernel
theorem d_R_covers_21 : decode b_R_covers 21 = .ok (.ireturn, 1) := by decide +kernel
theorem d_W_init_0 : decode b_W_init 0 = .ok (.aload_n 0, 1) := by decide +kernel
theorem d_W_init_1 : decode b_W_init 1 = .ok (.invokespecial 3, 3) := by decide +kernel
theorem d_W_init_4 : decode b_W_init 4 = .ok (.aload_n 0, 1) := by decide +kernel
theorem d_W_init_5 : decode b_W_init 5 = .ok (.aconst_null, 1) := by decide +kernel
theorem d_W_init_6 : decode b_W_init 6 = .ok (.putfield 9, 3) := by decide +kernel
theorem d_W_init_9 : decode b_W_init 9 = .ok (.aload_n 0, 1) := by decide +kernel
theorem d_W_init_10 : decode b_W_init 10 = .ok (.iconst 0, 1) := by decide +kernel
theorem d_W_init_11 : decode b_W_init 11 = .ok (.putfield 15, 3) := by decide +kernel
theorem d_W_init_14 : decode b_W_init 14 = .ok (.aload_n 0, 1) := by decide +kernel
theorem d_W_init_15 : decode b_W_init 15 = .ok (.iconst (-1), 1) := by decide +kernel
theorem d_W_init_16 : decode b_W_init 16 = .ok (.putfield 19, 3) := by decide +kernel
theorem d_W_init_19 : decode b_W_init 19 = .ok (.aload_n 0, 1) := by decide +kernel
theorem d_W_init_20 : decode b_W_init 20 = .ok (.iconst 0, 1) := by decide +kernel
theorem d_W_init_21 : decode b_W_init 21 = .ok (.putfield 22, 3) := by decide +kernel
theorem d_W_init_24 : decode b_W_init 24 = .ok (.return_, 1) := by decide +kernel
theorem d_W_begin_0 : decode b_W_begin 0 = .ok (.aload_n 0, 1) := by decide +kernel
theorem d_W_begin_1 : decode b_W_begin 1 = .ok (.aload_n 1, 1) := by decide +kernel
theorem d_W_begin_2 : decode b_W_begin 2 = .ok (.putfield 9, 3) := by decide +kernel
theorem d_W_begin_5 : decode b_W_begin 5 = .ok (.aload_n 0, 1) := by decide +kernel
theorem d_W_begin_6 : decode b_W_begin 6 = .ok (.iconst 0, 1) := by decide +kernel
theorem d_W_begin_7 : decode b_W_begin 7 = .ok (.invokevirtual 25, 3) := by decide +kernel
theorem d_W_begin_10 : decode b_W_begin 10 = .ok (.return_, 1) := by decide +kernel
theorem d_W_standAt_0 : decode b_W_standAt 0 = .ok (.aload_n 0, 1) := by decide +kernel
theorem d_W_standAt_1 : decode b_W_standAt 1 = .ok (.getfield 9, 3) := by decide +kernel
theorem d_W_standAt_4 : decode b_W_standAt 4 = .ok (.ifnull 27, 3) := by decide +kernel
theorem d_W_standAt_7 : decode b_W_standAt 7 = .ok (.aload_n 0, 1) := by decide +kernel
theorem d_W_standAt_8 : decode b_W_standAt 8 = .ok (.iload_n 1, 1) := by decide +kernel
theorem d_W_standAt_9 : decode b_W_standAt 9 = .ok (.putfield 15, 3) := by decide +kernel
theorem d_W_standAt_12 : decode b_W_standAt 12 = .ok (.aload_n 0, 1) := by decide +kernel
theorem d_W_standAt_13 : decode b_W_standAt 13 = .ok (.iconst (-1), 1) := by decide +kernel
theorem d_W_standAt_14 : decode b_W_standAt 14 = .ok (.putfield 19, 3) := by decide +kernel
theorem d_W_standAt_17 : decode b_W_standAt 17 = .ok (.aload_n 0, 1) := by decide +kernel
theorem d_W_standAt_18 : decode b_W_standAt 18 = .ok (.aload_n 0, 1) := by decide +kernel
theorem d_W_standAt_19 : decode b_W_standAt 19 = .ok (.getfield 9, 3) := by decide +kernel
theorem d_W_standAt_22 : decode b_W_standAt 22 = .ok (.getfield 29, 3) := by decide +kernel
theorem d_W_standAt_25 : decode b_W_standAt 25 = .ok (.getfield 35, 3) := by decide +kernel
theorem d_W_standAt_28 : decode b_W_standAt 28 = .ok (.putfield 22, 3) := by decide +kernel
theorem d_W_standAt_31 : decode b_W_standAt 31 = .ok (.return_, 1) := by decide +kernel
theorem d_W_goOver_0 : decode b_W_goOver 0 = .ok (.aload_n 0, 1) := by decide +kernel
theorem d_W_goOver_1 : decode b_W_goOver 1 = .ok (.iload_n 2, 1) := by decide +kernel
theorem d_W_goOver_2 : decode b_W_goOver 2 = .ok (.ifCond .eq 9, 3) := by decide +kernel
theorem d_W_goOver_5 : decode b_W_goOver 5 = .ok (.iload_n 1, 1) := by decide +kernel
theorem d_W_goOver_6 : decode b_W_goOver 6 = .ok (.iconst 1, 1) := by decide +kernel
theorem d_W_goOver_7 : decode b_W_goOver 7 = .ok (.iadd, 1) := by decide +kernel
theorem d_W_goOver_8 : decode b_W_goOver 8 = .ok (.goto 4, 3) := by decide +kernel
theorem d_W_goOver_11 : decode b_W_goOver 11 = .ok (.iload_n 1, 1) := by decide +kernel
theorem d_W_goOver_12 : decode b_W_goOver 12 = .ok (.putfield 15, 3) := by decide +kernel
theorem d_W_goOver_15 : decode b_W_goOver 15 = .ok (.aload_n 0, 1) := by decide +kernel
theorem d_W_goOver_16 : decode b_W_goOver 16 = .ok (.iload_n 1, 1) := by decide +kernel
theorem d_W_goOver_17 : decode b_W_goOver 17 = .ok (.putfield 19, 3) := by decide +kernel
theorem d_W_goOver_20 : decode b_W_goOver 20 = .ok (.return_, 1) := by decide +kernel
theorem d_W_isStale_0 : decode b_W_isStale 0 = .ok (.aload_n 0, 1) := by decide +kernel
theorem d_W_isStale_1 : decode b_W_isStale 1 = .ok (.getfield 9, 3) := by decide +kernel
theorem d_W_isStale_4 : decode b_W_isStale 4 = .ok (.ifnull 30, 3) := by decide +kernel
theorem d_W_isStale_7 : decode b_W_isStale 7 = .ok (.aload_n 0, 1) := by decide +kernel
theorem d_W_isStale_8 : decode b_W_isStale 8 = .ok (.getfield 9, 3) := by decide +kernel
theorem d_W_isStale_11 : decode b_W_isStale 11 = .ok (.invokevirtual 40, 3) := by decide +kernel
theorem d_W_isStale_14 : decode b_W_isStale 14 = .ok (.ifCond .ne 20, 3) := by decide +kernel
theorem d_W_isStale_17 : decode b_W_isStale 17 = .ok (.aload_n 0, 1) := by decide +kernel
theorem d_W_isStale_18 : decode b_W_isStale 18 = .ok (.getfield 22, 3) := by decide +kernel
theorem d_W_isStale_21 : decode b_W_isStale 21 = .ok (.aload_n 0, 1) := by decide +kernel
theorem d_W_isStale_22 : decode b_W_isStale 22 = .ok (.getfield 9, 3) := by decide +kernel
theorem d_W_isStale_25 : decode b_W_isStale 25 = .ok (.getfield 29, 3) := by decide +kernel
theorem d_W_isStale_28 : decode b_W_isStale 28 = .ok (.getfield 35, 3) := by decide +kernel
theorem d_W_isStale_31 : decode b_W_isStale 31 = .ok (.if_icmp .eq 7, 3) := by decide +kernel
theorem d_W_isStale_34 : decode b_W_isStale 34 = .ok (.iconst 1, 1) := by decide +kernel
theorem d_W_isStale_35 : decode b_W_isStale 35 = .ok (.goto 4, 3) := by decide +kernel
theorem d_W_isStale_38 : decode b_W_isStale 38 = .ok (.iconst 0, 1) := by decide +kernel
theorem d_W_isStale_39 : decode b_W_isStale 39 = .ok (.ireturn, 1) := by decide +kernel
theorem d_G_init_0 : decode b_G_init 0 = .ok (.aload_n 0, 1) := by decide +kernel
theorem d_G_init_1 : decode b_G_init 1 = .ok (.iload_n 1, 1) := by decide +kernel
theorem d_G_init_2 : decode b_G_init 2 = .ok (.new 1, 3) := by decide +kernel
theorem d_G_init_5 : decode b_G_init 5 = .ok (.dup, 1) := by decide +kernel
theorem d_G_init_6 : decode b_G_init 6 = .ok (.iload_n 1, 1) := by decide +kernel
theorem d_G_init_7 : decode b_G_init 7 = .ok (.invokespecial 3, 3) := by decide +kernel
theorem d_G_init_10 : decode b_G_init 10 = .ok (.invokespecial 7, 3) := by decide +kernel
theorem d_G_init_13 : decode b_G_init 13 = .ok (.return_, 1) := by decide +kernel
theorem d_G_start_0 : decode b_G_start 0 = .ok (.iconst 0, 1) := by decide +kernel
theorem d_G_start_1 : decode b_G_start 1 = .ok (.ireturn, 1) := by decide +kernel
theorem d_G_count_0 : decode b_G_count 0 = .ok (.aload_n 0, 1) := by decide +kernel
theorem d_G_count_1 : decode b_G_count 1 = .ok (.getfield 12, 3) := by decide +kernel
theorem d_G_count_4 : decode b_G_count 4 = .ok (.getfield 18, 3) := by decide +kernel
theorem d_G_count_7 : decode b_G_count 7 = .ok (.ireturn, 1) := by decide +kernel
