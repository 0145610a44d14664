theorem d_L_create_0 : decode b_L_create 0 = .ok (.aload_n 2, 1) := by decide +kernel
theorem d_L_create_1 : decode b_L_create 1 = .ok (.iconst 0, 1) := by decide +kernel
theorem d_L_create_2 : decode b_L_create 2 = .ok (.aload_n 0, 1) := by decide +kernel
theorem d_L_create_3 : decode b_L_create 3 = .ok (.iload_n 1, 1) := by decide +kernel
theorem d_L_create_4 : decode b_L_create 4 = .ok (.invokevirtual 7, 3) := by decide +kernel
theorem d_L_create_7 : decode b_L_create 7 = .ok (.i2l, 1) := by decide +kernel
theorem d_L_create_8 : decode b_L_create 8 = .ok (.lastore, 1) := by decide +kernel
theorem d_L_create_9 : decode b_L_create 9 = .ok (.goto 9, 3) := by decide +kernel
theorem d_L_create_12 : decode b_L_create 12 = .ok (.astore_n 3, 1) := by decide +kernel
theorem d_L_create_13 : decode b_L_create 13 = .ok (.iconst 1, 1) := by decide +kernel
theorem d_L_create_14 : decode b_L_create 14 = .ok (.ireturn, 1) := by decide +kernel
theorem d_L_create_15 : decode b_L_create 15 = .ok (.astore_n 3, 1) := by decide +kernel
theorem d_L_create_16 : decode b_L_create 16 = .ok (.iconst 2, 1) := by decide +kernel
theorem d_L_create_17 : decode b_L_create 17 = .ok (.ireturn, 1) := by decide +kernel
theorem d_L_create_18 : decode b_L_create 18 = .ok (.iconst 0, 1) := by decide +kernel
theorem d_L_create_19 : decode b_L_create 19 = .ok (.ireturn, 1) := by decide +kernel
theorem d_L_view_0 : decode b_L_view 0 = .ok (.aload 4, 2) := by decide +kernel
theorem d_L_view_2 : decode b_L_view 2 = .ok (.iconst 0, 1) := by decide +kernel
theorem d_L_view_3 : decode b_L_view 3 = .ok (.aload_n 0, 1) := by decide +kernel
theorem d_L_view_4 : decode b_L_view 4 = .ok (.iload_n 1, 1) := by decide +kernel
theorem d_L_view_5 : decode b_L_view 5 = .ok (.iload_n 2, 1) := by decide +kernel
theorem d_L_view_6 : decode b_L_view 6 = .ok (.iload_n 3, 1) := by decide +kernel
theorem d_L_view_7 : decode b_L_view 7 = .ok (.invokevirtual 17, 3) := by decide +kernel
theorem d_L_view_10 : decode b_L_view 10 = .ok (.i2l, 1) := by decide +kernel
theorem d_L_view_11 : decode b_L_view 11 = .ok (.lastore, 1) := by decide +kernel
theorem d_L_view_12 : decode b_L_view 12 = .ok (.goto 23, 3) := by decide +kernel
theorem d_L_view_15 : decode b_L_view 15 = .ok (.astore 5, 2) := by decide +kernel
theorem d_L_view_17 : decode b_L_view 17 = .ok (.iconst 1, 1) := by decide +kernel
theorem d_L_view_18 : decode b_L_view 18 = .ok (.ireturn, 1) := by decide +kernel
theorem d_L_view_19 : decode b_L_view 19 = .ok (.astore 5, 2) := by decide +kernel
theorem d_L_view_21 : decode b_L_view 21 = .ok (.iconst 2, 1) := by decide +kernel
theorem d_L_view_22 : decode b_L_view 22 = .ok (.ireturn, 1) := by decide +kernel
theorem d_L_view_23 : decode b_L_view 23 = .ok (.astore 5, 2) := by decide +kernel
theorem d_L_view_25 : decode b_L_view 25 = .ok (.iconst 3, 1) := by decide +kernel
theorem d_L_view_26 : decode b_L_view 26 = .ok (.ireturn, 1) := by decide +kernel
theorem d_L_view_27 : decode b_L_view 27 = .ok (.astore 5, 2) := by decide +kernel
theorem d_L_view_29 : decode b_L_view 29 = .ok (.iconst 4, 1) := by decide +kernel
theorem d_L_view_30 : decode b_L_view 30 = .ok (.ireturn, 1) := by decide +kernel
theorem d_L_view_31 : decode b_L_view 31 = .ok (.astore 5, 2) := by decide +kernel
theorem d_L_view_33 : decode b_L_view 33 = .ok (.iconst 5, 1) := by decide +kernel
theorem d_L_view_34 : decode b_L_view 34 = .ok (.ireturn, 1) := by decide +kernel
theorem d_L_view_35 : decode b_L_view 35 = .ok (.iconst 0, 1) := by decide +kernel
theorem d_L_view_36 : decode b_L_view 36 = .ok (.ireturn, 1) := by decide +kernel
theorem d_L_kind_0 : decode b_L_kind 0 = .ok (.aload_n 2, 1) := by decide +kernel
theorem d_L_kind_1 : decode b_L_kind 1 = .ok (.iconst 0, 1) := by decide +kernel
theorem d_L_kind_2 : decode b_L_kind 2 = .ok (.aload_n 0, 1) := by decide +kernel
theorem d_L_kind_3 : decode b_L_kind 3 = .ok (.iload_n 1, 1) := by decide +kernel
theorem d_L_kind_4 : decode b_L_kind 4 = .ok (.invokevirtual 27, 3) := by decide +kernel
theorem d_L_kind_7 : decode b_L_kind 7 = .ok (.i2l, 1) := by decide +kernel
theorem d_L_kind_8 : decode b_L_kind 8 = .ok (.lastore, 1) := by decide +kernel
theorem d_L_kind_9 : decode b_L_kind 9 = .ok (.goto 6, 3) := by decide +kernel
theorem d_L_kind_12 : decode b_L_kind 12 = .ok (.astore_n 3, 1) := by decide +kernel
theorem d_L_kind_13 : decode b_L_kind 13 = .ok (.iconst 1, 1) := by decide +kernel
theorem d_L_kind_14 : decode b_L_kind 14 = .ok (.ireturn, 1) := by decide +kernel
theorem d_L_kind_15 : decode b_L_kind 15 = .ok (.iconst 0, 1) := by decide +kernel
theorem d_L_kind_16 : decode b_L_kind 16 = .ok (.ireturn, 1) := by decide +kernel
theorem d_L_size_0 : decode b_L_size 0 = .ok (.aload_n 2, 1) := by decide +kernel
theorem d_L_size_1 : decode b_L_size 1 = .ok (.iconst 0, 1) := by decide +kernel
theorem d_L_size_2 : decode b_L_size 2 = .ok (.aload_n 0, 1) := by decide +kernel
theorem d_L_size_3 : decode b_L_size 3 = .ok (.iload_n 1, 1) := by decide +kernel
theorem d_L_size_4 : decode b_L_size 4 = .ok (.invokevirtual 30, 3) := by decide +kernel
theorem d_L_size_7 : decode b_L_size 7 = .ok (.i2l, 1) := by decide +kernel
theorem d_L_size_8 : decode b_L_size 8 = .ok (.lastore, 1) := by decide +kernel
theorem d_L_size_9 : decode b_L_size 9 = .ok (.goto 9, 3) := by decide +kernel
theorem d_L_size_12 : decode b_L_size 12 = .ok (.astore_n 3, 1) := by decide +kernel
theorem d_L_size_13 : decode b_L_size 13 = .ok (.iconst 1, 1) := by decide +kernel
theorem d_L_size_14 : decode b_L_size 14 = .ok (.ireturn, 1) := by decide +kernel
theorem d_L_size_15 : decode b_L_size 15 = .ok (.astore_n 3, 1) := by decide +kernel
theorem d_L_size_16 : decode b_L_size 16 = .ok (.iconst 2, 1) := by decide +kernel
theorem d_L_size_17 : decode b_L_size 17 = .ok (.ireturn, 1) := by decide +kernel
theorem d_L_size_18 : decode b_L_size 18 = .ok (.iconst 0, 1) := by decide +kernel
theorem d_L_size_19 : decode b_L_size 19 = .ok (.ireturn, 1) := by decide +kernel
theorem d_L_get_0 : decode b_L_get 0 = .ok (.aload_n 3, 1) := by decide +kernel
theorem d_L_get_1 : decode b_L_get 1 = .ok (.iconst 0, 1) := by decide +kernel
theorem d_L_get_2 : decode b_L_get 2 = .ok (.aload_n 0, 1) := by decide +kernel
theorem d_L_get_3 : decode b_L_get 3 = .ok (.iload_n 1, 1) := by decide +kernel
theorem d_L_get_4 : decode b_L_get 4 = .ok (.iload_n 2, 1) := by decide +kernel
theorem d_L_get_5 : decode b_L_get 5 = .ok (.invokevirtual 33, 3) := by decide +kernel
theorem d_L_get_8 : decode b_L_get 8 = .ok (.i2l, 1) := by decide +kernel
theorem d_L_get_9 : decode b_L_get 9 = .ok (.lastore, 1) := by decide +kernel
theorem d_L_get_10 : decode b_L_get 10 = .ok (.goto 19, 3) := by decide +kernel
theorem d_L_get_13 : decode b_L_get 13 = .ok (.astore 4, 2) := by decide +kernel
theorem d_L_get_15 : decode b_L_get 15 = .ok (.iconst 1, 1) := by decide +kernel
theorem d_L_get_16 : decode b_L_get 16 = .ok (.ireturn, 1) := by decide +kernel
theorem d_L_get_17 : decode b_L_get 17 = .ok (.astore 4, 2) := by decide +kernel
theorem d_L_get_19 : decode b_L_get 19 = .ok (.iconst 2, 1) := by decide +kernel
theorem d_L_get_20 : decode b_L_get 20 = .ok (.ireturn, 1) := by decide +kernel
theorem d_L_get_21 : decode b_L_get 21 = .ok (.astore 4, 2) := by decide +kernel
theorem d_L_get_23 : decode b_L_get 23 = .ok (.iconst 3, 1) := by decide +kernel
theorem d_L_get_24 : decode b_L_get 24 = .ok (.ireturn, 1) := by decide +kernel
theorem d_L_get_25 : decode b_L_get 25 = .ok (.astore 4, 2) := by decide +kernel
theorem d_L_get_27 : decode b_L_get 27 = .ok (.iconst 4, 1) := by decide +kernel
theorem d_L_get_28 : decode b_L_get 28 = .ok (.ireturn, 1) := by decide +kernel
theorem d_L_get_29 : decode b_L_get 29 = .ok (.iconst 0, 1) := by decide +kernel
theorem d_L_get_30 : decode b_L_get 30 = .ok (.ireturn, 1) := by decide +kernel
theorem d_L_set_0 : decode b_L_set 0 = .ok (.aload 4, 2) := by decide +kernel
theorem d_L_set_2 : decode b_L_set 2 = .ok (.iconst 0, 1) := by decide +kernel
theorem d_L_set_3 : decode b_L_set 3 = .ok (.aload_n 0, 1) := by decide +kernel
theorem d_L_set_4 : decode b_L_set 4 = .ok (.iload_n 1, 1) := by decide +kernel
theorem d_L_set_5 : decode b_L_set 5 = .ok (.iload_n 2, 1) := by decide +kernel
theorem d_L_set_6 : decode b_L_set 6 = .ok (.iload_n 3, 1) := by decide +kernel
theorem d_L_set_7 : decode b_L_set 7 = .ok (.invokevirtual 39, 3) := by decide +kernel
theorem d_L_set_10 : decode b_L_set 10 = .ok (.i2l, 1) := by decide +kernel
theorem d_L_set_11 : decode b_L_set 11 = .ok (.lastore, 1) := by decide +kernel
theorem d_L_set_12 : decode b_L_set 12 = .ok (.goto 19, 3) := by decide +kernel
theorem d_L_set_15 : decode b_L_set 15 = .ok (.astore 5, 2) := by decide +kernel
theorem d_L_set_17 : decode b_L_set 17 = .ok (.iconst 1, 1) := by decide +kernel
theorem d_L_set_18 : decode b_L_set 18 = .ok (.ireturn, 1) := by decide +kernel
theorem d_L_set_19 : decode b_L_set 19 = .ok (.astore 5, 2) := by decide +kernel
theorem d_L_set_21 : decode b_L_set 21 = .ok (.iconst 2, 1) := by decide +kernel
theorem d_L_set_22 : decode b_L_set 22 = .ok (.ireturn, 1) := by decide +kernel
theorem d_L_set_23 : decode b_L_set 23 = .ok (.astore 5, 2) := by decide +kernel
theorem d_L_set_25 : decode b_L_set 25 = .ok (.iconst 3, 1) := by decide +kernel
theorem d_L_set_26 : decode b_L_set 26 = .ok (.ireturn, 1) := by decide +kernel
theorem d_L_set_27 : decode b_L_set 27 = .ok (.astore 5, 2) := by decide +kernel
theorem d_L_set_29 : decode b_L_set 29 = .ok (.iconst 4, 1) := by decide +kernel
theorem d_L_set_30 : decode b_L_set 30 = .ok (.ireturn, 1) := by decide +kernel
theorem d_L_set_31 : decode b_L_set 31 = .ok (.iconst 0, 1) := by decide +kernel
theorem d_L_set_32 : decode b_L_set 32 = .ok (.ireturn, 1) := by decide +kernel
theorem d_L_insert_0 : decode b_L_insert 0 = .ok (.aload_n 0, 1) := by decide +kernel
theorem d_L_insert_1 : decode b_L_insert 1 = .ok (.iload_n 1, 1) := by decide +kernel
theorem d_L_insert_2 : decode b_L_insert 2 = .ok (.iload_n 2, 1) := by decide +kernel
theorem d_L_insert_3 : decode b_L_insert 3 = .ok (.iload_n 3, 1) := by decide +kernel
theorem d_L_insert_4 : decode b_L_insert 4 = .ok (.invokevirtual 42, 3) := by decide +kernel
theorem d_L_insert_7 : decode b_L_insert 7 = .ok (.goto 23, 3) := by decide +kernel
theorem d_L_insert_10 : decode b_L_insert 10 = .ok (.astore 4, 2) := by decide +kernel
theorem d_L_insert_12 : decode b_L_insert 12 = .ok (.iconst 1, 1) := by decide +kernel
theorem d_L_insert_13 : decode b_L_insert 13 = .ok (.ireturn, 1) := by decide +kernel
theorem d_L_insert_14 : decode b_L_insert 14 = .ok (.astore 4, 2) := by decide +kernel
theorem d_L_insert_16 : decode b_L_insert 16 = .ok (.iconst 2, 1) := by decide +kernel
theorem d_L_insert_17 : decode b_L_insert 17 = .ok (.ireturn, 1) := by decide +kernel
theorem d_L_insert_18 : decode b_L_insert 18 = .ok (.astore 4, 2) := by decide +kernel
theorem d_L_insert_20 : decode b_L_insert 20 = .ok (.iconst 3, 1) := by decide +kernel
theorem d_L_insert_21 : decode b_L_insert 21 = .ok (.ireturn, 1) := by decide +kernel
theorem d_L_insert_22 : decode b_L_insert 22 = .ok (.astore 4, 2) := by decide +kernel
theorem d_L_insert_24 : decode b_L_insert 24 = .ok (.iconst 4, 1) := by decide +kernel
theorem d_L_insert_25 : decode b_L_insert 25 = .ok (.ireturn, 1) := by decide +kernel
theorem d_L_insert_26 : decode b_L_insert 26 = .ok (.astore 4, 2) := by decide +kernel
theorem d_L_insert_28 : decode b_L_insert 28 = .ok (.iconst 5, 1) := by decide +kernel
theorem d_L_insert_29 : decode b_L_insert 29 = .ok (.ireturn, 1) := by decide +kernel
theorem d_L_insert_30 : decode b_L_insert 30 = .ok (.iconst 0, 1) := by decide +kernel
theorem d_L_insert_31 : decode b_L_insert 31 = .ok (.ireturn, 1) := by decide +kernel
theorem d_L_remove_0 : decode b_L_remove 0 = .ok (.aload_n 3, 1) := by decide +kernel
theorem d_L_remove_1 : decode b_L_remove 1 = .ok (.iconst 0, 1) := by decide +kernel
theorem d_L_remove_2 : decode b_L_remove 2 = .ok (.aload_n 0, 1) := by decide +kernel
theorem d_L_remove_3 : decode b_L_remove 3 = .ok (.iload_n 1, 1) := by decide +kernel
theorem d_L_remove_4 : decode b_L_remove 4 = .ok (.iload_n 2, 1) := by decide +kernel
theorem d_L_remove_5 : decode b_L_remove 5 = .ok (.invokevirtual 46, 3) := by decide +kernel
theorem d_L_remove_8 : decode b_L_remove 8 = .ok (.i2l, 1) := by decide +kernel
theorem d_L_remove_9 : decode b_L_remove 9 = .ok (.lastore, 1) := by decide +kernel
theorem d_L_remove_10 : decode b_L_remove 10 = .ok (.goto 19, 3) := by decide +kernel
theorem d_L_remove_13 : decode b_L_remove 13 = .ok (.astore 4, 2) := by decide +kernel
theorem d_L_remove_15 : decode b_L_remove 15 = .ok (.iconst 1, 1) := by decide +kernel
theorem d_L_remove_16 : decode b_L_remove 16 = .ok (.ireturn, 1) := by decide +kernel
theorem d_L_remove_17 : decode b_L_remove 17 = .ok (.astore 4, 2) := by decide +kernel
theorem d_L_remove_19 : decode b_L_remove 19 = .ok (.iconst 2, 1) := by decide +kernel
theorem d_L_remove_20 : decode b_L_remove 20 = .ok (.ireturn, 1) := by decide +kernel
theorem d_L_remove_21 : decode b_L_remove 21 = .ok (.astore 4, 2) := by decide +kernel
theorem d_L_remove_23 : decode b_L_remove 23 = .ok (.iconst 3, 1) := by decide +kernel
theorem d_L_remove_24 : decode b_L_remove 24 = .ok (.ireturn, 1) := by decide +kernel
theorem d_L_remove_25 : decode b_L_remove 25 = .ok (.astore 4, 2) := by decide +kernel
theorem d_L_remove_27 : decode b_L_remove 27 = .ok (.iconst 4, 1) := by decide +kernel
theorem d_L_remove_28 : decode b_L_remove 28 = .ok (.ireturn, 1) := by decide +kernel
theorem d_L_remove_29 : decode b_L_remove 29 = .ok (.iconst 0, 1) := by decide +kernel
theorem d_L_remove_30 : decode b_L_remove 30 = .ok (.ireturn, 1) := by decide +kernel
theorem d_L_sort_0 : decode b_L_sort 0 = .ok (.aload_n 0, 1) := by decide +kernel
theorem d_L_sort_1 : decode b_L_sort 1 = .ok (.iload_n 1, 1) := by decide +kernel
theorem d_L_sort_2 : decode b_L_sort 2 = .ok (.iload_n 2, 1) := by decide +kernel
theorem d_L_sort_3 : decode b_L_sort 3 = .ok (.invokevirtual 49, 3) := by decide +kernel
theorem d_L_sort_6 : decode b_L_sort 6 = .ok (.goto 15, 3) := by decide +kernel
theorem d_L_sort_9 : decode b_L_sort 9 = .ok (.astore_n 3, 1) := by decide +kernel
theorem d_L_sort_10 : decode b_L_sort 10 = .ok (.iconst 1, 1) := by decide +kernel
theorem d_L_sort_11 : decode b_L_sort 11 = .ok (.ireturn, 1) := by decide +kernel
theorem d_L_sort_12 : decode b_L_sort 12 = .ok (.astore_n 3, 1) := by decide +kernel
theorem d_L_sort_13 : decode b_L_sort 13 = .ok (.iconst 2, 1) := by decide +kernel
theorem d_L_sort_14 : decode b_L_sort 14 = .ok (.ireturn, 1) := by decide +kernel
theorem d_L_sort_15 : decode b_L_sort 15 = .ok (.astore_n 3, 1) := by decide +kernel
theorem d_L_sort_16 : decode b_L_sort 16 = .ok (.iconst 3, 1) := by decide +kernel
theorem d_L_sort_17 : decode b_L_sort 17 = .ok (.ireturn, 1) := by decide +kernel
theorem d_L_sort_18 : decode b_L_sort 18 = .ok (.astore_n 3, 1) := by decide +kernel
theorem d_L_sort_19 : decode b_L_sort 19 = .ok (.iconst 4, 1) := by decide +kernel
theorem d_L_sort_20 : decode b_L_sort 20 = .ok (.ireturn, 1) := by decide +kernel
theorem d_L_sort_21 : decode b_L_sort 21 = .ok (.iconst 0, 1) := by decide +kernel
theorem d_L_sort_22 : decode b_L_sort 22 = .ok (.ireturn, 1) := by decide +kernel
theorem d_L_put_0 : decode b_L_put 0 = .ok (.aload 4, 2) := by decide +kernel
theorem d_L_put_2 : decode b_L_put 2 = .ok (.iconst 0, 1) := by decide +kernel
theorem d_L_put_3 : decode b_L_put 3 = .ok (.aload_n 0, 1) := by decide +kernel
theorem d_L_put_4 : decode b_L_put 4 = .ok (.iload_n 1, 1) := by decide +kernel
theorem d_L_put_5 : decode b_L_put 5 = .ok (.iload_n 2, 1) := by decide +kernel
theorem d_L_put_6 : decode b_L_put 6 = .ok (.iload_n 3, 1) := by decide +kernel
theorem d_L_put_7 : decode b_L_put 7 = .ok (.invokevirtual 53, 3) := by decide +kernel
theorem d_L_put_10 : decode b_L_put 10 = .ok (.ifCond .eq 7, 3) := by decide +kernel
theorem d_L_put_13 : decode b_L_put 13 = .ok (.lconst 1, 1) := by decide +kernel
theorem d_L_put_14 : decode b_L_put 14 = .ok (.goto 4, 3) := by decide +kernel
theorem d_L_put_17 : decode b_L_put 17 = .ok (.lconst 0, 1) := by decide +kernel
theorem d_L_put_18 : decode b_L_put 18 = .ok (.lastore, 1) := by decide +kernel
theorem d_L_put_19 : decode b_L_put 19 = .ok (.goto 19, 3) := by decide +kernel
theorem d_L_put_22 : decode b_L_put 22 = .ok (.astore 5, 2) := by decide +kernel
theorem d_L_put_24 : decode b_L_put 24 = .ok (.iconst 1, 1) := by decide +kernel
theorem d_L_put_25 : decode b_L_put 25 = .ok (.ireturn, 1) := by decide +kernel
theorem d_L_put_26 : decode b_L_put 26 = .ok (.astore 5, 2) := by decide +kernel
theorem d_L_put_28 : decode b_L_put 28 = .ok (.iconst 2, 1) := by decide +kernel
theorem d_L_put_29 : decode b_L_put 29 = .ok (.ireturn, 1) := by decide +kernel
theorem d_L_put_30 : decode b_L_put 30 = .ok (.astore 5, 2) := by decide +kernel
theorem d_L_put_32 : decode b_L_put 32 = .ok (.iconst 3, 1) := by decide +kernel
theorem d_L_put_33 : decode b_L_put 33 = .ok (.ireturn, 1) := by decide +kernel
theorem d_L_put_34 : decode b_L_put 34 = .ok (.astore 5, 2) := by decide +kernel
theorem d_L_put_36 : decode b_L_put 36 = .ok (.iconst 4, 1) := by decide +kernel
theorem d_L_put_37 : decode b_L_put 37 = .ok (.ireturn, 1) := by decide +kernel
theorem d_L_put_38 : decode b_L_put 38 = .ok (.iconst 0, 1) := by decide +kernel
theorem d_L_put_39 : decode b_L_put 39 = .ok (.ireturn, 1) := by decide +kernel
theorem d_L_merge_0 : decode b_L_merge 0 = .ok (.aload 4, 2) := by decide +kernel
theorem d_L_merge_2 : decode b_L_merge 2 = .ok (.iconst 0, 1) := by decide +kernel
theorem d_L_merge_3 : decode b_L_merge 3 = .ok (.aload_n 0, 1) := by decide +kernel
theorem d_L_merge_4 : decode b_L_merge 4 = .ok (.iload_n 1, 1) := by decide +kernel
theorem d_L_merge_5 : decode b_L_merge 5 = .ok (.iload_n 2, 1) := by decide +kernel
theorem d_L_merge_6 : decode b_L_merge 6 = .ok (.iload_n 3, 1) := by decide +kernel
theorem d_L_merge_7 : decode b_L_merge 7 = .ok (.invokevirtual 57, 3) := by decide +kernel
theorem d_L_merge_10 : decode b_L_merge 10 = .ok (.i2l, 1) := by decide +kernel
theorem d_L_merge_11 : decode b_L_merge 11 = .ok (.lastore, 1) := by decide +kernel
theorem d_L_merge_12 : decode b_L_merge 12 = .ok (.goto 19, 3) := by decide +kernel
theorem d_L_merge_15 : decode b_L_merge 15 = .ok (.astore 5, 2) := by decide +kernel
theorem d_L_merge_17 : decode b_L_merge 17 = .ok (.iconst 1, 1) := by decide +kernel
theorem d_L_merge_18 : decode b_L_merge 18 = .ok (.ireturn, 1) := by decide +kernel
theorem d_L_merge_19 : decode b_L_merge 19 = .ok (.astore 5, 2) := by decide +kernel
theorem d_L_merge_21 : decode b_L_merge 21 = .ok (.iconst 2, 1) := by decide +kernel
theorem d_L_merge_22 : decode b_L_merge 22 = .ok (.ireturn, 1) := by decide +kernel
theorem d_L_merge_23 : decode b_L_merge 23 = .ok (.astore 5, 2) := by decide +kernel
theorem d_L_merge_25 : decode b_L_merge 25 = .ok (.iconst 3, 1) := by decide +kernel
theorem d_L_merge_26 : decode b_L_merge 26 = .ok (.ireturn, 1) := by decide +kernel
theorem d_L_merge_27 : decode b_L_merge 27 = .ok (.astore 5, 2) := by decide +kernel
theorem d_L_merge_29 : decode b_L_merge 29 = .ok (.iconst 4, 1) := by decide +kernel
theorem d_L_merge_30 : decode b_L_merge 30 = .ok (.ireturn, 1) := by decide +kernel
theorem d_L_merge_31 : decode b_L_merge 31 = .ok (.iconst 0, 1) := by decide +kernel
theorem d_L_merge_32 : decode b_L_merge 32 = .ok (.ireturn, 1) := by decide +kernel
theorem d_L_has_0 : decode b_L_has 0 = .ok (.aload_n 3, 1) := by decide +kernel
theorem d_L_has_1 : decode b_L_has 1 = .ok (.iconst 0, 1) := by decide +kernel
theorem d_L_has_2 : decode b_L_has 2 = .ok (.aload_n 0, 1) := by decide +kernel
theorem d_L_has_3 : decode b_L_has 3 = .ok (.iload_n 1, 1) := by decide +kernel
theorem d_L_has_4 : decode b_L_has 4 = .ok (.iload_n 2, 1) := by decide +kernel
theorem d_L_has_5 : decode b_L_has 5 = .ok (.invokevirtual 60, 3) := by decide +kernel
theorem d_L_has_8 : decode b_L_has 8 = .ok (.ifCond .eq 7, 3) := by decide +kernel
theorem d_L_has_11 : decode b_L_has 11 = .ok (.lconst 1, 1) := by decide +kernel
theorem d_L_has_12 : decode b_L_has 12 = .ok (.goto 4, 3) := by decide +kernel
theorem d_L_has_15 : decode b_L_has 15 = .ok (.lconst 0, 1) := by decide +kernel
theorem d_L_has_16 : decode b_L_has 16 = .ok (.lastore, 1) := by decide +kernel
theorem d_L_has_17 : decode b_L_has 17 = .ok (.goto 11, 3) := by decide +kernel
theorem d_L_has_20 : decode b_L_has 20 = .ok (.astore 4, 2) := by decide +kernel
theorem d_L_has_22 : decode b_L_has 22 = .ok (.iconst 1, 1) := by decide +kernel
theorem d_L_has_23 : decode b_L_has 23 = .ok (.ireturn, 1) := by decide +kernel
theorem d_L_has_24 : decode b_L_has 24 = .ok (.astore 4, 2) := by decide +kernel
theorem d_L_has_26 : decode b_L_has 26 = .ok (.iconst 2, 1) := by decide +kernel
theorem d_L_has_27 : decode b_L_has 27 = .ok (.ireturn, 1) := by decide +kernel
theorem d_L_has_28 : decode b_L_has 28 = .ok (.iconst 0, 1) := by decide +kernel
theorem d_L_has_29 : decode b_L_has 29 = .ok (.ireturn, 1) := by decide +kernel
theorem d_L_value_0 : decode b_L_value 0 = .ok (.aload_n 3, 1) := by decide +kernel
theorem d_L_value_1 : decode b_L_value 1 = .ok (.iconst 0, 1) := by decide +kernel
theorem d_L_value_2 : decode b_L_value 2 = .ok (.aload_n 0, 1) := by decide +kernel
theorem d_L_value_3 : decode b_L_value 3 = .ok (.iload_n 1, 1) := by decide +kernel
theorem d_L_value_4 : decode b_L_value 4 = .ok (.iload_n 2, 1) := by decide +kernel
theorem d_L_value_5 : decode b_L_value 5 = .ok (.invokevirtual 64, 3) := by decide +kernel
theorem d_L_value_8 : decode b_L_value 8 = .ok (.i2l, 1) := by decide +kernel
theorem d_L_value_9 : decode b_L_value 9 = .ok (.lastore, 1) := by decide +kernel
theorem d_L_value_10 : decode b_L_value 10 = .ok (.goto 15, 3) := by decide +kernel
theorem d_L_value_13 : decode b_L_value 13 = .ok (.astore 4, 2) := by decide +kernel
theorem d_L_value_15 : decode b_L_value 15 = .ok (.iconst 1, 1) := by decide +kernel
theorem d_L_value_16 : decode b_L_value 16 = .ok (.ireturn, 1) := by decide +kernel
theorem d_L_value_17 : decode b_L_value 17 = .ok (.astore 4, 2) := by decide +kernel
theorem d_L_value_19 : decode b_L_value 19 = .ok (.iconst 2, 1) := by decide +kernel
theorem d_L_value_20 : decode b_L_value 20 = .ok (.ireturn, 1) := by decide +kernel
theorem d_L_value_21 : decode b_L_value 21 = .ok (.astore 4, 2) := by decide +kernel
theorem d_L_value_23 : decode b_L_value 23 = .ok (.iconst 3, 1) := by decide +kernel
theorem d_L_value_24 : decode b_L_value 24 = .ok (.ireturn, 1) := by decide +kernel
theorem d_L_value_25 : decode b_L_value 25 = .ok (.iconst 0, 1) := by decide +kernel
theorem d_L_value_26 : decode b_L_value 26 = .ok (.ireturn, 1) := by decide +kernel
theorem d_L_drop_0 : decode b_L_drop 0 = .ok (.aload_n 3, 1) := by decide +kernel
theorem d_L_drop_1 : decode b_L_drop 1 = .ok (.iconst 0, 1) := by decide +kernel
theorem d_L_drop_2 : decode b_L_drop 2 = .ok (.aload_n 0, 1) := by decide +kernel
theorem d_L_drop_3 : decode b_L_drop 3 = .ok (.iload_n 1, 1) := by decide +kernel
theorem d_L_drop_4 : decode b_L_drop 4 = .ok (.iload_n 2, 1) := by decide +kernel
theorem d_L_drop_5 : decode b_L_drop 5 = .ok (.invokevirtual 67, 3) := by decide +kernel
theorem d_L_drop_8 : decode b_L_drop 8 = .ok (.i2l, 1) := by decide +kernel
theorem d_L_drop_9 : decode b_L_drop 9 = .ok (.lastore, 1) := by decide +kernel
theorem d_L_drop_10 : decode b_L_drop 10 = .ok (.goto 15, 3) := by decide +kernel
theorem d_L_drop_13 : decode b_L_drop 13 = .ok (.astore 4, 2) := by decide +kernel
theorem d_L_drop_15 : decode b_L_drop 15 = .ok (.iconst 1, 1) := by decide +kernel
theorem d_L_drop_16 : decode b_L_drop 16 = .ok (.ireturn, 1) := by decide +kernel
theorem d_L_drop_17 : decode b_L_drop 17 = .ok (.astore 4, 2) := by decide +kernel
theorem d_L_drop_19 : decode b_L_drop 19 = .ok (.iconst 2, 1) := by decide +kernel
theorem d_L_drop_20 : decode b_L_drop 20 = .ok (.ireturn, 1) := by decide +kernel
theorem d_L_drop_21 : decode b_L_drop 21 = .ok (.astore 4, 2) := by decide +kernel
theorem d_L_drop_23 : decode b_L_drop 23 = .ok (.iconst 3, 1) := by decide +kernel
theorem d_L_drop_24 : decode b_L_drop 24 = .ok (.ireturn, 1) := by decide +kernel
theorem d_L_drop_25 : decode b_L_drop 25 = .ok (.iconst 0, 1) := by decide +kernel
theorem d_L_drop_26 : decode b_L_drop 26 = .ok (.ireturn, 1) := by decide +kernel
theorem d_L_near_0 : decode b_L_near 0 = .ok (.aload 4, 2) := by decide +kernel
theorem d_L_near_2 : decode b_L_near 2 = .ok (.iconst 0, 1) := by decide +kernel
theorem d_L_near_3 : decode b_L_near 3 = .ok (.aload_n 0, 1) := by decide +kernel
theorem d_L_near_4 : decode b_L_near 4 = .ok (.iload_n 1, 1) := by decide +kernel
theorem d_L_near_5 : decode b_L_near 5 = .ok (.iload_n 2, 1) := by decide +kernel
theorem d_L_near_6 : decode b_L_near 6 = .ok (.iload_n 3, 1) := by decide +kernel
theorem d_L_near_7 : decode b_L_near 7 = .ok (.invokevirtual 70, 3) := by decide +kernel
theorem d_L_near_10 : decode b_L_near 10 = .ok (.i2l, 1) := by decide +kernel
theorem d_L_near_11 : decode b_L_near 11 = .ok (.lastore, 1) := by decide +kernel
theorem d_L_near_12 : decode b_L_near 12 = .ok (.goto 19, 3) := by decide +kernel
theorem d_L_near_15 : decode b_L_near 15 = .ok (.astore 5, 2) := by decide +kernel
theorem d_L_near_17 : decode b_L_near 17 = .ok (.iconst 1, 1) := by decide +kernel
theorem d_L_near_18 : decode b_L_near 18 = .ok (.ireturn, 1) := by decide +kernel
theorem d_L_near_19 : decode b_L_near 19 = .ok (.astore 5, 2) := by decide +kernel
theorem d_L_near_21 : decode b_L_near 21 = .ok (.iconst 2, 1) := by decide +kernel
theorem d_L_near_22 : decode b_L_near 22 = .ok (.ireturn, 1) := by decide +kernel
theorem d_L_near_23 : decode b_L_near 23 = .ok (.astore 5, 2) := by decide +kernel
theorem d_L_near_25 : decode b_L_near 25 = .ok (.iconst 3, 1) := by decide +kernel
theorem d_L_near_26 : decode b_L_near 26 = .ok (.ireturn, 1) := by decide +kernel
theorem d_L_near_27 : decode b_L_near 27 = .ok (.astore 5, 2) := by decide +kernel
theorem d_L_near_29 : decode b_L_near 29 = .ok (.iconst 4, 1) := by decide +kernel
theorem d_L_near_30 : decode b_L_near 30 = .ok (.ireturn, 1) := by decide +kernel
theorem d_L_near_31 : decode b_L_near 31 = .ok (.iconst 0, 1) := by decide +kernel
theorem d_L_near_32 : decode b_L_near 32 = .ok (.ireturn, 1) := by decide +kernel
theorem d_L_room_0 : decode b_L_room 0 = .ok (.aload_n 2, 1) := by decide +kernel
theorem d_L_room_1 : decode b_L_room 1 = .ok (.iconst 0, 1) := by decide +kernel
theorem d_L_room_2 : decode b_L_room 2 = .ok (.aload_n 0, 1) := by decide +kernel
theorem d_L_room_3 : decode b_L_room 3 = .ok (.iload_n 1, 1) := by decide +kernel
theorem d_L_room_4 : decode b_L_room 4 = .ok (.invokevirtual 73, 3) := by decide +kernel
theorem d_L_room_7 : decode b_L_room 7 = .ok (.i2l, 1) := by decide +kernel
theorem d_L_room_8 : decode b_L_room 8 = .ok (.lastore, 1) := by decide +kernel
theorem d_L_room_9 : decode b_L_room 9 = .ok (.goto 9, 3) := by decide +kernel
theorem d_L_room_12 : decode b_L_room 12 = .ok (.astore_n 3, 1) := by decide +kernel
theorem d_L_room_13 : decode b_L_room 13 = .ok (.iconst 1, 1) := by decide +kernel
theorem d_L_room_14 : decode b_L_room 14 = .ok (.ireturn, 1) := by decide +kernel
theorem d_L_room_15 : decode b_L_room 15 = .ok (.astore_n 3, 1) := by decide +kernel
theorem d_L_room_16 : decode b_L_room 16 = .ok (.iconst 2, 1) := by decide +kernel
theorem d_L_room_17 : decode b_L_room 17 = .ok (.ireturn, 1) := by decide +kernel
theorem d_L_room_18 : decode b_L_room 18 = .ok (.iconst 0, 1) := by decide +kernel
theorem d_L_room_19 : decode b_L_room 19 = .ok (.ireturn, 1) := by decide +kernel
theorem d_L_bucket_0 : decode b_L_bucket 0 = .ok (.aload_n 3, 1) := by decide +kernel
theorem d_L_bucket_1 : decode b_L_bucket 1 = .ok (.iconst 0, 1) := by decide +kernel
theorem d_L_bucket_2 : decode b_L_bucket 2 = .ok (.aload_n 0, 1) := by decide +kernel
theorem d_L_bucket_3 : decode b_L_bucket 3 = .ok (.iload_n 1, 1) := by decide +kernel
theorem d_L_bucket_4 : decode b_L_bucket 4 = .ok (.iload_n 2, 1) := by decide +kernel
theorem d_L_bucket_5 : decode b_L_bucket 5 = .ok (.invokevirtual 76, 3) := by decide +kernel
theorem d_L_bucket_8 : decode b_L_bucket 8 = .ok (.i2l, 1) := by decide +kernel
theorem d_L_bucket_9 : decode b_L_bucket 9 = .ok (.lastore, 1) := by decide +kernel
theorem d_L_bucket_10 : decode b_L_bucket 10 = .ok (.goto 11, 3) := by decide +kernel
theorem d_L_bucket_13 : decode b_L_bucket 13 = .ok (.astore 4, 2) := by decide +kernel
theorem d_L_bucket_15 : decode b_L_bucket 15 = .ok (.iconst 1, 1) := by decide +kernel
theorem d_L_bucket_16 : decode b_L_bucket 16 = .ok (.ireturn, 1) := by decide +kernel
theorem d_L_bucket_17 : decode b_L_bucket 17 = .ok (.astore 4, 2) := by decide +kernel
theorem d_L_bucket_19 : decode b_L_bucket 19 = .ok (.iconst 2, 1) := by decide +kernel
theorem d_L_bucket_20 : decode b_L_bucket 20 = .ok (.ireturn, 1) := by decide +kernel
theorem d_L_bucket_21 : decode b_L_bucket 21 = .ok (.iconst 0, 1) := by decide +kernel
theorem d_L_bucket_22 : decode b_L_bucket 22 = .ok (.ireturn, 1) := by decide +kernel
theorem d_L_sift_0 : decode b_L_sift 0 = .ok (.aload 4, 2) := by decide +kernel
theorem d_L_sift_2 : decode b_L_sift 2 = .ok (.iconst 0, 1) := by decide +kernel
theorem d_L_sift_3 : decode b_L_sift 3 = .ok (.aload_n 0, 1) := by decide +kernel
theorem d_L_sift_4 : decode b_L_sift 4 = .ok (.iload_n 1, 1) := by decide +kernel
theorem d_L_sift_5 : decode b_L_sift 5 = .ok (.iload_n 2, 1) := by decide +kernel
theorem d_L_sift_6 : decode b_L_sift 6 = .ok (.iload_n 3, 1) := by decide +kernel
theorem d_L_sift_7 : decode b_L_sift 7 = .ok (.invokevirtual 79, 3) := by decide +kernel
theorem d_L_sift_10 : decode b_L_sift 10 = .ok (.i2l, 1) := by decide +kernel
theorem d_L_sift_11 : decode b_L_sift 11 = .ok (.lastore, 1) := by decide +kernel
theorem d_L_sift_12 : decode b_L_sift 12 = .ok (.goto 19, 3) := by decide +kernel
theorem d_L_sift_15 : decode b_L_sift 15 = .ok (.astore 5, 2) := by decide +kernel
theorem d_L_sift_17 : decode b_L_sift 17 = .ok (.iconst 1, 1) := by decide +kernel
theorem d_L_sift_18 : decode b_L_sift 18 = .ok (.ireturn, 1) := by decide +kernel
theorem d_L_sift_19 : decode b_L_sift 19 = .ok (.astore 5, 2) := by decide +kernel
theorem d_L_sift_21 : decode b_L_sift 21 = .ok (.iconst 2, 1) := by decide +kernel
theorem d_L_sift_22 : decode b_L_sift 22 = .ok (.ireturn, 1) := by decide +kernel
theorem d_L_sift_23 : decode b_L_sift 23 = .ok (.astore 5, 2) := by decide +kernel
theorem d_L_sift_25 : decode b_L_sift 25 = .ok (.iconst 3, 1) := by decide +kernel
theorem d_L_sift_26 : decode b_L_sift 26 = .ok (.ireturn, 1) := by decide +kernel
theorem d_L_sift_27 : decode b_L_sift 27 = .ok (.astore 5, 2) := by decide +kernel
theorem d_L_sift_29 : decode b_L_sift 29 = .ok (.iconst 4, 1) := by decide +kernel
theorem d_L_sift_30 : decode b_L_sift 30 = .ok (.ireturn, 1) := by decide +kernel
theorem d_L_sift_31 : decode b_L_sift 31 = .ok (.iconst 0, 1) := by decide +kernel
theorem d_L_sift_32 : decode b_L_sift 32 = .ok (.ireturn, 1) := by decide +kernel
theorem d_L_same_0 : decode b_L_same 0 = .ok (.aload_n 3, 1) := by decide +kernel
theorem d_L_same_1 : decode b_L_same 1 = .ok (.iconst 0, 1) := by decide +kernel
theorem d_L_same_2 : decode b_L_same 2 = .ok (.aload_n 0, 1) := by decide +kernel
theorem d_L_same_3 : decode b_L_same 3 = .ok (.iload_n 1, 1) := by decide +kernel
theorem d_L_same_4 : decode b_L_same 4 = .ok (.iload_n 2, 1) := by decide +kernel
theorem d_L_same_5 : decode b_L_same 5 = .ok (.invokevirtual 82, 3) := by decide +kernel
theorem d_L_same_8 : decode b_L_same 8 = .ok (.ifCond .eq 7, 3) := by decide +kernel
theorem d_L_same_11 : decode b_L_same 11 = .ok (.lconst 1, 1) := by decide +kernel
theorem d_L_same_12 : decode b_L_same 12 = .ok (.goto 4, 3) := by decide +kernel
theorem d_L_same_15 : decode b_L_same 15 = .ok (.lconst 0, 1) := by decide +kernel
theorem d_L_same_16 : decode b_L_same 16 = .ok (.lastore, 1) := by decide +kernel
theorem d_L_same_17 : decode b_L_same 17 = .ok (.goto 11, 3) := by decide +kernel
theorem d_L_same_20 : decode b_L_same 20 = .ok (.astore 4, 2) := by decide +kernel
theorem d_L_same_22 : decode b_L_same 22 = .ok (.iconst 1, 1) := by decide +kernel
theorem d_L_same_23 : decode b_L_same 23 = .ok (.ireturn, 1) := by decide +kernel
theorem d_L_same_24 : decode b_L_same 24 = .ok (.astore 4, 2) := by decide +kernel
theorem d_L_same_26 : decode b_L_same 26 = .ok (.iconst 2, 1) := by decide +kernel
theorem d_L_same_27 : decode b_L_same 27 = .ok (.ireturn, 1) := by decide +kernel
theorem d_L_same_28 : decode b_L_same 28 = .ok (.iconst 0, 1) := by decide +kernel
theorem d_L_same_29 : decode b_L_same 29 = .ok (.ireturn, 1) := by decide +kernel
theorem d_L_open_0 : decode b_L_open 0 = .ok (.aload_n 0, 1) := by decide +kernel
theorem d_L_open_1 : decode b_L_open 1 = .ok (.iload_n 1, 1) := by decide +kernel
theorem d_L_open_2 : decode b_L_open 2 = .ok (.iload_n 2, 1) := by decide +kernel
theorem d_L_open_3 : decode b_L_open 3 = .ok (.invokevirtual 85, 3) := by decide +kernel
theorem d_L_open_6 : decode b_L_open 6 = .ok (.goto 12, 3) := by decide +kernel
theorem d_L_open_9 : decode b_L_open 9 = .ok (.astore_n 3, 1) := by decide +kernel
theorem d_L_open_10 : decode b_L_open 10 = .ok (.iconst 1, 1) := by decide +kernel
theorem d_L_open_11 : decode b_L_open 11 = .ok (.ireturn, 1) := by decide +kernel
theorem d_L_open_12 : decode b_L_open 12 = .ok (.astore_n 3, 1) := by decide +kernel
theorem d_L_open_13 : decode b_L_open 13 = .ok (.iconst 2, 1) := by decide +kernel
theorem d_L_open_14 : decode b_L_open 14 = .ok (.ireturn, 1) := by decide +kernel
theorem d_L_open_15 : decode b_L_open 15 = .ok (.astore_n 3, 1) := by decide +kernel
theorem d_L_open_16 : decode b_L_open 16 = .ok (.iconst 3, 1) := by decide +kernel
theorem d_L_open_17 : decode b_L_open 17 = .ok (.ireturn, 1) := by decide +kernel
theorem d_L_open_18 : decode b_L_open 18 = .ok (.iconst 0, 1) := by decide +kernel
theorem d_L_open_19 : decode b_L_open 19 = .ok (.ireturn, 1) := by decide +kernel
theorem d_L_next_0 : decode b_L_next 0 = .ok (.aload_n 3, 1) := by decide +kernel
theorem d_L_next_1 : decode b_L_next 1 = .ok (.iconst 0, 1) := by decide +kernel
theorem d_L_next_2 : decode b_L_next 2 = .ok (.aload_n 0, 1) := by decide +kernel
theorem d_L_next_3 : decode b_L_next 3 = .ok (.iload_n 1, 1) := by decide +kernel
theorem d_L_next_4 : decode b_L_next 4 = .ok (.iload_n 2, 1) := by decide +kernel
theorem d_L_next_5 : decode b_L_next 5 = .ok (.invokevirtual 88, 3) := by decide +kernel
theorem d_L_next_8 : decode b_L_next 8 = .ok (.i2l, 1) := by decide +kernel
theorem d_L_next_9 : decode b_L_next 9 = .ok (.lastore, 1) := by decide +kernel
theorem d_L_next_10 : decode b_L_next 10 = .ok (.goto 19, 3) := by decide +kernel
theorem d_L_next_13 : decode b_L_next 13 = .ok (.astore 4, 2) := by decide +kernel
theorem d_L_next_15 : decode b_L_next 15 = .ok (.iconst 1, 1) := by decide +kernel
theorem d_L_next_16 : decode b_L_next 16 = .ok (.ireturn, 1) := by decide +kernel
theorem d_L_next_17 : decode b_L_next 17 = .ok (.astore 4, 2) := by decide +kernel
theorem d_L_next_19 : decode b_L_next 19 = .ok (.iconst 2, 1) := by decide +kernel
theorem d_L_next_20 : decode b_L_next 20 = .ok (.ireturn, 1) := by decide +kernel
theorem d_L_next_21 : decode b_L_next 21 = .ok (.astore 4, 2) := by decide +kernel
theorem d_L_next_23 : decode b_L_next 23 = .ok (.iconst 3, 1) := by decide +kernel
theorem d_L_next_24 : decode b_L_next 24 = .ok (.ireturn, 1) := by decide +kernel
theorem d_L_next_25 : decode b_L_next 25 = .ok (.astore 4, 2) := by decide +kernel
theorem d_L_next_27 : decode b_L_next 27 = .ok (.iconst 4, 1) := by decide +kernel
theorem d_L_next_28 : decode b_L_next 28 = .ok (.ireturn, 1) := by decide +kernel
theorem d_L_next_29 : decode b_L_next 29 = .ok (.iconst 0, 1) := by decide +kernel
theorem d_L_next_30 : decode b_L_next 30 = .ok (.ireturn, 1) := by decide +kernel
theorem d_L_left_0 : decode b_L_left 0 = .ok (.aload_n 2, 1) := by decide +kernel
theorem d_L_left_1 : decode b_L_left 1 = .ok (.iconst 0, 1) := by decide +kernel
theorem d_L_left_2 : decode b_L_left 2 = .ok (.aload_n 0, 1) := by decide +kernel
theorem d_L_left_3 : decode b_L_left 3 = .ok (.iload_n 1, 1) := by decide +kernel
theorem d_L_left_4 : decode b_L_left 4 = .ok (.invokevirtual 92, 3) := by decide +kernel
theorem d_L_left_7 : decode b_L_left 7 = .ok (.i2l, 1) := by decide +kernel
theorem d_L_left_8 : decode b_L_left 8 = .ok (.lastore, 1) := by decide +kernel
theorem d_L_left_9 : decode b_L_left 9 = .ok (.goto 9, 3) := by decide +kernel
theorem d_L_left_12 : decode b_L_left 12 = .ok (.astore_n 3, 1) := by decide +kernel
theorem d_L_left_13 : decode b_L_left 13 = .ok (.iconst 1, 1) := by decide +kernel
theorem d_L_left_14 : decode b_L_left 14 = .ok (.ireturn, 1) := by decide +kernel
theorem d_L_left_15 : decode b_L_left 15 = .ok (.astore_n 3, 1) := by decide +kernel
theorem d_L_left_16 : decode b_L_left 16 = .ok (.iconst 2, 1) := by decide +kernel
theorem d_L_left_17 : decode b_L_left 17 = .ok (.ireturn, 1) := by decide +kernel
theorem d_L_left_18 : decode b_L_left 18 = .ok (.iconst 0, 1) := by decide +kernel
theorem d_L_left_19 : decode b_L_left 19 = .ok (.ireturn, 1) := by decide +kernel
theorem d_L_erase_0 : decode b_L_erase 0 = .ok (.aload_n 0, 1) := by decide +kernel
theorem d_L_erase_1 : decode b_L_erase 1 = .ok (.iload_n 1, 1) := by decide +kernel
theorem d_L_erase_2 : decode b_L_erase 2 = .ok (.invokevirtual 95, 3) := by decide +kernel
theorem d_L_erase_5 : decode b_L_erase 5 = .ok (.goto 12, 3) := by decide +kernel
theorem d_L_erase_8 : decode b_L_erase 8 = .ok (.astore_n 2, 1) := by decide +kernel
theorem d_L_erase_9 : decode b_L_erase 9 = .ok (.iconst 1, 1) := by decide +kernel
theorem d_L_erase_10 : decode b_L_erase 10 = .ok (.ireturn, 1) := by decide +kernel
theorem d_L_erase_11 : decode b_L_erase 11 = .ok (.astore_n 2, 1) := by decide +kernel
theorem d_L_erase_12 : decode b_L_erase 12 = .ok (.iconst 2, 1) := by decide +kernel
theorem d_L_erase_13 : decode b_L_erase 13 = .ok (.ireturn, 1) := by decide +kernel
theorem d_L_erase_14 : decode b_L_erase 14 = .ok (.astore_n 2, 1) := by decide +kernel
theorem d_L_erase_15 : decode b_L_erase 15 = .ok (.iconst 3, 1) := by decide +kernel
theorem d_L_erase_16 : decode b_L_erase 16 = .ok (.ireturn, 1) := by decide +kernel
theorem d_L_erase_17 : decode b_L_erase 17 = .ok (.iconst 0, 1) := by decide +kernel
theorem d_L_erase_18 : decode b_L_erase 18 = .ok (.ireturn, 1) := by decide +kernel
theorem d_L_assign_0 : decode b_L_assign 0 = .ok (.aload_n 3, 1) := by decide +kernel
theorem d_L_assign_1 : decode b_L_assign 1 = .ok (.iconst 0, 1) := by decide +kernel
theorem d_L_assign_2 : decode b_L_assign 2 = .ok (.aload_n 0, 1) := by decide +kernel
theorem d_L_assign_3 : decode b_L_assign 3 = .ok (.iload_n 1, 1) := by decide +kernel
theorem d_L_assign_4 : decode b_L_assign 4 = .ok (.iload_n 2, 1) := by decide +kernel
theorem d_L_assign_5 : decode b_L_assign 5 = .ok (.invokevirtual 99, 3) := by decide +kernel
theorem d_L_assign_8 : decode b_L_assign 8 = .ok (.i2l, 1) := by decide +kernel
theorem d_L_assign_9 : decode b_L_assign 9 = .ok (.lastore, 1) := by decide +kernel
theorem d_L_assign_10 : decode b_L_assign 10 = .ok (.goto 15, 3) := by decide +kernel
theorem d_L_assign_13 : decode b_L_assign 13 = .ok (.astore 4, 2) := by decide +kernel
theorem d_L_assign_15 : decode b_L_assign 15 = .ok (.iconst 1, 1) := by decide +kernel
theorem d_L_assign_16 : decode b_L_assign 16 = .ok (.ireturn, 1) := by decide +kernel
theorem d_L_assign_17 : decode b_L_assign 17 = .ok (.astore 4, 2) := by decide +kernel
theorem d_L_assign_19 : decode b_L_assign 19 = .ok (.iconst 2, 1) := by decide +kernel
theorem d_L_assign_20 : decode b_L_assign 20 = .ok (.ireturn, 1) := by decide +kernel
theorem d_L_assign_21 : decode b_L_assign 21 = .ok (.astore 4, 2) := by decide +kernel
theorem d_L_assign_23 : decode b_L_assign 23 = .ok (.iconst 3, 1) := by decide +kernel
theorem d_L_assign_24 : decode b_L_assign 24 = .ok (.ireturn, 1) := by decide +kernel
theorem d_L_assign_25 : decode b_L_assign 25 = .ok (.iconst 0, 1) := by decide +kernel
theorem d_L_assign_26 : decode b_L_assign 26 = .ok (.ireturn, 1) := by decide +kernel
theorem d_L_plant_0 : decode b_L_plant 0 = .ok (.aload_n 0, 1) := by decide +kernel
theorem d_L_plant_1 : decode b_L_plant 1 = .ok (.iload_n 1, 1) := by decide +kernel
theorem d_L_plant_2 : decode b_L_plant 2 = .ok (.iload_n 2, 1) := by decide +kernel
theorem d_L_plant_3 : decode b_L_plant 3 = .ok (.invokevirtual 102, 3) := by decide +kernel
theorem d_L_plant_6 : decode b_L_plant 6 = .ok (.goto 15, 3) := by decide +kernel
theorem d_L_plant_9 : decode b_L_plant 9 = .ok (.astore_n 3, 1) := by decide +kernel
theorem d_L_plant_10 : decode b_L_plant 10 = .ok (.iconst 1, 1) := by decide +kernel
theorem d_L_plant_11 : decode b_L_plant 11 = .ok (.ireturn, 1) := by decide +kernel
theorem d_L_plant_12 : decode b_L_plant 12 = .ok (.astore_n 3, 1) := by decide +kernel
theorem d_L_plant_13 : decode b_L_plant 13 = .ok (.iconst 2, 1) := by decide +kernel
theorem d_L_plant_14 : decode b_L_plant 14 = .ok (.ireturn, 1) := by decide +kernel
theorem d_L_plant_15 : decode b_L_plant 15 = .ok (.astore_n 3, 1) := by decide +kernel
theorem d_L_plant_16 : decode b_L_plant 16 = .ok (.iconst 3, 1) := by decide +kernel
theorem d_L_plant_17 : decode b_L_plant 17 = .ok (.ireturn, 1) := by decide +kernel
theorem d_L_plant_18 : decode b_L_plant 18 = .ok (.astore_n 3, 1) := by decide +kernel
theorem d_L_plant_19 : decode b_L_plant 19 = .ok (.iconst 4, 1) := by decide +kernel
theorem d_L_plant_20 : decode b_L_plant 20 = .ok (.ireturn, 1) := by decide +kernel
theorem d_L_plant_21 : decode b_L_plant 21 = .ok (.iconst 0, 1) := by decide +kernel
theorem d_L_plant_22 : decode b_L_plant 22 = .ok (.ireturn, 1) := by decide +kernel
