theorem d_K_init_0 : decode b_K_init 0 = .ok (.aload_n 0, 1) := by decide +kernel
theorem d_K_init_1 : decode b_K_init 1 = .ok (.invokespecial 1, 3) := by decide +kernel
theorem d_K_init_4 : decode b_K_init 4 = .ok (.aload_n 0, 1) := by decide +kernel
theorem d_K_init_5 : decode b_K_init 5 = .ok (.bipush 10, 2) := by decide +kernel
theorem d_K_init_7 : decode b_K_init 7 = .ok (.anewarray 9, 3) := by decide +kernel
theorem d_K_init_10 : decode b_K_init 10 = .ok (.putfield 11, 3) := by decide +kernel
theorem d_K_init_13 : decode b_K_init 13 = .ok (.aload_n 0, 1) := by decide +kernel
theorem d_K_init_14 : decode b_K_init 14 = .ok (.iconst 4, 1) := by decide +kernel
theorem d_K_init_15 : decode b_K_init 15 = .ok (.anewarray 15, 3) := by decide +kernel
theorem d_K_init_18 : decode b_K_init 18 = .ok (.putfield 17, 3) := by decide +kernel
theorem d_K_init_21 : decode b_K_init 21 = .ok (.aload_n 0, 1) := by decide +kernel
theorem d_K_init_22 : decode b_K_init 22 = .ok (.iconst 0, 1) := by decide +kernel
theorem d_K_init_23 : decode b_K_init 23 = .ok (.putfield 21, 3) := by decide +kernel
theorem d_K_init_26 : decode b_K_init 26 = .ok (.iconst 0, 1) := by decide +kernel
theorem d_K_init_27 : decode b_K_init 27 = .ok (.istore_n 1, 1) := by decide +kernel
theorem d_K_init_28 : decode b_K_init 28 = .ok (.iload_n 1, 1) := by decide +kernel
theorem d_K_init_29 : decode b_K_init 29 = .ok (.aload_n 0, 1) := by decide +kernel
theorem d_K_init_30 : decode b_K_init 30 = .ok (.getfield 17, 3) := by decide +kernel
theorem d_K_init_33 : decode b_K_init 33 = .ok (.arraylength, 1) := by decide +kernel
theorem d_K_init_34 : decode b_K_init 34 = .ok (.if_icmp .ge 22, 3) := by decide +kernel
theorem d_K_init_37 : decode b_K_init 37 = .ok (.aload_n 0, 1) := by decide +kernel
theorem d_K_init_38 : decode b_K_init 38 = .ok (.getfield 17, 3) := by decide +kernel
theorem d_K_init_41 : decode b_K_init 41 = .ok (.iload_n 1, 1) := by decide +kernel
theorem d_K_init_42 : decode b_K_init 42 = .ok (.new 15, 3) := by decide +kernel
theorem d_K_init_45 : decode b_K_init 45 = .ok (.dup, 1) := by decide +kernel
theorem d_K_init_46 : decode b_K_init 46 = .ok (.invokespecial 25, 3) := by decide +kernel
theorem d_K_init_49 : decode b_K_init 49 = .ok (.aastore, 1) := by decide +kernel
theorem d_K_init_50 : decode b_K_init 50 = .ok (.iinc 1 1, 3) := by decide +kernel
theorem d_K_init_53 : decode b_K_init 53 = .ok (.goto (-25), 3) := by decide +kernel
theorem d_K_init_56 : decode b_K_init 56 = .ok (.return_, 1) := by decide +kernel
theorem d_K_create_0 : decode b_K_create 0 = .ok (.iload_n 1, 1) := by decide +kernel
theorem d_K_create_1 : decode b_K_create 1 = .ok (.ifCond .lt 12, 3) := by decide +kernel
theorem d_K_create_4 : decode b_K_create 4 = .ok (.iload_n 1, 1) := by decide +kernel
theorem d_K_create_5 : decode b_K_create 5 = .ok (.iconst 5, 1) := by decide +kernel
theorem d_K_create_6 : decode b_K_create 6 = .ok (.if_icmp .gt 7, 3) := by decide +kernel
theorem d_K_create_9 : decode b_K_create 9 = .ok (.iconst 1, 1) := by decide +kernel
theorem d_K_create_10 : decode b_K_create 10 = .ok (.goto 4, 3) := by decide +kernel
theorem d_K_create_13 : decode b_K_create 13 = .ok (.iconst 0, 1) := by decide +kernel
theorem d_K_create_14 : decode b_K_create 14 = .ok (.invokestatic 26, 3) := by decide +kernel
theorem d_K_create_17 : decode b_K_create 17 = .ok (.aload_n 0, 1) := by decide +kernel
theorem d_K_create_18 : decode b_K_create 18 = .ok (.invokevirtual 30, 3) := by decide +kernel
theorem d_K_create_21 : decode b_K_create 21 = .ok (.aload_n 0, 1) := by decide +kernel
theorem d_K_create_22 : decode b_K_create 22 = .ok (.new 33, 3) := by decide +kernel
theorem d_K_create_25 : decode b_K_create 25 = .ok (.dup, 1) := by decide +kernel
theorem d_K_create_26 : decode b_K_create 26 = .ok (.iload_n 1, 1) := by decide +kernel
theorem d_K_create_27 : decode b_K_create 27 = .ok (.invokespecial 35, 3) := by decide +kernel
theorem d_K_create_30 : decode b_K_create 30 = .ok (.invokevirtual 38, 3) := by decide +kernel
theorem d_K_create_33 : decode b_K_create 33 = .ok (.ireturn, 1) := by decide +kernel
theorem d_K_view_0 : decode b_K_view 0 = .ok (.aload_n 0, 1) := by decide +kernel
theorem d_K_view_1 : decode b_K_view 1 = .ok (.iload_n 1, 1) := by decide +kernel
theorem d_K_view_2 : decode b_K_view 2 = .ok (.invokevirtual 42, 3) := by decide +kernel
theorem d_K_view_5 : decode b_K_view 5 = .ok (.astore 4, 2) := by decide +kernel
theorem d_K_view_7 : decode b_K_view 7 = .ok (.aload 4, 2) := by decide +kernel
theorem d_K_view_9 : decode b_K_view 9 = .ok (.invokevirtual 46, 3) := by decide +kernel
theorem d_K_view_12 : decode b_K_view 12 = .ok (.ifCond .ne 11, 3) := by decide +kernel
theorem d_K_view_15 : decode b_K_view 15 = .ok (.aload 4, 2) := by decide +kernel
theorem d_K_view_17 : decode b_K_view 17 = .ok (.invokevirtual 50, 3) := by decide +kernel
theorem d_K_view_20 : decode b_K_view 20 = .ok (.ifCond .eq 7, 3) := by decide +kernel
theorem d_K_view_23 : decode b_K_view 23 = .ok (.iconst 1, 1) := by decide +kernel
theorem d_K_view_24 : decode b_K_view 24 = .ok (.goto 4, 3) := by decide +kernel
theorem d_K_view_27 : decode b_K_view 27 = .ok (.iconst 0, 1) := by decide +kernel
theorem d_K_view_28 : decode b_K_view 28 = .ok (.invokestatic 53, 3) := by decide +kernel
theorem d_K_view_31 : decode b_K_view 31 = .ok (.aload 4, 2) := by decide +kernel
theorem d_K_view_33 : decode b_K_view 33 = .ok (.invokestatic 56, 3) := by decide +kernel
theorem d_K_view_36 : decode b_K_view 36 = .ok (.iload_n 2, 1) := by decide +kernel
theorem d_K_view_37 : decode b_K_view 37 = .ok (.iload_n 3, 1) := by decide +kernel
theorem d_K_view_38 : decode b_K_view 38 = .ok (.if_icmp .gt 28, 3) := by decide +kernel
theorem d_K_view_41 : decode b_K_view 41 = .ok (.aload 4, 2) := by decide +kernel
theorem d_K_view_43 : decode b_K_view 43 = .ok (.invokevirtual 50, 3) := by decide +kernel
theorem d_K_view_46 : decode b_K_view 46 = .ok (.ifCond .ne 16, 3) := by decide +kernel
theorem d_K_view_49 : decode b_K_view 49 = .ok (.iload_n 2, 1) := by decide +kernel
theorem d_K_view_50 : decode b_K_view 50 = .ok (.ifCond .lt 16, 3) := by decide +kernel
theorem d_K_view_53 : decode b_K_view 53 = .ok (.iload_n 3, 1) := by decide +kernel
theorem d_K_view_54 : decode b_K_view 54 = .ok (.aload 4, 2) := by decide +kernel
theorem d_K_view_56 : decode b_K_view 56 = .ok (.invokevirtual 60, 3) := by decide +kernel
theorem d_K_view_59 : decode b_K_view 59 = .ok (.if_icmp .gt 7, 3) := by decide +kernel
theorem d_K_view_62 : decode b_K_view 62 = .ok (.iconst 1, 1) := by decide +kernel
theorem d_K_view_63 : decode b_K_view 63 = .ok (.goto 4, 3) := by decide +kernel
theorem d_K_view_66 : decode b_K_view 66 = .ok (.iconst 0, 1) := by decide +kernel
theorem d_K_view_67 : decode b_K_view 67 = .ok (.invokestatic 26, 3) := by decide +kernel
theorem d_K_view_70 : decode b_K_view 70 = .ok (.aload_n 0, 1) := by decide +kernel
theorem d_K_view_71 : decode b_K_view 71 = .ok (.invokevirtual 30, 3) := by decide +kernel
theorem d_K_view_74 : decode b_K_view 74 = .ok (.aload_n 0, 1) := by decide +kernel
theorem d_K_view_75 : decode b_K_view 75 = .ok (.aload 4, 2) := by decide +kernel
theorem d_K_view_77 : decode b_K_view 77 = .ok (.invokevirtual 50, 3) := by decide +kernel
theorem d_K_view_80 : decode b_K_view 80 = .ok (.ifCond .eq 13, 3) := by decide +kernel
theorem d_K_view_83 : decode b_K_view 83 = .ok (.aload 4, 2) := by decide +kernel
theorem d_K_view_85 : decode b_K_view 85 = .ok (.iload_n 2, 1) := by decide +kernel
theorem d_K_view_86 : decode b_K_view 86 = .ok (.iload_n 3, 1) := by decide +kernel
theorem d_K_view_87 : decode b_K_view 87 = .ok (.invokestatic 64, 3) := by decide +kernel
theorem d_K_view_90 : decode b_K_view 90 = .ok (.goto 10, 3) := by decide +kernel
theorem d_K_view_93 : decode b_K_view 93 = .ok (.aload 4, 2) := by decide +kernel
theorem d_K_view_95 : decode b_K_view 95 = .ok (.iload_n 2, 1) := by decide +kernel
theorem d_K_view_96 : decode b_K_view 96 = .ok (.iload_n 3, 1) := by decide +kernel
theorem d_K_view_97 : decode b_K_view 97 = .ok (.invokestatic 68, 3) := by decide +kernel
theorem d_K_view_100 : decode b_K_view 100 = .ok (.invokevirtual 38, 3) := by decide +kernel
theorem d_K_view_103 : decode b_K_view 103 = .ok (.ireturn, 1) := by decide +kernel
theorem d_K_kind_0 : decode b_K_kind 0 = .ok (.aload_n 0, 1) := by decide +kernel
theorem d_K_kind_1 : decode b_K_kind 1 = .ok (.iload_n 1, 1) := by decide +kernel
theorem d_K_kind_2 : decode b_K_kind 2 = .ok (.invokevirtual 42, 3) := by decide +kernel
theorem d_K_kind_5 : decode b_K_kind 5 = .ok (.getfield 71, 3) := by decide +kernel
theorem d_K_kind_8 : decode b_K_kind 8 = .ok (.ireturn, 1) := by decide +kernel
theorem d_K_size_0 : decode b_K_size 0 = .ok (.aload_n 0, 1) := by decide +kernel
theorem d_K_size_1 : decode b_K_size 1 = .ok (.iload_n 1, 1) := by decide +kernel
theorem d_K_size_2 : decode b_K_size 2 = .ok (.invokevirtual 42, 3) := by decide +kernel
theorem d_K_size_5 : decode b_K_size 5 = .ok (.astore_n 2, 1) := by decide +kernel
theorem d_K_size_6 : decode b_K_size 6 = .ok (.aload_n 2, 1) := by decide +kernel
theorem d_K_size_7 : decode b_K_size 7 = .ok (.invokestatic 56, 3) := by decide +kernel
theorem d_K_size_10 : decode b_K_size 10 = .ok (.aload_n 2, 1) := by decide +kernel
theorem d_K_size_11 : decode b_K_size 11 = .ok (.invokevirtual 60, 3) := by decide +kernel
theorem d_K_size_14 : decode b_K_size 14 = .ok (.ireturn, 1) := by decide +kernel
theorem d_K_get_0 : decode b_K_get 0 = .ok (.aload_n 0, 1) := by decide +kernel
theorem d_K_get_1 : decode b_K_get 1 = .ok (.iload_n 1, 1) := by decide +kernel
theorem d_K_get_2 : decode b_K_get 2 = .ok (.invokevirtual 74, 3) := by decide +kernel
theorem d_K_get_5 : decode b_K_get 5 = .ok (.astore_n 3, 1) := by decide +kernel
theorem d_K_get_6 : decode b_K_get 6 = .ok (.aload_n 3, 1) := by decide +kernel
theorem d_K_get_7 : decode b_K_get 7 = .ok (.iload_n 2, 1) := by decide +kernel
theorem d_K_get_8 : decode b_K_get 8 = .ok (.invokevirtual 77, 3) := by decide +kernel
theorem d_K_get_11 : decode b_K_get 11 = .ok (.invokestatic 81, 3) := by decide +kernel
theorem d_K_get_14 : decode b_K_get 14 = .ok (.aload_n 3, 1) := by decide +kernel
theorem d_K_get_15 : decode b_K_get 15 = .ok (.iload_n 2, 1) := by decide +kernel
theorem d_K_get_16 : decode b_K_get 16 = .ok (.invokevirtual 84, 3) := by decide +kernel
theorem d_K_get_19 : decode b_K_get 19 = .ok (.ireturn, 1) := by decide +kernel
theorem d_K_set_0 : decode b_K_set 0 = .ok (.aload_n 0, 1) := by decide +kernel
theorem d_K_set_1 : decode b_K_set 1 = .ok (.iload_n 1, 1) := by decide +kernel
theorem d_K_set_2 : decode b_K_set 2 = .ok (.invokevirtual 74, 3) := by decide +kernel
theorem d_K_set_5 : decode b_K_set 5 = .ok (.astore 4, 2) := by decide +kernel
theorem d_K_set_7 : decode b_K_set 7 = .ok (.aload 4, 2) := by decide +kernel
theorem d_K_set_9 : decode b_K_set 9 = .ok (.iload_n 2, 1) := by decide +kernel
theorem d_K_set_10 : decode b_K_set 10 = .ok (.invokevirtual 77, 3) := by decide +kernel
theorem d_K_set_13 : decode b_K_set 13 = .ok (.invokestatic 81, 3) := by decide +kernel
theorem d_K_set_16 : decode b_K_set 16 = .ok (.aload 4, 2) := by decide +kernel
theorem d_K_set_18 : decode b_K_set 18 = .ok (.iload_n 2, 1) := by decide +kernel
theorem d_K_set_19 : decode b_K_set 19 = .ok (.iload_n 3, 1) := by decide +kernel
theorem d_K_set_20 : decode b_K_set 20 = .ok (.invokevirtual 88, 3) := by decide +kernel
theorem d_K_set_23 : decode b_K_set 23 = .ok (.ireturn, 1) := by decide +kernel
theorem d_K_insert_0 : decode b_K_insert 0 = .ok (.aload_n 0, 1) := by decide +kernel
theorem d_K_insert_1 : decode b_K_insert 1 = .ok (.iload_n 1, 1) := by decide +kernel
theorem d_K_insert_2 : decode b_K_insert 2 = .ok (.invokevirtual 92, 3) := by decide +kernel
theorem d_K_insert_5 : decode b_K_insert 5 = .ok (.astore 4, 2) := by decide +kernel
theorem d_K_insert_7 : decode b_K_insert 7 = .ok (.aload 4, 2) := by decide +kernel
theorem d_K_insert_9 : decode b_K_insert 9 = .ok (.getfield 71, 3) := by decide +kernel
theorem d_K_insert_12 : decode b_K_insert 12 = .ok (.iconst 5, 1) := by decide +kernel
theorem d_K_insert_13 : decode b_K_insert 13 = .ok (.if_icmp .ne 7, 3) := by decide +kernel
theorem d_K_insert_16 : decode b_K_insert 16 = .ok (.iconst 1, 1) := by decide +kernel
theorem d_K_insert_17 : decode b_K_insert 17 = .ok (.goto 4, 3) := by decide +kernel
theorem d_K_insert_20 : decode b_K_insert 20 = .ok (.iconst 0, 1) := by decide +kernel
theorem d_K_insert_21 : decode b_K_insert 21 = .ok (.istore 5, 2) := by decide +kernel
theorem d_K_insert_23 : decode b_K_insert 23 = .ok (.iload 5, 2) := by decide +kernel
theorem d_K_insert_25 : decode b_K_insert 25 = .ok (.ifCond .ne 16, 3) := by decide +kernel
theorem d_K_insert_28 : decode b_K_insert 28 = .ok (.iload_n 2, 1) := by decide +kernel
theorem d_K_insert_29 : decode b_K_insert 29 = .ok (.ifCond .lt 16, 3) := by decide +kernel
theorem d_K_insert_32 : decode b_K_insert 32 = .ok (.iload_n 2, 1) := by decide +kernel
theorem d_K_insert_33 : decode b_K_insert 33 = .ok (.aload 4, 2) := by decide +kernel
theorem d_K_insert_35 : decode b_K_insert 35 = .ok (.invokevirtual 60, 3) := by decide +kernel
theorem d_K_insert_38 : decode b_K_insert 38 = .ok (.if_icmp .gt 7, 3) := by decide +kernel
theorem d_K_insert_41 : decode b_K_insert 41 = .ok (.iconst 1, 1) := by decide +kernel
theorem d_K_insert_42 : decode b_K_insert 42 = .ok (.goto 4, 3) := by decide +kernel
theorem d_K_insert_45 : decode b_K_insert 45 = .ok (.iconst 0, 1) := by decide +kernel
theorem d_K_insert_46 : decode b_K_insert 46 = .ok (.invokestatic 81, 3) := by decide +kernel
theorem d_K_insert_49 : decode b_K_insert 49 = .ok (.aload 4, 2) := by decide +kernel
theorem d_K_insert_51 : decode b_K_insert 51 = .ok (.getfield 95, 3) := by decide +kernel
theorem d_K_insert_54 : decode b_K_insert 54 = .ok (.invokestatic 99, 3) := by decide +kernel
theorem d_K_insert_57 : decode b_K_insert 57 = .ok (.aload 4, 2) := by decide +kernel
theorem d_K_insert_59 : decode b_K_insert 59 = .ok (.iload 5, 2) := by decide +kernel
theorem d_K_insert_61 : decode b_K_insert 61 = .ok (.ifCond .eq 16, 3) := by decide +kernel
theorem d_K_insert_64 : decode b_K_insert 64 = .ok (.aload 4, 2) := by decide +kernel
theorem d_K_insert_66 : decode b_K_insert 66 = .ok (.getfield 95, 3) := by decide +kernel
theorem d_K_insert_69 : decode b_K_insert 69 = .ok (.iload_n 3, 1) := by decide +kernel
theorem d_K_insert_70 : decode b_K_insert 70 = .ok (.iconst 1, 1) := by decide +kernel
theorem d_K_insert_71 : decode b_K_insert 71 = .ok (.invokevirtual 103, 3) := by decide +kernel
theorem d_K_insert_74 : decode b_K_insert 74 = .ok (.goto 4, 3) := by decide +kernel
theorem d_K_insert_77 : decode b_K_insert 77 = .ok (.iload_n 2, 1) := by decide +kernel
theorem d_K_insert_78 : decode b_K_insert 78 = .ok (.iload_n 3, 1) := by decide +kernel
theorem d_K_insert_79 : decode b_K_insert 79 = .ok (.invokevirtual 109, 3) := by decide +kernel
theorem d_K_insert_82 : decode b_K_insert 82 = .ok (.return_, 1) := by decide +kernel
theorem d_K_remove_0 : decode b_K_remove 0 = .ok (.aload_n 0, 1) := by decide +kernel
theorem d_K_remove_1 : decode b_K_remove 1 = .ok (.iload_n 1, 1) := by decide +kernel
theorem d_K_remove_2 : decode b_K_remove 2 = .ok (.invokevirtual 92, 3) := by decide +kernel
theorem d_K_remove_5 : decode b_K_remove 5 = .ok (.astore_n 3, 1) := by decide +kernel
theorem d_K_remove_6 : decode b_K_remove 6 = .ok (.aload_n 3, 1) := by decide +kernel
theorem d_K_remove_7 : decode b_K_remove 7 = .ok (.getfield 71, 3) := by decide +kernel
theorem d_K_remove_10 : decode b_K_remove 10 = .ok (.iconst 5, 1) := by decide +kernel
theorem d_K_remove_11 : decode b_K_remove 11 = .ok (.if_icmp .ne 7, 3) := by decide +kernel
theorem d_K_remove_14 : decode b_K_remove 14 = .ok (.iconst 0, 1) := by decide +kernel
theorem d_K_remove_15 : decode b_K_remove 15 = .ok (.goto 4, 3) := by decide +kernel
theorem d_K_remove_18 : decode b_K_remove 18 = .ok (.iload_n 2, 1) := by decide +kernel
theorem d_K_remove_19 : decode b_K_remove 19 = .ok (.istore 4, 2) := by decide +kernel
theorem d_K_remove_21 : decode b_K_remove 21 = .ok (.aload_n 3, 1) := by decide +kernel
theorem d_K_remove_22 : decode b_K_remove 22 = .ok (.iload 4, 2) := by decide +kernel
theorem d_K_remove_24 : decode b_K_remove 24 = .ok (.invokevirtual 77, 3) := by decide +kernel
theorem d_K_remove_27 : decode b_K_remove 27 = .ok (.invokestatic 81, 3) := by decide +kernel
theorem d_K_remove_30 : decode b_K_remove 30 = .ok (.aload_n 3, 1) := by decide +kernel
theorem d_K_remove_31 : decode b_K_remove 31 = .ok (.iload 4, 2) := by decide +kernel
theorem d_K_remove_33 : decode b_K_remove 33 = .ok (.invokevirtual 113, 3) := by decide +kernel
theorem d_K_remove_36 : decode b_K_remove 36 = .ok (.ireturn, 1) := by decide +kernel
theorem d_K_sort_0 : decode b_K_sort 0 = .ok (.aload_n 0, 1) := by decide +kernel
theorem d_K_sort_1 : decode b_K_sort 1 = .ok (.iload_n 1, 1) := by decide +kernel
theorem d_K_sort_2 : decode b_K_sort 2 = .ok (.invokevirtual 74, 3) := by decide +kernel
theorem d_K_sort_5 : decode b_K_sort 5 = .ok (.astore_n 3, 1) := by decide +kernel
theorem d_K_sort_6 : decode b_K_sort 6 = .ok (.iload_n 2, 1) := by decide +kernel
theorem d_K_sort_7 : decode b_K_sort 7 = .ok (.ifCond .lt 12, 3) := by decide +kernel
theorem d_K_sort_10 : decode b_K_sort 10 = .ok (.iload_n 2, 1) := by decide +kernel
theorem d_K_sort_11 : decode b_K_sort 11 = .ok (.iconst 2, 1) := by decide +kernel
theorem d_K_sort_12 : decode b_K_sort 12 = .ok (.if_icmp .gt 7, 3) := by decide +kernel
theorem d_K_sort_15 : decode b_K_sort 15 = .ok (.iconst 1, 1) := by decide +kernel
theorem d_K_sort_16 : decode b_K_sort 16 = .ok (.goto 4, 3) := by decide +kernel
theorem d_K_sort_19 : decode b_K_sort 19 = .ok (.iconst 0, 1) := by decide +kernel
theorem d_K_sort_20 : decode b_K_sort 20 = .ok (.invokestatic 26, 3) := by decide +kernel
theorem d_K_sort_23 : decode b_K_sort 23 = .ok (.aload_n 3, 1) := by decide +kernel
theorem d_K_sort_24 : decode b_K_sort 24 = .ok (.iload_n 2, 1) := by decide +kernel
theorem d_K_sort_25 : decode b_K_sort 25 = .ok (.invokevirtual 116, 3) := by decide +kernel
theorem d_K_sort_28 : decode b_K_sort 28 = .ok (.return_, 1) := by decide +kernel
theorem d_K_put_0 : decode b_K_put 0 = .ok (.aload_n 0, 1) := by decide +kernel
theorem d_K_put_1 : decode b_K_put 1 = .ok (.iload_n 1, 1) := by decide +kernel
theorem d_K_put_2 : decode b_K_put 2 = .ok (.invokevirtual 119, 3) := by decide +kernel
theorem d_K_put_5 : decode b_K_put 5 = .ok (.astore 4, 2) := by decide +kernel
theorem d_K_put_7 : decode b_K_put 7 = .ok (.aload 4, 2) := by decide +kernel
theorem d_K_put_9 : decode b_K_put 9 = .ok (.iload_n 2, 1) := by decide +kernel
theorem d_K_put_10 : decode b_K_put 10 = .ok (.invokestatic 122, 3) := by decide +kernel
theorem d_K_put_13 : decode b_K_put 13 = .ok (.aload 4, 2) := by decide +kernel
theorem d_K_put_15 : decode b_K_put 15 = .ok (.iload_n 2, 1) := by decide +kernel
theorem d_K_put_16 : decode b_K_put 16 = .ok (.invokevirtual 126, 3) := by decide +kernel
theorem d_K_put_19 : decode b_K_put 19 = .ok (.iconst (-1), 1) := by decide +kernel
theorem d_K_put_20 : decode b_K_put 20 = .ok (.if_icmp .ne 7, 3) := by decide +kernel
theorem d_K_put_23 : decode b_K_put 23 = .ok (.iconst 1, 1) := by decide +kernel
theorem d_K_put_24 : decode b_K_put 24 = .ok (.goto 4, 3) := by decide +kernel
theorem d_K_put_27 : decode b_K_put 27 = .ok (.iconst 0, 1) := by decide +kernel
theorem d_K_put_28 : decode b_K_put 28 = .ok (.istore 5, 2) := by decide +kernel
theorem d_K_put_30 : decode b_K_put 30 = .ok (.aload 4, 2) := by decide +kernel
theorem d_K_put_32 : decode b_K_put 32 = .ok (.getfield 95, 3) := by decide +kernel
theorem d_K_put_35 : decode b_K_put 35 = .ok (.iload_n 2, 1) := by decide +kernel
theorem d_K_put_36 : decode b_K_put 36 = .ok (.iload_n 3, 1) := by decide +kernel
theorem d_K_put_37 : decode b_K_put 37 = .ok (.invokevirtual 129, 3) := by decide +kernel
theorem d_K_put_40 : decode b_K_put 40 = .ok (.iload 5, 2) := by decide +kernel
theorem d_K_put_42 : decode b_K_put 42 = .ok (.ireturn, 1) := by decide +kernel
theorem d_K_merge_0 : decode b_K_merge 0 = .ok (.aload_n 0, 1) := by decide +kernel
theorem d_K_merge_1 : decode b_K_merge 1 = .ok (.iload_n 1, 1) := by decide +kernel
theorem d_K_merge_2 : decode b_K_merge 2 = .ok (.invokevirtual 119, 3) := by decide +kernel
theorem d_K_merge_5 : decode b_K_merge 5 = .ok (.astore 4, 2) := by decide +kernel
theorem d_K_merge_7 : decode b_K_merge 7 = .ok (.aload 4, 2) := by decide +kernel
theorem d_K_merge_9 : decode b_K_merge 9 = .ok (.iload_n 2, 1) := by decide +kernel
theorem d_K_merge_10 : decode b_K_merge 10 = .ok (.invokestatic 122, 3) := by decide +kernel
theorem d_K_merge_13 : decode b_K_merge 13 = .ok (.aload 4, 2) := by decide +kernel
theorem d_K_merge_15 : decode b_K_merge 15 = .ok (.iload_n 2, 1) := by decide +kernel
theorem d_K_merge_16 : decode b_K_merge 16 = .ok (.invokevirtual 126, 3) := by decide +kernel
theorem d_K_merge_19 : decode b_K_merge 19 = .ok (.istore 5, 2) := by decide +kernel
theorem d_K_merge_21 : decode b_K_merge 21 = .ok (.iload 5, 2) := by decide +kernel
theorem d_K_merge_23 : decode b_K_merge 23 = .ok (.iconst (-1), 1) := by decide +kernel
theorem d_K_merge_24 : decode b_K_merge 24 = .ok (.if_icmp .ne 7, 3) := by decide +kernel
theorem d_K_merge_27 : decode b_K_merge 27 = .ok (.iload_n 3, 1) := by decide +kernel
theorem d_K_merge_28 : decode b_K_merge 28 = .ok (.goto 12, 3) := by decide +kernel
theorem d_K_merge_31 : decode b_K_merge 31 = .ok (.aload 4, 2) := by decide +kernel
theorem d_K_merge_33 : decode b_K_merge 33 = .ok (.iload 5, 2) := by decide +kernel
theorem d_K_merge_35 : decode b_K_merge 35 = .ok (.invokevirtual 132, 3) := by decide +kernel
theorem d_K_merge_38 : decode b_K_merge 38 = .ok (.iload_n 3, 1) := by decide +kernel
theorem d_K_merge_39 : decode b_K_merge 39 = .ok (.iadd, 1) := by decide +kernel
theorem d_K_merge_40 : decode b_K_merge 40 = .ok (.istore 6, 2) := by decide +kernel
theorem d_K_merge_42 : decode b_K_merge 42 = .ok (.aload 4, 2) := by decide +kernel
theorem d_K_merge_44 : decode b_K_merge 44 = .ok (.getfield 95, 3) := by decide +kernel
theorem d_K_merge_47 : decode b_K_merge 47 = .ok (.iload_n 2, 1) := by decide +kernel
theorem d_K_merge_48 : decode b_K_merge 48 = .ok (.iload 6, 2) := by decide +kernel
theorem d_K_merge_50 : decode b_K_merge 50 = .ok (.invokevirtual 129, 3) := by decide +kernel
theorem d_K_merge_53 : decode b_K_merge 53 = .ok (.iload 6, 2) := by decide +kernel
theorem d_K_merge_55 : decode b_K_merge 55 = .ok (.ireturn, 1) := by decide +kernel
theorem d_K_has_0 : decode b_K_has 0 = .ok (.aload_n 0, 1) := by decide +kernel
theorem d_K_has_1 : decode b_K_has 1 = .ok (.iload_n 1, 1) := by decide +kernel
theorem d_K_has_2 : decode b_K_has 2 = .ok (.invokevirtual 119, 3) := by decide +kernel
theorem d_K_has_5 : decode b_K_has 5 = .ok (.iload_n 2, 1) := by decide +kernel
theorem d_K_has_6 : decode b_K_has 6 = .ok (.invokevirtual 126, 3) := by decide +kernel
theorem d_K_has_9 : decode b_K_has 9 = .ok (.iconst (-1), 1) := by decide +kernel
theorem d_K_has_10 : decode b_K_has 10 = .ok (.if_icmp .eq 7, 3) := by decide +kernel
theorem d_K_has_13 : decode b_K_has 13 = .ok (.iconst 1, 1) := by decide +kernel
theorem d_K_has_14 : decode b_K_has 14 = .ok (.goto 4, 3) := by decide +kernel
theorem d_K_has_17 : decode b_K_has 17 = .ok (.iconst 0, 1) := by decide +kernel
theorem d_K_has_18 : decode b_K_has 18 = .ok (.ireturn, 1) := by decide +kernel
theorem d_K_value_0 : decode b_K_value 0 = .ok (.aload_n 0, 1) := by decide +kernel
theorem d_K_value_1 : decode b_K_value 1 = .ok (.iload_n 1, 1) := by decide +kernel
theorem d_K_value_2 : decode b_K_value 2 = .ok (.invokevirtual 119, 3) := by decide +kernel
theorem d_K_value_5 : decode b_K_value 5 = .ok (.astore_n 3, 1) := by decide +kernel
theorem d_K_value_6 : decode b_K_value 6 = .ok (.aload_n 3, 1) := by decide +kernel
theorem d_K_value_7 : decode b_K_value 7 = .ok (.iload_n 2, 1) := by decide +kernel
theorem d_K_value_8 : decode b_K_value 8 = .ok (.invokevirtual 126, 3) := by decide +kernel
theorem d_K_value_11 : decode b_K_value 11 = .ok (.istore 4, 2) := by decide +kernel
theorem d_K_value_13 : decode b_K_value 13 = .ok (.iload 4, 2) := by decide +kernel
theorem d_K_value_15 : decode b_K_value 15 = .ok (.iconst (-1), 1) := by decide +kernel
theorem d_K_value_16 : decode b_K_value 16 = .ok (.if_icmp .eq 7, 3) := by decide +kernel
theorem d_K_value_19 : decode b_K_value 19 = .ok (.iconst 1, 1) := by decide +kernel
theorem d_K_value_20 : decode b_K_value 20 = .ok (.goto 4, 3) := by decide +kernel
theorem d_K_value_23 : decode b_K_value 23 = .ok (.iconst 0, 1) := by decide +kernel
theorem d_K_value_24 : decode b_K_value 24 = .ok (.invokestatic 81, 3) := by decide +kernel
theorem d_K_value_27 : decode b_K_value 27 = .ok (.aload_n 3, 1) := by decide +kernel
theorem d_K_value_28 : decode b_K_value 28 = .ok (.iload 4, 2) := by decide +kernel
theorem d_K_value_30 : decode b_K_value 30 = .ok (.invokevirtual 132, 3) := by decide +kernel
theorem d_K_value_33 : decode b_K_value 33 = .ok (.istore 5, 2) := by decide +kernel
theorem d_K_value_35 : decode b_K_value 35 = .ok (.aload_n 3, 1) := by decide +kernel
theorem d_K_value_36 : decode b_K_value 36 = .ok (.getfield 95, 3) := by decide +kernel
theorem d_K_value_39 : decode b_K_value 39 = .ok (.iload_n 2, 1) := by decide +kernel
theorem d_K_value_40 : decode b_K_value 40 = .ok (.invokevirtual 135, 3) := by decide +kernel
theorem d_K_value_43 : decode b_K_value 43 = .ok (.iload 5, 2) := by decide +kernel
theorem d_K_value_45 : decode b_K_value 45 = .ok (.ireturn, 1) := by decide +kernel
theorem d_K_drop_0 : decode b_K_drop 0 = .ok (.aload_n 0, 1) := by decide +kernel
theorem d_K_drop_1 : decode b_K_drop 1 = .ok (.iload_n 1, 1) := by decide +kernel
theorem d_K_drop_2 : decode b_K_drop 2 = .ok (.invokevirtual 119, 3) := by decide +kernel
theorem d_K_drop_5 : decode b_K_drop 5 = .ok (.astore_n 3, 1) := by decide +kernel
theorem d_K_drop_6 : decode b_K_drop 6 = .ok (.aload_n 3, 1) := by decide +kernel
theorem d_K_drop_7 : decode b_K_drop 7 = .ok (.iload_n 2, 1) := by decide +kernel
theorem d_K_drop_8 : decode b_K_drop 8 = .ok (.invokevirtual 126, 3) := by decide +kernel
theorem d_K_drop_11 : decode b_K_drop 11 = .ok (.istore 4, 2) := by decide +kernel
theorem d_K_drop_13 : decode b_K_drop 13 = .ok (.iload 4, 2) := by decide +kernel
theorem d_K_drop_15 : decode b_K_drop 15 = .ok (.iconst (-1), 1) := by decide +kernel
theorem d_K_drop_16 : decode b_K_drop 16 = .ok (.if_icmp .eq 7, 3) := by decide +kernel
theorem d_K_drop_19 : decode b_K_drop 19 = .ok (.iconst 1, 1) := by decide +kernel
theorem d_K_drop_20 : decode b_K_drop 20 = .ok (.goto 4, 3) := by decide +kernel
theorem d_K_drop_23 : decode b_K_drop 23 = .ok (.iconst 0, 1) := by decide +kernel
theorem d_K_drop_24 : decode b_K_drop 24 = .ok (.invokestatic 81, 3) := by decide +kernel
theorem d_K_drop_27 : decode b_K_drop 27 = .ok (.aload_n 3, 1) := by decide +kernel
theorem d_K_drop_28 : decode b_K_drop 28 = .ok (.iload 4, 2) := by decide +kernel
theorem d_K_drop_30 : decode b_K_drop 30 = .ok (.invokevirtual 132, 3) := by decide +kernel
theorem d_K_drop_33 : decode b_K_drop 33 = .ok (.istore 5, 2) := by decide +kernel
theorem d_K_drop_35 : decode b_K_drop 35 = .ok (.aload_n 3, 1) := by decide +kernel
theorem d_K_drop_36 : decode b_K_drop 36 = .ok (.iload 4, 2) := by decide +kernel
theorem d_K_drop_38 : decode b_K_drop 38 = .ok (.invokevirtual 113, 3) := by decide +kernel
theorem d_K_drop_41 : decode b_K_drop 41 = .ok (.pop, 1) := by decide +kernel
theorem d_K_drop_42 : decode b_K_drop 42 = .ok (.iload 5, 2) := by decide +kernel
theorem d_K_drop_44 : decode b_K_drop 44 = .ok (.ireturn, 1) := by decide +kernel
theorem d_K_near_0 : decode b_K_near 0 = .ok (.aload_n 0, 1) := by decide +kernel
theorem d_K_near_1 : decode b_K_near 1 = .ok (.iload_n 1, 1) := by decide +kernel
theorem d_K_near_2 : decode b_K_near 2 = .ok (.invokevirtual 42, 3) := by decide +kernel
theorem d_K_near_5 : decode b_K_near 5 = .ok (.astore 4, 2) := by decide +kernel
theorem d_K_near_7 : decode b_K_near 7 = .ok (.aload 4, 2) := by decide +kernel
theorem d_K_near_9 : decode b_K_near 9 = .ok (.invokevirtual 50, 3) := by decide +kernel
theorem d_K_near_12 : decode b_K_near 12 = .ok (.invokestatic 53, 3) := by decide +kernel
theorem d_K_near_15 : decode b_K_near 15 = .ok (.iload_n 3, 1) := by decide +kernel
theorem d_K_near_16 : decode b_K_near 16 = .ok (.ifCond .lt 12, 3) := by decide +kernel
theorem d_K_near_19 : decode b_K_near 19 = .ok (.iload_n 3, 1) := by decide +kernel
theorem d_K_near_20 : decode b_K_near 20 = .ok (.iconst 3, 1) := by decide +kernel
theorem d_K_near_21 : decode b_K_near 21 = .ok (.if_icmp .gt 7, 3) := by decide +kernel
theorem d_K_near_24 : decode b_K_near 24 = .ok (.iconst 1, 1) := by decide +kernel
theorem d_K_near_25 : decode b_K_near 25 = .ok (.goto 4, 3) := by decide +kernel
theorem d_K_near_28 : decode b_K_near 28 = .ok (.iconst 0, 1) := by decide +kernel
theorem d_K_near_29 : decode b_K_near 29 = .ok (.invokestatic 26, 3) := by decide +kernel
theorem d_K_near_32 : decode b_K_near 32 = .ok (.iload_n 3, 1) := by decide +kernel
theorem d_K_near_33 : decode b_K_near 33 = .ok (.iconst 1, 1) := by decide +kernel
theorem d_K_near_34 : decode b_K_near 34 = .ok (.if_icmp .eq 8, 3) := by decide +kernel
theorem d_K_near_37 : decode b_K_near 37 = .ok (.iload_n 3, 1) := by decide +kernel
theorem d_K_near_38 : decode b_K_near 38 = .ok (.iconst 3, 1) := by decide +kernel
theorem d_K_near_39 : decode b_K_near 39 = .ok (.if_icmp .ne 7, 3) := by decide +kernel
theorem d_K_near_42 : decode b_K_near 42 = .ok (.iconst 1, 1) := by decide +kernel
theorem d_K_near_43 : decode b_K_near 43 = .ok (.goto 4, 3) := by decide +kernel
theorem d_K_near_46 : decode b_K_near 46 = .ok (.iconst 0, 1) := by decide +kernel
theorem d_K_near_47 : decode b_K_near 47 = .ok (.istore 5, 2) := by decide +kernel
theorem d_K_near_49 : decode b_K_near 49 = .ok (.aload 4, 2) := by decide +kernel
theorem d_K_near_51 : decode b_K_near 51 = .ok (.iload_n 2, 1) := by decide +kernel
theorem d_K_near_52 : decode b_K_near 52 = .ok (.iload 5, 2) := by decide +kernel
theorem d_K_near_54 : decode b_K_near 54 = .ok (.invokevirtual 138, 3) := by decide +kernel
theorem d_K_near_57 : decode b_K_near 57 = .ok (.istore 6, 2) := by decide +kernel
theorem d_K_near_59 : decode b_K_near 59 = .ok (.iload_n 3, 1) := by decide +kernel
theorem d_K_near_60 : decode b_K_near 60 = .ok (.iconst 1, 1) := by decide +kernel
theorem d_K_near_61 : decode b_K_near 61 = .ok (.if_icmp .gt 10, 3) := by decide +kernel
theorem d_K_near_64 : decode b_K_near 64 = .ok (.iload 6, 2) := by decide +kernel
theorem d_K_near_66 : decode b_K_near 66 = .ok (.iconst 1, 1) := by decide +kernel
theorem d_K_near_67 : decode b_K_near 67 = .ok (.isub, 1) := by decide +kernel
theorem d_K_near_68 : decode b_K_near 68 = .ok (.goto 5, 3) := by decide +kernel
theorem d_K_near_71 : decode b_K_near 71 = .ok (.iload 6, 2) := by decide +kernel
theorem d_K_near_73 : decode b_K_near 73 = .ok (.istore 7, 2) := by decide +kernel
theorem d_K_near_75 : decode b_K_near 75 = .ok (.aload 4, 2) := by decide +kernel
theorem d_K_near_77 : decode b_K_near 77 = .ok (.iload 7, 2) := by decide +kernel
theorem d_K_near_79 : decode b_K_near 79 = .ok (.invokevirtual 77, 3) := by decide +kernel
theorem d_K_near_82 : decode b_K_near 82 = .ok (.invokestatic 81, 3) := by decide +kernel
theorem d_K_near_85 : decode b_K_near 85 = .ok (.aload 4, 2) := by decide +kernel
theorem d_K_near_87 : decode b_K_near 87 = .ok (.iload 7, 2) := by decide +kernel
theorem d_K_near_89 : decode b_K_near 89 = .ok (.invokevirtual 84, 3) := by decide +kernel
theorem d_K_near_92 : decode b_K_near 92 = .ok (.ireturn, 1) := by decide +kernel
theorem d_K_room_0 : decode b_K_room 0 = .ok (.aload_n 0, 1) := by decide +kernel
theorem d_K_room_1 : decode b_K_room 1 = .ok (.iload_n 1, 1) := by decide +kernel
theorem d_K_room_2 : decode b_K_room 2 = .ok (.invokevirtual 42, 3) := by decide +kernel
theorem d_K_room_5 : decode b_K_room 5 = .ok (.astore_n 2, 1) := by decide +kernel
theorem d_K_room_6 : decode b_K_room 6 = .ok (.aload_n 2, 1) := by decide +kernel
theorem d_K_room_7 : decode b_K_room 7 = .ok (.getfield 71, 3) := by decide +kernel
theorem d_K_room_10 : decode b_K_room 10 = .ok (.ifCond .eq 10, 3) := by decide +kernel
theorem d_K_room_13 : decode b_K_room 13 = .ok (.aload_n 2, 1) := by decide +kernel
theorem d_K_room_14 : decode b_K_room 14 = .ok (.invokevirtual 139, 3) := by decide +kernel
theorem d_K_room_17 : decode b_K_room 17 = .ok (.ifCond .eq 7, 3) := by decide +kernel
theorem d_K_room_20 : decode b_K_room 20 = .ok (.iconst 1, 1) := by decide +kernel
theorem d_K_room_21 : decode b_K_room 21 = .ok (.goto 4, 3) := by decide +kernel
theorem d_K_room_24 : decode b_K_room 24 = .ok (.iconst 0, 1) := by decide +kernel
theorem d_K_room_25 : decode b_K_room 25 = .ok (.invokestatic 53, 3) := by decide +kernel
theorem d_K_room_28 : decode b_K_room 28 = .ok (.aload_n 2, 1) := by decide +kernel
theorem d_K_room_29 : decode b_K_room 29 = .ok (.getfield 95, 3) := by decide +kernel
theorem d_K_room_32 : decode b_K_room 32 = .ok (.getfield 142, 3) := by decide +kernel
theorem d_K_room_35 : decode b_K_room 35 = .ok (.ireturn, 1) := by decide +kernel
theorem d_K_bucket_0 : decode b_K_bucket 0 = .ok (.aload_n 0, 1) := by decide +kernel
theorem d_K_bucket_1 : decode b_K_bucket 1 = .ok (.iload_n 1, 1) := by decide +kernel
theorem d_K_bucket_2 : decode b_K_bucket 2 = .ok (.invokevirtual 42, 3) := by decide +kernel
theorem d_K_bucket_5 : decode b_K_bucket 5 = .ok (.astore_n 3, 1) := by decide +kernel
theorem d_K_bucket_6 : decode b_K_bucket 6 = .ok (.aload_n 3, 1) := by decide +kernel
theorem d_K_bucket_7 : decode b_K_bucket 7 = .ok (.invokevirtual 139, 3) := by decide +kernel
theorem d_K_bucket_10 : decode b_K_bucket 10 = .ok (.invokestatic 53, 3) := by decide +kernel
theorem d_K_bucket_13 : decode b_K_bucket 13 = .ok (.aload_n 3, 1) := by decide +kernel
theorem d_K_bucket_14 : decode b_K_bucket 14 = .ok (.getfield 95, 3) := by decide +kernel
theorem d_K_bucket_17 : decode b_K_bucket 17 = .ok (.iload_n 2, 1) := by decide +kernel
theorem d_K_bucket_18 : decode b_K_bucket 18 = .ok (.invokevirtual 145, 3) := by decide +kernel
theorem d_K_bucket_21 : decode b_K_bucket 21 = .ok (.ireturn, 1) := by decide +kernel
theorem d_K_sift_0 : decode b_K_sift 0 = .ok (.aload_n 0, 1) := by decide +kernel
theorem d_K_sift_1 : decode b_K_sift 1 = .ok (.iload_n 1, 1) := by decide +kernel
theorem d_K_sift_2 : decode b_K_sift 2 = .ok (.invokevirtual 42, 3) := by decide +kernel
theorem d_K_sift_5 : decode b_K_sift 5 = .ok (.astore 4, 2) := by decide +kernel
theorem d_K_sift_7 : decode b_K_sift 7 = .ok (.aload 4, 2) := by decide +kernel
theorem d_K_sift_9 : decode b_K_sift 9 = .ok (.getfield 71, 3) := by decide +kernel
theorem d_K_sift_12 : decode b_K_sift 12 = .ok (.iconst 5, 1) := by decide +kernel
theorem d_K_sift_13 : decode b_K_sift 13 = .ok (.if_icmp .eq 7, 3) := by decide +kernel
theorem d_K_sift_16 : decode b_K_sift 16 = .ok (.iconst 1, 1) := by decide +kernel
theorem d_K_sift_17 : decode b_K_sift 17 = .ok (.goto 4, 3) := by decide +kernel
theorem d_K_sift_20 : decode b_K_sift 20 = .ok (.iconst 0, 1) := by decide +kernel
theorem d_K_sift_21 : decode b_K_sift 21 = .ok (.invokestatic 53, 3) := by decide +kernel
theorem d_K_sift_24 : decode b_K_sift 24 = .ok (.aload 4, 2) := by decide +kernel
theorem d_K_sift_26 : decode b_K_sift 26 = .ok (.invokestatic 56, 3) := by decide +kernel
theorem d_K_sift_29 : decode b_K_sift 29 = .ok (.iload_n 2, 1) := by decide +kernel
theorem d_K_sift_30 : decode b_K_sift 30 = .ok (.iconst 1, 1) := by decide +kernel
theorem d_K_sift_31 : decode b_K_sift 31 = .ok (.if_icmp .lt 7, 3) := by decide +kernel
theorem d_K_sift_34 : decode b_K_sift 34 = .ok (.iconst 1, 1) := by decide +kernel
theorem d_K_sift_35 : decode b_K_sift 35 = .ok (.goto 4, 3) := by decide +kernel
theorem d_K_sift_38 : decode b_K_sift 38 = .ok (.iconst 0, 1) := by decide +kernel
theorem d_K_sift_39 : decode b_K_sift 39 = .ok (.invokestatic 26, 3) := by decide +kernel
theorem d_K_sift_42 : decode b_K_sift 42 = .ok (.aload 4, 2) := by decide +kernel
theorem d_K_sift_44 : decode b_K_sift 44 = .ok (.iload_n 2, 1) := by decide +kernel
theorem d_K_sift_45 : decode b_K_sift 45 = .ok (.iload_n 3, 1) := by decide +kernel
theorem d_K_sift_46 : decode b_K_sift 46 = .ok (.invokevirtual 148, 3) := by decide +kernel
theorem d_K_sift_49 : decode b_K_sift 49 = .ok (.ireturn, 1) := by decide +kernel
theorem d_K_same_0 : decode b_K_same 0 = .ok (.aload_n 0, 1) := by decide +kernel
theorem d_K_same_1 : decode b_K_same 1 = .ok (.iload_n 1, 1) := by decide +kernel
theorem d_K_same_2 : decode b_K_same 2 = .ok (.invokevirtual 42, 3) := by decide +kernel
theorem d_K_same_5 : decode b_K_same 5 = .ok (.astore_n 3, 1) := by decide +kernel
theorem d_K_same_6 : decode b_K_same 6 = .ok (.aload_n 0, 1) := by decide +kernel
theorem d_K_same_7 : decode b_K_same 7 = .ok (.iload_n 2, 1) := by decide +kernel
theorem d_K_same_8 : decode b_K_same 8 = .ok (.invokevirtual 42, 3) := by decide +kernel
theorem d_K_same_11 : decode b_K_same 11 = .ok (.astore 4, 2) := by decide +kernel
theorem d_K_same_13 : decode b_K_same 13 = .ok (.aload_n 3, 1) := by decide +kernel
theorem d_K_same_14 : decode b_K_same 14 = .ok (.invokestatic 56, 3) := by decide +kernel
theorem d_K_same_17 : decode b_K_same 17 = .ok (.aload 4, 2) := by decide +kernel
theorem d_K_same_19 : decode b_K_same 19 = .ok (.invokestatic 56, 3) := by decide +kernel
theorem d_K_same_22 : decode b_K_same 22 = .ok (.aload_n 3, 1) := by decide +kernel
theorem d_K_same_23 : decode b_K_same 23 = .ok (.invokevirtual 46, 3) := by decide +kernel
theorem d_K_same_26 : decode b_K_same 26 = .ok (.ifCond .eq 18, 3) := by decide +kernel
theorem d_K_same_29 : decode b_K_same 29 = .ok (.aload 4, 2) := by decide +kernel
theorem d_K_same_31 : decode b_K_same 31 = .ok (.invokevirtual 46, 3) := by decide +kernel
theorem d_K_same_34 : decode b_K_same 34 = .ok (.ifCond .eq 10, 3) := by decide +kernel
theorem d_K_same_37 : decode b_K_same 37 = .ok (.aload_n 3, 1) := by decide +kernel
theorem d_K_same_38 : decode b_K_same 38 = .ok (.aload 4, 2) := by decide +kernel
theorem d_K_same_40 : decode b_K_same 40 = .ok (.invokevirtual 151, 3) := by decide +kernel
theorem d_K_same_43 : decode b_K_same 43 = .ok (.ireturn, 1) := by decide +kernel
theorem d_K_same_44 : decode b_K_same 44 = .ok (.aload_n 3, 1) := by decide +kernel
theorem d_K_same_45 : decode b_K_same 45 = .ok (.invokevirtual 155, 3) := by decide +kernel
theorem d_K_same_48 : decode b_K_same 48 = .ok (.ifCond .eq 24, 3) := by decide +kernel
theorem d_K_same_51 : decode b_K_same 51 = .ok (.aload 4, 2) := by decide +kernel
theorem d_K_same_53 : decode b_K_same 53 = .ok (.invokevirtual 155, 3) := by decide +kernel
theorem d_K_same_56 : decode b_K_same 56 = .ok (.ifCond .eq 16, 3) := by decide +kernel
theorem d_K_same_59 : decode b_K_same 59 = .ok (.aload_n 3, 1) := by decide +kernel
theorem d_K_same_60 : decode b_K_same 60 = .ok (.aload 4, 2) := by decide +kernel
theorem d_K_same_62 : decode b_K_same 62 = .ok (.invokevirtual 158, 3) := by decide +kernel
theorem d_K_same_65 : decode b_K_same 65 = .ok (.ifCond .eq 7, 3) := by decide +kernel
theorem d_K_same_68 : decode b_K_same 68 = .ok (.iconst 1, 1) := by decide +kernel
theorem d_K_same_69 : decode b_K_same 69 = .ok (.goto 4, 3) := by decide +kernel
theorem d_K_same_72 : decode b_K_same 72 = .ok (.iconst 0, 1) := by decide +kernel
theorem d_K_same_73 : decode b_K_same 73 = .ok (.ireturn, 1) := by decide +kernel
theorem d_K_open_0 : decode b_K_open 0 = .ok (.aload_n 0, 1) := by decide +kernel
theorem d_K_open_1 : decode b_K_open 1 = .ok (.iload_n 1, 1) := by decide +kernel
theorem d_K_open_2 : decode b_K_open 2 = .ok (.invokevirtual 161, 3) := by decide +kernel
theorem d_K_open_5 : decode b_K_open 5 = .ok (.astore_n 3, 1) := by decide +kernel
theorem d_K_open_6 : decode b_K_open 6 = .ok (.aload_n 0, 1) := by decide +kernel
theorem d_K_open_7 : decode b_K_open 7 = .ok (.iload_n 2, 1) := by decide +kernel
theorem d_K_open_8 : decode b_K_open 8 = .ok (.invokevirtual 42, 3) := by decide +kernel
theorem d_K_open_11 : decode b_K_open 11 = .ok (.astore 4, 2) := by decide +kernel
theorem d_K_open_13 : decode b_K_open 13 = .ok (.aload 4, 2) := by decide +kernel
theorem d_K_open_15 : decode b_K_open 15 = .ok (.getfield 71, 3) := by decide +kernel
theorem d_K_open_18 : decode b_K_open 18 = .ok (.iconst 5, 1) := by decide +kernel
theorem d_K_open_19 : decode b_K_open 19 = .ok (.if_icmp .eq 7, 3) := by decide +kernel
theorem d_K_open_22 : decode b_K_open 22 = .ok (.iconst 1, 1) := by decide +kernel
theorem d_K_open_23 : decode b_K_open 23 = .ok (.goto 4, 3) := by decide +kernel
theorem d_K_open_26 : decode b_K_open 26 = .ok (.iconst 0, 1) := by decide +kernel
theorem d_K_open_27 : decode b_K_open 27 = .ok (.invokestatic 53, 3) := by decide +kernel
theorem d_K_open_30 : decode b_K_open 30 = .ok (.aload 4, 2) := by decide +kernel
theorem d_K_open_32 : decode b_K_open 32 = .ok (.invokestatic 56, 3) := by decide +kernel
theorem d_K_open_35 : decode b_K_open 35 = .ok (.aload_n 3, 1) := by decide +kernel
theorem d_K_open_36 : decode b_K_open 36 = .ok (.aload 4, 2) := by decide +kernel
theorem d_K_open_38 : decode b_K_open 38 = .ok (.invokevirtual 165, 3) := by decide +kernel
theorem d_K_open_41 : decode b_K_open 41 = .ok (.return_, 1) := by decide +kernel
theorem d_K_next_0 : decode b_K_next 0 = .ok (.aload_n 0, 1) := by decide +kernel
theorem d_K_next_1 : decode b_K_next 1 = .ok (.iload_n 1, 1) := by decide +kernel
theorem d_K_next_2 : decode b_K_next 2 = .ok (.invokevirtual 168, 3) := by decide +kernel
theorem d_K_next_5 : decode b_K_next 5 = .ok (.astore_n 3, 1) := by decide +kernel
theorem d_K_next_6 : decode b_K_next 6 = .ok (.aload_n 3, 1) := by decide +kernel
theorem d_K_next_7 : decode b_K_next 7 = .ok (.getfield 171, 3) := by decide +kernel
theorem d_K_next_10 : decode b_K_next 10 = .ok (.astore 4, 2) := by decide +kernel
theorem d_K_next_12 : decode b_K_next 12 = .ok (.iload_n 2, 1) := by decide +kernel
theorem d_K_next_13 : decode b_K_next 13 = .ok (.ifCond .ne 11, 3) := by decide +kernel
theorem d_K_next_16 : decode b_K_next 16 = .ok (.aload 4, 2) := by decide +kernel
theorem d_K_next_18 : decode b_K_next 18 = .ok (.invokevirtual 46, 3) := by decide +kernel
theorem d_K_next_21 : decode b_K_next 21 = .ok (.ifCond .eq 7, 3) := by decide +kernel
theorem d_K_next_24 : decode b_K_next 24 = .ok (.iconst 1, 1) := by decide +kernel
theorem d_K_next_25 : decode b_K_next 25 = .ok (.goto 4, 3) := by decide +kernel
theorem d_K_next_28 : decode b_K_next 28 = .ok (.iconst 0, 1) := by decide +kernel
theorem d_K_next_29 : decode b_K_next 29 = .ok (.invokestatic 53, 3) := by decide +kernel
theorem d_K_next_32 : decode b_K_next 32 = .ok (.aload_n 3, 1) := by decide +kernel
theorem d_K_next_33 : decode b_K_next 33 = .ok (.invokestatic 175, 3) := by decide +kernel
theorem d_K_next_36 : decode b_K_next 36 = .ok (.iload_n 2, 1) := by decide +kernel
theorem d_K_next_37 : decode b_K_next 37 = .ok (.ifCond .eq 10, 3) := by decide +kernel
theorem d_K_next_40 : decode b_K_next 40 = .ok (.aload_n 3, 1) := by decide +kernel
theorem d_K_next_41 : decode b_K_next 41 = .ok (.getfield 179, 3) := by decide +kernel
theorem d_K_next_44 : decode b_K_next 44 = .ok (.goto 9, 3) := by decide +kernel
theorem d_K_next_47 : decode b_K_next 47 = .ok (.aload_n 3, 1) := by decide +kernel
theorem d_K_next_48 : decode b_K_next 48 = .ok (.getfield 179, 3) := by decide +kernel
theorem d_K_next_51 : decode b_K_next 51 = .ok (.iconst 1, 1) := by decide +kernel
theorem d_K_next_52 : decode b_K_next 52 = .ok (.isub, 1) := by decide +kernel
theorem d_K_next_53 : decode b_K_next 53 = .ok (.istore 5, 2) := by decide +kernel
theorem d_K_next_55 : decode b_K_next 55 = .ok (.aload 4, 2) := by decide +kernel
theorem d_K_next_57 : decode b_K_next 57 = .ok (.iload 5, 2) := by decide +kernel
theorem d_K_next_59 : decode b_K_next 59 = .ok (.invokevirtual 77, 3) := by decide +kernel
theorem d_K_next_62 : decode b_K_next 62 = .ok (.invokestatic 81, 3) := by decide +kernel
theorem d_K_next_65 : decode b_K_next 65 = .ok (.aload_n 3, 1) := by decide +kernel
theorem d_K_next_66 : decode b_K_next 66 = .ok (.iload 5, 2) := by decide +kernel
theorem d_K_next_68 : decode b_K_next 68 = .ok (.iload_n 2, 1) := by decide +kernel
theorem d_K_next_69 : decode b_K_next 69 = .ok (.invokevirtual 182, 3) := by decide +kernel
theorem d_K_next_72 : decode b_K_next 72 = .ok (.aload 4, 2) := by decide +kernel
theorem d_K_next_74 : decode b_K_next 74 = .ok (.iload 5, 2) := by decide +kernel
theorem d_K_next_76 : decode b_K_next 76 = .ok (.invokevirtual 84, 3) := by decide +kernel
theorem d_K_next_79 : decode b_K_next 79 = .ok (.ireturn, 1) := by decide +kernel
theorem d_K_left_0 : decode b_K_left 0 = .ok (.aload_n 0, 1) := by decide +kernel
theorem d_K_left_1 : decode b_K_left 1 = .ok (.iload_n 1, 1) := by decide +kernel
theorem d_K_left_2 : decode b_K_left 2 = .ok (.invokevirtual 168, 3) := by decide +kernel
theorem d_K_left_5 : decode b_K_left 5 = .ok (.astore_n 2, 1) := by decide +kernel
theorem d_K_left_6 : decode b_K_left 6 = .ok (.aload_n 2, 1) := by decide +kernel
theorem d_K_left_7 : decode b_K_left 7 = .ok (.invokestatic 175, 3) := by decide +kernel
theorem d_K_left_10 : decode b_K_left 10 = .ok (.aload_n 2, 1) := by decide +kernel
theorem d_K_left_11 : decode b_K_left 11 = .ok (.getfield 171, 3) := by decide +kernel
theorem d_K_left_14 : decode b_K_left 14 = .ok (.invokevirtual 60, 3) := by decide +kernel
theorem d_K_left_17 : decode b_K_left 17 = .ok (.aload_n 2, 1) := by decide +kernel
theorem d_K_left_18 : decode b_K_left 18 = .ok (.getfield 179, 3) := by decide +kernel
theorem d_K_left_21 : decode b_K_left 21 = .ok (.isub, 1) := by decide +kernel
theorem d_K_left_22 : decode b_K_left 22 = .ok (.ireturn, 1) := by decide +kernel
theorem d_K_erase_0 : decode b_K_erase 0 = .ok (.aload_n 0, 1) := by decide +kernel
theorem d_K_erase_1 : decode b_K_erase 1 = .ok (.iload_n 1, 1) := by decide +kernel
theorem d_K_erase_2 : decode b_K_erase 2 = .ok (.invokevirtual 168, 3) := by decide +kernel
theorem d_K_erase_5 : decode b_K_erase 5 = .ok (.astore_n 2, 1) := by decide +kernel
theorem d_K_erase_6 : decode b_K_erase 6 = .ok (.aload_n 2, 1) := by decide +kernel
theorem d_K_erase_7 : decode b_K_erase 7 = .ok (.invokestatic 175, 3) := by decide +kernel
theorem d_K_erase_10 : decode b_K_erase 10 = .ok (.aload_n 2, 1) := by decide +kernel
theorem d_K_erase_11 : decode b_K_erase 11 = .ok (.getfield 186, 3) := by decide +kernel
theorem d_K_erase_14 : decode b_K_erase 14 = .ok (.iconst (-1), 1) := by decide +kernel
theorem d_K_erase_15 : decode b_K_erase 15 = .ok (.if_icmp .eq 7, 3) := by decide +kernel
theorem d_K_erase_18 : decode b_K_erase 18 = .ok (.iconst 1, 1) := by decide +kernel
theorem d_K_erase_19 : decode b_K_erase 19 = .ok (.goto 4, 3) := by decide +kernel
theorem d_K_erase_22 : decode b_K_erase 22 = .ok (.iconst 0, 1) := by decide +kernel
theorem d_K_erase_23 : decode b_K_erase 23 = .ok (.invokestatic 26, 3) := by decide +kernel
theorem d_K_erase_26 : decode b_K_erase 26 = .ok (.aload_n 2, 1) := by decide +kernel
theorem d_K_erase_27 : decode b_K_erase 27 = .ok (.getfield 171, 3) := by decide +kernel
theorem d_K_erase_30 : decode b_K_erase 30 = .ok (.aload_n 2, 1) := by decide +kernel
theorem d_K_erase_31 : decode b_K_erase 31 = .ok (.getfield 186, 3) := by decide +kernel
theorem d_K_erase_34 : decode b_K_erase 34 = .ok (.invokevirtual 113, 3) := by decide +kernel
theorem d_K_erase_37 : decode b_K_erase 37 = .ok (.pop, 1) := by decide +kernel
theorem d_K_erase_38 : decode b_K_erase 38 = .ok (.aload_n 2, 1) := by decide +kernel
theorem d_K_erase_39 : decode b_K_erase 39 = .ok (.aload_n 2, 1) := by decide +kernel
theorem d_K_erase_40 : decode b_K_erase 40 = .ok (.getfield 186, 3) := by decide +kernel
theorem d_K_erase_43 : decode b_K_erase 43 = .ok (.invokevirtual 189, 3) := by decide +kernel
theorem d_K_erase_46 : decode b_K_erase 46 = .ok (.return_, 1) := by decide +kernel
theorem d_K_assign_0 : decode b_K_assign 0 = .ok (.aload_n 0, 1) := by decide +kernel
theorem d_K_assign_1 : decode b_K_assign 1 = .ok (.iload_n 1, 1) := by decide +kernel
theorem d_K_assign_2 : decode b_K_assign 2 = .ok (.invokevirtual 168, 3) := by decide +kernel
theorem d_K_assign_5 : decode b_K_assign 5 = .ok (.astore_n 3, 1) := by decide +kernel
theorem d_K_assign_6 : decode b_K_assign 6 = .ok (.aload_n 3, 1) := by decide +kernel
theorem d_K_assign_7 : decode b_K_assign 7 = .ok (.invokestatic 175, 3) := by decide +kernel
theorem d_K_assign_10 : decode b_K_assign 10 = .ok (.aload_n 3, 1) := by decide +kernel
theorem d_K_assign_11 : decode b_K_assign 11 = .ok (.getfield 186, 3) := by decide +kernel
theorem d_K_assign_14 : decode b_K_assign 14 = .ok (.iconst (-1), 1) := by decide +kernel
theorem d_K_assign_15 : decode b_K_assign 15 = .ok (.if_icmp .eq 7, 3) := by decide +kernel
theorem d_K_assign_18 : decode b_K_assign 18 = .ok (.iconst 1, 1) := by decide +kernel
theorem d_K_assign_19 : decode b_K_assign 19 = .ok (.goto 4, 3) := by decide +kernel
theorem d_K_assign_22 : decode b_K_assign 22 = .ok (.iconst 0, 1) := by decide +kernel
theorem d_K_assign_23 : decode b_K_assign 23 = .ok (.invokestatic 26, 3) := by decide +kernel
theorem d_K_assign_26 : decode b_K_assign 26 = .ok (.aload_n 3, 1) := by decide +kernel
theorem d_K_assign_27 : decode b_K_assign 27 = .ok (.getfield 171, 3) := by decide +kernel
theorem d_K_assign_30 : decode b_K_assign 30 = .ok (.astore 4, 2) := by decide +kernel
theorem d_K_assign_32 : decode b_K_assign 32 = .ok (.aload 4, 2) := by decide +kernel
theorem d_K_assign_34 : decode b_K_assign 34 = .ok (.invokevirtual 46, 3) := by decide +kernel
theorem d_K_assign_37 : decode b_K_assign 37 = .ok (.ifCond .eq 16, 3) := by decide +kernel
theorem d_K_assign_40 : decode b_K_assign 40 = .ok (.aload 4, 2) := by decide +kernel
theorem d_K_assign_42 : decode b_K_assign 42 = .ok (.aload_n 3, 1) := by decide +kernel
theorem d_K_assign_43 : decode b_K_assign 43 = .ok (.getfield 186, 3) := by decide +kernel
theorem d_K_assign_46 : decode b_K_assign 46 = .ok (.iload_n 2, 1) := by decide +kernel
theorem d_K_assign_47 : decode b_K_assign 47 = .ok (.invokevirtual 88, 3) := by decide +kernel
theorem d_K_assign_50 : decode b_K_assign 50 = .ok (.goto 13, 3) := by decide +kernel
theorem d_K_assign_53 : decode b_K_assign 53 = .ok (.aload 4, 2) := by decide +kernel
theorem d_K_assign_55 : decode b_K_assign 55 = .ok (.aload_n 3, 1) := by decide +kernel
theorem d_K_assign_56 : decode b_K_assign 56 = .ok (.getfield 186, 3) := by decide +kernel
theorem d_K_assign_59 : decode b_K_assign 59 = .ok (.iload_n 2, 1) := by decide +kernel
theorem d_K_assign_60 : decode b_K_assign 60 = .ok (.invokevirtual 192, 3) := by decide +kernel
theorem d_K_assign_63 : decode b_K_assign 63 = .ok (.ireturn, 1) := by decide +kernel
theorem d_K_plant_0 : decode b_K_plant 0 = .ok (.aload_n 0, 1) := by decide +kernel
theorem d_K_plant_1 : decode b_K_plant 1 = .ok (.iload_n 1, 1) := by decide +kernel
theorem d_K_plant_2 : decode b_K_plant 2 = .ok (.invokevirtual 168, 3) := by decide +kernel
theorem d_K_plant_5 : decode b_K_plant 5 = .ok (.astore_n 3, 1) := by decide +kernel
theorem d_K_plant_6 : decode b_K_plant 6 = .ok (.aload_n 3, 1) := by decide +kernel
theorem d_K_plant_7 : decode b_K_plant 7 = .ok (.getfield 171, 3) := by decide +kernel
theorem d_K_plant_10 : decode b_K_plant 10 = .ok (.astore 4, 2) := by decide +kernel
theorem d_K_plant_12 : decode b_K_plant 12 = .ok (.aload 4, 2) := by decide +kernel
theorem d_K_plant_14 : decode b_K_plant 14 = .ok (.invokevirtual 46, 3) := by decide +kernel
theorem d_K_plant_17 : decode b_K_plant 17 = .ok (.invokestatic 53, 3) := by decide +kernel
theorem d_K_plant_20 : decode b_K_plant 20 = .ok (.aload_n 3, 1) := by decide +kernel
theorem d_K_plant_21 : decode b_K_plant 21 = .ok (.invokestatic 175, 3) := by decide +kernel
theorem d_K_plant_24 : decode b_K_plant 24 = .ok (.aload 4, 2) := by decide +kernel
theorem d_K_plant_26 : decode b_K_plant 26 = .ok (.getfield 95, 3) := by decide +kernel
theorem d_K_plant_29 : decode b_K_plant 29 = .ok (.invokestatic 99, 3) := by decide +kernel
theorem d_K_plant_32 : decode b_K_plant 32 = .ok (.aload 4, 2) := by decide +kernel
theorem d_K_plant_34 : decode b_K_plant 34 = .ok (.aload_n 3, 1) := by decide +kernel
theorem d_K_plant_35 : decode b_K_plant 35 = .ok (.getfield 179, 3) := by decide +kernel
theorem d_K_plant_38 : decode b_K_plant 38 = .ok (.iload_n 2, 1) := by decide +kernel
theorem d_K_plant_39 : decode b_K_plant 39 = .ok (.invokevirtual 109, 3) := by decide +kernel
theorem d_K_plant_42 : decode b_K_plant 42 = .ok (.aload_n 3, 1) := by decide +kernel
theorem d_K_plant_43 : decode b_K_plant 43 = .ok (.aload_n 3, 1) := by decide +kernel
theorem d_K_plant_44 : decode b_K_plant 44 = .ok (.getfield 179, 3) := by decide +kernel
theorem d_K_plant_47 : decode b_K_plant 47 = .ok (.iconst 1, 1) := by decide +kernel
theorem d_K_plant_48 : decode b_K_plant 48 = .ok (.iadd, 1) := by decide +kernel
theorem d_K_plant_49 : decode b_K_plant 49 = .ok (.invokevirtual 189, 3) := by decide +kernel
theorem d_K_plant_52 : decode b_K_plant 52 = .ok (.return_, 1) := by decide +kernel
theorem d_K_containerAt_0 : decode b_K_containerAt 0 = .ok (.iload_n 1, 1) := by decide +kernel
theorem d_K_containerAt_1 : decode b_K_containerAt 1 = .ok (.ifCond .lt 21, 3) := by decide +kernel
theorem d_K_containerAt_4 : decode b_K_containerAt 4 = .ok (.iload_n 1, 1) := by decide +kernel
theorem d_K_containerAt_5 : decode b_K_containerAt 5 = .ok (.aload_n 0, 1) := by decide +kernel
theorem d_K_containerAt_6 : decode b_K_containerAt 6 = .ok (.getfield 11, 3) := by decide +kernel
theorem d_K_containerAt_9 : decode b_K_containerAt 9 = .ok (.arraylength, 1) := by decide +kernel
theorem d_K_containerAt_10 : decode b_K_containerAt 10 = .ok (.if_icmp .ge 12, 3) := by decide +kernel
theorem d_K_containerAt_13 : decode b_K_containerAt 13 = .ok (.aload_n 0, 1) := by decide +kernel
theorem d_K_containerAt_14 : decode b_K_containerAt 14 = .ok (.getfield 11, 3) := by decide +kernel
theorem d_K_containerAt_17 : decode b_K_containerAt 17 = .ok (.iload_n 1, 1) := by decide +kernel
theorem d_K_containerAt_18 : decode b_K_containerAt 18 = .ok (.aaload, 1) := by decide +kernel
theorem d_K_containerAt_19 : decode b_K_containerAt 19 = .ok (.ifnonnull 13, 3) := by decide +kernel
theorem d_K_containerAt_22 : decode b_K_containerAt 22 = .ok (.new 195, 3) := by decide +kernel
theorem d_K_containerAt_25 : decode b_K_containerAt 25 = .ok (.dup, 1) := by decide +kernel
theorem d_K_containerAt_26 : decode b_K_containerAt 26 = .ok (.ldc 197, 2) := by decide +kernel
theorem d_K_containerAt_28 : decode b_K_containerAt 28 = .ok (.invokespecial 199, 3) := by decide +kernel
theorem d_K_containerAt_31 : decode b_K_containerAt 31 = .ok (.athrow, 1) := by decide +kernel
theorem d_K_containerAt_32 : decode b_K_containerAt 32 = .ok (.aload_n 0, 1) := by decide +kernel
theorem d_K_containerAt_33 : decode b_K_containerAt 33 = .ok (.getfield 11, 3) := by decide +kernel
theorem d_K_containerAt_36 : decode b_K_containerAt 36 = .ok (.iload_n 1, 1) := by decide +kernel
theorem d_K_containerAt_37 : decode b_K_containerAt 37 = .ok (.aaload, 1) := by decide +kernel
theorem d_K_containerAt_38 : decode b_K_containerAt 38 = .ok (.areturn, 1) := by decide +kernel
theorem d_K_mapAt_0 : decode b_K_mapAt 0 = .ok (.aload_n 0, 1) := by decide +kernel
theorem d_K_mapAt_1 : decode b_K_mapAt 1 = .ok (.iload_n 1, 1) := by decide +kernel
theorem d_K_mapAt_2 : decode b_K_mapAt 2 = .ok (.invokevirtual 42, 3) := by decide +kernel
theorem d_K_mapAt_5 : decode b_K_mapAt 5 = .ok (.astore_n 2, 1) := by decide +kernel
theorem d_K_mapAt_6 : decode b_K_mapAt 6 = .ok (.aload_n 2, 1) := by decide +kernel
theorem d_K_mapAt_7 : decode b_K_mapAt 7 = .ok (.invokevirtual 155, 3) := by decide +kernel
theorem d_K_mapAt_10 : decode b_K_mapAt 10 = .ok (.invokestatic 53, 3) := by decide +kernel
theorem d_K_mapAt_13 : decode b_K_mapAt 13 = .ok (.aload_n 2, 1) := by decide +kernel
theorem d_K_mapAt_14 : decode b_K_mapAt 14 = .ok (.areturn, 1) := by decide +kernel
theorem d_K_freshList_0 : decode b_K_freshList 0 = .ok (.aload_n 0, 1) := by decide +kernel
theorem d_K_freshList_1 : decode b_K_freshList 1 = .ok (.iload_n 1, 1) := by decide +kernel
theorem d_K_freshList_2 : decode b_K_freshList 2 = .ok (.invokevirtual 42, 3) := by decide +kernel
theorem d_K_freshList_5 : decode b_K_freshList 5 = .ok (.astore_n 2, 1) := by decide +kernel
theorem d_K_freshList_6 : decode b_K_freshList 6 = .ok (.aload_n 2, 1) := by decide +kernel
theorem d_K_freshList_7 : decode b_K_freshList 7 = .ok (.invokevirtual 46, 3) := by decide +kernel
theorem d_K_freshList_10 : decode b_K_freshList 10 = .ok (.invokestatic 53, 3) := by decide +kernel
theorem d_K_freshList_13 : decode b_K_freshList 13 = .ok (.aload_n 2, 1) := by decide +kernel
theorem d_K_freshList_14 : decode b_K_freshList 14 = .ok (.invokestatic 56, 3) := by decide +kernel
theorem d_K_freshList_17 : decode b_K_freshList 17 = .ok (.aload_n 2, 1) := by decide +kernel
theorem d_K_freshList_18 : decode b_K_freshList 18 = .ok (.areturn, 1) := by decide +kernel
theorem d_K_freshListOrHeap_0 : decode b_K_freshListOrHeap 0 = .ok (.aload_n 0, 1) := by decide +kernel
theorem d_K_freshListOrHeap_1 : decode b_K_freshListOrHeap 1 = .ok (.iload_n 1, 1) := by decide +kernel
theorem d_K_freshListOrHeap_2 : decode b_K_freshListOrHeap 2 = .ok (.invokevirtual 42, 3) := by decide +kernel
theorem d_K_freshListOrHeap_5 : decode b_K_freshListOrHeap 5 = .ok (.astore_n 2, 1) := by decide +kernel
theorem d_K_freshListOrHeap_6 : decode b_K_freshListOrHeap 6 = .ok (.aload_n 2, 1) := by decide +kernel
theorem d_K_freshListOrHeap_7 : decode b_K_freshListOrHeap 7 = .ok (.invokevirtual 46, 3) := by decide +kernel
theorem d_K_freshListOrHeap_10 : decode b_K_freshListOrHeap 10 = .ok (.ifCond .ne 11, 3) := by decide +kernel
theorem d_K_freshListOrHeap_13 : decode b_K_freshListOrHeap 13 = .ok (.aload_n 2, 1) := by decide +kernel
theorem d_K_freshListOrHeap_14 : decode b_K_freshListOrHeap 14 = .ok (.getfield 71, 3) := by decide +kernel
theorem d_K_freshListOrHeap_17 : decode b_K_freshListOrHeap 17 = .ok (.iconst 5, 1) := by decide +kernel
theorem d_K_freshListOrHeap_18 : decode b_K_freshListOrHeap 18 = .ok (.if_icmp .ne 7, 3) := by decide +kernel
theorem d_K_freshListOrHeap_21 : decode b_K_freshListOrHeap 21 = .ok (.iconst 1, 1) := by decide +kernel
theorem d_K_freshListOrHeap_22 : decode b_K_freshListOrHeap 22 = .ok (.goto 4, 3) := by decide +kernel
theorem d_K_freshListOrHeap_25 : decode b_K_freshListOrHeap 25 = .ok (.iconst 0, 1) := by decide +kernel
theorem d_K_freshListOrHeap_26 : decode b_K_freshListOrHeap 26 = .ok (.invokestatic 53, 3) := by decide +kernel
theorem d_K_freshListOrHeap_29 : decode b_K_freshListOrHeap 29 = .ok (.aload_n 2, 1) := by decide +kernel
theorem d_K_freshListOrHeap_30 : decode b_K_freshListOrHeap 30 = .ok (.invokestatic 56, 3) := by decide +kernel
theorem d_K_freshListOrHeap_33 : decode b_K_freshListOrHeap 33 = .ok (.aload_n 2, 1) := by decide +kernel
theorem d_K_freshListOrHeap_34 : decode b_K_freshListOrHeap 34 = .ok (.areturn, 1) := by decide +kernel
theorem d_K_walkAt_0 : decode b_K_walkAt 0 = .ok (.iload_n 1, 1) := by decide +kernel
theorem d_K_walkAt_1 : decode b_K_walkAt 1 = .ok (.ifCond .lt 21, 3) := by decide +kernel
theorem d_K_walkAt_4 : decode b_K_walkAt 4 = .ok (.iload_n 1, 1) := by decide +kernel
theorem d_K_walkAt_5 : decode b_K_walkAt 5 = .ok (.aload_n 0, 1) := by decide +kernel
theorem d_K_walkAt_6 : decode b_K_walkAt 6 = .ok (.getfield 17, 3) := by decide +kernel
theorem d_K_walkAt_9 : decode b_K_walkAt 9 = .ok (.arraylength, 1) := by decide +kernel
theorem d_K_walkAt_10 : decode b_K_walkAt 10 = .ok (.if_icmp .ge 12, 3) := by decide +kernel
theorem d_K_walkAt_13 : decode b_K_walkAt 13 = .ok (.aload_n 0, 1) := by decide +kernel
theorem d_K_walkAt_14 : decode b_K_walkAt 14 = .ok (.getfield 17, 3) := by decide +kernel
theorem d_K_walkAt_17 : decode b_K_walkAt 17 = .ok (.iload_n 1, 1) := by decide +kernel
theorem d_K_walkAt_18 : decode b_K_walkAt 18 = .ok (.aaload, 1) := by decide +kernel
theorem d_K_walkAt_19 : decode b_K_walkAt 19 = .ok (.ifnonnull 13, 3) := by decide +kernel
theorem d_K_walkAt_22 : decode b_K_walkAt 22 = .ok (.new 195, 3) := by decide +kernel
theorem d_K_walkAt_25 : decode b_K_walkAt 25 = .ok (.dup, 1) := by decide +kernel
theorem d_K_walkAt_26 : decode b_K_walkAt 26 = .ok (.ldc 202, 2) := by decide +kernel
theorem d_K_walkAt_28 : decode b_K_walkAt 28 = .ok (.invokespecial 199, 3) := by decide +kernel
theorem d_K_walkAt_31 : decode b_K_walkAt 31 = .ok (.athrow, 1) := by decide +kernel
theorem d_K_walkAt_32 : decode b_K_walkAt 32 = .ok (.aload_n 0, 1) := by decide +kernel
theorem d_K_walkAt_33 : decode b_K_walkAt 33 = .ok (.getfield 17, 3) := by decide +kernel
theorem d_K_walkAt_36 : decode b_K_walkAt 36 = .ok (.iload_n 1, 1) := by decide +kernel
theorem d_K_walkAt_37 : decode b_K_walkAt 37 = .ok (.aaload, 1) := by decide +kernel
theorem d_K_walkAt_38 : decode b_K_walkAt 38 = .ok (.areturn, 1) := by decide +kernel
theorem d_K_openedWalkAt_0 : decode b_K_openedWalkAt 0 = .ok (.aload_n 0, 1) := by decide +kernel
theorem d_K_openedWalkAt_1 : decode b_K_openedWalkAt 1 = .ok (.iload_n 1, 1) := by decide +kernel
theorem d_K_openedWalkAt_2 : decode b_K_openedWalkAt 2 = .ok (.invokevirtual 161, 3) := by decide +kernel
theorem d_K_openedWalkAt_5 : decode b_K_openedWalkAt 5 = .ok (.astore_n 2, 1) := by decide +kernel
theorem d_K_openedWalkAt_6 : decode b_K_openedWalkAt 6 = .ok (.aload_n 2, 1) := by decide +kernel
theorem d_K_openedWalkAt_7 : decode b_K_openedWalkAt 7 = .ok (.getfield 171, 3) := by decide +kernel
theorem d_K_openedWalkAt_10 : decode b_K_openedWalkAt 10 = .ok (.ifnonnull 13, 3) := by decide +kernel
theorem d_K_openedWalkAt_13 : decode b_K_openedWalkAt 13 = .ok (.new 195, 3) := by decide +kernel
theorem d_K_openedWalkAt_16 : decode b_K_openedWalkAt 16 = .ok (.dup, 1) := by decide +kernel
theorem d_K_openedWalkAt_17 : decode b_K_openedWalkAt 17 = .ok (.ldc 204, 2) := by decide +kernel
theorem d_K_openedWalkAt_19 : decode b_K_openedWalkAt 19 = .ok (.invokespecial 199, 3) := by decide +kernel
theorem d_K_openedWalkAt_22 : decode b_K_openedWalkAt 22 = .ok (.athrow, 1) := by decide +kernel
theorem d_K_openedWalkAt_23 : decode b_K_openedWalkAt 23 = .ok (.aload_n 2, 1) := by decide +kernel
theorem d_K_openedWalkAt_24 : decode b_K_openedWalkAt 24 = .ok (.areturn, 1) := by decide +kernel
theorem d_K_keepContainer_0 : decode b_K_keepContainer 0 = .ok (.aload_n 0, 1) := by decide +kernel
theorem d_K_keepContainer_1 : decode b_K_keepContainer 1 = .ok (.getfield 21, 3) := by decide +kernel
theorem d_K_keepContainer_4 : decode b_K_keepContainer 4 = .ok (.istore_n 2, 1) := by decide +kernel
theorem d_K_keepContainer_5 : decode b_K_keepContainer 5 = .ok (.iload_n 2, 1) := by decide +kernel
theorem d_K_keepContainer_6 : decode b_K_keepContainer 6 = .ok (.ifCond .lt 26, 3) := by decide +kernel
theorem d_K_keepContainer_9 : decode b_K_keepContainer 9 = .ok (.iload_n 2, 1) := by decide +kernel
theorem d_K_keepContainer_10 : decode b_K_keepContainer 10 = .ok (.aload_n 0, 1) := by decide +kernel
theorem d_K_keepContainer_11 : decode b_K_keepContainer 11 = .ok (.getfield 11, 3) := by decide +kernel
theorem d_K_keepContainer_14 : decode b_K_keepContainer 14 = .ok (.arraylength, 1) := by decide +kernel
theorem d_K_keepContainer_15 : decode b_K_keepContainer 15 = .ok (.if_icmp .ge 17, 3) := by decide +kernel
theorem d_K_keepContainer_18 : decode b_K_keepContainer 18 = .ok (.aload_n 0, 1) := by decide +kernel
theorem d_K_keepContainer_19 : decode b_K_keepContainer 19 = .ok (.getfield 11, 3) := by decide +kernel
theorem d_K_keepContainer_22 : decode b_K_keepContainer 22 = .ok (.iload_n 2, 1) := by decide +kernel
theorem d_K_keepContainer_23 : decode b_K_keepContainer 23 = .ok (.aload_n 1, 1) := by decide +kernel
theorem d_K_keepContainer_24 : decode b_K_keepContainer 24 = .ok (.aastore, 1) := by decide +kernel
theorem d_K_keepContainer_25 : decode b_K_keepContainer 25 = .ok (.aload_n 0, 1) := by decide +kernel
theorem d_K_keepContainer_26 : decode b_K_keepContainer 26 = .ok (.iload_n 2, 1) := by decide +kernel
theorem d_K_keepContainer_27 : decode b_K_keepContainer 27 = .ok (.iconst 1, 1) := by decide +kernel
theorem d_K_keepContainer_28 : decode b_K_keepContainer 28 = .ok (.iadd, 1) := by decide +kernel
theorem d_K_keepContainer_29 : decode b_K_keepContainer 29 = .ok (.putfield 21, 3) := by decide +kernel
theorem d_K_keepContainer_32 : decode b_K_keepContainer 32 = .ok (.iload_n 2, 1) := by decide +kernel
theorem d_K_keepContainer_33 : decode b_K_keepContainer 33 = .ok (.ireturn, 1) := by decide +kernel
theorem d_K_partOf_0 : decode b_K_partOf 0 = .ok (.aload_n 0, 1) := by decide +kernel
theorem d_K_partOf_1 : decode b_K_partOf 1 = .ok (.instanceof 206, 3) := by decide +kernel
theorem d_K_partOf_4 : decode b_K_partOf 4 = .ok (.ifCond .eq 10, 3) := by decide +kernel
theorem d_K_partOf_7 : decode b_K_partOf 7 = .ok (.aload_n 0, 1) := by decide +kernel
theorem d_K_partOf_8 : decode b_K_partOf 8 = .ok (.checkcast 206, 3) := by decide +kernel
theorem d_K_partOf_11 : decode b_K_partOf 11 = .ok (.goto 4, 3) := by decide +kernel
theorem d_K_partOf_14 : decode b_K_partOf 14 = .ok (.aconst_null, 1) := by decide +kernel
theorem d_K_partOf_15 : decode b_K_partOf 15 = .ok (.astore_n 3, 1) := by decide +kernel
theorem d_K_partOf_16 : decode b_K_partOf 16 = .ok (.new 206, 3) := by decide +kernel
theorem d_K_partOf_19 : decode b_K_partOf 19 = .ok (.dup, 1) := by decide +kernel
theorem d_K_partOf_20 : decode b_K_partOf 20 = .ok (.aload_n 0, 1) := by decide +kernel
theorem d_K_partOf_21 : decode b_K_partOf 21 = .ok (.getfield 95, 3) := by decide +kernel
theorem d_K_partOf_24 : decode b_K_partOf 24 = .ok (.aload_n 3, 1) := by decide +kernel
theorem d_K_partOf_25 : decode b_K_partOf 25 = .ok (.aload_n 0, 1) := by decide +kernel
theorem d_K_partOf_26 : decode b_K_partOf 26 = .ok (.invokevirtual 208, 3) := by decide +kernel
theorem d_K_partOf_29 : decode b_K_partOf 29 = .ok (.iload_n 1, 1) := by decide +kernel
theorem d_K_partOf_30 : decode b_K_partOf 30 = .ok (.iadd, 1) := by decide +kernel
theorem d_K_partOf_31 : decode b_K_partOf 31 = .ok (.iload_n 2, 1) := by decide +kernel
theorem d_K_partOf_32 : decode b_K_partOf 32 = .ok (.iload_n 1, 1) := by decide +kernel
theorem d_K_partOf_33 : decode b_K_partOf 33 = .ok (.isub, 1) := by decide +kernel
theorem d_K_partOf_34 : decode b_K_partOf 34 = .ok (.invokespecial 211, 3) := by decide +kernel
theorem d_K_partOf_37 : decode b_K_partOf 37 = .ok (.areturn, 1) := by decide +kernel
theorem d_K_rangeOf_0 : decode b_K_rangeOf 0 = .ok (.aload_n 0, 1) := by decide +kernel
theorem d_K_rangeOf_1 : decode b_K_rangeOf 1 = .ok (.instanceof 214, 3) := by decide +kernel
theorem d_K_rangeOf_4 : decode b_K_rangeOf 4 = .ok (.ifCond .eq 36, 3) := by decide +kernel
theorem d_K_rangeOf_7 : decode b_K_rangeOf 7 = .ok (.aload_n 0, 1) := by decide +kernel
theorem d_K_rangeOf_8 : decode b_K_rangeOf 8 = .ok (.checkcast 214, 3) := by decide +kernel
theorem d_K_rangeOf_11 : decode b_K_rangeOf 11 = .ok (.astore_n 3, 1) := by decide +kernel
theorem d_K_rangeOf_12 : decode b_K_rangeOf 12 = .ok (.new 214, 3) := by decide +kernel
theorem d_K_rangeOf_15 : decode b_K_rangeOf 15 = .ok (.dup, 1) := by decide +kernel
theorem d_K_rangeOf_16 : decode b_K_rangeOf 16 = .ok (.aload_n 3, 1) := by decide +kernel
theorem d_K_rangeOf_17 : decode b_K_rangeOf 17 = .ok (.getfield 216, 3) := by decide +kernel
theorem d_K_rangeOf_20 : decode b_K_rangeOf 20 = .ok (.iload_n 1, 1) := by decide +kernel
theorem d_K_rangeOf_21 : decode b_K_rangeOf 21 = .ok (.aload_n 3, 1) := by decide +kernel
theorem d_K_rangeOf_22 : decode b_K_rangeOf 22 = .ok (.getfield 217, 3) := by decide +kernel
theorem d_K_rangeOf_25 : decode b_K_rangeOf 25 = .ok (.invokestatic 220, 3) := by decide +kernel
theorem d_K_rangeOf_28 : decode b_K_rangeOf 28 = .ok (.iload_n 2, 1) := by decide +kernel
theorem d_K_rangeOf_29 : decode b_K_rangeOf 29 = .ok (.aload_n 3, 1) := by decide +kernel
theorem d_K_rangeOf_30 : decode b_K_rangeOf 30 = .ok (.getfield 225, 3) := by decide +kernel
theorem d_K_rangeOf_33 : decode b_K_rangeOf 33 = .ok (.invokestatic 228, 3) := by decide +kernel
theorem d_K_rangeOf_36 : decode b_K_rangeOf 36 = .ok (.invokespecial 231, 3) := by decide +kernel
theorem d_K_rangeOf_39 : decode b_K_rangeOf 39 = .ok (.areturn, 1) := by decide +kernel
theorem d_K_rangeOf_40 : decode b_K_rangeOf 40 = .ok (.new 214, 3) := by decide +kernel
theorem d_K_rangeOf_43 : decode b_K_rangeOf 43 = .ok (.dup, 1) := by decide +kernel
theorem d_K_rangeOf_44 : decode b_K_rangeOf 44 = .ok (.aload_n 0, 1) := by decide +kernel
theorem d_K_rangeOf_45 : decode b_K_rangeOf 45 = .ok (.getfield 95, 3) := by decide +kernel
theorem d_K_rangeOf_48 : decode b_K_rangeOf 48 = .ok (.iload_n 1, 1) := by decide +kernel
theorem d_K_rangeOf_49 : decode b_K_rangeOf 49 = .ok (.iload_n 2, 1) := by decide +kernel
theorem d_K_rangeOf_50 : decode b_K_rangeOf 50 = .ok (.invokespecial 231, 3) := by decide +kernel
theorem d_K_rangeOf_53 : decode b_K_rangeOf 53 = .ok (.areturn, 1) := by decide +kernel
theorem d_K_demandOneMoreContainer_0 : decode b_K_demandOneMoreContainer 0 = .ok (.aload_n 0, 1) := by decide +kernel
theorem d_K_demandOneMoreContainer_1 : decode b_K_demandOneMoreContainer 1 = .ok (.getfield 21, 3) := by decide +kernel
theorem d_K_demandOneMoreContainer_4 : decode b_K_demandOneMoreContainer 4 = .ok (.aload_n 0, 1) := by decide +kernel
theorem d_K_demandOneMoreContainer_5 : decode b_K_demandOneMoreContainer 5 = .ok (.getfield 11, 3) := by decide +kernel
theorem d_K_demandOneMoreContainer_8 : decode b_K_demandOneMoreContainer 8 = .ok (.arraylength, 1) := by decide +kernel
theorem d_K_demandOneMoreContainer_9 : decode b_K_demandOneMoreContainer 9 = .ok (.if_icmp .lt 13, 3) := by decide +kernel
theorem d_K_demandOneMoreContainer_12 : decode b_K_demandOneMoreContainer 12 = .ok (.new 234, 3) := by decide +kernel
theorem d_K_demandOneMoreContainer_15 : decode b_K_demandOneMoreContainer 15 = .ok (.dup, 1) := by decide +kernel
theorem d_K_demandOneMoreContainer_16 : decode b_K_demandOneMoreContainer 16 = .ok (.ldc 236, 2) := by decide +kernel
theorem d_K_demandOneMoreContainer_18 : decode b_K_demandOneMoreContainer 18 = .ok (.invokespecial 238, 3) := by decide +kernel
theorem d_K_demandOneMoreContainer_21 : decode b_K_demandOneMoreContainer 21 = .ok (.athrow, 1) := by decide +kernel
theorem d_K_demandOneMoreContainer_22 : decode b_K_demandOneMoreContainer 22 = .ok (.return_, 1) := by decide +kernel
theorem d_K_demandKind_0 : decode b_K_demandKind 0 = .ok (.iload_n 0, 1) := by decide +kernel
theorem d_K_demandKind_1 : decode b_K_demandKind 1 = .ok (.ifCond .ne 13, 3) := by decide +kernel
theorem d_K_demandKind_4 : decode b_K_demandKind 4 = .ok (.new 239, 3) := by decide +kernel
theorem d_K_demandKind_7 : decode b_K_demandKind 7 = .ok (.dup, 1) := by decide +kernel
theorem d_K_demandKind_8 : decode b_K_demandKind 8 = .ok (.ldc 241, 2) := by decide +kernel
theorem d_K_demandKind_10 : decode b_K_demandKind 10 = .ok (.invokespecial 243, 3) := by decide +kernel
theorem d_K_demandKind_13 : decode b_K_demandKind 13 = .ok (.athrow, 1) := by decide +kernel
theorem d_K_demandKind_14 : decode b_K_demandKind 14 = .ok (.return_, 1) := by decide +kernel
theorem d_K_demandArgument_0 : decode b_K_demandArgument 0 = .ok (.iload_n 0, 1) := by decide +kernel
theorem d_K_demandArgument_1 : decode b_K_demandArgument 1 = .ok (.ifCond .ne 13, 3) := by decide +kernel
theorem d_K_demandArgument_4 : decode b_K_demandArgument 4 = .ok (.new 244, 3) := by decide +kernel
theorem d_K_demandArgument_7 : decode b_K_demandArgument 7 = .ok (.dup, 1) := by decide +kernel
theorem d_K_demandArgument_8 : decode b_K_demandArgument 8 = .ok (.ldc 246, 2) := by decide +kernel
theorem d_K_demandArgument_10 : decode b_K_demandArgument 10 = .ok (.invokespecial 248, 3) := by decide +kernel
theorem d_K_demandArgument_13 : decode b_K_demandArgument 13 = .ok (.athrow, 1) := by decide +kernel
theorem d_K_demandArgument_14 : decode b_K_demandArgument 14 = .ok (.return_, 1) := by decide +kernel
theorem d_K_demandThere_0 : decode b_K_demandThere 0 = .ok (.iload_n 0, 1) := by decide +kernel
theorem d_K_demandThere_1 : decode b_K_demandThere 1 = .ok (.ifCond .ne 13, 3) := by decide +kernel
theorem d_K_demandThere_4 : decode b_K_demandThere 4 = .ok (.new 249, 3) := by decide +kernel
theorem d_K_demandThere_7 : decode b_K_demandThere 7 = .ok (.dup, 1) := by decide +kernel
theorem d_K_demandThere_8 : decode b_K_demandThere 8 = .ok (.ldc 251, 2) := by decide +kernel
theorem d_K_demandThere_10 : decode b_K_demandThere 10 = .ok (.invokespecial 253, 3) := by decide +kernel
theorem d_K_demandThere_13 : decode b_K_demandThere 13 = .ok (.athrow, 1) := by decide +kernel
theorem d_K_demandThere_14 : decode b_K_demandThere 14 = .ok (.return_, 1) := by decide +kernel
theorem d_K_demandFresh_0 : decode b_K_demandFresh 0 = .ok (.aload_n 0, 1) := by decide +kernel
theorem d_K_demandFresh_1 : decode b_K_demandFresh 1 = .ok (.invokevirtual 254, 3) := by decide +kernel
theorem d_K_demandFresh_4 : decode b_K_demandFresh 4 = .ok (.ifCond .eq 14, 3) := by decide +kernel
theorem d_K_demandFresh_7 : decode b_K_demandFresh 7 = .ok (.new 257, 3) := by decide +kernel
theorem d_K_demandFresh_10 : decode b_K_demandFresh 10 = .ok (.dup, 1) := by decide +kernel
theorem d_K_demandFresh_11 : decode b_K_demandFresh 11 = .ok (.ldc_w 259, 3) := by decide +kernel
theorem d_K_demandFresh_14 : decode b_K_demandFresh 14 = .ok (.invokespecial 261, 3) := by decide +kernel
theorem d_K_demandFresh_17 : decode b_K_demandFresh 17 = .ok (.athrow, 1) := by decide +kernel
theorem d_K_demandFresh_18 : decode b_K_demandFresh 18 = .ok (.return_, 1) := by decide +kernel
theorem d_K_demandFreshWalk_0 : decode b_K_demandFreshWalk 0 = .ok (.aload_n 0, 1) := by decide +kernel
theorem d_K_demandFreshWalk_1 : decode b_K_demandFreshWalk 1 = .ok (.invokevirtual 262, 3) := by decide +kernel
theorem d_K_demandFreshWalk_4 : decode b_K_demandFreshWalk 4 = .ok (.ifCond .eq 14, 3) := by decide +kernel
theorem d_K_demandFreshWalk_7 : decode b_K_demandFreshWalk 7 = .ok (.new 257, 3) := by decide +kernel
theorem d_K_demandFreshWalk_10 : decode b_K_demandFreshWalk 10 = .ok (.dup, 1) := by decide +kernel
theorem d_K_demandFreshWalk_11 : decode b_K_demandFreshWalk 11 = .ok (.ldc_w 263, 3) := by decide +kernel
theorem d_K_demandFreshWalk_14 : decode b_K_demandFreshWalk 14 = .ok (.invokespecial 261, 3) := by decide +kernel
theorem d_K_demandFreshWalk_17 : decode b_K_demandFreshWalk 17 = .ok (.athrow, 1) := by decide +kernel
theorem d_K_demandFreshWalk_18 : decode b_K_demandFreshWalk 18 = .ok (.return_, 1) := by decide +kernel
theorem d_K_demandSpace_0 : decode b_K_demandSpace 0 = .ok (.aload_n 0, 1) := by decide +kernel
theorem d_K_demandSpace_1 : decode b_K_demandSpace 1 = .ok (.invokevirtual 265, 3) := by decide +kernel
theorem d_K_demandSpace_4 : decode b_K_demandSpace 4 = .ok (.ifCond .eq 14, 3) := by decide +kernel
theorem d_K_demandSpace_7 : decode b_K_demandSpace 7 = .ok (.new 234, 3) := by decide +kernel
theorem d_K_demandSpace_10 : decode b_K_demandSpace 10 = .ok (.dup, 1) := by decide +kernel
theorem d_K_demandSpace_11 : decode b_K_demandSpace 11 = .ok (.ldc_w 268, 3) := by decide +kernel
theorem d_K_demandSpace_14 : decode b_K_demandSpace 14 = .ok (.invokespecial 238, 3) := by decide +kernel
theorem d_K_demandSpace_17 : decode b_K_demandSpace 17 = .ok (.athrow, 1) := by decide +kernel
theorem d_K_demandSpace_18 : decode b_K_demandSpace 18 = .ok (.return_, 1) := by decide +kernel
theorem d_K_demandKeyFits_0 : decode b_K_demandKeyFits 0 = .ok (.aload_n 0, 1) := by decide +kernel
theorem d_K_demandKeyFits_1 : decode b_K_demandKeyFits 1 = .ok (.iload_n 1, 1) := by decide +kernel
theorem d_K_demandKeyFits_2 : decode b_K_demandKeyFits 2 = .ok (.invokevirtual 270, 3) := by decide +kernel
theorem d_K_demandKeyFits_5 : decode b_K_demandKeyFits 5 = .ok (.invokestatic 26, 3) := by decide +kernel
theorem d_K_demandKeyFits_8 : decode b_K_demandKeyFits 8 = .ok (.aload_n 0, 1) := by decide +kernel
theorem d_K_demandKeyFits_9 : decode b_K_demandKeyFits 9 = .ok (.iload_n 1, 1) := by decide +kernel
theorem d_K_demandKeyFits_10 : decode b_K_demandKeyFits 10 = .ok (.invokevirtual 126, 3) := by decide +kernel
theorem d_K_demandKeyFits_13 : decode b_K_demandKeyFits 13 = .ok (.iconst (-1), 1) := by decide +kernel
theorem d_K_demandKeyFits_14 : decode b_K_demandKeyFits 14 = .ok (.if_icmp .ne 10, 3) := by decide +kernel
theorem d_K_demandKeyFits_17 : decode b_K_demandKeyFits 17 = .ok (.aload_n 0, 1) := by decide +kernel
theorem d_K_demandKeyFits_18 : decode b_K_demandKeyFits 18 = .ok (.getfield 95, 3) := by decide +kernel
theorem d_K_demandKeyFits_21 : decode b_K_demandKeyFits 21 = .ok (.invokestatic 99, 3) := by decide +kernel
theorem d_K_demandKeyFits_24 : decode b_K_demandKeyFits 24 = .ok (.return_, 1) := by decide +kernel
