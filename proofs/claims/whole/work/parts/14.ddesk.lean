theorem dX1_init_0 : decode cX1_init 0 = .ok (.aload_n 0, 1) := by decide +kernel
theorem dX1_init_1 : decode cX1_init 1 = .ok (.invokespecial 3, 3) := by decide +kernel
theorem dX1_init_4 : decode cX1_init 4 = .ok (.aload_n 0, 1) := by decide +kernel
theorem dX1_init_5 : decode cX1_init 5 = .ok (.getstatic 9, 3) := by decide +kernel
theorem dX1_init_8 : decode cX1_init 8 = .ok (.arraylength, 1) := by decide +kernel
theorem dX1_init_9 : decode cX1_init 9 = .ok (.anewarray 13, 3) := by decide +kernel
theorem dX1_init_12 : decode cX1_init 12 = .ok (.putfield 15, 3) := by decide +kernel
theorem dX1_init_15 : decode cX1_init 15 = .ok (.aload_n 0, 1) := by decide +kernel
theorem dX1_init_16 : decode cX1_init 16 = .ok (.bipush 12, 2) := by decide +kernel
theorem dX1_init_18 : decode cX1_init 18 = .ok (.newarray .int, 2) := by decide +kernel
theorem dX1_init_20 : decode cX1_init 20 = .ok (.putfield 19, 3) := by decide +kernel
theorem dX1_init_23 : decode cX1_init 23 = .ok (.aload_n 0, 1) := by decide +kernel
theorem dX1_init_24 : decode cX1_init 24 = .ok (.iconst 0, 1) := by decide +kernel
theorem dX1_init_25 : decode cX1_init 25 = .ok (.invokevirtual 22, 3) := by decide +kernel
theorem dX1_init_28 : decode cX1_init 28 = .ok (.return_, 1) := by decide +kernel
theorem dX1_begin_0 : decode cX1_begin 0 = .ok (.iload_n 1, 1) := by decide +kernel
theorem dX1_begin_1 : decode cX1_begin 1 = .ok (.ifCond .lt 11, 3) := by decide +kernel
theorem dX1_begin_4 : decode cX1_begin 4 = .ok (.iload_n 1, 1) := by decide +kernel
theorem dX1_begin_5 : decode cX1_begin 5 = .ok (.getstatic 9, 3) := by decide +kernel
theorem dX1_begin_8 : decode cX1_begin 8 = .ok (.arraylength, 1) := by decide +kernel
theorem dX1_begin_9 : decode cX1_begin 9 = .ok (.if_icmp .lt 13, 3) := by decide +kernel
theorem dX1_begin_12 : decode cX1_begin 12 = .ok (.new 26, 3) := by decide +kernel
theorem dX1_begin_15 : decode cX1_begin 15 = .ok (.dup, 1) := by decide +kernel
theorem dX1_begin_16 : decode cX1_begin 16 = .ok (.ldc 28, 2) := by decide +kernel
theorem dX1_begin_18 : decode cX1_begin 18 = .ok (.invokespecial 30, 3) := by decide +kernel
theorem dX1_begin_21 : decode cX1_begin 21 = .ok (.athrow, 1) := by decide +kernel
theorem dX1_begin_22 : decode cX1_begin 22 = .ok (.aload_n 0, 1) := by decide +kernel
theorem dX1_begin_23 : decode cX1_begin 23 = .ok (.iload_n 1, 1) := by decide +kernel
theorem dX1_begin_24 : decode cX1_begin 24 = .ok (.invokevirtual 22, 3) := by decide +kernel
theorem dX1_begin_27 : decode cX1_begin 27 = .ok (.aload_n 0, 1) := by decide +kernel
theorem dX1_begin_28 : decode cX1_begin 28 = .ok (.getfield 33, 3) := by decide +kernel
theorem dX1_begin_31 : decode cX1_begin 31 = .ok (.getfield 37, 3) := by decide +kernel
theorem dX1_begin_34 : decode cX1_begin 34 = .ok (.ireturn, 1) := by decide +kernel
theorem dX1_put_0 : decode cX1_put 0 = .ok (.iload_n 1, 1) := by decide +kernel
theorem dX1_put_1 : decode cX1_put 1 = .ok (.invokestatic 41, 3) := by decide +kernel
theorem dX1_put_4 : decode cX1_put 4 = .ok (.aload_n 0, 1) := by decide +kernel
theorem dX1_put_5 : decode cX1_put 5 = .ok (.getfield 33, 3) := by decide +kernel
theorem dX1_put_8 : decode cX1_put 8 = .ok (.iload_n 2, 1) := by decide +kernel
theorem dX1_put_9 : decode cX1_put 9 = .ok (.iload_n 3, 1) := by decide +kernel
theorem dX1_put_10 : decode cX1_put 10 = .ok (.invokevirtual 44, 3) := by decide +kernel
theorem dX1_put_13 : decode cX1_put 13 = .ok (.ifCond .ne 13, 3) := by decide +kernel
theorem dX1_put_16 : decode cX1_put 16 = .ok (.new 26, 3) := by decide +kernel
theorem dX1_put_19 : decode cX1_put 19 = .ok (.dup, 1) := by decide +kernel
theorem dX1_put_20 : decode cX1_put 20 = .ok (.ldc 48, 2) := by decide +kernel
theorem dX1_put_22 : decode cX1_put 22 = .ok (.invokespecial 30, 3) := by decide +kernel
theorem dX1_put_25 : decode cX1_put 25 = .ok (.athrow, 1) := by decide +kernel
theorem dX1_put_26 : decode cX1_put 26 = .ok (.aload_n 0, 1) := by decide +kernel
theorem dX1_put_27 : decode cX1_put 27 = .ok (.getfield 19, 3) := by decide +kernel
theorem dX1_put_30 : decode cX1_put 30 = .ok (.iload_n 1, 1) := by decide +kernel
theorem dX1_put_31 : decode cX1_put 31 = .ok (.iload_n 2, 1) := by decide +kernel
theorem dX1_put_32 : decode cX1_put 32 = .ok (.iload_n 3, 1) := by decide +kernel
theorem dX1_put_33 : decode cX1_put 33 = .ok (.invokestatic 50, 3) := by decide +kernel
theorem dX1_put_36 : decode cX1_put 36 = .ok (.iastore, 1) := by decide +kernel
theorem dX1_put_37 : decode cX1_put 37 = .ok (.return_, 1) := by decide +kernel
theorem dX1_unpack_0 : decode cX1_unpack 0 = .ok (.iload_n 1, 1) := by decide +kernel
theorem dX1_unpack_1 : decode cX1_unpack 1 = .ok (.invokestatic 41, 3) := by decide +kernel
theorem dX1_unpack_4 : decode cX1_unpack 4 = .ok (.aload_n 0, 1) := by decide +kernel
theorem dX1_unpack_5 : decode cX1_unpack 5 = .ok (.getfield 33, 3) := by decide +kernel
theorem dX1_unpack_8 : decode cX1_unpack 8 = .ok (.iload_n 2, 1) := by decide +kernel
theorem dX1_unpack_9 : decode cX1_unpack 9 = .ok (.invokevirtual 54, 3) := by decide +kernel
theorem dX1_unpack_12 : decode cX1_unpack 12 = .ok (.istore_n 3, 1) := by decide +kernel
theorem dX1_unpack_13 : decode cX1_unpack 13 = .ok (.iload_n 3, 1) := by decide +kernel
theorem dX1_unpack_14 : decode cX1_unpack 14 = .ok (.iconst (-1), 1) := by decide +kernel
theorem dX1_unpack_15 : decode cX1_unpack 15 = .ok (.if_icmp .ne 13, 3) := by decide +kernel
theorem dX1_unpack_18 : decode cX1_unpack 18 = .ok (.new 26, 3) := by decide +kernel
theorem dX1_unpack_21 : decode cX1_unpack 21 = .ok (.dup, 1) := by decide +kernel
theorem dX1_unpack_22 : decode cX1_unpack 22 = .ok (.ldc 58, 2) := by decide +kernel
theorem dX1_unpack_24 : decode cX1_unpack 24 = .ok (.invokespecial 30, 3) := by decide +kernel
theorem dX1_unpack_27 : decode cX1_unpack 27 = .ok (.athrow, 1) := by decide +kernel
theorem dX1_unpack_28 : decode cX1_unpack 28 = .ok (.aload_n 0, 1) := by decide +kernel
theorem dX1_unpack_29 : decode cX1_unpack 29 = .ok (.getfield 19, 3) := by decide +kernel
theorem dX1_unpack_32 : decode cX1_unpack 32 = .ok (.iload_n 1, 1) := by decide +kernel
theorem dX1_unpack_33 : decode cX1_unpack 33 = .ok (.iload_n 3, 1) := by decide +kernel
theorem dX1_unpack_34 : decode cX1_unpack 34 = .ok (.iastore, 1) := by decide +kernel
theorem dX1_unpack_35 : decode cX1_unpack 35 = .ok (.return_, 1) := by decide +kernel
theorem dX1_packed_0 : decode cX1_packed 0 = .ok (.iload_n 1, 1) := by decide +kernel
theorem dX1_packed_1 : decode cX1_packed 1 = .ok (.invokestatic 41, 3) := by decide +kernel
theorem dX1_packed_4 : decode cX1_packed 4 = .ok (.aload_n 0, 1) := by decide +kernel
theorem dX1_packed_5 : decode cX1_packed 5 = .ok (.getfield 19, 3) := by decide +kernel
theorem dX1_packed_8 : decode cX1_packed 8 = .ok (.iload_n 1, 1) := by decide +kernel
theorem dX1_packed_9 : decode cX1_packed 9 = .ok (.iaload, 1) := by decide +kernel
theorem dX1_packed_10 : decode cX1_packed 10 = .ok (.invokestatic 60, 3) := by decide +kernel
theorem dX1_packed_13 : decode cX1_packed 13 = .ok (.ireturn, 1) := by decide +kernel
theorem dX1_get_0 : decode cX1_get 0 = .ok (.iload_n 1, 1) := by decide +kernel
theorem dX1_get_1 : decode cX1_get 1 = .ok (.invokestatic 41, 3) := by decide +kernel
theorem dX1_get_4 : decode cX1_get 4 = .ok (.iload_n 2, 1) := by decide +kernel
theorem dX1_get_5 : decode cX1_get 5 = .ok (.ifCond .eq 15, 3) := by decide +kernel
theorem dX1_get_8 : decode cX1_get 8 = .ok (.aload_n 0, 1) := by decide +kernel
theorem dX1_get_9 : decode cX1_get 9 = .ok (.getfield 19, 3) := by decide +kernel
theorem dX1_get_12 : decode cX1_get 12 = .ok (.iload_n 1, 1) := by decide +kernel
theorem dX1_get_13 : decode cX1_get 13 = .ok (.iaload, 1) := by decide +kernel
theorem dX1_get_14 : decode cX1_get 14 = .ok (.invokestatic 63, 3) := by decide +kernel
theorem dX1_get_17 : decode cX1_get 17 = .ok (.goto 12, 3) := by decide +kernel
theorem dX1_get_20 : decode cX1_get 20 = .ok (.aload_n 0, 1) := by decide +kernel
theorem dX1_get_21 : decode cX1_get 21 = .ok (.getfield 19, 3) := by decide +kernel
theorem dX1_get_24 : decode cX1_get 24 = .ok (.iload_n 1, 1) := by decide +kernel
theorem dX1_get_25 : decode cX1_get 25 = .ok (.iaload, 1) := by decide +kernel
theorem dX1_get_26 : decode cX1_get 26 = .ok (.invokestatic 66, 3) := by decide +kernel
theorem dX1_get_29 : decode cX1_get 29 = .ok (.ireturn, 1) := by decide +kernel
theorem dX1_join_0 : decode cX1_join 0 = .ok (.iload_n 1, 1) := by decide +kernel
theorem dX1_join_1 : decode cX1_join 1 = .ok (.invokestatic 41, 3) := by decide +kernel
theorem dX1_join_4 : decode cX1_join 4 = .ok (.iload_n 2, 1) := by decide +kernel
theorem dX1_join_5 : decode cX1_join 5 = .ok (.invokestatic 41, 3) := by decide +kernel
theorem dX1_join_8 : decode cX1_join 8 = .ok (.iload_n 3, 1) := by decide +kernel
theorem dX1_join_9 : decode cX1_join 9 = .ok (.invokestatic 41, 3) := by decide +kernel
theorem dX1_join_12 : decode cX1_join 12 = .ok (.iload 4, 2) := by decide +kernel
theorem dX1_join_14 : decode cX1_join 14 = .ok (.ifCond .eq 19, 3) := by decide +kernel
theorem dX1_join_17 : decode cX1_join 17 = .ok (.aload_n 0, 1) := by decide +kernel
theorem dX1_join_18 : decode cX1_join 18 = .ok (.getfield 33, 3) := by decide +kernel
theorem dX1_join_21 : decode cX1_join 21 = .ok (.aload_n 0, 1) := by decide +kernel
theorem dX1_join_22 : decode cX1_join 22 = .ok (.getfield 19, 3) := by decide +kernel
theorem dX1_join_25 : decode cX1_join 25 = .ok (.iload_n 3, 1) := by decide +kernel
theorem dX1_join_26 : decode cX1_join 26 = .ok (.iaload, 1) := by decide +kernel
theorem dX1_join_27 : decode cX1_join 27 = .ok (.invokevirtual 69, 3) := by decide +kernel
theorem dX1_join_30 : decode cX1_join 30 = .ok (.goto 9, 3) := by decide +kernel
theorem dX1_join_33 : decode cX1_join 33 = .ok (.aload_n 0, 1) := by decide +kernel
theorem dX1_join_34 : decode cX1_join 34 = .ok (.getfield 19, 3) := by decide +kernel
theorem dX1_join_37 : decode cX1_join 37 = .ok (.iload_n 3, 1) := by decide +kernel
theorem dX1_join_38 : decode cX1_join 38 = .ok (.iaload, 1) := by decide +kernel
theorem dX1_join_39 : decode cX1_join 39 = .ok (.istore 5, 2) := by decide +kernel
theorem dX1_join_41 : decode cX1_join 41 = .ok (.aload_n 0, 1) := by decide +kernel
theorem dX1_join_42 : decode cX1_join 42 = .ok (.iload_n 1, 1) := by decide +kernel
theorem dX1_join_43 : decode cX1_join 43 = .ok (.aload_n 0, 1) := by decide +kernel
theorem dX1_join_44 : decode cX1_join 44 = .ok (.getfield 33, 3) := by decide +kernel
theorem dX1_join_47 : decode cX1_join 47 = .ok (.aload_n 0, 1) := by decide +kernel
theorem dX1_join_48 : decode cX1_join 48 = .ok (.getfield 19, 3) := by decide +kernel
theorem dX1_join_51 : decode cX1_join 51 = .ok (.iload_n 2, 1) := by decide +kernel
theorem dX1_join_52 : decode cX1_join 52 = .ok (.iaload, 1) := by decide +kernel
theorem dX1_join_53 : decode cX1_join 53 = .ok (.iload 5, 2) := by decide +kernel
theorem dX1_join_55 : decode cX1_join 55 = .ok (.invokevirtual 72, 3) := by decide +kernel
theorem dX1_join_58 : decode cX1_join 58 = .ok (.invokevirtual 75, 3) := by decide +kernel
theorem dX1_join_61 : decode cX1_join 61 = .ok (.ireturn, 1) := by decide +kernel
theorem dX1_times_0 : decode cX1_times 0 = .ok (.iload_n 1, 1) := by decide +kernel
theorem dX1_times_1 : decode cX1_times 1 = .ok (.invokestatic 41, 3) := by decide +kernel
theorem dX1_times_4 : decode cX1_times 4 = .ok (.iload 4, 2) := by decide +kernel
theorem dX1_times_6 : decode cX1_times 6 = .ok (.invokestatic 41, 3) := by decide +kernel
theorem dX1_times_9 : decode cX1_times 9 = .ok (.aload_n 0, 1) := by decide +kernel
theorem dX1_times_10 : decode cX1_times 10 = .ok (.iload_n 1, 1) := by decide +kernel
theorem dX1_times_11 : decode cX1_times 11 = .ok (.aload_n 0, 1) := by decide +kernel
theorem dX1_times_12 : decode cX1_times 12 = .ok (.getfield 33, 3) := by decide +kernel
theorem dX1_times_15 : decode cX1_times 15 = .ok (.lload_n 2, 1) := by decide +kernel
theorem dX1_times_16 : decode cX1_times 16 = .ok (.aload_n 0, 1) := by decide +kernel
theorem dX1_times_17 : decode cX1_times 17 = .ok (.getfield 19, 3) := by decide +kernel
theorem dX1_times_20 : decode cX1_times 20 = .ok (.iload 4, 2) := by decide +kernel
theorem dX1_times_22 : decode cX1_times 22 = .ok (.iaload, 1) := by decide +kernel
theorem dX1_times_23 : decode cX1_times 23 = .ok (.invokevirtual 78, 3) := by decide +kernel
theorem dX1_times_26 : decode cX1_times 26 = .ok (.invokevirtual 75, 3) := by decide +kernel
theorem dX1_times_29 : decode cX1_times 29 = .ok (.ireturn, 1) := by decide +kernel
theorem dX1_both_0 : decode cX1_both 0 = .ok (.iload_n 1, 1) := by decide +kernel
theorem dX1_both_1 : decode cX1_both 1 = .ok (.invokestatic 41, 3) := by decide +kernel
theorem dX1_both_4 : decode cX1_both 4 = .ok (.iload 4, 2) := by decide +kernel
theorem dX1_both_6 : decode cX1_both 6 = .ok (.invokestatic 41, 3) := by decide +kernel
theorem dX1_both_9 : decode cX1_both 9 = .ok (.iload 7, 2) := by decide +kernel
theorem dX1_both_11 : decode cX1_both 11 = .ok (.invokestatic 41, 3) := by decide +kernel
theorem dX1_both_14 : decode cX1_both 14 = .ok (.aload_n 0, 1) := by decide +kernel
theorem dX1_both_15 : decode cX1_both 15 = .ok (.getfield 33, 3) := by decide +kernel
theorem dX1_both_18 : decode cX1_both 18 = .ok (.lload_n 2, 1) := by decide +kernel
theorem dX1_both_19 : decode cX1_both 19 = .ok (.aload_n 0, 1) := by decide +kernel
theorem dX1_both_20 : decode cX1_both 20 = .ok (.getfield 19, 3) := by decide +kernel
theorem dX1_both_23 : decode cX1_both 23 = .ok (.iload 4, 2) := by decide +kernel
theorem dX1_both_25 : decode cX1_both 25 = .ok (.iaload, 1) := by decide +kernel
theorem dX1_both_26 : decode cX1_both 26 = .ok (.invokevirtual 78, 3) := by decide +kernel
theorem dX1_both_29 : decode cX1_both 29 = .ok (.istore 8, 2) := by decide +kernel
theorem dX1_both_31 : decode cX1_both 31 = .ok (.aload_n 0, 1) := by decide +kernel
theorem dX1_both_32 : decode cX1_both 32 = .ok (.getfield 33, 3) := by decide +kernel
theorem dX1_both_35 : decode cX1_both 35 = .ok (.lload 5, 2) := by decide +kernel
theorem dX1_both_37 : decode cX1_both 37 = .ok (.aload_n 0, 1) := by decide +kernel
theorem dX1_both_38 : decode cX1_both 38 = .ok (.getfield 19, 3) := by decide +kernel
theorem dX1_both_41 : decode cX1_both 41 = .ok (.iload 7, 2) := by decide +kernel
theorem dX1_both_43 : decode cX1_both 43 = .ok (.iaload, 1) := by decide +kernel
theorem dX1_both_44 : decode cX1_both 44 = .ok (.invokevirtual 78, 3) := by decide +kernel
theorem dX1_both_47 : decode cX1_both 47 = .ok (.istore 9, 2) := by decide +kernel
theorem dX1_both_49 : decode cX1_both 49 = .ok (.aload_n 0, 1) := by decide +kernel
theorem dX1_both_50 : decode cX1_both 50 = .ok (.iload_n 1, 1) := by decide +kernel
theorem dX1_both_51 : decode cX1_both 51 = .ok (.aload_n 0, 1) := by decide +kernel
theorem dX1_both_52 : decode cX1_both 52 = .ok (.getfield 33, 3) := by decide +kernel
theorem dX1_both_55 : decode cX1_both 55 = .ok (.iload 8, 2) := by decide +kernel
theorem dX1_both_57 : decode cX1_both 57 = .ok (.iload 9, 2) := by decide +kernel
theorem dX1_both_59 : decode cX1_both 59 = .ok (.invokevirtual 72, 3) := by decide +kernel
theorem dX1_both_62 : decode cX1_both 62 = .ok (.invokevirtual 75, 3) := by decide +kernel
theorem dX1_both_65 : decode cX1_both 65 = .ok (.ireturn, 1) := by decide +kernel
theorem dX1_order_0 : decode cX1_order 0 = .ok (.iload_n 1, 1) := by decide +kernel
theorem dX1_order_1 : decode cX1_order 1 = .ok (.invokestatic 41, 3) := by decide +kernel
theorem dX1_order_4 : decode cX1_order 4 = .ok (.aload_n 0, 1) := by decide +kernel
theorem dX1_order_5 : decode cX1_order 5 = .ok (.getfield 33, 3) := by decide +kernel
theorem dX1_order_8 : decode cX1_order 8 = .ok (.aload_n 0, 1) := by decide +kernel
theorem dX1_order_9 : decode cX1_order 9 = .ok (.getfield 19, 3) := by decide +kernel
theorem dX1_order_12 : decode cX1_order 12 = .ok (.iload_n 1, 1) := by decide +kernel
theorem dX1_order_13 : decode cX1_order 13 = .ok (.iaload, 1) := by decide +kernel
theorem dX1_order_14 : decode cX1_order 14 = .ok (.invokevirtual 82, 3) := by decide +kernel
theorem dX1_order_17 : decode cX1_order 17 = .ok (.ireturn, 1) := by decide +kernel
theorem dX1_points_0 : decode cX1_points 0 = .ok (.aload_n 0, 1) := by decide +kernel
theorem dX1_points_1 : decode cX1_points 1 = .ok (.getfield 33, 3) := by decide +kernel
theorem dX1_points_4 : decode cX1_points 4 = .ok (.getfield 85, 3) := by decide +kernel
theorem dX1_points_7 : decode cX1_points 7 = .ok (.ireturn, 1) := by decide +kernel
theorem dX1_base_0 : decode cX1_base 0 = .ok (.aload_n 0, 1) := by decide +kernel
theorem dX1_base_1 : decode cX1_base 1 = .ok (.getfield 33, 3) := by decide +kernel
theorem dX1_base_4 : decode cX1_base 4 = .ok (.invokevirtual 88, 3) := by decide +kernel
theorem dX1_base_7 : decode cX1_base 7 = .ok (.ireturn, 1) := by decide +kernel
theorem dX1_log_0 : decode cX1_log 0 = .ok (.iload_n 1, 1) := by decide +kernel
theorem dX1_log_1 : decode cX1_log 1 = .ok (.invokestatic 41, 3) := by decide +kernel
theorem dX1_log_4 : decode cX1_log 4 = .ok (.iload_n 2, 1) := by decide +kernel
theorem dX1_log_5 : decode cX1_log 5 = .ok (.invokestatic 41, 3) := by decide +kernel
theorem dX1_log_8 : decode cX1_log 8 = .ok (.aload_n 0, 1) := by decide +kernel
theorem dX1_log_9 : decode cX1_log 9 = .ok (.getfield 33, 3) := by decide +kernel
theorem dX1_log_12 : decode cX1_log 12 = .ok (.aload_n 0, 1) := by decide +kernel
theorem dX1_log_13 : decode cX1_log 13 = .ok (.getfield 19, 3) := by decide +kernel
theorem dX1_log_16 : decode cX1_log 16 = .ok (.iload_n 1, 1) := by decide +kernel
theorem dX1_log_17 : decode cX1_log 17 = .ok (.iaload, 1) := by decide +kernel
theorem dX1_log_18 : decode cX1_log 18 = .ok (.aload_n 0, 1) := by decide +kernel
theorem dX1_log_19 : decode cX1_log 19 = .ok (.getfield 19, 3) := by decide +kernel
theorem dX1_log_22 : decode cX1_log 22 = .ok (.iload_n 2, 1) := by decide +kernel
theorem dX1_log_23 : decode cX1_log 23 = .ok (.iaload, 1) := by decide +kernel
theorem dX1_log_24 : decode cX1_log 24 = .ok (.invokevirtual 92, 3) := by decide +kernel
theorem dX1_log_27 : decode cX1_log 27 = .ok (.ireturn, 1) := by decide +kernel
theorem dX1_half_0 : decode cX1_half 0 = .ok (.iload_n 1, 1) := by decide +kernel
theorem dX1_half_1 : decode cX1_half 1 = .ok (.invokestatic 41, 3) := by decide +kernel
theorem dX1_half_4 : decode cX1_half 4 = .ok (.iload_n 2, 1) := by decide +kernel
theorem dX1_half_5 : decode cX1_half 5 = .ok (.invokestatic 41, 3) := by decide +kernel
theorem dX1_half_8 : decode cX1_half 8 = .ok (.aload_n 0, 1) := by decide +kernel
theorem dX1_half_9 : decode cX1_half 9 = .ok (.getfield 19, 3) := by decide +kernel
theorem dX1_half_12 : decode cX1_half 12 = .ok (.iload_n 2, 1) := by decide +kernel
theorem dX1_half_13 : decode cX1_half 13 = .ok (.iaload, 1) := by decide +kernel
theorem dX1_half_14 : decode cX1_half 14 = .ok (.istore_n 3, 1) := by decide +kernel
theorem dX1_half_15 : decode cX1_half 15 = .ok (.aload_n 0, 1) := by decide +kernel
theorem dX1_half_16 : decode cX1_half 16 = .ok (.getfield 33, 3) := by decide +kernel
theorem dX1_half_19 : decode cX1_half 19 = .ok (.iload_n 3, 1) := by decide +kernel
theorem dX1_half_20 : decode cX1_half 20 = .ok (.invokevirtual 95, 3) := by decide +kernel
theorem dX1_half_23 : decode cX1_half 23 = .ok (.istore 4, 2) := by decide +kernel
theorem dX1_half_25 : decode cX1_half 25 = .ok (.iload 4, 2) := by decide +kernel
theorem dX1_half_27 : decode cX1_half 27 = .ok (.ifCond .le 17, 3) := by decide +kernel
theorem dX1_half_30 : decode cX1_half 30 = .ok (.aload_n 0, 1) := by decide +kernel
theorem dX1_half_31 : decode cX1_half 31 = .ok (.getfield 19, 3) := by decide +kernel
theorem dX1_half_34 : decode cX1_half 34 = .ok (.iload_n 1, 1) := by decide +kernel
theorem dX1_half_35 : decode cX1_half 35 = .ok (.aload_n 0, 1) := by decide +kernel
theorem dX1_half_36 : decode cX1_half 36 = .ok (.getfield 33, 3) := by decide +kernel
theorem dX1_half_39 : decode cX1_half 39 = .ok (.iload_n 3, 1) := by decide +kernel
theorem dX1_half_40 : decode cX1_half 40 = .ok (.invokevirtual 98, 3) := by decide +kernel
theorem dX1_half_43 : decode cX1_half 43 = .ok (.iastore, 1) := by decide +kernel
theorem dX1_half_44 : decode cX1_half 44 = .ok (.iload 4, 2) := by decide +kernel
theorem dX1_half_46 : decode cX1_half 46 = .ok (.ireturn, 1) := by decide +kernel
theorem dX1_sign_0 : decode cX1_sign 0 = .ok (.iload_n 1, 1) := by decide +kernel
theorem dX1_sign_1 : decode cX1_sign 1 = .ok (.invokestatic 41, 3) := by decide +kernel
theorem dX1_sign_4 : decode cX1_sign 4 = .ok (.iload_n 2, 1) := by decide +kernel
theorem dX1_sign_5 : decode cX1_sign 5 = .ok (.invokestatic 101, 3) := by decide +kernel
theorem dX1_sign_8 : decode cX1_sign 8 = .ok (.iload_n 3, 1) := by decide +kernel
theorem dX1_sign_9 : decode cX1_sign 9 = .ok (.invokestatic 101, 3) := by decide +kernel
theorem dX1_sign_12 : decode cX1_sign 12 = .ok (.aload_n 0, 1) := by decide +kernel
theorem dX1_sign_13 : decode cX1_sign 13 = .ok (.getfield 19, 3) := by decide +kernel
theorem dX1_sign_16 : decode cX1_sign 16 = .ok (.iload_n 1, 1) := by decide +kernel
theorem dX1_sign_17 : decode cX1_sign 17 = .ok (.iaload, 1) := by decide +kernel
theorem dX1_sign_18 : decode cX1_sign 18 = .ok (.istore 4, 2) := by decide +kernel
theorem dX1_sign_20 : decode cX1_sign 20 = .ok (.iload 4, 2) := by decide +kernel
theorem dX1_sign_22 : decode cX1_sign 22 = .ok (.iconst 1, 1) := by decide +kernel
theorem dX1_sign_23 : decode cX1_sign 23 = .ok (.if_icmp .ne 13, 3) := by decide +kernel
theorem dX1_sign_26 : decode cX1_sign 26 = .ok (.new 104, 3) := by decide +kernel
theorem dX1_sign_29 : decode cX1_sign 29 = .ok (.dup, 1) := by decide +kernel
theorem dX1_sign_30 : decode cX1_sign 30 = .ok (.ldc 106, 2) := by decide +kernel
theorem dX1_sign_32 : decode cX1_sign 32 = .ok (.invokespecial 108, 3) := by decide +kernel
theorem dX1_sign_35 : decode cX1_sign 35 = .ok (.athrow, 1) := by decide +kernel
theorem dX1_sign_36 : decode cX1_sign 36 = .ok (.aload_n 0, 1) := by decide +kernel
theorem dX1_sign_37 : decode cX1_sign 37 = .ok (.iload 4, 2) := by decide +kernel
theorem dX1_sign_39 : decode cX1_sign 39 = .ok (.iload_n 2, 1) := by decide +kernel
theorem dX1_sign_40 : decode cX1_sign 40 = .ok (.i2l, 1) := by decide +kernel
theorem dX1_sign_41 : decode cX1_sign 41 = .ok (.iload_n 3, 1) := by decide +kernel
theorem dX1_sign_42 : decode cX1_sign 42 = .ok (.i2l, 1) := by decide +kernel
theorem dX1_sign_43 : decode cX1_sign 43 = .ok (.ladd, 1) := by decide +kernel
theorem dX1_sign_44 : decode cX1_sign 44 = .ok (.lconst 1, 1) := by decide +kernel
theorem dX1_sign_45 : decode cX1_sign 45 = .ok (.ladd, 1) := by decide +kernel
theorem dX1_sign_46 : decode cX1_sign 46 = .ok (.invokevirtual 109, 3) := by decide +kernel
theorem dX1_sign_49 : decode cX1_sign 49 = .ok (.lstore 5, 2) := by decide +kernel
theorem dX1_sign_51 : decode cX1_sign 51 = .ok (.aload_n 0, 1) := by decide +kernel
theorem dX1_sign_52 : decode cX1_sign 52 = .ok (.getfield 33, 3) := by decide +kernel
theorem dX1_sign_55 : decode cX1_sign 55 = .ok (.lload 5, 2) := by decide +kernel
theorem dX1_sign_57 : decode cX1_sign 57 = .ok (.iload 4, 2) := by decide +kernel
theorem dX1_sign_59 : decode cX1_sign 59 = .ok (.invokevirtual 78, 3) := by decide +kernel
theorem dX1_sign_62 : decode cX1_sign 62 = .ok (.invokestatic 60, 3) := by decide +kernel
theorem dX1_sign_65 : decode cX1_sign 65 = .ok (.istore 7, 2) := by decide +kernel
theorem dX1_sign_67 : decode cX1_sign 67 = .ok (.iload 7, 2) := by decide +kernel
theorem dX1_sign_69 : decode cX1_sign 69 = .ok (.iload_n 3, 1) := by decide +kernel
theorem dX1_sign_70 : decode cX1_sign 70 = .ok (.invokestatic 113, 3) := by decide +kernel
theorem dX1_sign_73 : decode cX1_sign 73 = .ok (.i2l, 1) := by decide +kernel
theorem dX1_sign_74 : decode cX1_sign 74 = .ok (.lstore 8, 2) := by decide +kernel
theorem dX1_sign_76 : decode cX1_sign 76 = .ok (.lload 5, 2) := by decide +kernel
theorem dX1_sign_78 : decode cX1_sign 78 = .ok (.lload 8, 2) := by decide +kernel
theorem dX1_sign_80 : decode cX1_sign 80 = .ok (.iload_n 2, 1) := by decide +kernel
theorem dX1_sign_81 : decode cX1_sign 81 = .ok (.i2l, 1) := by decide +kernel
theorem dX1_sign_82 : decode cX1_sign 82 = .ok (.lmul, 1) := by decide +kernel
theorem dX1_sign_83 : decode cX1_sign 83 = .ok (.ladd, 1) := by decide +kernel
theorem dX1_sign_84 : decode cX1_sign 84 = .ok (.aload_n 0, 1) := by decide +kernel
theorem dX1_sign_85 : decode cX1_sign 85 = .ok (.getfield 33, 3) := by decide +kernel
theorem dX1_sign_88 : decode cX1_sign 88 = .ok (.iload 4, 2) := by decide +kernel
theorem dX1_sign_90 : decode cX1_sign 90 = .ok (.invokevirtual 82, 3) := by decide +kernel
theorem dX1_sign_93 : decode cX1_sign 93 = .ok (.i2l, 1) := by decide +kernel
theorem dX1_sign_94 : decode cX1_sign 94 = .ok (.lrem, 1) := by decide +kernel
theorem dX1_sign_95 : decode cX1_sign 95 = .ok (.lstore 10, 2) := by decide +kernel
theorem dX1_sign_97 : decode cX1_sign 97 = .ok (.iload 7, 2) := by decide +kernel
theorem dX1_sign_99 : decode cX1_sign 99 = .ok (.i2l, 1) := by decide +kernel
theorem dX1_sign_100 : decode cX1_sign 100 = .ok (.bipush 16, 2) := by decide +kernel
theorem dX1_sign_102 : decode cX1_sign 102 = .ok (.lshl, 1) := by decide +kernel
theorem dX1_sign_103 : decode cX1_sign 103 = .ok (.lload 10, 2) := by decide +kernel
theorem dX1_sign_105 : decode cX1_sign 105 = .ok (.ladd, 1) := by decide +kernel
theorem dX1_sign_106 : decode cX1_sign 106 = .ok (.lreturn, 1) := by decide +kernel
theorem dX1_verify_0 : decode cX1_verify 0 = .ok (.iload_n 1, 1) := by decide +kernel
theorem dX1_verify_1 : decode cX1_verify 1 = .ok (.invokestatic 41, 3) := by decide +kernel
theorem dX1_verify_4 : decode cX1_verify 4 = .ok (.iload_n 2, 1) := by decide +kernel
theorem dX1_verify_5 : decode cX1_verify 5 = .ok (.invokestatic 41, 3) := by decide +kernel
theorem dX1_verify_8 : decode cX1_verify 8 = .ok (.iload_n 3, 1) := by decide +kernel
theorem dX1_verify_9 : decode cX1_verify 9 = .ok (.invokestatic 101, 3) := by decide +kernel
theorem dX1_verify_12 : decode cX1_verify 12 = .ok (.lload 4, 2) := by decide +kernel
theorem dX1_verify_14 : decode cX1_verify 14 = .ok (.bipush 16, 2) := by decide +kernel
theorem dX1_verify_16 : decode cX1_verify 16 = .ok (.lshr, 1) := by decide +kernel
theorem dX1_verify_17 : decode cX1_verify 17 = .ok (.lstore 6, 2) := by decide +kernel
theorem dX1_verify_19 : decode cX1_verify 19 = .ok (.lload 6, 2) := by decide +kernel
theorem dX1_verify_21 : decode cX1_verify 21 = .ok (.lconst 0, 1) := by decide +kernel
theorem dX1_verify_22 : decode cX1_verify 22 = .ok (.lcmp, 1) := by decide +kernel
theorem dX1_verify_23 : decode cX1_verify 23 = .ok (.ifCond .lt 12, 3) := by decide +kernel
theorem dX1_verify_26 : decode cX1_verify 26 = .ok (.lload 6, 2) := by decide +kernel
theorem dX1_verify_28 : decode cX1_verify 28 = .ok (.ldc2_w 116, 3) := by decide +kernel
theorem dX1_verify_31 : decode cX1_verify 31 = .ok (.lcmp, 1) := by decide +kernel
theorem dX1_verify_32 : decode cX1_verify 32 = .ok (.ifCond .lt 5, 3) := by decide +kernel
theorem dX1_verify_35 : decode cX1_verify 35 = .ok (.iconst 0, 1) := by decide +kernel
theorem dX1_verify_36 : decode cX1_verify 36 = .ok (.ireturn, 1) := by decide +kernel
theorem dX1_verify_37 : decode cX1_verify 37 = .ok (.lload 6, 2) := by decide +kernel
theorem dX1_verify_39 : decode cX1_verify 39 = .ok (.l2i, 1) := by decide +kernel
theorem dX1_verify_40 : decode cX1_verify 40 = .ok (.istore 8, 2) := by decide +kernel
theorem dX1_verify_42 : decode cX1_verify 42 = .ok (.aload_n 0, 1) := by decide +kernel
theorem dX1_verify_43 : decode cX1_verify 43 = .ok (.getfield 33, 3) := by decide +kernel
theorem dX1_verify_46 : decode cX1_verify 46 = .ok (.iload 8, 2) := by decide +kernel
theorem dX1_verify_48 : decode cX1_verify 48 = .ok (.invokevirtual 54, 3) := by decide +kernel
theorem dX1_verify_51 : decode cX1_verify 51 = .ok (.istore 9, 2) := by decide +kernel
theorem dX1_verify_53 : decode cX1_verify 53 = .ok (.iload 9, 2) := by decide +kernel
theorem dX1_verify_55 : decode cX1_verify 55 = .ok (.iconst (-1), 1) := by decide +kernel
theorem dX1_verify_56 : decode cX1_verify 56 = .ok (.if_icmp .ne 5, 3) := by decide +kernel
theorem dX1_verify_59 : decode cX1_verify 59 = .ok (.iconst 0, 1) := by decide +kernel
theorem dX1_verify_60 : decode cX1_verify 60 = .ok (.ireturn, 1) := by decide +kernel
theorem dX1_verify_61 : decode cX1_verify 61 = .ok (.aload_n 0, 1) := by decide +kernel
theorem dX1_verify_62 : decode cX1_verify 62 = .ok (.getfield 33, 3) := by decide +kernel
theorem dX1_verify_65 : decode cX1_verify 65 = .ok (.lload 4, 2) := by decide +kernel
theorem dX1_verify_67 : decode cX1_verify 67 = .ok (.ldc2_w 118, 3) := by decide +kernel
theorem dX1_verify_70 : decode cX1_verify 70 = .ok (.land, 1) := by decide +kernel
theorem dX1_verify_71 : decode cX1_verify 71 = .ok (.aload_n 0, 1) := by decide +kernel
theorem dX1_verify_72 : decode cX1_verify 72 = .ok (.getfield 19, 3) := by decide +kernel
theorem dX1_verify_75 : decode cX1_verify 75 = .ok (.iload_n 1, 1) := by decide +kernel
theorem dX1_verify_76 : decode cX1_verify 76 = .ok (.iaload, 1) := by decide +kernel
theorem dX1_verify_77 : decode cX1_verify 77 = .ok (.invokevirtual 78, 3) := by decide +kernel
theorem dX1_verify_80 : decode cX1_verify 80 = .ok (.istore 10, 2) := by decide +kernel
theorem dX1_verify_82 : decode cX1_verify 82 = .ok (.aload_n 0, 1) := by decide +kernel
theorem dX1_verify_83 : decode cX1_verify 83 = .ok (.getfield 33, 3) := by decide +kernel
theorem dX1_verify_86 : decode cX1_verify 86 = .ok (.iload 8, 2) := by decide +kernel
theorem dX1_verify_88 : decode cX1_verify 88 = .ok (.iload_n 3, 1) := by decide +kernel
theorem dX1_verify_89 : decode cX1_verify 89 = .ok (.invokestatic 113, 3) := by decide +kernel
theorem dX1_verify_92 : decode cX1_verify 92 = .ok (.i2l, 1) := by decide +kernel
theorem dX1_verify_93 : decode cX1_verify 93 = .ok (.aload_n 0, 1) := by decide +kernel
theorem dX1_verify_94 : decode cX1_verify 94 = .ok (.getfield 19, 3) := by decide +kernel
theorem dX1_verify_97 : decode cX1_verify 97 = .ok (.iload_n 2, 1) := by decide +kernel
theorem dX1_verify_98 : decode cX1_verify 98 = .ok (.iaload, 1) := by decide +kernel
theorem dX1_verify_99 : decode cX1_verify 99 = .ok (.invokevirtual 78, 3) := by decide +kernel
theorem dX1_verify_102 : decode cX1_verify 102 = .ok (.istore 11, 2) := by decide +kernel
theorem dX1_verify_104 : decode cX1_verify 104 = .ok (.iload 10, 2) := by decide +kernel
theorem dX1_verify_106 : decode cX1_verify 106 = .ok (.aload_n 0, 1) := by decide +kernel
theorem dX1_verify_107 : decode cX1_verify 107 = .ok (.getfield 33, 3) := by decide +kernel
theorem dX1_verify_110 : decode cX1_verify 110 = .ok (.iload 9, 2) := by decide +kernel
theorem dX1_verify_112 : decode cX1_verify 112 = .ok (.iload 11, 2) := by decide +kernel
theorem dX1_verify_114 : decode cX1_verify 114 = .ok (.invokevirtual 72, 3) := by decide +kernel
theorem dX1_verify_117 : decode cX1_verify 117 = .ok (.if_icmp .ne 7, 3) := by decide +kernel
theorem dX1_verify_120 : decode cX1_verify 120 = .ok (.iconst 1, 1) := by decide +kernel
theorem dX1_verify_121 : decode cX1_verify 121 = .ok (.goto 4, 3) := by decide +kernel
theorem dX1_verify_124 : decode cX1_verify 124 = .ok (.iconst 0, 1) := by decide +kernel
theorem dX1_verify_125 : decode cX1_verify 125 = .ok (.ireturn, 1) := by decide +kernel
theorem dX1_count_0 : decode cX1_count 0 = .ok (.iload_n 1, 1) := by decide +kernel
theorem dX1_count_1 : decode cX1_count 1 = .ok (.tableswitch 69 0 4 #[35, 40, 48, 56, 64], 35) := by decide +kernel
theorem dX1_count_36 : decode cX1_count 36 = .ok (.aload_n 0, 1) := by decide +kernel
theorem dX1_count_37 : decode cX1_count 37 = .ok (.getfield 120, 3) := by decide +kernel
theorem dX1_count_40 : decode cX1_count 40 = .ok (.ireturn, 1) := by decide +kernel
theorem dX1_count_41 : decode cX1_count 41 = .ok (.aload_n 0, 1) := by decide +kernel
theorem dX1_count_42 : decode cX1_count 42 = .ok (.getfield 33, 3) := by decide +kernel
theorem dX1_count_45 : decode cX1_count 45 = .ok (.getfield 37, 3) := by decide +kernel
theorem dX1_count_48 : decode cX1_count 48 = .ok (.ireturn, 1) := by decide +kernel
theorem dX1_count_49 : decode cX1_count 49 = .ok (.aload_n 0, 1) := by decide +kernel
theorem dX1_count_50 : decode cX1_count 50 = .ok (.getfield 33, 3) := by decide +kernel
theorem dX1_count_53 : decode cX1_count 53 = .ok (.getfield 123, 3) := by decide +kernel
theorem dX1_count_56 : decode cX1_count 56 = .ok (.ireturn, 1) := by decide +kernel
theorem dX1_count_57 : decode cX1_count 57 = .ok (.aload_n 0, 1) := by decide +kernel
theorem dX1_count_58 : decode cX1_count 58 = .ok (.getfield 33, 3) := by decide +kernel
theorem dX1_count_61 : decode cX1_count 61 = .ok (.getfield 126, 3) := by decide +kernel
theorem dX1_count_64 : decode cX1_count 64 = .ok (.ireturn, 1) := by decide +kernel
theorem dX1_count_65 : decode cX1_count 65 = .ok (.aload_n 0, 1) := by decide +kernel
theorem dX1_count_66 : decode cX1_count 66 = .ok (.invokevirtual 129, 3) := by decide +kernel
theorem dX1_count_69 : decode cX1_count 69 = .ok (.ireturn, 1) := by decide +kernel
theorem dX1_count_70 : decode cX1_count 70 = .ok (.iconst (-1), 1) := by decide +kernel
theorem dX1_count_71 : decode cX1_count 71 = .ok (.ireturn, 1) := by decide +kernel
theorem dX1_open_0 : decode cX1_open 0 = .ok (.aload_n 0, 1) := by decide +kernel
theorem dX1_open_1 : decode cX1_open 1 = .ok (.getfield 15, 3) := by decide +kernel
theorem dX1_open_4 : decode cX1_open 4 = .ok (.iload_n 1, 1) := by decide +kernel
theorem dX1_open_5 : decode cX1_open 5 = .ok (.aaload, 1) := by decide +kernel
theorem dX1_open_6 : decode cX1_open 6 = .ok (.ifnonnull 21, 3) := by decide +kernel
theorem dX1_open_9 : decode cX1_open 9 = .ok (.aload_n 0, 1) := by decide +kernel
theorem dX1_open_10 : decode cX1_open 10 = .ok (.getfield 15, 3) := by decide +kernel
theorem dX1_open_13 : decode cX1_open 13 = .ok (.iload_n 1, 1) := by decide +kernel
theorem dX1_open_14 : decode cX1_open 14 = .ok (.new 13, 3) := by decide +kernel
theorem dX1_open_17 : decode cX1_open 17 = .ok (.dup, 1) := by decide +kernel
theorem dX1_open_18 : decode cX1_open 18 = .ok (.getstatic 9, 3) := by decide +kernel
theorem dX1_open_21 : decode cX1_open 21 = .ok (.iload_n 1, 1) := by decide +kernel
theorem dX1_open_22 : decode cX1_open 22 = .ok (.iaload, 1) := by decide +kernel
theorem dX1_open_23 : decode cX1_open 23 = .ok (.invokespecial 132, 3) := by decide +kernel
theorem dX1_open_26 : decode cX1_open 26 = .ok (.aastore, 1) := by decide +kernel
theorem dX1_open_27 : decode cX1_open 27 = .ok (.aload_n 0, 1) := by decide +kernel
theorem dX1_open_28 : decode cX1_open 28 = .ok (.iload_n 1, 1) := by decide +kernel
theorem dX1_open_29 : decode cX1_open 29 = .ok (.putfield 120, 3) := by decide +kernel
theorem dX1_open_32 : decode cX1_open 32 = .ok (.aload_n 0, 1) := by decide +kernel
theorem dX1_open_33 : decode cX1_open 33 = .ok (.aload_n 0, 1) := by decide +kernel
theorem dX1_open_34 : decode cX1_open 34 = .ok (.getfield 15, 3) := by decide +kernel
theorem dX1_open_37 : decode cX1_open 37 = .ok (.iload_n 1, 1) := by decide +kernel
theorem dX1_open_38 : decode cX1_open 38 = .ok (.aaload, 1) := by decide +kernel
theorem dX1_open_39 : decode cX1_open 39 = .ok (.putfield 33, 3) := by decide +kernel
theorem dX1_open_42 : decode cX1_open 42 = .ok (.aload_n 0, 1) := by decide +kernel
theorem dX1_open_43 : decode cX1_open 43 = .ok (.getfield 19, 3) := by decide +kernel
theorem dX1_open_46 : decode cX1_open 46 = .ok (.iconst 1, 1) := by decide +kernel
theorem dX1_open_47 : decode cX1_open 47 = .ok (.invokestatic 134, 3) := by decide +kernel
theorem dX1_open_50 : decode cX1_open 50 = .ok (.return_, 1) := by decide +kernel
theorem dX1_keep_0 : decode cX1_keep 0 = .ok (.aload_n 0, 1) := by decide +kernel
theorem dX1_keep_1 : decode cX1_keep 1 = .ok (.getfield 19, 3) := by decide +kernel
theorem dX1_keep_4 : decode cX1_keep 4 = .ok (.iload_n 1, 1) := by decide +kernel
theorem dX1_keep_5 : decode cX1_keep 5 = .ok (.iload_n 2, 1) := by decide +kernel
theorem dX1_keep_6 : decode cX1_keep 6 = .ok (.iastore, 1) := by decide +kernel
theorem dX1_keep_7 : decode cX1_keep 7 = .ok (.iload_n 2, 1) := by decide +kernel
theorem dX1_keep_8 : decode cX1_keep 8 = .ok (.invokestatic 60, 3) := by decide +kernel
theorem dX1_keep_11 : decode cX1_keep 11 = .ok (.ireturn, 1) := by decide +kernel
theorem dX1_registersInUse_0 : decode cX1_registersInUse 0 = .ok (.iconst 0, 1) := by decide +kernel
theorem dX1_registersInUse_1 : decode cX1_registersInUse 1 = .ok (.istore_n 1, 1) := by decide +kernel
theorem dX1_registersInUse_2 : decode cX1_registersInUse 2 = .ok (.aload_n 0, 1) := by decide +kernel
theorem dX1_registersInUse_3 : decode cX1_registersInUse 3 = .ok (.getfield 19, 3) := by decide +kernel
theorem dX1_registersInUse_6 : decode cX1_registersInUse 6 = .ok (.astore_n 2, 1) := by decide +kernel
theorem dX1_registersInUse_7 : decode cX1_registersInUse 7 = .ok (.aload_n 2, 1) := by decide +kernel
theorem dX1_registersInUse_8 : decode cX1_registersInUse 8 = .ok (.arraylength, 1) := by decide +kernel
theorem dX1_registersInUse_9 : decode cX1_registersInUse 9 = .ok (.istore_n 3, 1) := by decide +kernel
theorem dX1_registersInUse_10 : decode cX1_registersInUse 10 = .ok (.iconst 0, 1) := by decide +kernel
theorem dX1_registersInUse_11 : decode cX1_registersInUse 11 = .ok (.istore 4, 2) := by decide +kernel
theorem dX1_registersInUse_13 : decode cX1_registersInUse 13 = .ok (.iload 4, 2) := by decide +kernel
theorem dX1_registersInUse_15 : decode cX1_registersInUse 15 = .ok (.iload_n 3, 1) := by decide +kernel
theorem dX1_registersInUse_16 : decode cX1_registersInUse 16 = .ok (.if_icmp .ge 24, 3) := by decide +kernel
theorem dX1_registersInUse_19 : decode cX1_registersInUse 19 = .ok (.aload_n 2, 1) := by decide +kernel
theorem dX1_registersInUse_20 : decode cX1_registersInUse 20 = .ok (.iload 4, 2) := by decide +kernel
theorem dX1_registersInUse_22 : decode cX1_registersInUse 22 = .ok (.iaload, 1) := by decide +kernel
theorem dX1_registersInUse_23 : decode cX1_registersInUse 23 = .ok (.istore 5, 2) := by decide +kernel
theorem dX1_registersInUse_25 : decode cX1_registersInUse 25 = .ok (.iload 5, 2) := by decide +kernel
theorem dX1_registersInUse_27 : decode cX1_registersInUse 27 = .ok (.iconst 1, 1) := by decide +kernel
theorem dX1_registersInUse_28 : decode cX1_registersInUse 28 = .ok (.if_icmp .eq 6, 3) := by decide +kernel
theorem dX1_registersInUse_31 : decode cX1_registersInUse 31 = .ok (.iinc 1 1, 3) := by decide +kernel
theorem dX1_registersInUse_34 : decode cX1_registersInUse 34 = .ok (.iinc 4 1, 3) := by decide +kernel
theorem dX1_registersInUse_37 : decode cX1_registersInUse 37 = .ok (.goto (-24), 3) := by decide +kernel
theorem dX1_registersInUse_40 : decode cX1_registersInUse 40 = .ok (.iload_n 1, 1) := by decide +kernel
theorem dX1_registersInUse_41 : decode cX1_registersInUse 41 = .ok (.ireturn, 1) := by decide +kernel
theorem dX1_nonce_0 : decode cX1_nonce 0 = .ok (.lload_n 2, 1) := by decide +kernel
theorem dX1_nonce_1 : decode cX1_nonce 1 = .ok (.ldc2_w 140, 3) := by decide +kernel
theorem dX1_nonce_4 : decode cX1_nonce 4 = .ok (.land, 1) := by decide +kernel
theorem dX1_nonce_5 : decode cX1_nonce 5 = .ok (.lstore 4, 2) := by decide +kernel
theorem dX1_nonce_7 : decode cX1_nonce 7 = .ok (.iconst 1, 1) := by decide +kernel
theorem dX1_nonce_8 : decode cX1_nonce 8 = .ok (.istore 6, 2) := by decide +kernel
theorem dX1_nonce_10 : decode cX1_nonce 10 = .ok (.iload 6, 2) := by decide +kernel
theorem dX1_nonce_12 : decode cX1_nonce 12 = .ok (.iconst 3, 1) := by decide +kernel
theorem dX1_nonce_13 : decode cX1_nonce 13 = .ok (.if_icmp .ge 33, 3) := by decide +kernel
theorem dX1_nonce_16 : decode cX1_nonce 16 = .ok (.aload_n 0, 1) := by decide +kernel
theorem dX1_nonce_17 : decode cX1_nonce 17 = .ok (.getfield 33, 3) := by decide +kernel
theorem dX1_nonce_20 : decode cX1_nonce 20 = .ok (.lload 4, 2) := by decide +kernel
theorem dX1_nonce_22 : decode cX1_nonce 22 = .ok (.iload_n 1, 1) := by decide +kernel
theorem dX1_nonce_23 : decode cX1_nonce 23 = .ok (.invokevirtual 78, 3) := by decide +kernel
theorem dX1_nonce_26 : decode cX1_nonce 26 = .ok (.iconst 1, 1) := by decide +kernel
theorem dX1_nonce_27 : decode cX1_nonce 27 = .ok (.if_icmp .ne 19, 3) := by decide +kernel
theorem dX1_nonce_30 : decode cX1_nonce 30 = .ok (.lload 4, 2) := by decide +kernel
theorem dX1_nonce_32 : decode cX1_nonce 32 = .ok (.lconst 1, 1) := by decide +kernel
theorem dX1_nonce_33 : decode cX1_nonce 33 = .ok (.ladd, 1) := by decide +kernel
theorem dX1_nonce_34 : decode cX1_nonce 34 = .ok (.ldc2_w 140, 3) := by decide +kernel
theorem dX1_nonce_37 : decode cX1_nonce 37 = .ok (.land, 1) := by decide +kernel
theorem dX1_nonce_38 : decode cX1_nonce 38 = .ok (.lstore 4, 2) := by decide +kernel
theorem dX1_nonce_40 : decode cX1_nonce 40 = .ok (.iinc 6 1, 3) := by decide +kernel
theorem dX1_nonce_43 : decode cX1_nonce 43 = .ok (.goto (-33), 3) := by decide +kernel
theorem dX1_nonce_46 : decode cX1_nonce 46 = .ok (.lload 4, 2) := by decide +kernel
theorem dX1_nonce_48 : decode cX1_nonce 48 = .ok (.lreturn, 1) := by decide +kernel
theorem dX1_hash_0 : decode cX1_hash 0 = .ok (.iload_n 0, 1) := by decide +kernel
theorem dX1_hash_1 : decode cX1_hash 1 = .ok (.iload_n 1, 1) := by decide +kernel
theorem dX1_hash_2 : decode cX1_hash 2 = .ok (.iadd, 1) := by decide +kernel
theorem dX1_hash_3 : decode cX1_hash 3 = .ok (.ldc 142, 2) := by decide +kernel
theorem dX1_hash_5 : decode cX1_hash 5 = .ok (.iand, 1) := by decide +kernel
theorem dX1_hash_6 : decode cX1_hash 6 = .ok (.ireturn, 1) := by decide +kernel
theorem dX1_needRegister_0 : decode cX1_needRegister 0 = .ok (.iload_n 0, 1) := by decide +kernel
theorem dX1_needRegister_1 : decode cX1_needRegister 1 = .ok (.ifCond .lt 9, 3) := by decide +kernel
theorem dX1_needRegister_4 : decode cX1_needRegister 4 = .ok (.iload_n 0, 1) := by decide +kernel
theorem dX1_needRegister_5 : decode cX1_needRegister 5 = .ok (.bipush 12, 2) := by decide +kernel
theorem dX1_needRegister_7 : decode cX1_needRegister 7 = .ok (.if_icmp .lt 13, 3) := by decide +kernel
theorem dX1_needRegister_10 : decode cX1_needRegister 10 = .ok (.new 143, 3) := by decide +kernel
theorem dX1_needRegister_13 : decode cX1_needRegister 13 = .ok (.dup, 1) := by decide +kernel
theorem dX1_needRegister_14 : decode cX1_needRegister 14 = .ok (.ldc 145, 2) := by decide +kernel
theorem dX1_needRegister_16 : decode cX1_needRegister 16 = .ok (.invokespecial 147, 3) := by decide +kernel
theorem dX1_needRegister_19 : decode cX1_needRegister 19 = .ok (.athrow, 1) := by decide +kernel
theorem dX1_needRegister_20 : decode cX1_needRegister 20 = .ok (.return_, 1) := by decide +kernel
theorem dX1_needNumber_0 : decode cX1_needNumber 0 = .ok (.iload_n 0, 1) := by decide +kernel
theorem dX1_needNumber_1 : decode cX1_needNumber 1 = .ok (.ifCond .lt 9, 3) := by decide +kernel
theorem dX1_needNumber_4 : decode cX1_needNumber 4 = .ok (.iload_n 0, 1) := by decide +kernel
theorem dX1_needNumber_5 : decode cX1_needNumber 5 = .ok (.ldc 148, 2) := by decide +kernel
theorem dX1_needNumber_7 : decode cX1_needNumber 7 = .ok (.if_icmp .le 13, 3) := by decide +kernel
theorem dX1_needNumber_10 : decode cX1_needNumber 10 = .ok (.new 26, 3) := by decide +kernel
theorem dX1_needNumber_13 : decode cX1_needNumber 13 = .ok (.dup, 1) := by decide +kernel
theorem dX1_needNumber_14 : decode cX1_needNumber 14 = .ok (.ldc 149, 2) := by decide +kernel
theorem dX1_needNumber_16 : decode cX1_needNumber 16 = .ok (.invokespecial 30, 3) := by decide +kernel
theorem dX1_needNumber_19 : decode cX1_needNumber 19 = .ok (.athrow, 1) := by decide +kernel
theorem dX1_needNumber_20 : decode cX1_needNumber 20 = .ok (.return_, 1) := by decide +kernel
