abbrev cLaw : ByteArray := code
theorem dL_begin_0 : decode cL_begin 0 = .ok (.aload_n 2, 1) := by decide +kernel
theorem dL_begin_1 : decode cL_begin 1 = .ok (.iconst 0, 1) := by decide +kernel
theorem dL_begin_2 : decode cL_begin 2 = .ok (.aload_n 0, 1) := by decide +kernel
theorem dL_begin_3 : decode cL_begin 3 = .ok (.iload_n 1, 1) := by decide +kernel
theorem dL_begin_4 : decode cL_begin 4 = .ok (.invokevirtual 7, 3) := by decide +kernel
theorem dL_begin_7 : decode cL_begin 7 = .ok (.i2l, 1) := by decide +kernel
theorem dL_begin_8 : decode cL_begin 8 = .ok (.lastore, 1) := by decide +kernel
theorem dL_begin_9 : decode cL_begin 9 = .ok (.goto 6, 3) := by decide +kernel
theorem dL_begin_12 : decode cL_begin 12 = .ok (.astore_n 3, 1) := by decide +kernel
theorem dL_begin_13 : decode cL_begin 13 = .ok (.iconst 1, 1) := by decide +kernel
theorem dL_begin_14 : decode cL_begin 14 = .ok (.ireturn, 1) := by decide +kernel
theorem dL_begin_15 : decode cL_begin 15 = .ok (.iconst 0, 1) := by decide +kernel
theorem dL_begin_16 : decode cL_begin 16 = .ok (.ireturn, 1) := by decide +kernel
theorem dL_put_0 : decode cL_put 0 = .ok (.aload_n 0, 1) := by decide +kernel
theorem dL_put_1 : decode cL_put 1 = .ok (.iload_n 1, 1) := by decide +kernel
theorem dL_put_2 : decode cL_put 2 = .ok (.iload_n 2, 1) := by decide +kernel
theorem dL_put_3 : decode cL_put 3 = .ok (.iload_n 3, 1) := by decide +kernel
theorem dL_put_4 : decode cL_put 4 = .ok (.invokevirtual 15, 3) := by decide +kernel
theorem dL_put_7 : decode cL_put 7 = .ok (.goto 11, 3) := by decide +kernel
theorem dL_put_10 : decode cL_put 10 = .ok (.astore 4, 2) := by decide +kernel
theorem dL_put_12 : decode cL_put 12 = .ok (.iconst 1, 1) := by decide +kernel
theorem dL_put_13 : decode cL_put 13 = .ok (.ireturn, 1) := by decide +kernel
theorem dL_put_14 : decode cL_put 14 = .ok (.astore 4, 2) := by decide +kernel
theorem dL_put_16 : decode cL_put 16 = .ok (.iconst 2, 1) := by decide +kernel
theorem dL_put_17 : decode cL_put 17 = .ok (.ireturn, 1) := by decide +kernel
theorem dL_put_18 : decode cL_put 18 = .ok (.iconst 0, 1) := by decide +kernel
theorem dL_put_19 : decode cL_put 19 = .ok (.ireturn, 1) := by decide +kernel
theorem dL_unpack_0 : decode cL_unpack 0 = .ok (.aload_n 0, 1) := by decide +kernel
theorem dL_unpack_1 : decode cL_unpack 1 = .ok (.iload_n 1, 1) := by decide +kernel
theorem dL_unpack_2 : decode cL_unpack 2 = .ok (.iload_n 2, 1) := by decide +kernel
theorem dL_unpack_3 : decode cL_unpack 3 = .ok (.invokevirtual 21, 3) := by decide +kernel
theorem dL_unpack_6 : decode cL_unpack 6 = .ok (.goto 9, 3) := by decide +kernel
theorem dL_unpack_9 : decode cL_unpack 9 = .ok (.astore_n 3, 1) := by decide +kernel
theorem dL_unpack_10 : decode cL_unpack 10 = .ok (.iconst 1, 1) := by decide +kernel
theorem dL_unpack_11 : decode cL_unpack 11 = .ok (.ireturn, 1) := by decide +kernel
theorem dL_unpack_12 : decode cL_unpack 12 = .ok (.astore_n 3, 1) := by decide +kernel
theorem dL_unpack_13 : decode cL_unpack 13 = .ok (.iconst 2, 1) := by decide +kernel
theorem dL_unpack_14 : decode cL_unpack 14 = .ok (.ireturn, 1) := by decide +kernel
theorem dL_unpack_15 : decode cL_unpack 15 = .ok (.iconst 0, 1) := by decide +kernel
theorem dL_unpack_16 : decode cL_unpack 16 = .ok (.ireturn, 1) := by decide +kernel
theorem dL_packed_0 : decode cL_packed 0 = .ok (.aload_n 2, 1) := by decide +kernel
theorem dL_packed_1 : decode cL_packed 1 = .ok (.iconst 0, 1) := by decide +kernel
theorem dL_packed_2 : decode cL_packed 2 = .ok (.aload_n 0, 1) := by decide +kernel
theorem dL_packed_3 : decode cL_packed 3 = .ok (.iload_n 1, 1) := by decide +kernel
theorem dL_packed_4 : decode cL_packed 4 = .ok (.invokevirtual 25, 3) := by decide +kernel
theorem dL_packed_7 : decode cL_packed 7 = .ok (.i2l, 1) := by decide +kernel
theorem dL_packed_8 : decode cL_packed 8 = .ok (.lastore, 1) := by decide +kernel
theorem dL_packed_9 : decode cL_packed 9 = .ok (.goto 6, 3) := by decide +kernel
theorem dL_packed_12 : decode cL_packed 12 = .ok (.astore_n 3, 1) := by decide +kernel
theorem dL_packed_13 : decode cL_packed 13 = .ok (.iconst 1, 1) := by decide +kernel
theorem dL_packed_14 : decode cL_packed 14 = .ok (.ireturn, 1) := by decide +kernel
theorem dL_packed_15 : decode cL_packed 15 = .ok (.iconst 0, 1) := by decide +kernel
theorem dL_packed_16 : decode cL_packed 16 = .ok (.ireturn, 1) := by decide +kernel
theorem dL_get_0 : decode cL_get 0 = .ok (.aload_n 3, 1) := by decide +kernel
theorem dL_get_1 : decode cL_get 1 = .ok (.iconst 0, 1) := by decide +kernel
theorem dL_get_2 : decode cL_get 2 = .ok (.aload_n 0, 1) := by decide +kernel
theorem dL_get_3 : decode cL_get 3 = .ok (.iload_n 1, 1) := by decide +kernel
theorem dL_get_4 : decode cL_get 4 = .ok (.iload_n 2, 1) := by decide +kernel
theorem dL_get_5 : decode cL_get 5 = .ok (.invokevirtual 28, 3) := by decide +kernel
theorem dL_get_8 : decode cL_get 8 = .ok (.i2l, 1) := by decide +kernel
theorem dL_get_9 : decode cL_get 9 = .ok (.lastore, 1) := by decide +kernel
theorem dL_get_10 : decode cL_get 10 = .ok (.goto 7, 3) := by decide +kernel
theorem dL_get_13 : decode cL_get 13 = .ok (.astore 4, 2) := by decide +kernel
theorem dL_get_15 : decode cL_get 15 = .ok (.iconst 1, 1) := by decide +kernel
theorem dL_get_16 : decode cL_get 16 = .ok (.ireturn, 1) := by decide +kernel
theorem dL_get_17 : decode cL_get 17 = .ok (.iconst 0, 1) := by decide +kernel
theorem dL_get_18 : decode cL_get 18 = .ok (.ireturn, 1) := by decide +kernel
theorem dL_join_0 : decode cL_join 0 = .ok (.aload 5, 2) := by decide +kernel
theorem dL_join_2 : decode cL_join 2 = .ok (.iconst 0, 1) := by decide +kernel
theorem dL_join_3 : decode cL_join 3 = .ok (.aload_n 0, 1) := by decide +kernel
theorem dL_join_4 : decode cL_join 4 = .ok (.iload_n 1, 1) := by decide +kernel
theorem dL_join_5 : decode cL_join 5 = .ok (.iload_n 2, 1) := by decide +kernel
theorem dL_join_6 : decode cL_join 6 = .ok (.iload_n 3, 1) := by decide +kernel
theorem dL_join_7 : decode cL_join 7 = .ok (.iload 4, 2) := by decide +kernel
theorem dL_join_9 : decode cL_join 9 = .ok (.invokevirtual 32, 3) := by decide +kernel
theorem dL_join_12 : decode cL_join 12 = .ok (.i2l, 1) := by decide +kernel
theorem dL_join_13 : decode cL_join 13 = .ok (.lastore, 1) := by decide +kernel
theorem dL_join_14 : decode cL_join 14 = .ok (.goto 7, 3) := by decide +kernel
theorem dL_join_17 : decode cL_join 17 = .ok (.astore 6, 2) := by decide +kernel
theorem dL_join_19 : decode cL_join 19 = .ok (.iconst 1, 1) := by decide +kernel
theorem dL_join_20 : decode cL_join 20 = .ok (.ireturn, 1) := by decide +kernel
theorem dL_join_21 : decode cL_join 21 = .ok (.iconst 0, 1) := by decide +kernel
theorem dL_join_22 : decode cL_join 22 = .ok (.ireturn, 1) := by decide +kernel
theorem dL_times_0 : decode cL_times 0 = .ok (.aload 5, 2) := by decide +kernel
theorem dL_times_2 : decode cL_times 2 = .ok (.iconst 0, 1) := by decide +kernel
theorem dL_times_3 : decode cL_times 3 = .ok (.aload_n 0, 1) := by decide +kernel
theorem dL_times_4 : decode cL_times 4 = .ok (.iload_n 1, 1) := by decide +kernel
theorem dL_times_5 : decode cL_times 5 = .ok (.lload_n 2, 1) := by decide +kernel
theorem dL_times_6 : decode cL_times 6 = .ok (.iload 4, 2) := by decide +kernel
theorem dL_times_8 : decode cL_times 8 = .ok (.invokevirtual 36, 3) := by decide +kernel
theorem dL_times_11 : decode cL_times 11 = .ok (.i2l, 1) := by decide +kernel
theorem dL_times_12 : decode cL_times 12 = .ok (.lastore, 1) := by decide +kernel
theorem dL_times_13 : decode cL_times 13 = .ok (.goto 7, 3) := by decide +kernel
theorem dL_times_16 : decode cL_times 16 = .ok (.astore 6, 2) := by decide +kernel
theorem dL_times_18 : decode cL_times 18 = .ok (.iconst 1, 1) := by decide +kernel
theorem dL_times_19 : decode cL_times 19 = .ok (.ireturn, 1) := by decide +kernel
theorem dL_times_20 : decode cL_times 20 = .ok (.iconst 0, 1) := by decide +kernel
theorem dL_times_21 : decode cL_times 21 = .ok (.ireturn, 1) := by decide +kernel
theorem dL_both_0 : decode cL_both 0 = .ok (.aload 8, 2) := by decide +kernel
theorem dL_both_2 : decode cL_both 2 = .ok (.iconst 0, 1) := by decide +kernel
theorem dL_both_3 : decode cL_both 3 = .ok (.aload_n 0, 1) := by decide +kernel
theorem dL_both_4 : decode cL_both 4 = .ok (.iload_n 1, 1) := by decide +kernel
theorem dL_both_5 : decode cL_both 5 = .ok (.lload_n 2, 1) := by decide +kernel
theorem dL_both_6 : decode cL_both 6 = .ok (.iload 4, 2) := by decide +kernel
theorem dL_both_8 : decode cL_both 8 = .ok (.lload 5, 2) := by decide +kernel
theorem dL_both_10 : decode cL_both 10 = .ok (.iload 7, 2) := by decide +kernel
theorem dL_both_12 : decode cL_both 12 = .ok (.invokevirtual 40, 3) := by decide +kernel
theorem dL_both_15 : decode cL_both 15 = .ok (.i2l, 1) := by decide +kernel
theorem dL_both_16 : decode cL_both 16 = .ok (.lastore, 1) := by decide +kernel
theorem dL_both_17 : decode cL_both 17 = .ok (.goto 7, 3) := by decide +kernel
theorem dL_both_20 : decode cL_both 20 = .ok (.astore 9, 2) := by decide +kernel
theorem dL_both_22 : decode cL_both 22 = .ok (.iconst 1, 1) := by decide +kernel
theorem dL_both_23 : decode cL_both 23 = .ok (.ireturn, 1) := by decide +kernel
theorem dL_both_24 : decode cL_both 24 = .ok (.iconst 0, 1) := by decide +kernel
theorem dL_both_25 : decode cL_both 25 = .ok (.ireturn, 1) := by decide +kernel
theorem dL_order_0 : decode cL_order 0 = .ok (.aload_n 2, 1) := by decide +kernel
theorem dL_order_1 : decode cL_order 1 = .ok (.iconst 0, 1) := by decide +kernel
theorem dL_order_2 : decode cL_order 2 = .ok (.aload_n 0, 1) := by decide +kernel
theorem dL_order_3 : decode cL_order 3 = .ok (.iload_n 1, 1) := by decide +kernel
theorem dL_order_4 : decode cL_order 4 = .ok (.invokevirtual 44, 3) := by decide +kernel
theorem dL_order_7 : decode cL_order 7 = .ok (.i2l, 1) := by decide +kernel
theorem dL_order_8 : decode cL_order 8 = .ok (.lastore, 1) := by decide +kernel
theorem dL_order_9 : decode cL_order 9 = .ok (.goto 6, 3) := by decide +kernel
theorem dL_order_12 : decode cL_order 12 = .ok (.astore_n 3, 1) := by decide +kernel
theorem dL_order_13 : decode cL_order 13 = .ok (.iconst 1, 1) := by decide +kernel
theorem dL_order_14 : decode cL_order 14 = .ok (.ireturn, 1) := by decide +kernel
theorem dL_order_15 : decode cL_order 15 = .ok (.iconst 0, 1) := by decide +kernel
theorem dL_order_16 : decode cL_order 16 = .ok (.ireturn, 1) := by decide +kernel
theorem dL_log_0 : decode cL_log 0 = .ok (.aload_n 3, 1) := by decide +kernel
theorem dL_log_1 : decode cL_log 1 = .ok (.iconst 0, 1) := by decide +kernel
theorem dL_log_2 : decode cL_log 2 = .ok (.aload_n 0, 1) := by decide +kernel
theorem dL_log_3 : decode cL_log 3 = .ok (.iload_n 1, 1) := by decide +kernel
theorem dL_log_4 : decode cL_log 4 = .ok (.iload_n 2, 1) := by decide +kernel
theorem dL_log_5 : decode cL_log 5 = .ok (.invokevirtual 47, 3) := by decide +kernel
theorem dL_log_8 : decode cL_log 8 = .ok (.i2l, 1) := by decide +kernel
theorem dL_log_9 : decode cL_log 9 = .ok (.lastore, 1) := by decide +kernel
theorem dL_log_10 : decode cL_log 10 = .ok (.goto 7, 3) := by decide +kernel
theorem dL_log_13 : decode cL_log 13 = .ok (.astore 4, 2) := by decide +kernel
theorem dL_log_15 : decode cL_log 15 = .ok (.iconst 1, 1) := by decide +kernel
theorem dL_log_16 : decode cL_log 16 = .ok (.ireturn, 1) := by decide +kernel
theorem dL_log_17 : decode cL_log 17 = .ok (.iconst 0, 1) := by decide +kernel
theorem dL_log_18 : decode cL_log 18 = .ok (.ireturn, 1) := by decide +kernel
theorem dL_half_0 : decode cL_half 0 = .ok (.aload_n 3, 1) := by decide +kernel
theorem dL_half_1 : decode cL_half 1 = .ok (.iconst 0, 1) := by decide +kernel
theorem dL_half_2 : decode cL_half 2 = .ok (.aload_n 0, 1) := by decide +kernel
theorem dL_half_3 : decode cL_half 3 = .ok (.iload_n 1, 1) := by decide +kernel
theorem dL_half_4 : decode cL_half 4 = .ok (.iload_n 2, 1) := by decide +kernel
theorem dL_half_5 : decode cL_half 5 = .ok (.invokevirtual 51, 3) := by decide +kernel
theorem dL_half_8 : decode cL_half 8 = .ok (.i2l, 1) := by decide +kernel
theorem dL_half_9 : decode cL_half 9 = .ok (.lastore, 1) := by decide +kernel
theorem dL_half_10 : decode cL_half 10 = .ok (.goto 7, 3) := by decide +kernel
theorem dL_half_13 : decode cL_half 13 = .ok (.astore 4, 2) := by decide +kernel
theorem dL_half_15 : decode cL_half 15 = .ok (.iconst 1, 1) := by decide +kernel
theorem dL_half_16 : decode cL_half 16 = .ok (.ireturn, 1) := by decide +kernel
theorem dL_half_17 : decode cL_half 17 = .ok (.iconst 0, 1) := by decide +kernel
theorem dL_half_18 : decode cL_half 18 = .ok (.ireturn, 1) := by decide +kernel
theorem dL_sign_0 : decode cL_sign 0 = .ok (.aload 4, 2) := by decide +kernel
theorem dL_sign_2 : decode cL_sign 2 = .ok (.iconst 0, 1) := by decide +kernel
theorem dL_sign_3 : decode cL_sign 3 = .ok (.aload_n 0, 1) := by decide +kernel
theorem dL_sign_4 : decode cL_sign 4 = .ok (.iload_n 1, 1) := by decide +kernel
theorem dL_sign_5 : decode cL_sign 5 = .ok (.iload_n 2, 1) := by decide +kernel
theorem dL_sign_6 : decode cL_sign 6 = .ok (.iload_n 3, 1) := by decide +kernel
theorem dL_sign_7 : decode cL_sign 7 = .ok (.invokevirtual 54, 3) := by decide +kernel
theorem dL_sign_10 : decode cL_sign 10 = .ok (.lastore, 1) := by decide +kernel
theorem dL_sign_11 : decode cL_sign 11 = .ok (.goto 15, 3) := by decide +kernel
theorem dL_sign_14 : decode cL_sign 14 = .ok (.astore 5, 2) := by decide +kernel
theorem dL_sign_16 : decode cL_sign 16 = .ok (.iconst 1, 1) := by decide +kernel
theorem dL_sign_17 : decode cL_sign 17 = .ok (.ireturn, 1) := by decide +kernel
theorem dL_sign_18 : decode cL_sign 18 = .ok (.astore 5, 2) := by decide +kernel
theorem dL_sign_20 : decode cL_sign 20 = .ok (.iconst 2, 1) := by decide +kernel
theorem dL_sign_21 : decode cL_sign 21 = .ok (.ireturn, 1) := by decide +kernel
theorem dL_sign_22 : decode cL_sign 22 = .ok (.astore 5, 2) := by decide +kernel
theorem dL_sign_24 : decode cL_sign 24 = .ok (.iconst 3, 1) := by decide +kernel
theorem dL_sign_25 : decode cL_sign 25 = .ok (.ireturn, 1) := by decide +kernel
theorem dL_sign_26 : decode cL_sign 26 = .ok (.iconst 0, 1) := by decide +kernel
theorem dL_sign_27 : decode cL_sign 27 = .ok (.ireturn, 1) := by decide +kernel
theorem dL_verify_0 : decode cL_verify 0 = .ok (.aload 6, 2) := by decide +kernel
theorem dL_verify_2 : decode cL_verify 2 = .ok (.iconst 0, 1) := by decide +kernel
theorem dL_verify_3 : decode cL_verify 3 = .ok (.aload_n 0, 1) := by decide +kernel
theorem dL_verify_4 : decode cL_verify 4 = .ok (.iload_n 1, 1) := by decide +kernel
theorem dL_verify_5 : decode cL_verify 5 = .ok (.iload_n 2, 1) := by decide +kernel
theorem dL_verify_6 : decode cL_verify 6 = .ok (.iload_n 3, 1) := by decide +kernel
theorem dL_verify_7 : decode cL_verify 7 = .ok (.lload 4, 2) := by decide +kernel
theorem dL_verify_9 : decode cL_verify 9 = .ok (.invokevirtual 60, 3) := by decide +kernel
theorem dL_verify_12 : decode cL_verify 12 = .ok (.ifCond .eq 7, 3) := by decide +kernel
theorem dL_verify_15 : decode cL_verify 15 = .ok (.lconst 1, 1) := by decide +kernel
theorem dL_verify_16 : decode cL_verify 16 = .ok (.goto 4, 3) := by decide +kernel
theorem dL_verify_19 : decode cL_verify 19 = .ok (.lconst 0, 1) := by decide +kernel
theorem dL_verify_20 : decode cL_verify 20 = .ok (.lastore, 1) := by decide +kernel
theorem dL_verify_21 : decode cL_verify 21 = .ok (.goto 11, 3) := by decide +kernel
theorem dL_verify_24 : decode cL_verify 24 = .ok (.astore 7, 2) := by decide +kernel
theorem dL_verify_26 : decode cL_verify 26 = .ok (.iconst 1, 1) := by decide +kernel
theorem dL_verify_27 : decode cL_verify 27 = .ok (.ireturn, 1) := by decide +kernel
theorem dL_verify_28 : decode cL_verify 28 = .ok (.astore 7, 2) := by decide +kernel
theorem dL_verify_30 : decode cL_verify 30 = .ok (.iconst 2, 1) := by decide +kernel
theorem dL_verify_31 : decode cL_verify 31 = .ok (.ireturn, 1) := by decide +kernel
theorem dL_verify_32 : decode cL_verify 32 = .ok (.iconst 0, 1) := by decide +kernel
theorem dL_verify_33 : decode cL_verify 33 = .ok (.ireturn, 1) := by decide +kernel
theorem dL_law_0 : decode cLaw 0 = .ok (.new 8, 3) := by decide +kernel
theorem dL_law_3 : decode cLaw 3 = .ok (.dup, 1) := by decide +kernel
theorem dL_law_4 : decode cLaw 4 = .ok (.invokespecial 64, 3) := by decide +kernel
theorem dL_law_7 : decode cLaw 7 = .ok (.astore_n 1, 1) := by decide +kernel
theorem dL_law_8 : decode cLaw 8 = .ok (.new 65, 3) := by decide +kernel
theorem dL_law_11 : decode cLaw 11 = .ok (.dup, 1) := by decide +kernel
theorem dL_law_12 : decode cLaw 12 = .ok (.invokespecial 67, 3) := by decide +kernel
theorem dL_law_15 : decode cLaw 15 = .ok (.astore_n 2, 1) := by decide +kernel
theorem dL_law_16 : decode cLaw 16 = .ok (.iconst 1, 1) := by decide +kernel
theorem dL_law_17 : decode cLaw 17 = .ok (.newarray .long, 2) := by decide +kernel
theorem dL_law_19 : decode cLaw 19 = .ok (.astore_n 3, 1) := by decide +kernel
theorem dL_law_20 : decode cLaw 20 = .ok (.iconst 0, 1) := by decide +kernel
theorem dL_law_21 : decode cLaw 21 = .ok (.istore 4, 2) := by decide +kernel
theorem dL_law_23 : decode cLaw 23 = .ok (.iload 4, 2) := by decide +kernel
theorem dL_law_25 : decode cLaw 25 = .ok (.aload_n 0, 1) := by decide +kernel
theorem dL_law_26 : decode cLaw 26 = .ok (.arraylength, 1) := by decide +kernel
theorem dL_law_27 : decode cLaw 27 = .ok (.bipush 8, 2) := by decide +kernel
theorem dL_law_29 : decode cLaw 29 = .ok (.isub, 1) := by decide +kernel
theorem dL_law_30 : decode cLaw 30 = .ok (.if_icmp .gt 1245, 3) := by decide +kernel
theorem dL_law_33 : decode cLaw 33 = .ok (.aload_n 0, 1) := by decide +kernel
theorem dL_law_34 : decode cLaw 34 = .ok (.iload 4, 2) := by decide +kernel
theorem dL_law_36 : decode cLaw 36 = .ok (.iaload, 1) := by decide +kernel
theorem dL_law_37 : decode cLaw 37 = .ok (.bipush 15, 2) := by decide +kernel
theorem dL_law_39 : decode cLaw 39 = .ok (.iand, 1) := by decide +kernel
theorem dL_law_40 : decode cLaw 40 = .ok (.tableswitch 1229 0 15 #[80, 136, 196, 244, 300, 384, 492, 604, 776, 832, 845, 858, 926, 994, 1073, 1204], 80) := by decide +kernel
theorem dL_law_120 : decode cLaw 120 = .ok (.aload_n 1, 1) := by decide +kernel
theorem dL_law_121 : decode cLaw 121 = .ok (.aload_n 0, 1) := by decide +kernel
theorem dL_law_122 : decode cLaw 122 = .ok (.iload 4, 2) := by decide +kernel
theorem dL_law_124 : decode cLaw 124 = .ok (.iconst 1, 1) := by decide +kernel
theorem dL_law_125 : decode cLaw 125 = .ok (.iadd, 1) := by decide +kernel
theorem dL_law_126 : decode cLaw 126 = .ok (.iaload, 1) := by decide +kernel
theorem dL_law_127 : decode cLaw 127 = .ok (.aload_n 3, 1) := by decide +kernel
theorem dL_law_128 : decode cLaw 128 = .ok (.invokestatic 68, 3) := by decide +kernel
theorem dL_law_131 : decode cLaw 131 = .ok (.istore 5, 2) := by decide +kernel
theorem dL_law_133 : decode cLaw 133 = .ok (.aload_n 2, 1) := by decide +kernel
theorem dL_law_134 : decode cLaw 134 = .ok (.aload_n 0, 1) := by decide +kernel
theorem dL_law_135 : decode cLaw 135 = .ok (.iload 4, 2) := by decide +kernel
theorem dL_law_137 : decode cLaw 137 = .ok (.iconst 1, 1) := by decide +kernel
theorem dL_law_138 : decode cLaw 138 = .ok (.iadd, 1) := by decide +kernel
theorem dL_law_139 : decode cLaw 139 = .ok (.iaload, 1) := by decide +kernel
theorem dL_law_140 : decode cLaw 140 = .ok (.invokevirtual 73, 3) := by decide +kernel
theorem dL_law_143 : decode cLaw 143 = .ok (.istore 6, 2) := by decide +kernel
theorem dL_law_145 : decode cLaw 145 = .ok (.aload_n 2, 1) := by decide +kernel
theorem dL_law_146 : decode cLaw 146 = .ok (.invokevirtual 74, 3) := by decide +kernel
theorem dL_law_149 : decode cLaw 149 = .ok (.iload 5, 2) := by decide +kernel
theorem dL_law_151 : decode cLaw 151 = .ok (.if_icmp .eq 5, 3) := by decide +kernel
theorem dL_law_154 : decode cLaw 154 = .ok (.iconst 0, 1) := by decide +kernel
theorem dL_law_155 : decode cLaw 155 = .ok (.ireturn, 1) := by decide +kernel
theorem dL_law_156 : decode cLaw 156 = .ok (.iload 5, 2) := by decide +kernel
theorem dL_law_158 : decode cLaw 158 = .ok (.ifCond .ne 15, 3) := by decide +kernel
theorem dL_law_161 : decode cLaw 161 = .ok (.aload_n 3, 1) := by decide +kernel
theorem dL_law_162 : decode cLaw 162 = .ok (.iconst 0, 1) := by decide +kernel
theorem dL_law_163 : decode cLaw 163 = .ok (.laload, 1) := by decide +kernel
theorem dL_law_164 : decode cLaw 164 = .ok (.iload 6, 2) := by decide +kernel
theorem dL_law_166 : decode cLaw 166 = .ok (.i2l, 1) := by decide +kernel
theorem dL_law_167 : decode cLaw 167 = .ok (.lcmp, 1) := by decide +kernel
theorem dL_law_168 : decode cLaw 168 = .ok (.ifCond .eq 5, 3) := by decide +kernel
theorem dL_law_171 : decode cLaw 171 = .ok (.iconst 0, 1) := by decide +kernel
theorem dL_law_172 : decode cLaw 172 = .ok (.ireturn, 1) := by decide +kernel
theorem dL_law_173 : decode cLaw 173 = .ok (.goto 1096, 3) := by decide +kernel
theorem dL_law_176 : decode cLaw 176 = .ok (.aload_n 1, 1) := by decide +kernel
theorem dL_law_177 : decode cLaw 177 = .ok (.aload_n 0, 1) := by decide +kernel
theorem dL_law_178 : decode cLaw 178 = .ok (.iload 4, 2) := by decide +kernel
theorem dL_law_180 : decode cLaw 180 = .ok (.iconst 1, 1) := by decide +kernel
theorem dL_law_181 : decode cLaw 181 = .ok (.iadd, 1) := by decide +kernel
theorem dL_law_182 : decode cLaw 182 = .ok (.iaload, 1) := by decide +kernel
theorem dL_law_183 : decode cLaw 183 = .ok (.aload_n 0, 1) := by decide +kernel
theorem dL_law_184 : decode cLaw 184 = .ok (.iload 4, 2) := by decide +kernel
theorem dL_law_186 : decode cLaw 186 = .ok (.iconst 2, 1) := by decide +kernel
theorem dL_law_187 : decode cLaw 187 = .ok (.iadd, 1) := by decide +kernel
theorem dL_law_188 : decode cLaw 188 = .ok (.iaload, 1) := by decide +kernel
theorem dL_law_189 : decode cLaw 189 = .ok (.aload_n 0, 1) := by decide +kernel
theorem dL_law_190 : decode cLaw 190 = .ok (.iload 4, 2) := by decide +kernel
theorem dL_law_192 : decode cLaw 192 = .ok (.iconst 3, 1) := by decide +kernel
theorem dL_law_193 : decode cLaw 193 = .ok (.iadd, 1) := by decide +kernel
theorem dL_law_194 : decode cLaw 194 = .ok (.iaload, 1) := by decide +kernel
theorem dL_law_195 : decode cLaw 195 = .ok (.invokestatic 78, 3) := by decide +kernel
theorem dL_law_198 : decode cLaw 198 = .ok (.istore 5, 2) := by decide +kernel
theorem dL_law_200 : decode cLaw 200 = .ok (.aload_n 2, 1) := by decide +kernel
theorem dL_law_201 : decode cLaw 201 = .ok (.aload_n 0, 1) := by decide +kernel
theorem dL_law_202 : decode cLaw 202 = .ok (.iload 4, 2) := by decide +kernel
theorem dL_law_204 : decode cLaw 204 = .ok (.iconst 1, 1) := by decide +kernel
theorem dL_law_205 : decode cLaw 205 = .ok (.iadd, 1) := by decide +kernel
theorem dL_law_206 : decode cLaw 206 = .ok (.iaload, 1) := by decide +kernel
theorem dL_law_207 : decode cLaw 207 = .ok (.aload_n 0, 1) := by decide +kernel
theorem dL_law_208 : decode cLaw 208 = .ok (.iload 4, 2) := by decide +kernel
theorem dL_law_210 : decode cLaw 210 = .ok (.iconst 2, 1) := by decide +kernel
theorem dL_law_211 : decode cLaw 211 = .ok (.iadd, 1) := by decide +kernel
theorem dL_law_212 : decode cLaw 212 = .ok (.iaload, 1) := by decide +kernel
theorem dL_law_213 : decode cLaw 213 = .ok (.aload_n 0, 1) := by decide +kernel
theorem dL_law_214 : decode cLaw 214 = .ok (.iload 4, 2) := by decide +kernel
theorem dL_law_216 : decode cLaw 216 = .ok (.iconst 3, 1) := by decide +kernel
theorem dL_law_217 : decode cLaw 217 = .ok (.iadd, 1) := by decide +kernel
theorem dL_law_218 : decode cLaw 218 = .ok (.iaload, 1) := by decide +kernel
theorem dL_law_219 : decode cLaw 219 = .ok (.invokevirtual 81, 3) := by decide +kernel
theorem dL_law_222 : decode cLaw 222 = .ok (.aload_n 2, 1) := by decide +kernel
theorem dL_law_223 : decode cLaw 223 = .ok (.invokevirtual 74, 3) := by decide +kernel
theorem dL_law_226 : decode cLaw 226 = .ok (.iload 5, 2) := by decide +kernel
theorem dL_law_228 : decode cLaw 228 = .ok (.if_icmp .eq 5, 3) := by decide +kernel
theorem dL_law_231 : decode cLaw 231 = .ok (.iconst 0, 1) := by decide +kernel
theorem dL_law_232 : decode cLaw 232 = .ok (.ireturn, 1) := by decide +kernel
theorem dL_law_233 : decode cLaw 233 = .ok (.goto 1036, 3) := by decide +kernel
theorem dL_law_236 : decode cLaw 236 = .ok (.aload_n 1, 1) := by decide +kernel
theorem dL_law_237 : decode cLaw 237 = .ok (.aload_n 0, 1) := by decide +kernel
theorem dL_law_238 : decode cLaw 238 = .ok (.iload 4, 2) := by decide +kernel
theorem dL_law_240 : decode cLaw 240 = .ok (.iconst 1, 1) := by decide +kernel
theorem dL_law_241 : decode cLaw 241 = .ok (.iadd, 1) := by decide +kernel
theorem dL_law_242 : decode cLaw 242 = .ok (.iaload, 1) := by decide +kernel
theorem dL_law_243 : decode cLaw 243 = .ok (.aload_n 0, 1) := by decide +kernel
theorem dL_law_244 : decode cLaw 244 = .ok (.iload 4, 2) := by decide +kernel
theorem dL_law_246 : decode cLaw 246 = .ok (.iconst 2, 1) := by decide +kernel
theorem dL_law_247 : decode cLaw 247 = .ok (.iadd, 1) := by decide +kernel
theorem dL_law_248 : decode cLaw 248 = .ok (.iaload, 1) := by decide +kernel
theorem dL_law_249 : decode cLaw 249 = .ok (.invokestatic 82, 3) := by decide +kernel
theorem dL_law_252 : decode cLaw 252 = .ok (.istore 5, 2) := by decide +kernel
theorem dL_law_254 : decode cLaw 254 = .ok (.aload_n 2, 1) := by decide +kernel
theorem dL_law_255 : decode cLaw 255 = .ok (.aload_n 0, 1) := by decide +kernel
theorem dL_law_256 : decode cLaw 256 = .ok (.iload 4, 2) := by decide +kernel
theorem dL_law_258 : decode cLaw 258 = .ok (.iconst 1, 1) := by decide +kernel
theorem dL_law_259 : decode cLaw 259 = .ok (.iadd, 1) := by decide +kernel
theorem dL_law_260 : decode cLaw 260 = .ok (.iaload, 1) := by decide +kernel
theorem dL_law_261 : decode cLaw 261 = .ok (.aload_n 0, 1) := by decide +kernel
theorem dL_law_262 : decode cLaw 262 = .ok (.iload 4, 2) := by decide +kernel
theorem dL_law_264 : decode cLaw 264 = .ok (.iconst 2, 1) := by decide +kernel
theorem dL_law_265 : decode cLaw 265 = .ok (.iadd, 1) := by decide +kernel
theorem dL_law_266 : decode cLaw 266 = .ok (.iaload, 1) := by decide +kernel
theorem dL_law_267 : decode cLaw 267 = .ok (.invokevirtual 85, 3) := by decide +kernel
theorem dL_law_270 : decode cLaw 270 = .ok (.aload_n 2, 1) := by decide +kernel
theorem dL_law_271 : decode cLaw 271 = .ok (.invokevirtual 74, 3) := by decide +kernel
theorem dL_law_274 : decode cLaw 274 = .ok (.iload 5, 2) := by decide +kernel
theorem dL_law_276 : decode cLaw 276 = .ok (.if_icmp .eq 5, 3) := by decide +kernel
theorem dL_law_279 : decode cLaw 279 = .ok (.iconst 0, 1) := by decide +kernel
theorem dL_law_280 : decode cLaw 280 = .ok (.ireturn, 1) := by decide +kernel
theorem dL_law_281 : decode cLaw 281 = .ok (.goto 988, 3) := by decide +kernel
theorem dL_law_284 : decode cLaw 284 = .ok (.aload_n 1, 1) := by decide +kernel
theorem dL_law_285 : decode cLaw 285 = .ok (.aload_n 0, 1) := by decide +kernel
theorem dL_law_286 : decode cLaw 286 = .ok (.iload 4, 2) := by decide +kernel
theorem dL_law_288 : decode cLaw 288 = .ok (.iconst 1, 1) := by decide +kernel
theorem dL_law_289 : decode cLaw 289 = .ok (.iadd, 1) := by decide +kernel
theorem dL_law_290 : decode cLaw 290 = .ok (.iaload, 1) := by decide +kernel
theorem dL_law_291 : decode cLaw 291 = .ok (.aload_n 3, 1) := by decide +kernel
theorem dL_law_292 : decode cLaw 292 = .ok (.invokestatic 86, 3) := by decide +kernel
theorem dL_law_295 : decode cLaw 295 = .ok (.istore 5, 2) := by decide +kernel
theorem dL_law_297 : decode cLaw 297 = .ok (.aload_n 2, 1) := by decide +kernel
theorem dL_law_298 : decode cLaw 298 = .ok (.aload_n 0, 1) := by decide +kernel
theorem dL_law_299 : decode cLaw 299 = .ok (.iload 4, 2) := by decide +kernel
theorem dL_law_301 : decode cLaw 301 = .ok (.iconst 1, 1) := by decide +kernel
theorem dL_law_302 : decode cLaw 302 = .ok (.iadd, 1) := by decide +kernel
theorem dL_law_303 : decode cLaw 303 = .ok (.iaload, 1) := by decide +kernel
theorem dL_law_304 : decode cLaw 304 = .ok (.invokevirtual 88, 3) := by decide +kernel
theorem dL_law_307 : decode cLaw 307 = .ok (.istore 6, 2) := by decide +kernel
theorem dL_law_309 : decode cLaw 309 = .ok (.aload_n 2, 1) := by decide +kernel
theorem dL_law_310 : decode cLaw 310 = .ok (.invokevirtual 74, 3) := by decide +kernel
theorem dL_law_313 : decode cLaw 313 = .ok (.iload 5, 2) := by decide +kernel
theorem dL_law_315 : decode cLaw 315 = .ok (.if_icmp .eq 5, 3) := by decide +kernel
theorem dL_law_318 : decode cLaw 318 = .ok (.iconst 0, 1) := by decide +kernel
theorem dL_law_319 : decode cLaw 319 = .ok (.ireturn, 1) := by decide +kernel
theorem dL_law_320 : decode cLaw 320 = .ok (.iload 5, 2) := by decide +kernel
theorem dL_law_322 : decode cLaw 322 = .ok (.ifCond .ne 15, 3) := by decide +kernel
theorem dL_law_325 : decode cLaw 325 = .ok (.aload_n 3, 1) := by decide +kernel
theorem dL_law_326 : decode cLaw 326 = .ok (.iconst 0, 1) := by decide +kernel
theorem dL_law_327 : decode cLaw 327 = .ok (.laload, 1) := by decide +kernel
theorem dL_law_328 : decode cLaw 328 = .ok (.iload 6, 2) := by decide +kernel
theorem dL_law_330 : decode cLaw 330 = .ok (.i2l, 1) := by decide +kernel
theorem dL_law_331 : decode cLaw 331 = .ok (.lcmp, 1) := by decide +kernel
theorem dL_law_332 : decode cLaw 332 = .ok (.ifCond .eq 5, 3) := by decide +kernel
theorem dL_law_335 : decode cLaw 335 = .ok (.iconst 0, 1) := by decide +kernel
theorem dL_law_336 : decode cLaw 336 = .ok (.ireturn, 1) := by decide +kernel
theorem dL_law_337 : decode cLaw 337 = .ok (.goto 932, 3) := by decide +kernel
theorem dL_law_340 : decode cLaw 340 = .ok (.aload_n 1, 1) := by decide +kernel
theorem dL_law_341 : decode cLaw 341 = .ok (.aload_n 0, 1) := by decide +kernel
theorem dL_law_342 : decode cLaw 342 = .ok (.iload 4, 2) := by decide +kernel
theorem dL_law_344 : decode cLaw 344 = .ok (.iconst 1, 1) := by decide +kernel
theorem dL_law_345 : decode cLaw 345 = .ok (.iadd, 1) := by decide +kernel
theorem dL_law_346 : decode cLaw 346 = .ok (.iaload, 1) := by decide +kernel
theorem dL_law_347 : decode cLaw 347 = .ok (.aload_n 0, 1) := by decide +kernel
theorem dL_law_348 : decode cLaw 348 = .ok (.iload 4, 2) := by decide +kernel
theorem dL_law_350 : decode cLaw 350 = .ok (.iconst 2, 1) := by decide +kernel
theorem dL_law_351 : decode cLaw 351 = .ok (.iadd, 1) := by decide +kernel
theorem dL_law_352 : decode cLaw 352 = .ok (.iaload, 1) := by decide +kernel
theorem dL_law_353 : decode cLaw 353 = .ok (.ifCond .eq 7, 3) := by decide +kernel
theorem dL_law_356 : decode cLaw 356 = .ok (.iconst 1, 1) := by decide +kernel
theorem dL_law_357 : decode cLaw 357 = .ok (.goto 4, 3) := by decide +kernel
theorem dL_law_360 : decode cLaw 360 = .ok (.iconst 0, 1) := by decide +kernel
theorem dL_law_361 : decode cLaw 361 = .ok (.aload_n 3, 1) := by decide +kernel
theorem dL_law_362 : decode cLaw 362 = .ok (.invokestatic 89, 3) := by decide +kernel
theorem dL_law_365 : decode cLaw 365 = .ok (.istore 5, 2) := by decide +kernel
theorem dL_law_367 : decode cLaw 367 = .ok (.aload_n 2, 1) := by decide +kernel
theorem dL_law_368 : decode cLaw 368 = .ok (.aload_n 0, 1) := by decide +kernel
theorem dL_law_369 : decode cLaw 369 = .ok (.iload 4, 2) := by decide +kernel
theorem dL_law_371 : decode cLaw 371 = .ok (.iconst 1, 1) := by decide +kernel
theorem dL_law_372 : decode cLaw 372 = .ok (.iadd, 1) := by decide +kernel
theorem dL_law_373 : decode cLaw 373 = .ok (.iaload, 1) := by decide +kernel
theorem dL_law_374 : decode cLaw 374 = .ok (.aload_n 0, 1) := by decide +kernel
theorem dL_law_375 : decode cLaw 375 = .ok (.iload 4, 2) := by decide +kernel
theorem dL_law_377 : decode cLaw 377 = .ok (.iconst 2, 1) := by decide +kernel
theorem dL_law_378 : decode cLaw 378 = .ok (.iadd, 1) := by decide +kernel
theorem dL_law_379 : decode cLaw 379 = .ok (.iaload, 1) := by decide +kernel
theorem dL_law_380 : decode cLaw 380 = .ok (.ifCond .eq 7, 3) := by decide +kernel
theorem dL_law_383 : decode cLaw 383 = .ok (.iconst 1, 1) := by decide +kernel
theorem dL_law_384 : decode cLaw 384 = .ok (.goto 4, 3) := by decide +kernel
theorem dL_law_387 : decode cLaw 387 = .ok (.iconst 0, 1) := by decide +kernel
theorem dL_law_388 : decode cLaw 388 = .ok (.invokevirtual 92, 3) := by decide +kernel
theorem dL_law_391 : decode cLaw 391 = .ok (.istore 6, 2) := by decide +kernel
theorem dL_law_393 : decode cLaw 393 = .ok (.aload_n 2, 1) := by decide +kernel
theorem dL_law_394 : decode cLaw 394 = .ok (.invokevirtual 74, 3) := by decide +kernel
theorem dL_law_397 : decode cLaw 397 = .ok (.iload 5, 2) := by decide +kernel
theorem dL_law_399 : decode cLaw 399 = .ok (.if_icmp .eq 5, 3) := by decide +kernel
theorem dL_law_402 : decode cLaw 402 = .ok (.iconst 0, 1) := by decide +kernel
theorem dL_law_403 : decode cLaw 403 = .ok (.ireturn, 1) := by decide +kernel
theorem dL_law_404 : decode cLaw 404 = .ok (.iload 5, 2) := by decide +kernel
theorem dL_law_406 : decode cLaw 406 = .ok (.ifCond .ne 15, 3) := by decide +kernel
theorem dL_law_409 : decode cLaw 409 = .ok (.aload_n 3, 1) := by decide +kernel
theorem dL_law_410 : decode cLaw 410 = .ok (.iconst 0, 1) := by decide +kernel
theorem dL_law_411 : decode cLaw 411 = .ok (.laload, 1) := by decide +kernel
theorem dL_law_412 : decode cLaw 412 = .ok (.iload 6, 2) := by decide +kernel
theorem dL_law_414 : decode cLaw 414 = .ok (.i2l, 1) := by decide +kernel
theorem dL_law_415 : decode cLaw 415 = .ok (.lcmp, 1) := by decide +kernel
theorem dL_law_416 : decode cLaw 416 = .ok (.ifCond .eq 5, 3) := by decide +kernel
theorem dL_law_419 : decode cLaw 419 = .ok (.iconst 0, 1) := by decide +kernel
theorem dL_law_420 : decode cLaw 420 = .ok (.ireturn, 1) := by decide +kernel
theorem dL_law_421 : decode cLaw 421 = .ok (.goto 848, 3) := by decide +kernel
theorem dL_law_424 : decode cLaw 424 = .ok (.aload_n 1, 1) := by decide +kernel
theorem dL_law_425 : decode cLaw 425 = .ok (.aload_n 0, 1) := by decide +kernel
theorem dL_law_426 : decode cLaw 426 = .ok (.iload 4, 2) := by decide +kernel
theorem dL_law_428 : decode cLaw 428 = .ok (.iconst 1, 1) := by decide +kernel
theorem dL_law_429 : decode cLaw 429 = .ok (.iadd, 1) := by decide +kernel
theorem dL_law_430 : decode cLaw 430 = .ok (.iaload, 1) := by decide +kernel
theorem dL_law_431 : decode cLaw 431 = .ok (.aload_n 0, 1) := by decide +kernel
theorem dL_law_432 : decode cLaw 432 = .ok (.iload 4, 2) := by decide +kernel
theorem dL_law_434 : decode cLaw 434 = .ok (.iconst 2, 1) := by decide +kernel
theorem dL_law_435 : decode cLaw 435 = .ok (.iadd, 1) := by decide +kernel
theorem dL_law_436 : decode cLaw 436 = .ok (.iaload, 1) := by decide +kernel
theorem dL_law_437 : decode cLaw 437 = .ok (.aload_n 0, 1) := by decide +kernel
theorem dL_law_438 : decode cLaw 438 = .ok (.iload 4, 2) := by decide +kernel
theorem dL_law_440 : decode cLaw 440 = .ok (.iconst 3, 1) := by decide +kernel
theorem dL_law_441 : decode cLaw 441 = .ok (.iadd, 1) := by decide +kernel
theorem dL_law_442 : decode cLaw 442 = .ok (.iaload, 1) := by decide +kernel
theorem dL_law_443 : decode cLaw 443 = .ok (.aload_n 0, 1) := by decide +kernel
theorem dL_law_444 : decode cLaw 444 = .ok (.iload 4, 2) := by decide +kernel
theorem dL_law_446 : decode cLaw 446 = .ok (.iconst 4, 1) := by decide +kernel
theorem dL_law_447 : decode cLaw 447 = .ok (.iadd, 1) := by decide +kernel
theorem dL_law_448 : decode cLaw 448 = .ok (.iaload, 1) := by decide +kernel
theorem dL_law_449 : decode cLaw 449 = .ok (.ifCond .eq 7, 3) := by decide +kernel
theorem dL_law_452 : decode cLaw 452 = .ok (.iconst 1, 1) := by decide +kernel
theorem dL_law_453 : decode cLaw 453 = .ok (.goto 4, 3) := by decide +kernel
theorem dL_law_456 : decode cLaw 456 = .ok (.iconst 0, 1) := by decide +kernel
theorem dL_law_457 : decode cLaw 457 = .ok (.aload_n 3, 1) := by decide +kernel
theorem dL_law_458 : decode cLaw 458 = .ok (.invokestatic 93, 3) := by decide +kernel
theorem dL_law_461 : decode cLaw 461 = .ok (.istore 5, 2) := by decide +kernel
theorem dL_law_463 : decode cLaw 463 = .ok (.aload_n 2, 1) := by decide +kernel
theorem dL_law_464 : decode cLaw 464 = .ok (.aload_n 0, 1) := by decide +kernel
theorem dL_law_465 : decode cLaw 465 = .ok (.iload 4, 2) := by decide +kernel
theorem dL_law_467 : decode cLaw 467 = .ok (.iconst 1, 1) := by decide +kernel
theorem dL_law_468 : decode cLaw 468 = .ok (.iadd, 1) := by decide +kernel
theorem dL_law_469 : decode cLaw 469 = .ok (.iaload, 1) := by decide +kernel
theorem dL_law_470 : decode cLaw 470 = .ok (.aload_n 0, 1) := by decide +kernel
theorem dL_law_471 : decode cLaw 471 = .ok (.iload 4, 2) := by decide +kernel
theorem dL_law_473 : decode cLaw 473 = .ok (.iconst 2, 1) := by decide +kernel
theorem dL_law_474 : decode cLaw 474 = .ok (.iadd, 1) := by decide +kernel
theorem dL_law_475 : decode cLaw 475 = .ok (.iaload, 1) := by decide +kernel
theorem dL_law_476 : decode cLaw 476 = .ok (.aload_n 0, 1) := by decide +kernel
theorem dL_law_477 : decode cLaw 477 = .ok (.iload 4, 2) := by decide +kernel
theorem dL_law_479 : decode cLaw 479 = .ok (.iconst 3, 1) := by decide +kernel
theorem dL_law_480 : decode cLaw 480 = .ok (.iadd, 1) := by decide +kernel
theorem dL_law_481 : decode cLaw 481 = .ok (.iaload, 1) := by decide +kernel
theorem dL_law_482 : decode cLaw 482 = .ok (.aload_n 0, 1) := by decide +kernel
theorem dL_law_483 : decode cLaw 483 = .ok (.iload 4, 2) := by decide +kernel
theorem dL_law_485 : decode cLaw 485 = .ok (.iconst 4, 1) := by decide +kernel
theorem dL_law_486 : decode cLaw 486 = .ok (.iadd, 1) := by decide +kernel
theorem dL_law_487 : decode cLaw 487 = .ok (.iaload, 1) := by decide +kernel
theorem dL_law_488 : decode cLaw 488 = .ok (.ifCond .eq 7, 3) := by decide +kernel
theorem dL_law_491 : decode cLaw 491 = .ok (.iconst 1, 1) := by decide +kernel
theorem dL_law_492 : decode cLaw 492 = .ok (.goto 4, 3) := by decide +kernel
theorem dL_law_495 : decode cLaw 495 = .ok (.iconst 0, 1) := by decide +kernel
theorem dL_law_496 : decode cLaw 496 = .ok (.invokevirtual 96, 3) := by decide +kernel
theorem dL_law_499 : decode cLaw 499 = .ok (.istore 6, 2) := by decide +kernel
theorem dL_law_501 : decode cLaw 501 = .ok (.aload_n 2, 1) := by decide +kernel
theorem dL_law_502 : decode cLaw 502 = .ok (.invokevirtual 74, 3) := by decide +kernel
theorem dL_law_505 : decode cLaw 505 = .ok (.iload 5, 2) := by decide +kernel
theorem dL_law_507 : decode cLaw 507 = .ok (.if_icmp .eq 5, 3) := by decide +kernel
theorem dL_law_510 : decode cLaw 510 = .ok (.iconst 0, 1) := by decide +kernel
theorem dL_law_511 : decode cLaw 511 = .ok (.ireturn, 1) := by decide +kernel
theorem dL_law_512 : decode cLaw 512 = .ok (.iload 5, 2) := by decide +kernel
theorem dL_law_514 : decode cLaw 514 = .ok (.ifCond .ne 15, 3) := by decide +kernel
theorem dL_law_517 : decode cLaw 517 = .ok (.aload_n 3, 1) := by decide +kernel
theorem dL_law_518 : decode cLaw 518 = .ok (.iconst 0, 1) := by decide +kernel
theorem dL_law_519 : decode cLaw 519 = .ok (.laload, 1) := by decide +kernel
theorem dL_law_520 : decode cLaw 520 = .ok (.iload 6, 2) := by decide +kernel
theorem dL_law_522 : decode cLaw 522 = .ok (.i2l, 1) := by decide +kernel
theorem dL_law_523 : decode cLaw 523 = .ok (.lcmp, 1) := by decide +kernel
theorem dL_law_524 : decode cLaw 524 = .ok (.ifCond .eq 5, 3) := by decide +kernel
theorem dL_law_527 : decode cLaw 527 = .ok (.iconst 0, 1) := by decide +kernel
theorem dL_law_528 : decode cLaw 528 = .ok (.ireturn, 1) := by decide +kernel
theorem dL_law_529 : decode cLaw 529 = .ok (.goto 740, 3) := by decide +kernel
theorem dL_law_532 : decode cLaw 532 = .ok (.aload_n 1, 1) := by decide +kernel
theorem dL_law_533 : decode cLaw 533 = .ok (.aload_n 0, 1) := by decide +kernel
theorem dL_law_534 : decode cLaw 534 = .ok (.iload 4, 2) := by decide +kernel
theorem dL_law_536 : decode cLaw 536 = .ok (.iconst 1, 1) := by decide +kernel
theorem dL_law_537 : decode cLaw 537 = .ok (.iadd, 1) := by decide +kernel
theorem dL_law_538 : decode cLaw 538 = .ok (.iaload, 1) := by decide +kernel
theorem dL_law_539 : decode cLaw 539 = .ok (.aload_n 0, 1) := by decide +kernel
theorem dL_law_540 : decode cLaw 540 = .ok (.iload 4, 2) := by decide +kernel
theorem dL_law_542 : decode cLaw 542 = .ok (.iconst 2, 1) := by decide +kernel
theorem dL_law_543 : decode cLaw 543 = .ok (.iadd, 1) := by decide +kernel
theorem dL_law_544 : decode cLaw 544 = .ok (.iaload, 1) := by decide +kernel
theorem dL_law_545 : decode cLaw 545 = .ok (.i2l, 1) := by decide +kernel
theorem dL_law_546 : decode cLaw 546 = .ok (.bipush 32, 2) := by decide +kernel
theorem dL_law_548 : decode cLaw 548 = .ok (.lshl, 1) := by decide +kernel
theorem dL_law_549 : decode cLaw 549 = .ok (.aload_n 0, 1) := by decide +kernel
theorem dL_law_550 : decode cLaw 550 = .ok (.iload 4, 2) := by decide +kernel
theorem dL_law_552 : decode cLaw 552 = .ok (.iconst 3, 1) := by decide +kernel
theorem dL_law_553 : decode cLaw 553 = .ok (.iadd, 1) := by decide +kernel
theorem dL_law_554 : decode cLaw 554 = .ok (.iaload, 1) := by decide +kernel
theorem dL_law_555 : decode cLaw 555 = .ok (.i2l, 1) := by decide +kernel
theorem dL_law_556 : decode cLaw 556 = .ok (.ldc2_w 97, 3) := by decide +kernel
theorem dL_law_559 : decode cLaw 559 = .ok (.land, 1) := by decide +kernel
theorem dL_law_560 : decode cLaw 560 = .ok (.lor, 1) := by decide +kernel
theorem dL_law_561 : decode cLaw 561 = .ok (.aload_n 0, 1) := by decide +kernel
theorem dL_law_562 : decode cLaw 562 = .ok (.iload 4, 2) := by decide +kernel
theorem dL_law_564 : decode cLaw 564 = .ok (.iconst 4, 1) := by decide +kernel
theorem dL_law_565 : decode cLaw 565 = .ok (.iadd, 1) := by decide +kernel
theorem dL_law_566 : decode cLaw 566 = .ok (.iaload, 1) := by decide +kernel
theorem dL_law_567 : decode cLaw 567 = .ok (.aload_n 3, 1) := by decide +kernel
theorem dL_law_568 : decode cLaw 568 = .ok (.invokestatic 99, 3) := by decide +kernel
theorem dL_law_571 : decode cLaw 571 = .ok (.istore 5, 2) := by decide +kernel
theorem dL_law_573 : decode cLaw 573 = .ok (.aload_n 2, 1) := by decide +kernel
theorem dL_law_574 : decode cLaw 574 = .ok (.aload_n 0, 1) := by decide +kernel
theorem dL_law_575 : decode cLaw 575 = .ok (.iload 4, 2) := by decide +kernel
theorem dL_law_577 : decode cLaw 577 = .ok (.iconst 1, 1) := by decide +kernel
theorem dL_law_578 : decode cLaw 578 = .ok (.iadd, 1) := by decide +kernel
theorem dL_law_579 : decode cLaw 579 = .ok (.iaload, 1) := by decide +kernel
theorem dL_law_580 : decode cLaw 580 = .ok (.aload_n 0, 1) := by decide +kernel
theorem dL_law_581 : decode cLaw 581 = .ok (.iload 4, 2) := by decide +kernel
theorem dL_law_583 : decode cLaw 583 = .ok (.iconst 2, 1) := by decide +kernel
theorem dL_law_584 : decode cLaw 584 = .ok (.iadd, 1) := by decide +kernel
theorem dL_law_585 : decode cLaw 585 = .ok (.iaload, 1) := by decide +kernel
theorem dL_law_586 : decode cLaw 586 = .ok (.i2l, 1) := by decide +kernel
theorem dL_law_587 : decode cLaw 587 = .ok (.bipush 32, 2) := by decide +kernel
theorem dL_law_589 : decode cLaw 589 = .ok (.lshl, 1) := by decide +kernel
theorem dL_law_590 : decode cLaw 590 = .ok (.aload_n 0, 1) := by decide +kernel
theorem dL_law_591 : decode cLaw 591 = .ok (.iload 4, 2) := by decide +kernel
theorem dL_law_593 : decode cLaw 593 = .ok (.iconst 3, 1) := by decide +kernel
theorem dL_law_594 : decode cLaw 594 = .ok (.iadd, 1) := by decide +kernel
theorem dL_law_595 : decode cLaw 595 = .ok (.iaload, 1) := by decide +kernel
theorem dL_law_596 : decode cLaw 596 = .ok (.i2l, 1) := by decide +kernel
theorem dL_law_597 : decode cLaw 597 = .ok (.ldc2_w 97, 3) := by decide +kernel
theorem dL_law_600 : decode cLaw 600 = .ok (.land, 1) := by decide +kernel
theorem dL_law_601 : decode cLaw 601 = .ok (.lor, 1) := by decide +kernel
theorem dL_law_602 : decode cLaw 602 = .ok (.aload_n 0, 1) := by decide +kernel
theorem dL_law_603 : decode cLaw 603 = .ok (.iload 4, 2) := by decide +kernel
theorem dL_law_605 : decode cLaw 605 = .ok (.iconst 4, 1) := by decide +kernel
theorem dL_law_606 : decode cLaw 606 = .ok (.iadd, 1) := by decide +kernel
theorem dL_law_607 : decode cLaw 607 = .ok (.iaload, 1) := by decide +kernel
theorem dL_law_608 : decode cLaw 608 = .ok (.invokevirtual 102, 3) := by decide +kernel
theorem dL_law_611 : decode cLaw 611 = .ok (.istore 6, 2) := by decide +kernel
theorem dL_law_613 : decode cLaw 613 = .ok (.aload_n 2, 1) := by decide +kernel
theorem dL_law_614 : decode cLaw 614 = .ok (.invokevirtual 74, 3) := by decide +kernel
theorem dL_law_617 : decode cLaw 617 = .ok (.iload 5, 2) := by decide +kernel
theorem dL_law_619 : decode cLaw 619 = .ok (.if_icmp .eq 5, 3) := by decide +kernel
theorem dL_law_622 : decode cLaw 622 = .ok (.iconst 0, 1) := by decide +kernel
theorem dL_law_623 : decode cLaw 623 = .ok (.ireturn, 1) := by decide +kernel
theorem dL_law_624 : decode cLaw 624 = .ok (.iload 5, 2) := by decide +kernel
theorem dL_law_626 : decode cLaw 626 = .ok (.ifCond .ne 15, 3) := by decide +kernel
theorem dL_law_629 : decode cLaw 629 = .ok (.aload_n 3, 1) := by decide +kernel
theorem dL_law_630 : decode cLaw 630 = .ok (.iconst 0, 1) := by decide +kernel
theorem dL_law_631 : decode cLaw 631 = .ok (.laload, 1) := by decide +kernel
theorem dL_law_632 : decode cLaw 632 = .ok (.iload 6, 2) := by decide +kernel
theorem dL_law_634 : decode cLaw 634 = .ok (.i2l, 1) := by decide +kernel
theorem dL_law_635 : decode cLaw 635 = .ok (.lcmp, 1) := by decide +kernel
theorem dL_law_636 : decode cLaw 636 = .ok (.ifCond .eq 5, 3) := by decide +kernel
theorem dL_law_639 : decode cLaw 639 = .ok (.iconst 0, 1) := by decide +kernel
theorem dL_law_640 : decode cLaw 640 = .ok (.ireturn, 1) := by decide +kernel
theorem dL_law_641 : decode cLaw 641 = .ok (.goto 628, 3) := by decide +kernel
theorem dL_law_644 : decode cLaw 644 = .ok (.aload_n 1, 1) := by decide +kernel
theorem dL_law_645 : decode cLaw 645 = .ok (.aload_n 0, 1) := by decide +kernel
theorem dL_law_646 : decode cLaw 646 = .ok (.iload 4, 2) := by decide +kernel
theorem dL_law_648 : decode cLaw 648 = .ok (.iconst 1, 1) := by decide +kernel
theorem dL_law_649 : decode cLaw 649 = .ok (.iadd, 1) := by decide +kernel
theorem dL_law_650 : decode cLaw 650 = .ok (.iaload, 1) := by decide +kernel
theorem dL_law_651 : decode cLaw 651 = .ok (.aload_n 0, 1) := by decide +kernel
theorem dL_law_652 : decode cLaw 652 = .ok (.iload 4, 2) := by decide +kernel
theorem dL_law_654 : decode cLaw 654 = .ok (.iconst 2, 1) := by decide +kernel
theorem dL_law_655 : decode cLaw 655 = .ok (.iadd, 1) := by decide +kernel
theorem dL_law_656 : decode cLaw 656 = .ok (.iaload, 1) := by decide +kernel
theorem dL_law_657 : decode cLaw 657 = .ok (.i2l, 1) := by decide +kernel
theorem dL_law_658 : decode cLaw 658 = .ok (.bipush 32, 2) := by decide +kernel
theorem dL_law_660 : decode cLaw 660 = .ok (.lshl, 1) := by decide +kernel
theorem dL_law_661 : decode cLaw 661 = .ok (.aload_n 0, 1) := by decide +kernel
theorem dL_law_662 : decode cLaw 662 = .ok (.iload 4, 2) := by decide +kernel
theorem dL_law_664 : decode cLaw 664 = .ok (.iconst 3, 1) := by decide +kernel
theorem dL_law_665 : decode cLaw 665 = .ok (.iadd, 1) := by decide +kernel
theorem dL_law_666 : decode cLaw 666 = .ok (.iaload, 1) := by decide +kernel
theorem dL_law_667 : decode cLaw 667 = .ok (.i2l, 1) := by decide +kernel
theorem dL_law_668 : decode cLaw 668 = .ok (.ldc2_w 97, 3) := by decide +kernel
theorem dL_law_671 : decode cLaw 671 = .ok (.land, 1) := by decide +kernel
theorem dL_law_672 : decode cLaw 672 = .ok (.lor, 1) := by decide +kernel
theorem dL_law_673 : decode cLaw 673 = .ok (.aload_n 0, 1) := by decide +kernel
theorem dL_law_674 : decode cLaw 674 = .ok (.iload 4, 2) := by decide +kernel
theorem dL_law_676 : decode cLaw 676 = .ok (.iconst 4, 1) := by decide +kernel
theorem dL_law_677 : decode cLaw 677 = .ok (.iadd, 1) := by decide +kernel
theorem dL_law_678 : decode cLaw 678 = .ok (.iaload, 1) := by decide +kernel
theorem dL_law_679 : decode cLaw 679 = .ok (.aload_n 0, 1) := by decide +kernel
theorem dL_law_680 : decode cLaw 680 = .ok (.iload 4, 2) := by decide +kernel
theorem dL_law_682 : decode cLaw 682 = .ok (.iconst 5, 1) := by decide +kernel
theorem dL_law_683 : decode cLaw 683 = .ok (.iadd, 1) := by decide +kernel
theorem dL_law_684 : decode cLaw 684 = .ok (.iaload, 1) := by decide +kernel
theorem dL_law_685 : decode cLaw 685 = .ok (.i2l, 1) := by decide +kernel
theorem dL_law_686 : decode cLaw 686 = .ok (.bipush 32, 2) := by decide +kernel
theorem dL_law_688 : decode cLaw 688 = .ok (.lshl, 1) := by decide +kernel
theorem dL_law_689 : decode cLaw 689 = .ok (.aload_n 0, 1) := by decide +kernel
theorem dL_law_690 : decode cLaw 690 = .ok (.iload 4, 2) := by decide +kernel
theorem dL_law_692 : decode cLaw 692 = .ok (.bipush 6, 2) := by decide +kernel
theorem dL_law_694 : decode cLaw 694 = .ok (.iadd, 1) := by decide +kernel
theorem dL_law_695 : decode cLaw 695 = .ok (.iaload, 1) := by decide +kernel
theorem dL_law_696 : decode cLaw 696 = .ok (.i2l, 1) := by decide +kernel
theorem dL_law_697 : decode cLaw 697 = .ok (.ldc2_w 97, 3) := by decide +kernel
theorem dL_law_700 : decode cLaw 700 = .ok (.land, 1) := by decide +kernel
theorem dL_law_701 : decode cLaw 701 = .ok (.lor, 1) := by decide +kernel
theorem dL_law_702 : decode cLaw 702 = .ok (.aload_n 0, 1) := by decide +kernel
theorem dL_law_703 : decode cLaw 703 = .ok (.iload 4, 2) := by decide +kernel
theorem dL_law_705 : decode cLaw 705 = .ok (.bipush 7, 2) := by decide +kernel
theorem dL_law_707 : decode cLaw 707 = .ok (.iadd, 1) := by decide +kernel
theorem dL_law_708 : decode cLaw 708 = .ok (.iaload, 1) := by decide +kernel
theorem dL_law_709 : decode cLaw 709 = .ok (.aload_n 3, 1) := by decide +kernel
theorem dL_law_710 : decode cLaw 710 = .ok (.invokestatic 103, 3) := by decide +kernel
theorem dL_law_713 : decode cLaw 713 = .ok (.istore 5, 2) := by decide +kernel
theorem dL_law_715 : decode cLaw 715 = .ok (.aload_n 2, 1) := by decide +kernel
theorem dL_law_716 : decode cLaw 716 = .ok (.aload_n 0, 1) := by decide +kernel
theorem dL_law_717 : decode cLaw 717 = .ok (.iload 4, 2) := by decide +kernel
theorem dL_law_719 : decode cLaw 719 = .ok (.iconst 1, 1) := by decide +kernel
theorem dL_law_720 : decode cLaw 720 = .ok (.iadd, 1) := by decide +kernel
theorem dL_law_721 : decode cLaw 721 = .ok (.iaload, 1) := by decide +kernel
theorem dL_law_722 : decode cLaw 722 = .ok (.aload_n 0, 1) := by decide +kernel
theorem dL_law_723 : decode cLaw 723 = .ok (.iload 4, 2) := by decide +kernel
theorem dL_law_725 : decode cLaw 725 = .ok (.iconst 2, 1) := by decide +kernel
theorem dL_law_726 : decode cLaw 726 = .ok (.iadd, 1) := by decide +kernel
theorem dL_law_727 : decode cLaw 727 = .ok (.iaload, 1) := by decide +kernel
theorem dL_law_728 : decode cLaw 728 = .ok (.i2l, 1) := by decide +kernel
theorem dL_law_729 : decode cLaw 729 = .ok (.bipush 32, 2) := by decide +kernel
theorem dL_law_731 : decode cLaw 731 = .ok (.lshl, 1) := by decide +kernel
theorem dL_law_732 : decode cLaw 732 = .ok (.aload_n 0, 1) := by decide +kernel
theorem dL_law_733 : decode cLaw 733 = .ok (.iload 4, 2) := by decide +kernel
theorem dL_law_735 : decode cLaw 735 = .ok (.iconst 3, 1) := by decide +kernel
theorem dL_law_736 : decode cLaw 736 = .ok (.iadd, 1) := by decide +kernel
theorem dL_law_737 : decode cLaw 737 = .ok (.iaload, 1) := by decide +kernel
theorem dL_law_738 : decode cLaw 738 = .ok (.i2l, 1) := by decide +kernel
theorem dL_law_739 : decode cLaw 739 = .ok (.ldc2_w 97, 3) := by decide +kernel
theorem dL_law_742 : decode cLaw 742 = .ok (.land, 1) := by decide +kernel
theorem dL_law_743 : decode cLaw 743 = .ok (.lor, 1) := by decide +kernel
theorem dL_law_744 : decode cLaw 744 = .ok (.aload_n 0, 1) := by decide +kernel
theorem dL_law_745 : decode cLaw 745 = .ok (.iload 4, 2) := by decide +kernel
theorem dL_law_747 : decode cLaw 747 = .ok (.iconst 4, 1) := by decide +kernel
theorem dL_law_748 : decode cLaw 748 = .ok (.iadd, 1) := by decide +kernel
theorem dL_law_749 : decode cLaw 749 = .ok (.iaload, 1) := by decide +kernel
theorem dL_law_750 : decode cLaw 750 = .ok (.aload_n 0, 1) := by decide +kernel
theorem dL_law_751 : decode cLaw 751 = .ok (.iload 4, 2) := by decide +kernel
theorem dL_law_753 : decode cLaw 753 = .ok (.iconst 5, 1) := by decide +kernel
theorem dL_law_754 : decode cLaw 754 = .ok (.iadd, 1) := by decide +kernel
theorem dL_law_755 : decode cLaw 755 = .ok (.iaload, 1) := by decide +kernel
theorem dL_law_756 : decode cLaw 756 = .ok (.i2l, 1) := by decide +kernel
theorem dL_law_757 : decode cLaw 757 = .ok (.bipush 32, 2) := by decide +kernel
theorem dL_law_759 : decode cLaw 759 = .ok (.lshl, 1) := by decide +kernel
theorem dL_law_760 : decode cLaw 760 = .ok (.aload_n 0, 1) := by decide +kernel
theorem dL_law_761 : decode cLaw 761 = .ok (.iload 4, 2) := by decide +kernel
theorem dL_law_763 : decode cLaw 763 = .ok (.bipush 6, 2) := by decide +kernel
theorem dL_law_765 : decode cLaw 765 = .ok (.iadd, 1) := by decide +kernel
theorem dL_law_766 : decode cLaw 766 = .ok (.iaload, 1) := by decide +kernel
theorem dL_law_767 : decode cLaw 767 = .ok (.i2l, 1) := by decide +kernel
theorem dL_law_768 : decode cLaw 768 = .ok (.ldc2_w 97, 3) := by decide +kernel
theorem dL_law_771 : decode cLaw 771 = .ok (.land, 1) := by decide +kernel
theorem dL_law_772 : decode cLaw 772 = .ok (.lor, 1) := by decide +kernel
theorem dL_law_773 : decode cLaw 773 = .ok (.aload_n 0, 1) := by decide +kernel
theorem dL_law_774 : decode cLaw 774 = .ok (.iload 4, 2) := by decide +kernel
theorem dL_law_776 : decode cLaw 776 = .ok (.bipush 7, 2) := by decide +kernel
theorem dL_law_778 : decode cLaw 778 = .ok (.iadd, 1) := by decide +kernel
theorem dL_law_779 : decode cLaw 779 = .ok (.iaload, 1) := by decide +kernel
theorem dL_law_780 : decode cLaw 780 = .ok (.invokevirtual 106, 3) := by decide +kernel
theorem dL_law_783 : decode cLaw 783 = .ok (.istore 6, 2) := by decide +kernel
theorem dL_law_785 : decode cLaw 785 = .ok (.aload_n 2, 1) := by decide +kernel
theorem dL_law_786 : decode cLaw 786 = .ok (.invokevirtual 74, 3) := by decide +kernel
theorem dL_law_789 : decode cLaw 789 = .ok (.iload 5, 2) := by decide +kernel
theorem dL_law_791 : decode cLaw 791 = .ok (.if_icmp .eq 5, 3) := by decide +kernel
theorem dL_law_794 : decode cLaw 794 = .ok (.iconst 0, 1) := by decide +kernel
theorem dL_law_795 : decode cLaw 795 = .ok (.ireturn, 1) := by decide +kernel
theorem dL_law_796 : decode cLaw 796 = .ok (.iload 5, 2) := by decide +kernel
theorem dL_law_798 : decode cLaw 798 = .ok (.ifCond .ne 15, 3) := by decide +kernel
theorem dL_law_801 : decode cLaw 801 = .ok (.aload_n 3, 1) := by decide +kernel
theorem dL_law_802 : decode cLaw 802 = .ok (.iconst 0, 1) := by decide +kernel
theorem dL_law_803 : decode cLaw 803 = .ok (.laload, 1) := by decide +kernel
theorem dL_law_804 : decode cLaw 804 = .ok (.iload 6, 2) := by decide +kernel
theorem dL_law_806 : decode cLaw 806 = .ok (.i2l, 1) := by decide +kernel
theorem dL_law_807 : decode cLaw 807 = .ok (.lcmp, 1) := by decide +kernel
theorem dL_law_808 : decode cLaw 808 = .ok (.ifCond .eq 5, 3) := by decide +kernel
theorem dL_law_811 : decode cLaw 811 = .ok (.iconst 0, 1) := by decide +kernel
theorem dL_law_812 : decode cLaw 812 = .ok (.ireturn, 1) := by decide +kernel
theorem dL_law_813 : decode cLaw 813 = .ok (.goto 456, 3) := by decide +kernel
theorem dL_law_816 : decode cLaw 816 = .ok (.aload_n 1, 1) := by decide +kernel
theorem dL_law_817 : decode cLaw 817 = .ok (.aload_n 0, 1) := by decide +kernel
theorem dL_law_818 : decode cLaw 818 = .ok (.iload 4, 2) := by decide +kernel
theorem dL_law_820 : decode cLaw 820 = .ok (.iconst 1, 1) := by decide +kernel
theorem dL_law_821 : decode cLaw 821 = .ok (.iadd, 1) := by decide +kernel
theorem dL_law_822 : decode cLaw 822 = .ok (.iaload, 1) := by decide +kernel
theorem dL_law_823 : decode cLaw 823 = .ok (.aload_n 3, 1) := by decide +kernel
theorem dL_law_824 : decode cLaw 824 = .ok (.invokestatic 107, 3) := by decide +kernel
theorem dL_law_827 : decode cLaw 827 = .ok (.istore 5, 2) := by decide +kernel
theorem dL_law_829 : decode cLaw 829 = .ok (.aload_n 2, 1) := by decide +kernel
theorem dL_law_830 : decode cLaw 830 = .ok (.aload_n 0, 1) := by decide +kernel
theorem dL_law_831 : decode cLaw 831 = .ok (.iload 4, 2) := by decide +kernel
theorem dL_law_833 : decode cLaw 833 = .ok (.iconst 1, 1) := by decide +kernel
theorem dL_law_834 : decode cLaw 834 = .ok (.iadd, 1) := by decide +kernel
theorem dL_law_835 : decode cLaw 835 = .ok (.iaload, 1) := by decide +kernel
theorem dL_law_836 : decode cLaw 836 = .ok (.invokevirtual 109, 3) := by decide +kernel
theorem dL_law_839 : decode cLaw 839 = .ok (.istore 6, 2) := by decide +kernel
theorem dL_law_841 : decode cLaw 841 = .ok (.aload_n 2, 1) := by decide +kernel
theorem dL_law_842 : decode cLaw 842 = .ok (.invokevirtual 74, 3) := by decide +kernel
theorem dL_law_845 : decode cLaw 845 = .ok (.iload 5, 2) := by decide +kernel
theorem dL_law_847 : decode cLaw 847 = .ok (.if_icmp .eq 5, 3) := by decide +kernel
theorem dL_law_850 : decode cLaw 850 = .ok (.iconst 0, 1) := by decide +kernel
theorem dL_law_851 : decode cLaw 851 = .ok (.ireturn, 1) := by decide +kernel
theorem dL_law_852 : decode cLaw 852 = .ok (.iload 5, 2) := by decide +kernel
theorem dL_law_854 : decode cLaw 854 = .ok (.ifCond .ne 15, 3) := by decide +kernel
theorem dL_law_857 : decode cLaw 857 = .ok (.aload_n 3, 1) := by decide +kernel
theorem dL_law_858 : decode cLaw 858 = .ok (.iconst 0, 1) := by decide +kernel
theorem dL_law_859 : decode cLaw 859 = .ok (.laload, 1) := by decide +kernel
theorem dL_law_860 : decode cLaw 860 = .ok (.iload 6, 2) := by decide +kernel
theorem dL_law_862 : decode cLaw 862 = .ok (.i2l, 1) := by decide +kernel
theorem dL_law_863 : decode cLaw 863 = .ok (.lcmp, 1) := by decide +kernel
theorem dL_law_864 : decode cLaw 864 = .ok (.ifCond .eq 5, 3) := by decide +kernel
theorem dL_law_867 : decode cLaw 867 = .ok (.iconst 0, 1) := by decide +kernel
theorem dL_law_868 : decode cLaw 868 = .ok (.ireturn, 1) := by decide +kernel
theorem dL_law_869 : decode cLaw 869 = .ok (.goto 400, 3) := by decide +kernel
theorem dL_law_872 : decode cLaw 872 = .ok (.aload_n 1, 1) := by decide +kernel
theorem dL_law_873 : decode cLaw 873 = .ok (.invokevirtual 110, 3) := by decide +kernel
theorem dL_law_876 : decode cLaw 876 = .ok (.aload_n 2, 1) := by decide +kernel
theorem dL_law_877 : decode cLaw 877 = .ok (.invokevirtual 113, 3) := by decide +kernel
theorem dL_law_880 : decode cLaw 880 = .ok (.if_icmp .eq 389, 3) := by decide +kernel
theorem dL_law_883 : decode cLaw 883 = .ok (.iconst 0, 1) := by decide +kernel
theorem dL_law_884 : decode cLaw 884 = .ok (.ireturn, 1) := by decide +kernel
theorem dL_law_885 : decode cLaw 885 = .ok (.aload_n 1, 1) := by decide +kernel
theorem dL_law_886 : decode cLaw 886 = .ok (.invokevirtual 114, 3) := by decide +kernel
theorem dL_law_889 : decode cLaw 889 = .ok (.aload_n 2, 1) := by decide +kernel
theorem dL_law_890 : decode cLaw 890 = .ok (.invokevirtual 117, 3) := by decide +kernel
theorem dL_law_893 : decode cLaw 893 = .ok (.if_icmp .eq 376, 3) := by decide +kernel
theorem dL_law_896 : decode cLaw 896 = .ok (.iconst 0, 1) := by decide +kernel
theorem dL_law_897 : decode cLaw 897 = .ok (.ireturn, 1) := by decide +kernel
theorem dL_law_898 : decode cLaw 898 = .ok (.aload_n 1, 1) := by decide +kernel
theorem dL_law_899 : decode cLaw 899 = .ok (.aload_n 0, 1) := by decide +kernel
theorem dL_law_900 : decode cLaw 900 = .ok (.iload 4, 2) := by decide +kernel
theorem dL_law_902 : decode cLaw 902 = .ok (.iconst 1, 1) := by decide +kernel
theorem dL_law_903 : decode cLaw 903 = .ok (.iadd, 1) := by decide +kernel
theorem dL_law_904 : decode cLaw 904 = .ok (.iaload, 1) := by decide +kernel
theorem dL_law_905 : decode cLaw 905 = .ok (.aload_n 0, 1) := by decide +kernel
theorem dL_law_906 : decode cLaw 906 = .ok (.iload 4, 2) := by decide +kernel
theorem dL_law_908 : decode cLaw 908 = .ok (.iconst 2, 1) := by decide +kernel
theorem dL_law_909 : decode cLaw 909 = .ok (.iadd, 1) := by decide +kernel
theorem dL_law_910 : decode cLaw 910 = .ok (.iaload, 1) := by decide +kernel
theorem dL_law_911 : decode cLaw 911 = .ok (.aload_n 3, 1) := by decide +kernel
theorem dL_law_912 : decode cLaw 912 = .ok (.invokestatic 118, 3) := by decide +kernel
theorem dL_law_915 : decode cLaw 915 = .ok (.istore 5, 2) := by decide +kernel
theorem dL_law_917 : decode cLaw 917 = .ok (.aload_n 2, 1) := by decide +kernel
theorem dL_law_918 : decode cLaw 918 = .ok (.aload_n 0, 1) := by decide +kernel
theorem dL_law_919 : decode cLaw 919 = .ok (.iload 4, 2) := by decide +kernel
theorem dL_law_921 : decode cLaw 921 = .ok (.iconst 1, 1) := by decide +kernel
theorem dL_law_922 : decode cLaw 922 = .ok (.iadd, 1) := by decide +kernel
theorem dL_law_923 : decode cLaw 923 = .ok (.iaload, 1) := by decide +kernel
theorem dL_law_924 : decode cLaw 924 = .ok (.aload_n 0, 1) := by decide +kernel
theorem dL_law_925 : decode cLaw 925 = .ok (.iload 4, 2) := by decide +kernel
theorem dL_law_927 : decode cLaw 927 = .ok (.iconst 2, 1) := by decide +kernel
theorem dL_law_928 : decode cLaw 928 = .ok (.iadd, 1) := by decide +kernel
theorem dL_law_929 : decode cLaw 929 = .ok (.iaload, 1) := by decide +kernel
theorem dL_law_930 : decode cLaw 930 = .ok (.invokevirtual 121, 3) := by decide +kernel
theorem dL_law_933 : decode cLaw 933 = .ok (.istore 6, 2) := by decide +kernel
theorem dL_law_935 : decode cLaw 935 = .ok (.aload_n 2, 1) := by decide +kernel
theorem dL_law_936 : decode cLaw 936 = .ok (.invokevirtual 74, 3) := by decide +kernel
theorem dL_law_939 : decode cLaw 939 = .ok (.iload 5, 2) := by decide +kernel
theorem dL_law_941 : decode cLaw 941 = .ok (.if_icmp .eq 5, 3) := by decide +kernel
theorem dL_law_944 : decode cLaw 944 = .ok (.iconst 0, 1) := by decide +kernel
theorem dL_law_945 : decode cLaw 945 = .ok (.ireturn, 1) := by decide +kernel
theorem dL_law_946 : decode cLaw 946 = .ok (.iload 5, 2) := by decide +kernel
theorem dL_law_948 : decode cLaw 948 = .ok (.ifCond .ne 15, 3) := by decide +kernel
theorem dL_law_951 : decode cLaw 951 = .ok (.aload_n 3, 1) := by decide +kernel
theorem dL_law_952 : decode cLaw 952 = .ok (.iconst 0, 1) := by decide +kernel
theorem dL_law_953 : decode cLaw 953 = .ok (.laload, 1) := by decide +kernel
theorem dL_law_954 : decode cLaw 954 = .ok (.iload 6, 2) := by decide +kernel
theorem dL_law_956 : decode cLaw 956 = .ok (.i2l, 1) := by decide +kernel
theorem dL_law_957 : decode cLaw 957 = .ok (.lcmp, 1) := by decide +kernel
theorem dL_law_958 : decode cLaw 958 = .ok (.ifCond .eq 5, 3) := by decide +kernel
theorem dL_law_961 : decode cLaw 961 = .ok (.iconst 0, 1) := by decide +kernel
theorem dL_law_962 : decode cLaw 962 = .ok (.ireturn, 1) := by decide +kernel
theorem dL_law_963 : decode cLaw 963 = .ok (.goto 306, 3) := by decide +kernel
theorem dL_law_966 : decode cLaw 966 = .ok (.aload_n 1, 1) := by decide +kernel
theorem dL_law_967 : decode cLaw 967 = .ok (.aload_n 0, 1) := by decide +kernel
theorem dL_law_968 : decode cLaw 968 = .ok (.iload 4, 2) := by decide +kernel
theorem dL_law_970 : decode cLaw 970 = .ok (.iconst 1, 1) := by decide +kernel
theorem dL_law_971 : decode cLaw 971 = .ok (.iadd, 1) := by decide +kernel
theorem dL_law_972 : decode cLaw 972 = .ok (.iaload, 1) := by decide +kernel
theorem dL_law_973 : decode cLaw 973 = .ok (.aload_n 0, 1) := by decide +kernel
theorem dL_law_974 : decode cLaw 974 = .ok (.iload 4, 2) := by decide +kernel
theorem dL_law_976 : decode cLaw 976 = .ok (.iconst 2, 1) := by decide +kernel
theorem dL_law_977 : decode cLaw 977 = .ok (.iadd, 1) := by decide +kernel
theorem dL_law_978 : decode cLaw 978 = .ok (.iaload, 1) := by decide +kernel
theorem dL_law_979 : decode cLaw 979 = .ok (.aload_n 3, 1) := by decide +kernel
theorem dL_law_980 : decode cLaw 980 = .ok (.invokestatic 122, 3) := by decide +kernel
theorem dL_law_983 : decode cLaw 983 = .ok (.istore 5, 2) := by decide +kernel
theorem dL_law_985 : decode cLaw 985 = .ok (.aload_n 2, 1) := by decide +kernel
theorem dL_law_986 : decode cLaw 986 = .ok (.aload_n 0, 1) := by decide +kernel
theorem dL_law_987 : decode cLaw 987 = .ok (.iload 4, 2) := by decide +kernel
theorem dL_law_989 : decode cLaw 989 = .ok (.iconst 1, 1) := by decide +kernel
theorem dL_law_990 : decode cLaw 990 = .ok (.iadd, 1) := by decide +kernel
theorem dL_law_991 : decode cLaw 991 = .ok (.iaload, 1) := by decide +kernel
theorem dL_law_992 : decode cLaw 992 = .ok (.aload_n 0, 1) := by decide +kernel
theorem dL_law_993 : decode cLaw 993 = .ok (.iload 4, 2) := by decide +kernel
theorem dL_law_995 : decode cLaw 995 = .ok (.iconst 2, 1) := by decide +kernel
theorem dL_law_996 : decode cLaw 996 = .ok (.iadd, 1) := by decide +kernel
theorem dL_law_997 : decode cLaw 997 = .ok (.iaload, 1) := by decide +kernel
theorem dL_law_998 : decode cLaw 998 = .ok (.invokevirtual 124, 3) := by decide +kernel
theorem dL_law_1001 : decode cLaw 1001 = .ok (.istore 6, 2) := by decide +kernel
theorem dL_law_1003 : decode cLaw 1003 = .ok (.aload_n 2, 1) := by decide +kernel
theorem dL_law_1004 : decode cLaw 1004 = .ok (.invokevirtual 74, 3) := by decide +kernel
theorem dL_law_1007 : decode cLaw 1007 = .ok (.iload 5, 2) := by decide +kernel
theorem dL_law_1009 : decode cLaw 1009 = .ok (.if_icmp .eq 5, 3) := by decide +kernel
theorem dL_law_1012 : decode cLaw 1012 = .ok (.iconst 0, 1) := by decide +kernel
theorem dL_law_1013 : decode cLaw 1013 = .ok (.ireturn, 1) := by decide +kernel
theorem dL_law_1014 : decode cLaw 1014 = .ok (.iload 5, 2) := by decide +kernel
theorem dL_law_1016 : decode cLaw 1016 = .ok (.ifCond .ne 15, 3) := by decide +kernel
theorem dL_law_1019 : decode cLaw 1019 = .ok (.aload_n 3, 1) := by decide +kernel
theorem dL_law_1020 : decode cLaw 1020 = .ok (.iconst 0, 1) := by decide +kernel
theorem dL_law_1021 : decode cLaw 1021 = .ok (.laload, 1) := by decide +kernel
theorem dL_law_1022 : decode cLaw 1022 = .ok (.iload 6, 2) := by decide +kernel
theorem dL_law_1024 : decode cLaw 1024 = .ok (.i2l, 1) := by decide +kernel
theorem dL_law_1025 : decode cLaw 1025 = .ok (.lcmp, 1) := by decide +kernel
theorem dL_law_1026 : decode cLaw 1026 = .ok (.ifCond .eq 5, 3) := by decide +kernel
theorem dL_law_1029 : decode cLaw 1029 = .ok (.iconst 0, 1) := by decide +kernel
theorem dL_law_1030 : decode cLaw 1030 = .ok (.ireturn, 1) := by decide +kernel
theorem dL_law_1031 : decode cLaw 1031 = .ok (.goto 238, 3) := by decide +kernel
theorem dL_law_1034 : decode cLaw 1034 = .ok (.aload_n 1, 1) := by decide +kernel
theorem dL_law_1035 : decode cLaw 1035 = .ok (.aload_n 0, 1) := by decide +kernel
theorem dL_law_1036 : decode cLaw 1036 = .ok (.iload 4, 2) := by decide +kernel
theorem dL_law_1038 : decode cLaw 1038 = .ok (.iconst 1, 1) := by decide +kernel
theorem dL_law_1039 : decode cLaw 1039 = .ok (.iadd, 1) := by decide +kernel
theorem dL_law_1040 : decode cLaw 1040 = .ok (.iaload, 1) := by decide +kernel
theorem dL_law_1041 : decode cLaw 1041 = .ok (.aload_n 0, 1) := by decide +kernel
theorem dL_law_1042 : decode cLaw 1042 = .ok (.iload 4, 2) := by decide +kernel
theorem dL_law_1044 : decode cLaw 1044 = .ok (.iconst 2, 1) := by decide +kernel
theorem dL_law_1045 : decode cLaw 1045 = .ok (.iadd, 1) := by decide +kernel
theorem dL_law_1046 : decode cLaw 1046 = .ok (.iaload, 1) := by decide +kernel
theorem dL_law_1047 : decode cLaw 1047 = .ok (.aload_n 0, 1) := by decide +kernel
theorem dL_law_1048 : decode cLaw 1048 = .ok (.iload 4, 2) := by decide +kernel
theorem dL_law_1050 : decode cLaw 1050 = .ok (.iconst 3, 1) := by decide +kernel
theorem dL_law_1051 : decode cLaw 1051 = .ok (.iadd, 1) := by decide +kernel
theorem dL_law_1052 : decode cLaw 1052 = .ok (.iaload, 1) := by decide +kernel
theorem dL_law_1053 : decode cLaw 1053 = .ok (.aload_n 3, 1) := by decide +kernel
theorem dL_law_1054 : decode cLaw 1054 = .ok (.invokestatic 125, 3) := by decide +kernel
theorem dL_law_1057 : decode cLaw 1057 = .ok (.istore 5, 2) := by decide +kernel
theorem dL_law_1059 : decode cLaw 1059 = .ok (.aload_n 2, 1) := by decide +kernel
theorem dL_law_1060 : decode cLaw 1060 = .ok (.aload_n 0, 1) := by decide +kernel
theorem dL_law_1061 : decode cLaw 1061 = .ok (.iload 4, 2) := by decide +kernel
theorem dL_law_1063 : decode cLaw 1063 = .ok (.iconst 1, 1) := by decide +kernel
theorem dL_law_1064 : decode cLaw 1064 = .ok (.iadd, 1) := by decide +kernel
theorem dL_law_1065 : decode cLaw 1065 = .ok (.iaload, 1) := by decide +kernel
theorem dL_law_1066 : decode cLaw 1066 = .ok (.aload_n 0, 1) := by decide +kernel
theorem dL_law_1067 : decode cLaw 1067 = .ok (.iload 4, 2) := by decide +kernel
theorem dL_law_1069 : decode cLaw 1069 = .ok (.iconst 2, 1) := by decide +kernel
theorem dL_law_1070 : decode cLaw 1070 = .ok (.iadd, 1) := by decide +kernel
theorem dL_law_1071 : decode cLaw 1071 = .ok (.iaload, 1) := by decide +kernel
theorem dL_law_1072 : decode cLaw 1072 = .ok (.aload_n 0, 1) := by decide +kernel
theorem dL_law_1073 : decode cLaw 1073 = .ok (.iload 4, 2) := by decide +kernel
theorem dL_law_1075 : decode cLaw 1075 = .ok (.iconst 3, 1) := by decide +kernel
theorem dL_law_1076 : decode cLaw 1076 = .ok (.iadd, 1) := by decide +kernel
theorem dL_law_1077 : decode cLaw 1077 = .ok (.iaload, 1) := by decide +kernel
theorem dL_law_1078 : decode cLaw 1078 = .ok (.invokevirtual 128, 3) := by decide +kernel
theorem dL_law_1081 : decode cLaw 1081 = .ok (.lstore 6, 2) := by decide +kernel
theorem dL_law_1083 : decode cLaw 1083 = .ok (.aload_n 2, 1) := by decide +kernel
theorem dL_law_1084 : decode cLaw 1084 = .ok (.invokevirtual 74, 3) := by decide +kernel
theorem dL_law_1087 : decode cLaw 1087 = .ok (.iload 5, 2) := by decide +kernel
theorem dL_law_1089 : decode cLaw 1089 = .ok (.if_icmp .eq 5, 3) := by decide +kernel
theorem dL_law_1092 : decode cLaw 1092 = .ok (.iconst 0, 1) := by decide +kernel
theorem dL_law_1093 : decode cLaw 1093 = .ok (.ireturn, 1) := by decide +kernel
theorem dL_law_1094 : decode cLaw 1094 = .ok (.iload 5, 2) := by decide +kernel
theorem dL_law_1096 : decode cLaw 1096 = .ok (.ifCond .ne 14, 3) := by decide +kernel
theorem dL_law_1099 : decode cLaw 1099 = .ok (.aload_n 3, 1) := by decide +kernel
theorem dL_law_1100 : decode cLaw 1100 = .ok (.iconst 0, 1) := by decide +kernel
theorem dL_law_1101 : decode cLaw 1101 = .ok (.laload, 1) := by decide +kernel
theorem dL_law_1102 : decode cLaw 1102 = .ok (.lload 6, 2) := by decide +kernel
theorem dL_law_1104 : decode cLaw 1104 = .ok (.lcmp, 1) := by decide +kernel
theorem dL_law_1105 : decode cLaw 1105 = .ok (.ifCond .eq 5, 3) := by decide +kernel
theorem dL_law_1108 : decode cLaw 1108 = .ok (.iconst 0, 1) := by decide +kernel
theorem dL_law_1109 : decode cLaw 1109 = .ok (.ireturn, 1) := by decide +kernel
theorem dL_law_1110 : decode cLaw 1110 = .ok (.goto 159, 3) := by decide +kernel
theorem dL_law_1113 : decode cLaw 1113 = .ok (.aload_n 1, 1) := by decide +kernel
theorem dL_law_1114 : decode cLaw 1114 = .ok (.aload_n 0, 1) := by decide +kernel
theorem dL_law_1115 : decode cLaw 1115 = .ok (.iload 4, 2) := by decide +kernel
theorem dL_law_1117 : decode cLaw 1117 = .ok (.iconst 1, 1) := by decide +kernel
theorem dL_law_1118 : decode cLaw 1118 = .ok (.iadd, 1) := by decide +kernel
theorem dL_law_1119 : decode cLaw 1119 = .ok (.iaload, 1) := by decide +kernel
theorem dL_law_1120 : decode cLaw 1120 = .ok (.aload_n 0, 1) := by decide +kernel
theorem dL_law_1121 : decode cLaw 1121 = .ok (.iload 4, 2) := by decide +kernel
theorem dL_law_1123 : decode cLaw 1123 = .ok (.iconst 2, 1) := by decide +kernel
theorem dL_law_1124 : decode cLaw 1124 = .ok (.iadd, 1) := by decide +kernel
theorem dL_law_1125 : decode cLaw 1125 = .ok (.iaload, 1) := by decide +kernel
theorem dL_law_1126 : decode cLaw 1126 = .ok (.aload_n 0, 1) := by decide +kernel
theorem dL_law_1127 : decode cLaw 1127 = .ok (.iload 4, 2) := by decide +kernel
theorem dL_law_1129 : decode cLaw 1129 = .ok (.iconst 3, 1) := by decide +kernel
theorem dL_law_1130 : decode cLaw 1130 = .ok (.iadd, 1) := by decide +kernel
theorem dL_law_1131 : decode cLaw 1131 = .ok (.iaload, 1) := by decide +kernel
theorem dL_law_1132 : decode cLaw 1132 = .ok (.aload_n 0, 1) := by decide +kernel
theorem dL_law_1133 : decode cLaw 1133 = .ok (.iload 4, 2) := by decide +kernel
theorem dL_law_1135 : decode cLaw 1135 = .ok (.iconst 4, 1) := by decide +kernel
theorem dL_law_1136 : decode cLaw 1136 = .ok (.iadd, 1) := by decide +kernel
theorem dL_law_1137 : decode cLaw 1137 = .ok (.iaload, 1) := by decide +kernel
theorem dL_law_1138 : decode cLaw 1138 = .ok (.i2l, 1) := by decide +kernel
theorem dL_law_1139 : decode cLaw 1139 = .ok (.bipush 32, 2) := by decide +kernel
theorem dL_law_1141 : decode cLaw 1141 = .ok (.lshl, 1) := by decide +kernel
theorem dL_law_1142 : decode cLaw 1142 = .ok (.aload_n 0, 1) := by decide +kernel
theorem dL_law_1143 : decode cLaw 1143 = .ok (.iload 4, 2) := by decide +kernel
theorem dL_law_1145 : decode cLaw 1145 = .ok (.iconst 5, 1) := by decide +kernel
theorem dL_law_1146 : decode cLaw 1146 = .ok (.iadd, 1) := by decide +kernel
theorem dL_law_1147 : decode cLaw 1147 = .ok (.iaload, 1) := by decide +kernel
theorem dL_law_1148 : decode cLaw 1148 = .ok (.i2l, 1) := by decide +kernel
theorem dL_law_1149 : decode cLaw 1149 = .ok (.ldc2_w 97, 3) := by decide +kernel
theorem dL_law_1152 : decode cLaw 1152 = .ok (.land, 1) := by decide +kernel
theorem dL_law_1153 : decode cLaw 1153 = .ok (.lor, 1) := by decide +kernel
theorem dL_law_1154 : decode cLaw 1154 = .ok (.aload_n 3, 1) := by decide +kernel
theorem dL_law_1155 : decode cLaw 1155 = .ok (.invokestatic 129, 3) := by decide +kernel
theorem dL_law_1158 : decode cLaw 1158 = .ok (.istore 5, 2) := by decide +kernel
theorem dL_law_1160 : decode cLaw 1160 = .ok (.aload_n 2, 1) := by decide +kernel
theorem dL_law_1161 : decode cLaw 1161 = .ok (.aload_n 0, 1) := by decide +kernel
theorem dL_law_1162 : decode cLaw 1162 = .ok (.iload 4, 2) := by decide +kernel
theorem dL_law_1164 : decode cLaw 1164 = .ok (.iconst 1, 1) := by decide +kernel
theorem dL_law_1165 : decode cLaw 1165 = .ok (.iadd, 1) := by decide +kernel
theorem dL_law_1166 : decode cLaw 1166 = .ok (.iaload, 1) := by decide +kernel
theorem dL_law_1167 : decode cLaw 1167 = .ok (.aload_n 0, 1) := by decide +kernel
theorem dL_law_1168 : decode cLaw 1168 = .ok (.iload 4, 2) := by decide +kernel
theorem dL_law_1170 : decode cLaw 1170 = .ok (.iconst 2, 1) := by decide +kernel
theorem dL_law_1171 : decode cLaw 1171 = .ok (.iadd, 1) := by decide +kernel
theorem dL_law_1172 : decode cLaw 1172 = .ok (.iaload, 1) := by decide +kernel
theorem dL_law_1173 : decode cLaw 1173 = .ok (.aload_n 0, 1) := by decide +kernel
theorem dL_law_1174 : decode cLaw 1174 = .ok (.iload 4, 2) := by decide +kernel
theorem dL_law_1176 : decode cLaw 1176 = .ok (.iconst 3, 1) := by decide +kernel
theorem dL_law_1177 : decode cLaw 1177 = .ok (.iadd, 1) := by decide +kernel
theorem dL_law_1178 : decode cLaw 1178 = .ok (.iaload, 1) := by decide +kernel
theorem dL_law_1179 : decode cLaw 1179 = .ok (.aload_n 0, 1) := by decide +kernel
theorem dL_law_1180 : decode cLaw 1180 = .ok (.iload 4, 2) := by decide +kernel
theorem dL_law_1182 : decode cLaw 1182 = .ok (.iconst 4, 1) := by decide +kernel
theorem dL_law_1183 : decode cLaw 1183 = .ok (.iadd, 1) := by decide +kernel
theorem dL_law_1184 : decode cLaw 1184 = .ok (.iaload, 1) := by decide +kernel
theorem dL_law_1185 : decode cLaw 1185 = .ok (.i2l, 1) := by decide +kernel
theorem dL_law_1186 : decode cLaw 1186 = .ok (.bipush 32, 2) := by decide +kernel
theorem dL_law_1188 : decode cLaw 1188 = .ok (.lshl, 1) := by decide +kernel
theorem dL_law_1189 : decode cLaw 1189 = .ok (.aload_n 0, 1) := by decide +kernel
theorem dL_law_1190 : decode cLaw 1190 = .ok (.iload 4, 2) := by decide +kernel
theorem dL_law_1192 : decode cLaw 1192 = .ok (.iconst 5, 1) := by decide +kernel
theorem dL_law_1193 : decode cLaw 1193 = .ok (.iadd, 1) := by decide +kernel
theorem dL_law_1194 : decode cLaw 1194 = .ok (.iaload, 1) := by decide +kernel
theorem dL_law_1195 : decode cLaw 1195 = .ok (.i2l, 1) := by decide +kernel
theorem dL_law_1196 : decode cLaw 1196 = .ok (.ldc2_w 97, 3) := by decide +kernel
theorem dL_law_1199 : decode cLaw 1199 = .ok (.land, 1) := by decide +kernel
theorem dL_law_1200 : decode cLaw 1200 = .ok (.lor, 1) := by decide +kernel
theorem dL_law_1201 : decode cLaw 1201 = .ok (.invokevirtual 132, 3) := by decide +kernel
theorem dL_law_1204 : decode cLaw 1204 = .ok (.istore 6, 2) := by decide +kernel
theorem dL_law_1206 : decode cLaw 1206 = .ok (.aload_n 2, 1) := by decide +kernel
theorem dL_law_1207 : decode cLaw 1207 = .ok (.invokevirtual 74, 3) := by decide +kernel
theorem dL_law_1210 : decode cLaw 1210 = .ok (.iload 5, 2) := by decide +kernel
theorem dL_law_1212 : decode cLaw 1212 = .ok (.if_icmp .eq 5, 3) := by decide +kernel
theorem dL_law_1215 : decode cLaw 1215 = .ok (.iconst 0, 1) := by decide +kernel
theorem dL_law_1216 : decode cLaw 1216 = .ok (.ireturn, 1) := by decide +kernel
theorem dL_law_1217 : decode cLaw 1217 = .ok (.iload 5, 2) := by decide +kernel
theorem dL_law_1219 : decode cLaw 1219 = .ok (.ifCond .ne 22, 3) := by decide +kernel
theorem dL_law_1222 : decode cLaw 1222 = .ok (.aload_n 3, 1) := by decide +kernel
theorem dL_law_1223 : decode cLaw 1223 = .ok (.iconst 0, 1) := by decide +kernel
theorem dL_law_1224 : decode cLaw 1224 = .ok (.laload, 1) := by decide +kernel
theorem dL_law_1225 : decode cLaw 1225 = .ok (.iload 6, 2) := by decide +kernel
theorem dL_law_1227 : decode cLaw 1227 = .ok (.ifCond .eq 7, 3) := by decide +kernel
theorem dL_law_1230 : decode cLaw 1230 = .ok (.lconst 1, 1) := by decide +kernel
theorem dL_law_1231 : decode cLaw 1231 = .ok (.goto 4, 3) := by decide +kernel
theorem dL_law_1234 : decode cLaw 1234 = .ok (.lconst 0, 1) := by decide +kernel
theorem dL_law_1235 : decode cLaw 1235 = .ok (.lcmp, 1) := by decide +kernel
theorem dL_law_1236 : decode cLaw 1236 = .ok (.ifCond .eq 5, 3) := by decide +kernel
theorem dL_law_1239 : decode cLaw 1239 = .ok (.iconst 0, 1) := by decide +kernel
theorem dL_law_1240 : decode cLaw 1240 = .ok (.ireturn, 1) := by decide +kernel
theorem dL_law_1241 : decode cLaw 1241 = .ok (.goto 28, 3) := by decide +kernel
theorem dL_law_1244 : decode cLaw 1244 = .ok (.aload_n 1, 1) := by decide +kernel
theorem dL_law_1245 : decode cLaw 1245 = .ok (.aload_n 0, 1) := by decide +kernel
theorem dL_law_1246 : decode cLaw 1246 = .ok (.iload 4, 2) := by decide +kernel
theorem dL_law_1248 : decode cLaw 1248 = .ok (.iconst 1, 1) := by decide +kernel
theorem dL_law_1249 : decode cLaw 1249 = .ok (.iadd, 1) := by decide +kernel
theorem dL_law_1250 : decode cLaw 1250 = .ok (.iaload, 1) := by decide +kernel
theorem dL_law_1251 : decode cLaw 1251 = .ok (.invokevirtual 133, 3) := by decide +kernel
theorem dL_law_1254 : decode cLaw 1254 = .ok (.aload_n 2, 1) := by decide +kernel
theorem dL_law_1255 : decode cLaw 1255 = .ok (.aload_n 0, 1) := by decide +kernel
theorem dL_law_1256 : decode cLaw 1256 = .ok (.iload 4, 2) := by decide +kernel
theorem dL_law_1258 : decode cLaw 1258 = .ok (.iconst 1, 1) := by decide +kernel
theorem dL_law_1259 : decode cLaw 1259 = .ok (.iadd, 1) := by decide +kernel
theorem dL_law_1260 : decode cLaw 1260 = .ok (.iaload, 1) := by decide +kernel
theorem dL_law_1261 : decode cLaw 1261 = .ok (.invokevirtual 136, 3) := by decide +kernel
theorem dL_law_1264 : decode cLaw 1264 = .ok (.if_icmp .eq 5, 3) := by decide +kernel
theorem dL_law_1267 : decode cLaw 1267 = .ok (.iconst 0, 1) := by decide +kernel
theorem dL_law_1268 : decode cLaw 1268 = .ok (.ireturn, 1) := by decide +kernel
theorem dL_law_1269 : decode cLaw 1269 = .ok (.iinc 4 8, 3) := by decide +kernel
theorem dL_law_1272 : decode cLaw 1272 = .ok (.goto (-1249), 3) := by decide +kernel
theorem dL_law_1275 : decode cLaw 1275 = .ok (.iconst 1, 1) := by decide +kernel
theorem dL_law_1276 : decode cLaw 1276 = .ok (.ireturn, 1) := by decide +kernel
