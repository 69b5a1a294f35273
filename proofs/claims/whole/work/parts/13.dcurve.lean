theorem dX0_init_0 : decode cX0_init 0 = .ok (.aload_n 0, 1) := by decide +kernel
theorem dX0_init_1 : decode cX0_init 1 = .ok (.invokespecial 3, 3) := by decide +kernel
theorem dX0_init_4 : decode cX0_init 4 = .ok (.aload_n 0, 1) := by decide +kernel
theorem dX0_init_5 : decode cX0_init 5 = .ok (.iload_n 1, 1) := by decide +kernel
theorem dX0_init_6 : decode cX0_init 6 = .ok (.putfield 9, 3) := by decide +kernel
theorem dX0_init_9 : decode cX0_init 9 = .ok (.aload_n 0, 1) := by decide +kernel
theorem dX0_init_10 : decode cX0_init 10 = .ok (.iload_n 1, 1) := by decide +kernel
theorem dX0_init_11 : decode cX0_init 11 = .ok (.newarray .int, 2) := by decide +kernel
theorem dX0_init_13 : decode cX0_init 13 = .ok (.putfield 13, 3) := by decide +kernel
theorem dX0_init_16 : decode cX0_init 16 = .ok (.aload_n 0, 1) := by decide +kernel
theorem dX0_init_17 : decode cX0_init 17 = .ok (.iload_n 1, 1) := by decide +kernel
theorem dX0_init_18 : decode cX0_init 18 = .ok (.newarray .int, 2) := by decide +kernel
theorem dX0_init_20 : decode cX0_init 20 = .ok (.putfield 17, 3) := by decide +kernel
theorem dX0_init_23 : decode cX0_init 23 = .ok (.aload_n 0, 1) := by decide +kernel
theorem dX0_init_24 : decode cX0_init 24 = .ok (.bipush 14, 2) := by decide +kernel
theorem dX0_init_26 : decode cX0_init 26 = .ok (.newarray .int, 2) := by decide +kernel
theorem dX0_init_28 : decode cX0_init 28 = .ok (.putfield 20, 3) := by decide +kernel
theorem dX0_init_31 : decode cX0_init 31 = .ok (.aload_n 0, 1) := by decide +kernel
theorem dX0_init_32 : decode cX0_init 32 = .ok (.iconst 2, 1) := by decide +kernel
theorem dX0_init_33 : decode cX0_init 33 = .ok (.iload_n 1, 1) := by decide +kernel
theorem dX0_init_34 : decode cX0_init 34 = .ok (.imul, 1) := by decide +kernel
theorem dX0_init_35 : decode cX0_init 35 = .ok (.newarray .int, 2) := by decide +kernel
theorem dX0_init_37 : decode cX0_init 37 = .ok (.putfield 23, 3) := by decide +kernel
theorem dX0_init_40 : decode cX0_init 40 = .ok (.aload_n 0, 1) := by decide +kernel
theorem dX0_init_41 : decode cX0_init 41 = .ok (.iconst 2, 1) := by decide +kernel
theorem dX0_init_42 : decode cX0_init 42 = .ok (.iload_n 1, 1) := by decide +kernel
theorem dX0_init_43 : decode cX0_init 43 = .ok (.imul, 1) := by decide +kernel
theorem dX0_init_44 : decode cX0_init 44 = .ok (.newarray .int, 2) := by decide +kernel
theorem dX0_init_46 : decode cX0_init 46 = .ok (.putfield 26, 3) := by decide +kernel
theorem dX0_init_49 : decode cX0_init 49 = .ok (.aload_n 0, 1) := by decide +kernel
theorem dX0_init_50 : decode cX0_init 50 = .ok (.iconst 2, 1) := by decide +kernel
theorem dX0_init_51 : decode cX0_init 51 = .ok (.iload_n 1, 1) := by decide +kernel
theorem dX0_init_52 : decode cX0_init 52 = .ok (.imul, 1) := by decide +kernel
theorem dX0_init_53 : decode cX0_init 53 = .ok (.newarray .int, 2) := by decide +kernel
theorem dX0_init_55 : decode cX0_init 55 = .ok (.putfield 29, 3) := by decide +kernel
theorem dX0_init_58 : decode cX0_init 58 = .ok (.aload_n 0, 1) := by decide +kernel
theorem dX0_init_59 : decode cX0_init 59 = .ok (.invokevirtual 32, 3) := by decide +kernel
theorem dX0_init_62 : decode cX0_init 62 = .ok (.aload_n 0, 1) := by decide +kernel
theorem dX0_init_63 : decode cX0_init 63 = .ok (.invokevirtual 35, 3) := by decide +kernel
theorem dX0_init_66 : decode cX0_init 66 = .ok (.aload_n 0, 1) := by decide +kernel
theorem dX0_init_67 : decode cX0_init 67 = .ok (.aload_n 0, 1) := by decide +kernel
theorem dX0_init_68 : decode cX0_init 68 = .ok (.invokevirtual 38, 3) := by decide +kernel
theorem dX0_init_71 : decode cX0_init 71 = .ok (.putfield 42, 3) := by decide +kernel
theorem dX0_init_74 : decode cX0_init 74 = .ok (.aload_n 0, 1) := by decide +kernel
theorem dX0_init_75 : decode cX0_init 75 = .ok (.aload_n 0, 1) := by decide +kernel
theorem dX0_init_76 : decode cX0_init 76 = .ok (.getfield 17, 3) := by decide +kernel
theorem dX0_init_79 : decode cX0_init 79 = .ok (.iload_n 1, 1) := by decide +kernel
theorem dX0_init_80 : decode cX0_init 80 = .ok (.iconst 1, 1) := by decide +kernel
theorem dX0_init_81 : decode cX0_init 81 = .ok (.isub, 1) := by decide +kernel
theorem dX0_init_82 : decode cX0_init 82 = .ok (.iaload, 1) := by decide +kernel
theorem dX0_init_83 : decode cX0_init 83 = .ok (.putfield 45, 3) := by decide +kernel
theorem dX0_init_86 : decode cX0_init 86 = .ok (.aload_n 0, 1) := by decide +kernel
theorem dX0_init_87 : decode cX0_init 87 = .ok (.aload_n 0, 1) := by decide +kernel
theorem dX0_init_88 : decode cX0_init 88 = .ok (.invokevirtual 48, 3) := by decide +kernel
theorem dX0_init_91 : decode cX0_init 91 = .ok (.putfield 51, 3) := by decide +kernel
theorem dX0_init_94 : decode cX0_init 94 = .ok (.aload_n 0, 1) := by decide +kernel
theorem dX0_init_95 : decode cX0_init 95 = .ok (.invokevirtual 54, 3) := by decide +kernel
theorem dX0_init_98 : decode cX0_init 98 = .ok (.return_, 1) := by decide +kernel
theorem dX0_point_0 : decode cX0_point 0 = .ok (.iload_n 0, 1) := by decide +kernel
theorem dX0_point_1 : decode cX0_point 1 = .ok (.bipush 13, 2) := by decide +kernel
theorem dX0_point_3 : decode cX0_point 3 = .ok (.ishl, 1) := by decide +kernel
theorem dX0_point_4 : decode cX0_point 4 = .ok (.iload_n 1, 1) := by decide +kernel
theorem dX0_point_5 : decode cX0_point 5 = .ok (.ior, 1) := by decide +kernel
theorem dX0_point_6 : decode cX0_point 6 = .ok (.ireturn, 1) := by decide +kernel
theorem dX0_xOf_0 : decode cX0_xOf 0 = .ok (.iload_n 0, 1) := by decide +kernel
theorem dX0_xOf_1 : decode cX0_xOf 1 = .ok (.bipush 13, 2) := by decide +kernel
theorem dX0_xOf_3 : decode cX0_xOf 3 = .ok (.ishr, 1) := by decide +kernel
theorem dX0_xOf_4 : decode cX0_xOf 4 = .ok (.ireturn, 1) := by decide +kernel
theorem dX0_yOf_0 : decode cX0_yOf 0 = .ok (.iload_n 0, 1) := by decide +kernel
theorem dX0_yOf_1 : decode cX0_yOf 1 = .ok (.sipush 8191, 3) := by decide +kernel
theorem dX0_yOf_4 : decode cX0_yOf 4 = .ok (.iand, 1) := by decide +kernel
theorem dX0_yOf_5 : decode cX0_yOf 5 = .ok (.ireturn, 1) := by decide +kernel
theorem dX0_compress_0 : decode cX0_compress 0 = .ok (.iload_n 0, 1) := by decide +kernel
theorem dX0_compress_1 : decode cX0_compress 1 = .ok (.invokestatic 57, 3) := by decide +kernel
theorem dX0_compress_4 : decode cX0_compress 4 = .ok (.iload_n 0, 1) := by decide +kernel
theorem dX0_compress_5 : decode cX0_compress 5 = .ok (.invokestatic 61, 3) := by decide +kernel
theorem dX0_compress_8 : decode cX0_compress 8 = .ok (.iconst 1, 1) := by decide +kernel
theorem dX0_compress_9 : decode cX0_compress 9 = .ok (.iand, 1) := by decide +kernel
theorem dX0_compress_10 : decode cX0_compress 10 = .ok (.bipush 13, 2) := by decide +kernel
theorem dX0_compress_12 : decode cX0_compress 12 = .ok (.ishl, 1) := by decide +kernel
theorem dX0_compress_13 : decode cX0_compress 13 = .ok (.iadd, 1) := by decide +kernel
theorem dX0_compress_14 : decode cX0_compress 14 = .ok (.ireturn, 1) := by decide +kernel
theorem dX0_holds_0 : decode cX0_holds 0 = .ok (.iload_n 1, 1) := by decide +kernel
theorem dX0_holds_1 : decode cX0_holds 1 = .ok (.ifCond .lt 23, 3) := by decide +kernel
theorem dX0_holds_4 : decode cX0_holds 4 = .ok (.iload_n 1, 1) := by decide +kernel
theorem dX0_holds_5 : decode cX0_holds 5 = .ok (.aload_n 0, 1) := by decide +kernel
theorem dX0_holds_6 : decode cX0_holds 6 = .ok (.getfield 9, 3) := by decide +kernel
theorem dX0_holds_9 : decode cX0_holds 9 = .ok (.if_icmp .ge 15, 3) := by decide +kernel
theorem dX0_holds_12 : decode cX0_holds 12 = .ok (.iload_n 2, 1) := by decide +kernel
theorem dX0_holds_13 : decode cX0_holds 13 = .ok (.ifCond .lt 11, 3) := by decide +kernel
theorem dX0_holds_16 : decode cX0_holds 16 = .ok (.iload_n 2, 1) := by decide +kernel
theorem dX0_holds_17 : decode cX0_holds 17 = .ok (.aload_n 0, 1) := by decide +kernel
theorem dX0_holds_18 : decode cX0_holds 18 = .ok (.getfield 9, 3) := by decide +kernel
theorem dX0_holds_21 : decode cX0_holds 21 = .ok (.if_icmp .lt 5, 3) := by decide +kernel
theorem dX0_holds_24 : decode cX0_holds 24 = .ok (.iconst 0, 1) := by decide +kernel
theorem dX0_holds_25 : decode cX0_holds 25 = .ok (.ireturn, 1) := by decide +kernel
theorem dX0_holds_26 : decode cX0_holds 26 = .ok (.iload_n 1, 1) := by decide +kernel
theorem dX0_holds_27 : decode cX0_holds 27 = .ok (.iload_n 1, 1) := by decide +kernel
theorem dX0_holds_28 : decode cX0_holds 28 = .ok (.imul, 1) := by decide +kernel
theorem dX0_holds_29 : decode cX0_holds 29 = .ok (.aload_n 0, 1) := by decide +kernel
theorem dX0_holds_30 : decode cX0_holds 30 = .ok (.getfield 9, 3) := by decide +kernel
theorem dX0_holds_33 : decode cX0_holds 33 = .ok (.irem, 1) := by decide +kernel
theorem dX0_holds_34 : decode cX0_holds 34 = .ok (.istore_n 3, 1) := by decide +kernel
theorem dX0_holds_35 : decode cX0_holds 35 = .ok (.iload_n 2, 1) := by decide +kernel
theorem dX0_holds_36 : decode cX0_holds 36 = .ok (.iload_n 2, 1) := by decide +kernel
theorem dX0_holds_37 : decode cX0_holds 37 = .ok (.imul, 1) := by decide +kernel
theorem dX0_holds_38 : decode cX0_holds 38 = .ok (.aload_n 0, 1) := by decide +kernel
theorem dX0_holds_39 : decode cX0_holds 39 = .ok (.getfield 9, 3) := by decide +kernel
theorem dX0_holds_42 : decode cX0_holds 42 = .ok (.irem, 1) := by decide +kernel
theorem dX0_holds_43 : decode cX0_holds 43 = .ok (.istore 4, 2) := by decide +kernel
theorem dX0_holds_45 : decode cX0_holds 45 = .ok (.aload_n 0, 1) := by decide +kernel
theorem dX0_holds_46 : decode cX0_holds 46 = .ok (.getfield 9, 3) := by decide +kernel
theorem dX0_holds_49 : decode cX0_holds 49 = .ok (.iload_n 3, 1) := by decide +kernel
theorem dX0_holds_50 : decode cX0_holds 50 = .ok (.isub, 1) := by decide +kernel
theorem dX0_holds_51 : decode cX0_holds 51 = .ok (.iload 4, 2) := by decide +kernel
theorem dX0_holds_53 : decode cX0_holds 53 = .ok (.iadd, 1) := by decide +kernel
theorem dX0_holds_54 : decode cX0_holds 54 = .ok (.aload_n 0, 1) := by decide +kernel
theorem dX0_holds_55 : decode cX0_holds 55 = .ok (.getfield 9, 3) := by decide +kernel
theorem dX0_holds_58 : decode cX0_holds 58 = .ok (.irem, 1) := by decide +kernel
theorem dX0_holds_59 : decode cX0_holds 59 = .ok (.istore 5, 2) := by decide +kernel
theorem dX0_holds_61 : decode cX0_holds 61 = .ok (.iconst 1, 1) := by decide +kernel
theorem dX0_holds_62 : decode cX0_holds 62 = .ok (.aload_n 0, 1) := by decide +kernel
theorem dX0_holds_63 : decode cX0_holds 63 = .ok (.getfield 42, 3) := by decide +kernel
theorem dX0_holds_66 : decode cX0_holds 66 = .ok (.iload_n 3, 1) := by decide +kernel
theorem dX0_holds_67 : decode cX0_holds 67 = .ok (.iload 4, 2) := by decide +kernel
theorem dX0_holds_69 : decode cX0_holds 69 = .ok (.imul, 1) := by decide +kernel
theorem dX0_holds_70 : decode cX0_holds 70 = .ok (.aload_n 0, 1) := by decide +kernel
theorem dX0_holds_71 : decode cX0_holds 71 = .ok (.getfield 9, 3) := by decide +kernel
theorem dX0_holds_74 : decode cX0_holds 74 = .ok (.irem, 1) := by decide +kernel
theorem dX0_holds_75 : decode cX0_holds 75 = .ok (.imul, 1) := by decide +kernel
theorem dX0_holds_76 : decode cX0_holds 76 = .ok (.iadd, 1) := by decide +kernel
theorem dX0_holds_77 : decode cX0_holds 77 = .ok (.aload_n 0, 1) := by decide +kernel
theorem dX0_holds_78 : decode cX0_holds 78 = .ok (.getfield 9, 3) := by decide +kernel
theorem dX0_holds_81 : decode cX0_holds 81 = .ok (.irem, 1) := by decide +kernel
theorem dX0_holds_82 : decode cX0_holds 82 = .ok (.istore 6, 2) := by decide +kernel
theorem dX0_holds_84 : decode cX0_holds 84 = .ok (.iload 5, 2) := by decide +kernel
theorem dX0_holds_86 : decode cX0_holds 86 = .ok (.iload 6, 2) := by decide +kernel
theorem dX0_holds_88 : decode cX0_holds 88 = .ok (.if_icmp .ne 7, 3) := by decide +kernel
theorem dX0_holds_91 : decode cX0_holds 91 = .ok (.iconst 1, 1) := by decide +kernel
theorem dX0_holds_92 : decode cX0_holds 92 = .ok (.goto 4, 3) := by decide +kernel
theorem dX0_holds_95 : decode cX0_holds 95 = .ok (.iconst 0, 1) := by decide +kernel
theorem dX0_holds_96 : decode cX0_holds 96 = .ok (.ireturn, 1) := by decide +kernel
theorem dX0_read_0 : decode cX0_read 0 = .ok (.iload_n 1, 1) := by decide +kernel
theorem dX0_read_1 : decode cX0_read 1 = .ok (.ifCond .lt 22, 3) := by decide +kernel
theorem dX0_read_4 : decode cX0_read 4 = .ok (.iload_n 1, 1) := by decide +kernel
theorem dX0_read_5 : decode cX0_read 5 = .ok (.sipush 16384, 3) := by decide +kernel
theorem dX0_read_8 : decode cX0_read 8 = .ok (.if_icmp .ge 15, 3) := by decide +kernel
theorem dX0_read_11 : decode cX0_read 11 = .ok (.iload_n 1, 1) := by decide +kernel
theorem dX0_read_12 : decode cX0_read 12 = .ok (.sipush 8191, 3) := by decide +kernel
theorem dX0_read_15 : decode cX0_read 15 = .ok (.iand, 1) := by decide +kernel
theorem dX0_read_16 : decode cX0_read 16 = .ok (.aload_n 0, 1) := by decide +kernel
theorem dX0_read_17 : decode cX0_read 17 = .ok (.getfield 9, 3) := by decide +kernel
theorem dX0_read_20 : decode cX0_read 20 = .ok (.if_icmp .lt 5, 3) := by decide +kernel
theorem dX0_read_23 : decode cX0_read 23 = .ok (.iconst (-1), 1) := by decide +kernel
theorem dX0_read_24 : decode cX0_read 24 = .ok (.ireturn, 1) := by decide +kernel
theorem dX0_read_25 : decode cX0_read 25 = .ok (.iload_n 1, 1) := by decide +kernel
theorem dX0_read_26 : decode cX0_read 26 = .ok (.sipush 8191, 3) := by decide +kernel
theorem dX0_read_29 : decode cX0_read 29 = .ok (.iand, 1) := by decide +kernel
theorem dX0_read_30 : decode cX0_read 30 = .ok (.istore_n 2, 1) := by decide +kernel
theorem dX0_read_31 : decode cX0_read 31 = .ok (.iload_n 1, 1) := by decide +kernel
theorem dX0_read_32 : decode cX0_read 32 = .ok (.bipush 13, 2) := by decide +kernel
theorem dX0_read_34 : decode cX0_read 34 = .ok (.ishr, 1) := by decide +kernel
theorem dX0_read_35 : decode cX0_read 35 = .ok (.istore_n 3, 1) := by decide +kernel
theorem dX0_read_36 : decode cX0_read 36 = .ok (.aload_n 0, 1) := by decide +kernel
theorem dX0_read_37 : decode cX0_read 37 = .ok (.iload_n 2, 1) := by decide +kernel
theorem dX0_read_38 : decode cX0_read 38 = .ok (.invokevirtual 64, 3) := by decide +kernel
theorem dX0_read_41 : decode cX0_read 41 = .ok (.istore 4, 2) := by decide +kernel
theorem dX0_read_43 : decode cX0_read 43 = .ok (.iload 4, 2) := by decide +kernel
theorem dX0_read_45 : decode cX0_read 45 = .ok (.ifCond .lt 13, 3) := by decide +kernel
theorem dX0_read_48 : decode cX0_read 48 = .ok (.iload 4, 2) := by decide +kernel
theorem dX0_read_50 : decode cX0_read 50 = .ok (.ifCond .ne 10, 3) := by decide +kernel
theorem dX0_read_53 : decode cX0_read 53 = .ok (.iload_n 3, 1) := by decide +kernel
theorem dX0_read_54 : decode cX0_read 54 = .ok (.iconst 1, 1) := by decide +kernel
theorem dX0_read_55 : decode cX0_read 55 = .ok (.if_icmp .ne 5, 3) := by decide +kernel
theorem dX0_read_58 : decode cX0_read 58 = .ok (.iconst (-1), 1) := by decide +kernel
theorem dX0_read_59 : decode cX0_read 59 = .ok (.ireturn, 1) := by decide +kernel
theorem dX0_read_60 : decode cX0_read 60 = .ok (.iload 4, 2) := by decide +kernel
theorem dX0_read_62 : decode cX0_read 62 = .ok (.iconst 1, 1) := by decide +kernel
theorem dX0_read_63 : decode cX0_read 63 = .ok (.iand, 1) := by decide +kernel
theorem dX0_read_64 : decode cX0_read 64 = .ok (.iload_n 3, 1) := by decide +kernel
theorem dX0_read_65 : decode cX0_read 65 = .ok (.if_icmp .ne 8, 3) := by decide +kernel
theorem dX0_read_68 : decode cX0_read 68 = .ok (.iload 4, 2) := by decide +kernel
theorem dX0_read_70 : decode cX0_read 70 = .ok (.goto 10, 3) := by decide +kernel
theorem dX0_read_73 : decode cX0_read 73 = .ok (.aload_n 0, 1) := by decide +kernel
theorem dX0_read_74 : decode cX0_read 74 = .ok (.getfield 9, 3) := by decide +kernel
theorem dX0_read_77 : decode cX0_read 77 = .ok (.iload 4, 2) := by decide +kernel
theorem dX0_read_79 : decode cX0_read 79 = .ok (.isub, 1) := by decide +kernel
theorem dX0_read_80 : decode cX0_read 80 = .ok (.iload_n 2, 1) := by decide +kernel
theorem dX0_read_81 : decode cX0_read 81 = .ok (.invokestatic 67, 3) := by decide +kernel
theorem dX0_read_84 : decode cX0_read 84 = .ok (.ireturn, 1) := by decide +kernel
theorem dX0_other_0 : decode cX0_other 0 = .ok (.aload_n 0, 1) := by decide +kernel
theorem dX0_other_1 : decode cX0_other 1 = .ok (.getfield 9, 3) := by decide +kernel
theorem dX0_other_4 : decode cX0_other 4 = .ok (.iload_n 1, 1) := by decide +kernel
theorem dX0_other_5 : decode cX0_other 5 = .ok (.invokestatic 61, 3) := by decide +kernel
theorem dX0_other_8 : decode cX0_other 8 = .ok (.isub, 1) := by decide +kernel
theorem dX0_other_9 : decode cX0_other 9 = .ok (.aload_n 0, 1) := by decide +kernel
theorem dX0_other_10 : decode cX0_other 10 = .ok (.getfield 9, 3) := by decide +kernel
theorem dX0_other_13 : decode cX0_other 13 = .ok (.irem, 1) := by decide +kernel
theorem dX0_other_14 : decode cX0_other 14 = .ok (.iload_n 1, 1) := by decide +kernel
theorem dX0_other_15 : decode cX0_other 15 = .ok (.invokestatic 57, 3) := by decide +kernel
theorem dX0_other_18 : decode cX0_other 18 = .ok (.invokestatic 67, 3) := by decide +kernel
theorem dX0_other_21 : decode cX0_other 21 = .ok (.ireturn, 1) := by decide +kernel
theorem dX0_sum_0 : decode cX0_sum 0 = .ok (.iload_n 1, 1) := by decide +kernel
theorem dX0_sum_1 : decode cX0_sum 1 = .ok (.invokestatic 61, 3) := by decide +kernel
theorem dX0_sum_4 : decode cX0_sum 4 = .ok (.istore_n 3, 1) := by decide +kernel
theorem dX0_sum_5 : decode cX0_sum 5 = .ok (.iload_n 1, 1) := by decide +kernel
theorem dX0_sum_6 : decode cX0_sum 6 = .ok (.invokestatic 57, 3) := by decide +kernel
theorem dX0_sum_9 : decode cX0_sum 9 = .ok (.istore 4, 2) := by decide +kernel
theorem dX0_sum_11 : decode cX0_sum 11 = .ok (.iload_n 2, 1) := by decide +kernel
theorem dX0_sum_12 : decode cX0_sum 12 = .ok (.invokestatic 61, 3) := by decide +kernel
theorem dX0_sum_15 : decode cX0_sum 15 = .ok (.istore 5, 2) := by decide +kernel
theorem dX0_sum_17 : decode cX0_sum 17 = .ok (.iload_n 2, 1) := by decide +kernel
theorem dX0_sum_18 : decode cX0_sum 18 = .ok (.invokestatic 57, 3) := by decide +kernel
theorem dX0_sum_21 : decode cX0_sum 21 = .ok (.istore 6, 2) := by decide +kernel
theorem dX0_sum_23 : decode cX0_sum 23 = .ok (.aload_n 0, 1) := by decide +kernel
theorem dX0_sum_24 : decode cX0_sum 24 = .ok (.getfield 42, 3) := by decide +kernel
theorem dX0_sum_27 : decode cX0_sum 27 = .ok (.iload_n 3, 1) := by decide +kernel
theorem dX0_sum_28 : decode cX0_sum 28 = .ok (.iload 4, 2) := by decide +kernel
theorem dX0_sum_30 : decode cX0_sum 30 = .ok (.imul, 1) := by decide +kernel
theorem dX0_sum_31 : decode cX0_sum 31 = .ok (.aload_n 0, 1) := by decide +kernel
theorem dX0_sum_32 : decode cX0_sum 32 = .ok (.getfield 9, 3) := by decide +kernel
theorem dX0_sum_35 : decode cX0_sum 35 = .ok (.irem, 1) := by decide +kernel
theorem dX0_sum_36 : decode cX0_sum 36 = .ok (.imul, 1) := by decide +kernel
theorem dX0_sum_37 : decode cX0_sum 37 = .ok (.aload_n 0, 1) := by decide +kernel
theorem dX0_sum_38 : decode cX0_sum 38 = .ok (.getfield 9, 3) := by decide +kernel
theorem dX0_sum_41 : decode cX0_sum 41 = .ok (.irem, 1) := by decide +kernel
theorem dX0_sum_42 : decode cX0_sum 42 = .ok (.iload 5, 2) := by decide +kernel
theorem dX0_sum_44 : decode cX0_sum 44 = .ok (.iload 6, 2) := by decide +kernel
theorem dX0_sum_46 : decode cX0_sum 46 = .ok (.imul, 1) := by decide +kernel
theorem dX0_sum_47 : decode cX0_sum 47 = .ok (.aload_n 0, 1) := by decide +kernel
theorem dX0_sum_48 : decode cX0_sum 48 = .ok (.getfield 9, 3) := by decide +kernel
theorem dX0_sum_51 : decode cX0_sum 51 = .ok (.irem, 1) := by decide +kernel
theorem dX0_sum_52 : decode cX0_sum 52 = .ok (.imul, 1) := by decide +kernel
theorem dX0_sum_53 : decode cX0_sum 53 = .ok (.aload_n 0, 1) := by decide +kernel
theorem dX0_sum_54 : decode cX0_sum 54 = .ok (.getfield 9, 3) := by decide +kernel
theorem dX0_sum_57 : decode cX0_sum 57 = .ok (.irem, 1) := by decide +kernel
theorem dX0_sum_58 : decode cX0_sum 58 = .ok (.istore 7, 2) := by decide +kernel
theorem dX0_sum_60 : decode cX0_sum 60 = .ok (.iload_n 3, 1) := by decide +kernel
theorem dX0_sum_61 : decode cX0_sum 61 = .ok (.iload 6, 2) := by decide +kernel
theorem dX0_sum_63 : decode cX0_sum 63 = .ok (.imul, 1) := by decide +kernel
theorem dX0_sum_64 : decode cX0_sum 64 = .ok (.iload 4, 2) := by decide +kernel
theorem dX0_sum_66 : decode cX0_sum 66 = .ok (.iload 5, 2) := by decide +kernel
theorem dX0_sum_68 : decode cX0_sum 68 = .ok (.imul, 1) := by decide +kernel
theorem dX0_sum_69 : decode cX0_sum 69 = .ok (.iadd, 1) := by decide +kernel
theorem dX0_sum_70 : decode cX0_sum 70 = .ok (.aload_n 0, 1) := by decide +kernel
theorem dX0_sum_71 : decode cX0_sum 71 = .ok (.getfield 9, 3) := by decide +kernel
theorem dX0_sum_74 : decode cX0_sum 74 = .ok (.irem, 1) := by decide +kernel
theorem dX0_sum_75 : decode cX0_sum 75 = .ok (.aload_n 0, 1) := by decide +kernel
theorem dX0_sum_76 : decode cX0_sum 76 = .ok (.getfield 13, 3) := by decide +kernel
theorem dX0_sum_79 : decode cX0_sum 79 = .ok (.iconst 1, 1) := by decide +kernel
theorem dX0_sum_80 : decode cX0_sum 80 = .ok (.iload 7, 2) := by decide +kernel
theorem dX0_sum_82 : decode cX0_sum 82 = .ok (.iadd, 1) := by decide +kernel
theorem dX0_sum_83 : decode cX0_sum 83 = .ok (.aload_n 0, 1) := by decide +kernel
theorem dX0_sum_84 : decode cX0_sum 84 = .ok (.getfield 9, 3) := by decide +kernel
theorem dX0_sum_87 : decode cX0_sum 87 = .ok (.irem, 1) := by decide +kernel
theorem dX0_sum_88 : decode cX0_sum 88 = .ok (.iaload, 1) := by decide +kernel
theorem dX0_sum_89 : decode cX0_sum 89 = .ok (.imul, 1) := by decide +kernel
theorem dX0_sum_90 : decode cX0_sum 90 = .ok (.aload_n 0, 1) := by decide +kernel
theorem dX0_sum_91 : decode cX0_sum 91 = .ok (.getfield 9, 3) := by decide +kernel
theorem dX0_sum_94 : decode cX0_sum 94 = .ok (.irem, 1) := by decide +kernel
theorem dX0_sum_95 : decode cX0_sum 95 = .ok (.istore 8, 2) := by decide +kernel
theorem dX0_sum_97 : decode cX0_sum 97 = .ok (.iload 4, 2) := by decide +kernel
theorem dX0_sum_99 : decode cX0_sum 99 = .ok (.iload 6, 2) := by decide +kernel
theorem dX0_sum_101 : decode cX0_sum 101 = .ok (.imul, 1) := by decide +kernel
theorem dX0_sum_102 : decode cX0_sum 102 = .ok (.iload_n 3, 1) := by decide +kernel
theorem dX0_sum_103 : decode cX0_sum 103 = .ok (.iload 5, 2) := by decide +kernel
theorem dX0_sum_105 : decode cX0_sum 105 = .ok (.imul, 1) := by decide +kernel
theorem dX0_sum_106 : decode cX0_sum 106 = .ok (.iadd, 1) := by decide +kernel
theorem dX0_sum_107 : decode cX0_sum 107 = .ok (.aload_n 0, 1) := by decide +kernel
theorem dX0_sum_108 : decode cX0_sum 108 = .ok (.getfield 9, 3) := by decide +kernel
theorem dX0_sum_111 : decode cX0_sum 111 = .ok (.irem, 1) := by decide +kernel
theorem dX0_sum_112 : decode cX0_sum 112 = .ok (.aload_n 0, 1) := by decide +kernel
theorem dX0_sum_113 : decode cX0_sum 113 = .ok (.getfield 13, 3) := by decide +kernel
theorem dX0_sum_116 : decode cX0_sum 116 = .ok (.iconst 1, 1) := by decide +kernel
theorem dX0_sum_117 : decode cX0_sum 117 = .ok (.aload_n 0, 1) := by decide +kernel
theorem dX0_sum_118 : decode cX0_sum 118 = .ok (.getfield 9, 3) := by decide +kernel
theorem dX0_sum_121 : decode cX0_sum 121 = .ok (.iadd, 1) := by decide +kernel
theorem dX0_sum_122 : decode cX0_sum 122 = .ok (.iload 7, 2) := by decide +kernel
theorem dX0_sum_124 : decode cX0_sum 124 = .ok (.isub, 1) := by decide +kernel
theorem dX0_sum_125 : decode cX0_sum 125 = .ok (.aload_n 0, 1) := by decide +kernel
theorem dX0_sum_126 : decode cX0_sum 126 = .ok (.getfield 9, 3) := by decide +kernel
theorem dX0_sum_129 : decode cX0_sum 129 = .ok (.irem, 1) := by decide +kernel
theorem dX0_sum_130 : decode cX0_sum 130 = .ok (.iaload, 1) := by decide +kernel
theorem dX0_sum_131 : decode cX0_sum 131 = .ok (.imul, 1) := by decide +kernel
theorem dX0_sum_132 : decode cX0_sum 132 = .ok (.aload_n 0, 1) := by decide +kernel
theorem dX0_sum_133 : decode cX0_sum 133 = .ok (.getfield 9, 3) := by decide +kernel
theorem dX0_sum_136 : decode cX0_sum 136 = .ok (.irem, 1) := by decide +kernel
theorem dX0_sum_137 : decode cX0_sum 137 = .ok (.istore 9, 2) := by decide +kernel
theorem dX0_sum_139 : decode cX0_sum 139 = .ok (.iload 8, 2) := by decide +kernel
theorem dX0_sum_141 : decode cX0_sum 141 = .ok (.iload 9, 2) := by decide +kernel
theorem dX0_sum_143 : decode cX0_sum 143 = .ok (.invokestatic 67, 3) := by decide +kernel
theorem dX0_sum_146 : decode cX0_sum 146 = .ok (.ireturn, 1) := by decide +kernel
theorem dX0_multiple_0 : decode cX0_multiple 0 = .ok (.iconst 1, 1) := by decide +kernel
theorem dX0_multiple_1 : decode cX0_multiple 1 = .ok (.istore 4, 2) := by decide +kernel
theorem dX0_multiple_3 : decode cX0_multiple 3 = .ok (.iload_n 3, 1) := by decide +kernel
theorem dX0_multiple_4 : decode cX0_multiple 4 = .ok (.istore 5, 2) := by decide +kernel
theorem dX0_multiple_6 : decode cX0_multiple 6 = .ok (.lload_n 1, 1) := by decide +kernel
theorem dX0_multiple_7 : decode cX0_multiple 7 = .ok (.aload_n 0, 1) := by decide +kernel
theorem dX0_multiple_8 : decode cX0_multiple 8 = .ok (.getfield 51, 3) := by decide +kernel
theorem dX0_multiple_11 : decode cX0_multiple 11 = .ok (.i2l, 1) := by decide +kernel
theorem dX0_multiple_12 : decode cX0_multiple 12 = .ok (.invokestatic 71, 3) := by decide +kernel
theorem dX0_multiple_15 : decode cX0_multiple 15 = .ok (.l2i, 1) := by decide +kernel
theorem dX0_multiple_16 : decode cX0_multiple 16 = .ok (.istore 6, 2) := by decide +kernel
theorem dX0_multiple_18 : decode cX0_multiple 18 = .ok (.iload 6, 2) := by decide +kernel
theorem dX0_multiple_20 : decode cX0_multiple 20 = .ok (.ifCond .le 40, 3) := by decide +kernel
theorem dX0_multiple_23 : decode cX0_multiple 23 = .ok (.iload 6, 2) := by decide +kernel
theorem dX0_multiple_25 : decode cX0_multiple 25 = .ok (.iconst 1, 1) := by decide +kernel
theorem dX0_multiple_26 : decode cX0_multiple 26 = .ok (.iand, 1) := by decide +kernel
theorem dX0_multiple_27 : decode cX0_multiple 27 = .ok (.iconst 1, 1) := by decide +kernel
theorem dX0_multiple_28 : decode cX0_multiple 28 = .ok (.if_icmp .ne 13, 3) := by decide +kernel
theorem dX0_multiple_31 : decode cX0_multiple 31 = .ok (.aload_n 0, 1) := by decide +kernel
theorem dX0_multiple_32 : decode cX0_multiple 32 = .ok (.iload 4, 2) := by decide +kernel
theorem dX0_multiple_34 : decode cX0_multiple 34 = .ok (.iload 5, 2) := by decide +kernel
theorem dX0_multiple_36 : decode cX0_multiple 36 = .ok (.invokevirtual 77, 3) := by decide +kernel
theorem dX0_multiple_39 : decode cX0_multiple 39 = .ok (.istore 4, 2) := by decide +kernel
theorem dX0_multiple_41 : decode cX0_multiple 41 = .ok (.aload_n 0, 1) := by decide +kernel
theorem dX0_multiple_42 : decode cX0_multiple 42 = .ok (.iload 5, 2) := by decide +kernel
theorem dX0_multiple_44 : decode cX0_multiple 44 = .ok (.iload 5, 2) := by decide +kernel
theorem dX0_multiple_46 : decode cX0_multiple 46 = .ok (.invokevirtual 77, 3) := by decide +kernel
theorem dX0_multiple_49 : decode cX0_multiple 49 = .ok (.istore 5, 2) := by decide +kernel
theorem dX0_multiple_51 : decode cX0_multiple 51 = .ok (.iload 6, 2) := by decide +kernel
theorem dX0_multiple_53 : decode cX0_multiple 53 = .ok (.iconst 1, 1) := by decide +kernel
theorem dX0_multiple_54 : decode cX0_multiple 54 = .ok (.ishr, 1) := by decide +kernel
theorem dX0_multiple_55 : decode cX0_multiple 55 = .ok (.istore 6, 2) := by decide +kernel
theorem dX0_multiple_57 : decode cX0_multiple 57 = .ok (.goto (-39), 3) := by decide +kernel
theorem dX0_multiple_60 : decode cX0_multiple 60 = .ok (.iload 4, 2) := by decide +kernel
theorem dX0_multiple_62 : decode cX0_multiple 62 = .ok (.ireturn, 1) := by decide +kernel
theorem dX0_orderOf_0 : decode cX0_orderOf 0 = .ok (.aload_n 0, 1) := by decide +kernel
theorem dX0_orderOf_1 : decode cX0_orderOf 1 = .ok (.getfield 51, 3) := by decide +kernel
theorem dX0_orderOf_4 : decode cX0_orderOf 4 = .ok (.istore_n 2, 1) := by decide +kernel
theorem dX0_orderOf_5 : decode cX0_orderOf 5 = .ok (.iconst 0, 1) := by decide +kernel
theorem dX0_orderOf_6 : decode cX0_orderOf 6 = .ok (.istore_n 3, 1) := by decide +kernel
theorem dX0_orderOf_7 : decode cX0_orderOf 7 = .ok (.iload_n 3, 1) := by decide +kernel
theorem dX0_orderOf_8 : decode cX0_orderOf 8 = .ok (.aload_n 0, 1) := by decide +kernel
theorem dX0_orderOf_9 : decode cX0_orderOf 9 = .ok (.getfield 80, 3) := by decide +kernel
theorem dX0_orderOf_12 : decode cX0_orderOf 12 = .ok (.if_icmp .ge 34, 3) := by decide +kernel
theorem dX0_orderOf_15 : decode cX0_orderOf 15 = .ok (.iload_n 2, 1) := by decide +kernel
theorem dX0_orderOf_16 : decode cX0_orderOf 16 = .ok (.aload_n 0, 1) := by decide +kernel
theorem dX0_orderOf_17 : decode cX0_orderOf 17 = .ok (.getfield 20, 3) := by decide +kernel
theorem dX0_orderOf_20 : decode cX0_orderOf 20 = .ok (.iload_n 3, 1) := by decide +kernel
theorem dX0_orderOf_21 : decode cX0_orderOf 21 = .ok (.iaload, 1) := by decide +kernel
theorem dX0_orderOf_22 : decode cX0_orderOf 22 = .ok (.idiv, 1) := by decide +kernel
theorem dX0_orderOf_23 : decode cX0_orderOf 23 = .ok (.istore 4, 2) := by decide +kernel
theorem dX0_orderOf_25 : decode cX0_orderOf 25 = .ok (.aload_n 0, 1) := by decide +kernel
theorem dX0_orderOf_26 : decode cX0_orderOf 26 = .ok (.iload 4, 2) := by decide +kernel
theorem dX0_orderOf_28 : decode cX0_orderOf 28 = .ok (.i2l, 1) := by decide +kernel
theorem dX0_orderOf_29 : decode cX0_orderOf 29 = .ok (.iload_n 1, 1) := by decide +kernel
theorem dX0_orderOf_30 : decode cX0_orderOf 30 = .ok (.invokevirtual 83, 3) := by decide +kernel
theorem dX0_orderOf_33 : decode cX0_orderOf 33 = .ok (.iconst 1, 1) := by decide +kernel
theorem dX0_orderOf_34 : decode cX0_orderOf 34 = .ok (.if_icmp .ne 6, 3) := by decide +kernel
theorem dX0_orderOf_37 : decode cX0_orderOf 37 = .ok (.iload 4, 2) := by decide +kernel
theorem dX0_orderOf_39 : decode cX0_orderOf 39 = .ok (.istore_n 2, 1) := by decide +kernel
theorem dX0_orderOf_40 : decode cX0_orderOf 40 = .ok (.iinc 3 1, 3) := by decide +kernel
theorem dX0_orderOf_43 : decode cX0_orderOf 43 = .ok (.goto (-36), 3) := by decide +kernel
theorem dX0_orderOf_46 : decode cX0_orderOf 46 = .ok (.iload_n 2, 1) := by decide +kernel
theorem dX0_orderOf_47 : decode cX0_orderOf 47 = .ok (.ireturn, 1) := by decide +kernel
theorem dX0_leastOfGreatestOrder_0 : decode cX0_leastOfGreatestOrder 0 = .ok (.iconst 0, 1) := by decide +kernel
theorem dX0_leastOfGreatestOrder_1 : decode cX0_leastOfGreatestOrder 1 = .ok (.istore_n 1, 1) := by decide +kernel
theorem dX0_leastOfGreatestOrder_2 : decode cX0_leastOfGreatestOrder 2 = .ok (.iconst 0, 1) := by decide +kernel
theorem dX0_leastOfGreatestOrder_3 : decode cX0_leastOfGreatestOrder 3 = .ok (.istore_n 2, 1) := by decide +kernel
theorem dX0_leastOfGreatestOrder_4 : decode cX0_leastOfGreatestOrder 4 = .ok (.iconst 0, 1) := by decide +kernel
theorem dX0_leastOfGreatestOrder_5 : decode cX0_leastOfGreatestOrder 5 = .ok (.istore_n 3, 1) := by decide +kernel
theorem dX0_leastOfGreatestOrder_6 : decode cX0_leastOfGreatestOrder 6 = .ok (.iload_n 3, 1) := by decide +kernel
theorem dX0_leastOfGreatestOrder_7 : decode cX0_leastOfGreatestOrder 7 = .ok (.sipush 16384, 3) := by decide +kernel
theorem dX0_leastOfGreatestOrder_10 : decode cX0_leastOfGreatestOrder 10 = .ok (.if_icmp .ge 53, 3) := by decide +kernel
theorem dX0_leastOfGreatestOrder_13 : decode cX0_leastOfGreatestOrder 13 = .ok (.iload_n 1, 1) := by decide +kernel
theorem dX0_leastOfGreatestOrder_14 : decode cX0_leastOfGreatestOrder 14 = .ok (.aload_n 0, 1) := by decide +kernel
theorem dX0_leastOfGreatestOrder_15 : decode cX0_leastOfGreatestOrder 15 = .ok (.getfield 51, 3) := by decide +kernel
theorem dX0_leastOfGreatestOrder_18 : decode cX0_leastOfGreatestOrder 18 = .ok (.if_icmp .ge 45, 3) := by decide +kernel
theorem dX0_leastOfGreatestOrder_21 : decode cX0_leastOfGreatestOrder 21 = .ok (.aload_n 0, 1) := by decide +kernel
theorem dX0_leastOfGreatestOrder_22 : decode cX0_leastOfGreatestOrder 22 = .ok (.iload_n 3, 1) := by decide +kernel
theorem dX0_leastOfGreatestOrder_23 : decode cX0_leastOfGreatestOrder 23 = .ok (.invokevirtual 87, 3) := by decide +kernel
theorem dX0_leastOfGreatestOrder_26 : decode cX0_leastOfGreatestOrder 26 = .ok (.istore 4, 2) := by decide +kernel
theorem dX0_leastOfGreatestOrder_28 : decode cX0_leastOfGreatestOrder 28 = .ok (.iload 4, 2) := by decide +kernel
theorem dX0_leastOfGreatestOrder_30 : decode cX0_leastOfGreatestOrder 30 = .ok (.iconst (-1), 1) := by decide +kernel
theorem dX0_leastOfGreatestOrder_31 : decode cX0_leastOfGreatestOrder 31 = .ok (.if_icmp .ne 7, 3) := by decide +kernel
theorem dX0_leastOfGreatestOrder_34 : decode cX0_leastOfGreatestOrder 34 = .ok (.iconst 0, 1) := by decide +kernel
theorem dX0_leastOfGreatestOrder_35 : decode cX0_leastOfGreatestOrder 35 = .ok (.goto 9, 3) := by decide +kernel
theorem dX0_leastOfGreatestOrder_38 : decode cX0_leastOfGreatestOrder 38 = .ok (.aload_n 0, 1) := by decide +kernel
theorem dX0_leastOfGreatestOrder_39 : decode cX0_leastOfGreatestOrder 39 = .ok (.iload 4, 2) := by decide +kernel
theorem dX0_leastOfGreatestOrder_41 : decode cX0_leastOfGreatestOrder 41 = .ok (.invokevirtual 90, 3) := by decide +kernel
theorem dX0_leastOfGreatestOrder_44 : decode cX0_leastOfGreatestOrder 44 = .ok (.istore 5, 2) := by decide +kernel
theorem dX0_leastOfGreatestOrder_46 : decode cX0_leastOfGreatestOrder 46 = .ok (.iload 5, 2) := by decide +kernel
theorem dX0_leastOfGreatestOrder_48 : decode cX0_leastOfGreatestOrder 48 = .ok (.iload_n 1, 1) := by decide +kernel
theorem dX0_leastOfGreatestOrder_49 : decode cX0_leastOfGreatestOrder 49 = .ok (.if_icmp .le 8, 3) := by decide +kernel
theorem dX0_leastOfGreatestOrder_52 : decode cX0_leastOfGreatestOrder 52 = .ok (.iload 5, 2) := by decide +kernel
theorem dX0_leastOfGreatestOrder_54 : decode cX0_leastOfGreatestOrder 54 = .ok (.istore_n 1, 1) := by decide +kernel
theorem dX0_leastOfGreatestOrder_55 : decode cX0_leastOfGreatestOrder 55 = .ok (.iload_n 3, 1) := by decide +kernel
theorem dX0_leastOfGreatestOrder_56 : decode cX0_leastOfGreatestOrder 56 = .ok (.istore_n 2, 1) := by decide +kernel
theorem dX0_leastOfGreatestOrder_57 : decode cX0_leastOfGreatestOrder 57 = .ok (.iinc 3 1, 3) := by decide +kernel
theorem dX0_leastOfGreatestOrder_60 : decode cX0_leastOfGreatestOrder 60 = .ok (.goto (-54), 3) := by decide +kernel
theorem dX0_leastOfGreatestOrder_63 : decode cX0_leastOfGreatestOrder 63 = .ok (.iload_n 2, 1) := by decide +kernel
theorem dX0_leastOfGreatestOrder_64 : decode cX0_leastOfGreatestOrder 64 = .ok (.ireturn, 1) := by decide +kernel
theorem dX0_stepsTo_0 : decode cX0_stepsTo 0 = .ok (.aload_n 0, 1) := by decide +kernel
theorem dX0_stepsTo_1 : decode cX0_stepsTo 1 = .ok (.iload_n 1, 1) := by decide +kernel
theorem dX0_stepsTo_2 : decode cX0_stepsTo 2 = .ok (.invokevirtual 93, 3) := by decide +kernel
theorem dX0_stepsTo_5 : decode cX0_stepsTo 5 = .ok (.aload_n 0, 1) := by decide +kernel
theorem dX0_stepsTo_6 : decode cX0_stepsTo 6 = .ok (.aload_n 0, 1) := by decide +kernel
theorem dX0_stepsTo_7 : decode cX0_stepsTo 7 = .ok (.ldc2_w 97, 3) := by decide +kernel
theorem dX0_stepsTo_10 : decode cX0_stepsTo 10 = .ok (.iload_n 1, 1) := by decide +kernel
theorem dX0_stepsTo_11 : decode cX0_stepsTo 11 = .ok (.invokevirtual 83, 3) := by decide +kernel
theorem dX0_stepsTo_14 : decode cX0_stepsTo 14 = .ok (.invokevirtual 99, 3) := by decide +kernel
theorem dX0_stepsTo_17 : decode cX0_stepsTo 17 = .ok (.istore_n 3, 1) := by decide +kernel
theorem dX0_stepsTo_18 : decode cX0_stepsTo 18 = .ok (.iload_n 2, 1) := by decide +kernel
theorem dX0_stepsTo_19 : decode cX0_stepsTo 19 = .ok (.istore 4, 2) := by decide +kernel
theorem dX0_stepsTo_21 : decode cX0_stepsTo 21 = .ok (.iconst 0, 1) := by decide +kernel
theorem dX0_stepsTo_22 : decode cX0_stepsTo 22 = .ok (.istore 5, 2) := by decide +kernel
theorem dX0_stepsTo_24 : decode cX0_stepsTo 24 = .ok (.iload 5, 2) := by decide +kernel
theorem dX0_stepsTo_26 : decode cX0_stepsTo 26 = .ok (.aload_n 0, 1) := by decide +kernel
theorem dX0_stepsTo_27 : decode cX0_stepsTo 27 = .ok (.getfield 51, 3) := by decide +kernel
theorem dX0_stepsTo_30 : decode cX0_stepsTo 30 = .ok (.if_icmp .ge 45, 3) := by decide +kernel
theorem dX0_stepsTo_33 : decode cX0_stepsTo 33 = .ok (.aload_n 0, 1) := by decide +kernel
theorem dX0_stepsTo_34 : decode cX0_stepsTo 34 = .ok (.getfield 23, 3) := by decide +kernel
theorem dX0_stepsTo_37 : decode cX0_stepsTo 37 = .ok (.aload_n 0, 1) := by decide +kernel
theorem dX0_stepsTo_38 : decode cX0_stepsTo 38 = .ok (.iload 4, 2) := by decide +kernel
theorem dX0_stepsTo_40 : decode cX0_stepsTo 40 = .ok (.invokevirtual 102, 3) := by decide +kernel
theorem dX0_stepsTo_43 : decode cX0_stepsTo 43 = .ok (.iaload, 1) := by decide +kernel
theorem dX0_stepsTo_44 : decode cX0_stepsTo 44 = .ok (.istore 6, 2) := by decide +kernel
theorem dX0_stepsTo_46 : decode cX0_stepsTo 46 = .ok (.iload 6, 2) := by decide +kernel
theorem dX0_stepsTo_48 : decode cX0_stepsTo 48 = .ok (.ifCond .lt 9, 3) := by decide +kernel
theorem dX0_stepsTo_51 : decode cX0_stepsTo 51 = .ok (.iload 5, 2) := by decide +kernel
theorem dX0_stepsTo_53 : decode cX0_stepsTo 53 = .ok (.iload 6, 2) := by decide +kernel
theorem dX0_stepsTo_55 : decode cX0_stepsTo 55 = .ok (.iadd, 1) := by decide +kernel
theorem dX0_stepsTo_56 : decode cX0_stepsTo 56 = .ok (.ireturn, 1) := by decide +kernel
theorem dX0_stepsTo_57 : decode cX0_stepsTo 57 = .ok (.aload_n 0, 1) := by decide +kernel
theorem dX0_stepsTo_58 : decode cX0_stepsTo 58 = .ok (.iload 4, 2) := by decide +kernel
theorem dX0_stepsTo_60 : decode cX0_stepsTo 60 = .ok (.iload_n 3, 1) := by decide +kernel
theorem dX0_stepsTo_61 : decode cX0_stepsTo 61 = .ok (.invokevirtual 77, 3) := by decide +kernel
theorem dX0_stepsTo_64 : decode cX0_stepsTo 64 = .ok (.istore 4, 2) := by decide +kernel
theorem dX0_stepsTo_66 : decode cX0_stepsTo 66 = .ok (.iinc 5 128, 6) := by decide +kernel
theorem dX0_stepsTo_72 : decode cX0_stepsTo 72 = .ok (.goto (-48), 3) := by decide +kernel
theorem dX0_stepsTo_75 : decode cX0_stepsTo 75 = .ok (.iconst (-1), 1) := by decide +kernel
theorem dX0_stepsTo_76 : decode cX0_stepsTo 76 = .ok (.ireturn, 1) := by decide +kernel
theorem dX0_howManyHalves_0 : decode cX0_howManyHalves 0 = .ok (.aload_n 0, 1) := by decide +kernel
theorem dX0_howManyHalves_1 : decode cX0_howManyHalves 1 = .ok (.invokevirtual 105, 3) := by decide +kernel
theorem dX0_howManyHalves_4 : decode cX0_howManyHalves 4 = .ok (.aload_n 0, 1) := by decide +kernel
theorem dX0_howManyHalves_5 : decode cX0_howManyHalves 5 = .ok (.getfield 29, 3) := by decide +kernel
theorem dX0_howManyHalves_8 : decode cX0_howManyHalves 8 = .ok (.aload_n 0, 1) := by decide +kernel
theorem dX0_howManyHalves_9 : decode cX0_howManyHalves 9 = .ok (.iload_n 1, 1) := by decide +kernel
theorem dX0_howManyHalves_10 : decode cX0_howManyHalves 10 = .ok (.invokevirtual 102, 3) := by decide +kernel
theorem dX0_howManyHalves_13 : decode cX0_howManyHalves 13 = .ok (.iaload, 1) := by decide +kernel
theorem dX0_howManyHalves_14 : decode cX0_howManyHalves 14 = .ok (.ireturn, 1) := by decide +kernel
theorem dX0_leastHalf_0 : decode cX0_leastHalf 0 = .ok (.aload_n 0, 1) := by decide +kernel
theorem dX0_leastHalf_1 : decode cX0_leastHalf 1 = .ok (.invokevirtual 105, 3) := by decide +kernel
theorem dX0_leastHalf_4 : decode cX0_leastHalf 4 = .ok (.aload_n 0, 1) := by decide +kernel
theorem dX0_leastHalf_5 : decode cX0_leastHalf 5 = .ok (.getfield 26, 3) := by decide +kernel
theorem dX0_leastHalf_8 : decode cX0_leastHalf 8 = .ok (.aload_n 0, 1) := by decide +kernel
theorem dX0_leastHalf_9 : decode cX0_leastHalf 9 = .ok (.iload_n 1, 1) := by decide +kernel
theorem dX0_leastHalf_10 : decode cX0_leastHalf 10 = .ok (.invokevirtual 102, 3) := by decide +kernel
theorem dX0_leastHalf_13 : decode cX0_leastHalf 13 = .ok (.iaload, 1) := by decide +kernel
theorem dX0_leastHalf_14 : decode cX0_leastHalf 14 = .ok (.ireturn, 1) := by decide +kernel
theorem dX0_markSmallSteps_0 : decode cX0_markSmallSteps 0 = .ok (.aload_n 0, 1) := by decide +kernel
theorem dX0_markSmallSteps_1 : decode cX0_markSmallSteps 1 = .ok (.getfield 23, 3) := by decide +kernel
theorem dX0_markSmallSteps_4 : decode cX0_markSmallSteps 4 = .ok (.iconst (-1), 1) := by decide +kernel
theorem dX0_markSmallSteps_5 : decode cX0_markSmallSteps 5 = .ok (.invokestatic 108, 3) := by decide +kernel
theorem dX0_markSmallSteps_8 : decode cX0_markSmallSteps 8 = .ok (.iconst 1, 1) := by decide +kernel
theorem dX0_markSmallSteps_9 : decode cX0_markSmallSteps 9 = .ok (.istore_n 2, 1) := by decide +kernel
theorem dX0_markSmallSteps_10 : decode cX0_markSmallSteps 10 = .ok (.iconst 0, 1) := by decide +kernel
theorem dX0_markSmallSteps_11 : decode cX0_markSmallSteps 11 = .ok (.istore_n 3, 1) := by decide +kernel
theorem dX0_markSmallSteps_12 : decode cX0_markSmallSteps 12 = .ok (.iload_n 3, 1) := by decide +kernel
theorem dX0_markSmallSteps_13 : decode cX0_markSmallSteps 13 = .ok (.sipush 128, 3) := by decide +kernel
theorem dX0_markSmallSteps_16 : decode cX0_markSmallSteps 16 = .ok (.if_icmp .ge 41, 3) := by decide +kernel
theorem dX0_markSmallSteps_19 : decode cX0_markSmallSteps 19 = .ok (.aload_n 0, 1) := by decide +kernel
theorem dX0_markSmallSteps_20 : decode cX0_markSmallSteps 20 = .ok (.iload_n 2, 1) := by decide +kernel
theorem dX0_markSmallSteps_21 : decode cX0_markSmallSteps 21 = .ok (.invokevirtual 102, 3) := by decide +kernel
theorem dX0_markSmallSteps_24 : decode cX0_markSmallSteps 24 = .ok (.istore 4, 2) := by decide +kernel
theorem dX0_markSmallSteps_26 : decode cX0_markSmallSteps 26 = .ok (.aload_n 0, 1) := by decide +kernel
theorem dX0_markSmallSteps_27 : decode cX0_markSmallSteps 27 = .ok (.getfield 23, 3) := by decide +kernel
theorem dX0_markSmallSteps_30 : decode cX0_markSmallSteps 30 = .ok (.iload 4, 2) := by decide +kernel
theorem dX0_markSmallSteps_32 : decode cX0_markSmallSteps 32 = .ok (.iaload, 1) := by decide +kernel
theorem dX0_markSmallSteps_33 : decode cX0_markSmallSteps 33 = .ok (.ifCond .ge 11, 3) := by decide +kernel
theorem dX0_markSmallSteps_36 : decode cX0_markSmallSteps 36 = .ok (.aload_n 0, 1) := by decide +kernel
theorem dX0_markSmallSteps_37 : decode cX0_markSmallSteps 37 = .ok (.getfield 23, 3) := by decide +kernel
theorem dX0_markSmallSteps_40 : decode cX0_markSmallSteps 40 = .ok (.iload 4, 2) := by decide +kernel
theorem dX0_markSmallSteps_42 : decode cX0_markSmallSteps 42 = .ok (.iload_n 3, 1) := by decide +kernel
theorem dX0_markSmallSteps_43 : decode cX0_markSmallSteps 43 = .ok (.iastore, 1) := by decide +kernel
theorem dX0_markSmallSteps_44 : decode cX0_markSmallSteps 44 = .ok (.aload_n 0, 1) := by decide +kernel
theorem dX0_markSmallSteps_45 : decode cX0_markSmallSteps 45 = .ok (.iload_n 2, 1) := by decide +kernel
theorem dX0_markSmallSteps_46 : decode cX0_markSmallSteps 46 = .ok (.iload_n 1, 1) := by decide +kernel
theorem dX0_markSmallSteps_47 : decode cX0_markSmallSteps 47 = .ok (.invokevirtual 77, 3) := by decide +kernel
theorem dX0_markSmallSteps_50 : decode cX0_markSmallSteps 50 = .ok (.istore_n 2, 1) := by decide +kernel
theorem dX0_markSmallSteps_51 : decode cX0_markSmallSteps 51 = .ok (.iinc 3 1, 3) := by decide +kernel
theorem dX0_markSmallSteps_54 : decode cX0_markSmallSteps 54 = .ok (.goto (-42), 3) := by decide +kernel
theorem dX0_markSmallSteps_57 : decode cX0_markSmallSteps 57 = .ok (.return_, 1) := by decide +kernel
theorem dX0_fillHalves_0 : decode cX0_fillHalves 0 = .ok (.aload_n 0, 1) := by decide +kernel
theorem dX0_fillHalves_1 : decode cX0_fillHalves 1 = .ok (.getfield 114, 3) := by decide +kernel
theorem dX0_fillHalves_4 : decode cX0_fillHalves 4 = .ok (.ifCond .eq 4, 3) := by decide +kernel
theorem dX0_fillHalves_7 : decode cX0_fillHalves 7 = .ok (.return_, 1) := by decide +kernel
theorem dX0_fillHalves_8 : decode cX0_fillHalves 8 = .ok (.iconst 0, 1) := by decide +kernel
theorem dX0_fillHalves_9 : decode cX0_fillHalves 9 = .ok (.istore_n 1, 1) := by decide +kernel
theorem dX0_fillHalves_10 : decode cX0_fillHalves 10 = .ok (.iload_n 1, 1) := by decide +kernel
theorem dX0_fillHalves_11 : decode cX0_fillHalves 11 = .ok (.sipush 16384, 3) := by decide +kernel
theorem dX0_fillHalves_14 : decode cX0_fillHalves 14 = .ok (.if_icmp .ge 25, 3) := by decide +kernel
theorem dX0_fillHalves_17 : decode cX0_fillHalves 17 = .ok (.aload_n 0, 1) := by decide +kernel
theorem dX0_fillHalves_18 : decode cX0_fillHalves 18 = .ok (.iload_n 1, 1) := by decide +kernel
theorem dX0_fillHalves_19 : decode cX0_fillHalves 19 = .ok (.invokevirtual 87, 3) := by decide +kernel
theorem dX0_fillHalves_22 : decode cX0_fillHalves 22 = .ok (.istore_n 2, 1) := by decide +kernel
theorem dX0_fillHalves_23 : decode cX0_fillHalves 23 = .ok (.iload_n 2, 1) := by decide +kernel
theorem dX0_fillHalves_24 : decode cX0_fillHalves 24 = .ok (.iconst (-1), 1) := by decide +kernel
theorem dX0_fillHalves_25 : decode cX0_fillHalves 25 = .ok (.if_icmp .eq 8, 3) := by decide +kernel
theorem dX0_fillHalves_28 : decode cX0_fillHalves 28 = .ok (.aload_n 0, 1) := by decide +kernel
theorem dX0_fillHalves_29 : decode cX0_fillHalves 29 = .ok (.iload_n 2, 1) := by decide +kernel
theorem dX0_fillHalves_30 : decode cX0_fillHalves 30 = .ok (.invokevirtual 118, 3) := by decide +kernel
theorem dX0_fillHalves_33 : decode cX0_fillHalves 33 = .ok (.iinc 1 1, 3) := by decide +kernel
theorem dX0_fillHalves_36 : decode cX0_fillHalves 36 = .ok (.goto (-26), 3) := by decide +kernel
theorem dX0_fillHalves_39 : decode cX0_fillHalves 39 = .ok (.aload_n 0, 1) := by decide +kernel
theorem dX0_fillHalves_40 : decode cX0_fillHalves 40 = .ok (.iconst 1, 1) := by decide +kernel
theorem dX0_fillHalves_41 : decode cX0_fillHalves 41 = .ok (.putfield 114, 3) := by decide +kernel
theorem dX0_fillHalves_44 : decode cX0_fillHalves 44 = .ok (.return_, 1) := by decide +kernel
theorem dX0_countHalf_0 : decode cX0_countHalf 0 = .ok (.aload_n 0, 1) := by decide +kernel
theorem dX0_countHalf_1 : decode cX0_countHalf 1 = .ok (.aload_n 0, 1) := by decide +kernel
theorem dX0_countHalf_2 : decode cX0_countHalf 2 = .ok (.iload_n 1, 1) := by decide +kernel
theorem dX0_countHalf_3 : decode cX0_countHalf 3 = .ok (.iload_n 1, 1) := by decide +kernel
theorem dX0_countHalf_4 : decode cX0_countHalf 4 = .ok (.invokevirtual 77, 3) := by decide +kernel
theorem dX0_countHalf_7 : decode cX0_countHalf 7 = .ok (.invokevirtual 102, 3) := by decide +kernel
theorem dX0_countHalf_10 : decode cX0_countHalf 10 = .ok (.istore_n 2, 1) := by decide +kernel
theorem dX0_countHalf_11 : decode cX0_countHalf 11 = .ok (.aload_n 0, 1) := by decide +kernel
theorem dX0_countHalf_12 : decode cX0_countHalf 12 = .ok (.getfield 29, 3) := by decide +kernel
theorem dX0_countHalf_15 : decode cX0_countHalf 15 = .ok (.iload_n 2, 1) := by decide +kernel
theorem dX0_countHalf_16 : decode cX0_countHalf 16 = .ok (.iaload, 1) := by decide +kernel
theorem dX0_countHalf_17 : decode cX0_countHalf 17 = .ok (.ifCond .ne 10, 3) := by decide +kernel
theorem dX0_countHalf_20 : decode cX0_countHalf 20 = .ok (.aload_n 0, 1) := by decide +kernel
theorem dX0_countHalf_21 : decode cX0_countHalf 21 = .ok (.getfield 26, 3) := by decide +kernel
theorem dX0_countHalf_24 : decode cX0_countHalf 24 = .ok (.iload_n 2, 1) := by decide +kernel
theorem dX0_countHalf_25 : decode cX0_countHalf 25 = .ok (.iload_n 1, 1) := by decide +kernel
theorem dX0_countHalf_26 : decode cX0_countHalf 26 = .ok (.iastore, 1) := by decide +kernel
theorem dX0_countHalf_27 : decode cX0_countHalf 27 = .ok (.aload_n 0, 1) := by decide +kernel
theorem dX0_countHalf_28 : decode cX0_countHalf 28 = .ok (.getfield 29, 3) := by decide +kernel
theorem dX0_countHalf_31 : decode cX0_countHalf 31 = .ok (.iload_n 2, 1) := by decide +kernel
theorem dX0_countHalf_32 : decode cX0_countHalf 32 = .ok (.dup2, 1) := by decide +kernel
theorem dX0_countHalf_33 : decode cX0_countHalf 33 = .ok (.iaload, 1) := by decide +kernel
theorem dX0_countHalf_34 : decode cX0_countHalf 34 = .ok (.iconst 1, 1) := by decide +kernel
theorem dX0_countHalf_35 : decode cX0_countHalf 35 = .ok (.iadd, 1) := by decide +kernel
theorem dX0_countHalf_36 : decode cX0_countHalf 36 = .ok (.iastore, 1) := by decide +kernel
theorem dX0_countHalf_37 : decode cX0_countHalf 37 = .ok (.return_, 1) := by decide +kernel
theorem dX0_place_0 : decode cX0_place 0 = .ok (.iconst 2, 1) := by decide +kernel
theorem dX0_place_1 : decode cX0_place 1 = .ok (.iload_n 1, 1) := by decide +kernel
theorem dX0_place_2 : decode cX0_place 2 = .ok (.invokestatic 57, 3) := by decide +kernel
theorem dX0_place_5 : decode cX0_place 5 = .ok (.imul, 1) := by decide +kernel
theorem dX0_place_6 : decode cX0_place 6 = .ok (.iload_n 1, 1) := by decide +kernel
theorem dX0_place_7 : decode cX0_place 7 = .ok (.invokestatic 61, 3) := by decide +kernel
theorem dX0_place_10 : decode cX0_place 10 = .ok (.iconst 1, 1) := by decide +kernel
theorem dX0_place_11 : decode cX0_place 11 = .ok (.iand, 1) := by decide +kernel
theorem dX0_place_12 : decode cX0_place 12 = .ok (.iadd, 1) := by decide +kernel
theorem dX0_place_13 : decode cX0_place 13 = .ok (.ireturn, 1) := by decide +kernel
theorem dX0_rootFor_0 : decode cX0_rootFor 0 = .ok (.iload_n 1, 1) := by decide +kernel
theorem dX0_rootFor_1 : decode cX0_rootFor 1 = .ok (.iload_n 1, 1) := by decide +kernel
theorem dX0_rootFor_2 : decode cX0_rootFor 2 = .ok (.imul, 1) := by decide +kernel
theorem dX0_rootFor_3 : decode cX0_rootFor 3 = .ok (.aload_n 0, 1) := by decide +kernel
theorem dX0_rootFor_4 : decode cX0_rootFor 4 = .ok (.getfield 9, 3) := by decide +kernel
theorem dX0_rootFor_7 : decode cX0_rootFor 7 = .ok (.irem, 1) := by decide +kernel
theorem dX0_rootFor_8 : decode cX0_rootFor 8 = .ok (.istore_n 2, 1) := by decide +kernel
theorem dX0_rootFor_9 : decode cX0_rootFor 9 = .ok (.iconst 1, 1) := by decide +kernel
theorem dX0_rootFor_10 : decode cX0_rootFor 10 = .ok (.aload_n 0, 1) := by decide +kernel
theorem dX0_rootFor_11 : decode cX0_rootFor 11 = .ok (.getfield 42, 3) := by decide +kernel
theorem dX0_rootFor_14 : decode cX0_rootFor 14 = .ok (.iload_n 2, 1) := by decide +kernel
theorem dX0_rootFor_15 : decode cX0_rootFor 15 = .ok (.imul, 1) := by decide +kernel
theorem dX0_rootFor_16 : decode cX0_rootFor 16 = .ok (.iadd, 1) := by decide +kernel
theorem dX0_rootFor_17 : decode cX0_rootFor 17 = .ok (.aload_n 0, 1) := by decide +kernel
theorem dX0_rootFor_18 : decode cX0_rootFor 18 = .ok (.getfield 9, 3) := by decide +kernel
theorem dX0_rootFor_21 : decode cX0_rootFor 21 = .ok (.irem, 1) := by decide +kernel
theorem dX0_rootFor_22 : decode cX0_rootFor 22 = .ok (.istore_n 3, 1) := by decide +kernel
theorem dX0_rootFor_23 : decode cX0_rootFor 23 = .ok (.aload_n 0, 1) := by decide +kernel
theorem dX0_rootFor_24 : decode cX0_rootFor 24 = .ok (.getfield 17, 3) := by decide +kernel
theorem dX0_rootFor_27 : decode cX0_rootFor 27 = .ok (.iload_n 2, 1) := by decide +kernel
theorem dX0_rootFor_28 : decode cX0_rootFor 28 = .ok (.aload_n 0, 1) := by decide +kernel
theorem dX0_rootFor_29 : decode cX0_rootFor 29 = .ok (.getfield 9, 3) := by decide +kernel
theorem dX0_rootFor_32 : decode cX0_rootFor 32 = .ok (.iadd, 1) := by decide +kernel
theorem dX0_rootFor_33 : decode cX0_rootFor 33 = .ok (.iconst 1, 1) := by decide +kernel
theorem dX0_rootFor_34 : decode cX0_rootFor 34 = .ok (.isub, 1) := by decide +kernel
theorem dX0_rootFor_35 : decode cX0_rootFor 35 = .ok (.aload_n 0, 1) := by decide +kernel
theorem dX0_rootFor_36 : decode cX0_rootFor 36 = .ok (.getfield 9, 3) := by decide +kernel
theorem dX0_rootFor_39 : decode cX0_rootFor 39 = .ok (.irem, 1) := by decide +kernel
theorem dX0_rootFor_40 : decode cX0_rootFor 40 = .ok (.aload_n 0, 1) := by decide +kernel
theorem dX0_rootFor_41 : decode cX0_rootFor 41 = .ok (.getfield 13, 3) := by decide +kernel
theorem dX0_rootFor_44 : decode cX0_rootFor 44 = .ok (.iload_n 3, 1) := by decide +kernel
theorem dX0_rootFor_45 : decode cX0_rootFor 45 = .ok (.iaload, 1) := by decide +kernel
theorem dX0_rootFor_46 : decode cX0_rootFor 46 = .ok (.imul, 1) := by decide +kernel
theorem dX0_rootFor_47 : decode cX0_rootFor 47 = .ok (.aload_n 0, 1) := by decide +kernel
theorem dX0_rootFor_48 : decode cX0_rootFor 48 = .ok (.getfield 9, 3) := by decide +kernel
theorem dX0_rootFor_51 : decode cX0_rootFor 51 = .ok (.irem, 1) := by decide +kernel
theorem dX0_rootFor_52 : decode cX0_rootFor 52 = .ok (.iaload, 1) := by decide +kernel
theorem dX0_rootFor_53 : decode cX0_rootFor 53 = .ok (.ireturn, 1) := by decide +kernel
theorem dX0_fillInverses_0 : decode cX0_fillInverses 0 = .ok (.aload_n 0, 1) := by decide +kernel
theorem dX0_fillInverses_1 : decode cX0_fillInverses 1 = .ok (.getfield 13, 3) := by decide +kernel
theorem dX0_fillInverses_4 : decode cX0_fillInverses 4 = .ok (.iconst 1, 1) := by decide +kernel
theorem dX0_fillInverses_5 : decode cX0_fillInverses 5 = .ok (.iconst 1, 1) := by decide +kernel
theorem dX0_fillInverses_6 : decode cX0_fillInverses 6 = .ok (.iastore, 1) := by decide +kernel
theorem dX0_fillInverses_7 : decode cX0_fillInverses 7 = .ok (.iconst 2, 1) := by decide +kernel
theorem dX0_fillInverses_8 : decode cX0_fillInverses 8 = .ok (.istore_n 1, 1) := by decide +kernel
theorem dX0_fillInverses_9 : decode cX0_fillInverses 9 = .ok (.iload_n 1, 1) := by decide +kernel
theorem dX0_fillInverses_10 : decode cX0_fillInverses 10 = .ok (.aload_n 0, 1) := by decide +kernel
theorem dX0_fillInverses_11 : decode cX0_fillInverses 11 = .ok (.getfield 9, 3) := by decide +kernel
theorem dX0_fillInverses_14 : decode cX0_fillInverses 14 = .ok (.if_icmp .ge 43, 3) := by decide +kernel
theorem dX0_fillInverses_17 : decode cX0_fillInverses 17 = .ok (.aload_n 0, 1) := by decide +kernel
theorem dX0_fillInverses_18 : decode cX0_fillInverses 18 = .ok (.getfield 13, 3) := by decide +kernel
theorem dX0_fillInverses_21 : decode cX0_fillInverses 21 = .ok (.iload_n 1, 1) := by decide +kernel
theorem dX0_fillInverses_22 : decode cX0_fillInverses 22 = .ok (.aload_n 0, 1) := by decide +kernel
theorem dX0_fillInverses_23 : decode cX0_fillInverses 23 = .ok (.getfield 9, 3) := by decide +kernel
theorem dX0_fillInverses_26 : decode cX0_fillInverses 26 = .ok (.aload_n 0, 1) := by decide +kernel
theorem dX0_fillInverses_27 : decode cX0_fillInverses 27 = .ok (.getfield 9, 3) := by decide +kernel
theorem dX0_fillInverses_30 : decode cX0_fillInverses 30 = .ok (.iload_n 1, 1) := by decide +kernel
theorem dX0_fillInverses_31 : decode cX0_fillInverses 31 = .ok (.idiv, 1) := by decide +kernel
theorem dX0_fillInverses_32 : decode cX0_fillInverses 32 = .ok (.isub, 1) := by decide +kernel
theorem dX0_fillInverses_33 : decode cX0_fillInverses 33 = .ok (.aload_n 0, 1) := by decide +kernel
theorem dX0_fillInverses_34 : decode cX0_fillInverses 34 = .ok (.getfield 13, 3) := by decide +kernel
theorem dX0_fillInverses_37 : decode cX0_fillInverses 37 = .ok (.aload_n 0, 1) := by decide +kernel
theorem dX0_fillInverses_38 : decode cX0_fillInverses 38 = .ok (.getfield 9, 3) := by decide +kernel
theorem dX0_fillInverses_41 : decode cX0_fillInverses 41 = .ok (.iload_n 1, 1) := by decide +kernel
theorem dX0_fillInverses_42 : decode cX0_fillInverses 42 = .ok (.irem, 1) := by decide +kernel
theorem dX0_fillInverses_43 : decode cX0_fillInverses 43 = .ok (.iaload, 1) := by decide +kernel
theorem dX0_fillInverses_44 : decode cX0_fillInverses 44 = .ok (.imul, 1) := by decide +kernel
theorem dX0_fillInverses_45 : decode cX0_fillInverses 45 = .ok (.aload_n 0, 1) := by decide +kernel
theorem dX0_fillInverses_46 : decode cX0_fillInverses 46 = .ok (.getfield 9, 3) := by decide +kernel
theorem dX0_fillInverses_49 : decode cX0_fillInverses 49 = .ok (.irem, 1) := by decide +kernel
theorem dX0_fillInverses_50 : decode cX0_fillInverses 50 = .ok (.iastore, 1) := by decide +kernel
theorem dX0_fillInverses_51 : decode cX0_fillInverses 51 = .ok (.iinc 1 1, 3) := by decide +kernel
theorem dX0_fillInverses_54 : decode cX0_fillInverses 54 = .ok (.goto (-45), 3) := by decide +kernel
theorem dX0_fillInverses_57 : decode cX0_fillInverses 57 = .ok (.return_, 1) := by decide +kernel
theorem dX0_fillRoots_0 : decode cX0_fillRoots 0 = .ok (.aload_n 0, 1) := by decide +kernel
theorem dX0_fillRoots_1 : decode cX0_fillRoots 1 = .ok (.getfield 17, 3) := by decide +kernel
theorem dX0_fillRoots_4 : decode cX0_fillRoots 4 = .ok (.iconst (-1), 1) := by decide +kernel
theorem dX0_fillRoots_5 : decode cX0_fillRoots 5 = .ok (.invokestatic 108, 3) := by decide +kernel
theorem dX0_fillRoots_8 : decode cX0_fillRoots 8 = .ok (.iconst 0, 1) := by decide +kernel
theorem dX0_fillRoots_9 : decode cX0_fillRoots 9 = .ok (.istore_n 1, 1) := by decide +kernel
theorem dX0_fillRoots_10 : decode cX0_fillRoots 10 = .ok (.iload_n 1, 1) := by decide +kernel
theorem dX0_fillRoots_11 : decode cX0_fillRoots 11 = .ok (.aload_n 0, 1) := by decide +kernel
theorem dX0_fillRoots_12 : decode cX0_fillRoots 12 = .ok (.getfield 9, 3) := by decide +kernel
theorem dX0_fillRoots_15 : decode cX0_fillRoots 15 = .ok (.iconst 2, 1) := by decide +kernel
theorem dX0_fillRoots_16 : decode cX0_fillRoots 16 = .ok (.idiv, 1) := by decide +kernel
theorem dX0_fillRoots_17 : decode cX0_fillRoots 17 = .ok (.if_icmp .gt 23, 3) := by decide +kernel
theorem dX0_fillRoots_20 : decode cX0_fillRoots 20 = .ok (.aload_n 0, 1) := by decide +kernel
theorem dX0_fillRoots_21 : decode cX0_fillRoots 21 = .ok (.getfield 17, 3) := by decide +kernel
theorem dX0_fillRoots_24 : decode cX0_fillRoots 24 = .ok (.iload_n 1, 1) := by decide +kernel
theorem dX0_fillRoots_25 : decode cX0_fillRoots 25 = .ok (.iload_n 1, 1) := by decide +kernel
theorem dX0_fillRoots_26 : decode cX0_fillRoots 26 = .ok (.imul, 1) := by decide +kernel
theorem dX0_fillRoots_27 : decode cX0_fillRoots 27 = .ok (.aload_n 0, 1) := by decide +kernel
theorem dX0_fillRoots_28 : decode cX0_fillRoots 28 = .ok (.getfield 9, 3) := by decide +kernel
theorem dX0_fillRoots_31 : decode cX0_fillRoots 31 = .ok (.irem, 1) := by decide +kernel
theorem dX0_fillRoots_32 : decode cX0_fillRoots 32 = .ok (.iload_n 1, 1) := by decide +kernel
theorem dX0_fillRoots_33 : decode cX0_fillRoots 33 = .ok (.iastore, 1) := by decide +kernel
theorem dX0_fillRoots_34 : decode cX0_fillRoots 34 = .ok (.iinc 1 1, 3) := by decide +kernel
theorem dX0_fillRoots_37 : decode cX0_fillRoots 37 = .ok (.goto (-27), 3) := by decide +kernel
theorem dX0_fillRoots_40 : decode cX0_fillRoots 40 = .ok (.return_, 1) := by decide +kernel
theorem dX0_leastNonSquare_0 : decode cX0_leastNonSquare 0 = .ok (.iconst 2, 1) := by decide +kernel
theorem dX0_leastNonSquare_1 : decode cX0_leastNonSquare 1 = .ok (.istore_n 1, 1) := by decide +kernel
theorem dX0_leastNonSquare_2 : decode cX0_leastNonSquare 2 = .ok (.iload_n 1, 1) := by decide +kernel
theorem dX0_leastNonSquare_3 : decode cX0_leastNonSquare 3 = .ok (.aload_n 0, 1) := by decide +kernel
theorem dX0_leastNonSquare_4 : decode cX0_leastNonSquare 4 = .ok (.getfield 9, 3) := by decide +kernel
theorem dX0_leastNonSquare_7 : decode cX0_leastNonSquare 7 = .ok (.iconst 1, 1) := by decide +kernel
theorem dX0_leastNonSquare_8 : decode cX0_leastNonSquare 8 = .ok (.isub, 1) := by decide +kernel
theorem dX0_leastNonSquare_9 : decode cX0_leastNonSquare 9 = .ok (.if_icmp .ge 18, 3) := by decide +kernel
theorem dX0_leastNonSquare_12 : decode cX0_leastNonSquare 12 = .ok (.aload_n 0, 1) := by decide +kernel
theorem dX0_leastNonSquare_13 : decode cX0_leastNonSquare 13 = .ok (.getfield 17, 3) := by decide +kernel
theorem dX0_leastNonSquare_16 : decode cX0_leastNonSquare 16 = .ok (.iload_n 1, 1) := by decide +kernel
theorem dX0_leastNonSquare_17 : decode cX0_leastNonSquare 17 = .ok (.iaload, 1) := by decide +kernel
theorem dX0_leastNonSquare_18 : decode cX0_leastNonSquare 18 = .ok (.ifCond .lt 9, 3) := by decide +kernel
theorem dX0_leastNonSquare_21 : decode cX0_leastNonSquare 21 = .ok (.iinc 1 1, 3) := by decide +kernel
theorem dX0_leastNonSquare_24 : decode cX0_leastNonSquare 24 = .ok (.goto (-22), 3) := by decide +kernel
theorem dX0_leastNonSquare_27 : decode cX0_leastNonSquare 27 = .ok (.iload_n 1, 1) := by decide +kernel
theorem dX0_leastNonSquare_28 : decode cX0_leastNonSquare 28 = .ok (.ireturn, 1) := by decide +kernel
theorem dX0_countPoints_0 : decode cX0_countPoints 0 = .ok (.iconst 0, 1) := by decide +kernel
theorem dX0_countPoints_1 : decode cX0_countPoints 1 = .ok (.istore_n 1, 1) := by decide +kernel
theorem dX0_countPoints_2 : decode cX0_countPoints 2 = .ok (.iconst 0, 1) := by decide +kernel
theorem dX0_countPoints_3 : decode cX0_countPoints 3 = .ok (.istore_n 2, 1) := by decide +kernel
theorem dX0_countPoints_4 : decode cX0_countPoints 4 = .ok (.iload_n 2, 1) := by decide +kernel
theorem dX0_countPoints_5 : decode cX0_countPoints 5 = .ok (.aload_n 0, 1) := by decide +kernel
theorem dX0_countPoints_6 : decode cX0_countPoints 6 = .ok (.getfield 9, 3) := by decide +kernel
theorem dX0_countPoints_9 : decode cX0_countPoints 9 = .ok (.if_icmp .ge 31, 3) := by decide +kernel
theorem dX0_countPoints_12 : decode cX0_countPoints 12 = .ok (.aload_n 0, 1) := by decide +kernel
theorem dX0_countPoints_13 : decode cX0_countPoints 13 = .ok (.iload_n 2, 1) := by decide +kernel
theorem dX0_countPoints_14 : decode cX0_countPoints 14 = .ok (.invokevirtual 64, 3) := by decide +kernel
theorem dX0_countPoints_17 : decode cX0_countPoints 17 = .ok (.istore_n 3, 1) := by decide +kernel
theorem dX0_countPoints_18 : decode cX0_countPoints 18 = .ok (.iload_n 3, 1) := by decide +kernel
theorem dX0_countPoints_19 : decode cX0_countPoints 19 = .ok (.ifCond .lt 15, 3) := by decide +kernel
theorem dX0_countPoints_22 : decode cX0_countPoints 22 = .ok (.iload_n 1, 1) := by decide +kernel
theorem dX0_countPoints_23 : decode cX0_countPoints 23 = .ok (.iload_n 3, 1) := by decide +kernel
theorem dX0_countPoints_24 : decode cX0_countPoints 24 = .ok (.ifCond .ne 7, 3) := by decide +kernel
theorem dX0_countPoints_27 : decode cX0_countPoints 27 = .ok (.iconst 1, 1) := by decide +kernel
theorem dX0_countPoints_28 : decode cX0_countPoints 28 = .ok (.goto 4, 3) := by decide +kernel
theorem dX0_countPoints_31 : decode cX0_countPoints 31 = .ok (.iconst 2, 1) := by decide +kernel
theorem dX0_countPoints_32 : decode cX0_countPoints 32 = .ok (.iadd, 1) := by decide +kernel
theorem dX0_countPoints_33 : decode cX0_countPoints 33 = .ok (.istore_n 1, 1) := by decide +kernel
theorem dX0_countPoints_34 : decode cX0_countPoints 34 = .ok (.iinc 2 1, 3) := by decide +kernel
theorem dX0_countPoints_37 : decode cX0_countPoints 37 = .ok (.goto (-33), 3) := by decide +kernel
theorem dX0_countPoints_40 : decode cX0_countPoints 40 = .ok (.iload_n 1, 1) := by decide +kernel
theorem dX0_countPoints_41 : decode cX0_countPoints 41 = .ok (.ireturn, 1) := by decide +kernel
theorem dX0_fillFactors_0 : decode cX0_fillFactors 0 = .ok (.aload_n 0, 1) := by decide +kernel
theorem dX0_fillFactors_1 : decode cX0_fillFactors 1 = .ok (.getfield 51, 3) := by decide +kernel
theorem dX0_fillFactors_4 : decode cX0_fillFactors 4 = .ok (.istore_n 1, 1) := by decide +kernel
theorem dX0_fillFactors_5 : decode cX0_fillFactors 5 = .ok (.iconst 2, 1) := by decide +kernel
theorem dX0_fillFactors_6 : decode cX0_fillFactors 6 = .ok (.istore_n 2, 1) := by decide +kernel
theorem dX0_fillFactors_7 : decode cX0_fillFactors 7 = .ok (.iload_n 2, 1) := by decide +kernel
theorem dX0_fillFactors_8 : decode cX0_fillFactors 8 = .ok (.iload_n 1, 1) := by decide +kernel
theorem dX0_fillFactors_9 : decode cX0_fillFactors 9 = .ok (.if_icmp .gt 51, 3) := by decide +kernel
theorem dX0_fillFactors_12 : decode cX0_fillFactors 12 = .ok (.iload_n 1, 1) := by decide +kernel
theorem dX0_fillFactors_13 : decode cX0_fillFactors 13 = .ok (.iload_n 2, 1) := by decide +kernel
theorem dX0_fillFactors_14 : decode cX0_fillFactors 14 = .ok (.irem, 1) := by decide +kernel
theorem dX0_fillFactors_15 : decode cX0_fillFactors 15 = .ok (.ifCond .ne 39, 3) := by decide +kernel
theorem dX0_fillFactors_18 : decode cX0_fillFactors 18 = .ok (.aload_n 0, 1) := by decide +kernel
theorem dX0_fillFactors_19 : decode cX0_fillFactors 19 = .ok (.getfield 80, 3) := by decide +kernel
theorem dX0_fillFactors_22 : decode cX0_fillFactors 22 = .ok (.bipush 14, 2) := by decide +kernel
theorem dX0_fillFactors_24 : decode cX0_fillFactors 24 = .ok (.if_icmp .ge 30, 3) := by decide +kernel
theorem dX0_fillFactors_27 : decode cX0_fillFactors 27 = .ok (.aload_n 0, 1) := by decide +kernel
theorem dX0_fillFactors_28 : decode cX0_fillFactors 28 = .ok (.getfield 20, 3) := by decide +kernel
theorem dX0_fillFactors_31 : decode cX0_fillFactors 31 = .ok (.aload_n 0, 1) := by decide +kernel
theorem dX0_fillFactors_32 : decode cX0_fillFactors 32 = .ok (.getfield 80, 3) := by decide +kernel
theorem dX0_fillFactors_35 : decode cX0_fillFactors 35 = .ok (.iload_n 2, 1) := by decide +kernel
theorem dX0_fillFactors_36 : decode cX0_fillFactors 36 = .ok (.iastore, 1) := by decide +kernel
theorem dX0_fillFactors_37 : decode cX0_fillFactors 37 = .ok (.iload_n 1, 1) := by decide +kernel
theorem dX0_fillFactors_38 : decode cX0_fillFactors 38 = .ok (.iload_n 2, 1) := by decide +kernel
theorem dX0_fillFactors_39 : decode cX0_fillFactors 39 = .ok (.idiv, 1) := by decide +kernel
theorem dX0_fillFactors_40 : decode cX0_fillFactors 40 = .ok (.istore_n 1, 1) := by decide +kernel
theorem dX0_fillFactors_41 : decode cX0_fillFactors 41 = .ok (.aload_n 0, 1) := by decide +kernel
theorem dX0_fillFactors_42 : decode cX0_fillFactors 42 = .ok (.dup, 1) := by decide +kernel
theorem dX0_fillFactors_43 : decode cX0_fillFactors 43 = .ok (.getfield 80, 3) := by decide +kernel
theorem dX0_fillFactors_46 : decode cX0_fillFactors 46 = .ok (.iconst 1, 1) := by decide +kernel
theorem dX0_fillFactors_47 : decode cX0_fillFactors 47 = .ok (.iadd, 1) := by decide +kernel
theorem dX0_fillFactors_48 : decode cX0_fillFactors 48 = .ok (.putfield 80, 3) := by decide +kernel
theorem dX0_fillFactors_51 : decode cX0_fillFactors 51 = .ok (.goto (-39), 3) := by decide +kernel
theorem dX0_fillFactors_54 : decode cX0_fillFactors 54 = .ok (.iinc 2 1, 3) := by decide +kernel
theorem dX0_fillFactors_57 : decode cX0_fillFactors 57 = .ok (.goto (-50), 3) := by decide +kernel
theorem dX0_fillFactors_60 : decode cX0_fillFactors 60 = .ok (.return_, 1) := by decide +kernel
theorem dJ9_floorMod_0 : decode cJ9_floorMod 0 = .ok (.lload_n 0, 1) := by decide +kernel
theorem dJ9_floorMod_1 : decode cJ9_floorMod 1 = .ok (.lload_n 2, 1) := by decide +kernel
theorem dJ9_floorMod_2 : decode cJ9_floorMod 2 = .ok (.lrem, 1) := by decide +kernel
theorem dJ9_floorMod_3 : decode cJ9_floorMod 3 = .ok (.lstore 4, 2) := by decide +kernel
theorem dJ9_floorMod_5 : decode cJ9_floorMod 5 = .ok (.lload_n 0, 1) := by decide +kernel
theorem dJ9_floorMod_6 : decode cJ9_floorMod 6 = .ok (.lload_n 2, 1) := by decide +kernel
theorem dJ9_floorMod_7 : decode cJ9_floorMod 7 = .ok (.lxor, 1) := by decide +kernel
theorem dJ9_floorMod_8 : decode cJ9_floorMod 8 = .ok (.lconst 0, 1) := by decide +kernel
theorem dJ9_floorMod_9 : decode cJ9_floorMod 9 = .ok (.lcmp, 1) := by decide +kernel
theorem dJ9_floorMod_10 : decode cJ9_floorMod 10 = .ok (.ifCond .ge 15, 3) := by decide +kernel
theorem dJ9_floorMod_13 : decode cJ9_floorMod 13 = .ok (.lload 4, 2) := by decide +kernel
theorem dJ9_floorMod_15 : decode cJ9_floorMod 15 = .ok (.lconst 0, 1) := by decide +kernel
theorem dJ9_floorMod_16 : decode cJ9_floorMod 16 = .ok (.lcmp, 1) := by decide +kernel
theorem dJ9_floorMod_17 : decode cJ9_floorMod 17 = .ok (.ifCond .eq 8, 3) := by decide +kernel
theorem dJ9_floorMod_20 : decode cJ9_floorMod 20 = .ok (.lload 4, 2) := by decide +kernel
theorem dJ9_floorMod_22 : decode cJ9_floorMod 22 = .ok (.lload_n 2, 1) := by decide +kernel
theorem dJ9_floorMod_23 : decode cJ9_floorMod 23 = .ok (.ladd, 1) := by decide +kernel
theorem dJ9_floorMod_24 : decode cJ9_floorMod 24 = .ok (.lreturn, 1) := by decide +kernel
theorem dJ9_floorMod_25 : decode cJ9_floorMod 25 = .ok (.lload 4, 2) := by decide +kernel
theorem dJ9_floorMod_27 : decode cJ9_floorMod 27 = .ok (.lreturn, 1) := by decide +kernel
theorem dJ7_fill_0 : decode cJ7_fill 0 = .ok (.iconst 0, 1) := by decide +kernel
theorem dJ7_fill_1 : decode cJ7_fill 1 = .ok (.istore_n 2, 1) := by decide +kernel
theorem dJ7_fill_2 : decode cJ7_fill 2 = .ok (.aload_n 0, 1) := by decide +kernel
theorem dJ7_fill_3 : decode cJ7_fill 3 = .ok (.arraylength, 1) := by decide +kernel
theorem dJ7_fill_4 : decode cJ7_fill 4 = .ok (.istore_n 3, 1) := by decide +kernel
theorem dJ7_fill_5 : decode cJ7_fill 5 = .ok (.iload_n 2, 1) := by decide +kernel
theorem dJ7_fill_6 : decode cJ7_fill 6 = .ok (.iload_n 3, 1) := by decide +kernel
theorem dJ7_fill_7 : decode cJ7_fill 7 = .ok (.if_icmp .ge 13, 3) := by decide +kernel
theorem dJ7_fill_10 : decode cJ7_fill 10 = .ok (.aload_n 0, 1) := by decide +kernel
theorem dJ7_fill_11 : decode cJ7_fill 11 = .ok (.iload_n 2, 1) := by decide +kernel
theorem dJ7_fill_12 : decode cJ7_fill 12 = .ok (.iload_n 1, 1) := by decide +kernel
theorem dJ7_fill_13 : decode cJ7_fill 13 = .ok (.iastore, 1) := by decide +kernel
theorem dJ7_fill_14 : decode cJ7_fill 14 = .ok (.iinc 2 1, 3) := by decide +kernel
theorem dJ7_fill_17 : decode cJ7_fill 17 = .ok (.goto (-12), 3) := by decide +kernel
theorem dJ7_fill_20 : decode cJ7_fill 20 = .ok (.return_, 1) := by decide +kernel
