theorem dX2_init_0 : decode cX2_init 0 = .ok (.aload_n 0, 1) := by decide +kernel
theorem dX2_init_1 : decode cX2_init 1 = .ok (.invokespecial 1, 3) := by decide +kernel
theorem dX2_init_4 : decode cX2_init 4 = .ok (.aload_n 0, 1) := by decide +kernel
theorem dX2_init_5 : decode cX2_init 5 = .ok (.bipush 13, 2) := by decide +kernel
theorem dX2_init_7 : decode cX2_init 7 = .ok (.putfield 7, 3) := by decide +kernel
theorem dX2_init_10 : decode cX2_init 10 = .ok (.aload_n 0, 1) := by decide +kernel
theorem dX2_init_11 : decode cX2_init 11 = .ok (.bipush 12, 2) := by decide +kernel
theorem dX2_init_13 : decode cX2_init 13 = .ok (.newarray .int, 2) := by decide +kernel
theorem dX2_init_15 : decode cX2_init 15 = .ok (.putfield 13, 3) := by decide +kernel
theorem dX2_init_18 : decode cX2_init 18 = .ok (.aload_n 0, 1) := by decide +kernel
theorem dX2_init_19 : decode cX2_init 19 = .ok (.bipush 12, 2) := by decide +kernel
theorem dX2_init_21 : decode cX2_init 21 = .ok (.newarray .int, 2) := by decide +kernel
theorem dX2_init_23 : decode cX2_init 23 = .ok (.putfield 17, 3) := by decide +kernel
theorem dX2_init_26 : decode cX2_init 26 = .ok (.aload_n 0, 1) := by decide +kernel
theorem dX2_init_27 : decode cX2_init 27 = .ok (.sipush 8101, 3) := by decide +kernel
theorem dX2_init_30 : decode cX2_init 30 = .ok (.newarray .int, 2) := by decide +kernel
theorem dX2_init_32 : decode cX2_init 32 = .ok (.putfield 20, 3) := by decide +kernel
theorem dX2_init_35 : decode cX2_init 35 = .ok (.aload_n 0, 1) := by decide +kernel
theorem dX2_init_36 : decode cX2_init 36 = .ok (.iconst 5, 1) := by decide +kernel
theorem dX2_init_37 : decode cX2_init 37 = .ok (.newarray .int, 2) := by decide +kernel
theorem dX2_init_39 : decode cX2_init 39 = .ok (.putfield 23, 3) := by decide +kernel
theorem dX2_init_42 : decode cX2_init 42 = .ok (.aload_n 0, 1) := by decide +kernel
theorem dX2_init_43 : decode cX2_init 43 = .ok (.iconst 0, 1) := by decide +kernel
theorem dX2_init_44 : decode cX2_init 44 = .ok (.invokevirtual 26, 3) := by decide +kernel
theorem dX2_init_47 : decode cX2_init 47 = .ok (.return_, 1) := by decide +kernel
theorem dX2_thrown_0 : decode cX2_thrown 0 = .ok (.aload_n 0, 1) := by decide +kernel
theorem dX2_thrown_1 : decode cX2_thrown 1 = .ok (.getfield 30, 3) := by decide +kernel
theorem dX2_thrown_4 : decode cX2_thrown 4 = .ok (.ireturn, 1) := by decide +kernel
theorem dX2_none_0 : decode cX2_none 0 = .ok (.iload_n 0, 1) := by decide +kernel
theorem dX2_none_1 : decode cX2_none 1 = .ok (.ifCond .lt 9, 3) := by decide +kernel
theorem dX2_none_4 : decode cX2_none 4 = .ok (.iload_n 0, 1) := by decide +kernel
theorem dX2_none_5 : decode cX2_none 5 = .ok (.bipush 11, 2) := by decide +kernel
theorem dX2_none_7 : decode cX2_none 7 = .ok (.if_icmp .le 7, 3) := by decide +kernel
theorem dX2_none_10 : decode cX2_none 10 = .ok (.iconst 1, 1) := by decide +kernel
theorem dX2_none_11 : decode cX2_none 11 = .ok (.goto 4, 3) := by decide +kernel
theorem dX2_none_14 : decode cX2_none 14 = .ok (.iconst 0, 1) := by decide +kernel
theorem dX2_none_15 : decode cX2_none 15 = .ok (.ireturn, 1) := by decide +kernel
theorem dX2_set_0 : decode cX2_set 0 = .ok (.aload_n 0, 1) := by decide +kernel
theorem dX2_set_1 : decode cX2_set 1 = .ok (.iload_n 1, 1) := by decide +kernel
theorem dX2_set_2 : decode cX2_set 2 = .ok (.putfield 33, 3) := by decide +kernel
theorem dX2_set_5 : decode cX2_set 5 = .ok (.aload_n 0, 1) := by decide +kernel
theorem dX2_set_6 : decode cX2_set 6 = .ok (.iload_n 1, 1) := by decide +kernel
theorem dX2_set_7 : decode cX2_set 7 = .ok (.ifCond .ne 8, 3) := by decide +kernel
theorem dX2_set_10 : decode cX2_set 10 = .ok (.bipush 13, 2) := by decide +kernel
theorem dX2_set_12 : decode cX2_set 12 = .ok (.goto 37, 3) := by decide +kernel
theorem dX2_set_15 : decode cX2_set 15 = .ok (.iload_n 1, 1) := by decide +kernel
theorem dX2_set_16 : decode cX2_set 16 = .ok (.iconst 1, 1) := by decide +kernel
theorem dX2_set_17 : decode cX2_set 17 = .ok (.if_icmp .ne 8, 3) := by decide +kernel
theorem dX2_set_20 : decode cX2_set 20 = .ok (.bipush 61, 2) := by decide +kernel
theorem dX2_set_22 : decode cX2_set 22 = .ok (.goto 27, 3) := by decide +kernel
theorem dX2_set_25 : decode cX2_set 25 = .ok (.iload_n 1, 1) := by decide +kernel
theorem dX2_set_26 : decode cX2_set 26 = .ok (.iconst 2, 1) := by decide +kernel
theorem dX2_set_27 : decode cX2_set 27 = .ok (.if_icmp .ne 8, 3) := by decide +kernel
theorem dX2_set_30 : decode cX2_set 30 = .ok (.bipush 109, 2) := by decide +kernel
theorem dX2_set_32 : decode cX2_set 32 = .ok (.goto 17, 3) := by decide +kernel
theorem dX2_set_35 : decode cX2_set 35 = .ok (.iload_n 1, 1) := by decide +kernel
theorem dX2_set_36 : decode cX2_set 36 = .ok (.iconst 3, 1) := by decide +kernel
theorem dX2_set_37 : decode cX2_set 37 = .ok (.if_icmp .ne 9, 3) := by decide +kernel
theorem dX2_set_40 : decode cX2_set 40 = .ok (.sipush 1009, 3) := by decide +kernel
theorem dX2_set_43 : decode cX2_set 43 = .ok (.goto 6, 3) := by decide +kernel
theorem dX2_set_46 : decode cX2_set 46 = .ok (.sipush 8101, 3) := by decide +kernel
theorem dX2_set_49 : decode cX2_set 49 = .ok (.putfield 7, 3) := by decide +kernel
theorem dX2_set_52 : decode cX2_set 52 = .ok (.iconst 0, 1) := by decide +kernel
theorem dX2_set_53 : decode cX2_set 53 = .ok (.istore_n 2, 1) := by decide +kernel
theorem dX2_set_54 : decode cX2_set 54 = .ok (.iload_n 2, 1) := by decide +kernel
theorem dX2_set_55 : decode cX2_set 55 = .ok (.aload_n 0, 1) := by decide +kernel
theorem dX2_set_56 : decode cX2_set 56 = .ok (.getfield 7, 3) := by decide +kernel
theorem dX2_set_59 : decode cX2_set 59 = .ok (.if_icmp .ge 16, 3) := by decide +kernel
theorem dX2_set_62 : decode cX2_set 62 = .ok (.aload_n 0, 1) := by decide +kernel
theorem dX2_set_63 : decode cX2_set 63 = .ok (.getfield 20, 3) := by decide +kernel
theorem dX2_set_66 : decode cX2_set 66 = .ok (.iload_n 2, 1) := by decide +kernel
theorem dX2_set_67 : decode cX2_set 67 = .ok (.iconst (-1), 1) := by decide +kernel
theorem dX2_set_68 : decode cX2_set 68 = .ok (.iastore, 1) := by decide +kernel
theorem dX2_set_69 : decode cX2_set 69 = .ok (.iinc 2 1, 3) := by decide +kernel
theorem dX2_set_72 : decode cX2_set 72 = .ok (.goto (-18), 3) := by decide +kernel
theorem dX2_set_75 : decode cX2_set 75 = .ok (.aload_n 0, 1) := by decide +kernel
theorem dX2_set_76 : decode cX2_set 76 = .ok (.getfield 7, 3) := by decide +kernel
theorem dX2_set_79 : decode cX2_set 79 = .ok (.iconst 1, 1) := by decide +kernel
theorem dX2_set_80 : decode cX2_set 80 = .ok (.isub, 1) := by decide +kernel
theorem dX2_set_81 : decode cX2_set 81 = .ok (.istore_n 2, 1) := by decide +kernel
theorem dX2_set_82 : decode cX2_set 82 = .ok (.iload_n 2, 1) := by decide +kernel
theorem dX2_set_83 : decode cX2_set 83 = .ok (.ifCond .lt 23, 3) := by decide +kernel
theorem dX2_set_86 : decode cX2_set 86 = .ok (.aload_n 0, 1) := by decide +kernel
theorem dX2_set_87 : decode cX2_set 87 = .ok (.getfield 20, 3) := by decide +kernel
theorem dX2_set_90 : decode cX2_set 90 = .ok (.iload_n 2, 1) := by decide +kernel
theorem dX2_set_91 : decode cX2_set 91 = .ok (.iload_n 2, 1) := by decide +kernel
theorem dX2_set_92 : decode cX2_set 92 = .ok (.imul, 1) := by decide +kernel
theorem dX2_set_93 : decode cX2_set 93 = .ok (.aload_n 0, 1) := by decide +kernel
theorem dX2_set_94 : decode cX2_set 94 = .ok (.getfield 7, 3) := by decide +kernel
theorem dX2_set_97 : decode cX2_set 97 = .ok (.irem, 1) := by decide +kernel
theorem dX2_set_98 : decode cX2_set 98 = .ok (.iload_n 2, 1) := by decide +kernel
theorem dX2_set_99 : decode cX2_set 99 = .ok (.iastore, 1) := by decide +kernel
theorem dX2_set_100 : decode cX2_set 100 = .ok (.iinc 2 (-1), 3) := by decide +kernel
theorem dX2_set_103 : decode cX2_set 103 = .ok (.goto (-21), 3) := by decide +kernel
theorem dX2_set_106 : decode cX2_set 106 = .ok (.aload_n 0, 1) := by decide +kernel
theorem dX2_set_107 : decode cX2_set 107 = .ok (.iconst 2, 1) := by decide +kernel
theorem dX2_set_108 : decode cX2_set 108 = .ok (.putfield 36, 3) := by decide +kernel
theorem dX2_set_111 : decode cX2_set 111 = .ok (.aload_n 0, 1) := by decide +kernel
theorem dX2_set_112 : decode cX2_set 112 = .ok (.getfield 20, 3) := by decide +kernel
theorem dX2_set_115 : decode cX2_set 115 = .ok (.aload_n 0, 1) := by decide +kernel
theorem dX2_set_116 : decode cX2_set 116 = .ok (.getfield 36, 3) := by decide +kernel
theorem dX2_set_119 : decode cX2_set 119 = .ok (.iaload, 1) := by decide +kernel
theorem dX2_set_120 : decode cX2_set 120 = .ok (.iconst (-1), 1) := by decide +kernel
theorem dX2_set_121 : decode cX2_set 121 = .ok (.if_icmp .eq 16, 3) := by decide +kernel
theorem dX2_set_124 : decode cX2_set 124 = .ok (.aload_n 0, 1) := by decide +kernel
theorem dX2_set_125 : decode cX2_set 125 = .ok (.dup, 1) := by decide +kernel
theorem dX2_set_126 : decode cX2_set 126 = .ok (.getfield 36, 3) := by decide +kernel
theorem dX2_set_129 : decode cX2_set 129 = .ok (.iconst 1, 1) := by decide +kernel
theorem dX2_set_130 : decode cX2_set 130 = .ok (.iadd, 1) := by decide +kernel
theorem dX2_set_131 : decode cX2_set 131 = .ok (.putfield 36, 3) := by decide +kernel
theorem dX2_set_134 : decode cX2_set 134 = .ok (.goto (-23), 3) := by decide +kernel
theorem dX2_set_137 : decode cX2_set 137 = .ok (.aload_n 0, 1) := by decide +kernel
theorem dX2_set_138 : decode cX2_set 138 = .ok (.iconst 2, 1) := by decide +kernel
theorem dX2_set_139 : decode cX2_set 139 = .ok (.putfield 39, 3) := by decide +kernel
theorem dX2_set_142 : decode cX2_set 142 = .ok (.aload_n 0, 1) := by decide +kernel
theorem dX2_set_143 : decode cX2_set 143 = .ok (.getfield 39, 3) := by decide +kernel
theorem dX2_set_146 : decode cX2_set 146 = .ok (.aload_n 0, 1) := by decide +kernel
theorem dX2_set_147 : decode cX2_set 147 = .ok (.getfield 39, 3) := by decide +kernel
theorem dX2_set_150 : decode cX2_set 150 = .ok (.imul, 1) := by decide +kernel
theorem dX2_set_151 : decode cX2_set 151 = .ok (.aload_n 0, 1) := by decide +kernel
theorem dX2_set_152 : decode cX2_set 152 = .ok (.getfield 7, 3) := by decide +kernel
theorem dX2_set_155 : decode cX2_set 155 = .ok (.irem, 1) := by decide +kernel
theorem dX2_set_156 : decode cX2_set 156 = .ok (.aload_n 0, 1) := by decide +kernel
theorem dX2_set_157 : decode cX2_set 157 = .ok (.getfield 7, 3) := by decide +kernel
theorem dX2_set_160 : decode cX2_set 160 = .ok (.iconst 1, 1) := by decide +kernel
theorem dX2_set_161 : decode cX2_set 161 = .ok (.isub, 1) := by decide +kernel
theorem dX2_set_162 : decode cX2_set 162 = .ok (.if_icmp .eq 16, 3) := by decide +kernel
theorem dX2_set_165 : decode cX2_set 165 = .ok (.aload_n 0, 1) := by decide +kernel
theorem dX2_set_166 : decode cX2_set 166 = .ok (.dup, 1) := by decide +kernel
theorem dX2_set_167 : decode cX2_set 167 = .ok (.getfield 39, 3) := by decide +kernel
theorem dX2_set_170 : decode cX2_set 170 = .ok (.iconst 1, 1) := by decide +kernel
theorem dX2_set_171 : decode cX2_set 171 = .ok (.iadd, 1) := by decide +kernel
theorem dX2_set_172 : decode cX2_set 172 = .ok (.putfield 39, 3) := by decide +kernel
theorem dX2_set_175 : decode cX2_set 175 = .ok (.goto (-33), 3) := by decide +kernel
theorem dX2_set_178 : decode cX2_set 178 = .ok (.iconst 0, 1) := by decide +kernel
theorem dX2_set_179 : decode cX2_set 179 = .ok (.istore_n 2, 1) := by decide +kernel
theorem dX2_set_180 : decode cX2_set 180 = .ok (.iload_n 2, 1) := by decide +kernel
theorem dX2_set_181 : decode cX2_set 181 = .ok (.bipush 12, 2) := by decide +kernel
theorem dX2_set_183 : decode cX2_set 183 = .ok (.if_icmp .ge 23, 3) := by decide +kernel
theorem dX2_set_186 : decode cX2_set 186 = .ok (.aload_n 0, 1) := by decide +kernel
theorem dX2_set_187 : decode cX2_set 187 = .ok (.getfield 13, 3) := by decide +kernel
theorem dX2_set_190 : decode cX2_set 190 = .ok (.iload_n 2, 1) := by decide +kernel
theorem dX2_set_191 : decode cX2_set 191 = .ok (.iconst 0, 1) := by decide +kernel
theorem dX2_set_192 : decode cX2_set 192 = .ok (.iastore, 1) := by decide +kernel
theorem dX2_set_193 : decode cX2_set 193 = .ok (.aload_n 0, 1) := by decide +kernel
theorem dX2_set_194 : decode cX2_set 194 = .ok (.getfield 17, 3) := by decide +kernel
theorem dX2_set_197 : decode cX2_set 197 = .ok (.iload_n 2, 1) := by decide +kernel
theorem dX2_set_198 : decode cX2_set 198 = .ok (.iconst 1, 1) := by decide +kernel
theorem dX2_set_199 : decode cX2_set 199 = .ok (.iastore, 1) := by decide +kernel
theorem dX2_set_200 : decode cX2_set 200 = .ok (.iinc 2 1, 3) := by decide +kernel
theorem dX2_set_203 : decode cX2_set 203 = .ok (.goto (-23), 3) := by decide +kernel
theorem dX2_set_206 : decode cX2_set 206 = .ok (.return_, 1) := by decide +kernel
theorem dX2_begin_0 : decode cX2_begin 0 = .ok (.aload_n 0, 1) := by decide +kernel
theorem dX2_begin_1 : decode cX2_begin 1 = .ok (.iload_n 1, 1) := by decide +kernel
theorem dX2_begin_2 : decode cX2_begin 2 = .ok (.ifCond .lt 8, 3) := by decide +kernel
theorem dX2_begin_5 : decode cX2_begin 5 = .ok (.iload_n 1, 1) := by decide +kernel
theorem dX2_begin_6 : decode cX2_begin 6 = .ok (.iconst 4, 1) := by decide +kernel
theorem dX2_begin_7 : decode cX2_begin 7 = .ok (.if_icmp .le 7, 3) := by decide +kernel
theorem dX2_begin_10 : decode cX2_begin 10 = .ok (.iconst 1, 1) := by decide +kernel
theorem dX2_begin_11 : decode cX2_begin 11 = .ok (.goto 4, 3) := by decide +kernel
theorem dX2_begin_14 : decode cX2_begin 14 = .ok (.iconst 0, 1) := by decide +kernel
theorem dX2_begin_15 : decode cX2_begin 15 = .ok (.putfield 30, 3) := by decide +kernel
theorem dX2_begin_18 : decode cX2_begin 18 = .ok (.aload_n 0, 1) := by decide +kernel
theorem dX2_begin_19 : decode cX2_begin 19 = .ok (.getfield 30, 3) := by decide +kernel
theorem dX2_begin_22 : decode cX2_begin 22 = .ok (.ifCond .le 5, 3) := by decide +kernel
theorem dX2_begin_25 : decode cX2_begin 25 = .ok (.iconst 0, 1) := by decide +kernel
theorem dX2_begin_26 : decode cX2_begin 26 = .ok (.ireturn, 1) := by decide +kernel
theorem dX2_begin_27 : decode cX2_begin 27 = .ok (.aload_n 0, 1) := by decide +kernel
theorem dX2_begin_28 : decode cX2_begin 28 = .ok (.iload_n 1, 1) := by decide +kernel
theorem dX2_begin_29 : decode cX2_begin 29 = .ok (.invokevirtual 26, 3) := by decide +kernel
theorem dX2_begin_32 : decode cX2_begin 32 = .ok (.aload_n 0, 1) := by decide +kernel
theorem dX2_begin_33 : decode cX2_begin 33 = .ok (.getfield 7, 3) := by decide +kernel
theorem dX2_begin_36 : decode cX2_begin 36 = .ok (.ireturn, 1) := by decide +kernel
theorem dX2_of_0 : decode cX2_of 0 = .ok (.lload_n 1, 1) := by decide +kernel
theorem dX2_of_1 : decode cX2_of 1 = .ok (.aload_n 0, 1) := by decide +kernel
theorem dX2_of_2 : decode cX2_of 2 = .ok (.getfield 7, 3) := by decide +kernel
theorem dX2_of_5 : decode cX2_of 5 = .ok (.i2l, 1) := by decide +kernel
theorem dX2_of_6 : decode cX2_of 6 = .ok (.invokestatic 42, 3) := by decide +kernel
theorem dX2_of_9 : decode cX2_of 9 = .ok (.l2i, 1) := by decide +kernel
theorem dX2_of_10 : decode cX2_of 10 = .ok (.ireturn, 1) := by decide +kernel
theorem dX2_over_0 : decode cX2_over 0 = .ok (.iload_n 1, 1) := by decide +kernel
theorem dX2_over_1 : decode cX2_over 1 = .ok (.i2l, 1) := by decide +kernel
theorem dX2_over_2 : decode cX2_over 2 = .ok (.lstore_n 3, 1) := by decide +kernel
theorem dX2_over_3 : decode cX2_over 3 = .ok (.iload_n 2, 1) := by decide +kernel
theorem dX2_over_4 : decode cX2_over 4 = .ok (.i2l, 1) := by decide +kernel
theorem dX2_over_5 : decode cX2_over 5 = .ok (.lstore 5, 2) := by decide +kernel
theorem dX2_over_7 : decode cX2_over 7 = .ok (.aload_n 0, 1) := by decide +kernel
theorem dX2_over_8 : decode cX2_over 8 = .ok (.getfield 7, 3) := by decide +kernel
theorem dX2_over_11 : decode cX2_over 11 = .ok (.iconst 2, 1) := by decide +kernel
theorem dX2_over_12 : decode cX2_over 12 = .ok (.isub, 1) := by decide +kernel
theorem dX2_over_13 : decode cX2_over 13 = .ok (.istore 7, 2) := by decide +kernel
theorem dX2_over_15 : decode cX2_over 15 = .ok (.iload 7, 2) := by decide +kernel
theorem dX2_over_17 : decode cX2_over 17 = .ok (.ifCond .le 44, 3) := by decide +kernel
theorem dX2_over_20 : decode cX2_over 20 = .ok (.iload 7, 2) := by decide +kernel
theorem dX2_over_22 : decode cX2_over 22 = .ok (.iconst 2, 1) := by decide +kernel
theorem dX2_over_23 : decode cX2_over 23 = .ok (.irem, 1) := by decide +kernel
theorem dX2_over_24 : decode cX2_over 24 = .ok (.iconst 1, 1) := by decide +kernel
theorem dX2_over_25 : decode cX2_over 25 = .ok (.if_icmp .ne 14, 3) := by decide +kernel
theorem dX2_over_28 : decode cX2_over 28 = .ok (.lload_n 3, 1) := by decide +kernel
theorem dX2_over_29 : decode cX2_over 29 = .ok (.lload 5, 2) := by decide +kernel
theorem dX2_over_31 : decode cX2_over 31 = .ok (.lmul, 1) := by decide +kernel
theorem dX2_over_32 : decode cX2_over 32 = .ok (.aload_n 0, 1) := by decide +kernel
theorem dX2_over_33 : decode cX2_over 33 = .ok (.getfield 7, 3) := by decide +kernel
theorem dX2_over_36 : decode cX2_over 36 = .ok (.i2l, 1) := by decide +kernel
theorem dX2_over_37 : decode cX2_over 37 = .ok (.lrem, 1) := by decide +kernel
theorem dX2_over_38 : decode cX2_over 38 = .ok (.lstore_n 3, 1) := by decide +kernel
theorem dX2_over_39 : decode cX2_over 39 = .ok (.lload 5, 2) := by decide +kernel
theorem dX2_over_41 : decode cX2_over 41 = .ok (.lload 5, 2) := by decide +kernel
theorem dX2_over_43 : decode cX2_over 43 = .ok (.lmul, 1) := by decide +kernel
theorem dX2_over_44 : decode cX2_over 44 = .ok (.aload_n 0, 1) := by decide +kernel
theorem dX2_over_45 : decode cX2_over 45 = .ok (.getfield 7, 3) := by decide +kernel
theorem dX2_over_48 : decode cX2_over 48 = .ok (.i2l, 1) := by decide +kernel
theorem dX2_over_49 : decode cX2_over 49 = .ok (.lrem, 1) := by decide +kernel
theorem dX2_over_50 : decode cX2_over 50 = .ok (.lstore 5, 2) := by decide +kernel
theorem dX2_over_52 : decode cX2_over 52 = .ok (.iload 7, 2) := by decide +kernel
theorem dX2_over_54 : decode cX2_over 54 = .ok (.iconst 2, 1) := by decide +kernel
theorem dX2_over_55 : decode cX2_over 55 = .ok (.idiv, 1) := by decide +kernel
theorem dX2_over_56 : decode cX2_over 56 = .ok (.istore 7, 2) := by decide +kernel
theorem dX2_over_58 : decode cX2_over 58 = .ok (.goto (-43), 3) := by decide +kernel
theorem dX2_over_61 : decode cX2_over 61 = .ok (.lload_n 3, 1) := by decide +kernel
theorem dX2_over_62 : decode cX2_over 62 = .ok (.l2i, 1) := by decide +kernel
theorem dX2_over_63 : decode cX2_over 63 = .ok (.ireturn, 1) := by decide +kernel
theorem dX2_isPoint_0 : decode cX2_isPoint 0 = .ok (.aload_n 0, 1) := by decide +kernel
theorem dX2_isPoint_1 : decode cX2_isPoint 1 = .ok (.iload_n 2, 1) := by decide +kernel
theorem dX2_isPoint_2 : decode cX2_isPoint 2 = .ok (.i2l, 1) := by decide +kernel
theorem dX2_isPoint_3 : decode cX2_isPoint 3 = .ok (.iload_n 2, 1) := by decide +kernel
theorem dX2_isPoint_4 : decode cX2_isPoint 4 = .ok (.i2l, 1) := by decide +kernel
theorem dX2_isPoint_5 : decode cX2_isPoint 5 = .ok (.lmul, 1) := by decide +kernel
theorem dX2_isPoint_6 : decode cX2_isPoint 6 = .ok (.iload_n 1, 1) := by decide +kernel
theorem dX2_isPoint_7 : decode cX2_isPoint 7 = .ok (.i2l, 1) := by decide +kernel
theorem dX2_isPoint_8 : decode cX2_isPoint 8 = .ok (.iload_n 1, 1) := by decide +kernel
theorem dX2_isPoint_9 : decode cX2_isPoint 9 = .ok (.i2l, 1) := by decide +kernel
theorem dX2_isPoint_10 : decode cX2_isPoint 10 = .ok (.lmul, 1) := by decide +kernel
theorem dX2_isPoint_11 : decode cX2_isPoint 11 = .ok (.lsub, 1) := by decide +kernel
theorem dX2_isPoint_12 : decode cX2_isPoint 12 = .ok (.invokevirtual 48, 3) := by decide +kernel
theorem dX2_isPoint_15 : decode cX2_isPoint 15 = .ok (.aload_n 0, 1) := by decide +kernel
theorem dX2_isPoint_16 : decode cX2_isPoint 16 = .ok (.lconst 1, 1) := by decide +kernel
theorem dX2_isPoint_17 : decode cX2_isPoint 17 = .ok (.iload_n 1, 1) := by decide +kernel
theorem dX2_isPoint_18 : decode cX2_isPoint 18 = .ok (.i2l, 1) := by decide +kernel
theorem dX2_isPoint_19 : decode cX2_isPoint 19 = .ok (.iload_n 1, 1) := by decide +kernel
theorem dX2_isPoint_20 : decode cX2_isPoint 20 = .ok (.i2l, 1) := by decide +kernel
theorem dX2_isPoint_21 : decode cX2_isPoint 21 = .ok (.lmul, 1) := by decide +kernel
theorem dX2_isPoint_22 : decode cX2_isPoint 22 = .ok (.aload_n 0, 1) := by decide +kernel
theorem dX2_isPoint_23 : decode cX2_isPoint 23 = .ok (.getfield 7, 3) := by decide +kernel
theorem dX2_isPoint_26 : decode cX2_isPoint 26 = .ok (.i2l, 1) := by decide +kernel
theorem dX2_isPoint_27 : decode cX2_isPoint 27 = .ok (.lrem, 1) := by decide +kernel
theorem dX2_isPoint_28 : decode cX2_isPoint 28 = .ok (.iload_n 2, 1) := by decide +kernel
theorem dX2_isPoint_29 : decode cX2_isPoint 29 = .ok (.iload_n 2, 1) := by decide +kernel
theorem dX2_isPoint_30 : decode cX2_isPoint 30 = .ok (.imul, 1) := by decide +kernel
theorem dX2_isPoint_31 : decode cX2_isPoint 31 = .ok (.aload_n 0, 1) := by decide +kernel
theorem dX2_isPoint_32 : decode cX2_isPoint 32 = .ok (.getfield 7, 3) := by decide +kernel
theorem dX2_isPoint_35 : decode cX2_isPoint 35 = .ok (.irem, 1) := by decide +kernel
theorem dX2_isPoint_36 : decode cX2_isPoint 36 = .ok (.i2l, 1) := by decide +kernel
theorem dX2_isPoint_37 : decode cX2_isPoint 37 = .ok (.lmul, 1) := by decide +kernel
theorem dX2_isPoint_38 : decode cX2_isPoint 38 = .ok (.aload_n 0, 1) := by decide +kernel
theorem dX2_isPoint_39 : decode cX2_isPoint 39 = .ok (.getfield 7, 3) := by decide +kernel
theorem dX2_isPoint_42 : decode cX2_isPoint 42 = .ok (.i2l, 1) := by decide +kernel
theorem dX2_isPoint_43 : decode cX2_isPoint 43 = .ok (.lrem, 1) := by decide +kernel
theorem dX2_isPoint_44 : decode cX2_isPoint 44 = .ok (.aload_n 0, 1) := by decide +kernel
theorem dX2_isPoint_45 : decode cX2_isPoint 45 = .ok (.getfield 36, 3) := by decide +kernel
theorem dX2_isPoint_48 : decode cX2_isPoint 48 = .ok (.i2l, 1) := by decide +kernel
theorem dX2_isPoint_49 : decode cX2_isPoint 49 = .ok (.lmul, 1) := by decide +kernel
theorem dX2_isPoint_50 : decode cX2_isPoint 50 = .ok (.ladd, 1) := by decide +kernel
theorem dX2_isPoint_51 : decode cX2_isPoint 51 = .ok (.invokevirtual 48, 3) := by decide +kernel
theorem dX2_isPoint_54 : decode cX2_isPoint 54 = .ok (.if_icmp .ne 7, 3) := by decide +kernel
theorem dX2_isPoint_57 : decode cX2_isPoint 57 = .ok (.iconst 1, 1) := by decide +kernel
theorem dX2_isPoint_58 : decode cX2_isPoint 58 = .ok (.goto 4, 3) := by decide +kernel
theorem dX2_isPoint_61 : decode cX2_isPoint 61 = .ok (.iconst 0, 1) := by decide +kernel
theorem dX2_isPoint_62 : decode cX2_isPoint 62 = .ok (.ireturn, 1) := by decide +kernel
theorem dX2_pack_0 : decode cX2_pack 0 = .ok (.iload_n 1, 1) := by decide +kernel
theorem dX2_pack_1 : decode cX2_pack 1 = .ok (.sipush 8192, 3) := by decide +kernel
theorem dX2_pack_4 : decode cX2_pack 4 = .ok (.iload_n 0, 1) := by decide +kernel
theorem dX2_pack_5 : decode cX2_pack 5 = .ok (.iconst 2, 1) := by decide +kernel
theorem dX2_pack_6 : decode cX2_pack 6 = .ok (.irem, 1) := by decide +kernel
theorem dX2_pack_7 : decode cX2_pack 7 = .ok (.imul, 1) := by decide +kernel
theorem dX2_pack_8 : decode cX2_pack 8 = .ok (.iadd, 1) := by decide +kernel
theorem dX2_pack_9 : decode cX2_pack 9 = .ok (.ireturn, 1) := by decide +kernel
theorem dX2_xOf_0 : decode cX2_xOf 0 = .ok (.iload_n 1, 1) := by decide +kernel
theorem dX2_xOf_1 : decode cX2_xOf 1 = .ok (.ifCond .lt 22, 3) := by decide +kernel
theorem dX2_xOf_4 : decode cX2_xOf 4 = .ok (.iload_n 1, 1) := by decide +kernel
theorem dX2_xOf_5 : decode cX2_xOf 5 = .ok (.sipush 16384, 3) := by decide +kernel
theorem dX2_xOf_8 : decode cX2_xOf 8 = .ok (.if_icmp .ge 15, 3) := by decide +kernel
theorem dX2_xOf_11 : decode cX2_xOf 11 = .ok (.iload_n 1, 1) := by decide +kernel
theorem dX2_xOf_12 : decode cX2_xOf 12 = .ok (.sipush 8192, 3) := by decide +kernel
theorem dX2_xOf_15 : decode cX2_xOf 15 = .ok (.irem, 1) := by decide +kernel
theorem dX2_xOf_16 : decode cX2_xOf 16 = .ok (.aload_n 0, 1) := by decide +kernel
theorem dX2_xOf_17 : decode cX2_xOf 17 = .ok (.getfield 7, 3) := by decide +kernel
theorem dX2_xOf_20 : decode cX2_xOf 20 = .ok (.if_icmp .lt 5, 3) := by decide +kernel
theorem dX2_xOf_23 : decode cX2_xOf 23 = .ok (.iconst (-1), 1) := by decide +kernel
theorem dX2_xOf_24 : decode cX2_xOf 24 = .ok (.ireturn, 1) := by decide +kernel
theorem dX2_xOf_25 : decode cX2_xOf 25 = .ok (.iload_n 1, 1) := by decide +kernel
theorem dX2_xOf_26 : decode cX2_xOf 26 = .ok (.sipush 8192, 3) := by decide +kernel
theorem dX2_xOf_29 : decode cX2_xOf 29 = .ok (.irem, 1) := by decide +kernel
theorem dX2_xOf_30 : decode cX2_xOf 30 = .ok (.istore_n 2, 1) := by decide +kernel
theorem dX2_xOf_31 : decode cX2_xOf 31 = .ok (.aload_n 0, 1) := by decide +kernel
theorem dX2_xOf_32 : decode cX2_xOf 32 = .ok (.getfield 20, 3) := by decide +kernel
theorem dX2_xOf_35 : decode cX2_xOf 35 = .ok (.aload_n 0, 1) := by decide +kernel
theorem dX2_xOf_36 : decode cX2_xOf 36 = .ok (.aload_n 0, 1) := by decide +kernel
theorem dX2_xOf_37 : decode cX2_xOf 37 = .ok (.iload_n 2, 1) := by decide +kernel
theorem dX2_xOf_38 : decode cX2_xOf 38 = .ok (.i2l, 1) := by decide +kernel
theorem dX2_xOf_39 : decode cX2_xOf 39 = .ok (.iload_n 2, 1) := by decide +kernel
theorem dX2_xOf_40 : decode cX2_xOf 40 = .ok (.i2l, 1) := by decide +kernel
theorem dX2_xOf_41 : decode cX2_xOf 41 = .ok (.lmul, 1) := by decide +kernel
theorem dX2_xOf_42 : decode cX2_xOf 42 = .ok (.lconst 1, 1) := by decide +kernel
theorem dX2_xOf_43 : decode cX2_xOf 43 = .ok (.lsub, 1) := by decide +kernel
theorem dX2_xOf_44 : decode cX2_xOf 44 = .ok (.invokevirtual 48, 3) := by decide +kernel
theorem dX2_xOf_47 : decode cX2_xOf 47 = .ok (.aload_n 0, 1) := by decide +kernel
theorem dX2_xOf_48 : decode cX2_xOf 48 = .ok (.lconst 1, 1) := by decide +kernel
theorem dX2_xOf_49 : decode cX2_xOf 49 = .ok (.iload_n 2, 1) := by decide +kernel
theorem dX2_xOf_50 : decode cX2_xOf 50 = .ok (.i2l, 1) := by decide +kernel
theorem dX2_xOf_51 : decode cX2_xOf 51 = .ok (.iload_n 2, 1) := by decide +kernel
theorem dX2_xOf_52 : decode cX2_xOf 52 = .ok (.i2l, 1) := by decide +kernel
theorem dX2_xOf_53 : decode cX2_xOf 53 = .ok (.lmul, 1) := by decide +kernel
theorem dX2_xOf_54 : decode cX2_xOf 54 = .ok (.aload_n 0, 1) := by decide +kernel
theorem dX2_xOf_55 : decode cX2_xOf 55 = .ok (.getfield 7, 3) := by decide +kernel
theorem dX2_xOf_58 : decode cX2_xOf 58 = .ok (.i2l, 1) := by decide +kernel
theorem dX2_xOf_59 : decode cX2_xOf 59 = .ok (.lrem, 1) := by decide +kernel
theorem dX2_xOf_60 : decode cX2_xOf 60 = .ok (.aload_n 0, 1) := by decide +kernel
theorem dX2_xOf_61 : decode cX2_xOf 61 = .ok (.getfield 36, 3) := by decide +kernel
theorem dX2_xOf_64 : decode cX2_xOf 64 = .ok (.i2l, 1) := by decide +kernel
theorem dX2_xOf_65 : decode cX2_xOf 65 = .ok (.lmul, 1) := by decide +kernel
theorem dX2_xOf_66 : decode cX2_xOf 66 = .ok (.ladd, 1) := by decide +kernel
theorem dX2_xOf_67 : decode cX2_xOf 67 = .ok (.invokevirtual 48, 3) := by decide +kernel
theorem dX2_xOf_70 : decode cX2_xOf 70 = .ok (.invokevirtual 52, 3) := by decide +kernel
theorem dX2_xOf_73 : decode cX2_xOf 73 = .ok (.iaload, 1) := by decide +kernel
theorem dX2_xOf_74 : decode cX2_xOf 74 = .ok (.istore_n 3, 1) := by decide +kernel
theorem dX2_xOf_75 : decode cX2_xOf 75 = .ok (.iload_n 3, 1) := by decide +kernel
theorem dX2_xOf_76 : decode cX2_xOf 76 = .ok (.iconst (-1), 1) := by decide +kernel
theorem dX2_xOf_77 : decode cX2_xOf 77 = .ok (.if_icmp .eq 14, 3) := by decide +kernel
theorem dX2_xOf_80 : decode cX2_xOf 80 = .ok (.iload_n 3, 1) := by decide +kernel
theorem dX2_xOf_81 : decode cX2_xOf 81 = .ok (.iconst 2, 1) := by decide +kernel
theorem dX2_xOf_82 : decode cX2_xOf 82 = .ok (.irem, 1) := by decide +kernel
theorem dX2_xOf_83 : decode cX2_xOf 83 = .ok (.iload_n 1, 1) := by decide +kernel
theorem dX2_xOf_84 : decode cX2_xOf 84 = .ok (.sipush 8192, 3) := by decide +kernel
theorem dX2_xOf_87 : decode cX2_xOf 87 = .ok (.idiv, 1) := by decide +kernel
theorem dX2_xOf_88 : decode cX2_xOf 88 = .ok (.if_icmp .ne 5, 3) := by decide +kernel
theorem dX2_xOf_91 : decode cX2_xOf 91 = .ok (.iload_n 3, 1) := by decide +kernel
theorem dX2_xOf_92 : decode cX2_xOf 92 = .ok (.ireturn, 1) := by decide +kernel
theorem dX2_xOf_93 : decode cX2_xOf 93 = .ok (.iload_n 3, 1) := by decide +kernel
theorem dX2_xOf_94 : decode cX2_xOf 94 = .ok (.ifCond .ne 7, 3) := by decide +kernel
theorem dX2_xOf_97 : decode cX2_xOf 97 = .ok (.iconst (-1), 1) := by decide +kernel
theorem dX2_xOf_98 : decode cX2_xOf 98 = .ok (.goto 9, 3) := by decide +kernel
theorem dX2_xOf_101 : decode cX2_xOf 101 = .ok (.aload_n 0, 1) := by decide +kernel
theorem dX2_xOf_102 : decode cX2_xOf 102 = .ok (.getfield 7, 3) := by decide +kernel
theorem dX2_xOf_105 : decode cX2_xOf 105 = .ok (.iload_n 3, 1) := by decide +kernel
theorem dX2_xOf_106 : decode cX2_xOf 106 = .ok (.isub, 1) := by decide +kernel
theorem dX2_xOf_107 : decode cX2_xOf 107 = .ok (.ireturn, 1) := by decide +kernel
theorem dX2_sum_0 : decode cX2_sum 0 = .ok (.iload_n 1, 1) := by decide +kernel
theorem dX2_sum_1 : decode cX2_sum 1 = .ok (.i2l, 1) := by decide +kernel
theorem dX2_sum_2 : decode cX2_sum 2 = .ok (.iload_n 2, 1) := by decide +kernel
theorem dX2_sum_3 : decode cX2_sum 3 = .ok (.i2l, 1) := by decide +kernel
theorem dX2_sum_4 : decode cX2_sum 4 = .ok (.lmul, 1) := by decide +kernel
theorem dX2_sum_5 : decode cX2_sum 5 = .ok (.aload_n 0, 1) := by decide +kernel
theorem dX2_sum_6 : decode cX2_sum 6 = .ok (.getfield 7, 3) := by decide +kernel
theorem dX2_sum_9 : decode cX2_sum 9 = .ok (.i2l, 1) := by decide +kernel
theorem dX2_sum_10 : decode cX2_sum 10 = .ok (.lrem, 1) := by decide +kernel
theorem dX2_sum_11 : decode cX2_sum 11 = .ok (.iload_n 3, 1) := by decide +kernel
theorem dX2_sum_12 : decode cX2_sum 12 = .ok (.i2l, 1) := by decide +kernel
theorem dX2_sum_13 : decode cX2_sum 13 = .ok (.lmul, 1) := by decide +kernel
theorem dX2_sum_14 : decode cX2_sum 14 = .ok (.aload_n 0, 1) := by decide +kernel
theorem dX2_sum_15 : decode cX2_sum 15 = .ok (.getfield 7, 3) := by decide +kernel
theorem dX2_sum_18 : decode cX2_sum 18 = .ok (.i2l, 1) := by decide +kernel
theorem dX2_sum_19 : decode cX2_sum 19 = .ok (.lrem, 1) := by decide +kernel
theorem dX2_sum_20 : decode cX2_sum 20 = .ok (.iload 4, 2) := by decide +kernel
theorem dX2_sum_22 : decode cX2_sum 22 = .ok (.i2l, 1) := by decide +kernel
theorem dX2_sum_23 : decode cX2_sum 23 = .ok (.lmul, 1) := by decide +kernel
theorem dX2_sum_24 : decode cX2_sum 24 = .ok (.aload_n 0, 1) := by decide +kernel
theorem dX2_sum_25 : decode cX2_sum 25 = .ok (.getfield 7, 3) := by decide +kernel
theorem dX2_sum_28 : decode cX2_sum 28 = .ok (.i2l, 1) := by decide +kernel
theorem dX2_sum_29 : decode cX2_sum 29 = .ok (.lrem, 1) := by decide +kernel
theorem dX2_sum_30 : decode cX2_sum 30 = .ok (.aload_n 0, 1) := by decide +kernel
theorem dX2_sum_31 : decode cX2_sum 31 = .ok (.getfield 36, 3) := by decide +kernel
theorem dX2_sum_34 : decode cX2_sum 34 = .ok (.i2l, 1) := by decide +kernel
theorem dX2_sum_35 : decode cX2_sum 35 = .ok (.lmul, 1) := by decide +kernel
theorem dX2_sum_36 : decode cX2_sum 36 = .ok (.aload_n 0, 1) := by decide +kernel
theorem dX2_sum_37 : decode cX2_sum 37 = .ok (.getfield 7, 3) := by decide +kernel
theorem dX2_sum_40 : decode cX2_sum 40 = .ok (.i2l, 1) := by decide +kernel
theorem dX2_sum_41 : decode cX2_sum 41 = .ok (.lrem, 1) := by decide +kernel
theorem dX2_sum_42 : decode cX2_sum 42 = .ok (.l2i, 1) := by decide +kernel
theorem dX2_sum_43 : decode cX2_sum 43 = .ok (.istore 5, 2) := by decide +kernel
theorem dX2_sum_45 : decode cX2_sum 45 = .ok (.aload_n 0, 1) := by decide +kernel
theorem dX2_sum_46 : decode cX2_sum 46 = .ok (.aload_n 0, 1) := by decide +kernel
theorem dX2_sum_47 : decode cX2_sum 47 = .ok (.iload_n 1, 1) := by decide +kernel
theorem dX2_sum_48 : decode cX2_sum 48 = .ok (.i2l, 1) := by decide +kernel
theorem dX2_sum_49 : decode cX2_sum 49 = .ok (.iload 4, 2) := by decide +kernel
theorem dX2_sum_51 : decode cX2_sum 51 = .ok (.i2l, 1) := by decide +kernel
theorem dX2_sum_52 : decode cX2_sum 52 = .ok (.lmul, 1) := by decide +kernel
theorem dX2_sum_53 : decode cX2_sum 53 = .ok (.iload_n 2, 1) := by decide +kernel
theorem dX2_sum_54 : decode cX2_sum 54 = .ok (.i2l, 1) := by decide +kernel
theorem dX2_sum_55 : decode cX2_sum 55 = .ok (.iload_n 3, 1) := by decide +kernel
theorem dX2_sum_56 : decode cX2_sum 56 = .ok (.i2l, 1) := by decide +kernel
theorem dX2_sum_57 : decode cX2_sum 57 = .ok (.lmul, 1) := by decide +kernel
theorem dX2_sum_58 : decode cX2_sum 58 = .ok (.ladd, 1) := by decide +kernel
theorem dX2_sum_59 : decode cX2_sum 59 = .ok (.invokevirtual 48, 3) := by decide +kernel
theorem dX2_sum_62 : decode cX2_sum 62 = .ok (.aload_n 0, 1) := by decide +kernel
theorem dX2_sum_63 : decode cX2_sum 63 = .ok (.lconst 1, 1) := by decide +kernel
theorem dX2_sum_64 : decode cX2_sum 64 = .ok (.iload 5, 2) := by decide +kernel
theorem dX2_sum_66 : decode cX2_sum 66 = .ok (.i2l, 1) := by decide +kernel
theorem dX2_sum_67 : decode cX2_sum 67 = .ok (.ladd, 1) := by decide +kernel
theorem dX2_sum_68 : decode cX2_sum 68 = .ok (.invokevirtual 48, 3) := by decide +kernel
theorem dX2_sum_71 : decode cX2_sum 71 = .ok (.invokevirtual 52, 3) := by decide +kernel
theorem dX2_sum_74 : decode cX2_sum 74 = .ok (.istore 6, 2) := by decide +kernel
theorem dX2_sum_76 : decode cX2_sum 76 = .ok (.aload_n 0, 1) := by decide +kernel
theorem dX2_sum_77 : decode cX2_sum 77 = .ok (.aload_n 0, 1) := by decide +kernel
theorem dX2_sum_78 : decode cX2_sum 78 = .ok (.aload_n 0, 1) := by decide +kernel
theorem dX2_sum_79 : decode cX2_sum 79 = .ok (.iload_n 2, 1) := by decide +kernel
theorem dX2_sum_80 : decode cX2_sum 80 = .ok (.i2l, 1) := by decide +kernel
theorem dX2_sum_81 : decode cX2_sum 81 = .ok (.iload 4, 2) := by decide +kernel
theorem dX2_sum_83 : decode cX2_sum 83 = .ok (.i2l, 1) := by decide +kernel
theorem dX2_sum_84 : decode cX2_sum 84 = .ok (.lmul, 1) := by decide +kernel
theorem dX2_sum_85 : decode cX2_sum 85 = .ok (.iload_n 1, 1) := by decide +kernel
theorem dX2_sum_86 : decode cX2_sum 86 = .ok (.i2l, 1) := by decide +kernel
theorem dX2_sum_87 : decode cX2_sum 87 = .ok (.iload_n 3, 1) := by decide +kernel
theorem dX2_sum_88 : decode cX2_sum 88 = .ok (.i2l, 1) := by decide +kernel
theorem dX2_sum_89 : decode cX2_sum 89 = .ok (.lmul, 1) := by decide +kernel
theorem dX2_sum_90 : decode cX2_sum 90 = .ok (.ladd, 1) := by decide +kernel
theorem dX2_sum_91 : decode cX2_sum 91 = .ok (.invokevirtual 48, 3) := by decide +kernel
theorem dX2_sum_94 : decode cX2_sum 94 = .ok (.aload_n 0, 1) := by decide +kernel
theorem dX2_sum_95 : decode cX2_sum 95 = .ok (.lconst 1, 1) := by decide +kernel
theorem dX2_sum_96 : decode cX2_sum 96 = .ok (.iload 5, 2) := by decide +kernel
theorem dX2_sum_98 : decode cX2_sum 98 = .ok (.i2l, 1) := by decide +kernel
theorem dX2_sum_99 : decode cX2_sum 99 = .ok (.lsub, 1) := by decide +kernel
theorem dX2_sum_100 : decode cX2_sum 100 = .ok (.invokevirtual 48, 3) := by decide +kernel
theorem dX2_sum_103 : decode cX2_sum 103 = .ok (.invokevirtual 52, 3) := by decide +kernel
theorem dX2_sum_106 : decode cX2_sum 106 = .ok (.putfield 56, 3) := by decide +kernel
theorem dX2_sum_109 : decode cX2_sum 109 = .ok (.aload_n 0, 1) := by decide +kernel
theorem dX2_sum_110 : decode cX2_sum 110 = .ok (.iload 6, 2) := by decide +kernel
theorem dX2_sum_112 : decode cX2_sum 112 = .ok (.putfield 59, 3) := by decide +kernel
theorem dX2_sum_115 : decode cX2_sum 115 = .ok (.return_, 1) := by decide +kernel
theorem dX2_times_0 : decode cX2_times 0 = .ok (.iconst 0, 1) := by decide +kernel
theorem dX2_times_1 : decode cX2_times 1 = .ok (.istore 5, 2) := by decide +kernel
theorem dX2_times_3 : decode cX2_times 3 = .ok (.iconst 1, 1) := by decide +kernel
theorem dX2_times_4 : decode cX2_times 4 = .ok (.istore 6, 2) := by decide +kernel
theorem dX2_times_6 : decode cX2_times 6 = .ok (.lconst 0, 1) := by decide +kernel
theorem dX2_times_7 : decode cX2_times 7 = .ok (.lstore 7, 2) := by decide +kernel
theorem dX2_times_9 : decode cX2_times 9 = .ok (.lload 7, 2) := by decide +kernel
theorem dX2_times_11 : decode cX2_times 11 = .ok (.lload_n 1, 1) := by decide +kernel
theorem dX2_times_12 : decode cX2_times 12 = .ok (.lcmp, 1) := by decide +kernel
theorem dX2_times_13 : decode cX2_times 13 = .ok (.ifCond .ge 35, 3) := by decide +kernel
theorem dX2_times_16 : decode cX2_times 16 = .ok (.aload_n 0, 1) := by decide +kernel
theorem dX2_times_17 : decode cX2_times 17 = .ok (.iload 5, 2) := by decide +kernel
theorem dX2_times_19 : decode cX2_times 19 = .ok (.iload 6, 2) := by decide +kernel
theorem dX2_times_21 : decode cX2_times 21 = .ok (.iload_n 3, 1) := by decide +kernel
theorem dX2_times_22 : decode cX2_times 22 = .ok (.iload 4, 2) := by decide +kernel
theorem dX2_times_24 : decode cX2_times 24 = .ok (.invokevirtual 62, 3) := by decide +kernel
theorem dX2_times_27 : decode cX2_times 27 = .ok (.aload_n 0, 1) := by decide +kernel
theorem dX2_times_28 : decode cX2_times 28 = .ok (.getfield 59, 3) := by decide +kernel
theorem dX2_times_31 : decode cX2_times 31 = .ok (.istore 5, 2) := by decide +kernel
theorem dX2_times_33 : decode cX2_times 33 = .ok (.aload_n 0, 1) := by decide +kernel
theorem dX2_times_34 : decode cX2_times 34 = .ok (.getfield 56, 3) := by decide +kernel
theorem dX2_times_37 : decode cX2_times 37 = .ok (.istore 6, 2) := by decide +kernel
theorem dX2_times_39 : decode cX2_times 39 = .ok (.lload 7, 2) := by decide +kernel
theorem dX2_times_41 : decode cX2_times 41 = .ok (.lconst 1, 1) := by decide +kernel
theorem dX2_times_42 : decode cX2_times 42 = .ok (.ladd, 1) := by decide +kernel
theorem dX2_times_43 : decode cX2_times 43 = .ok (.lstore 7, 2) := by decide +kernel
theorem dX2_times_45 : decode cX2_times 45 = .ok (.goto (-36), 3) := by decide +kernel
theorem dX2_times_48 : decode cX2_times 48 = .ok (.aload_n 0, 1) := by decide +kernel
theorem dX2_times_49 : decode cX2_times 49 = .ok (.iload 5, 2) := by decide +kernel
theorem dX2_times_51 : decode cX2_times 51 = .ok (.putfield 59, 3) := by decide +kernel
theorem dX2_times_54 : decode cX2_times 54 = .ok (.aload_n 0, 1) := by decide +kernel
theorem dX2_times_55 : decode cX2_times 55 = .ok (.iload 6, 2) := by decide +kernel
theorem dX2_times_57 : decode cX2_times 57 = .ok (.putfield 56, 3) := by decide +kernel
theorem dX2_times_60 : decode cX2_times 60 = .ok (.return_, 1) := by decide +kernel
theorem dX2_orderOf_0 : decode cX2_orderOf 0 = .ok (.iconst 1, 1) := by decide +kernel
theorem dX2_orderOf_1 : decode cX2_orderOf 1 = .ok (.istore_n 3, 1) := by decide +kernel
theorem dX2_orderOf_2 : decode cX2_orderOf 2 = .ok (.iload_n 1, 1) := by decide +kernel
theorem dX2_orderOf_3 : decode cX2_orderOf 3 = .ok (.istore 4, 2) := by decide +kernel
theorem dX2_orderOf_5 : decode cX2_orderOf 5 = .ok (.iload_n 2, 1) := by decide +kernel
theorem dX2_orderOf_6 : decode cX2_orderOf 6 = .ok (.istore 5, 2) := by decide +kernel
theorem dX2_orderOf_8 : decode cX2_orderOf 8 = .ok (.iload 4, 2) := by decide +kernel
theorem dX2_orderOf_10 : decode cX2_orderOf 10 = .ok (.ifCond .ne 9, 3) := by decide +kernel
theorem dX2_orderOf_13 : decode cX2_orderOf 13 = .ok (.iload 5, 2) := by decide +kernel
theorem dX2_orderOf_15 : decode cX2_orderOf 15 = .ok (.iconst 1, 1) := by decide +kernel
theorem dX2_orderOf_16 : decode cX2_orderOf 16 = .ok (.if_icmp .eq 31, 3) := by decide +kernel
theorem dX2_orderOf_19 : decode cX2_orderOf 19 = .ok (.aload_n 0, 1) := by decide +kernel
theorem dX2_orderOf_20 : decode cX2_orderOf 20 = .ok (.iload 4, 2) := by decide +kernel
theorem dX2_orderOf_22 : decode cX2_orderOf 22 = .ok (.iload 5, 2) := by decide +kernel
theorem dX2_orderOf_24 : decode cX2_orderOf 24 = .ok (.iload_n 1, 1) := by decide +kernel
theorem dX2_orderOf_25 : decode cX2_orderOf 25 = .ok (.iload_n 2, 1) := by decide +kernel
theorem dX2_orderOf_26 : decode cX2_orderOf 26 = .ok (.invokevirtual 62, 3) := by decide +kernel
theorem dX2_orderOf_29 : decode cX2_orderOf 29 = .ok (.aload_n 0, 1) := by decide +kernel
theorem dX2_orderOf_30 : decode cX2_orderOf 30 = .ok (.getfield 59, 3) := by decide +kernel
theorem dX2_orderOf_33 : decode cX2_orderOf 33 = .ok (.istore 4, 2) := by decide +kernel
theorem dX2_orderOf_35 : decode cX2_orderOf 35 = .ok (.aload_n 0, 1) := by decide +kernel
theorem dX2_orderOf_36 : decode cX2_orderOf 36 = .ok (.getfield 56, 3) := by decide +kernel
theorem dX2_orderOf_39 : decode cX2_orderOf 39 = .ok (.istore 5, 2) := by decide +kernel
theorem dX2_orderOf_41 : decode cX2_orderOf 41 = .ok (.iinc 3 1, 3) := by decide +kernel
theorem dX2_orderOf_44 : decode cX2_orderOf 44 = .ok (.goto (-36), 3) := by decide +kernel
theorem dX2_orderOf_47 : decode cX2_orderOf 47 = .ok (.iload_n 3, 1) := by decide +kernel
theorem dX2_orderOf_48 : decode cX2_orderOf 48 = .ok (.ireturn, 1) := by decide +kernel
theorem dX2_often_0 : decode cX2_often 0 = .ok (.aload_n 0, 1) := by decide +kernel
theorem dX2_often_1 : decode cX2_often 1 = .ok (.lload_n 1, 1) := by decide +kernel
theorem dX2_often_2 : decode cX2_often 2 = .ok (.aload_n 0, 1) := by decide +kernel
theorem dX2_often_3 : decode cX2_often 3 = .ok (.iload_n 3, 1) := by decide +kernel
theorem dX2_often_4 : decode cX2_often 4 = .ok (.iload 4, 2) := by decide +kernel
theorem dX2_often_6 : decode cX2_often 6 = .ok (.invokevirtual 66, 3) := by decide +kernel
theorem dX2_often_9 : decode cX2_often 9 = .ok (.i2l, 1) := by decide +kernel
theorem dX2_often_10 : decode cX2_often 10 = .ok (.invokestatic 42, 3) := by decide +kernel
theorem dX2_often_13 : decode cX2_often 13 = .ok (.iload_n 3, 1) := by decide +kernel
theorem dX2_often_14 : decode cX2_often 14 = .ok (.iload 4, 2) := by decide +kernel
theorem dX2_often_16 : decode cX2_often 16 = .ok (.invokevirtual 69, 3) := by decide +kernel
theorem dX2_often_19 : decode cX2_often 19 = .ok (.return_, 1) := by decide +kernel
theorem dX2_keep_0 : decode cX2_keep 0 = .ok (.aload_n 0, 1) := by decide +kernel
theorem dX2_keep_1 : decode cX2_keep 1 = .ok (.getfield 13, 3) := by decide +kernel
theorem dX2_keep_4 : decode cX2_keep 4 = .ok (.iload_n 1, 1) := by decide +kernel
theorem dX2_keep_5 : decode cX2_keep 5 = .ok (.aload_n 0, 1) := by decide +kernel
theorem dX2_keep_6 : decode cX2_keep 6 = .ok (.getfield 59, 3) := by decide +kernel
theorem dX2_keep_9 : decode cX2_keep 9 = .ok (.iastore, 1) := by decide +kernel
theorem dX2_keep_10 : decode cX2_keep 10 = .ok (.aload_n 0, 1) := by decide +kernel
theorem dX2_keep_11 : decode cX2_keep 11 = .ok (.getfield 17, 3) := by decide +kernel
theorem dX2_keep_14 : decode cX2_keep 14 = .ok (.iload_n 1, 1) := by decide +kernel
theorem dX2_keep_15 : decode cX2_keep 15 = .ok (.aload_n 0, 1) := by decide +kernel
theorem dX2_keep_16 : decode cX2_keep 16 = .ok (.getfield 56, 3) := by decide +kernel
theorem dX2_keep_19 : decode cX2_keep 19 = .ok (.iastore, 1) := by decide +kernel
theorem dX2_keep_20 : decode cX2_keep 20 = .ok (.aload_n 0, 1) := by decide +kernel
theorem dX2_keep_21 : decode cX2_keep 21 = .ok (.getfield 59, 3) := by decide +kernel
theorem dX2_keep_24 : decode cX2_keep 24 = .ok (.aload_n 0, 1) := by decide +kernel
theorem dX2_keep_25 : decode cX2_keep 25 = .ok (.getfield 56, 3) := by decide +kernel
theorem dX2_keep_28 : decode cX2_keep 28 = .ok (.invokestatic 73, 3) := by decide +kernel
theorem dX2_keep_31 : decode cX2_keep 31 = .ok (.ireturn, 1) := by decide +kernel
theorem dX2_put_0 : decode cX2_put 0 = .ok (.aload_n 0, 1) := by decide +kernel
theorem dX2_put_1 : decode cX2_put 1 = .ok (.iload_n 1, 1) := by decide +kernel
theorem dX2_put_2 : decode cX2_put 2 = .ok (.invokestatic 76, 3) := by decide +kernel
theorem dX2_put_5 : decode cX2_put 5 = .ok (.ifCond .eq 7, 3) := by decide +kernel
theorem dX2_put_8 : decode cX2_put 8 = .ok (.iconst 1, 1) := by decide +kernel
theorem dX2_put_9 : decode cX2_put 9 = .ok (.goto 41, 3) := by decide +kernel
theorem dX2_put_12 : decode cX2_put 12 = .ok (.iload_n 2, 1) := by decide +kernel
theorem dX2_put_13 : decode cX2_put 13 = .ok (.ifCond .lt 32, 3) := by decide +kernel
theorem dX2_put_16 : decode cX2_put 16 = .ok (.iload_n 2, 1) := by decide +kernel
theorem dX2_put_17 : decode cX2_put 17 = .ok (.aload_n 0, 1) := by decide +kernel
theorem dX2_put_18 : decode cX2_put 18 = .ok (.getfield 7, 3) := by decide +kernel
theorem dX2_put_21 : decode cX2_put 21 = .ok (.if_icmp .ge 24, 3) := by decide +kernel
theorem dX2_put_24 : decode cX2_put 24 = .ok (.iload_n 3, 1) := by decide +kernel
theorem dX2_put_25 : decode cX2_put 25 = .ok (.ifCond .lt 20, 3) := by decide +kernel
theorem dX2_put_28 : decode cX2_put 28 = .ok (.iload_n 3, 1) := by decide +kernel
theorem dX2_put_29 : decode cX2_put 29 = .ok (.aload_n 0, 1) := by decide +kernel
theorem dX2_put_30 : decode cX2_put 30 = .ok (.getfield 7, 3) := by decide +kernel
theorem dX2_put_33 : decode cX2_put 33 = .ok (.if_icmp .ge 12, 3) := by decide +kernel
theorem dX2_put_36 : decode cX2_put 36 = .ok (.aload_n 0, 1) := by decide +kernel
theorem dX2_put_37 : decode cX2_put 37 = .ok (.iload_n 2, 1) := by decide +kernel
theorem dX2_put_38 : decode cX2_put 38 = .ok (.iload_n 3, 1) := by decide +kernel
theorem dX2_put_39 : decode cX2_put 39 = .ok (.invokevirtual 80, 3) := by decide +kernel
theorem dX2_put_42 : decode cX2_put 42 = .ok (.ifCond .ne 7, 3) := by decide +kernel
theorem dX2_put_45 : decode cX2_put 45 = .ok (.iconst 2, 1) := by decide +kernel
theorem dX2_put_46 : decode cX2_put 46 = .ok (.goto 4, 3) := by decide +kernel
theorem dX2_put_49 : decode cX2_put 49 = .ok (.iconst 0, 1) := by decide +kernel
theorem dX2_put_50 : decode cX2_put 50 = .ok (.putfield 30, 3) := by decide +kernel
theorem dX2_put_53 : decode cX2_put 53 = .ok (.aload_n 0, 1) := by decide +kernel
theorem dX2_put_54 : decode cX2_put 54 = .ok (.getfield 30, 3) := by decide +kernel
theorem dX2_put_57 : decode cX2_put 57 = .ok (.ifCond .le 4, 3) := by decide +kernel
theorem dX2_put_60 : decode cX2_put 60 = .ok (.return_, 1) := by decide +kernel
theorem dX2_put_61 : decode cX2_put 61 = .ok (.aload_n 0, 1) := by decide +kernel
theorem dX2_put_62 : decode cX2_put 62 = .ok (.getfield 13, 3) := by decide +kernel
theorem dX2_put_65 : decode cX2_put 65 = .ok (.iload_n 1, 1) := by decide +kernel
theorem dX2_put_66 : decode cX2_put 66 = .ok (.iload_n 2, 1) := by decide +kernel
theorem dX2_put_67 : decode cX2_put 67 = .ok (.iastore, 1) := by decide +kernel
theorem dX2_put_68 : decode cX2_put 68 = .ok (.aload_n 0, 1) := by decide +kernel
theorem dX2_put_69 : decode cX2_put 69 = .ok (.getfield 17, 3) := by decide +kernel
theorem dX2_put_72 : decode cX2_put 72 = .ok (.iload_n 1, 1) := by decide +kernel
theorem dX2_put_73 : decode cX2_put 73 = .ok (.iload_n 3, 1) := by decide +kernel
theorem dX2_put_74 : decode cX2_put 74 = .ok (.iastore, 1) := by decide +kernel
theorem dX2_put_75 : decode cX2_put 75 = .ok (.return_, 1) := by decide +kernel
theorem dX2_unpack_0 : decode cX2_unpack 0 = .ok (.aload_n 0, 1) := by decide +kernel
theorem dX2_unpack_1 : decode cX2_unpack 1 = .ok (.iload_n 1, 1) := by decide +kernel
theorem dX2_unpack_2 : decode cX2_unpack 2 = .ok (.invokestatic 76, 3) := by decide +kernel
theorem dX2_unpack_5 : decode cX2_unpack 5 = .ok (.ifCond .eq 7, 3) := by decide +kernel
theorem dX2_unpack_8 : decode cX2_unpack 8 = .ok (.iconst 1, 1) := by decide +kernel
theorem dX2_unpack_9 : decode cX2_unpack 9 = .ok (.goto 17, 3) := by decide +kernel
theorem dX2_unpack_12 : decode cX2_unpack 12 = .ok (.aload_n 0, 1) := by decide +kernel
theorem dX2_unpack_13 : decode cX2_unpack 13 = .ok (.iload_n 2, 1) := by decide +kernel
theorem dX2_unpack_14 : decode cX2_unpack 14 = .ok (.invokevirtual 84, 3) := by decide +kernel
theorem dX2_unpack_17 : decode cX2_unpack 17 = .ok (.iconst (-1), 1) := by decide +kernel
theorem dX2_unpack_18 : decode cX2_unpack 18 = .ok (.if_icmp .ne 7, 3) := by decide +kernel
theorem dX2_unpack_21 : decode cX2_unpack 21 = .ok (.iconst 2, 1) := by decide +kernel
theorem dX2_unpack_22 : decode cX2_unpack 22 = .ok (.goto 4, 3) := by decide +kernel
theorem dX2_unpack_25 : decode cX2_unpack 25 = .ok (.iconst 0, 1) := by decide +kernel
theorem dX2_unpack_26 : decode cX2_unpack 26 = .ok (.putfield 30, 3) := by decide +kernel
theorem dX2_unpack_29 : decode cX2_unpack 29 = .ok (.aload_n 0, 1) := by decide +kernel
theorem dX2_unpack_30 : decode cX2_unpack 30 = .ok (.getfield 30, 3) := by decide +kernel
theorem dX2_unpack_33 : decode cX2_unpack 33 = .ok (.ifCond .le 4, 3) := by decide +kernel
theorem dX2_unpack_36 : decode cX2_unpack 36 = .ok (.return_, 1) := by decide +kernel
theorem dX2_unpack_37 : decode cX2_unpack 37 = .ok (.aload_n 0, 1) := by decide +kernel
theorem dX2_unpack_38 : decode cX2_unpack 38 = .ok (.getfield 13, 3) := by decide +kernel
theorem dX2_unpack_41 : decode cX2_unpack 41 = .ok (.iload_n 1, 1) := by decide +kernel
theorem dX2_unpack_42 : decode cX2_unpack 42 = .ok (.aload_n 0, 1) := by decide +kernel
theorem dX2_unpack_43 : decode cX2_unpack 43 = .ok (.iload_n 2, 1) := by decide +kernel
theorem dX2_unpack_44 : decode cX2_unpack 44 = .ok (.invokevirtual 84, 3) := by decide +kernel
theorem dX2_unpack_47 : decode cX2_unpack 47 = .ok (.iastore, 1) := by decide +kernel
theorem dX2_unpack_48 : decode cX2_unpack 48 = .ok (.aload_n 0, 1) := by decide +kernel
theorem dX2_unpack_49 : decode cX2_unpack 49 = .ok (.getfield 17, 3) := by decide +kernel
theorem dX2_unpack_52 : decode cX2_unpack 52 = .ok (.iload_n 1, 1) := by decide +kernel
theorem dX2_unpack_53 : decode cX2_unpack 53 = .ok (.iload_n 2, 1) := by decide +kernel
theorem dX2_unpack_54 : decode cX2_unpack 54 = .ok (.sipush 8192, 3) := by decide +kernel
theorem dX2_unpack_57 : decode cX2_unpack 57 = .ok (.irem, 1) := by decide +kernel
theorem dX2_unpack_58 : decode cX2_unpack 58 = .ok (.iastore, 1) := by decide +kernel
theorem dX2_unpack_59 : decode cX2_unpack 59 = .ok (.return_, 1) := by decide +kernel
theorem dX2_packed_0 : decode cX2_packed 0 = .ok (.aload_n 0, 1) := by decide +kernel
theorem dX2_packed_1 : decode cX2_packed 1 = .ok (.iload_n 1, 1) := by decide +kernel
theorem dX2_packed_2 : decode cX2_packed 2 = .ok (.invokestatic 76, 3) := by decide +kernel
theorem dX2_packed_5 : decode cX2_packed 5 = .ok (.ifCond .eq 7, 3) := by decide +kernel
theorem dX2_packed_8 : decode cX2_packed 8 = .ok (.iconst 1, 1) := by decide +kernel
theorem dX2_packed_9 : decode cX2_packed 9 = .ok (.goto 4, 3) := by decide +kernel
theorem dX2_packed_12 : decode cX2_packed 12 = .ok (.iconst 0, 1) := by decide +kernel
theorem dX2_packed_13 : decode cX2_packed 13 = .ok (.putfield 30, 3) := by decide +kernel
theorem dX2_packed_16 : decode cX2_packed 16 = .ok (.aload_n 0, 1) := by decide +kernel
theorem dX2_packed_17 : decode cX2_packed 17 = .ok (.getfield 30, 3) := by decide +kernel
theorem dX2_packed_20 : decode cX2_packed 20 = .ok (.ifCond .le 7, 3) := by decide +kernel
theorem dX2_packed_23 : decode cX2_packed 23 = .ok (.iconst 0, 1) := by decide +kernel
theorem dX2_packed_24 : decode cX2_packed 24 = .ok (.goto 18, 3) := by decide +kernel
theorem dX2_packed_27 : decode cX2_packed 27 = .ok (.aload_n 0, 1) := by decide +kernel
theorem dX2_packed_28 : decode cX2_packed 28 = .ok (.getfield 13, 3) := by decide +kernel
theorem dX2_packed_31 : decode cX2_packed 31 = .ok (.iload_n 1, 1) := by decide +kernel
theorem dX2_packed_32 : decode cX2_packed 32 = .ok (.iaload, 1) := by decide +kernel
theorem dX2_packed_33 : decode cX2_packed 33 = .ok (.aload_n 0, 1) := by decide +kernel
theorem dX2_packed_34 : decode cX2_packed 34 = .ok (.getfield 17, 3) := by decide +kernel
theorem dX2_packed_37 : decode cX2_packed 37 = .ok (.iload_n 1, 1) := by decide +kernel
theorem dX2_packed_38 : decode cX2_packed 38 = .ok (.iaload, 1) := by decide +kernel
theorem dX2_packed_39 : decode cX2_packed 39 = .ok (.invokestatic 73, 3) := by decide +kernel
theorem dX2_packed_42 : decode cX2_packed 42 = .ok (.ireturn, 1) := by decide +kernel
theorem dX2_get_0 : decode cX2_get 0 = .ok (.aload_n 0, 1) := by decide +kernel
theorem dX2_get_1 : decode cX2_get 1 = .ok (.iload_n 1, 1) := by decide +kernel
theorem dX2_get_2 : decode cX2_get 2 = .ok (.invokestatic 76, 3) := by decide +kernel
theorem dX2_get_5 : decode cX2_get 5 = .ok (.ifCond .eq 7, 3) := by decide +kernel
theorem dX2_get_8 : decode cX2_get 8 = .ok (.iconst 1, 1) := by decide +kernel
theorem dX2_get_9 : decode cX2_get 9 = .ok (.goto 4, 3) := by decide +kernel
theorem dX2_get_12 : decode cX2_get 12 = .ok (.iconst 0, 1) := by decide +kernel
theorem dX2_get_13 : decode cX2_get 13 = .ok (.putfield 30, 3) := by decide +kernel
theorem dX2_get_16 : decode cX2_get 16 = .ok (.aload_n 0, 1) := by decide +kernel
theorem dX2_get_17 : decode cX2_get 17 = .ok (.getfield 30, 3) := by decide +kernel
theorem dX2_get_20 : decode cX2_get 20 = .ok (.ifCond .le 7, 3) := by decide +kernel
theorem dX2_get_23 : decode cX2_get 23 = .ok (.iconst 0, 1) := by decide +kernel
theorem dX2_get_24 : decode cX2_get 24 = .ok (.goto 22, 3) := by decide +kernel
theorem dX2_get_27 : decode cX2_get 27 = .ok (.iload_n 2, 1) := by decide +kernel
theorem dX2_get_28 : decode cX2_get 28 = .ok (.ifCond .eq 12, 3) := by decide +kernel
theorem dX2_get_31 : decode cX2_get 31 = .ok (.aload_n 0, 1) := by decide +kernel
theorem dX2_get_32 : decode cX2_get 32 = .ok (.getfield 17, 3) := by decide +kernel
theorem dX2_get_35 : decode cX2_get 35 = .ok (.iload_n 1, 1) := by decide +kernel
theorem dX2_get_36 : decode cX2_get 36 = .ok (.iaload, 1) := by decide +kernel
theorem dX2_get_37 : decode cX2_get 37 = .ok (.goto 9, 3) := by decide +kernel
theorem dX2_get_40 : decode cX2_get 40 = .ok (.aload_n 0, 1) := by decide +kernel
theorem dX2_get_41 : decode cX2_get 41 = .ok (.getfield 13, 3) := by decide +kernel
theorem dX2_get_44 : decode cX2_get 44 = .ok (.iload_n 1, 1) := by decide +kernel
theorem dX2_get_45 : decode cX2_get 45 = .ok (.iaload, 1) := by decide +kernel
theorem dX2_get_46 : decode cX2_get 46 = .ok (.ireturn, 1) := by decide +kernel
theorem dX2_join_0 : decode cX2_join 0 = .ok (.aload_n 0, 1) := by decide +kernel
theorem dX2_join_1 : decode cX2_join 1 = .ok (.iload_n 1, 1) := by decide +kernel
theorem dX2_join_2 : decode cX2_join 2 = .ok (.invokestatic 76, 3) := by decide +kernel
theorem dX2_join_5 : decode cX2_join 5 = .ok (.ifCond .ne 17, 3) := by decide +kernel
theorem dX2_join_8 : decode cX2_join 8 = .ok (.iload_n 2, 1) := by decide +kernel
theorem dX2_join_9 : decode cX2_join 9 = .ok (.invokestatic 76, 3) := by decide +kernel
theorem dX2_join_12 : decode cX2_join 12 = .ok (.ifCond .ne 10, 3) := by decide +kernel
theorem dX2_join_15 : decode cX2_join 15 = .ok (.iload_n 3, 1) := by decide +kernel
theorem dX2_join_16 : decode cX2_join 16 = .ok (.invokestatic 76, 3) := by decide +kernel
theorem dX2_join_19 : decode cX2_join 19 = .ok (.ifCond .eq 7, 3) := by decide +kernel
theorem dX2_join_22 : decode cX2_join 22 = .ok (.iconst 1, 1) := by decide +kernel
theorem dX2_join_23 : decode cX2_join 23 = .ok (.goto 4, 3) := by decide +kernel
theorem dX2_join_26 : decode cX2_join 26 = .ok (.iconst 0, 1) := by decide +kernel
theorem dX2_join_27 : decode cX2_join 27 = .ok (.putfield 30, 3) := by decide +kernel
theorem dX2_join_30 : decode cX2_join 30 = .ok (.aload_n 0, 1) := by decide +kernel
theorem dX2_join_31 : decode cX2_join 31 = .ok (.getfield 30, 3) := by decide +kernel
theorem dX2_join_34 : decode cX2_join 34 = .ok (.ifCond .le 5, 3) := by decide +kernel
theorem dX2_join_37 : decode cX2_join 37 = .ok (.iconst 0, 1) := by decide +kernel
theorem dX2_join_38 : decode cX2_join 38 = .ok (.ireturn, 1) := by decide +kernel
theorem dX2_join_39 : decode cX2_join 39 = .ok (.aload_n 0, 1) := by decide +kernel
theorem dX2_join_40 : decode cX2_join 40 = .ok (.aload_n 0, 1) := by decide +kernel
theorem dX2_join_41 : decode cX2_join 41 = .ok (.getfield 13, 3) := by decide +kernel
theorem dX2_join_44 : decode cX2_join 44 = .ok (.iload_n 2, 1) := by decide +kernel
theorem dX2_join_45 : decode cX2_join 45 = .ok (.iaload, 1) := by decide +kernel
theorem dX2_join_46 : decode cX2_join 46 = .ok (.aload_n 0, 1) := by decide +kernel
theorem dX2_join_47 : decode cX2_join 47 = .ok (.getfield 17, 3) := by decide +kernel
theorem dX2_join_50 : decode cX2_join 50 = .ok (.iload_n 2, 1) := by decide +kernel
theorem dX2_join_51 : decode cX2_join 51 = .ok (.iaload, 1) := by decide +kernel
theorem dX2_join_52 : decode cX2_join 52 = .ok (.iload 4, 2) := by decide +kernel
theorem dX2_join_54 : decode cX2_join 54 = .ok (.ifCond .eq 18, 3) := by decide +kernel
theorem dX2_join_57 : decode cX2_join 57 = .ok (.aload_n 0, 1) := by decide +kernel
theorem dX2_join_58 : decode cX2_join 58 = .ok (.aload_n 0, 1) := by decide +kernel
theorem dX2_join_59 : decode cX2_join 59 = .ok (.getfield 13, 3) := by decide +kernel
theorem dX2_join_62 : decode cX2_join 62 = .ok (.iload_n 3, 1) := by decide +kernel
theorem dX2_join_63 : decode cX2_join 63 = .ok (.iaload, 1) := by decide +kernel
theorem dX2_join_64 : decode cX2_join 64 = .ok (.ineg, 1) := by decide +kernel
theorem dX2_join_65 : decode cX2_join 65 = .ok (.i2l, 1) := by decide +kernel
theorem dX2_join_66 : decode cX2_join 66 = .ok (.invokevirtual 48, 3) := by decide +kernel
theorem dX2_join_69 : decode cX2_join 69 = .ok (.goto 9, 3) := by decide +kernel
theorem dX2_join_72 : decode cX2_join 72 = .ok (.aload_n 0, 1) := by decide +kernel
theorem dX2_join_73 : decode cX2_join 73 = .ok (.getfield 13, 3) := by decide +kernel
theorem dX2_join_76 : decode cX2_join 76 = .ok (.iload_n 3, 1) := by decide +kernel
theorem dX2_join_77 : decode cX2_join 77 = .ok (.iaload, 1) := by decide +kernel
theorem dX2_join_78 : decode cX2_join 78 = .ok (.aload_n 0, 1) := by decide +kernel
theorem dX2_join_79 : decode cX2_join 79 = .ok (.getfield 17, 3) := by decide +kernel
theorem dX2_join_82 : decode cX2_join 82 = .ok (.iload_n 3, 1) := by decide +kernel
theorem dX2_join_83 : decode cX2_join 83 = .ok (.iaload, 1) := by decide +kernel
theorem dX2_join_84 : decode cX2_join 84 = .ok (.invokevirtual 62, 3) := by decide +kernel
theorem dX2_join_87 : decode cX2_join 87 = .ok (.aload_n 0, 1) := by decide +kernel
theorem dX2_join_88 : decode cX2_join 88 = .ok (.iload_n 1, 1) := by decide +kernel
theorem dX2_join_89 : decode cX2_join 89 = .ok (.invokevirtual 88, 3) := by decide +kernel
theorem dX2_join_92 : decode cX2_join 92 = .ok (.ireturn, 1) := by decide +kernel
theorem dX2_times2_0 : decode cX2_times2 0 = .ok (.aload_n 0, 1) := by decide +kernel
theorem dX2_times2_1 : decode cX2_times2 1 = .ok (.iload_n 1, 1) := by decide +kernel
theorem dX2_times2_2 : decode cX2_times2 2 = .ok (.invokestatic 76, 3) := by decide +kernel
theorem dX2_times2_5 : decode cX2_times2 5 = .ok (.ifCond .ne 11, 3) := by decide +kernel
theorem dX2_times2_8 : decode cX2_times2 8 = .ok (.iload 4, 2) := by decide +kernel
theorem dX2_times2_10 : decode cX2_times2 10 = .ok (.invokestatic 76, 3) := by decide +kernel
theorem dX2_times2_13 : decode cX2_times2 13 = .ok (.ifCond .eq 7, 3) := by decide +kernel
theorem dX2_times2_16 : decode cX2_times2 16 = .ok (.iconst 1, 1) := by decide +kernel
theorem dX2_times2_17 : decode cX2_times2 17 = .ok (.goto 4, 3) := by decide +kernel
theorem dX2_times2_20 : decode cX2_times2 20 = .ok (.iconst 0, 1) := by decide +kernel
theorem dX2_times2_21 : decode cX2_times2 21 = .ok (.putfield 30, 3) := by decide +kernel
theorem dX2_times2_24 : decode cX2_times2 24 = .ok (.aload_n 0, 1) := by decide +kernel
theorem dX2_times2_25 : decode cX2_times2 25 = .ok (.getfield 30, 3) := by decide +kernel
theorem dX2_times2_28 : decode cX2_times2 28 = .ok (.ifCond .le 5, 3) := by decide +kernel
theorem dX2_times2_31 : decode cX2_times2 31 = .ok (.iconst 0, 1) := by decide +kernel
theorem dX2_times2_32 : decode cX2_times2 32 = .ok (.ireturn, 1) := by decide +kernel
theorem dX2_times2_33 : decode cX2_times2 33 = .ok (.aload_n 0, 1) := by decide +kernel
theorem dX2_times2_34 : decode cX2_times2 34 = .ok (.lload_n 2, 1) := by decide +kernel
theorem dX2_times2_35 : decode cX2_times2 35 = .ok (.aload_n 0, 1) := by decide +kernel
theorem dX2_times2_36 : decode cX2_times2 36 = .ok (.getfield 13, 3) := by decide +kernel
theorem dX2_times2_39 : decode cX2_times2 39 = .ok (.iload 4, 2) := by decide +kernel
theorem dX2_times2_41 : decode cX2_times2 41 = .ok (.iaload, 1) := by decide +kernel
theorem dX2_times2_42 : decode cX2_times2 42 = .ok (.aload_n 0, 1) := by decide +kernel
theorem dX2_times2_43 : decode cX2_times2 43 = .ok (.getfield 17, 3) := by decide +kernel
theorem dX2_times2_46 : decode cX2_times2 46 = .ok (.iload 4, 2) := by decide +kernel
theorem dX2_times2_48 : decode cX2_times2 48 = .ok (.iaload, 1) := by decide +kernel
theorem dX2_times2_49 : decode cX2_times2 49 = .ok (.invokevirtual 91, 3) := by decide +kernel
theorem dX2_times2_52 : decode cX2_times2 52 = .ok (.aload_n 0, 1) := by decide +kernel
theorem dX2_times2_53 : decode cX2_times2 53 = .ok (.iload_n 1, 1) := by decide +kernel
theorem dX2_times2_54 : decode cX2_times2 54 = .ok (.invokevirtual 88, 3) := by decide +kernel
theorem dX2_times2_57 : decode cX2_times2 57 = .ok (.ireturn, 1) := by decide +kernel
theorem dX2_both_0 : decode cX2_both 0 = .ok (.aload_n 0, 1) := by decide +kernel
theorem dX2_both_1 : decode cX2_both 1 = .ok (.iload_n 1, 1) := by decide +kernel
theorem dX2_both_2 : decode cX2_both 2 = .ok (.invokestatic 76, 3) := by decide +kernel
theorem dX2_both_5 : decode cX2_both 5 = .ok (.ifCond .ne 19, 3) := by decide +kernel
theorem dX2_both_8 : decode cX2_both 8 = .ok (.iload 4, 2) := by decide +kernel
theorem dX2_both_10 : decode cX2_both 10 = .ok (.invokestatic 76, 3) := by decide +kernel
theorem dX2_both_13 : decode cX2_both 13 = .ok (.ifCond .ne 11, 3) := by decide +kernel
theorem dX2_both_16 : decode cX2_both 16 = .ok (.iload 7, 2) := by decide +kernel
theorem dX2_both_18 : decode cX2_both 18 = .ok (.invokestatic 76, 3) := by decide +kernel
theorem dX2_both_21 : decode cX2_both 21 = .ok (.ifCond .eq 7, 3) := by decide +kernel
theorem dX2_both_24 : decode cX2_both 24 = .ok (.iconst 1, 1) := by decide +kernel
theorem dX2_both_25 : decode cX2_both 25 = .ok (.goto 4, 3) := by decide +kernel
theorem dX2_both_28 : decode cX2_both 28 = .ok (.iconst 0, 1) := by decide +kernel
theorem dX2_both_29 : decode cX2_both 29 = .ok (.putfield 30, 3) := by decide +kernel
theorem dX2_both_32 : decode cX2_both 32 = .ok (.aload_n 0, 1) := by decide +kernel
theorem dX2_both_33 : decode cX2_both 33 = .ok (.getfield 30, 3) := by decide +kernel
theorem dX2_both_36 : decode cX2_both 36 = .ok (.ifCond .le 5, 3) := by decide +kernel
theorem dX2_both_39 : decode cX2_both 39 = .ok (.iconst 0, 1) := by decide +kernel
theorem dX2_both_40 : decode cX2_both 40 = .ok (.ireturn, 1) := by decide +kernel
theorem dX2_both_41 : decode cX2_both 41 = .ok (.aload_n 0, 1) := by decide +kernel
theorem dX2_both_42 : decode cX2_both 42 = .ok (.lload_n 2, 1) := by decide +kernel
theorem dX2_both_43 : decode cX2_both 43 = .ok (.aload_n 0, 1) := by decide +kernel
theorem dX2_both_44 : decode cX2_both 44 = .ok (.getfield 13, 3) := by decide +kernel
theorem dX2_both_47 : decode cX2_both 47 = .ok (.iload 4, 2) := by decide +kernel
theorem dX2_both_49 : decode cX2_both 49 = .ok (.iaload, 1) := by decide +kernel
theorem dX2_both_50 : decode cX2_both 50 = .ok (.aload_n 0, 1) := by decide +kernel
theorem dX2_both_51 : decode cX2_both 51 = .ok (.getfield 17, 3) := by decide +kernel
theorem dX2_both_54 : decode cX2_both 54 = .ok (.iload 4, 2) := by decide +kernel
theorem dX2_both_56 : decode cX2_both 56 = .ok (.iaload, 1) := by decide +kernel
theorem dX2_both_57 : decode cX2_both 57 = .ok (.invokevirtual 91, 3) := by decide +kernel
theorem dX2_both_60 : decode cX2_both 60 = .ok (.aload_n 0, 1) := by decide +kernel
theorem dX2_both_61 : decode cX2_both 61 = .ok (.getfield 59, 3) := by decide +kernel
theorem dX2_both_64 : decode cX2_both 64 = .ok (.istore 8, 2) := by decide +kernel
theorem dX2_both_66 : decode cX2_both 66 = .ok (.aload_n 0, 1) := by decide +kernel
theorem dX2_both_67 : decode cX2_both 67 = .ok (.getfield 56, 3) := by decide +kernel
theorem dX2_both_70 : decode cX2_both 70 = .ok (.istore 9, 2) := by decide +kernel
theorem dX2_both_72 : decode cX2_both 72 = .ok (.aload_n 0, 1) := by decide +kernel
theorem dX2_both_73 : decode cX2_both 73 = .ok (.lload 5, 2) := by decide +kernel
theorem dX2_both_75 : decode cX2_both 75 = .ok (.aload_n 0, 1) := by decide +kernel
theorem dX2_both_76 : decode cX2_both 76 = .ok (.getfield 13, 3) := by decide +kernel
theorem dX2_both_79 : decode cX2_both 79 = .ok (.iload 7, 2) := by decide +kernel
theorem dX2_both_81 : decode cX2_both 81 = .ok (.iaload, 1) := by decide +kernel
theorem dX2_both_82 : decode cX2_both 82 = .ok (.aload_n 0, 1) := by decide +kernel
theorem dX2_both_83 : decode cX2_both 83 = .ok (.getfield 17, 3) := by decide +kernel
theorem dX2_both_86 : decode cX2_both 86 = .ok (.iload 7, 2) := by decide +kernel
theorem dX2_both_88 : decode cX2_both 88 = .ok (.iaload, 1) := by decide +kernel
theorem dX2_both_89 : decode cX2_both 89 = .ok (.invokevirtual 91, 3) := by decide +kernel
theorem dX2_both_92 : decode cX2_both 92 = .ok (.aload_n 0, 1) := by decide +kernel
theorem dX2_both_93 : decode cX2_both 93 = .ok (.iload 8, 2) := by decide +kernel
theorem dX2_both_95 : decode cX2_both 95 = .ok (.iload 9, 2) := by decide +kernel
theorem dX2_both_97 : decode cX2_both 97 = .ok (.aload_n 0, 1) := by decide +kernel
theorem dX2_both_98 : decode cX2_both 98 = .ok (.getfield 59, 3) := by decide +kernel
theorem dX2_both_101 : decode cX2_both 101 = .ok (.aload_n 0, 1) := by decide +kernel
theorem dX2_both_102 : decode cX2_both 102 = .ok (.getfield 56, 3) := by decide +kernel
theorem dX2_both_105 : decode cX2_both 105 = .ok (.invokevirtual 62, 3) := by decide +kernel
theorem dX2_both_108 : decode cX2_both 108 = .ok (.aload_n 0, 1) := by decide +kernel
theorem dX2_both_109 : decode cX2_both 109 = .ok (.iload_n 1, 1) := by decide +kernel
theorem dX2_both_110 : decode cX2_both 110 = .ok (.invokevirtual 88, 3) := by decide +kernel
theorem dX2_both_113 : decode cX2_both 113 = .ok (.ireturn, 1) := by decide +kernel
theorem dX2_order_0 : decode cX2_order 0 = .ok (.aload_n 0, 1) := by decide +kernel
theorem dX2_order_1 : decode cX2_order 1 = .ok (.iload_n 1, 1) := by decide +kernel
theorem dX2_order_2 : decode cX2_order 2 = .ok (.invokestatic 76, 3) := by decide +kernel
theorem dX2_order_5 : decode cX2_order 5 = .ok (.ifCond .eq 7, 3) := by decide +kernel
theorem dX2_order_8 : decode cX2_order 8 = .ok (.iconst 1, 1) := by decide +kernel
theorem dX2_order_9 : decode cX2_order 9 = .ok (.goto 4, 3) := by decide +kernel
theorem dX2_order_12 : decode cX2_order 12 = .ok (.iconst 0, 1) := by decide +kernel
theorem dX2_order_13 : decode cX2_order 13 = .ok (.putfield 30, 3) := by decide +kernel
theorem dX2_order_16 : decode cX2_order 16 = .ok (.aload_n 0, 1) := by decide +kernel
theorem dX2_order_17 : decode cX2_order 17 = .ok (.getfield 30, 3) := by decide +kernel
theorem dX2_order_20 : decode cX2_order 20 = .ok (.ifCond .le 7, 3) := by decide +kernel
theorem dX2_order_23 : decode cX2_order 23 = .ok (.iconst 0, 1) := by decide +kernel
theorem dX2_order_24 : decode cX2_order 24 = .ok (.goto 19, 3) := by decide +kernel
theorem dX2_order_27 : decode cX2_order 27 = .ok (.aload_n 0, 1) := by decide +kernel
theorem dX2_order_28 : decode cX2_order 28 = .ok (.aload_n 0, 1) := by decide +kernel
theorem dX2_order_29 : decode cX2_order 29 = .ok (.getfield 13, 3) := by decide +kernel
theorem dX2_order_32 : decode cX2_order 32 = .ok (.iload_n 1, 1) := by decide +kernel
theorem dX2_order_33 : decode cX2_order 33 = .ok (.iaload, 1) := by decide +kernel
theorem dX2_order_34 : decode cX2_order 34 = .ok (.aload_n 0, 1) := by decide +kernel
theorem dX2_order_35 : decode cX2_order 35 = .ok (.getfield 17, 3) := by decide +kernel
theorem dX2_order_38 : decode cX2_order 38 = .ok (.iload_n 1, 1) := by decide +kernel
theorem dX2_order_39 : decode cX2_order 39 = .ok (.iaload, 1) := by decide +kernel
theorem dX2_order_40 : decode cX2_order 40 = .ok (.invokevirtual 66, 3) := by decide +kernel
theorem dX2_order_43 : decode cX2_order 43 = .ok (.ireturn, 1) := by decide +kernel
theorem dX2_all_0 : decode cX2_all 0 = .ok (.iconst 0, 1) := by decide +kernel
theorem dX2_all_1 : decode cX2_all 1 = .ok (.istore_n 1, 1) := by decide +kernel
theorem dX2_all_2 : decode cX2_all 2 = .ok (.iconst 0, 1) := by decide +kernel
theorem dX2_all_3 : decode cX2_all 3 = .ok (.istore_n 2, 1) := by decide +kernel
theorem dX2_all_4 : decode cX2_all 4 = .ok (.iload_n 2, 1) := by decide +kernel
theorem dX2_all_5 : decode cX2_all 5 = .ok (.sipush 16384, 3) := by decide +kernel
theorem dX2_all_8 : decode cX2_all 8 = .ok (.if_icmp .ge 21, 3) := by decide +kernel
theorem dX2_all_11 : decode cX2_all 11 = .ok (.aload_n 0, 1) := by decide +kernel
theorem dX2_all_12 : decode cX2_all 12 = .ok (.iload_n 2, 1) := by decide +kernel
theorem dX2_all_13 : decode cX2_all 13 = .ok (.invokevirtual 84, 3) := by decide +kernel
theorem dX2_all_16 : decode cX2_all 16 = .ok (.iconst (-1), 1) := by decide +kernel
theorem dX2_all_17 : decode cX2_all 17 = .ok (.if_icmp .eq 6, 3) := by decide +kernel
theorem dX2_all_20 : decode cX2_all 20 = .ok (.iinc 1 1, 3) := by decide +kernel
theorem dX2_all_23 : decode cX2_all 23 = .ok (.iinc 2 1, 3) := by decide +kernel
theorem dX2_all_26 : decode cX2_all 26 = .ok (.goto (-22), 3) := by decide +kernel
theorem dX2_all_29 : decode cX2_all 29 = .ok (.iload_n 1, 1) := by decide +kernel
theorem dX2_all_30 : decode cX2_all 30 = .ok (.ireturn, 1) := by decide +kernel
theorem dX2_points_0 : decode cX2_points 0 = .ok (.aload_n 0, 1) := by decide +kernel
theorem dX2_points_1 : decode cX2_points 1 = .ok (.iconst 0, 1) := by decide +kernel
theorem dX2_points_2 : decode cX2_points 2 = .ok (.putfield 30, 3) := by decide +kernel
theorem dX2_points_5 : decode cX2_points 5 = .ok (.aload_n 0, 1) := by decide +kernel
theorem dX2_points_6 : decode cX2_points 6 = .ok (.invokevirtual 94, 3) := by decide +kernel
theorem dX2_points_9 : decode cX2_points 9 = .ok (.ireturn, 1) := by decide +kernel
theorem dX2_quick_0 : decode cX2_quick 0 = .ok (.iconst 0, 1) := by decide +kernel
theorem dX2_quick_1 : decode cX2_quick 1 = .ok (.istore 4, 2) := by decide +kernel
theorem dX2_quick_3 : decode cX2_quick 3 = .ok (.iconst 1, 1) := by decide +kernel
theorem dX2_quick_4 : decode cX2_quick 4 = .ok (.istore 5, 2) := by decide +kernel
theorem dX2_quick_6 : decode cX2_quick 6 = .ok (.sipush 16384, 3) := by decide +kernel
theorem dX2_quick_9 : decode cX2_quick 9 = .ok (.istore 6, 2) := by decide +kernel
theorem dX2_quick_11 : decode cX2_quick 11 = .ok (.iload 6, 2) := by decide +kernel
theorem dX2_quick_13 : decode cX2_quick 13 = .ok (.ifCond .le 70, 3) := by decide +kernel
theorem dX2_quick_16 : decode cX2_quick 16 = .ok (.aload_n 0, 1) := by decide +kernel
theorem dX2_quick_17 : decode cX2_quick 17 = .ok (.iload 4, 2) := by decide +kernel
theorem dX2_quick_19 : decode cX2_quick 19 = .ok (.iload 5, 2) := by decide +kernel
theorem dX2_quick_21 : decode cX2_quick 21 = .ok (.iload 4, 2) := by decide +kernel
theorem dX2_quick_23 : decode cX2_quick 23 = .ok (.iload 5, 2) := by decide +kernel
theorem dX2_quick_25 : decode cX2_quick 25 = .ok (.invokevirtual 62, 3) := by decide +kernel
theorem dX2_quick_28 : decode cX2_quick 28 = .ok (.aload_n 0, 1) := by decide +kernel
theorem dX2_quick_29 : decode cX2_quick 29 = .ok (.getfield 59, 3) := by decide +kernel
theorem dX2_quick_32 : decode cX2_quick 32 = .ok (.istore 4, 2) := by decide +kernel
theorem dX2_quick_34 : decode cX2_quick 34 = .ok (.aload_n 0, 1) := by decide +kernel
theorem dX2_quick_35 : decode cX2_quick 35 = .ok (.getfield 56, 3) := by decide +kernel
theorem dX2_quick_38 : decode cX2_quick 38 = .ok (.istore 5, 2) := by decide +kernel
theorem dX2_quick_40 : decode cX2_quick 40 = .ok (.iload_n 1, 1) := by decide +kernel
theorem dX2_quick_41 : decode cX2_quick 41 = .ok (.iload 6, 2) := by decide +kernel
theorem dX2_quick_43 : decode cX2_quick 43 = .ok (.idiv, 1) := by decide +kernel
theorem dX2_quick_44 : decode cX2_quick 44 = .ok (.iconst 2, 1) := by decide +kernel
theorem dX2_quick_45 : decode cX2_quick 45 = .ok (.irem, 1) := by decide +kernel
theorem dX2_quick_46 : decode cX2_quick 46 = .ok (.ifCond .ne 6, 3) := by decide +kernel
theorem dX2_quick_49 : decode cX2_quick 49 = .ok (.goto 25, 3) := by decide +kernel
theorem dX2_quick_52 : decode cX2_quick 52 = .ok (.aload_n 0, 1) := by decide +kernel
theorem dX2_quick_53 : decode cX2_quick 53 = .ok (.iload 4, 2) := by decide +kernel
theorem dX2_quick_55 : decode cX2_quick 55 = .ok (.iload 5, 2) := by decide +kernel
theorem dX2_quick_57 : decode cX2_quick 57 = .ok (.iload_n 2, 1) := by decide +kernel
theorem dX2_quick_58 : decode cX2_quick 58 = .ok (.iload_n 3, 1) := by decide +kernel
theorem dX2_quick_59 : decode cX2_quick 59 = .ok (.invokevirtual 62, 3) := by decide +kernel
theorem dX2_quick_62 : decode cX2_quick 62 = .ok (.aload_n 0, 1) := by decide +kernel
theorem dX2_quick_63 : decode cX2_quick 63 = .ok (.getfield 59, 3) := by decide +kernel
theorem dX2_quick_66 : decode cX2_quick 66 = .ok (.istore 4, 2) := by decide +kernel
theorem dX2_quick_68 : decode cX2_quick 68 = .ok (.aload_n 0, 1) := by decide +kernel
theorem dX2_quick_69 : decode cX2_quick 69 = .ok (.getfield 56, 3) := by decide +kernel
theorem dX2_quick_72 : decode cX2_quick 72 = .ok (.istore 5, 2) := by decide +kernel
theorem dX2_quick_74 : decode cX2_quick 74 = .ok (.iload 6, 2) := by decide +kernel
theorem dX2_quick_76 : decode cX2_quick 76 = .ok (.iconst 2, 1) := by decide +kernel
theorem dX2_quick_77 : decode cX2_quick 77 = .ok (.idiv, 1) := by decide +kernel
theorem dX2_quick_78 : decode cX2_quick 78 = .ok (.istore 6, 2) := by decide +kernel
theorem dX2_quick_80 : decode cX2_quick 80 = .ok (.goto (-69), 3) := by decide +kernel
theorem dX2_quick_83 : decode cX2_quick 83 = .ok (.aload_n 0, 1) := by decide +kernel
theorem dX2_quick_84 : decode cX2_quick 84 = .ok (.iload 4, 2) := by decide +kernel
theorem dX2_quick_86 : decode cX2_quick 86 = .ok (.putfield 59, 3) := by decide +kernel
theorem dX2_quick_89 : decode cX2_quick 89 = .ok (.aload_n 0, 1) := by decide +kernel
theorem dX2_quick_90 : decode cX2_quick 90 = .ok (.iload 5, 2) := by decide +kernel
theorem dX2_quick_92 : decode cX2_quick 92 = .ok (.putfield 56, 3) := by decide +kernel
theorem dX2_quick_95 : decode cX2_quick 95 = .ok (.return_, 1) := by decide +kernel
theorem dX2_quickOrder_0 : decode cX2_quickOrder 0 = .ok (.iload_n 1, 1) := by decide +kernel
theorem dX2_quickOrder_1 : decode cX2_quickOrder 1 = .ok (.istore 4, 2) := by decide +kernel
theorem dX2_quickOrder_3 : decode cX2_quickOrder 3 = .ok (.iload_n 1, 1) := by decide +kernel
theorem dX2_quickOrder_4 : decode cX2_quickOrder 4 = .ok (.istore 5, 2) := by decide +kernel
theorem dX2_quickOrder_6 : decode cX2_quickOrder 6 = .ok (.iconst 2, 1) := by decide +kernel
theorem dX2_quickOrder_7 : decode cX2_quickOrder 7 = .ok (.istore 6, 2) := by decide +kernel
theorem dX2_quickOrder_9 : decode cX2_quickOrder 9 = .ok (.iload 5, 2) := by decide +kernel
theorem dX2_quickOrder_11 : decode cX2_quickOrder 11 = .ok (.iconst 1, 1) := by decide +kernel
theorem dX2_quickOrder_12 : decode cX2_quickOrder 12 = .ok (.if_icmp .le 68, 3) := by decide +kernel
theorem dX2_quickOrder_15 : decode cX2_quickOrder 15 = .ok (.iload 5, 2) := by decide +kernel
theorem dX2_quickOrder_17 : decode cX2_quickOrder 17 = .ok (.iload 6, 2) := by decide +kernel
theorem dX2_quickOrder_19 : decode cX2_quickOrder 19 = .ok (.irem, 1) := by decide +kernel
theorem dX2_quickOrder_20 : decode cX2_quickOrder 20 = .ok (.ifCond .ne 54, 3) := by decide +kernel
theorem dX2_quickOrder_23 : decode cX2_quickOrder 23 = .ok (.iload 5, 2) := by decide +kernel
theorem dX2_quickOrder_25 : decode cX2_quickOrder 25 = .ok (.iload 6, 2) := by decide +kernel
theorem dX2_quickOrder_27 : decode cX2_quickOrder 27 = .ok (.idiv, 1) := by decide +kernel
theorem dX2_quickOrder_28 : decode cX2_quickOrder 28 = .ok (.istore 5, 2) := by decide +kernel
theorem dX2_quickOrder_30 : decode cX2_quickOrder 30 = .ok (.aload_n 0, 1) := by decide +kernel
theorem dX2_quickOrder_31 : decode cX2_quickOrder 31 = .ok (.iload 4, 2) := by decide +kernel
theorem dX2_quickOrder_33 : decode cX2_quickOrder 33 = .ok (.iload 6, 2) := by decide +kernel
theorem dX2_quickOrder_35 : decode cX2_quickOrder 35 = .ok (.idiv, 1) := by decide +kernel
theorem dX2_quickOrder_36 : decode cX2_quickOrder 36 = .ok (.iload_n 2, 1) := by decide +kernel
theorem dX2_quickOrder_37 : decode cX2_quickOrder 37 = .ok (.iload_n 3, 1) := by decide +kernel
theorem dX2_quickOrder_38 : decode cX2_quickOrder 38 = .ok (.invokevirtual 98, 3) := by decide +kernel
theorem dX2_quickOrder_41 : decode cX2_quickOrder 41 = .ok (.iload 4, 2) := by decide +kernel
theorem dX2_quickOrder_43 : decode cX2_quickOrder 43 = .ok (.iload 6, 2) := by decide +kernel
theorem dX2_quickOrder_45 : decode cX2_quickOrder 45 = .ok (.irem, 1) := by decide +kernel
theorem dX2_quickOrder_46 : decode cX2_quickOrder 46 = .ok (.ifCond .ne (-31), 3) := by decide +kernel
theorem dX2_quickOrder_49 : decode cX2_quickOrder 49 = .ok (.aload_n 0, 1) := by decide +kernel
theorem dX2_quickOrder_50 : decode cX2_quickOrder 50 = .ok (.getfield 59, 3) := by decide +kernel
theorem dX2_quickOrder_53 : decode cX2_quickOrder 53 = .ok (.ifCond .ne (-38), 3) := by decide +kernel
theorem dX2_quickOrder_56 : decode cX2_quickOrder 56 = .ok (.aload_n 0, 1) := by decide +kernel
theorem dX2_quickOrder_57 : decode cX2_quickOrder 57 = .ok (.getfield 56, 3) := by decide +kernel
theorem dX2_quickOrder_60 : decode cX2_quickOrder 60 = .ok (.iconst 1, 1) := by decide +kernel
theorem dX2_quickOrder_61 : decode cX2_quickOrder 61 = .ok (.if_icmp .ne (-46), 3) := by decide +kernel
theorem dX2_quickOrder_64 : decode cX2_quickOrder 64 = .ok (.iload 4, 2) := by decide +kernel
theorem dX2_quickOrder_66 : decode cX2_quickOrder 66 = .ok (.iload 6, 2) := by decide +kernel
theorem dX2_quickOrder_68 : decode cX2_quickOrder 68 = .ok (.idiv, 1) := by decide +kernel
theorem dX2_quickOrder_69 : decode cX2_quickOrder 69 = .ok (.istore 4, 2) := by decide +kernel
theorem dX2_quickOrder_71 : decode cX2_quickOrder 71 = .ok (.goto (-56), 3) := by decide +kernel
theorem dX2_quickOrder_74 : decode cX2_quickOrder 74 = .ok (.iinc 6 1, 3) := by decide +kernel
theorem dX2_quickOrder_77 : decode cX2_quickOrder 77 = .ok (.goto (-68), 3) := by decide +kernel
theorem dX2_quickOrder_80 : decode cX2_quickOrder 80 = .ok (.iload 4, 2) := by decide +kernel
theorem dX2_quickOrder_82 : decode cX2_quickOrder 82 = .ok (.ireturn, 1) := by decide +kernel
theorem dX2_base_0 : decode cX2_base 0 = .ok (.aload_n 0, 1) := by decide +kernel
theorem dX2_base_1 : decode cX2_base 1 = .ok (.iconst 0, 1) := by decide +kernel
theorem dX2_base_2 : decode cX2_base 2 = .ok (.putfield 30, 3) := by decide +kernel
theorem dX2_base_5 : decode cX2_base 5 = .ok (.aload_n 0, 1) := by decide +kernel
theorem dX2_base_6 : decode cX2_base 6 = .ok (.getfield 23, 3) := by decide +kernel
theorem dX2_base_9 : decode cX2_base 9 = .ok (.aload_n 0, 1) := by decide +kernel
theorem dX2_base_10 : decode cX2_base 10 = .ok (.getfield 33, 3) := by decide +kernel
theorem dX2_base_13 : decode cX2_base 13 = .ok (.iaload, 1) := by decide +kernel
theorem dX2_base_14 : decode cX2_base 14 = .ok (.ifCond .le 13, 3) := by decide +kernel
theorem dX2_base_17 : decode cX2_base 17 = .ok (.aload_n 0, 1) := by decide +kernel
theorem dX2_base_18 : decode cX2_base 18 = .ok (.getfield 23, 3) := by decide +kernel
theorem dX2_base_21 : decode cX2_base 21 = .ok (.aload_n 0, 1) := by decide +kernel
theorem dX2_base_22 : decode cX2_base 22 = .ok (.getfield 33, 3) := by decide +kernel
theorem dX2_base_25 : decode cX2_base 25 = .ok (.iaload, 1) := by decide +kernel
theorem dX2_base_26 : decode cX2_base 26 = .ok (.ireturn, 1) := by decide +kernel
theorem dX2_base_27 : decode cX2_base 27 = .ok (.aload_n 0, 1) := by decide +kernel
theorem dX2_base_28 : decode cX2_base 28 = .ok (.invokevirtual 94, 3) := by decide +kernel
theorem dX2_base_31 : decode cX2_base 31 = .ok (.istore_n 1, 1) := by decide +kernel
theorem dX2_base_32 : decode cX2_base 32 = .ok (.iconst 0, 1) := by decide +kernel
theorem dX2_base_33 : decode cX2_base 33 = .ok (.istore_n 2, 1) := by decide +kernel
theorem dX2_base_34 : decode cX2_base 34 = .ok (.iconst 0, 1) := by decide +kernel
theorem dX2_base_35 : decode cX2_base 35 = .ok (.istore_n 3, 1) := by decide +kernel
theorem dX2_base_36 : decode cX2_base 36 = .ok (.iload_n 3, 1) := by decide +kernel
theorem dX2_base_37 : decode cX2_base 37 = .ok (.sipush 16384, 3) := by decide +kernel
theorem dX2_base_40 : decode cX2_base 40 = .ok (.if_icmp .ge 61, 3) := by decide +kernel
theorem dX2_base_43 : decode cX2_base 43 = .ok (.aload_n 0, 1) := by decide +kernel
theorem dX2_base_44 : decode cX2_base 44 = .ok (.iload_n 3, 1) := by decide +kernel
theorem dX2_base_45 : decode cX2_base 45 = .ok (.invokevirtual 84, 3) := by decide +kernel
theorem dX2_base_48 : decode cX2_base 48 = .ok (.istore 4, 2) := by decide +kernel
theorem dX2_base_50 : decode cX2_base 50 = .ok (.iload 4, 2) := by decide +kernel
theorem dX2_base_52 : decode cX2_base 52 = .ok (.iconst (-1), 1) := by decide +kernel
theorem dX2_base_53 : decode cX2_base 53 = .ok (.if_icmp .ne 6, 3) := by decide +kernel
theorem dX2_base_56 : decode cX2_base 56 = .ok (.goto 39, 3) := by decide +kernel
theorem dX2_base_59 : decode cX2_base 59 = .ok (.aload_n 0, 1) := by decide +kernel
theorem dX2_base_60 : decode cX2_base 60 = .ok (.iload_n 1, 1) := by decide +kernel
theorem dX2_base_61 : decode cX2_base 61 = .ok (.iload 4, 2) := by decide +kernel
theorem dX2_base_63 : decode cX2_base 63 = .ok (.iload_n 3, 1) := by decide +kernel
theorem dX2_base_64 : decode cX2_base 64 = .ok (.sipush 8192, 3) := by decide +kernel
theorem dX2_base_67 : decode cX2_base 67 = .ok (.irem, 1) := by decide +kernel
theorem dX2_base_68 : decode cX2_base 68 = .ok (.invokevirtual 102, 3) := by decide +kernel
theorem dX2_base_71 : decode cX2_base 71 = .ok (.istore 5, 2) := by decide +kernel
theorem dX2_base_73 : decode cX2_base 73 = .ok (.iload 5, 2) := by decide +kernel
theorem dX2_base_75 : decode cX2_base 75 = .ok (.iload_n 2, 1) := by decide +kernel
theorem dX2_base_76 : decode cX2_base 76 = .ok (.if_icmp .gt 6, 3) := by decide +kernel
theorem dX2_base_79 : decode cX2_base 79 = .ok (.goto 16, 3) := by decide +kernel
theorem dX2_base_82 : decode cX2_base 82 = .ok (.iload 5, 2) := by decide +kernel
theorem dX2_base_84 : decode cX2_base 84 = .ok (.istore_n 2, 1) := by decide +kernel
theorem dX2_base_85 : decode cX2_base 85 = .ok (.aload_n 0, 1) := by decide +kernel
theorem dX2_base_86 : decode cX2_base 86 = .ok (.getfield 23, 3) := by decide +kernel
theorem dX2_base_89 : decode cX2_base 89 = .ok (.aload_n 0, 1) := by decide +kernel
theorem dX2_base_90 : decode cX2_base 90 = .ok (.getfield 33, 3) := by decide +kernel
theorem dX2_base_93 : decode cX2_base 93 = .ok (.iload_n 3, 1) := by decide +kernel
theorem dX2_base_94 : decode cX2_base 94 = .ok (.iastore, 1) := by decide +kernel
theorem dX2_base_95 : decode cX2_base 95 = .ok (.iinc 3 1, 3) := by decide +kernel
theorem dX2_base_98 : decode cX2_base 98 = .ok (.goto (-62), 3) := by decide +kernel
theorem dX2_base_101 : decode cX2_base 101 = .ok (.aload_n 0, 1) := by decide +kernel
theorem dX2_base_102 : decode cX2_base 102 = .ok (.getfield 23, 3) := by decide +kernel
theorem dX2_base_105 : decode cX2_base 105 = .ok (.aload_n 0, 1) := by decide +kernel
theorem dX2_base_106 : decode cX2_base 106 = .ok (.getfield 33, 3) := by decide +kernel
theorem dX2_base_109 : decode cX2_base 109 = .ok (.iaload, 1) := by decide +kernel
theorem dX2_base_110 : decode cX2_base 110 = .ok (.ireturn, 1) := by decide +kernel
theorem dX2_log_0 : decode cX2_log 0 = .ok (.aload_n 0, 1) := by decide +kernel
theorem dX2_log_1 : decode cX2_log 1 = .ok (.iload_n 1, 1) := by decide +kernel
theorem dX2_log_2 : decode cX2_log 2 = .ok (.invokestatic 76, 3) := by decide +kernel
theorem dX2_log_5 : decode cX2_log 5 = .ok (.ifCond .ne 10, 3) := by decide +kernel
theorem dX2_log_8 : decode cX2_log 8 = .ok (.iload_n 2, 1) := by decide +kernel
theorem dX2_log_9 : decode cX2_log 9 = .ok (.invokestatic 76, 3) := by decide +kernel
theorem dX2_log_12 : decode cX2_log 12 = .ok (.ifCond .eq 7, 3) := by decide +kernel
theorem dX2_log_15 : decode cX2_log 15 = .ok (.iconst 1, 1) := by decide +kernel
theorem dX2_log_16 : decode cX2_log 16 = .ok (.goto 4, 3) := by decide +kernel
theorem dX2_log_19 : decode cX2_log 19 = .ok (.iconst 0, 1) := by decide +kernel
theorem dX2_log_20 : decode cX2_log 20 = .ok (.putfield 30, 3) := by decide +kernel
theorem dX2_log_23 : decode cX2_log 23 = .ok (.aload_n 0, 1) := by decide +kernel
theorem dX2_log_24 : decode cX2_log 24 = .ok (.getfield 30, 3) := by decide +kernel
theorem dX2_log_27 : decode cX2_log 27 = .ok (.ifCond .le 5, 3) := by decide +kernel
theorem dX2_log_30 : decode cX2_log 30 = .ok (.iconst 0, 1) := by decide +kernel
theorem dX2_log_31 : decode cX2_log 31 = .ok (.ireturn, 1) := by decide +kernel
theorem dX2_log_32 : decode cX2_log 32 = .ok (.iconst 0, 1) := by decide +kernel
theorem dX2_log_33 : decode cX2_log 33 = .ok (.istore_n 3, 1) := by decide +kernel
theorem dX2_log_34 : decode cX2_log 34 = .ok (.iconst 1, 1) := by decide +kernel
theorem dX2_log_35 : decode cX2_log 35 = .ok (.istore 4, 2) := by decide +kernel
theorem dX2_log_37 : decode cX2_log 37 = .ok (.iconst 0, 1) := by decide +kernel
theorem dX2_log_38 : decode cX2_log 38 = .ok (.istore 5, 2) := by decide +kernel
theorem dX2_log_40 : decode cX2_log 40 = .ok (.iload_n 3, 1) := by decide +kernel
theorem dX2_log_41 : decode cX2_log 41 = .ok (.aload_n 0, 1) := by decide +kernel
theorem dX2_log_42 : decode cX2_log 42 = .ok (.getfield 13, 3) := by decide +kernel
theorem dX2_log_45 : decode cX2_log 45 = .ok (.iload_n 2, 1) := by decide +kernel
theorem dX2_log_46 : decode cX2_log 46 = .ok (.iaload, 1) := by decide +kernel
theorem dX2_log_47 : decode cX2_log 47 = .ok (.if_icmp .ne 14, 3) := by decide +kernel
theorem dX2_log_50 : decode cX2_log 50 = .ok (.iload 4, 2) := by decide +kernel
theorem dX2_log_52 : decode cX2_log 52 = .ok (.aload_n 0, 1) := by decide +kernel
theorem dX2_log_53 : decode cX2_log 53 = .ok (.getfield 17, 3) := by decide +kernel
theorem dX2_log_56 : decode cX2_log 56 = .ok (.iload_n 2, 1) := by decide +kernel
theorem dX2_log_57 : decode cX2_log 57 = .ok (.iaload, 1) := by decide +kernel
theorem dX2_log_58 : decode cX2_log 58 = .ok (.if_icmp .eq 48, 3) := by decide +kernel
theorem dX2_log_61 : decode cX2_log 61 = .ok (.aload_n 0, 1) := by decide +kernel
theorem dX2_log_62 : decode cX2_log 62 = .ok (.iload_n 3, 1) := by decide +kernel
theorem dX2_log_63 : decode cX2_log 63 = .ok (.iload 4, 2) := by decide +kernel
theorem dX2_log_65 : decode cX2_log 65 = .ok (.aload_n 0, 1) := by decide +kernel
theorem dX2_log_66 : decode cX2_log 66 = .ok (.getfield 13, 3) := by decide +kernel
theorem dX2_log_69 : decode cX2_log 69 = .ok (.iload_n 1, 1) := by decide +kernel
theorem dX2_log_70 : decode cX2_log 70 = .ok (.iaload, 1) := by decide +kernel
theorem dX2_log_71 : decode cX2_log 71 = .ok (.aload_n 0, 1) := by decide +kernel
theorem dX2_log_72 : decode cX2_log 72 = .ok (.getfield 17, 3) := by decide +kernel
theorem dX2_log_75 : decode cX2_log 75 = .ok (.iload_n 1, 1) := by decide +kernel
theorem dX2_log_76 : decode cX2_log 76 = .ok (.iaload, 1) := by decide +kernel
theorem dX2_log_77 : decode cX2_log 77 = .ok (.invokevirtual 62, 3) := by decide +kernel
theorem dX2_log_80 : decode cX2_log 80 = .ok (.aload_n 0, 1) := by decide +kernel
theorem dX2_log_81 : decode cX2_log 81 = .ok (.getfield 59, 3) := by decide +kernel
theorem dX2_log_84 : decode cX2_log 84 = .ok (.istore_n 3, 1) := by decide +kernel
theorem dX2_log_85 : decode cX2_log 85 = .ok (.aload_n 0, 1) := by decide +kernel
theorem dX2_log_86 : decode cX2_log 86 = .ok (.getfield 56, 3) := by decide +kernel
theorem dX2_log_89 : decode cX2_log 89 = .ok (.istore 4, 2) := by decide +kernel
theorem dX2_log_91 : decode cX2_log 91 = .ok (.iinc 5 1, 3) := by decide +kernel
theorem dX2_log_94 : decode cX2_log 94 = .ok (.iload_n 3, 1) := by decide +kernel
theorem dX2_log_95 : decode cX2_log 95 = .ok (.ifCond .ne (-55), 3) := by decide +kernel
theorem dX2_log_98 : decode cX2_log 98 = .ok (.iload 4, 2) := by decide +kernel
theorem dX2_log_100 : decode cX2_log 100 = .ok (.iconst 1, 1) := by decide +kernel
theorem dX2_log_101 : decode cX2_log 101 = .ok (.if_icmp .ne (-61), 3) := by decide +kernel
theorem dX2_log_104 : decode cX2_log 104 = .ok (.iconst (-1), 1) := by decide +kernel
theorem dX2_log_105 : decode cX2_log 105 = .ok (.ireturn, 1) := by decide +kernel
theorem dX2_log_106 : decode cX2_log 106 = .ok (.iload 5, 2) := by decide +kernel
theorem dX2_log_108 : decode cX2_log 108 = .ok (.ireturn, 1) := by decide +kernel
theorem dX2_half_0 : decode cX2_half 0 = .ok (.aload_n 0, 1) := by decide +kernel
theorem dX2_half_1 : decode cX2_half 1 = .ok (.iload_n 1, 1) := by decide +kernel
theorem dX2_half_2 : decode cX2_half 2 = .ok (.invokestatic 76, 3) := by decide +kernel
theorem dX2_half_5 : decode cX2_half 5 = .ok (.ifCond .ne 10, 3) := by decide +kernel
theorem dX2_half_8 : decode cX2_half 8 = .ok (.iload_n 2, 1) := by decide +kernel
theorem dX2_half_9 : decode cX2_half 9 = .ok (.invokestatic 76, 3) := by decide +kernel
theorem dX2_half_12 : decode cX2_half 12 = .ok (.ifCond .eq 7, 3) := by decide +kernel
theorem dX2_half_15 : decode cX2_half 15 = .ok (.iconst 1, 1) := by decide +kernel
theorem dX2_half_16 : decode cX2_half 16 = .ok (.goto 4, 3) := by decide +kernel
theorem dX2_half_19 : decode cX2_half 19 = .ok (.iconst 0, 1) := by decide +kernel
theorem dX2_half_20 : decode cX2_half 20 = .ok (.putfield 30, 3) := by decide +kernel
theorem dX2_half_23 : decode cX2_half 23 = .ok (.aload_n 0, 1) := by decide +kernel
theorem dX2_half_24 : decode cX2_half 24 = .ok (.getfield 30, 3) := by decide +kernel
theorem dX2_half_27 : decode cX2_half 27 = .ok (.ifCond .le 5, 3) := by decide +kernel
theorem dX2_half_30 : decode cX2_half 30 = .ok (.iconst 0, 1) := by decide +kernel
theorem dX2_half_31 : decode cX2_half 31 = .ok (.ireturn, 1) := by decide +kernel
theorem dX2_half_32 : decode cX2_half 32 = .ok (.iconst 0, 1) := by decide +kernel
theorem dX2_half_33 : decode cX2_half 33 = .ok (.istore_n 3, 1) := by decide +kernel
theorem dX2_half_34 : decode cX2_half 34 = .ok (.iconst (-1), 1) := by decide +kernel
theorem dX2_half_35 : decode cX2_half 35 = .ok (.istore 4, 2) := by decide +kernel
theorem dX2_half_37 : decode cX2_half 37 = .ok (.iconst 0, 1) := by decide +kernel
theorem dX2_half_38 : decode cX2_half 38 = .ok (.istore 5, 2) := by decide +kernel
theorem dX2_half_40 : decode cX2_half 40 = .ok (.iload 5, 2) := by decide +kernel
theorem dX2_half_42 : decode cX2_half 42 = .ok (.sipush 16384, 3) := by decide +kernel
theorem dX2_half_45 : decode cX2_half 45 = .ok (.if_icmp .ge 88, 3) := by decide +kernel
theorem dX2_half_48 : decode cX2_half 48 = .ok (.aload_n 0, 1) := by decide +kernel
theorem dX2_half_49 : decode cX2_half 49 = .ok (.iload 5, 2) := by decide +kernel
theorem dX2_half_51 : decode cX2_half 51 = .ok (.invokevirtual 84, 3) := by decide +kernel
theorem dX2_half_54 : decode cX2_half 54 = .ok (.istore 6, 2) := by decide +kernel
theorem dX2_half_56 : decode cX2_half 56 = .ok (.iload 6, 2) := by decide +kernel
theorem dX2_half_58 : decode cX2_half 58 = .ok (.iconst (-1), 1) := by decide +kernel
theorem dX2_half_59 : decode cX2_half 59 = .ok (.if_icmp .ne 6, 3) := by decide +kernel
theorem dX2_half_62 : decode cX2_half 62 = .ok (.goto 65, 3) := by decide +kernel
theorem dX2_half_65 : decode cX2_half 65 = .ok (.aload_n 0, 1) := by decide +kernel
theorem dX2_half_66 : decode cX2_half 66 = .ok (.iload 6, 2) := by decide +kernel
theorem dX2_half_68 : decode cX2_half 68 = .ok (.iload 5, 2) := by decide +kernel
theorem dX2_half_70 : decode cX2_half 70 = .ok (.sipush 8192, 3) := by decide +kernel
theorem dX2_half_73 : decode cX2_half 73 = .ok (.irem, 1) := by decide +kernel
theorem dX2_half_74 : decode cX2_half 74 = .ok (.iload 6, 2) := by decide +kernel
theorem dX2_half_76 : decode cX2_half 76 = .ok (.iload 5, 2) := by decide +kernel
theorem dX2_half_78 : decode cX2_half 78 = .ok (.sipush 8192, 3) := by decide +kernel
theorem dX2_half_81 : decode cX2_half 81 = .ok (.irem, 1) := by decide +kernel
theorem dX2_half_82 : decode cX2_half 82 = .ok (.invokevirtual 62, 3) := by decide +kernel
theorem dX2_half_85 : decode cX2_half 85 = .ok (.aload_n 0, 1) := by decide +kernel
theorem dX2_half_86 : decode cX2_half 86 = .ok (.getfield 59, 3) := by decide +kernel
theorem dX2_half_89 : decode cX2_half 89 = .ok (.aload_n 0, 1) := by decide +kernel
theorem dX2_half_90 : decode cX2_half 90 = .ok (.getfield 13, 3) := by decide +kernel
theorem dX2_half_93 : decode cX2_half 93 = .ok (.iload_n 2, 1) := by decide +kernel
theorem dX2_half_94 : decode cX2_half 94 = .ok (.iaload, 1) := by decide +kernel
theorem dX2_half_95 : decode cX2_half 95 = .ok (.if_icmp .ne 32, 3) := by decide +kernel
theorem dX2_half_98 : decode cX2_half 98 = .ok (.aload_n 0, 1) := by decide +kernel
theorem dX2_half_99 : decode cX2_half 99 = .ok (.getfield 56, 3) := by decide +kernel
theorem dX2_half_102 : decode cX2_half 102 = .ok (.aload_n 0, 1) := by decide +kernel
theorem dX2_half_103 : decode cX2_half 103 = .ok (.getfield 17, 3) := by decide +kernel
theorem dX2_half_106 : decode cX2_half 106 = .ok (.iload_n 2, 1) := by decide +kernel
theorem dX2_half_107 : decode cX2_half 107 = .ok (.iaload, 1) := by decide +kernel
theorem dX2_half_108 : decode cX2_half 108 = .ok (.if_icmp .eq 6, 3) := by decide +kernel
theorem dX2_half_111 : decode cX2_half 111 = .ok (.goto 16, 3) := by decide +kernel
theorem dX2_half_114 : decode cX2_half 114 = .ok (.iinc 3 1, 3) := by decide +kernel
theorem dX2_half_117 : decode cX2_half 117 = .ok (.iload 4, 2) := by decide +kernel
theorem dX2_half_119 : decode cX2_half 119 = .ok (.iconst (-1), 1) := by decide +kernel
theorem dX2_half_120 : decode cX2_half 120 = .ok (.if_icmp .ne 7, 3) := by decide +kernel
theorem dX2_half_123 : decode cX2_half 123 = .ok (.iload 5, 2) := by decide +kernel
theorem dX2_half_125 : decode cX2_half 125 = .ok (.istore 4, 2) := by decide +kernel
theorem dX2_half_127 : decode cX2_half 127 = .ok (.iinc 5 1, 3) := by decide +kernel
theorem dX2_half_130 : decode cX2_half 130 = .ok (.goto (-90), 3) := by decide +kernel
theorem dX2_half_133 : decode cX2_half 133 = .ok (.iload_n 3, 1) := by decide +kernel
theorem dX2_half_134 : decode cX2_half 134 = .ok (.ifCond .ne 5, 3) := by decide +kernel
theorem dX2_half_137 : decode cX2_half 137 = .ok (.iconst 0, 1) := by decide +kernel
theorem dX2_half_138 : decode cX2_half 138 = .ok (.ireturn, 1) := by decide +kernel
theorem dX2_half_139 : decode cX2_half 139 = .ok (.aload_n 0, 1) := by decide +kernel
theorem dX2_half_140 : decode cX2_half 140 = .ok (.aload_n 0, 1) := by decide +kernel
theorem dX2_half_141 : decode cX2_half 141 = .ok (.iload 4, 2) := by decide +kernel
theorem dX2_half_143 : decode cX2_half 143 = .ok (.invokevirtual 84, 3) := by decide +kernel
theorem dX2_half_146 : decode cX2_half 146 = .ok (.putfield 59, 3) := by decide +kernel
theorem dX2_half_149 : decode cX2_half 149 = .ok (.aload_n 0, 1) := by decide +kernel
theorem dX2_half_150 : decode cX2_half 150 = .ok (.iload 4, 2) := by decide +kernel
theorem dX2_half_152 : decode cX2_half 152 = .ok (.sipush 8192, 3) := by decide +kernel
theorem dX2_half_155 : decode cX2_half 155 = .ok (.irem, 1) := by decide +kernel
theorem dX2_half_156 : decode cX2_half 156 = .ok (.putfield 56, 3) := by decide +kernel
theorem dX2_half_159 : decode cX2_half 159 = .ok (.aload_n 0, 1) := by decide +kernel
theorem dX2_half_160 : decode cX2_half 160 = .ok (.iload_n 1, 1) := by decide +kernel
theorem dX2_half_161 : decode cX2_half 161 = .ok (.invokevirtual 88, 3) := by decide +kernel
theorem dX2_half_164 : decode cX2_half 164 = .ok (.pop, 1) := by decide +kernel
theorem dX2_half_165 : decode cX2_half 165 = .ok (.iload_n 3, 1) := by decide +kernel
theorem dX2_half_166 : decode cX2_half 166 = .ok (.ireturn, 1) := by decide +kernel
theorem dX2_sign_0 : decode cX2_sign 0 = .ok (.aload_n 0, 1) := by decide +kernel
theorem dX2_sign_1 : decode cX2_sign 1 = .ok (.iload_n 1, 1) := by decide +kernel
theorem dX2_sign_2 : decode cX2_sign 2 = .ok (.invokestatic 76, 3) := by decide +kernel
theorem dX2_sign_5 : decode cX2_sign 5 = .ok (.ifCond .eq 7, 3) := by decide +kernel
theorem dX2_sign_8 : decode cX2_sign 8 = .ok (.iconst 1, 1) := by decide +kernel
theorem dX2_sign_9 : decode cX2_sign 9 = .ok (.goto 51, 3) := by decide +kernel
theorem dX2_sign_12 : decode cX2_sign 12 = .ok (.iload_n 2, 1) := by decide +kernel
theorem dX2_sign_13 : decode cX2_sign 13 = .ok (.ifCond .lt 19, 3) := by decide +kernel
theorem dX2_sign_16 : decode cX2_sign 16 = .ok (.iload_n 2, 1) := by decide +kernel
theorem dX2_sign_17 : decode cX2_sign 17 = .ok (.ldc 106, 2) := by decide +kernel
theorem dX2_sign_19 : decode cX2_sign 19 = .ok (.if_icmp .gt 13, 3) := by decide +kernel
theorem dX2_sign_22 : decode cX2_sign 22 = .ok (.iload_n 3, 1) := by decide +kernel
theorem dX2_sign_23 : decode cX2_sign 23 = .ok (.ifCond .lt 9, 3) := by decide +kernel
theorem dX2_sign_26 : decode cX2_sign 26 = .ok (.iload_n 3, 1) := by decide +kernel
theorem dX2_sign_27 : decode cX2_sign 27 = .ok (.ldc 106, 2) := by decide +kernel
theorem dX2_sign_29 : decode cX2_sign 29 = .ok (.if_icmp .le 7, 3) := by decide +kernel
theorem dX2_sign_32 : decode cX2_sign 32 = .ok (.iconst 2, 1) := by decide +kernel
theorem dX2_sign_33 : decode cX2_sign 33 = .ok (.goto 27, 3) := by decide +kernel
theorem dX2_sign_36 : decode cX2_sign 36 = .ok (.aload_n 0, 1) := by decide +kernel
theorem dX2_sign_37 : decode cX2_sign 37 = .ok (.getfield 13, 3) := by decide +kernel
theorem dX2_sign_40 : decode cX2_sign 40 = .ok (.iload_n 1, 1) := by decide +kernel
theorem dX2_sign_41 : decode cX2_sign 41 = .ok (.iaload, 1) := by decide +kernel
theorem dX2_sign_42 : decode cX2_sign 42 = .ok (.ifCond .ne 17, 3) := by decide +kernel
theorem dX2_sign_45 : decode cX2_sign 45 = .ok (.aload_n 0, 1) := by decide +kernel
theorem dX2_sign_46 : decode cX2_sign 46 = .ok (.getfield 17, 3) := by decide +kernel
theorem dX2_sign_49 : decode cX2_sign 49 = .ok (.iload_n 1, 1) := by decide +kernel
theorem dX2_sign_50 : decode cX2_sign 50 = .ok (.iaload, 1) := by decide +kernel
theorem dX2_sign_51 : decode cX2_sign 51 = .ok (.iconst 1, 1) := by decide +kernel
theorem dX2_sign_52 : decode cX2_sign 52 = .ok (.if_icmp .ne 7, 3) := by decide +kernel
theorem dX2_sign_55 : decode cX2_sign 55 = .ok (.iconst 3, 1) := by decide +kernel
theorem dX2_sign_56 : decode cX2_sign 56 = .ok (.goto 4, 3) := by decide +kernel
theorem dX2_sign_59 : decode cX2_sign 59 = .ok (.iconst 0, 1) := by decide +kernel
theorem dX2_sign_60 : decode cX2_sign 60 = .ok (.putfield 30, 3) := by decide +kernel
theorem dX2_sign_63 : decode cX2_sign 63 = .ok (.aload_n 0, 1) := by decide +kernel
theorem dX2_sign_64 : decode cX2_sign 64 = .ok (.getfield 30, 3) := by decide +kernel
theorem dX2_sign_67 : decode cX2_sign 67 = .ok (.ifCond .le 5, 3) := by decide +kernel
theorem dX2_sign_70 : decode cX2_sign 70 = .ok (.lconst 0, 1) := by decide +kernel
theorem dX2_sign_71 : decode cX2_sign 71 = .ok (.lreturn, 1) := by decide +kernel
theorem dX2_sign_72 : decode cX2_sign 72 = .ok (.aload_n 0, 1) := by decide +kernel
theorem dX2_sign_73 : decode cX2_sign 73 = .ok (.aload_n 0, 1) := by decide +kernel
theorem dX2_sign_74 : decode cX2_sign 74 = .ok (.getfield 13, 3) := by decide +kernel
theorem dX2_sign_77 : decode cX2_sign 77 = .ok (.iload_n 1, 1) := by decide +kernel
theorem dX2_sign_78 : decode cX2_sign 78 = .ok (.iaload, 1) := by decide +kernel
theorem dX2_sign_79 : decode cX2_sign 79 = .ok (.aload_n 0, 1) := by decide +kernel
theorem dX2_sign_80 : decode cX2_sign 80 = .ok (.getfield 17, 3) := by decide +kernel
theorem dX2_sign_83 : decode cX2_sign 83 = .ok (.iload_n 1, 1) := by decide +kernel
theorem dX2_sign_84 : decode cX2_sign 84 = .ok (.iaload, 1) := by decide +kernel
theorem dX2_sign_85 : decode cX2_sign 85 = .ok (.invokevirtual 66, 3) := by decide +kernel
theorem dX2_sign_88 : decode cX2_sign 88 = .ok (.istore 4, 2) := by decide +kernel
theorem dX2_sign_90 : decode cX2_sign 90 = .ok (.iload_n 2, 1) := by decide +kernel
theorem dX2_sign_91 : decode cX2_sign 91 = .ok (.i2l, 1) := by decide +kernel
theorem dX2_sign_92 : decode cX2_sign 92 = .ok (.iload_n 3, 1) := by decide +kernel
theorem dX2_sign_93 : decode cX2_sign 93 = .ok (.i2l, 1) := by decide +kernel
theorem dX2_sign_94 : decode cX2_sign 94 = .ok (.ladd, 1) := by decide +kernel
theorem dX2_sign_95 : decode cX2_sign 95 = .ok (.lconst 1, 1) := by decide +kernel
theorem dX2_sign_96 : decode cX2_sign 96 = .ok (.ladd, 1) := by decide +kernel
theorem dX2_sign_97 : decode cX2_sign 97 = .ok (.ldc2_w 107, 3) := by decide +kernel
theorem dX2_sign_100 : decode cX2_sign 100 = .ok (.lrem, 1) := by decide +kernel
theorem dX2_sign_101 : decode cX2_sign 101 = .ok (.lstore 5, 2) := by decide +kernel
theorem dX2_sign_103 : decode cX2_sign 103 = .ok (.lload 5, 2) := by decide +kernel
theorem dX2_sign_105 : decode cX2_sign 105 = .ok (.iload 4, 2) := by decide +kernel
theorem dX2_sign_107 : decode cX2_sign 107 = .ok (.i2l, 1) := by decide +kernel
theorem dX2_sign_108 : decode cX2_sign 108 = .ok (.lrem, 1) := by decide +kernel
theorem dX2_sign_109 : decode cX2_sign 109 = .ok (.lconst 0, 1) := by decide +kernel
theorem dX2_sign_110 : decode cX2_sign 110 = .ok (.lcmp, 1) := by decide +kernel
theorem dX2_sign_111 : decode cX2_sign 111 = .ok (.ifCond .ne 16, 3) := by decide +kernel
theorem dX2_sign_114 : decode cX2_sign 114 = .ok (.lload 5, 2) := by decide +kernel
theorem dX2_sign_116 : decode cX2_sign 116 = .ok (.lconst 1, 1) := by decide +kernel
theorem dX2_sign_117 : decode cX2_sign 117 = .ok (.ladd, 1) := by decide +kernel
theorem dX2_sign_118 : decode cX2_sign 118 = .ok (.ldc2_w 107, 3) := by decide +kernel
theorem dX2_sign_121 : decode cX2_sign 121 = .ok (.lrem, 1) := by decide +kernel
theorem dX2_sign_122 : decode cX2_sign 122 = .ok (.lstore 5, 2) := by decide +kernel
theorem dX2_sign_124 : decode cX2_sign 124 = .ok (.goto (-21), 3) := by decide +kernel
theorem dX2_sign_127 : decode cX2_sign 127 = .ok (.aload_n 0, 1) := by decide +kernel
theorem dX2_sign_128 : decode cX2_sign 128 = .ok (.lload 5, 2) := by decide +kernel
theorem dX2_sign_130 : decode cX2_sign 130 = .ok (.aload_n 0, 1) := by decide +kernel
theorem dX2_sign_131 : decode cX2_sign 131 = .ok (.getfield 13, 3) := by decide +kernel
theorem dX2_sign_134 : decode cX2_sign 134 = .ok (.iload_n 1, 1) := by decide +kernel
theorem dX2_sign_135 : decode cX2_sign 135 = .ok (.iaload, 1) := by decide +kernel
theorem dX2_sign_136 : decode cX2_sign 136 = .ok (.aload_n 0, 1) := by decide +kernel
theorem dX2_sign_137 : decode cX2_sign 137 = .ok (.getfield 17, 3) := by decide +kernel
theorem dX2_sign_140 : decode cX2_sign 140 = .ok (.iload_n 1, 1) := by decide +kernel
theorem dX2_sign_141 : decode cX2_sign 141 = .ok (.iaload, 1) := by decide +kernel
theorem dX2_sign_142 : decode cX2_sign 142 = .ok (.invokevirtual 91, 3) := by decide +kernel
theorem dX2_sign_145 : decode cX2_sign 145 = .ok (.aload_n 0, 1) := by decide +kernel
theorem dX2_sign_146 : decode cX2_sign 146 = .ok (.getfield 59, 3) := by decide +kernel
theorem dX2_sign_149 : decode cX2_sign 149 = .ok (.aload_n 0, 1) := by decide +kernel
theorem dX2_sign_150 : decode cX2_sign 150 = .ok (.getfield 56, 3) := by decide +kernel
theorem dX2_sign_153 : decode cX2_sign 153 = .ok (.invokestatic 73, 3) := by decide +kernel
theorem dX2_sign_156 : decode cX2_sign 156 = .ok (.istore 7, 2) := by decide +kernel
theorem dX2_sign_158 : decode cX2_sign 158 = .ok (.iload 7, 2) := by decide +kernel
theorem dX2_sign_160 : decode cX2_sign 160 = .ok (.i2l, 1) := by decide +kernel
theorem dX2_sign_161 : decode cX2_sign 161 = .ok (.iload_n 3, 1) := by decide +kernel
theorem dX2_sign_162 : decode cX2_sign 162 = .ok (.i2l, 1) := by decide +kernel
theorem dX2_sign_163 : decode cX2_sign 163 = .ok (.ladd, 1) := by decide +kernel
theorem dX2_sign_164 : decode cX2_sign 164 = .ok (.ldc2_w 109, 3) := by decide +kernel
theorem dX2_sign_167 : decode cX2_sign 167 = .ok (.lrem, 1) := by decide +kernel
theorem dX2_sign_168 : decode cX2_sign 168 = .ok (.lstore 8, 2) := by decide +kernel
theorem dX2_sign_170 : decode cX2_sign 170 = .ok (.iload 7, 2) := by decide +kernel
theorem dX2_sign_172 : decode cX2_sign 172 = .ok (.i2l, 1) := by decide +kernel
theorem dX2_sign_173 : decode cX2_sign 173 = .ok (.ldc2_w 111, 3) := by decide +kernel
theorem dX2_sign_176 : decode cX2_sign 176 = .ok (.lmul, 1) := by decide +kernel
theorem dX2_sign_177 : decode cX2_sign 177 = .ok (.lload 5, 2) := by decide +kernel
theorem dX2_sign_179 : decode cX2_sign 179 = .ok (.lload 8, 2) := by decide +kernel
theorem dX2_sign_181 : decode cX2_sign 181 = .ok (.iload_n 2, 1) := by decide +kernel
theorem dX2_sign_182 : decode cX2_sign 182 = .ok (.i2l, 1) := by decide +kernel
theorem dX2_sign_183 : decode cX2_sign 183 = .ok (.lmul, 1) := by decide +kernel
theorem dX2_sign_184 : decode cX2_sign 184 = .ok (.ladd, 1) := by decide +kernel
theorem dX2_sign_185 : decode cX2_sign 185 = .ok (.iload 4, 2) := by decide +kernel
theorem dX2_sign_187 : decode cX2_sign 187 = .ok (.i2l, 1) := by decide +kernel
theorem dX2_sign_188 : decode cX2_sign 188 = .ok (.lrem, 1) := by decide +kernel
theorem dX2_sign_189 : decode cX2_sign 189 = .ok (.ladd, 1) := by decide +kernel
theorem dX2_sign_190 : decode cX2_sign 190 = .ok (.lreturn, 1) := by decide +kernel
theorem dX2_verify_0 : decode cX2_verify 0 = .ok (.aload_n 0, 1) := by decide +kernel
theorem dX2_verify_1 : decode cX2_verify 1 = .ok (.iload_n 1, 1) := by decide +kernel
theorem dX2_verify_2 : decode cX2_verify 2 = .ok (.invokestatic 76, 3) := by decide +kernel
theorem dX2_verify_5 : decode cX2_verify 5 = .ok (.ifCond .ne 10, 3) := by decide +kernel
theorem dX2_verify_8 : decode cX2_verify 8 = .ok (.iload_n 2, 1) := by decide +kernel
theorem dX2_verify_9 : decode cX2_verify 9 = .ok (.invokestatic 76, 3) := by decide +kernel
theorem dX2_verify_12 : decode cX2_verify 12 = .ok (.ifCond .eq 7, 3) := by decide +kernel
theorem dX2_verify_15 : decode cX2_verify 15 = .ok (.iconst 1, 1) := by decide +kernel
theorem dX2_verify_16 : decode cX2_verify 16 = .ok (.goto 18, 3) := by decide +kernel
theorem dX2_verify_19 : decode cX2_verify 19 = .ok (.iload_n 3, 1) := by decide +kernel
theorem dX2_verify_20 : decode cX2_verify 20 = .ok (.ifCond .lt 9, 3) := by decide +kernel
theorem dX2_verify_23 : decode cX2_verify 23 = .ok (.iload_n 3, 1) := by decide +kernel
theorem dX2_verify_24 : decode cX2_verify 24 = .ok (.ldc 106, 2) := by decide +kernel
theorem dX2_verify_26 : decode cX2_verify 26 = .ok (.if_icmp .le 7, 3) := by decide +kernel
theorem dX2_verify_29 : decode cX2_verify 29 = .ok (.iconst 2, 1) := by decide +kernel
theorem dX2_verify_30 : decode cX2_verify 30 = .ok (.goto 4, 3) := by decide +kernel
theorem dX2_verify_33 : decode cX2_verify 33 = .ok (.iconst 0, 1) := by decide +kernel
theorem dX2_verify_34 : decode cX2_verify 34 = .ok (.putfield 30, 3) := by decide +kernel
theorem dX2_verify_37 : decode cX2_verify 37 = .ok (.aload_n 0, 1) := by decide +kernel
theorem dX2_verify_38 : decode cX2_verify 38 = .ok (.getfield 30, 3) := by decide +kernel
theorem dX2_verify_41 : decode cX2_verify 41 = .ok (.ifCond .gt 19, 3) := by decide +kernel
theorem dX2_verify_44 : decode cX2_verify 44 = .ok (.lload 4, 2) := by decide +kernel
theorem dX2_verify_46 : decode cX2_verify 46 = .ok (.lconst 0, 1) := by decide +kernel
theorem dX2_verify_47 : decode cX2_verify 47 = .ok (.lcmp, 1) := by decide +kernel
theorem dX2_verify_48 : decode cX2_verify 48 = .ok (.ifCond .lt 12, 3) := by decide +kernel
theorem dX2_verify_51 : decode cX2_verify 51 = .ok (.lload 4, 2) := by decide +kernel
theorem dX2_verify_53 : decode cX2_verify 53 = .ok (.ldc2_w 113, 3) := by decide +kernel
theorem dX2_verify_56 : decode cX2_verify 56 = .ok (.lcmp, 1) := by decide +kernel
theorem dX2_verify_57 : decode cX2_verify 57 = .ok (.ifCond .lt 5, 3) := by decide +kernel
theorem dX2_verify_60 : decode cX2_verify 60 = .ok (.iconst 0, 1) := by decide +kernel
theorem dX2_verify_61 : decode cX2_verify 61 = .ok (.ireturn, 1) := by decide +kernel
theorem dX2_verify_62 : decode cX2_verify 62 = .ok (.lload 4, 2) := by decide +kernel
theorem dX2_verify_64 : decode cX2_verify 64 = .ok (.ldc2_w 111, 3) := by decide +kernel
theorem dX2_verify_67 : decode cX2_verify 67 = .ok (.ldiv, 1) := by decide +kernel
theorem dX2_verify_68 : decode cX2_verify 68 = .ok (.l2i, 1) := by decide +kernel
theorem dX2_verify_69 : decode cX2_verify 69 = .ok (.istore 6, 2) := by decide +kernel
theorem dX2_verify_71 : decode cX2_verify 71 = .ok (.aload_n 0, 1) := by decide +kernel
theorem dX2_verify_72 : decode cX2_verify 72 = .ok (.iload 6, 2) := by decide +kernel
theorem dX2_verify_74 : decode cX2_verify 74 = .ok (.invokevirtual 84, 3) := by decide +kernel
theorem dX2_verify_77 : decode cX2_verify 77 = .ok (.iconst (-1), 1) := by decide +kernel
theorem dX2_verify_78 : decode cX2_verify 78 = .ok (.if_icmp .ne 5, 3) := by decide +kernel
theorem dX2_verify_81 : decode cX2_verify 81 = .ok (.iconst 0, 1) := by decide +kernel
theorem dX2_verify_82 : decode cX2_verify 82 = .ok (.ireturn, 1) := by decide +kernel
theorem dX2_verify_83 : decode cX2_verify 83 = .ok (.aload_n 0, 1) := by decide +kernel
theorem dX2_verify_84 : decode cX2_verify 84 = .ok (.iload 6, 2) := by decide +kernel
theorem dX2_verify_86 : decode cX2_verify 86 = .ok (.i2l, 1) := by decide +kernel
theorem dX2_verify_87 : decode cX2_verify 87 = .ok (.iload_n 3, 1) := by decide +kernel
theorem dX2_verify_88 : decode cX2_verify 88 = .ok (.i2l, 1) := by decide +kernel
theorem dX2_verify_89 : decode cX2_verify 89 = .ok (.ladd, 1) := by decide +kernel
theorem dX2_verify_90 : decode cX2_verify 90 = .ok (.ldc2_w 109, 3) := by decide +kernel
theorem dX2_verify_93 : decode cX2_verify 93 = .ok (.lrem, 1) := by decide +kernel
theorem dX2_verify_94 : decode cX2_verify 94 = .ok (.aload_n 0, 1) := by decide +kernel
theorem dX2_verify_95 : decode cX2_verify 95 = .ok (.getfield 13, 3) := by decide +kernel
theorem dX2_verify_98 : decode cX2_verify 98 = .ok (.iload_n 2, 1) := by decide +kernel
theorem dX2_verify_99 : decode cX2_verify 99 = .ok (.iaload, 1) := by decide +kernel
theorem dX2_verify_100 : decode cX2_verify 100 = .ok (.aload_n 0, 1) := by decide +kernel
theorem dX2_verify_101 : decode cX2_verify 101 = .ok (.getfield 17, 3) := by decide +kernel
theorem dX2_verify_104 : decode cX2_verify 104 = .ok (.iload_n 2, 1) := by decide +kernel
theorem dX2_verify_105 : decode cX2_verify 105 = .ok (.iaload, 1) := by decide +kernel
theorem dX2_verify_106 : decode cX2_verify 106 = .ok (.invokevirtual 91, 3) := by decide +kernel
theorem dX2_verify_109 : decode cX2_verify 109 = .ok (.aload_n 0, 1) := by decide +kernel
theorem dX2_verify_110 : decode cX2_verify 110 = .ok (.aload_n 0, 1) := by decide +kernel
theorem dX2_verify_111 : decode cX2_verify 111 = .ok (.iload 6, 2) := by decide +kernel
theorem dX2_verify_113 : decode cX2_verify 113 = .ok (.invokevirtual 84, 3) := by decide +kernel
theorem dX2_verify_116 : decode cX2_verify 116 = .ok (.iload 6, 2) := by decide +kernel
theorem dX2_verify_118 : decode cX2_verify 118 = .ok (.sipush 8192, 3) := by decide +kernel
theorem dX2_verify_121 : decode cX2_verify 121 = .ok (.irem, 1) := by decide +kernel
theorem dX2_verify_122 : decode cX2_verify 122 = .ok (.aload_n 0, 1) := by decide +kernel
theorem dX2_verify_123 : decode cX2_verify 123 = .ok (.getfield 59, 3) := by decide +kernel
theorem dX2_verify_126 : decode cX2_verify 126 = .ok (.aload_n 0, 1) := by decide +kernel
theorem dX2_verify_127 : decode cX2_verify 127 = .ok (.getfield 56, 3) := by decide +kernel
theorem dX2_verify_130 : decode cX2_verify 130 = .ok (.invokevirtual 62, 3) := by decide +kernel
theorem dX2_verify_133 : decode cX2_verify 133 = .ok (.aload_n 0, 1) := by decide +kernel
theorem dX2_verify_134 : decode cX2_verify 134 = .ok (.getfield 59, 3) := by decide +kernel
theorem dX2_verify_137 : decode cX2_verify 137 = .ok (.istore 7, 2) := by decide +kernel
theorem dX2_verify_139 : decode cX2_verify 139 = .ok (.aload_n 0, 1) := by decide +kernel
theorem dX2_verify_140 : decode cX2_verify 140 = .ok (.getfield 56, 3) := by decide +kernel
theorem dX2_verify_143 : decode cX2_verify 143 = .ok (.istore 8, 2) := by decide +kernel
theorem dX2_verify_145 : decode cX2_verify 145 = .ok (.aload_n 0, 1) := by decide +kernel
theorem dX2_verify_146 : decode cX2_verify 146 = .ok (.lload 4, 2) := by decide +kernel
theorem dX2_verify_148 : decode cX2_verify 148 = .ok (.ldc2_w 111, 3) := by decide +kernel
theorem dX2_verify_151 : decode cX2_verify 151 = .ok (.lrem, 1) := by decide +kernel
theorem dX2_verify_152 : decode cX2_verify 152 = .ok (.aload_n 0, 1) := by decide +kernel
theorem dX2_verify_153 : decode cX2_verify 153 = .ok (.getfield 13, 3) := by decide +kernel
theorem dX2_verify_156 : decode cX2_verify 156 = .ok (.iload_n 1, 1) := by decide +kernel
theorem dX2_verify_157 : decode cX2_verify 157 = .ok (.iaload, 1) := by decide +kernel
theorem dX2_verify_158 : decode cX2_verify 158 = .ok (.aload_n 0, 1) := by decide +kernel
theorem dX2_verify_159 : decode cX2_verify 159 = .ok (.getfield 17, 3) := by decide +kernel
theorem dX2_verify_162 : decode cX2_verify 162 = .ok (.iload_n 1, 1) := by decide +kernel
theorem dX2_verify_163 : decode cX2_verify 163 = .ok (.iaload, 1) := by decide +kernel
theorem dX2_verify_164 : decode cX2_verify 164 = .ok (.invokevirtual 91, 3) := by decide +kernel
theorem dX2_verify_167 : decode cX2_verify 167 = .ok (.aload_n 0, 1) := by decide +kernel
theorem dX2_verify_168 : decode cX2_verify 168 = .ok (.getfield 59, 3) := by decide +kernel
theorem dX2_verify_171 : decode cX2_verify 171 = .ok (.iload 7, 2) := by decide +kernel
theorem dX2_verify_173 : decode cX2_verify 173 = .ok (.if_icmp .ne 16, 3) := by decide +kernel
theorem dX2_verify_176 : decode cX2_verify 176 = .ok (.aload_n 0, 1) := by decide +kernel
theorem dX2_verify_177 : decode cX2_verify 177 = .ok (.getfield 56, 3) := by decide +kernel
theorem dX2_verify_180 : decode cX2_verify 180 = .ok (.iload 8, 2) := by decide +kernel
theorem dX2_verify_182 : decode cX2_verify 182 = .ok (.if_icmp .ne 7, 3) := by decide +kernel
theorem dX2_verify_185 : decode cX2_verify 185 = .ok (.iconst 1, 1) := by decide +kernel
theorem dX2_verify_186 : decode cX2_verify 186 = .ok (.goto 4, 3) := by decide +kernel
theorem dX2_verify_189 : decode cX2_verify 189 = .ok (.iconst 0, 1) := by decide +kernel
theorem dX2_verify_190 : decode cX2_verify 190 = .ok (.ireturn, 1) := by decide +kernel
theorem dX2_count_0 : decode cX2_count 0 = .ok (.aload_n 0, 1) := by decide +kernel
theorem dX2_count_1 : decode cX2_count 1 = .ok (.iconst 0, 1) := by decide +kernel
theorem dX2_count_2 : decode cX2_count 2 = .ok (.putfield 30, 3) := by decide +kernel
theorem dX2_count_5 : decode cX2_count 5 = .ok (.iload_n 1, 1) := by decide +kernel
theorem dX2_count_6 : decode cX2_count 6 = .ok (.tableswitch 94 0 4 #[34, 39, 44, 49, 54], 34) := by decide +kernel
theorem dX2_count_40 : decode cX2_count 40 = .ok (.aload_n 0, 1) := by decide +kernel
theorem dX2_count_41 : decode cX2_count 41 = .ok (.getfield 33, 3) := by decide +kernel
theorem dX2_count_44 : decode cX2_count 44 = .ok (.ireturn, 1) := by decide +kernel
theorem dX2_count_45 : decode cX2_count 45 = .ok (.aload_n 0, 1) := by decide +kernel
theorem dX2_count_46 : decode cX2_count 46 = .ok (.getfield 7, 3) := by decide +kernel
theorem dX2_count_49 : decode cX2_count 49 = .ok (.ireturn, 1) := by decide +kernel
theorem dX2_count_50 : decode cX2_count 50 = .ok (.aload_n 0, 1) := by decide +kernel
theorem dX2_count_51 : decode cX2_count 51 = .ok (.getfield 36, 3) := by decide +kernel
theorem dX2_count_54 : decode cX2_count 54 = .ok (.ireturn, 1) := by decide +kernel
theorem dX2_count_55 : decode cX2_count 55 = .ok (.aload_n 0, 1) := by decide +kernel
theorem dX2_count_56 : decode cX2_count 56 = .ok (.getfield 39, 3) := by decide +kernel
theorem dX2_count_59 : decode cX2_count 59 = .ok (.ireturn, 1) := by decide +kernel
theorem dX2_count_60 : decode cX2_count 60 = .ok (.iconst 0, 1) := by decide +kernel
theorem dX2_count_61 : decode cX2_count 61 = .ok (.istore_n 2, 1) := by decide +kernel
theorem dX2_count_62 : decode cX2_count 62 = .ok (.iconst 0, 1) := by decide +kernel
theorem dX2_count_63 : decode cX2_count 63 = .ok (.istore_n 3, 1) := by decide +kernel
theorem dX2_count_64 : decode cX2_count 64 = .ok (.iload_n 3, 1) := by decide +kernel
theorem dX2_count_65 : decode cX2_count 65 = .ok (.bipush 12, 2) := by decide +kernel
theorem dX2_count_67 : decode cX2_count 67 = .ok (.if_icmp .ge 31, 3) := by decide +kernel
theorem dX2_count_70 : decode cX2_count 70 = .ok (.aload_n 0, 1) := by decide +kernel
theorem dX2_count_71 : decode cX2_count 71 = .ok (.getfield 13, 3) := by decide +kernel
theorem dX2_count_74 : decode cX2_count 74 = .ok (.iload_n 3, 1) := by decide +kernel
theorem dX2_count_75 : decode cX2_count 75 = .ok (.iaload, 1) := by decide +kernel
theorem dX2_count_76 : decode cX2_count 76 = .ok (.ifCond .ne 13, 3) := by decide +kernel
theorem dX2_count_79 : decode cX2_count 79 = .ok (.aload_n 0, 1) := by decide +kernel
theorem dX2_count_80 : decode cX2_count 80 = .ok (.getfield 17, 3) := by decide +kernel
theorem dX2_count_83 : decode cX2_count 83 = .ok (.iload_n 3, 1) := by decide +kernel
theorem dX2_count_84 : decode cX2_count 84 = .ok (.iaload, 1) := by decide +kernel
theorem dX2_count_85 : decode cX2_count 85 = .ok (.iconst 1, 1) := by decide +kernel
theorem dX2_count_86 : decode cX2_count 86 = .ok (.if_icmp .eq 6, 3) := by decide +kernel
theorem dX2_count_89 : decode cX2_count 89 = .ok (.iinc 2 1, 3) := by decide +kernel
theorem dX2_count_92 : decode cX2_count 92 = .ok (.iinc 3 1, 3) := by decide +kernel
theorem dX2_count_95 : decode cX2_count 95 = .ok (.goto (-31), 3) := by decide +kernel
theorem dX2_count_98 : decode cX2_count 98 = .ok (.iload_n 2, 1) := by decide +kernel
theorem dX2_count_99 : decode cX2_count 99 = .ok (.ireturn, 1) := by decide +kernel
theorem dX2_count_100 : decode cX2_count 100 = .ok (.iconst (-1), 1) := by decide +kernel
theorem dX2_count_101 : decode cX2_count 101 = .ok (.ireturn, 1) := by decide +kernel
