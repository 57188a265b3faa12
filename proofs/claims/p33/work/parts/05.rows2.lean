theorem dX4_fetch_0 : decode cX4_fetch 0 = .ok (.iconst 0, 1) := by decide +kernel
theorem dX4_fetch_1 : decode cX4_fetch 1 = .ok (.istore_n 3, 1) := by decide +kernel
theorem dX4_fetch_2 : decode cX4_fetch 2 = .ok (.iload_n 3, 1) := by decide +kernel
theorem dX4_fetch_3 : decode cX4_fetch 3 = .ok (.bipush 10, 2) := by decide +kernel
theorem dX4_fetch_5 : decode cX4_fetch 5 = .ok (.if_icmp .ge 16, 3) := by decide +kernel
theorem dX4_fetch_8 : decode cX4_fetch 8 = .ok (.aload_n 0, 1) := by decide +kernel
theorem dX4_fetch_9 : decode cX4_fetch 9 = .ok (.getfield 15, 3) := by decide +kernel
theorem dX4_fetch_12 : decode cX4_fetch 12 = .ok (.iload_n 3, 1) := by decide +kernel
theorem dX4_fetch_13 : decode cX4_fetch 13 = .ok (.iconst (-1), 1) := by decide +kernel
theorem dX4_fetch_14 : decode cX4_fetch 14 = .ok (.iastore, 1) := by decide +kernel
theorem dX4_fetch_15 : decode cX4_fetch 15 = .ok (.iinc 3 1, 3) := by decide +kernel
theorem dX4_fetch_18 : decode cX4_fetch 18 = .ok (.goto (-16), 3) := by decide +kernel
theorem dX4_fetch_21 : decode cX4_fetch 21 = .ok (.iload_n 1, 1) := by decide +kernel
theorem dX4_fetch_22 : decode cX4_fetch 22 = .ok (.invokestatic 32, 3) := by decide +kernel
theorem dX4_fetch_25 : decode cX4_fetch 25 = .ok (.istore_n 3, 1) := by decide +kernel
theorem dX4_fetch_26 : decode cX4_fetch 26 = .ok (.iconst 1, 1) := by decide +kernel
theorem dX4_fetch_27 : decode cX4_fetch 27 = .ok (.istore 4, 2) := by decide +kernel
theorem dX4_fetch_29 : decode cX4_fetch 29 = .ok (.aload_n 0, 1) := by decide +kernel
theorem dX4_fetch_30 : decode cX4_fetch 30 = .ok (.getfield 18, 3) := by decide +kernel
theorem dX4_fetch_33 : decode cX4_fetch 33 = .ok (.iconst 0, 1) := by decide +kernel
theorem dX4_fetch_34 : decode cX4_fetch 34 = .ok (.iload_n 1, 1) := by decide +kernel
theorem dX4_fetch_35 : decode cX4_fetch 35 = .ok (.iastore, 1) := by decide +kernel
theorem dX4_fetch_36 : decode cX4_fetch 36 = .ok (.iconst 0, 1) := by decide +kernel
theorem dX4_fetch_37 : decode cX4_fetch 37 = .ok (.istore 5, 2) := by decide +kernel
theorem dX4_fetch_39 : decode cX4_fetch 39 = .ok (.iload 5, 2) := by decide +kernel
theorem dX4_fetch_41 : decode cX4_fetch 41 = .ok (.iload 4, 2) := by decide +kernel
theorem dX4_fetch_43 : decode cX4_fetch 43 = .ok (.if_icmp .ge 145, 3) := by decide +kernel
theorem dX4_fetch_46 : decode cX4_fetch 46 = .ok (.iload 5, 2) := by decide +kernel
theorem dX4_fetch_48 : decode cX4_fetch 48 = .ok (.bipush 10, 2) := by decide +kernel
theorem dX4_fetch_50 : decode cX4_fetch 50 = .ok (.if_icmp .ge 138, 3) := by decide +kernel
theorem dX4_fetch_53 : decode cX4_fetch 53 = .ok (.iconst 2, 1) := by decide +kernel
theorem dX4_fetch_54 : decode cX4_fetch 54 = .ok (.aload_n 0, 1) := by decide +kernel
theorem dX4_fetch_55 : decode cX4_fetch 55 = .ok (.getfield 18, 3) := by decide +kernel
theorem dX4_fetch_58 : decode cX4_fetch 58 = .ok (.iload 5, 2) := by decide +kernel
theorem dX4_fetch_60 : decode cX4_fetch 60 = .ok (.iaload, 1) := by decide +kernel
theorem dX4_fetch_61 : decode cX4_fetch 61 = .ok (.imul, 1) := by decide +kernel
theorem dX4_fetch_62 : decode cX4_fetch 62 = .ok (.istore 6, 2) := by decide +kernel
theorem dX4_fetch_64 : decode cX4_fetch 64 = .ok (.iload 6, 2) := by decide +kernel
theorem dX4_fetch_66 : decode cX4_fetch 66 = .ok (.iconst 2, 1) := by decide +kernel
theorem dX4_fetch_67 : decode cX4_fetch 67 = .ok (.aload_n 0, 1) := by decide +kernel
theorem dX4_fetch_68 : decode cX4_fetch 68 = .ok (.getfield 18, 3) := by decide +kernel
theorem dX4_fetch_71 : decode cX4_fetch 71 = .ok (.iload 5, 2) := by decide +kernel
theorem dX4_fetch_73 : decode cX4_fetch 73 = .ok (.iaload, 1) := by decide +kernel
theorem dX4_fetch_74 : decode cX4_fetch 74 = .ok (.imul, 1) := by decide +kernel
theorem dX4_fetch_75 : decode cX4_fetch 75 = .ok (.iconst 1, 1) := by decide +kernel
theorem dX4_fetch_76 : decode cX4_fetch 76 = .ok (.iadd, 1) := by decide +kernel
theorem dX4_fetch_77 : decode cX4_fetch 77 = .ok (.if_icmp .gt 105, 3) := by decide +kernel
theorem dX4_fetch_80 : decode cX4_fetch 80 = .ok (.aload_n 0, 1) := by decide +kernel
theorem dX4_fetch_81 : decode cX4_fetch 81 = .ok (.getfield 9, 3) := by decide +kernel
theorem dX4_fetch_84 : decode cX4_fetch 84 = .ok (.iload 6, 2) := by decide +kernel
theorem dX4_fetch_86 : decode cX4_fetch 86 = .ok (.iaload, 1) := by decide +kernel
theorem dX4_fetch_87 : decode cX4_fetch 87 = .ok (.istore 7, 2) := by decide +kernel
theorem dX4_fetch_89 : decode cX4_fetch 89 = .ok (.iload 7, 2) := by decide +kernel
theorem dX4_fetch_91 : decode cX4_fetch 91 = .ok (.iconst (-1), 1) := by decide +kernel
theorem dX4_fetch_92 : decode cX4_fetch 92 = .ok (.if_icmp .eq 84, 3) := by decide +kernel
theorem dX4_fetch_95 : decode cX4_fetch 95 = .ok (.iload_n 3, 1) := by decide +kernel
theorem dX4_fetch_96 : decode cX4_fetch 96 = .ok (.i2l, 1) := by decide +kernel
theorem dX4_fetch_97 : decode cX4_fetch 97 = .ok (.iload 7, 2) := by decide +kernel
theorem dX4_fetch_99 : decode cX4_fetch 99 = .ok (.invokestatic 36, 3) := by decide +kernel
theorem dX4_fetch_102 : decode cX4_fetch 102 = .ok (.ifCond .ne 74, 3) := by decide +kernel
theorem dX4_fetch_105 : decode cX4_fetch 105 = .ok (.iload 4, 2) := by decide +kernel
theorem dX4_fetch_107 : decode cX4_fetch 107 = .ok (.bipush 10, 2) := by decide +kernel
theorem dX4_fetch_109 : decode cX4_fetch 109 = .ok (.if_icmp .ge 67, 3) := by decide +kernel
theorem dX4_fetch_112 : decode cX4_fetch 112 = .ok (.iload_n 3, 1) := by decide +kernel
theorem dX4_fetch_113 : decode cX4_fetch 113 = .ok (.iload 7, 2) := by decide +kernel
theorem dX4_fetch_115 : decode cX4_fetch 115 = .ok (.invokestatic 32, 3) := by decide +kernel
theorem dX4_fetch_118 : decode cX4_fetch 118 = .ok (.ior, 1) := by decide +kernel
theorem dX4_fetch_119 : decode cX4_fetch 119 = .ok (.istore_n 3, 1) := by decide +kernel
theorem dX4_fetch_120 : decode cX4_fetch 120 = .ok (.aload_n 0, 1) := by decide +kernel
theorem dX4_fetch_121 : decode cX4_fetch 121 = .ok (.getfield 15, 3) := by decide +kernel
theorem dX4_fetch_124 : decode cX4_fetch 124 = .ok (.iload 7, 2) := by decide +kernel
theorem dX4_fetch_126 : decode cX4_fetch 126 = .ok (.iload 6, 2) := by decide +kernel
theorem dX4_fetch_128 : decode cX4_fetch 128 = .ok (.iastore, 1) := by decide +kernel
theorem dX4_fetch_129 : decode cX4_fetch 129 = .ok (.iload 7, 2) := by decide +kernel
theorem dX4_fetch_131 : decode cX4_fetch 131 = .ok (.iload_n 2, 1) := by decide +kernel
theorem dX4_fetch_132 : decode cX4_fetch 132 = .ok (.if_icmp .ne 7, 3) := by decide +kernel
theorem dX4_fetch_135 : decode cX4_fetch 135 = .ok (.iconst (-1), 1) := by decide +kernel
theorem dX4_fetch_136 : decode cX4_fetch 136 = .ok (.goto 9, 3) := by decide +kernel
theorem dX4_fetch_139 : decode cX4_fetch 139 = .ok (.aload_n 0, 1) := by decide +kernel
theorem dX4_fetch_140 : decode cX4_fetch 140 = .ok (.iload 7, 2) := by decide +kernel
theorem dX4_fetch_142 : decode cX4_fetch 142 = .ok (.invokevirtual 40, 3) := by decide +kernel
theorem dX4_fetch_145 : decode cX4_fetch 145 = .ok (.istore 8, 2) := by decide +kernel
theorem dX4_fetch_147 : decode cX4_fetch 147 = .ok (.iload 8, 2) := by decide +kernel
theorem dX4_fetch_149 : decode cX4_fetch 149 = .ok (.iconst (-1), 1) := by decide +kernel
theorem dX4_fetch_150 : decode cX4_fetch 150 = .ok (.if_icmp .eq 14, 3) := by decide +kernel
theorem dX4_fetch_153 : decode cX4_fetch 153 = .ok (.aload_n 0, 1) := by decide +kernel
theorem dX4_fetch_154 : decode cX4_fetch 154 = .ok (.iload 7, 2) := by decide +kernel
theorem dX4_fetch_156 : decode cX4_fetch 156 = .ok (.iload 8, 2) := by decide +kernel
theorem dX4_fetch_158 : decode cX4_fetch 158 = .ok (.iload_n 1, 1) := by decide +kernel
theorem dX4_fetch_159 : decode cX4_fetch 159 = .ok (.invokevirtual 43, 3) := by decide +kernel
theorem dX4_fetch_162 : decode cX4_fetch 162 = .ok (.iconst 1, 1) := by decide +kernel
theorem dX4_fetch_163 : decode cX4_fetch 163 = .ok (.ireturn, 1) := by decide +kernel
theorem dX4_fetch_164 : decode cX4_fetch 164 = .ok (.aload_n 0, 1) := by decide +kernel
theorem dX4_fetch_165 : decode cX4_fetch 165 = .ok (.getfield 18, 3) := by decide +kernel
theorem dX4_fetch_168 : decode cX4_fetch 168 = .ok (.iload 4, 2) := by decide +kernel
theorem dX4_fetch_170 : decode cX4_fetch 170 = .ok (.iload 7, 2) := by decide +kernel
theorem dX4_fetch_172 : decode cX4_fetch 172 = .ok (.iastore, 1) := by decide +kernel
theorem dX4_fetch_173 : decode cX4_fetch 173 = .ok (.iinc 4 1, 3) := by decide +kernel
theorem dX4_fetch_176 : decode cX4_fetch 176 = .ok (.iinc 6 1, 3) := by decide +kernel
theorem dX4_fetch_179 : decode cX4_fetch 179 = .ok (.goto (-115), 3) := by decide +kernel
theorem dX4_fetch_182 : decode cX4_fetch 182 = .ok (.iinc 5 1, 3) := by decide +kernel
theorem dX4_fetch_185 : decode cX4_fetch 185 = .ok (.goto (-146), 3) := by decide +kernel
theorem dX4_fetch_188 : decode cX4_fetch 188 = .ok (.iconst 0, 1) := by decide +kernel
theorem dX4_fetch_189 : decode cX4_fetch 189 = .ok (.ireturn, 1) := by decide +kernel
theorem dX4_freePebble_0 : decode cX4_freePebble 0 = .ok (.aload_n 0, 1) := by decide +kernel
theorem dX4_freePebble_1 : decode cX4_freePebble 1 = .ok (.getfield 9, 3) := by decide +kernel
theorem dX4_freePebble_4 : decode cX4_freePebble 4 = .ok (.iconst 2, 1) := by decide +kernel
theorem dX4_freePebble_5 : decode cX4_freePebble 5 = .ok (.iload_n 1, 1) := by decide +kernel
theorem dX4_freePebble_6 : decode cX4_freePebble 6 = .ok (.imul, 1) := by decide +kernel
theorem dX4_freePebble_7 : decode cX4_freePebble 7 = .ok (.iaload, 1) := by decide +kernel
theorem dX4_freePebble_8 : decode cX4_freePebble 8 = .ok (.iconst (-1), 1) := by decide +kernel
theorem dX4_freePebble_9 : decode cX4_freePebble 9 = .ok (.if_icmp .ne 7, 3) := by decide +kernel
theorem dX4_freePebble_12 : decode cX4_freePebble 12 = .ok (.iconst 2, 1) := by decide +kernel
theorem dX4_freePebble_13 : decode cX4_freePebble 13 = .ok (.iload_n 1, 1) := by decide +kernel
theorem dX4_freePebble_14 : decode cX4_freePebble 14 = .ok (.imul, 1) := by decide +kernel
theorem dX4_freePebble_15 : decode cX4_freePebble 15 = .ok (.ireturn, 1) := by decide +kernel
theorem dX4_freePebble_16 : decode cX4_freePebble 16 = .ok (.aload_n 0, 1) := by decide +kernel
theorem dX4_freePebble_17 : decode cX4_freePebble 17 = .ok (.getfield 9, 3) := by decide +kernel
theorem dX4_freePebble_20 : decode cX4_freePebble 20 = .ok (.iconst 2, 1) := by decide +kernel
theorem dX4_freePebble_21 : decode cX4_freePebble 21 = .ok (.iload_n 1, 1) := by decide +kernel
theorem dX4_freePebble_22 : decode cX4_freePebble 22 = .ok (.imul, 1) := by decide +kernel
theorem dX4_freePebble_23 : decode cX4_freePebble 23 = .ok (.iconst 1, 1) := by decide +kernel
theorem dX4_freePebble_24 : decode cX4_freePebble 24 = .ok (.iadd, 1) := by decide +kernel
theorem dX4_freePebble_25 : decode cX4_freePebble 25 = .ok (.iaload, 1) := by decide +kernel
theorem dX4_freePebble_26 : decode cX4_freePebble 26 = .ok (.iconst (-1), 1) := by decide +kernel
theorem dX4_freePebble_27 : decode cX4_freePebble 27 = .ok (.if_icmp .ne 11, 3) := by decide +kernel
theorem dX4_freePebble_30 : decode cX4_freePebble 30 = .ok (.iconst 2, 1) := by decide +kernel
theorem dX4_freePebble_31 : decode cX4_freePebble 31 = .ok (.iload_n 1, 1) := by decide +kernel
theorem dX4_freePebble_32 : decode cX4_freePebble 32 = .ok (.imul, 1) := by decide +kernel
theorem dX4_freePebble_33 : decode cX4_freePebble 33 = .ok (.iconst 1, 1) := by decide +kernel
theorem dX4_freePebble_34 : decode cX4_freePebble 34 = .ok (.iadd, 1) := by decide +kernel
theorem dX4_freePebble_35 : decode cX4_freePebble 35 = .ok (.goto 4, 3) := by decide +kernel
theorem dX4_freePebble_38 : decode cX4_freePebble 38 = .ok (.iconst (-1), 1) := by decide +kernel
theorem dX4_freePebble_39 : decode cX4_freePebble 39 = .ok (.ireturn, 1) := by decide +kernel
theorem dX4_passBack_0 : decode cX4_passBack 0 = .ok (.iload_n 1, 1) := by decide +kernel
theorem dX4_passBack_1 : decode cX4_passBack 1 = .ok (.istore 4, 2) := by decide +kernel
theorem dX4_passBack_3 : decode cX4_passBack 3 = .ok (.iload_n 2, 1) := by decide +kernel
theorem dX4_passBack_4 : decode cX4_passBack 4 = .ok (.istore 5, 2) := by decide +kernel
theorem dX4_passBack_6 : decode cX4_passBack 6 = .ok (.iconst 0, 1) := by decide +kernel
theorem dX4_passBack_7 : decode cX4_passBack 7 = .ok (.istore 6, 2) := by decide +kernel
theorem dX4_passBack_9 : decode cX4_passBack 9 = .ok (.iload 6, 2) := by decide +kernel
theorem dX4_passBack_11 : decode cX4_passBack 11 = .ok (.bipush 10, 2) := by decide +kernel
theorem dX4_passBack_13 : decode cX4_passBack 13 = .ok (.if_icmp .ge 60, 3) := by decide +kernel
theorem dX4_passBack_16 : decode cX4_passBack 16 = .ok (.iload 4, 2) := by decide +kernel
theorem dX4_passBack_18 : decode cX4_passBack 18 = .ok (.iload_n 3, 1) := by decide +kernel
theorem dX4_passBack_19 : decode cX4_passBack 19 = .ok (.if_icmp .eq 54, 3) := by decide +kernel
theorem dX4_passBack_22 : decode cX4_passBack 22 = .ok (.aload_n 0, 1) := by decide +kernel
theorem dX4_passBack_23 : decode cX4_passBack 23 = .ok (.getfield 15, 3) := by decide +kernel
theorem dX4_passBack_26 : decode cX4_passBack 26 = .ok (.iload 4, 2) := by decide +kernel
theorem dX4_passBack_28 : decode cX4_passBack 28 = .ok (.iaload, 1) := by decide +kernel
theorem dX4_passBack_29 : decode cX4_passBack 29 = .ok (.istore 7, 2) := by decide +kernel
theorem dX4_passBack_31 : decode cX4_passBack 31 = .ok (.iload 7, 2) := by decide +kernel
theorem dX4_passBack_33 : decode cX4_passBack 33 = .ok (.iconst (-1), 1) := by decide +kernel
theorem dX4_passBack_34 : decode cX4_passBack 34 = .ok (.if_icmp .ne 4, 3) := by decide +kernel
theorem dX4_passBack_37 : decode cX4_passBack 37 = .ok (.return_, 1) := by decide +kernel
theorem dX4_passBack_38 : decode cX4_passBack 38 = .ok (.aload_n 0, 1) := by decide +kernel
theorem dX4_passBack_39 : decode cX4_passBack 39 = .ok (.getfield 9, 3) := by decide +kernel
theorem dX4_passBack_42 : decode cX4_passBack 42 = .ok (.iload 5, 2) := by decide +kernel
theorem dX4_passBack_44 : decode cX4_passBack 44 = .ok (.iload 7, 2) := by decide +kernel
theorem dX4_passBack_46 : decode cX4_passBack 46 = .ok (.iconst 2, 1) := by decide +kernel
theorem dX4_passBack_47 : decode cX4_passBack 47 = .ok (.idiv, 1) := by decide +kernel
theorem dX4_passBack_48 : decode cX4_passBack 48 = .ok (.iastore, 1) := by decide +kernel
theorem dX4_passBack_49 : decode cX4_passBack 49 = .ok (.aload_n 0, 1) := by decide +kernel
theorem dX4_passBack_50 : decode cX4_passBack 50 = .ok (.getfield 9, 3) := by decide +kernel
theorem dX4_passBack_53 : decode cX4_passBack 53 = .ok (.iload 7, 2) := by decide +kernel
theorem dX4_passBack_55 : decode cX4_passBack 55 = .ok (.iconst (-1), 1) := by decide +kernel
theorem dX4_passBack_56 : decode cX4_passBack 56 = .ok (.iastore, 1) := by decide +kernel
theorem dX4_passBack_57 : decode cX4_passBack 57 = .ok (.iload 7, 2) := by decide +kernel
theorem dX4_passBack_59 : decode cX4_passBack 59 = .ok (.istore 5, 2) := by decide +kernel
theorem dX4_passBack_61 : decode cX4_passBack 61 = .ok (.iload 7, 2) := by decide +kernel
theorem dX4_passBack_63 : decode cX4_passBack 63 = .ok (.iconst 2, 1) := by decide +kernel
theorem dX4_passBack_64 : decode cX4_passBack 64 = .ok (.idiv, 1) := by decide +kernel
theorem dX4_passBack_65 : decode cX4_passBack 65 = .ok (.istore 4, 2) := by decide +kernel
theorem dX4_passBack_67 : decode cX4_passBack 67 = .ok (.iinc 6 1, 3) := by decide +kernel
theorem dX4_passBack_70 : decode cX4_passBack 70 = .ok (.goto (-61), 3) := by decide +kernel
theorem dX4_passBack_73 : decode cX4_passBack 73 = .ok (.return_, 1) := by decide +kernel
theorem dX5_init_0 : decode cX5_init 0 = .ok (.aload_n 0, 1) := by decide +kernel
theorem dX5_init_1 : decode cX5_init 1 = .ok (.invokespecial 3, 3) := by decide +kernel
theorem dX5_init_4 : decode cX5_init 4 = .ok (.aload_n 0, 1) := by decide +kernel
theorem dX5_init_5 : decode cX5_init 5 = .ok (.bipush 10, 2) := by decide +kernel
theorem dX5_init_7 : decode cX5_init 7 = .ok (.newarray .int, 2) := by decide +kernel
theorem dX5_init_9 : decode cX5_init 9 = .ok (.putfield 9, 3) := by decide +kernel
theorem dX5_init_12 : decode cX5_init 12 = .ok (.aload_n 0, 1) := by decide +kernel
theorem dX5_init_13 : decode cX5_init 13 = .ok (.bipush 10, 2) := by decide +kernel
theorem dX5_init_15 : decode cX5_init 15 = .ok (.newarray .int, 2) := by decide +kernel
theorem dX5_init_17 : decode cX5_init 17 = .ok (.putfield 15, 3) := by decide +kernel
theorem dX5_init_20 : decode cX5_init 20 = .ok (.aload_n 0, 1) := by decide +kernel
theorem dX5_init_21 : decode cX5_init 21 = .ok (.bipush 10, 2) := by decide +kernel
theorem dX5_init_23 : decode cX5_init 23 = .ok (.newarray .int, 2) := by decide +kernel
theorem dX5_init_25 : decode cX5_init 25 = .ok (.putfield 18, 3) := by decide +kernel
theorem dX5_init_28 : decode cX5_init 28 = .ok (.aload_n 0, 1) := by decide +kernel
theorem dX5_init_29 : decode cX5_init 29 = .ok (.iconst 0, 1) := by decide +kernel
theorem dX5_init_30 : decode cX5_init 30 = .ok (.putfield 21, 3) := by decide +kernel
theorem dX5_init_33 : decode cX5_init 33 = .ok (.return_, 1) := by decide +kernel
theorem dX5_add_0 : decode cX5_add 0 = .ok (.aload_n 0, 1) := by decide +kernel
theorem dX5_add_1 : decode cX5_add 1 = .ok (.getfield 21, 3) := by decide +kernel
theorem dX5_add_4 : decode cX5_add 4 = .ok (.bipush 10, 2) := by decide +kernel
theorem dX5_add_6 : decode cX5_add 6 = .ok (.if_icmp .ge 43, 3) := by decide +kernel
theorem dX5_add_9 : decode cX5_add 9 = .ok (.aload_n 0, 1) := by decide +kernel
theorem dX5_add_10 : decode cX5_add 10 = .ok (.getfield 9, 3) := by decide +kernel
theorem dX5_add_13 : decode cX5_add 13 = .ok (.aload_n 0, 1) := by decide +kernel
theorem dX5_add_14 : decode cX5_add 14 = .ok (.getfield 21, 3) := by decide +kernel
theorem dX5_add_17 : decode cX5_add 17 = .ok (.iload_n 1, 1) := by decide +kernel
theorem dX5_add_18 : decode cX5_add 18 = .ok (.iastore, 1) := by decide +kernel
theorem dX5_add_19 : decode cX5_add 19 = .ok (.aload_n 0, 1) := by decide +kernel
theorem dX5_add_20 : decode cX5_add 20 = .ok (.getfield 15, 3) := by decide +kernel
theorem dX5_add_23 : decode cX5_add 23 = .ok (.aload_n 0, 1) := by decide +kernel
theorem dX5_add_24 : decode cX5_add 24 = .ok (.getfield 21, 3) := by decide +kernel
theorem dX5_add_27 : decode cX5_add 27 = .ok (.iload_n 2, 1) := by decide +kernel
theorem dX5_add_28 : decode cX5_add 28 = .ok (.iastore, 1) := by decide +kernel
theorem dX5_add_29 : decode cX5_add 29 = .ok (.aload_n 0, 1) := by decide +kernel
theorem dX5_add_30 : decode cX5_add 30 = .ok (.getfield 18, 3) := by decide +kernel
theorem dX5_add_33 : decode cX5_add 33 = .ok (.aload_n 0, 1) := by decide +kernel
theorem dX5_add_34 : decode cX5_add 34 = .ok (.getfield 21, 3) := by decide +kernel
theorem dX5_add_37 : decode cX5_add 37 = .ok (.iload_n 3, 1) := by decide +kernel
theorem dX5_add_38 : decode cX5_add 38 = .ok (.iastore, 1) := by decide +kernel
theorem dX5_add_39 : decode cX5_add 39 = .ok (.aload_n 0, 1) := by decide +kernel
theorem dX5_add_40 : decode cX5_add 40 = .ok (.dup, 1) := by decide +kernel
theorem dX5_add_41 : decode cX5_add 41 = .ok (.getfield 21, 3) := by decide +kernel
theorem dX5_add_44 : decode cX5_add 44 = .ok (.iconst 1, 1) := by decide +kernel
theorem dX5_add_45 : decode cX5_add 45 = .ok (.iadd, 1) := by decide +kernel
theorem dX5_add_46 : decode cX5_add 46 = .ok (.putfield 21, 3) := by decide +kernel
theorem dX5_add_49 : decode cX5_add 49 = .ok (.return_, 1) := by decide +kernel
theorem dX5_bars_0 : decode cX5_bars 0 = .ok (.aload_n 0, 1) := by decide +kernel
theorem dX5_bars_1 : decode cX5_bars 1 = .ok (.getfield 18, 3) := by decide +kernel
theorem dX5_bars_4 : decode cX5_bars 4 = .ok (.iload_n 1, 1) := by decide +kernel
theorem dX5_bars_5 : decode cX5_bars 5 = .ok (.iaload, 1) := by decide +kernel
theorem dX5_bars_6 : decode cX5_bars 6 = .ok (.iconst (-1), 1) := by decide +kernel
theorem dX5_bars_7 : decode cX5_bars 7 = .ok (.if_icmp .ne 7, 3) := by decide +kernel
theorem dX5_bars_10 : decode cX5_bars 10 = .ok (.iconst 2, 1) := by decide +kernel
theorem dX5_bars_11 : decode cX5_bars 11 = .ok (.goto 4, 3) := by decide +kernel
theorem dX5_bars_14 : decode cX5_bars 14 = .ok (.iconst 3, 1) := by decide +kernel
theorem dX5_bars_15 : decode cX5_bars 15 = .ok (.ireturn, 1) := by decide +kernel
theorem dX5_dropLast_0 : decode cX5_dropLast 0 = .ok (.aload_n 0, 1) := by decide +kernel
theorem dX5_dropLast_1 : decode cX5_dropLast 1 = .ok (.getfield 21, 3) := by decide +kernel
theorem dX5_dropLast_4 : decode cX5_dropLast 4 = .ok (.ifCond .le 13, 3) := by decide +kernel
theorem dX5_dropLast_7 : decode cX5_dropLast 7 = .ok (.aload_n 0, 1) := by decide +kernel
theorem dX5_dropLast_8 : decode cX5_dropLast 8 = .ok (.dup, 1) := by decide +kernel
theorem dX5_dropLast_9 : decode cX5_dropLast 9 = .ok (.getfield 21, 3) := by decide +kernel
theorem dX5_dropLast_12 : decode cX5_dropLast 12 = .ok (.iconst 1, 1) := by decide +kernel
theorem dX5_dropLast_13 : decode cX5_dropLast 13 = .ok (.isub, 1) := by decide +kernel
theorem dX5_dropLast_14 : decode cX5_dropLast 14 = .ok (.putfield 21, 3) := by decide +kernel
theorem dX5_dropLast_17 : decode cX5_dropLast 17 = .ok (.return_, 1) := by decide +kernel
set_option maxRecDepth 20000 in
theorem ggX6_init_X1_init : GoodIn wsX6_init wsX1_init := goodIn_r _ [30, 31, 2, 3, 32, 33, 34, 35, 36, 37, 38, 77, 78, 79, 80, 81] (by decide +kernel) (by decide +kernel)
set_option maxRecDepth 20000 in
theorem gX6_init_X1_init_n9 : GoodIn wsX6_init (wsX1_init) := ggX6_init_X1_init
set_option maxRecDepth 20000 in
theorem ggX6_init_X3_init : GoodIn wsX6_init wsX3_init := goodIn_r _ [40, 41, 2, 3, 32, 42, 43, 44, 45, 35, 46, 47, 89, 90, 91, 92, 93, 94] (by decide +kernel) (by decide +kernel)
set_option maxRecDepth 20000 in
theorem gX6_init_X3_init_n18 : GoodIn wsX6_init (wsX3_init) := ggX6_init_X3_init
set_option maxRecDepth 20000 in
theorem ggX6_init_X5_init : GoodIn wsX6_init wsX5_init := goodIn_r _ [49, 50, 2, 3, 32, 51, 52, 53, 54, 95, 96, 97, 98] (by decide +kernel) (by decide +kernel)
set_option maxRecDepth 20000 in
theorem gX6_init_X5_init_n25 : GoodIn wsX6_init (wsX5_init) := ggX6_init_X5_init
set_option maxRecDepth 20000 in
theorem ggX6_init_X2_init : GoodIn wsX6_init wsX2_init := goodIn_r _ [56, 57, 2, 3, 32, 58, 59, 60, 61, 99, 100, 101, 102] (by decide +kernel) (by decide +kernel)
set_option maxRecDepth 20000 in
theorem gX6_init_X2_init_n32 : GoodIn wsX6_init (wsX2_init) := ggX6_init_X2_init
set_option maxRecDepth 20000 in
theorem ggX6_init_X0_init : GoodIn wsX6_init wsX0_init := goodIn_r _ [63, 64, 2, 3, 65, 66, 67, 32, 68, 69, 70, 103, 104, 105, 106] (by decide +kernel) (by decide +kernel)
set_option maxRecDepth 20000 in
theorem gX6_init_X0_init_n39 : GoodIn wsX6_init (wsX0_init) := ggX6_init_X0_init
set_option maxRecDepth 20000 in
theorem ggX6_init_X4_init : GoodIn wsX6_init wsX4_init := goodIn_r _ [72, 73, 2, 3, 32, 74, 75, 76, 107, 108, 109] (by decide +kernel) (by decide +kernel)
set_option maxRecDepth 20000 in
theorem gX6_init_X4_init_n46 : GoodIn wsX6_init (wsX4_init) := ggX6_init_X4_init
theorem dX6_init_0 : decode cX6_init 0 = .ok (.aload_n 0, 1) := by decide +kernel
theorem dX6_init_1 : decode cX6_init 1 = .ok (.invokespecial 1, 3) := by decide +kernel
theorem dX6_init_4 : decode cX6_init 4 = .ok (.aload_n 0, 1) := by decide +kernel
theorem dX6_init_5 : decode cX6_init 5 = .ok (.new 7, 3) := by decide +kernel
theorem dX6_init_8 : decode cX6_init 8 = .ok (.dup, 1) := by decide +kernel
theorem dX6_init_9 : decode cX6_init 9 = .ok (.invokespecial 9, 3) := by decide +kernel
theorem dX6_init_12 : decode cX6_init 12 = .ok (.putfield 10, 3) := by decide +kernel
theorem dX6_init_15 : decode cX6_init 15 = .ok (.aload_n 0, 1) := by decide +kernel
theorem dX6_init_16 : decode cX6_init 16 = .ok (.new 16, 3) := by decide +kernel
theorem dX6_init_19 : decode cX6_init 19 = .ok (.dup, 1) := by decide +kernel
theorem dX6_init_20 : decode cX6_init 20 = .ok (.invokespecial 18, 3) := by decide +kernel
theorem dX6_init_23 : decode cX6_init 23 = .ok (.putfield 19, 3) := by decide +kernel
theorem dX6_init_26 : decode cX6_init 26 = .ok (.aload_n 0, 1) := by decide +kernel
theorem dX6_init_27 : decode cX6_init 27 = .ok (.new 23, 3) := by decide +kernel
theorem dX6_init_30 : decode cX6_init 30 = .ok (.dup, 1) := by decide +kernel
theorem dX6_init_31 : decode cX6_init 31 = .ok (.invokespecial 25, 3) := by decide +kernel
theorem dX6_init_34 : decode cX6_init 34 = .ok (.putfield 26, 3) := by decide +kernel
theorem dX6_init_37 : decode cX6_init 37 = .ok (.aload_n 0, 1) := by decide +kernel
theorem dX6_init_38 : decode cX6_init 38 = .ok (.new 30, 3) := by decide +kernel
theorem dX6_init_41 : decode cX6_init 41 = .ok (.dup, 1) := by decide +kernel
theorem dX6_init_42 : decode cX6_init 42 = .ok (.invokespecial 32, 3) := by decide +kernel
theorem dX6_init_45 : decode cX6_init 45 = .ok (.putfield 33, 3) := by decide +kernel
theorem dX6_init_48 : decode cX6_init 48 = .ok (.aload_n 0, 1) := by decide +kernel
theorem dX6_init_49 : decode cX6_init 49 = .ok (.new 37, 3) := by decide +kernel
theorem dX6_init_52 : decode cX6_init 52 = .ok (.dup, 1) := by decide +kernel
theorem dX6_init_53 : decode cX6_init 53 = .ok (.invokespecial 39, 3) := by decide +kernel
theorem dX6_init_56 : decode cX6_init 56 = .ok (.putfield 40, 3) := by decide +kernel
theorem dX6_init_59 : decode cX6_init 59 = .ok (.aload_n 0, 1) := by decide +kernel
theorem dX6_init_60 : decode cX6_init 60 = .ok (.new 44, 3) := by decide +kernel
theorem dX6_init_63 : decode cX6_init 63 = .ok (.dup, 1) := by decide +kernel
theorem dX6_init_64 : decode cX6_init 64 = .ok (.invokespecial 46, 3) := by decide +kernel
theorem dX6_init_67 : decode cX6_init 67 = .ok (.putfield 47, 3) := by decide +kernel
theorem dX6_init_70 : decode cX6_init 70 = .ok (.aload_n 0, 1) := by decide +kernel
theorem dX6_init_71 : decode cX6_init 71 = .ok (.lconst 0, 1) := by decide +kernel
theorem dX6_init_72 : decode cX6_init 72 = .ok (.putfield 51, 3) := by decide +kernel
theorem dX6_init_75 : decode cX6_init 75 = .ok (.return_, 1) := by decide +kernel
set_option maxRecDepth 20000 in
theorem ggX6_joint_X6_requirePoint : GoodIn wsX6_joint wsX6_requirePoint := goodIn_ca (goodIn_r _ [5, 6, 7] (by decide +kernel) (by decide +kernel)) (goodIn_sub (fun _ h => List.mem_cons_of_mem _ (List.mem_append_left _ (List.mem_append_right _ h))) (by decide +kernel))
set_option maxRecDepth 20000 in
theorem gX6_joint_X6_requirePoint : GoodIn wsX6_joint (va_wsS RX6 55 yX6_requirePoint wsX6_requirePoint) := goodIn_app (goodIn_of _ (by decide +kernel)) ggX6_joint_X6_requirePoint
set_option maxRecDepth 20000 in
theorem ggX6_joint_X6_requireRoomForJoint : GoodIn wsX6_joint wsX6_requireRoomForJoint := goodIn_ca (goodIn_r _ [11, 12, 13, 1, 14, 25, 26, 27, 28, 29, 30, 31, 32, 33, 34, 35, 36] (by decide +kernel) (by decide +kernel)) (goodIn_sub (fun _ h => List.mem_cons_of_mem _ (List.mem_append_right _ h)) (by decide +kernel))
set_option maxRecDepth 20000 in
theorem gX6_joint_X6_requireRoomForJoint : GoodIn wsX6_joint (wsV RX6 59 RX6 yX6_requireRoomForJoint wsX6_requireRoomForJoint) := goodIn_app (goodIn_of _ (by decide +kernel)) ggX6_joint_X6_requireRoomForJoint
set_option maxRecDepth 20000 in
theorem ggX6_joint_X1_add : GoodIn wsX6_joint wsX1_add := goodIn_r _ [19, 20, 21, 22, 23, 24, 32, 33, 34, 35, 36] (by decide +kernel) (by decide +kernel)
set_option maxRecDepth 20000 in
theorem gX6_joint_X1_add : GoodIn wsX6_joint (wsV RX6 62 RX1 yX1_add wsX1_add) := goodIn_app (goodIn_of _ (by decide +kernel)) ggX6_joint_X1_add
theorem dX6_joint_0 : decode cX6_joint 0 = .ok (.iload_n 1, 1) := by decide +kernel
theorem dX6_joint_1 : decode cX6_joint 1 = .ok (.iload_n 2, 1) := by decide +kernel
theorem dX6_joint_2 : decode cX6_joint 2 = .ok (.invokestatic 55, 3) := by decide +kernel
theorem dX6_joint_5 : decode cX6_joint 5 = .ok (.aload_n 0, 1) := by decide +kernel
theorem dX6_joint_6 : decode cX6_joint 6 = .ok (.invokevirtual 59, 3) := by decide +kernel
theorem dX6_joint_9 : decode cX6_joint 9 = .ok (.aload_n 0, 1) := by decide +kernel
theorem dX6_joint_10 : decode cX6_joint 10 = .ok (.getfield 10, 3) := by decide +kernel
theorem dX6_joint_13 : decode cX6_joint 13 = .ok (.iload_n 1, 1) := by decide +kernel
theorem dX6_joint_14 : decode cX6_joint 14 = .ok (.iload_n 2, 1) := by decide +kernel
theorem dX6_joint_15 : decode cX6_joint 15 = .ok (.invokevirtual 62, 3) := by decide +kernel
theorem dX6_joint_18 : decode cX6_joint 18 = .ok (.ireturn, 1) := by decide +kernel
set_option maxRecDepth 20000 in
theorem ggX6_move_X6_requireJoint : GoodIn wsX6_move wsX6_requireJoint := goodIn_ca (goodIn_r _ [8, 9, 10, 1, 11, 12, 13, 14, 15, 16, 22, 23, 24, 25, 26, 27, 28, 29, 30, 31, 32, 33] (by decide +kernel) (by decide +kernel)) (goodIn_sub (fun _ h => List.mem_cons_of_mem _ (List.mem_append_left _ (List.mem_append_right _ h))) (by decide +kernel))
set_option maxRecDepth 20000 in
theorem gX6_move_X6_requireJoint : GoodIn wsX6_move (wsV RX6 66 RX6 yX6_requireJoint wsX6_requireJoint) := goodIn_app (goodIn_of _ (by decide +kernel)) ggX6_move_X6_requireJoint
set_option maxRecDepth 20000 in
theorem ggX6_move_X6_requirePoint : GoodIn wsX6_move wsX6_requirePoint := goodIn_ca (goodIn_r _ [19, 20, 21] (by decide +kernel) (by decide +kernel)) (goodIn_sub (fun _ h => List.mem_cons_of_mem _ (List.mem_append_right _ h)) (by decide +kernel))
set_option maxRecDepth 20000 in
theorem gX6_move_X6_requirePoint : GoodIn wsX6_move (va_wsS RX6 55 yX6_requirePoint wsX6_requirePoint) := goodIn_app (goodIn_of _ (by decide +kernel)) ggX6_move_X6_requirePoint
theorem dX6_move_0 : decode cX6_move 0 = .ok (.aload_n 0, 1) := by decide +kernel
theorem dX6_move_1 : decode cX6_move 1 = .ok (.iload_n 1, 1) := by decide +kernel
theorem dX6_move_2 : decode cX6_move 2 = .ok (.invokevirtual 66, 3) := by decide +kernel
theorem dX6_move_5 : decode cX6_move 5 = .ok (.iload_n 2, 1) := by decide +kernel
theorem dX6_move_6 : decode cX6_move 6 = .ok (.iload_n 3, 1) := by decide +kernel
theorem dX6_move_7 : decode cX6_move 7 = .ok (.invokestatic 55, 3) := by decide +kernel
theorem dX6_move_10 : decode cX6_move 10 = .ok (.aload_n 0, 1) := by decide +kernel
theorem dX6_move_11 : decode cX6_move 11 = .ok (.getfield 10, 3) := by decide +kernel
theorem dX6_move_14 : decode cX6_move 14 = .ok (.getfield 70, 3) := by decide +kernel
theorem dX6_move_17 : decode cX6_move 17 = .ok (.iload_n 1, 1) := by decide +kernel
theorem dX6_move_18 : decode cX6_move 18 = .ok (.iload_n 2, 1) := by decide +kernel
theorem dX6_move_19 : decode cX6_move 19 = .ok (.iastore, 1) := by decide +kernel
theorem dX6_move_20 : decode cX6_move 20 = .ok (.aload_n 0, 1) := by decide +kernel
theorem dX6_move_21 : decode cX6_move 21 = .ok (.getfield 10, 3) := by decide +kernel
theorem dX6_move_24 : decode cX6_move 24 = .ok (.getfield 74, 3) := by decide +kernel
theorem dX6_move_27 : decode cX6_move 27 = .ok (.iload_n 1, 1) := by decide +kernel
theorem dX6_move_28 : decode cX6_move 28 = .ok (.iload_n 3, 1) := by decide +kernel
theorem dX6_move_29 : decode cX6_move 29 = .ok (.iastore, 1) := by decide +kernel
theorem dX6_move_30 : decode cX6_move 30 = .ok (.return_, 1) := by decide +kernel
set_option maxRecDepth 20000 in
theorem ggX6_pin_X6_requireJoint : GoodIn wsX6_pin wsX6_requireJoint := goodIn_ca (goodIn_r _ [7, 8, 9, 1, 10, 11, 12, 13, 14, 15, 16, 17, 18, 19, 20, 21, 22, 23, 24, 25, 26, 27] (by decide +kernel) (by decide +kernel)) (goodIn_sub (fun _ h => List.mem_cons_of_mem _ (List.mem_append_right _ h)) (by decide +kernel))
set_option maxRecDepth 20000 in
theorem gX6_pin_X6_requireJoint : GoodIn wsX6_pin (wsV RX6 66 RX6 yX6_requireJoint wsX6_requireJoint) := goodIn_app (goodIn_of _ (by decide +kernel)) ggX6_pin_X6_requireJoint
theorem dX6_pin_0 : decode cX6_pin 0 = .ok (.aload_n 0, 1) := by decide +kernel
theorem dX6_pin_1 : decode cX6_pin 1 = .ok (.iload_n 1, 1) := by decide +kernel
theorem dX6_pin_2 : decode cX6_pin 2 = .ok (.invokevirtual 66, 3) := by decide +kernel
theorem dX6_pin_5 : decode cX6_pin 5 = .ok (.aload_n 0, 1) := by decide +kernel
theorem dX6_pin_6 : decode cX6_pin 6 = .ok (.getfield 10, 3) := by decide +kernel
theorem dX6_pin_9 : decode cX6_pin 9 = .ok (.getfield 77, 3) := by decide +kernel
theorem dX6_pin_12 : decode cX6_pin 12 = .ok (.iload_n 1, 1) := by decide +kernel
theorem dX6_pin_13 : decode cX6_pin 13 = .ok (.baload, 1) := by decide +kernel
theorem dX6_pin_14 : decode cX6_pin 14 = .ok (.istore_n 3, 1) := by decide +kernel
theorem dX6_pin_15 : decode cX6_pin 15 = .ok (.aload_n 0, 1) := by decide +kernel
theorem dX6_pin_16 : decode cX6_pin 16 = .ok (.getfield 10, 3) := by decide +kernel
theorem dX6_pin_19 : decode cX6_pin 19 = .ok (.getfield 77, 3) := by decide +kernel
theorem dX6_pin_22 : decode cX6_pin 22 = .ok (.iload_n 1, 1) := by decide +kernel
theorem dX6_pin_23 : decode cX6_pin 23 = .ok (.iload_n 2, 1) := by decide +kernel
theorem dX6_pin_24 : decode cX6_pin 24 = .ok (.bastore, 1) := by decide +kernel
theorem dX6_pin_25 : decode cX6_pin 25 = .ok (.iload_n 3, 1) := by decide +kernel
theorem dX6_pin_26 : decode cX6_pin 26 = .ok (.ireturn, 1) := by decide +kernel
set_option maxRecDepth 20000 in
theorem ggX6_member_X6_requireJoint : GoodIn wsX6_member wsX6_requireJoint := goodIn_ca (goodIn_r _ [10, 11, 12, 13, 14, 15, 16, 17, 18, 19, 50, 51, 52, 53, 54, 55, 56, 57, 58, 59, 60, 61] (by decide +kernel) (by decide +kernel)) (goodIn_sub (fun _ h => List.mem_cons_of_mem _ (List.mem_append_right _ h)) (by decide +kernel))
set_option maxRecDepth 20000 in
theorem gX6_member_X6_requireJoint : GoodIn wsX6_member (wsV RX6 66 RX6 yX6_requireJoint wsX6_requireJoint) := goodIn_app (goodIn_of _ (by decide +kernel)) ggX6_member_X6_requireJoint
set_option maxRecDepth 20000 in
theorem ggX6_member_X6_requireTwo : GoodIn wsX6_member wsX6_requireTwo := goodIn_ca (goodIn_r _ [22, 1, 2] (by decide +kernel) (by decide +kernel)) (goodIn_sub (fun _ h => List.mem_cons_of_mem _ (List.mem_append_left _ (List.mem_append_left _ (List.mem_append_right _ h)))) (by decide +kernel))
set_option maxRecDepth 20000 in
theorem gX6_member_X6_requireTwo : GoodIn wsX6_member (va_wsS RX6 81 yX6_requireTwo wsX6_requireTwo) := goodIn_app (goodIn_of _ (by decide +kernel)) ggX6_member_X6_requireTwo
set_option maxRecDepth 20000 in
theorem ggX6_member_X3_join : GoodIn wsX6_member wsX3_join := goodIn_r _ [27, 28, 29, 30, 31, 26, 32, 33, 34, 35, 36, 37, 38, 39, 62, 63, 64, 65, 66, 67] (by decide +kernel) (by decide +kernel)
set_option maxRecDepth 20000 in
theorem gX6_member_X3_join : GoodIn wsX6_member (wsV RX6 91 RX3 yX3_join wsX3_join) := goodIn_app (goodIn_of _ (by decide +kernel)) ggX6_member_X3_join
set_option maxRecDepth 20000 in
theorem ggX6_member_X6_requireRoomForMembers : GoodIn wsX6_member wsX6_requireRoomForMembers := goodIn_ca (goodIn_r _ [43, 3, 4, 5, 44, 50, 51, 52, 53, 54, 55, 56, 62, 63, 64, 65, 66, 67] (by decide +kernel) (by decide +kernel)) (goodIn_sub (fun _ h => List.mem_cons_of_mem _ (List.mem_append_left _ (List.mem_append_right _ h))) (by decide +kernel))
set_option maxRecDepth 20000 in
theorem gX6_member_X6_requireRoomForMembers : GoodIn wsX6_member (wsV RX6 100 RX6 yX6_requireRoomForMembers wsX6_requireRoomForMembers) := goodIn_app (goodIn_of _ (by decide +kernel)) ggX6_member_X6_requireRoomForMembers
set_option maxRecDepth 20000 in
theorem ggX6_member_X3_add : GoodIn wsX6_member wsX3_add := goodIn_r _ [48, 28, 38, 39, 49, 62, 63, 64, 65, 66, 67] (by decide +kernel) (by decide +kernel)
set_option maxRecDepth 20000 in
theorem gX6_member_X3_add : GoodIn wsX6_member (wsV RX6 103 RX3 yX3_add wsX3_add) := goodIn_app (goodIn_of _ (by decide +kernel)) ggX6_member_X3_add
theorem dX6_member_0 : decode cX6_member 0 = .ok (.aload_n 0, 1) := by decide +kernel
theorem dX6_member_1 : decode cX6_member 1 = .ok (.iload_n 1, 1) := by decide +kernel
theorem dX6_member_2 : decode cX6_member 2 = .ok (.invokevirtual 66, 3) := by decide +kernel
theorem dX6_member_5 : decode cX6_member 5 = .ok (.aload_n 0, 1) := by decide +kernel
theorem dX6_member_6 : decode cX6_member 6 = .ok (.iload_n 2, 1) := by decide +kernel
theorem dX6_member_7 : decode cX6_member 7 = .ok (.invokevirtual 66, 3) := by decide +kernel
theorem dX6_member_10 : decode cX6_member 10 = .ok (.iload_n 1, 1) := by decide +kernel
theorem dX6_member_11 : decode cX6_member 11 = .ok (.iload_n 2, 1) := by decide +kernel
theorem dX6_member_12 : decode cX6_member 12 = .ok (.invokestatic 81, 3) := by decide +kernel
theorem dX6_member_15 : decode cX6_member 15 = .ok (.iload_n 3, 1) := by decide +kernel
theorem dX6_member_16 : decode cX6_member 16 = .ok (.ifCond .lt 8, 3) := by decide +kernel
theorem dX6_member_19 : decode cX6_member 19 = .ok (.iload_n 3, 1) := by decide +kernel
theorem dX6_member_20 : decode cX6_member 20 = .ok (.iconst 2, 1) := by decide +kernel
theorem dX6_member_21 : decode cX6_member 21 = .ok (.if_icmp .le 13, 3) := by decide +kernel
theorem dX6_member_24 : decode cX6_member 24 = .ok (.new 84, 3) := by decide +kernel
theorem dX6_member_27 : decode cX6_member 27 = .ok (.dup, 1) := by decide +kernel
theorem dX6_member_28 : decode cX6_member 28 = .ok (.ldc 86, 2) := by decide +kernel
theorem dX6_member_30 : decode cX6_member 30 = .ok (.invokespecial 88, 3) := by decide +kernel
theorem dX6_member_33 : decode cX6_member 33 = .ok (.athrow, 1) := by decide +kernel
theorem dX6_member_34 : decode cX6_member 34 = .ok (.aload_n 0, 1) := by decide +kernel
theorem dX6_member_35 : decode cX6_member 35 = .ok (.getfield 19, 3) := by decide +kernel
theorem dX6_member_38 : decode cX6_member 38 = .ok (.iload_n 1, 1) := by decide +kernel
theorem dX6_member_39 : decode cX6_member 39 = .ok (.iload_n 2, 1) := by decide +kernel
theorem dX6_member_40 : decode cX6_member 40 = .ok (.invokevirtual 91, 3) := by decide +kernel
theorem dX6_member_43 : decode cX6_member 43 = .ok (.ifCond .eq 13, 3) := by decide +kernel
theorem dX6_member_46 : decode cX6_member 46 = .ok (.new 95, 3) := by decide +kernel
theorem dX6_member_49 : decode cX6_member 49 = .ok (.dup, 1) := by decide +kernel
theorem dX6_member_50 : decode cX6_member 50 = .ok (.ldc 97, 2) := by decide +kernel
theorem dX6_member_52 : decode cX6_member 52 = .ok (.invokespecial 99, 3) := by decide +kernel
theorem dX6_member_55 : decode cX6_member 55 = .ok (.athrow, 1) := by decide +kernel
theorem dX6_member_56 : decode cX6_member 56 = .ok (.aload_n 0, 1) := by decide +kernel
theorem dX6_member_57 : decode cX6_member 57 = .ok (.iconst 1, 1) := by decide +kernel
theorem dX6_member_58 : decode cX6_member 58 = .ok (.invokevirtual 100, 3) := by decide +kernel
theorem dX6_member_61 : decode cX6_member 61 = .ok (.aload_n 0, 1) := by decide +kernel
theorem dX6_member_62 : decode cX6_member 62 = .ok (.getfield 19, 3) := by decide +kernel
theorem dX6_member_65 : decode cX6_member 65 = .ok (.iload_n 1, 1) := by decide +kernel
theorem dX6_member_66 : decode cX6_member 66 = .ok (.iload_n 2, 1) := by decide +kernel
theorem dX6_member_67 : decode cX6_member 67 = .ok (.iload_n 3, 1) := by decide +kernel
theorem dX6_member_68 : decode cX6_member 68 = .ok (.invokevirtual 103, 3) := by decide +kernel
theorem dX6_member_71 : decode cX6_member 71 = .ok (.ireturn, 1) := by decide +kernel
set_option maxRecDepth 20000 in
theorem ggX6_remove_X6_requireMember : GoodIn wsX6_remove wsX6_requireMember := goodIn_ca (goodIn_r _ [7, 8, 9, 1, 10, 11, 12, 13, 14, 15, 16, 26, 27, 28, 29, 30, 31, 32, 33, 34, 35, 36, 37, 38] (by decide +kernel) (by decide +kernel)) (goodIn_sub (fun _ h => List.mem_cons_of_mem _ (List.mem_append_right _ h)) (by decide +kernel))
set_option maxRecDepth 20000 in
theorem gX6_remove_X6_requireMember : GoodIn wsX6_remove (wsV RX6 106 RX6 yX6_requireMember wsX6_requireMember) := goodIn_app (goodIn_of _ (by decide +kernel)) ggX6_remove_X6_requireMember
set_option maxRecDepth 20000 in
theorem ggX6_remove_X3_present : GoodIn wsX6_remove wsX3_present := goodIn_r _ [20, 15, 21, 22, 23, 13, 24, 25, 11, 12, 14, 16, 33, 34, 35, 36, 37, 38] (by decide +kernel) (by decide +kernel)
set_option maxRecDepth 20000 in
theorem gX6_remove_X3_present : GoodIn wsX6_remove (wsV RX6 112 RX3 yX3_present wsX3_present) := goodIn_app (goodIn_of _ (by decide +kernel)) ggX6_remove_X3_present
theorem dX6_remove_0 : decode cX6_remove 0 = .ok (.aload_n 0, 1) := by decide +kernel
theorem dX6_remove_1 : decode cX6_remove 1 = .ok (.iload_n 1, 1) := by decide +kernel
theorem dX6_remove_2 : decode cX6_remove 2 = .ok (.invokevirtual 106, 3) := by decide +kernel
theorem dX6_remove_5 : decode cX6_remove 5 = .ok (.aload_n 0, 1) := by decide +kernel
theorem dX6_remove_6 : decode cX6_remove 6 = .ok (.getfield 19, 3) := by decide +kernel
theorem dX6_remove_9 : decode cX6_remove 9 = .ok (.getfield 109, 3) := by decide +kernel
theorem dX6_remove_12 : decode cX6_remove 12 = .ok (.iload_n 1, 1) := by decide +kernel
theorem dX6_remove_13 : decode cX6_remove 13 = .ok (.iconst 1, 1) := by decide +kernel
theorem dX6_remove_14 : decode cX6_remove 14 = .ok (.bastore, 1) := by decide +kernel
theorem dX6_remove_15 : decode cX6_remove 15 = .ok (.aload_n 0, 1) := by decide +kernel
theorem dX6_remove_16 : decode cX6_remove 16 = .ok (.getfield 19, 3) := by decide +kernel
theorem dX6_remove_19 : decode cX6_remove 19 = .ok (.invokevirtual 112, 3) := by decide +kernel
theorem dX6_remove_22 : decode cX6_remove 22 = .ok (.ireturn, 1) := by decide +kernel
set_option maxRecDepth 20000 in
theorem ggX6_rank_X2_takeJoints : GoodIn wsX6_rank wsX2_takeJoints := goodIn_r _ [7, 8, 9, 10, 11, 12, 13, 14, 15, 118, 119, 120, 121, 122, 123, 124, 125, 126] (by decide +kernel) (by decide +kernel)
set_option maxRecDepth 20000 in
theorem gX6_rank_X2_takeJoints : GoodIn wsX6_rank (wsV RX6 116 RX2 yX2_takeJoints wsX2_takeJoints) := goodIn_app (goodIn_of _ (by decide +kernel)) ggX6_rank_X2_takeJoints
set_option maxRecDepth 20000 in
theorem ggX6_rank_X6_rankWithout : GoodIn wsX6_rank wsX6_rankWithout := goodIn_r _ [20, 21, 22, 23, 24, 19, 25, 26, 1, 27, 28, 29, 30, 31, 32, 33, 34, 35, 36, 37, 38, 39, 40, 41, 42, 43, 44, 45, 46, 47, 48, 49, 50, 51, 52, 53, 54, 55, 56, 57, 58, 59, 60, 61, 62, 63, 64, 65, 66, 67, 68, 69, 70, 71, 72, 73, 74, 75, 76, 77, 78, 79, 80, 81, 82, 83, 84, 85, 86, 87, 88, 89, 90, 91, 92, 93, 94, 95, 96, 97, 98, 99, 100, 101, 102, 103, 104, 105, 106, 107, 108, 109, 110, 111, 112, 113, 114, 115, 116, 117, 118, 119, 120, 121, 127, 128, 129, 130, 131, 132, 133, 134, 135, 136] (by decide +kernel) (by decide +kernel)
set_option maxRecDepth 20000 in
theorem gX6_rank_X6_rankWithout : GoodIn wsX6_rank (wsV RX6 120 RX6 yX6_rankWithout wsX6_rankWithout) := goodIn_app (goodIn_of _ (by decide +kernel)) ggX6_rank_X6_rankWithout
theorem dX6_rank_0 : decode cX6_rank 0 = .ok (.aload_n 0, 1) := by decide +kernel
theorem dX6_rank_1 : decode cX6_rank 1 = .ok (.getfield 33, 3) := by decide +kernel
theorem dX6_rank_4 : decode cX6_rank 4 = .ok (.aload_n 0, 1) := by decide +kernel
theorem dX6_rank_5 : decode cX6_rank 5 = .ok (.getfield 10, 3) := by decide +kernel
theorem dX6_rank_8 : decode cX6_rank 8 = .ok (.invokevirtual 116, 3) := by decide +kernel
theorem dX6_rank_11 : decode cX6_rank 11 = .ok (.aload_n 0, 1) := by decide +kernel
theorem dX6_rank_12 : decode cX6_rank 12 = .ok (.iconst (-1), 1) := by decide +kernel
theorem dX6_rank_13 : decode cX6_rank 13 = .ok (.invokevirtual 120, 3) := by decide +kernel
theorem dX6_rank_16 : decode cX6_rank 16 = .ok (.ireturn, 1) := by decide +kernel
set_option maxRecDepth 20000 in
theorem ggX6_motions_X2_takeJoints : GoodIn wsX6_motions wsX2_takeJoints := goodIn_r _ [8, 9, 10, 11, 12, 13, 14, 15, 16, 118, 119, 120, 121, 122, 123, 124, 125, 126] (by decide +kernel) (by decide +kernel)
set_option maxRecDepth 20000 in
theorem gX6_motions_X2_takeJoints : GoodIn wsX6_motions (wsV RX6 116 RX2 yX2_takeJoints wsX2_takeJoints) := goodIn_app (goodIn_of _ (by decide +kernel)) ggX6_motions_X2_takeJoints
set_option maxRecDepth 20000 in
theorem ggX6_motions_X6_rankWithout : GoodIn wsX6_motions wsX6_rankWithout := goodIn_r _ [21, 22, 23, 24, 25, 20, 26, 27, 1, 3, 28, 29, 30, 31, 32, 33, 34, 35, 36, 37, 38, 39, 40, 41, 42, 43, 44, 45, 46, 47, 48, 49, 50, 51, 52, 53, 54, 55, 56, 57, 58, 59, 60, 61, 62, 63, 64, 65, 66, 67, 68, 69, 70, 71, 72, 73, 74, 75, 76, 77, 78, 79, 80, 81, 82, 83, 84, 85, 86, 87, 88, 89, 90, 91, 92, 93, 94, 95, 96, 97, 98, 99, 100, 101, 102, 103, 104, 105, 106, 107, 108, 109, 110, 111, 112, 113, 114, 115, 116, 117, 118, 119, 120, 121, 127, 128, 129, 130, 131, 132, 133, 134, 135, 136] (by decide +kernel) (by decide +kernel)
set_option maxRecDepth 20000 in
theorem gX6_motions_X6_rankWithout : GoodIn wsX6_motions (wsV RX6 120 RX6 yX6_rankWithout wsX6_rankWithout) := goodIn_app (goodIn_of _ (by decide +kernel)) ggX6_motions_X6_rankWithout
theorem dX6_motions_0 : decode cX6_motions 0 = .ok (.aload_n 0, 1) := by decide +kernel
theorem dX6_motions_1 : decode cX6_motions 1 = .ok (.getfield 33, 3) := by decide +kernel
theorem dX6_motions_4 : decode cX6_motions 4 = .ok (.aload_n 0, 1) := by decide +kernel
theorem dX6_motions_5 : decode cX6_motions 5 = .ok (.getfield 10, 3) := by decide +kernel
theorem dX6_motions_8 : decode cX6_motions 8 = .ok (.invokevirtual 116, 3) := by decide +kernel
theorem dX6_motions_11 : decode cX6_motions 11 = .ok (.aload_n 0, 1) := by decide +kernel
theorem dX6_motions_12 : decode cX6_motions 12 = .ok (.getfield 33, 3) := by decide +kernel
theorem dX6_motions_15 : decode cX6_motions 15 = .ok (.getfield 124, 3) := by decide +kernel
theorem dX6_motions_18 : decode cX6_motions 18 = .ok (.aload_n 0, 1) := by decide +kernel
theorem dX6_motions_19 : decode cX6_motions 19 = .ok (.iconst (-1), 1) := by decide +kernel
theorem dX6_motions_20 : decode cX6_motions 20 = .ok (.invokevirtual 120, 3) := by decide +kernel
theorem dX6_motions_23 : decode cX6_motions 23 = .ok (.isub, 1) := by decide +kernel
theorem dX6_motions_24 : decode cX6_motions 24 = .ok (.ireturn, 1) := by decide +kernel
set_option maxRecDepth 20000 in
theorem ggX6_stresses_X2_takeJoints : GoodIn wsX6_stresses wsX2_takeJoints := goodIn_r _ [8, 9, 10, 11, 12, 13, 14, 15, 16, 118, 119, 120, 121, 122, 123, 124, 125, 126] (by decide +kernel) (by decide +kernel)
set_option maxRecDepth 20000 in
theorem gX6_stresses_X2_takeJoints : GoodIn wsX6_stresses (wsV RX6 116 RX2 yX2_takeJoints wsX2_takeJoints) := goodIn_app (goodIn_of _ (by decide +kernel)) ggX6_stresses_X2_takeJoints
set_option maxRecDepth 20000 in
theorem ggX6_stresses_X3_present : GoodIn wsX6_stresses wsX3_present := goodIn_r _ [21, 22, 23, 24, 25, 20, 26, 27, 28, 29, 30, 31, 127, 128, 129, 130, 131, 132] (by decide +kernel) (by decide +kernel)
set_option maxRecDepth 20000 in
theorem gX6_stresses_X3_present : GoodIn wsX6_stresses (wsV RX6 112 RX3 yX3_present wsX3_present) := goodIn_app (goodIn_of _ (by decide +kernel)) ggX6_stresses_X3_present
set_option maxRecDepth 20000 in
theorem ggX6_stresses_X6_rankWithout : GoodIn wsX6_stresses wsX6_rankWithout := goodIn_r _ [36, 37, 38, 39, 40, 35, 41, 3, 1, 42, 43, 44, 45, 17, 18, 19, 20, 21, 22, 23, 24, 25, 26, 27, 28, 29, 30, 31, 46, 47, 48, 49, 50, 51, 52, 53, 54, 55, 56, 57, 58, 59, 60, 61, 62, 63, 64, 65, 66, 67, 68, 69, 70, 71, 72, 73, 74, 75, 76, 77, 78, 79, 80, 81, 82, 83, 84, 85, 86, 87, 88, 89, 90, 91, 92, 93, 94, 95, 96, 97, 98, 99, 100, 101, 102, 103, 104, 105, 106, 107, 108, 109, 110, 111, 112, 113, 114, 115, 116, 117, 118, 119, 120, 121, 127, 128, 129, 130, 131, 132, 133, 134, 135, 136] (by decide +kernel) (by decide +kernel)
set_option maxRecDepth 20000 in
theorem gX6_stresses_X6_rankWithout : GoodIn wsX6_stresses (wsV RX6 120 RX6 yX6_rankWithout wsX6_rankWithout) := goodIn_app (goodIn_of _ (by decide +kernel)) ggX6_stresses_X6_rankWithout
theorem dX6_stresses_0 : decode cX6_stresses 0 = .ok (.aload_n 0, 1) := by decide +kernel
theorem dX6_stresses_1 : decode cX6_stresses 1 = .ok (.getfield 33, 3) := by decide +kernel
theorem dX6_stresses_4 : decode cX6_stresses 4 = .ok (.aload_n 0, 1) := by decide +kernel
theorem dX6_stresses_5 : decode cX6_stresses 5 = .ok (.getfield 10, 3) := by decide +kernel
theorem dX6_stresses_8 : decode cX6_stresses 8 = .ok (.invokevirtual 116, 3) := by decide +kernel
theorem dX6_stresses_11 : decode cX6_stresses 11 = .ok (.aload_n 0, 1) := by decide +kernel
theorem dX6_stresses_12 : decode cX6_stresses 12 = .ok (.getfield 19, 3) := by decide +kernel
theorem dX6_stresses_15 : decode cX6_stresses 15 = .ok (.invokevirtual 112, 3) := by decide +kernel
theorem dX6_stresses_18 : decode cX6_stresses 18 = .ok (.aload_n 0, 1) := by decide +kernel
theorem dX6_stresses_19 : decode cX6_stresses 19 = .ok (.iconst (-1), 1) := by decide +kernel
theorem dX6_stresses_20 : decode cX6_stresses 20 = .ok (.invokevirtual 120, 3) := by decide +kernel
theorem dX6_stresses_23 : decode cX6_stresses 23 = .ok (.isub, 1) := by decide +kernel
theorem dX6_stresses_24 : decode cX6_stresses 24 = .ok (.ireturn, 1) := by decide +kernel
set_option maxRecDepth 20000 in
theorem ggX6_isRedundant_X6_requireMember : GoodIn wsX6_isRedundant wsX6_requireMember := goodIn_ca (goodIn_r _ [7, 8, 9, 10, 11, 12, 13, 14, 15, 16, 17, 117, 118, 119, 120, 121, 122, 123, 124, 125, 126, 127, 128, 129] (by decide +kernel) (by decide +kernel)) (goodIn_sub (fun _ h => List.mem_cons_of_mem _ (List.mem_append_right _ h)) (by decide +kernel))
set_option maxRecDepth 20000 in
theorem gX6_isRedundant_X6_requireMember : GoodIn wsX6_isRedundant (wsV RX6 106 RX6 yX6_requireMember wsX6_requireMember) := goodIn_app (goodIn_of _ (by decide +kernel)) ggX6_isRedundant_X6_requireMember
set_option maxRecDepth 20000 in
theorem ggX6_isRedundant_X2_takeJoints : GoodIn wsX6_isRedundant wsX2_takeJoints := goodIn_r _ [22, 23, 24, 25, 26, 27, 28, 29, 30, 130, 131, 132, 133, 134, 135, 136, 137, 138] (by decide +kernel) (by decide +kernel)
set_option maxRecDepth 20000 in
theorem gX6_isRedundant_X2_takeJoints : GoodIn wsX6_isRedundant (wsV RX6 116 RX2 yX2_takeJoints wsX2_takeJoints) := goodIn_app (goodIn_of _ (by decide +kernel)) ggX6_isRedundant_X2_takeJoints
set_option maxRecDepth 20000 in
theorem ggX6_isRedundant_X6_rankWithout : GoodIn wsX6_isRedundant wsX6_rankWithout := goodIn_r _ [34, 35, 36, 37, 38, 6, 39, 10, 1, 40, 41, 42, 43, 44, 45, 46, 14, 47, 16, 48, 49, 50, 51, 52, 12, 13, 15, 17, 11, 53, 54, 55, 56, 57, 58, 59, 60, 61, 62, 63, 64, 65, 66, 67, 68, 69, 70, 71, 72, 73, 74, 75, 76, 77, 78, 79, 80, 81, 82, 83, 84, 85, 86, 87, 88, 89, 90, 91, 92, 93, 94, 95, 96, 97, 98, 99, 100, 101, 102, 103, 104, 105, 106, 107, 108, 109, 110, 111, 112, 113, 114, 115, 116, 117, 118, 119, 120, 121, 122, 123, 130, 131, 132, 133, 124, 125, 126, 127, 128, 129, 139, 140, 141, 142] (by decide +kernel) (by decide +kernel)
set_option maxRecDepth 20000 in
theorem gX6_isRedundant_X6_rankWithout : GoodIn wsX6_isRedundant (wsV RX6 120 RX6 yX6_rankWithout wsX6_rankWithout) := goodIn_app (goodIn_of _ (by decide +kernel)) ggX6_isRedundant_X6_rankWithout
theorem dX6_isRedundant_0 : decode cX6_isRedundant 0 = .ok (.aload_n 0, 1) := by decide +kernel
theorem dX6_isRedundant_1 : decode cX6_isRedundant 1 = .ok (.iload_n 1, 1) := by decide +kernel
theorem dX6_isRedundant_2 : decode cX6_isRedundant 2 = .ok (.invokevirtual 106, 3) := by decide +kernel
theorem dX6_isRedundant_5 : decode cX6_isRedundant 5 = .ok (.aload_n 0, 1) := by decide +kernel
theorem dX6_isRedundant_6 : decode cX6_isRedundant 6 = .ok (.getfield 33, 3) := by decide +kernel
theorem dX6_isRedundant_9 : decode cX6_isRedundant 9 = .ok (.aload_n 0, 1) := by decide +kernel
theorem dX6_isRedundant_10 : decode cX6_isRedundant 10 = .ok (.getfield 10, 3) := by decide +kernel
theorem dX6_isRedundant_13 : decode cX6_isRedundant 13 = .ok (.invokevirtual 116, 3) := by decide +kernel
theorem dX6_isRedundant_16 : decode cX6_isRedundant 16 = .ok (.aload_n 0, 1) := by decide +kernel
theorem dX6_isRedundant_17 : decode cX6_isRedundant 17 = .ok (.iload_n 1, 1) := by decide +kernel
theorem dX6_isRedundant_18 : decode cX6_isRedundant 18 = .ok (.invokevirtual 120, 3) := by decide +kernel
theorem dX6_isRedundant_21 : decode cX6_isRedundant 21 = .ok (.aload_n 0, 1) := by decide +kernel
theorem dX6_isRedundant_22 : decode cX6_isRedundant 22 = .ok (.iconst (-1), 1) := by decide +kernel
theorem dX6_isRedundant_23 : decode cX6_isRedundant 23 = .ok (.invokevirtual 120, 3) := by decide +kernel
theorem dX6_isRedundant_26 : decode cX6_isRedundant 26 = .ok (.if_icmp .ne 7, 3) := by decide +kernel
theorem dX6_isRedundant_29 : decode cX6_isRedundant 29 = .ok (.iconst 1, 1) := by decide +kernel
theorem dX6_isRedundant_30 : decode cX6_isRedundant 30 = .ok (.goto 4, 3) := by decide +kernel
theorem dX6_isRedundant_33 : decode cX6_isRedundant 33 = .ok (.iconst 0, 1) := by decide +kernel
theorem dX6_isRedundant_34 : decode cX6_isRedundant 34 = .ok (.ireturn, 1) := by decide +kernel
set_option maxRecDepth 20000 in
theorem ggX6_flex_X6_requireJoint : GoodIn wsX6_flex wsX6_requireJoint := goodIn_ca (goodIn_r _ [9, 10, 11, 2, 12, 13, 14, 15, 16, 17, 130, 131, 132, 133, 134, 135, 136, 141, 142, 143, 144, 145] (by decide +kernel) (by decide +kernel)) (goodIn_sub (fun _ h => List.mem_cons_of_mem _ (List.mem_append_right _ h)) (by decide +kernel))
set_option maxRecDepth 20000 in
theorem gX6_flex_X6_requireJoint : GoodIn wsX6_flex (wsV RX6 66 RX6 yX6_requireJoint wsX6_requireJoint) := goodIn_app (goodIn_of _ (by decide +kernel)) ggX6_flex_X6_requireJoint
set_option maxRecDepth 20000 in
theorem ggX6_flex_X6_requireCount : GoodIn wsX6_flex wsX6_requireCount := goodIn_ca (goodIn_r _ [20, 10, 11] (by decide +kernel) (by decide +kernel)) (goodIn_sub (fun _ h => List.mem_cons_of_mem _ (List.mem_append_right _ h)) (by decide +kernel))
set_option maxRecDepth 20000 in
theorem gX6_flex_X6_requireCount : GoodIn wsX6_flex (va_wsS RX6 128 yX6_requireCount wsX6_requireCount) := goodIn_app (goodIn_of _ (by decide +kernel)) ggX6_flex_X6_requireCount
set_option maxRecDepth 20000 in
theorem ggX6_flex_X2_takeJoints : GoodIn wsX6_flex wsX2_takeJoints := goodIn_r _ [25, 26, 27, 28, 29, 30, 31, 32, 33, 137, 138, 139, 140, 141, 142, 143, 144, 145] (by decide +kernel) (by decide +kernel)
set_option maxRecDepth 20000 in
theorem gX6_flex_X2_takeJoints : GoodIn wsX6_flex (wsV RX6 116 RX2 yX2_takeJoints wsX2_takeJoints) := goodIn_app (goodIn_of _ (by decide +kernel)) ggX6_flex_X2_takeJoints
set_option maxRecDepth 20000 in
theorem ggX6_flex_X6_writeRows : GoodIn wsX6_flex wsX6_writeRows := goodIn_r _ [37, 38, 3, 1, 39, 40, 41, 42, 43, 44, 45, 46, 47, 48, 49, 50, 51, 52, 53, 54, 55, 56, 57, 58, 59, 60, 61, 62, 63, 64, 65, 66, 67, 68, 69, 70, 71, 72, 73, 74, 75, 76, 8, 77, 78, 79, 4, 80, 81, 82, 83, 84, 85, 86, 87, 88, 89, 90, 91, 92, 130, 131, 132, 133, 134, 135, 136, 137, 138, 139, 140, 146, 147, 148, 149, 150, 151, 152, 153, 154, 155] (by decide +kernel) (by decide +kernel)
set_option maxRecDepth 20000 in
theorem gX6_flex_X6_writeRows : GoodIn wsX6_flex (wsV RX6 131 RX6 yX6_writeRows wsX6_writeRows) := goodIn_app (goodIn_of _ (by decide +kernel)) ggX6_flex_X6_writeRows
set_option maxRecDepth 20000 in
theorem ggX6_flex_X0_reduce : GoodIn wsX6_flex wsX0_reduce := goodIn_r _ [96, 72, 97, 98, 99, 100, 62, 101, 71, 73, 102, 103, 104, 105, 106, 107, 108, 109, 88, 110, 111, 112, 113, 114, 115, 116, 117, 118, 119, 120, 121, 152, 153, 154, 155] (by decide +kernel) (by decide +kernel)
set_option maxRecDepth 20000 in
theorem gX6_flex_X0_reduce : GoodIn wsX6_flex (wsV RX6 134 RX0 yX0_reduce wsX0_reduce) := goodIn_app (goodIn_of _ (by decide +kernel)) ggX6_flex_X0_reduce
set_option maxRecDepth 20000 in
theorem ggX6_flex_X0_freeColumn : GoodIn wsX6_flex wsX0_freeColumn := goodIn_r _ [125, 72, 97, 152, 153, 154, 155] (by decide +kernel) (by decide +kernel)
set_option maxRecDepth 20000 in
theorem gX6_flex_X0_freeColumn : GoodIn wsX6_flex (wsV RX6 137 RX0 yX0_freeColumn wsX0_freeColumn) := goodIn_app (goodIn_of _ (by decide +kernel)) ggX6_flex_X0_freeColumn
set_option maxRecDepth 20000 in
theorem ggX6_flex_X0_solution : GoodIn wsX6_flex wsX0_solution := goodIn_r _ [129, 72, 97, 88, 73, 152, 153, 154, 155] (by decide +kernel) (by decide +kernel)
set_option maxRecDepth 20000 in
theorem gX6_flex_X0_solution : GoodIn wsX6_flex (wsV RX6 143 RX0 yX0_solution wsX0_solution) := goodIn_app (goodIn_of _ (by decide +kernel)) ggX6_flex_X0_solution
theorem dX6_flex_0 : decode cX6_flex 0 = .ok (.aload_n 0, 1) := by decide +kernel
theorem dX6_flex_1 : decode cX6_flex 1 = .ok (.iload_n 2, 1) := by decide +kernel
theorem dX6_flex_2 : decode cX6_flex 2 = .ok (.invokevirtual 66, 3) := by decide +kernel
theorem dX6_flex_5 : decode cX6_flex 5 = .ok (.iload_n 1, 1) := by decide +kernel
theorem dX6_flex_6 : decode cX6_flex 6 = .ok (.invokestatic 128, 3) := by decide +kernel
theorem dX6_flex_9 : decode cX6_flex 9 = .ok (.aload_n 0, 1) := by decide +kernel
theorem dX6_flex_10 : decode cX6_flex 10 = .ok (.getfield 33, 3) := by decide +kernel
theorem dX6_flex_13 : decode cX6_flex 13 = .ok (.aload_n 0, 1) := by decide +kernel
theorem dX6_flex_14 : decode cX6_flex 14 = .ok (.getfield 10, 3) := by decide +kernel
theorem dX6_flex_17 : decode cX6_flex 17 = .ok (.invokevirtual 116, 3) := by decide +kernel
theorem dX6_flex_20 : decode cX6_flex 20 = .ok (.aload_n 0, 1) := by decide +kernel
theorem dX6_flex_21 : decode cX6_flex 21 = .ok (.iconst (-1), 1) := by decide +kernel
theorem dX6_flex_22 : decode cX6_flex 22 = .ok (.invokevirtual 131, 3) := by decide +kernel
theorem dX6_flex_25 : decode cX6_flex 25 = .ok (.aload_n 0, 1) := by decide +kernel
theorem dX6_flex_26 : decode cX6_flex 26 = .ok (.getfield 40, 3) := by decide +kernel
theorem dX6_flex_29 : decode cX6_flex 29 = .ok (.invokevirtual 134, 3) := by decide +kernel
theorem dX6_flex_32 : decode cX6_flex 32 = .ok (.pop, 1) := by decide +kernel
theorem dX6_flex_33 : decode cX6_flex 33 = .ok (.aload_n 0, 1) := by decide +kernel
theorem dX6_flex_34 : decode cX6_flex 34 = .ok (.getfield 40, 3) := by decide +kernel
theorem dX6_flex_37 : decode cX6_flex 37 = .ok (.iload_n 1, 1) := by decide +kernel
theorem dX6_flex_38 : decode cX6_flex 38 = .ok (.invokevirtual 137, 3) := by decide +kernel
theorem dX6_flex_41 : decode cX6_flex 41 = .ok (.istore 4, 2) := by decide +kernel
theorem dX6_flex_43 : decode cX6_flex 43 = .ok (.iload 4, 2) := by decide +kernel
theorem dX6_flex_45 : decode cX6_flex 45 = .ok (.iconst (-1), 1) := by decide +kernel
theorem dX6_flex_46 : decode cX6_flex 46 = .ok (.if_icmp .ne 5, 3) := by decide +kernel
theorem dX6_flex_49 : decode cX6_flex 49 = .ok (.iconst (-1), 1) := by decide +kernel
theorem dX6_flex_50 : decode cX6_flex 50 = .ok (.ireturn, 1) := by decide +kernel
theorem dX6_flex_51 : decode cX6_flex 51 = .ok (.aload_n 0, 1) := by decide +kernel
theorem dX6_flex_52 : decode cX6_flex 52 = .ok (.getfield 33, 3) := by decide +kernel
theorem dX6_flex_55 : decode cX6_flex 55 = .ok (.getfield 140, 3) := by decide +kernel
theorem dX6_flex_58 : decode cX6_flex 58 = .ok (.iload_n 2, 1) := by decide +kernel
theorem dX6_flex_59 : decode cX6_flex 59 = .ok (.iaload, 1) := by decide +kernel
theorem dX6_flex_60 : decode cX6_flex 60 = .ok (.istore 5, 2) := by decide +kernel
theorem dX6_flex_62 : decode cX6_flex 62 = .ok (.iload 5, 2) := by decide +kernel
theorem dX6_flex_64 : decode cX6_flex 64 = .ok (.iconst (-1), 1) := by decide +kernel
theorem dX6_flex_65 : decode cX6_flex 65 = .ok (.if_icmp .ne 5, 3) := by decide +kernel
theorem dX6_flex_68 : decode cX6_flex 68 = .ok (.iconst 0, 1) := by decide +kernel
theorem dX6_flex_69 : decode cX6_flex 69 = .ok (.ireturn, 1) := by decide +kernel
theorem dX6_flex_70 : decode cX6_flex 70 = .ok (.aload_n 0, 1) := by decide +kernel
theorem dX6_flex_71 : decode cX6_flex 71 = .ok (.getfield 40, 3) := by decide +kernel
theorem dX6_flex_74 : decode cX6_flex 74 = .ok (.iload 4, 2) := by decide +kernel
theorem dX6_flex_76 : decode cX6_flex 76 = .ok (.iload_n 3, 1) := by decide +kernel
theorem dX6_flex_77 : decode cX6_flex 77 = .ok (.ifCond .eq 10, 3) := by decide +kernel
theorem dX6_flex_80 : decode cX6_flex 80 = .ok (.iload 5, 2) := by decide +kernel
theorem dX6_flex_82 : decode cX6_flex 82 = .ok (.iconst 1, 1) := by decide +kernel
theorem dX6_flex_83 : decode cX6_flex 83 = .ok (.iadd, 1) := by decide +kernel
theorem dX6_flex_84 : decode cX6_flex 84 = .ok (.goto 5, 3) := by decide +kernel
theorem dX6_flex_87 : decode cX6_flex 87 = .ok (.iload 5, 2) := by decide +kernel
theorem dX6_flex_89 : decode cX6_flex 89 = .ok (.invokevirtual 143, 3) := by decide +kernel
theorem dX6_flex_92 : decode cX6_flex 92 = .ok (.ireturn, 1) := by decide +kernel
set_option maxRecDepth 20000 in
theorem ggX6_balance_X6_requireMember : GoodIn wsX6_balance wsX6_requireMember := goodIn_ca (goodIn_r _ [9, 10, 11, 4, 12, 13, 14, 15, 16, 17, 18, 129, 130, 131, 132, 133, 134, 135, 136, 137, 138, 139, 140, 141] (by decide +kernel) (by decide +kernel)) (goodIn_sub (fun _ h => List.mem_cons_of_mem _ (List.mem_append_right _ h)) (by decide +kernel))
set_option maxRecDepth 20000 in
theorem gX6_balance_X6_requireMember : GoodIn wsX6_balance (wsV RX6 106 RX6 yX6_requireMember wsX6_requireMember) := goodIn_app (goodIn_of _ (by decide +kernel)) ggX6_balance_X6_requireMember
set_option maxRecDepth 20000 in
theorem ggX6_balance_X6_requireCount : GoodIn wsX6_balance wsX6_requireCount := goodIn_ca (goodIn_r _ [21, 10, 11] (by decide +kernel) (by decide +kernel)) (goodIn_sub (fun _ h => List.mem_cons_of_mem _ (List.mem_append_right _ h)) (by decide +kernel))
set_option maxRecDepth 20000 in
theorem gX6_balance_X6_requireCount : GoodIn wsX6_balance (va_wsS RX6 128 yX6_requireCount wsX6_requireCount) := goodIn_app (goodIn_of _ (by decide +kernel)) ggX6_balance_X6_requireCount
set_option maxRecDepth 20000 in
theorem ggX6_balance_X2_takeJoints : GoodIn wsX6_balance wsX2_takeJoints := goodIn_r _ [26, 27, 28, 29, 30, 31, 32, 33, 34, 142, 143, 144, 145, 146, 147, 148, 149, 150] (by decide +kernel) (by decide +kernel)
set_option maxRecDepth 20000 in
theorem gX6_balance_X2_takeJoints : GoodIn wsX6_balance (wsV RX6 116 RX2 yX2_takeJoints wsX2_takeJoints) := goodIn_app (goodIn_of _ (by decide +kernel)) ggX6_balance_X2_takeJoints
set_option maxRecDepth 20000 in
theorem ggX6_balance_X6_writeRows : GoodIn wsX6_balance wsX6_writeRows := goodIn_r _ [38, 4, 3, 1, 39, 40, 41, 42, 43, 44, 45, 15, 46, 17, 47, 48, 49, 50, 51, 13, 14, 16, 18, 12, 52, 53, 54, 55, 56, 57, 58, 59, 60, 61, 62, 63, 64, 65, 66, 67, 68, 69, 8, 70, 71, 72, 73, 74, 75, 76, 77, 78, 79, 80, 81, 82, 83, 84, 85, 86, 129, 130, 131, 132, 133, 134, 135, 142, 143, 144, 145, 136, 137, 138, 139, 140, 141, 151, 152, 153, 154] (by decide +kernel) (by decide +kernel)
set_option maxRecDepth 20000 in
theorem gX6_balance_X6_writeRows : GoodIn wsX6_balance (wsV RX6 131 RX6 yX6_writeRows wsX6_writeRows) := goodIn_app (goodIn_of _ (by decide +kernel)) ggX6_balance_X6_writeRows
set_option maxRecDepth 20000 in
theorem ggX6_balance_X0_turn : GoodIn wsX6_balance wsX0_turn := goodIn_r _ [90, 64, 65, 57, 58, 59, 60, 66, 151, 152, 153, 154] (by decide +kernel) (by decide +kernel)
set_option maxRecDepth 20000 in
theorem gX6_balance_X0_turn : GoodIn wsX6_balance (wsV RX6 146 RX0 yX0_turn wsX0_turn) := goodIn_app (goodIn_of _ (by decide +kernel)) ggX6_balance_X0_turn
set_option maxRecDepth 20000 in
theorem ggX6_balance_X0_reduce : GoodIn wsX6_balance wsX0_reduce := goodIn_r _ [94, 65, 95, 96, 97, 98, 55, 99, 64, 66, 100, 101, 102, 103, 104, 105, 106, 107, 82, 108, 109, 110, 111, 112, 113, 114, 115, 116, 117, 118, 119, 151, 152, 153, 154] (by decide +kernel) (by decide +kernel)
set_option maxRecDepth 20000 in
theorem gX6_balance_X0_reduce : GoodIn wsX6_balance (wsV RX6 134 RX0 yX0_reduce wsX0_reduce) := goodIn_app (goodIn_of _ (by decide +kernel)) ggX6_balance_X0_reduce
set_option maxRecDepth 20000 in
theorem ggX6_balance_X0_freeColumn : GoodIn wsX6_balance wsX0_freeColumn := goodIn_r _ [123, 65, 95, 151, 152, 153, 154] (by decide +kernel) (by decide +kernel)
set_option maxRecDepth 20000 in
theorem gX6_balance_X0_freeColumn : GoodIn wsX6_balance (wsV RX6 137 RX0 yX0_freeColumn wsX0_freeColumn) := goodIn_app (goodIn_of _ (by decide +kernel)) ggX6_balance_X0_freeColumn
set_option maxRecDepth 20000 in
theorem ggX6_balance_X3_presentAhead : GoodIn wsX6_balance wsX3_presentAhead := goodIn_r _ [50, 51, 13, 14, 15, 16, 17, 18, 136, 137, 138, 139, 140, 141] (by decide +kernel) (by decide +kernel)
set_option maxRecDepth 20000 in
theorem gX6_balance_X3_presentAhead : GoodIn wsX6_balance (wsV RX6 149 RX3 yX3_presentAhead wsX3_presentAhead) := goodIn_app (goodIn_of _ (by decide +kernel)) ggX6_balance_X3_presentAhead
set_option maxRecDepth 20000 in
theorem ggX6_balance_X0_solution : GoodIn wsX6_balance wsX0_solution := goodIn_r _ [128, 65, 95, 82, 66, 151, 152, 153, 154] (by decide +kernel) (by decide +kernel)
set_option maxRecDepth 20000 in
theorem gX6_balance_X0_solution : GoodIn wsX6_balance (wsV RX6 143 RX0 yX0_solution wsX0_solution) := goodIn_app (goodIn_of _ (by decide +kernel)) ggX6_balance_X0_solution
theorem dX6_balance_0 : decode cX6_balance 0 = .ok (.aload_n 0, 1) := by decide +kernel
theorem dX6_balance_1 : decode cX6_balance 1 = .ok (.iload_n 2, 1) := by decide +kernel
theorem dX6_balance_2 : decode cX6_balance 2 = .ok (.invokevirtual 106, 3) := by decide +kernel
theorem dX6_balance_5 : decode cX6_balance 5 = .ok (.iload_n 1, 1) := by decide +kernel
theorem dX6_balance_6 : decode cX6_balance 6 = .ok (.invokestatic 128, 3) := by decide +kernel
theorem dX6_balance_9 : decode cX6_balance 9 = .ok (.aload_n 0, 1) := by decide +kernel
theorem dX6_balance_10 : decode cX6_balance 10 = .ok (.getfield 33, 3) := by decide +kernel
theorem dX6_balance_13 : decode cX6_balance 13 = .ok (.aload_n 0, 1) := by decide +kernel
theorem dX6_balance_14 : decode cX6_balance 14 = .ok (.getfield 10, 3) := by decide +kernel
theorem dX6_balance_17 : decode cX6_balance 17 = .ok (.invokevirtual 116, 3) := by decide +kernel
theorem dX6_balance_20 : decode cX6_balance 20 = .ok (.aload_n 0, 1) := by decide +kernel
theorem dX6_balance_21 : decode cX6_balance 21 = .ok (.iconst (-1), 1) := by decide +kernel
theorem dX6_balance_22 : decode cX6_balance 22 = .ok (.invokevirtual 131, 3) := by decide +kernel
theorem dX6_balance_25 : decode cX6_balance 25 = .ok (.aload_n 0, 1) := by decide +kernel
theorem dX6_balance_26 : decode cX6_balance 26 = .ok (.getfield 40, 3) := by decide +kernel
theorem dX6_balance_29 : decode cX6_balance 29 = .ok (.invokevirtual 146, 3) := by decide +kernel
theorem dX6_balance_32 : decode cX6_balance 32 = .ok (.aload_n 0, 1) := by decide +kernel
theorem dX6_balance_33 : decode cX6_balance 33 = .ok (.getfield 40, 3) := by decide +kernel
theorem dX6_balance_36 : decode cX6_balance 36 = .ok (.invokevirtual 134, 3) := by decide +kernel
theorem dX6_balance_39 : decode cX6_balance 39 = .ok (.pop, 1) := by decide +kernel
theorem dX6_balance_40 : decode cX6_balance 40 = .ok (.aload_n 0, 1) := by decide +kernel
theorem dX6_balance_41 : decode cX6_balance 41 = .ok (.getfield 40, 3) := by decide +kernel
theorem dX6_balance_44 : decode cX6_balance 44 = .ok (.iload_n 1, 1) := by decide +kernel
theorem dX6_balance_45 : decode cX6_balance 45 = .ok (.invokevirtual 137, 3) := by decide +kernel
theorem dX6_balance_48 : decode cX6_balance 48 = .ok (.istore_n 3, 1) := by decide +kernel
theorem dX6_balance_49 : decode cX6_balance 49 = .ok (.iload_n 3, 1) := by decide +kernel
theorem dX6_balance_50 : decode cX6_balance 50 = .ok (.iconst (-1), 1) := by decide +kernel
theorem dX6_balance_51 : decode cX6_balance 51 = .ok (.if_icmp .ne 5, 3) := by decide +kernel
theorem dX6_balance_54 : decode cX6_balance 54 = .ok (.iconst (-1), 1) := by decide +kernel
theorem dX6_balance_55 : decode cX6_balance 55 = .ok (.ireturn, 1) := by decide +kernel
theorem dX6_balance_56 : decode cX6_balance 56 = .ok (.aload_n 0, 1) := by decide +kernel
theorem dX6_balance_57 : decode cX6_balance 57 = .ok (.getfield 40, 3) := by decide +kernel
theorem dX6_balance_60 : decode cX6_balance 60 = .ok (.iload_n 3, 1) := by decide +kernel
theorem dX6_balance_61 : decode cX6_balance 61 = .ok (.aload_n 0, 1) := by decide +kernel
theorem dX6_balance_62 : decode cX6_balance 62 = .ok (.getfield 19, 3) := by decide +kernel
theorem dX6_balance_65 : decode cX6_balance 65 = .ok (.iload_n 2, 1) := by decide +kernel
theorem dX6_balance_66 : decode cX6_balance 66 = .ok (.invokevirtual 149, 3) := by decide +kernel
theorem dX6_balance_69 : decode cX6_balance 69 = .ok (.invokevirtual 143, 3) := by decide +kernel
theorem dX6_balance_72 : decode cX6_balance 72 = .ok (.ireturn, 1) := by decide +kernel
set_option maxRecDepth 20000 in
theorem ggX6_rankAt_X2_drawPoints : GoodIn wsX6_rankAt wsX2_drawPoints := goodIn_r _ [11, 12, 13, 14, 15, 16, 17, 10, 18, 19, 20, 21, 22, 23, 24, 132, 133, 134, 135] (by decide +kernel) (by decide +kernel)
set_option maxRecDepth 20000 in
theorem gX6_rankAt_X2_drawPoints : GoodIn wsX6_rankAt (wsV RX6 158 RX2 yX2_drawPoints wsX2_drawPoints) := goodIn_app (goodIn_of _ (by decide +kernel)) ggX6_rankAt_X2_drawPoints
set_option maxRecDepth 20000 in
theorem ggX6_rankAt_X6_rankWithout : GoodIn wsX6_rankAt wsX6_rankWithout := goodIn_r _ [29, 30, 31, 32, 33, 28, 34, 35, 4, 36, 37, 38, 39, 40, 41, 42, 43, 44, 45, 46, 47, 48, 49, 50, 51, 52, 53, 54, 55, 56, 57, 58, 59, 60, 61, 62, 63, 64, 65, 66, 67, 68, 69, 70, 71, 72, 73, 74, 75, 76, 77, 78, 79, 80, 81, 82, 83, 84, 85, 86, 87, 88, 89, 90, 91, 92, 93, 94, 95, 96, 97, 98, 99, 100, 101, 102, 103, 104, 105, 106, 107, 108, 109, 110, 111, 112, 113, 114, 115, 116, 117, 118, 119, 120, 121, 122, 123, 124, 125, 126, 132, 133, 134, 135, 136, 137, 138, 139, 140, 141, 142, 143, 144, 145] (by decide +kernel) (by decide +kernel)
set_option maxRecDepth 20000 in
theorem gX6_rankAt_X6_rankWithout : GoodIn wsX6_rankAt (wsV RX6 120 RX6 yX6_rankWithout wsX6_rankWithout) := goodIn_app (goodIn_of _ (by decide +kernel)) ggX6_rankAt_X6_rankWithout
theorem dX6_rankAt_0 : decode cX6_rankAt 0 = .ok (.iload_n 1, 1) := by decide +kernel
theorem dX6_rankAt_1 : decode cX6_rankAt 1 = .ok (.ifCond .lt 9, 3) := by decide +kernel
theorem dX6_rankAt_4 : decode cX6_rankAt 4 = .ok (.iload_n 1, 1) := by decide +kernel
theorem dX6_rankAt_5 : decode cX6_rankAt 5 = .ok (.ldc 152, 2) := by decide +kernel
theorem dX6_rankAt_7 : decode cX6_rankAt 7 = .ok (.if_icmp .lt 13, 3) := by decide +kernel
theorem dX6_rankAt_10 : decode cX6_rankAt 10 = .ok (.new 84, 3) := by decide +kernel
theorem dX6_rankAt_13 : decode cX6_rankAt 13 = .ok (.dup, 1) := by decide +kernel
theorem dX6_rankAt_14 : decode cX6_rankAt 14 = .ok (.ldc 153, 2) := by decide +kernel
theorem dX6_rankAt_16 : decode cX6_rankAt 16 = .ok (.invokespecial 88, 3) := by decide +kernel
theorem dX6_rankAt_19 : decode cX6_rankAt 19 = .ok (.athrow, 1) := by decide +kernel
theorem dX6_rankAt_20 : decode cX6_rankAt 20 = .ok (.aload_n 0, 1) := by decide +kernel
theorem dX6_rankAt_21 : decode cX6_rankAt 21 = .ok (.getfield 33, 3) := by decide +kernel
theorem dX6_rankAt_24 : decode cX6_rankAt 24 = .ok (.aload_n 0, 1) := by decide +kernel
theorem dX6_rankAt_25 : decode cX6_rankAt 25 = .ok (.getfield 10, 3) := by decide +kernel
theorem dX6_rankAt_28 : decode cX6_rankAt 28 = .ok (.getfield 155, 3) := by decide +kernel
theorem dX6_rankAt_31 : decode cX6_rankAt 31 = .ok (.iload_n 1, 1) := by decide +kernel
theorem dX6_rankAt_32 : decode cX6_rankAt 32 = .ok (.invokevirtual 158, 3) := by decide +kernel
theorem dX6_rankAt_35 : decode cX6_rankAt 35 = .ok (.aload_n 0, 1) := by decide +kernel
theorem dX6_rankAt_36 : decode cX6_rankAt 36 = .ok (.iconst (-1), 1) := by decide +kernel
theorem dX6_rankAt_37 : decode cX6_rankAt 37 = .ok (.invokevirtual 120, 3) := by decide +kernel
theorem dX6_rankAt_40 : decode cX6_rankAt 40 = .ok (.ireturn, 1) := by decide +kernel
set_option maxRecDepth 20000 in
theorem ggX6_kept_X6_keepWithout : GoodIn wsX6_kept wsX6_keepWithout := goodIn_r _ [5, 6, 7, 8, 9, 10, 11, 12, 13, 14, 15, 16, 17, 18, 19, 20, 21, 22, 23, 24, 25, 26, 27, 28, 29, 30, 31, 32, 33, 34, 35, 36, 37, 38, 39, 40, 41, 42, 43, 4, 44, 45, 46, 47, 48, 49, 50, 51, 52, 53, 54, 55, 56, 57, 58, 59, 60, 61, 62, 63, 64, 65, 66, 67, 68, 69, 70, 71, 72, 73, 74, 75, 76, 77, 78, 79, 80, 81] (by decide +kernel) (by decide +kernel)
set_option maxRecDepth 20000 in
theorem gX6_kept_X6_keepWithout : GoodIn wsX6_kept (wsV RX6 161 RX6 yX6_keepWithout wsX6_keepWithout) := goodIn_app (goodIn_of _ (by decide +kernel)) ggX6_kept_X6_keepWithout
theorem dX6_kept_0 : decode cX6_kept 0 = .ok (.aload_n 0, 1) := by decide +kernel
theorem dX6_kept_1 : decode cX6_kept 1 = .ok (.iconst (-1), 1) := by decide +kernel
theorem dX6_kept_2 : decode cX6_kept 2 = .ok (.invokevirtual 161, 3) := by decide +kernel
theorem dX6_kept_5 : decode cX6_kept 5 = .ok (.ireturn, 1) := by decide +kernel
set_option maxRecDepth 20000 in
theorem ggX6_lacks_X6_rigidCount : GoodIn wsX6_lacks wsX6_rigidCount := goodIn_r _ [7, 1, 2, 72, 73, 74, 75, 76, 77, 78, 79, 80, 81, 82, 83] (by decide +kernel) (by decide +kernel)
set_option maxRecDepth 20000 in
theorem gX6_lacks_X6_rigidCount : GoodIn wsX6_lacks (wsV RX6 180 RX6 yX6_rigidCount wsX6_rigidCount) := goodIn_app (goodIn_of _ (by decide +kernel)) ggX6_lacks_X6_rigidCount
set_option maxRecDepth 20000 in
theorem ggX6_lacks_X6_keepWithout : GoodIn wsX6_lacks wsX6_keepWithout := goodIn_r _ [11, 12, 13, 14, 15, 16, 17, 18, 19, 20, 21, 22, 23, 24, 25, 26, 27, 28, 29, 30, 31, 32, 33, 34, 35, 36, 37, 38, 39, 40, 41, 42, 43, 44, 45, 46, 47, 48, 49, 6, 50, 51, 52, 53, 54, 55, 56, 57, 58, 59, 60, 61, 62, 63, 64, 65, 66, 67, 68, 69, 70, 71, 72, 73, 74, 75, 76, 77, 78, 84, 85, 86, 87, 88, 89, 90, 91, 92] (by decide +kernel) (by decide +kernel)
set_option maxRecDepth 20000 in
theorem gX6_lacks_X6_keepWithout : GoodIn wsX6_lacks (wsV RX6 161 RX6 yX6_keepWithout wsX6_keepWithout) := goodIn_app (goodIn_of _ (by decide +kernel)) ggX6_lacks_X6_keepWithout
theorem dX6_lacks_0 : decode cX6_lacks 0 = .ok (.aload_n 0, 1) := by decide +kernel
theorem dX6_lacks_1 : decode cX6_lacks 1 = .ok (.getfield 10, 3) := by decide +kernel
theorem dX6_lacks_4 : decode cX6_lacks 4 = .ok (.getfield 155, 3) := by decide +kernel
theorem dX6_lacks_7 : decode cX6_lacks 7 = .ok (.iconst 2, 1) := by decide +kernel
theorem dX6_lacks_8 : decode cX6_lacks 8 = .ok (.if_icmp .ge 5, 3) := by decide +kernel
theorem dX6_lacks_11 : decode cX6_lacks 11 = .ok (.iconst (-1), 1) := by decide +kernel
theorem dX6_lacks_12 : decode cX6_lacks 12 = .ok (.ireturn, 1) := by decide +kernel
theorem dX6_lacks_13 : decode cX6_lacks 13 = .ok (.aload_n 0, 1) := by decide +kernel
theorem dX6_lacks_14 : decode cX6_lacks 14 = .ok (.invokevirtual 180, 3) := by decide +kernel
theorem dX6_lacks_17 : decode cX6_lacks 17 = .ok (.aload_n 0, 1) := by decide +kernel
theorem dX6_lacks_18 : decode cX6_lacks 18 = .ok (.iconst (-1), 1) := by decide +kernel
theorem dX6_lacks_19 : decode cX6_lacks 19 = .ok (.invokevirtual 161, 3) := by decide +kernel
theorem dX6_lacks_22 : decode cX6_lacks 22 = .ok (.isub, 1) := by decide +kernel
theorem dX6_lacks_23 : decode cX6_lacks 23 = .ok (.ireturn, 1) := by decide +kernel
set_option maxRecDepth 20000 in
theorem ggX6_isGlobal_X6_isComplete : GoodIn wsX6_isGlobal wsX6_isComplete := goodIn_r _ [8, 9, 1, 2, 10, 11, 12, 13, 14, 15, 16, 17, 18, 19, 20, 21, 22, 23, 24, 111, 112, 113, 114, 115, 116, 117, 118, 119, 120, 121, 122, 123, 124, 125, 126, 127, 128] (by decide +kernel) (by decide +kernel)
set_option maxRecDepth 20000 in
theorem gX6_isGlobal_X6_isComplete : GoodIn wsX6_isGlobal (wsV RX6 183 RX6 yX6_isComplete wsX6_isComplete) := goodIn_app (goodIn_of _ (by decide +kernel)) ggX6_isGlobal_X6_isComplete
set_option maxRecDepth 20000 in
theorem ggX6_isGlobal_X6_keepWithout : GoodIn wsX6_isGlobal wsX6_keepWithout := goodIn_r _ [28, 29, 3, 9, 30, 31, 32, 33, 34, 35, 36, 37, 38, 39, 21, 22, 13, 23, 15, 24, 40, 41, 42, 43, 44, 45, 46, 47, 48, 49, 50, 51, 52, 53, 54, 55, 56, 57, 58, 7, 59, 60, 61, 62, 63, 64, 65, 66, 67, 68, 69, 70, 71, 72, 73, 74, 75, 76, 77, 78, 79, 80, 111, 112, 113, 114, 115, 116, 117, 123, 124, 125, 126, 127, 128, 129, 130, 131] (by decide +kernel) (by decide +kernel)
set_option maxRecDepth 20000 in
theorem gX6_isGlobal_X6_keepWithout : GoodIn wsX6_isGlobal (wsV RX6 161 RX6 yX6_keepWithout wsX6_keepWithout) := goodIn_app (goodIn_of _ (by decide +kernel)) ggX6_isGlobal_X6_keepWithout
set_option maxRecDepth 20000 in
theorem ggX6_isGlobal_X6_rigidCount : GoodIn wsX6_isGlobal wsX6_rigidCount := goodIn_r _ [84, 1, 2, 111, 112, 113, 114, 115, 116, 117, 118, 119, 120, 121, 122] (by decide +kernel) (by decide +kernel)
set_option maxRecDepth 20000 in
theorem gX6_isGlobal_X6_rigidCount : GoodIn wsX6_isGlobal (wsV RX6 180 RX6 yX6_rigidCount wsX6_rigidCount) := goodIn_app (goodIn_of _ (by decide +kernel)) ggX6_isGlobal_X6_rigidCount
set_option maxRecDepth 20000 in
theorem ggX6_isGlobal_X6_hangsWithoutAnyTwo : GoodIn wsX6_isGlobal wsX6_hangsWithoutAnyTwo := goodIn_r _ [88, 1, 2, 89, 90, 91, 92, 93, 94, 95, 58, 7, 59, 96, 97, 98, 99, 9, 100, 101, 102, 13, 103, 15, 104, 105, 20, 21, 22, 23, 24, 111, 112, 113, 114, 115, 116, 117, 118, 119, 120, 121, 122, 123, 124, 125, 126, 127, 128] (by decide +kernel) (by decide +kernel)
set_option maxRecDepth 20000 in
theorem gX6_isGlobal_X6_hangsWithoutAnyTwo : GoodIn wsX6_isGlobal (wsV RX6 187 RX6 yX6_hangsWithoutAnyTwo wsX6_hangsWithoutAnyTwo) := goodIn_app (goodIn_of _ (by decide +kernel)) ggX6_isGlobal_X6_hangsWithoutAnyTwo
set_option maxRecDepth 20000 in
theorem ggX6_isGlobal_X6_isRigidWithoutEachOf : GoodIn wsX6_isGlobal wsX6_isRigidWithoutEachOf := goodIn_r _ [109, 9, 30, 110, 60, 7, 61, 25, 26, 27, 28, 29, 3, 31, 32, 33, 34, 35, 36, 37, 38, 39, 21, 22, 13, 23, 15, 24, 40, 41, 42, 43, 44, 45, 46, 47, 48, 49, 50, 51, 52, 53, 54, 55, 56, 57, 58, 59, 62, 63, 64, 65, 66, 67, 68, 69, 70, 71, 72, 73, 74, 75, 76, 77, 78, 79, 80, 81, 82, 83, 84, 1, 2, 111, 112, 113, 114, 115, 116, 117, 123, 124, 125, 126, 127, 128, 129, 130, 131, 118, 119, 120, 121, 122] (by decide +kernel) (by decide +kernel)
set_option maxRecDepth 20000 in
theorem gX6_isGlobal_X6_isRigidWithoutEachOf : GoodIn wsX6_isGlobal (wsV RX6 190 RX6 yX6_isRigidWithoutEachOf wsX6_isRigidWithoutEachOf) := goodIn_app (goodIn_of _ (by decide +kernel)) ggX6_isGlobal_X6_isRigidWithoutEachOf
theorem dX6_isGlobal_0 : decode cX6_isGlobal 0 = .ok (.aload_n 0, 1) := by decide +kernel
theorem dX6_isGlobal_1 : decode cX6_isGlobal 1 = .ok (.invokevirtual 183, 3) := by decide +kernel
theorem dX6_isGlobal_4 : decode cX6_isGlobal 4 = .ok (.ifCond .eq 5, 3) := by decide +kernel
theorem dX6_isGlobal_7 : decode cX6_isGlobal 7 = .ok (.iconst 1, 1) := by decide +kernel
theorem dX6_isGlobal_8 : decode cX6_isGlobal 8 = .ok (.ireturn, 1) := by decide +kernel
theorem dX6_isGlobal_9 : decode cX6_isGlobal 9 = .ok (.aload_n 0, 1) := by decide +kernel
theorem dX6_isGlobal_10 : decode cX6_isGlobal 10 = .ok (.getfield 10, 3) := by decide +kernel
theorem dX6_isGlobal_13 : decode cX6_isGlobal 13 = .ok (.getfield 155, 3) := by decide +kernel
theorem dX6_isGlobal_16 : decode cX6_isGlobal 16 = .ok (.iconst 4, 1) := by decide +kernel
theorem dX6_isGlobal_17 : decode cX6_isGlobal 17 = .ok (.if_icmp .lt 15, 3) := by decide +kernel
theorem dX6_isGlobal_20 : decode cX6_isGlobal 20 = .ok (.aload_n 0, 1) := by decide +kernel
theorem dX6_isGlobal_21 : decode cX6_isGlobal 21 = .ok (.iconst (-1), 1) := by decide +kernel
theorem dX6_isGlobal_22 : decode cX6_isGlobal 22 = .ok (.invokevirtual 161, 3) := by decide +kernel
theorem dX6_isGlobal_25 : decode cX6_isGlobal 25 = .ok (.aload_n 0, 1) := by decide +kernel
theorem dX6_isGlobal_26 : decode cX6_isGlobal 26 = .ok (.invokevirtual 180, 3) := by decide +kernel
theorem dX6_isGlobal_29 : decode cX6_isGlobal 29 = .ok (.if_icmp .eq 5, 3) := by decide +kernel
theorem dX6_isGlobal_32 : decode cX6_isGlobal 32 = .ok (.iconst 0, 1) := by decide +kernel
theorem dX6_isGlobal_33 : decode cX6_isGlobal 33 = .ok (.ireturn, 1) := by decide +kernel
theorem dX6_isGlobal_34 : decode cX6_isGlobal 34 = .ok (.aload_n 0, 1) := by decide +kernel
theorem dX6_isGlobal_35 : decode cX6_isGlobal 35 = .ok (.invokevirtual 187, 3) := by decide +kernel
theorem dX6_isGlobal_38 : decode cX6_isGlobal 38 = .ok (.ifCond .eq 18, 3) := by decide +kernel
theorem dX6_isGlobal_41 : decode cX6_isGlobal 41 = .ok (.aload_n 0, 1) := by decide +kernel
theorem dX6_isGlobal_42 : decode cX6_isGlobal 42 = .ok (.aload_n 0, 1) := by decide +kernel
theorem dX6_isGlobal_43 : decode cX6_isGlobal 43 = .ok (.getfield 51, 3) := by decide +kernel
theorem dX6_isGlobal_46 : decode cX6_isGlobal 46 = .ok (.invokevirtual 190, 3) := by decide +kernel
theorem dX6_isGlobal_49 : decode cX6_isGlobal 49 = .ok (.ifCond .eq 7, 3) := by decide +kernel
theorem dX6_isGlobal_52 : decode cX6_isGlobal 52 = .ok (.iconst 1, 1) := by decide +kernel
theorem dX6_isGlobal_53 : decode cX6_isGlobal 53 = .ok (.goto 4, 3) := by decide +kernel
theorem dX6_isGlobal_56 : decode cX6_isGlobal 56 = .ok (.iconst 0, 1) := by decide +kernel
theorem dX6_isGlobal_57 : decode cX6_isGlobal 57 = .ok (.ireturn, 1) := by decide +kernel
set_option maxRecDepth 20000 in
theorem ggX6_grow_X6_requireJoint : GoodIn wsX6_grow wsX6_requireJoint := goodIn_ca (goodIn_r _ [8, 9, 10, 1, 11, 12, 13, 14, 15, 16, 63, 64, 65, 66, 67, 68, 69, 70, 71, 72, 73, 74] (by decide +kernel) (by decide +kernel)) (goodIn_sub (fun _ h => List.mem_cons_of_mem _ (List.mem_append_left _ (List.mem_append_left _ (List.mem_append_right _ h)))) (by decide +kernel))
set_option maxRecDepth 20000 in
theorem gX6_grow_X6_requireJoint : GoodIn wsX6_grow (wsV RX6 66 RX6 yX6_requireJoint wsX6_requireJoint) := goodIn_app (goodIn_of _ (by decide +kernel)) ggX6_grow_X6_requireJoint
set_option maxRecDepth 20000 in
theorem ggX6_grow_X6_requireTwo : GoodIn wsX6_grow wsX6_requireTwo := goodIn_ca (goodIn_r _ [19, 20, 21] (by decide +kernel) (by decide +kernel)) (goodIn_sub (fun _ h => List.mem_cons_of_mem _ (List.mem_append_left _ (List.mem_append_right _ h))) (by decide +kernel))
set_option maxRecDepth 20000 in
theorem gX6_grow_X6_requireTwo : GoodIn wsX6_grow (va_wsS RX6 81 yX6_requireTwo wsX6_requireTwo) := goodIn_app (goodIn_of _ (by decide +kernel)) ggX6_grow_X6_requireTwo
set_option maxRecDepth 20000 in
theorem ggX6_grow_X6_requirePoint : GoodIn wsX6_grow wsX6_requirePoint := goodIn_ca (goodIn_r _ [24, 20, 21] (by decide +kernel) (by decide +kernel)) (goodIn_sub (fun _ h => List.mem_cons_of_mem _ (List.mem_append_left _ (List.mem_append_right _ h))) (by decide +kernel))
set_option maxRecDepth 20000 in
theorem gX6_grow_X6_requirePoint : GoodIn wsX6_grow (va_wsS RX6 55 yX6_requirePoint wsX6_requirePoint) := goodIn_app (goodIn_of _ (by decide +kernel)) ggX6_grow_X6_requirePoint
set_option maxRecDepth 20000 in
theorem ggX6_grow_X6_requireRoomForJoint : GoodIn wsX6_grow wsX6_requireRoomForJoint := goodIn_ca (goodIn_r _ [28, 29, 30, 1, 31, 63, 64, 65, 66, 67, 68, 69, 70, 71, 72, 73, 74] (by decide +kernel) (by decide +kernel)) (goodIn_sub (fun _ h => List.mem_cons_of_mem _ (List.mem_append_right _ h)) (by decide +kernel))
set_option maxRecDepth 20000 in
theorem gX6_grow_X6_requireRoomForJoint : GoodIn wsX6_grow (wsV RX6 59 RX6 yX6_requireRoomForJoint wsX6_requireRoomForJoint) := goodIn_app (goodIn_of _ (by decide +kernel)) ggX6_grow_X6_requireRoomForJoint
set_option maxRecDepth 20000 in
theorem ggX6_grow_X6_requireRoomForMembers : GoodIn wsX6_grow wsX6_requireRoomForMembers := goodIn_ca (goodIn_r _ [35, 29, 30, 2, 36, 63, 64, 65, 66, 67, 68, 69, 75, 76, 77, 78, 79, 80] (by decide +kernel) (by decide +kernel)) (goodIn_sub (fun _ h => List.mem_cons_of_mem _ (List.mem_append_right _ h)) (by decide +kernel))
set_option maxRecDepth 20000 in
theorem gX6_grow_X6_requireRoomForMembers : GoodIn wsX6_grow (wsV RX6 100 RX6 yX6_requireRoomForMembers wsX6_requireRoomForMembers) := goodIn_app (goodIn_of _ (by decide +kernel)) ggX6_grow_X6_requireRoomForMembers
set_option maxRecDepth 20000 in
theorem ggX6_grow_X1_add : GoodIn wsX6_grow wsX1_add := goodIn_r _ [40, 16, 41, 42, 43, 44, 70, 71, 72, 73, 74] (by decide +kernel) (by decide +kernel)
set_option maxRecDepth 20000 in
theorem gX6_grow_X1_add : GoodIn wsX6_grow (wsV RX6 62 RX1 yX1_add wsX1_add) := goodIn_app (goodIn_of _ (by decide +kernel)) ggX6_grow_X1_add
set_option maxRecDepth 20000 in
theorem ggX6_grow_X3_add : GoodIn wsX6_grow wsX3_add := goodIn_r _ [49, 50, 51, 52, 53, 75, 76, 77, 78, 79, 80] (by decide +kernel) (by decide +kernel)
set_option maxRecDepth 20000 in
theorem gX6_grow_X3_add : GoodIn wsX6_grow (wsV RX6 103 RX3 yX3_add wsX3_add) := goodIn_app (goodIn_of _ (by decide +kernel)) ggX6_grow_X3_add
set_option maxRecDepth 20000 in
theorem ggX6_grow_X5_add : GoodIn wsX6_grow wsX5_add := goodIn_r _ [58, 59, 60, 61, 62, 81, 82, 83, 84] (by decide +kernel) (by decide +kernel)
set_option maxRecDepth 20000 in
theorem gX6_grow_X5_add : GoodIn wsX6_grow (wsV RX6 194 RX5 yX5_add wsX5_add) := goodIn_app (goodIn_of _ (by decide +kernel)) ggX6_grow_X5_add
theorem dX6_grow_0 : decode cX6_grow 0 = .ok (.aload_n 0, 1) := by decide +kernel
theorem dX6_grow_1 : decode cX6_grow 1 = .ok (.iload_n 1, 1) := by decide +kernel
theorem dX6_grow_2 : decode cX6_grow 2 = .ok (.invokevirtual 66, 3) := by decide +kernel
theorem dX6_grow_5 : decode cX6_grow 5 = .ok (.aload_n 0, 1) := by decide +kernel
theorem dX6_grow_6 : decode cX6_grow 6 = .ok (.iload_n 2, 1) := by decide +kernel
theorem dX6_grow_7 : decode cX6_grow 7 = .ok (.invokevirtual 66, 3) := by decide +kernel
theorem dX6_grow_10 : decode cX6_grow 10 = .ok (.iload_n 1, 1) := by decide +kernel
theorem dX6_grow_11 : decode cX6_grow 11 = .ok (.iload_n 2, 1) := by decide +kernel
theorem dX6_grow_12 : decode cX6_grow 12 = .ok (.invokestatic 81, 3) := by decide +kernel
theorem dX6_grow_15 : decode cX6_grow 15 = .ok (.iload_n 3, 1) := by decide +kernel
theorem dX6_grow_16 : decode cX6_grow 16 = .ok (.iload 4, 2) := by decide +kernel
theorem dX6_grow_18 : decode cX6_grow 18 = .ok (.invokestatic 55, 3) := by decide +kernel
theorem dX6_grow_21 : decode cX6_grow 21 = .ok (.aload_n 0, 1) := by decide +kernel
theorem dX6_grow_22 : decode cX6_grow 22 = .ok (.invokevirtual 59, 3) := by decide +kernel
theorem dX6_grow_25 : decode cX6_grow 25 = .ok (.aload_n 0, 1) := by decide +kernel
theorem dX6_grow_26 : decode cX6_grow 26 = .ok (.iconst 2, 1) := by decide +kernel
theorem dX6_grow_27 : decode cX6_grow 27 = .ok (.invokevirtual 100, 3) := by decide +kernel
theorem dX6_grow_30 : decode cX6_grow 30 = .ok (.aload_n 0, 1) := by decide +kernel
theorem dX6_grow_31 : decode cX6_grow 31 = .ok (.getfield 10, 3) := by decide +kernel
theorem dX6_grow_34 : decode cX6_grow 34 = .ok (.iload_n 3, 1) := by decide +kernel
theorem dX6_grow_35 : decode cX6_grow 35 = .ok (.iload 4, 2) := by decide +kernel
theorem dX6_grow_37 : decode cX6_grow 37 = .ok (.invokevirtual 62, 3) := by decide +kernel
theorem dX6_grow_40 : decode cX6_grow 40 = .ok (.istore 5, 2) := by decide +kernel
theorem dX6_grow_42 : decode cX6_grow 42 = .ok (.aload_n 0, 1) := by decide +kernel
theorem dX6_grow_43 : decode cX6_grow 43 = .ok (.getfield 19, 3) := by decide +kernel
theorem dX6_grow_46 : decode cX6_grow 46 = .ok (.iload_n 1, 1) := by decide +kernel
theorem dX6_grow_47 : decode cX6_grow 47 = .ok (.iload 5, 2) := by decide +kernel
theorem dX6_grow_49 : decode cX6_grow 49 = .ok (.iconst 0, 1) := by decide +kernel
theorem dX6_grow_50 : decode cX6_grow 50 = .ok (.invokevirtual 103, 3) := by decide +kernel
theorem dX6_grow_53 : decode cX6_grow 53 = .ok (.istore 6, 2) := by decide +kernel
theorem dX6_grow_55 : decode cX6_grow 55 = .ok (.aload_n 0, 1) := by decide +kernel
theorem dX6_grow_56 : decode cX6_grow 56 = .ok (.getfield 19, 3) := by decide +kernel
theorem dX6_grow_59 : decode cX6_grow 59 = .ok (.iload_n 2, 1) := by decide +kernel
theorem dX6_grow_60 : decode cX6_grow 60 = .ok (.iload 5, 2) := by decide +kernel
theorem dX6_grow_62 : decode cX6_grow 62 = .ok (.iconst 0, 1) := by decide +kernel
theorem dX6_grow_63 : decode cX6_grow 63 = .ok (.invokevirtual 103, 3) := by decide +kernel
theorem dX6_grow_66 : decode cX6_grow 66 = .ok (.pop, 1) := by decide +kernel
theorem dX6_grow_67 : decode cX6_grow 67 = .ok (.aload_n 0, 1) := by decide +kernel
theorem dX6_grow_68 : decode cX6_grow 68 = .ok (.getfield 26, 3) := by decide +kernel
theorem dX6_grow_71 : decode cX6_grow 71 = .ok (.iload 5, 2) := by decide +kernel
theorem dX6_grow_73 : decode cX6_grow 73 = .ok (.iload 6, 2) := by decide +kernel
theorem dX6_grow_75 : decode cX6_grow 75 = .ok (.iconst (-1), 1) := by decide +kernel
theorem dX6_grow_76 : decode cX6_grow 76 = .ok (.invokevirtual 194, 3) := by decide +kernel
theorem dX6_grow_79 : decode cX6_grow 79 = .ok (.iload 5, 2) := by decide +kernel
theorem dX6_grow_81 : decode cX6_grow 81 = .ok (.ireturn, 1) := by decide +kernel
set_option maxRecDepth 20000 in
theorem ggX6_split_X6_requireMember : GoodIn wsX6_split wsX6_requireMember := goodIn_ca (goodIn_r _ [13, 14, 15, 3, 16, 17, 18, 19, 20, 21, 22, 76, 77, 78, 79, 80, 81, 82, 83, 84, 85, 86, 87, 88] (by decide +kernel) (by decide +kernel)) (goodIn_sub (fun _ h => List.mem_cons_of_mem _ (List.mem_append_left _ (List.mem_append_right _ h))) (by decide +kernel))
set_option maxRecDepth 20000 in
theorem gX6_split_X6_requireMember : GoodIn wsX6_split (wsV RX6 106 RX6 yX6_requireMember wsX6_requireMember) := goodIn_app (goodIn_of _ (by decide +kernel)) ggX6_split_X6_requireMember
set_option maxRecDepth 20000 in
theorem ggX6_split_X6_requireJoint : GoodIn wsX6_split wsX6_requireJoint := goodIn_ca (goodIn_r _ [26, 14, 15, 4, 27, 28, 29, 30, 31, 32, 76, 77, 78, 79, 80, 81, 82, 89, 90, 91, 92, 93] (by decide +kernel) (by decide +kernel)) (goodIn_sub (fun _ h => List.mem_cons_of_mem _ (List.mem_append_left _ (List.mem_append_right _ h))) (by decide +kernel))
set_option maxRecDepth 20000 in
theorem gX6_split_X6_requireJoint : GoodIn wsX6_split (wsV RX6 66 RX6 yX6_requireJoint wsX6_requireJoint) := goodIn_app (goodIn_of _ (by decide +kernel)) ggX6_split_X6_requireJoint
set_option maxRecDepth 20000 in
theorem ggX6_split_X3_endsAt : GoodIn wsX6_split wsX3_endsAt := goodIn_r _ [36, 37, 38, 83, 84, 85, 86, 87, 88] (by decide +kernel) (by decide +kernel)
set_option maxRecDepth 20000 in
theorem gX6_split_X3_endsAt : GoodIn wsX6_split (wsV RX6 197 RX3 yX3_endsAt wsX3_endsAt) := goodIn_app (goodIn_of _ (by decide +kernel)) ggX6_split_X3_endsAt
set_option maxRecDepth 20000 in
theorem ggX6_split_X6_requirePoint : GoodIn wsX6_split wsX6_requirePoint := goodIn_ca (goodIn_r _ [41, 1, 2] (by decide +kernel) (by decide +kernel)) (goodIn_sub (fun _ h => List.mem_cons_of_mem _ (List.mem_append_left _ (List.mem_append_left _ (List.mem_append_right _ h)))) (by decide +kernel))
set_option maxRecDepth 20000 in
theorem gX6_split_X6_requirePoint : GoodIn wsX6_split (va_wsS RX6 55 yX6_requirePoint wsX6_requirePoint) := goodIn_app (goodIn_of _ (by decide +kernel)) ggX6_split_X6_requirePoint
set_option maxRecDepth 20000 in
theorem ggX6_split_X6_requireRoomForJoint : GoodIn wsX6_split wsX6_requireRoomForJoint := goodIn_ca (goodIn_r _ [45, 46, 47, 4, 48, 76, 77, 78, 79, 80, 81, 82, 89, 90, 91, 92, 93] (by decide +kernel) (by decide +kernel)) (goodIn_sub (fun _ h => List.mem_cons_of_mem _ (List.mem_append_right _ h)) (by decide +kernel))
set_option maxRecDepth 20000 in
theorem gX6_split_X6_requireRoomForJoint : GoodIn wsX6_split (wsV RX6 59 RX6 yX6_requireRoomForJoint wsX6_requireRoomForJoint) := goodIn_app (goodIn_of _ (by decide +kernel)) ggX6_split_X6_requireRoomForJoint
set_option maxRecDepth 20000 in
theorem ggX6_split_X6_requireRoomForMembers : GoodIn wsX6_split wsX6_requireRoomForMembers := goodIn_ca (goodIn_r _ [52, 46, 47, 3, 53, 76, 77, 78, 79, 80, 81, 82, 83, 84, 85, 86, 87, 88] (by decide +kernel) (by decide +kernel)) (goodIn_sub (fun _ h => List.mem_cons_of_mem _ (List.mem_append_right _ h)) (by decide +kernel))
set_option maxRecDepth 20000 in
theorem gX6_split_X6_requireRoomForMembers : GoodIn wsX6_split (wsV RX6 100 RX6 yX6_requireRoomForMembers wsX6_requireRoomForMembers) := goodIn_app (goodIn_of _ (by decide +kernel)) ggX6_split_X6_requireRoomForMembers
set_option maxRecDepth 20000 in
theorem ggX6_split_X1_add : GoodIn wsX6_split wsX1_add := goodIn_r _ [57, 32, 58, 59, 60, 61, 89, 90, 91, 92, 93] (by decide +kernel) (by decide +kernel)
set_option maxRecDepth 20000 in
theorem gX6_split_X1_add : GoodIn wsX6_split (wsV RX6 62 RX1 yX1_add wsX1_add) := goodIn_app (goodIn_of _ (by decide +kernel)) ggX6_split_X1_add
set_option maxRecDepth 20000 in
theorem ggX6_split_X3_add : GoodIn wsX6_split wsX3_add := goodIn_r _ [65, 21, 37, 38, 66, 83, 84, 85, 86, 87, 88] (by decide +kernel) (by decide +kernel)
set_option maxRecDepth 20000 in
theorem gX6_split_X3_add : GoodIn wsX6_split (wsV RX6 103 RX3 yX3_add wsX3_add) := goodIn_app (goodIn_of _ (by decide +kernel)) ggX6_split_X3_add
set_option maxRecDepth 20000 in
theorem ggX6_split_X5_add : GoodIn wsX6_split wsX5_add := goodIn_r _ [71, 72, 73, 74, 75, 94, 95, 96, 97] (by decide +kernel) (by decide +kernel)
set_option maxRecDepth 20000 in
theorem gX6_split_X5_add : GoodIn wsX6_split (wsV RX6 194 RX5 yX5_add wsX5_add) := goodIn_app (goodIn_of _ (by decide +kernel)) ggX6_split_X5_add
theorem dX6_split_0 : decode cX6_split 0 = .ok (.aload_n 0, 1) := by decide +kernel
theorem dX6_split_1 : decode cX6_split 1 = .ok (.iload_n 1, 1) := by decide +kernel
theorem dX6_split_2 : decode cX6_split 2 = .ok (.invokevirtual 106, 3) := by decide +kernel
theorem dX6_split_5 : decode cX6_split 5 = .ok (.aload_n 0, 1) := by decide +kernel
theorem dX6_split_6 : decode cX6_split 6 = .ok (.iload_n 2, 1) := by decide +kernel
theorem dX6_split_7 : decode cX6_split 7 = .ok (.invokevirtual 66, 3) := by decide +kernel
theorem dX6_split_10 : decode cX6_split 10 = .ok (.aload_n 0, 1) := by decide +kernel
theorem dX6_split_11 : decode cX6_split 11 = .ok (.getfield 19, 3) := by decide +kernel
theorem dX6_split_14 : decode cX6_split 14 = .ok (.iload_n 1, 1) := by decide +kernel
theorem dX6_split_15 : decode cX6_split 15 = .ok (.iload_n 2, 1) := by decide +kernel
theorem dX6_split_16 : decode cX6_split 16 = .ok (.invokevirtual 197, 3) := by decide +kernel
theorem dX6_split_19 : decode cX6_split 19 = .ok (.ifCond .eq 13, 3) := by decide +kernel
theorem dX6_split_22 : decode cX6_split 22 = .ok (.new 84, 3) := by decide +kernel
theorem dX6_split_25 : decode cX6_split 25 = .ok (.dup, 1) := by decide +kernel
theorem dX6_split_26 : decode cX6_split 26 = .ok (.ldc 200, 2) := by decide +kernel
theorem dX6_split_28 : decode cX6_split 28 = .ok (.invokespecial 88, 3) := by decide +kernel
theorem dX6_split_31 : decode cX6_split 31 = .ok (.athrow, 1) := by decide +kernel
theorem dX6_split_32 : decode cX6_split 32 = .ok (.iload_n 3, 1) := by decide +kernel
theorem dX6_split_33 : decode cX6_split 33 = .ok (.iload 4, 2) := by decide +kernel
theorem dX6_split_35 : decode cX6_split 35 = .ok (.invokestatic 55, 3) := by decide +kernel
theorem dX6_split_38 : decode cX6_split 38 = .ok (.aload_n 0, 1) := by decide +kernel
theorem dX6_split_39 : decode cX6_split 39 = .ok (.invokevirtual 59, 3) := by decide +kernel
theorem dX6_split_42 : decode cX6_split 42 = .ok (.aload_n 0, 1) := by decide +kernel
theorem dX6_split_43 : decode cX6_split 43 = .ok (.iconst 3, 1) := by decide +kernel
theorem dX6_split_44 : decode cX6_split 44 = .ok (.invokevirtual 100, 3) := by decide +kernel
theorem dX6_split_47 : decode cX6_split 47 = .ok (.aload_n 0, 1) := by decide +kernel
theorem dX6_split_48 : decode cX6_split 48 = .ok (.getfield 10, 3) := by decide +kernel
theorem dX6_split_51 : decode cX6_split 51 = .ok (.iload_n 3, 1) := by decide +kernel
theorem dX6_split_52 : decode cX6_split 52 = .ok (.iload 4, 2) := by decide +kernel
theorem dX6_split_54 : decode cX6_split 54 = .ok (.invokevirtual 62, 3) := by decide +kernel
theorem dX6_split_57 : decode cX6_split 57 = .ok (.istore 5, 2) := by decide +kernel
theorem dX6_split_59 : decode cX6_split 59 = .ok (.aload_n 0, 1) := by decide +kernel
theorem dX6_split_60 : decode cX6_split 60 = .ok (.getfield 19, 3) := by decide +kernel
theorem dX6_split_63 : decode cX6_split 63 = .ok (.getfield 109, 3) := by decide +kernel
theorem dX6_split_66 : decode cX6_split 66 = .ok (.iload_n 1, 1) := by decide +kernel
theorem dX6_split_67 : decode cX6_split 67 = .ok (.iconst 1, 1) := by decide +kernel
theorem dX6_split_68 : decode cX6_split 68 = .ok (.bastore, 1) := by decide +kernel
theorem dX6_split_69 : decode cX6_split 69 = .ok (.aload_n 0, 1) := by decide +kernel
theorem dX6_split_70 : decode cX6_split 70 = .ok (.getfield 19, 3) := by decide +kernel
theorem dX6_split_73 : decode cX6_split 73 = .ok (.aload_n 0, 1) := by decide +kernel
theorem dX6_split_74 : decode cX6_split 74 = .ok (.getfield 19, 3) := by decide +kernel
theorem dX6_split_77 : decode cX6_split 77 = .ok (.getfield 168, 3) := by decide +kernel
theorem dX6_split_80 : decode cX6_split 80 = .ok (.iload_n 1, 1) := by decide +kernel
theorem dX6_split_81 : decode cX6_split 81 = .ok (.iaload, 1) := by decide +kernel
theorem dX6_split_82 : decode cX6_split 82 = .ok (.iload 5, 2) := by decide +kernel
theorem dX6_split_84 : decode cX6_split 84 = .ok (.iconst 0, 1) := by decide +kernel
theorem dX6_split_85 : decode cX6_split 85 = .ok (.invokevirtual 103, 3) := by decide +kernel
theorem dX6_split_88 : decode cX6_split 88 = .ok (.istore 6, 2) := by decide +kernel
theorem dX6_split_90 : decode cX6_split 90 = .ok (.aload_n 0, 1) := by decide +kernel
theorem dX6_split_91 : decode cX6_split 91 = .ok (.getfield 19, 3) := by decide +kernel
theorem dX6_split_94 : decode cX6_split 94 = .ok (.aload_n 0, 1) := by decide +kernel
theorem dX6_split_95 : decode cX6_split 95 = .ok (.getfield 19, 3) := by decide +kernel
theorem dX6_split_98 : decode cX6_split 98 = .ok (.getfield 171, 3) := by decide +kernel
theorem dX6_split_101 : decode cX6_split 101 = .ok (.iload_n 1, 1) := by decide +kernel
theorem dX6_split_102 : decode cX6_split 102 = .ok (.iaload, 1) := by decide +kernel
theorem dX6_split_103 : decode cX6_split 103 = .ok (.iload 5, 2) := by decide +kernel
theorem dX6_split_105 : decode cX6_split 105 = .ok (.iconst 0, 1) := by decide +kernel
theorem dX6_split_106 : decode cX6_split 106 = .ok (.invokevirtual 103, 3) := by decide +kernel
theorem dX6_split_109 : decode cX6_split 109 = .ok (.pop, 1) := by decide +kernel
theorem dX6_split_110 : decode cX6_split 110 = .ok (.aload_n 0, 1) := by decide +kernel
theorem dX6_split_111 : decode cX6_split 111 = .ok (.getfield 19, 3) := by decide +kernel
theorem dX6_split_114 : decode cX6_split 114 = .ok (.iload_n 2, 1) := by decide +kernel
theorem dX6_split_115 : decode cX6_split 115 = .ok (.iload 5, 2) := by decide +kernel
theorem dX6_split_117 : decode cX6_split 117 = .ok (.iconst 0, 1) := by decide +kernel
theorem dX6_split_118 : decode cX6_split 118 = .ok (.invokevirtual 103, 3) := by decide +kernel
theorem dX6_split_121 : decode cX6_split 121 = .ok (.pop, 1) := by decide +kernel
theorem dX6_split_122 : decode cX6_split 122 = .ok (.aload_n 0, 1) := by decide +kernel
theorem dX6_split_123 : decode cX6_split 123 = .ok (.getfield 26, 3) := by decide +kernel
theorem dX6_split_126 : decode cX6_split 126 = .ok (.iload 5, 2) := by decide +kernel
theorem dX6_split_128 : decode cX6_split 128 = .ok (.iload 6, 2) := by decide +kernel
theorem dX6_split_130 : decode cX6_split 130 = .ok (.iload_n 1, 1) := by decide +kernel
theorem dX6_split_131 : decode cX6_split 131 = .ok (.invokevirtual 194, 3) := by decide +kernel
theorem dX6_split_134 : decode cX6_split 134 = .ok (.iload 5, 2) := by decide +kernel
theorem dX6_split_136 : decode cX6_split 136 = .ok (.ireturn, 1) := by decide +kernel
set_option maxRecDepth 20000 in
theorem ggX6_undo_X6_canBeUndone : GoodIn wsX6_undo wsX6_canBeUndone := goodIn_r _ [14, 3, 15, 8, 16, 17, 5, 7, 18, 19, 20, 21, 22, 23, 24, 25, 26, 27, 28, 29, 30, 31, 32, 33, 34, 35, 36, 37, 38, 39, 40, 41, 63, 64, 65, 66, 67, 68, 69, 70, 71, 72, 73, 80, 81, 82, 83, 84, 74, 75, 76, 77, 78, 79] (by decide +kernel) (by decide +kernel)
set_option maxRecDepth 20000 in
theorem gX6_undo_X6_canBeUndone : GoodIn wsX6_undo (wsV RX6 205 RX6 yX6_canBeUndone wsX6_canBeUndone) := goodIn_app (goodIn_of _ (by decide +kernel)) ggX6_undo_X6_canBeUndone
set_option maxRecDepth 20000 in
theorem ggX6_undo_X5_bars : GoodIn wsX6_undo wsX5_bars := goodIn_r _ [22, 23, 70, 71, 72, 73] (by decide +kernel) (by decide +kernel)
set_option maxRecDepth 20000 in
theorem gX6_undo_X5_bars : GoodIn wsX6_undo (wsV RX6 211 RX5 yX5_bars wsX5_bars) := goodIn_app (goodIn_of _ (by decide +kernel)) ggX6_undo_X5_bars
set_option maxRecDepth 20000 in
theorem ggX6_undo_X1_dropLast : GoodIn wsX6_undo wsX1_dropLast := goodIn_r _ [46, 47, 80, 81, 82, 83, 84] (by decide +kernel) (by decide +kernel)
set_option maxRecDepth 20000 in
theorem gX6_undo_X1_dropLast : GoodIn wsX6_undo (wsV RX6 217 RX1 yX1_dropLast wsX1_dropLast) := goodIn_app (goodIn_of _ (by decide +kernel)) ggX6_undo_X1_dropLast
set_option maxRecDepth 20000 in
theorem ggX6_undo_X6_bringBack : GoodIn wsX6_undo wsX6_bringBack := goodIn_r _ [51, 5, 52, 53, 6, 54, 55, 56, 27, 57, 29, 35, 25, 26, 28, 30, 36, 37, 38, 39, 40, 41, 63, 64, 65, 66, 67, 68, 69, 74, 75, 76, 77, 78, 79] (by decide +kernel) (by decide +kernel)
set_option maxRecDepth 20000 in
theorem gX6_undo_X6_bringBack : GoodIn wsX6_undo (wsV RX6 223 RX6 yX6_bringBack wsX6_bringBack) := goodIn_app (goodIn_of _ (by decide +kernel)) ggX6_undo_X6_bringBack
set_option maxRecDepth 20000 in
theorem ggX6_undo_X5_dropLast : GoodIn wsX6_undo wsX5_dropLast := goodIn_r _ [61, 62, 70, 71, 72, 73] (by decide +kernel) (by decide +kernel)
set_option maxRecDepth 20000 in
theorem gX6_undo_X5_dropLast : GoodIn wsX6_undo (wsV RX6 226 RX5 yX5_dropLast wsX5_dropLast) := goodIn_app (goodIn_of _ (by decide +kernel)) ggX6_undo_X5_dropLast
theorem dX6_undo_0 : decode cX6_undo 0 = .ok (.aload_n 0, 1) := by decide +kernel
theorem dX6_undo_1 : decode cX6_undo 1 = .ok (.getfield 26, 3) := by decide +kernel
theorem dX6_undo_4 : decode cX6_undo 4 = .ok (.getfield 202, 3) := by decide +kernel
theorem dX6_undo_7 : decode cX6_undo 7 = .ok (.iconst 1, 1) := by decide +kernel
theorem dX6_undo_8 : decode cX6_undo 8 = .ok (.isub, 1) := by decide +kernel
theorem dX6_undo_9 : decode cX6_undo 9 = .ok (.istore_n 1, 1) := by decide +kernel
theorem dX6_undo_10 : decode cX6_undo 10 = .ok (.iload_n 1, 1) := by decide +kernel
theorem dX6_undo_11 : decode cX6_undo 11 = .ok (.ifCond .ge 13, 3) := by decide +kernel
theorem dX6_undo_14 : decode cX6_undo 14 = .ok (.new 95, 3) := by decide +kernel
theorem dX6_undo_17 : decode cX6_undo 17 = .ok (.dup, 1) := by decide +kernel
theorem dX6_undo_18 : decode cX6_undo 18 = .ok (.ldc 203, 2) := by decide +kernel
theorem dX6_undo_20 : decode cX6_undo 20 = .ok (.invokespecial 99, 3) := by decide +kernel
theorem dX6_undo_23 : decode cX6_undo 23 = .ok (.athrow, 1) := by decide +kernel
theorem dX6_undo_24 : decode cX6_undo 24 = .ok (.aload_n 0, 1) := by decide +kernel
theorem dX6_undo_25 : decode cX6_undo 25 = .ok (.iload_n 1, 1) := by decide +kernel
theorem dX6_undo_26 : decode cX6_undo 26 = .ok (.invokevirtual 205, 3) := by decide +kernel
theorem dX6_undo_29 : decode cX6_undo 29 = .ok (.ifCond .ne 13, 3) := by decide +kernel
theorem dX6_undo_32 : decode cX6_undo 32 = .ok (.new 95, 3) := by decide +kernel
theorem dX6_undo_35 : decode cX6_undo 35 = .ok (.dup, 1) := by decide +kernel
theorem dX6_undo_36 : decode cX6_undo 36 = .ok (.ldc 209, 2) := by decide +kernel
theorem dX6_undo_38 : decode cX6_undo 38 = .ok (.invokespecial 99, 3) := by decide +kernel
theorem dX6_undo_41 : decode cX6_undo 41 = .ok (.athrow, 1) := by decide +kernel
theorem dX6_undo_42 : decode cX6_undo 42 = .ok (.iconst 0, 1) := by decide +kernel
theorem dX6_undo_43 : decode cX6_undo 43 = .ok (.istore_n 2, 1) := by decide +kernel
theorem dX6_undo_44 : decode cX6_undo 44 = .ok (.iload_n 2, 1) := by decide +kernel
theorem dX6_undo_45 : decode cX6_undo 45 = .ok (.aload_n 0, 1) := by decide +kernel
theorem dX6_undo_46 : decode cX6_undo 46 = .ok (.getfield 26, 3) := by decide +kernel
theorem dX6_undo_49 : decode cX6_undo 49 = .ok (.iload_n 1, 1) := by decide +kernel
theorem dX6_undo_50 : decode cX6_undo 50 = .ok (.invokevirtual 211, 3) := by decide +kernel
theorem dX6_undo_53 : decode cX6_undo 53 = .ok (.if_icmp .ge 29, 3) := by decide +kernel
theorem dX6_undo_56 : decode cX6_undo 56 = .ok (.aload_n 0, 1) := by decide +kernel
theorem dX6_undo_57 : decode cX6_undo 57 = .ok (.getfield 19, 3) := by decide +kernel
theorem dX6_undo_60 : decode cX6_undo 60 = .ok (.getfield 109, 3) := by decide +kernel
theorem dX6_undo_63 : decode cX6_undo 63 = .ok (.aload_n 0, 1) := by decide +kernel
theorem dX6_undo_64 : decode cX6_undo 64 = .ok (.getfield 26, 3) := by decide +kernel
theorem dX6_undo_67 : decode cX6_undo 67 = .ok (.getfield 214, 3) := by decide +kernel
theorem dX6_undo_70 : decode cX6_undo 70 = .ok (.iload_n 1, 1) := by decide +kernel
theorem dX6_undo_71 : decode cX6_undo 71 = .ok (.iaload, 1) := by decide +kernel
theorem dX6_undo_72 : decode cX6_undo 72 = .ok (.iload_n 2, 1) := by decide +kernel
theorem dX6_undo_73 : decode cX6_undo 73 = .ok (.iadd, 1) := by decide +kernel
theorem dX6_undo_74 : decode cX6_undo 74 = .ok (.iconst 1, 1) := by decide +kernel
theorem dX6_undo_75 : decode cX6_undo 75 = .ok (.bastore, 1) := by decide +kernel
theorem dX6_undo_76 : decode cX6_undo 76 = .ok (.iinc 2 1, 3) := by decide +kernel
theorem dX6_undo_79 : decode cX6_undo 79 = .ok (.goto (-35), 3) := by decide +kernel
theorem dX6_undo_82 : decode cX6_undo 82 = .ok (.aload_n 0, 1) := by decide +kernel
theorem dX6_undo_83 : decode cX6_undo 83 = .ok (.getfield 10, 3) := by decide +kernel
theorem dX6_undo_86 : decode cX6_undo 86 = .ok (.invokevirtual 217, 3) := by decide +kernel
theorem dX6_undo_89 : decode cX6_undo 89 = .ok (.aload_n 0, 1) := by decide +kernel
theorem dX6_undo_90 : decode cX6_undo 90 = .ok (.aload_n 0, 1) := by decide +kernel
theorem dX6_undo_91 : decode cX6_undo 91 = .ok (.getfield 26, 3) := by decide +kernel
theorem dX6_undo_94 : decode cX6_undo 94 = .ok (.getfield 220, 3) := by decide +kernel
theorem dX6_undo_97 : decode cX6_undo 97 = .ok (.iload_n 1, 1) := by decide +kernel
theorem dX6_undo_98 : decode cX6_undo 98 = .ok (.iaload, 1) := by decide +kernel
theorem dX6_undo_99 : decode cX6_undo 99 = .ok (.invokevirtual 223, 3) := by decide +kernel
theorem dX6_undo_102 : decode cX6_undo 102 = .ok (.aload_n 0, 1) := by decide +kernel
theorem dX6_undo_103 : decode cX6_undo 103 = .ok (.getfield 26, 3) := by decide +kernel
theorem dX6_undo_106 : decode cX6_undo 106 = .ok (.invokevirtual 226, 3) := by decide +kernel
theorem dX6_undo_109 : decode cX6_undo 109 = .ok (.aload_n 0, 1) := by decide +kernel
theorem dX6_undo_110 : decode cX6_undo 110 = .ok (.getfield 26, 3) := by decide +kernel
theorem dX6_undo_113 : decode cX6_undo 113 = .ok (.getfield 202, 3) := by decide +kernel
theorem dX6_undo_116 : decode cX6_undo 116 = .ok (.ireturn, 1) := by decide +kernel
set_option maxRecDepth 20000 in
theorem ggX6_stress_X6_requireMember : GoodIn wsX6_stress wsX6_requireMember := goodIn_ca (goodIn_r _ [9, 10, 11, 3, 12, 13, 14, 15, 16, 17, 18, 19, 20, 21, 22, 23, 24, 25, 26, 27, 28, 29, 30, 31] (by decide +kernel) (by decide +kernel)) (goodIn_sub (fun _ h => List.mem_cons_of_mem _ (List.mem_append_right _ h)) (by decide +kernel))
set_option maxRecDepth 20000 in
theorem gX6_stress_X6_requireMember : GoodIn wsX6_stress (wsV RX6 106 RX6 yX6_requireMember wsX6_requireMember) := goodIn_app (goodIn_of _ (by decide +kernel)) ggX6_stress_X6_requireMember
theorem dX6_stress_0 : decode cX6_stress 0 = .ok (.aload_n 0, 1) := by decide +kernel
theorem dX6_stress_1 : decode cX6_stress 1 = .ok (.iload_n 1, 1) := by decide +kernel
theorem dX6_stress_2 : decode cX6_stress 2 = .ok (.invokevirtual 106, 3) := by decide +kernel
theorem dX6_stress_5 : decode cX6_stress 5 = .ok (.iload_n 2, 1) := by decide +kernel
theorem dX6_stress_6 : decode cX6_stress 6 = .ok (.bipush (-99), 2) := by decide +kernel
theorem dX6_stress_8 : decode cX6_stress 8 = .ok (.if_icmp .lt 9, 3) := by decide +kernel
theorem dX6_stress_11 : decode cX6_stress 11 = .ok (.iload_n 2, 1) := by decide +kernel
theorem dX6_stress_12 : decode cX6_stress 12 = .ok (.bipush 99, 2) := by decide +kernel
theorem dX6_stress_14 : decode cX6_stress 14 = .ok (.if_icmp .le 13, 3) := by decide +kernel
theorem dX6_stress_17 : decode cX6_stress 17 = .ok (.new 84, 3) := by decide +kernel
theorem dX6_stress_20 : decode cX6_stress 20 = .ok (.dup, 1) := by decide +kernel
theorem dX6_stress_21 : decode cX6_stress 21 = .ok (.ldc 227, 2) := by decide +kernel
theorem dX6_stress_23 : decode cX6_stress 23 = .ok (.invokespecial 88, 3) := by decide +kernel
theorem dX6_stress_26 : decode cX6_stress 26 = .ok (.athrow, 1) := by decide +kernel
theorem dX6_stress_27 : decode cX6_stress 27 = .ok (.aload_n 0, 1) := by decide +kernel
theorem dX6_stress_28 : decode cX6_stress 28 = .ok (.getfield 19, 3) := by decide +kernel
theorem dX6_stress_31 : decode cX6_stress 31 = .ok (.getfield 229, 3) := by decide +kernel
theorem dX6_stress_34 : decode cX6_stress 34 = .ok (.iload_n 1, 1) := by decide +kernel
theorem dX6_stress_35 : decode cX6_stress 35 = .ok (.iaload, 1) := by decide +kernel
theorem dX6_stress_36 : decode cX6_stress 36 = .ok (.istore_n 3, 1) := by decide +kernel
theorem dX6_stress_37 : decode cX6_stress 37 = .ok (.aload_n 0, 1) := by decide +kernel
theorem dX6_stress_38 : decode cX6_stress 38 = .ok (.getfield 19, 3) := by decide +kernel
theorem dX6_stress_41 : decode cX6_stress 41 = .ok (.getfield 229, 3) := by decide +kernel
theorem dX6_stress_44 : decode cX6_stress 44 = .ok (.iload_n 1, 1) := by decide +kernel
theorem dX6_stress_45 : decode cX6_stress 45 = .ok (.iload_n 2, 1) := by decide +kernel
theorem dX6_stress_46 : decode cX6_stress 46 = .ok (.iastore, 1) := by decide +kernel
theorem dX6_stress_47 : decode cX6_stress 47 = .ok (.iload_n 3, 1) := by decide +kernel
theorem dX6_stress_48 : decode cX6_stress 48 = .ok (.ireturn, 1) := by decide +kernel
set_option maxRecDepth 20000 in
theorem ggX6_unbalanced_X6_isBalanced : GoodIn wsX6_unbalanced wsX6_isBalanced := goodIn_r _ [8, 9, 10, 11, 12, 13, 1, 14, 15, 16, 17, 18, 19, 20, 21, 22, 23, 24, 25, 26, 27, 28, 32, 33, 34, 35, 36, 37, 38, 44, 45, 46, 47, 48, 49, 39, 40, 41, 42, 43] (by decide +kernel) (by decide +kernel)
set_option maxRecDepth 20000 in
theorem gX6_unbalanced_X6_isBalanced : GoodIn wsX6_unbalanced (wsV RX6 232 RX6 yX6_isBalanced wsX6_isBalanced) := goodIn_app (goodIn_of _ (by decide +kernel)) ggX6_unbalanced_X6_isBalanced
set_option maxRecDepth 20000 in
theorem ggX6_unbalanced_X6_bit : GoodIn wsX6_unbalanced wsX6_bit := goodIn_r _ [31] (by decide +kernel) (by decide +kernel)
set_option maxRecDepth 20000 in
theorem gX6_unbalanced_X6_bit : GoodIn wsX6_unbalanced (va_wsS RX6 174 yX6_bit wsX6_bit) := goodIn_app (goodIn_of _ (by decide +kernel)) ggX6_unbalanced_X6_bit
theorem dX6_unbalanced_0 : decode cX6_unbalanced 0 = .ok (.iconst 0, 1) := by decide +kernel
theorem dX6_unbalanced_1 : decode cX6_unbalanced 1 = .ok (.istore_n 1, 1) := by decide +kernel
theorem dX6_unbalanced_2 : decode cX6_unbalanced 2 = .ok (.iconst 0, 1) := by decide +kernel
theorem dX6_unbalanced_3 : decode cX6_unbalanced 3 = .ok (.istore_n 2, 1) := by decide +kernel
theorem dX6_unbalanced_4 : decode cX6_unbalanced 4 = .ok (.iload_n 2, 1) := by decide +kernel
theorem dX6_unbalanced_5 : decode cX6_unbalanced 5 = .ok (.aload_n 0, 1) := by decide +kernel
theorem dX6_unbalanced_6 : decode cX6_unbalanced 6 = .ok (.getfield 10, 3) := by decide +kernel
theorem dX6_unbalanced_9 : decode cX6_unbalanced 9 = .ok (.getfield 155, 3) := by decide +kernel
theorem dX6_unbalanced_12 : decode cX6_unbalanced 12 = .ok (.if_icmp .ge 36, 3) := by decide +kernel
theorem dX6_unbalanced_15 : decode cX6_unbalanced 15 = .ok (.aload_n 0, 1) := by decide +kernel
theorem dX6_unbalanced_16 : decode cX6_unbalanced 16 = .ok (.getfield 10, 3) := by decide +kernel
