theorem dX7_clears_38 : decode cX7_clears 38 = .ok (.getfield 60, 3) := by decide +kernel
theorem dX7_clears_41 : decode cX7_clears 41 = .ok (.bipush 40, 2) := by decide +kernel
theorem dX7_clears_43 : decode cX7_clears 43 = .ok (.iload_n 1, 1) := by decide +kernel
theorem dX7_clears_44 : decode cX7_clears 44 = .ok (.imul, 1) := by decide +kernel
theorem dX7_clears_45 : decode cX7_clears 45 = .ok (.iload 6, 2) := by decide +kernel
theorem dX7_clears_47 : decode cX7_clears 47 = .ok (.iadd, 1) := by decide +kernel
theorem dX7_clears_48 : decode cX7_clears 48 = .ok (.laload, 1) := by decide +kernel
theorem dX7_clears_49 : decode cX7_clears 49 = .ok (.lload 4, 2) := by decide +kernel
theorem dX7_clears_51 : decode cX7_clears 51 = .ok (.lmul, 1) := by decide +kernel
theorem dX7_clears_52 : decode cX7_clears 52 = .ok (.ldc2_w 115, 3) := by decide +kernel
theorem dX7_clears_55 : decode cX7_clears 55 = .ok (.lrem, 1) := by decide +kernel
theorem dX7_clears_56 : decode cX7_clears 56 = .ok (.lastore, 1) := by decide +kernel
theorem dX7_clears_57 : decode cX7_clears 57 = .ok (.iinc 6 1, 3) := by decide +kernel
theorem dX7_clears_60 : decode cX7_clears 60 = .ok (.goto (-41), 3) := by decide +kernel
theorem dX7_clears_63 : decode cX7_clears 63 = .ok (.iconst 0, 1) := by decide +kernel
theorem dX7_clears_64 : decode cX7_clears 64 = .ok (.istore 6, 2) := by decide +kernel
theorem dX7_clears_66 : decode cX7_clears 66 = .ok (.iload 6, 2) := by decide +kernel
theorem dX7_clears_68 : decode cX7_clears 68 = .ok (.iload_n 3, 1) := by decide +kernel
theorem dX7_clears_69 : decode cX7_clears 69 = .ok (.if_icmp .ge 101, 3) := by decide +kernel
theorem dX7_clears_72 : decode cX7_clears 72 = .ok (.aload_n 0, 1) := by decide +kernel
theorem dX7_clears_73 : decode cX7_clears 73 = .ok (.getfield 60, 3) := by decide +kernel
theorem dX7_clears_76 : decode cX7_clears 76 = .ok (.bipush 40, 2) := by decide +kernel
theorem dX7_clears_78 : decode cX7_clears 78 = .ok (.iload 6, 2) := by decide +kernel
theorem dX7_clears_80 : decode cX7_clears 80 = .ok (.imul, 1) := by decide +kernel
theorem dX7_clears_81 : decode cX7_clears 81 = .ok (.iload_n 2, 1) := by decide +kernel
theorem dX7_clears_82 : decode cX7_clears 82 = .ok (.iadd, 1) := by decide +kernel
theorem dX7_clears_83 : decode cX7_clears 83 = .ok (.laload, 1) := by decide +kernel
theorem dX7_clears_84 : decode cX7_clears 84 = .ok (.lstore 7, 2) := by decide +kernel
theorem dX7_clears_86 : decode cX7_clears 86 = .ok (.iconst 0, 1) := by decide +kernel
theorem dX7_clears_87 : decode cX7_clears 87 = .ok (.istore 9, 2) := by decide +kernel
theorem dX7_clears_89 : decode cX7_clears 89 = .ok (.iload 9, 2) := by decide +kernel
theorem dX7_clears_91 : decode cX7_clears 91 = .ok (.bipush 40, 2) := by decide +kernel
theorem dX7_clears_93 : decode cX7_clears 93 = .ok (.if_icmp .ge 71, 3) := by decide +kernel
theorem dX7_clears_96 : decode cX7_clears 96 = .ok (.iload 6, 2) := by decide +kernel
theorem dX7_clears_98 : decode cX7_clears 98 = .ok (.iload_n 1, 1) := by decide +kernel
theorem dX7_clears_99 : decode cX7_clears 99 = .ok (.if_icmp .eq 65, 3) := by decide +kernel
theorem dX7_clears_102 : decode cX7_clears 102 = .ok (.lload 7, 2) := by decide +kernel
theorem dX7_clears_104 : decode cX7_clears 104 = .ok (.lconst 0, 1) := by decide +kernel
theorem dX7_clears_105 : decode cX7_clears 105 = .ok (.lcmp, 1) := by decide +kernel
theorem dX7_clears_106 : decode cX7_clears 106 = .ok (.ifCond .eq 58, 3) := by decide +kernel
theorem dX7_clears_109 : decode cX7_clears 109 = .ok (.aload_n 0, 1) := by decide +kernel
theorem dX7_clears_110 : decode cX7_clears 110 = .ok (.getfield 60, 3) := by decide +kernel
theorem dX7_clears_113 : decode cX7_clears 113 = .ok (.bipush 40, 2) := by decide +kernel
theorem dX7_clears_115 : decode cX7_clears 115 = .ok (.iload 6, 2) := by decide +kernel
theorem dX7_clears_117 : decode cX7_clears 117 = .ok (.imul, 1) := by decide +kernel
theorem dX7_clears_118 : decode cX7_clears 118 = .ok (.iload 9, 2) := by decide +kernel
theorem dX7_clears_120 : decode cX7_clears 120 = .ok (.iadd, 1) := by decide +kernel
theorem dX7_clears_121 : decode cX7_clears 121 = .ok (.aload_n 0, 1) := by decide +kernel
theorem dX7_clears_122 : decode cX7_clears 122 = .ok (.getfield 60, 3) := by decide +kernel
theorem dX7_clears_125 : decode cX7_clears 125 = .ok (.bipush 40, 2) := by decide +kernel
theorem dX7_clears_127 : decode cX7_clears 127 = .ok (.iload 6, 2) := by decide +kernel
theorem dX7_clears_129 : decode cX7_clears 129 = .ok (.imul, 1) := by decide +kernel
theorem dX7_clears_130 : decode cX7_clears 130 = .ok (.iload 9, 2) := by decide +kernel
theorem dX7_clears_132 : decode cX7_clears 132 = .ok (.iadd, 1) := by decide +kernel
theorem dX7_clears_133 : decode cX7_clears 133 = .ok (.laload, 1) := by decide +kernel
theorem dX7_clears_134 : decode cX7_clears 134 = .ok (.lload 7, 2) := by decide +kernel
theorem dX7_clears_136 : decode cX7_clears 136 = .ok (.aload_n 0, 1) := by decide +kernel
theorem dX7_clears_137 : decode cX7_clears 137 = .ok (.getfield 60, 3) := by decide +kernel
theorem dX7_clears_140 : decode cX7_clears 140 = .ok (.bipush 40, 2) := by decide +kernel
theorem dX7_clears_142 : decode cX7_clears 142 = .ok (.iload_n 1, 1) := by decide +kernel
theorem dX7_clears_143 : decode cX7_clears 143 = .ok (.imul, 1) := by decide +kernel
theorem dX7_clears_144 : decode cX7_clears 144 = .ok (.iload 9, 2) := by decide +kernel
theorem dX7_clears_146 : decode cX7_clears 146 = .ok (.iadd, 1) := by decide +kernel
theorem dX7_clears_147 : decode cX7_clears 147 = .ok (.laload, 1) := by decide +kernel
theorem dX7_clears_148 : decode cX7_clears 148 = .ok (.lmul, 1) := by decide +kernel
theorem dX7_clears_149 : decode cX7_clears 149 = .ok (.ldc2_w 115, 3) := by decide +kernel
theorem dX7_clears_152 : decode cX7_clears 152 = .ok (.lrem, 1) := by decide +kernel
theorem dX7_clears_153 : decode cX7_clears 153 = .ok (.lsub, 1) := by decide +kernel
theorem dX7_clears_154 : decode cX7_clears 154 = .ok (.invokestatic 124, 3) := by decide +kernel
theorem dX7_clears_157 : decode cX7_clears 157 = .ok (.lastore, 1) := by decide +kernel
theorem dX7_clears_158 : decode cX7_clears 158 = .ok (.iinc 9 1, 3) := by decide +kernel
theorem dX7_clears_161 : decode cX7_clears 161 = .ok (.goto (-72), 3) := by decide +kernel
theorem dX7_clears_164 : decode cX7_clears 164 = .ok (.iinc 6 1, 3) := by decide +kernel
theorem dX7_clears_167 : decode cX7_clears 167 = .ok (.goto (-101), 3) := by decide +kernel
theorem dX7_clears_170 : decode cX7_clears 170 = .ok (.return_, 1) := by decide +kernel
set_option maxRecDepth 20000 in
theorem ggX7_brings_X7_swaps : GoodIn wsX7_brings wsX7_swaps := goodIn_r _ [7, 1, 21, 22, 23, 24, 25, 26, 27, 28, 29, 30, 31, 32, 33, 34, 35, 36, 37, 38, 39, 40, 41, 42, 43, 44, 45] (by decide +kernel) (by decide +kernel)
set_option maxRecDepth 20000 in
theorem gX7_brings_X7_swaps : GoodIn wsX7_brings (wsV RX7 135 RX7 yX7_swaps wsX7_swaps) := goodIn_app (goodIn_of _ (by decide +kernel)) ggX7_brings_X7_swaps
set_option maxRecDepth 20000 in
theorem ggX7_brings_X7_clears : GoodIn wsX7_brings wsX7_clears := goodIn_r _ [11, 1, 12, 13, 14, 6, 15, 16, 17, 18, 19, 20, 21, 22, 23, 24, 25, 26, 27, 28, 29, 30, 31, 32, 33, 34, 35, 36, 37, 38, 39, 40, 41, 42, 43, 44, 45] (by decide +kernel) (by decide +kernel)
set_option maxRecDepth 20000 in
theorem gX7_brings_X7_clears : GoodIn wsX7_brings (wsV RX7 139 RX7 yX7_clears wsX7_clears) := goodIn_app (goodIn_of _ (by decide +kernel)) ggX7_brings_X7_clears
theorem dX7_brings_0 : decode cX7_brings 0 = .ok (.iconst 0, 1) := by decide +kernel
theorem dX7_brings_1 : decode cX7_brings 1 = .ok (.istore_n 3, 1) := by decide +kernel
theorem dX7_brings_2 : decode cX7_brings 2 = .ok (.iconst 0, 1) := by decide +kernel
theorem dX7_brings_3 : decode cX7_brings 3 = .ok (.istore 4, 2) := by decide +kernel
theorem dX7_brings_5 : decode cX7_brings 5 = .ok (.iload 4, 2) := by decide +kernel
theorem dX7_brings_7 : decode cX7_brings 7 = .ok (.iload_n 2, 1) := by decide +kernel
theorem dX7_brings_8 : decode cX7_brings 8 = .ok (.if_icmp .ge 98, 3) := by decide +kernel
theorem dX7_brings_11 : decode cX7_brings 11 = .ok (.iconst (-1), 1) := by decide +kernel
theorem dX7_brings_12 : decode cX7_brings 12 = .ok (.istore 5, 2) := by decide +kernel
theorem dX7_brings_14 : decode cX7_brings 14 = .ok (.iload_n 1, 1) := by decide +kernel
theorem dX7_brings_15 : decode cX7_brings 15 = .ok (.iconst 1, 1) := by decide +kernel
theorem dX7_brings_16 : decode cX7_brings 16 = .ok (.isub, 1) := by decide +kernel
theorem dX7_brings_17 : decode cX7_brings 17 = .ok (.istore 6, 2) := by decide +kernel
theorem dX7_brings_19 : decode cX7_brings 19 = .ok (.iload 6, 2) := by decide +kernel
theorem dX7_brings_21 : decode cX7_brings 21 = .ok (.iload_n 3, 1) := by decide +kernel
theorem dX7_brings_22 : decode cX7_brings 22 = .ok (.if_icmp .lt 36, 3) := by decide +kernel
theorem dX7_brings_25 : decode cX7_brings 25 = .ok (.aload_n 0, 1) := by decide +kernel
theorem dX7_brings_26 : decode cX7_brings 26 = .ok (.getfield 60, 3) := by decide +kernel
theorem dX7_brings_29 : decode cX7_brings 29 = .ok (.bipush 40, 2) := by decide +kernel
theorem dX7_brings_31 : decode cX7_brings 31 = .ok (.iload 6, 2) := by decide +kernel
theorem dX7_brings_33 : decode cX7_brings 33 = .ok (.imul, 1) := by decide +kernel
theorem dX7_brings_34 : decode cX7_brings 34 = .ok (.iload 4, 2) := by decide +kernel
theorem dX7_brings_36 : decode cX7_brings 36 = .ok (.iadd, 1) := by decide +kernel
theorem dX7_brings_37 : decode cX7_brings 37 = .ok (.laload, 1) := by decide +kernel
theorem dX7_brings_38 : decode cX7_brings 38 = .ok (.lconst 0, 1) := by decide +kernel
theorem dX7_brings_39 : decode cX7_brings 39 = .ok (.lcmp, 1) := by decide +kernel
theorem dX7_brings_40 : decode cX7_brings 40 = .ok (.ifCond .eq 8, 3) := by decide +kernel
theorem dX7_brings_43 : decode cX7_brings 43 = .ok (.iload 6, 2) := by decide +kernel
theorem dX7_brings_45 : decode cX7_brings 45 = .ok (.goto 5, 3) := by decide +kernel
theorem dX7_brings_48 : decode cX7_brings 48 = .ok (.iload 5, 2) := by decide +kernel
theorem dX7_brings_50 : decode cX7_brings 50 = .ok (.istore 5, 2) := by decide +kernel
theorem dX7_brings_52 : decode cX7_brings 52 = .ok (.iinc 6 (-1), 3) := by decide +kernel
theorem dX7_brings_55 : decode cX7_brings 55 = .ok (.goto (-36), 3) := by decide +kernel
theorem dX7_brings_58 : decode cX7_brings 58 = .ok (.aload_n 0, 1) := by decide +kernel
theorem dX7_brings_59 : decode cX7_brings 59 = .ok (.getfield 63, 3) := by decide +kernel
theorem dX7_brings_62 : decode cX7_brings 62 = .ok (.iload 4, 2) := by decide +kernel
theorem dX7_brings_64 : decode cX7_brings 64 = .ok (.iload 5, 2) := by decide +kernel
theorem dX7_brings_66 : decode cX7_brings 66 = .ok (.iconst (-1), 1) := by decide +kernel
theorem dX7_brings_67 : decode cX7_brings 67 = .ok (.if_icmp .ne 7, 3) := by decide +kernel
theorem dX7_brings_70 : decode cX7_brings 70 = .ok (.iconst (-1), 1) := by decide +kernel
theorem dX7_brings_71 : decode cX7_brings 71 = .ok (.goto 4, 3) := by decide +kernel
theorem dX7_brings_74 : decode cX7_brings 74 = .ok (.iload_n 3, 1) := by decide +kernel
theorem dX7_brings_75 : decode cX7_brings 75 = .ok (.iastore, 1) := by decide +kernel
theorem dX7_brings_76 : decode cX7_brings 76 = .ok (.iload 5, 2) := by decide +kernel
theorem dX7_brings_78 : decode cX7_brings 78 = .ok (.iconst (-1), 1) := by decide +kernel
theorem dX7_brings_79 : decode cX7_brings 79 = .ok (.if_icmp .eq 21, 3) := by decide +kernel
theorem dX7_brings_82 : decode cX7_brings 82 = .ok (.aload_n 0, 1) := by decide +kernel
theorem dX7_brings_83 : decode cX7_brings 83 = .ok (.iload 5, 2) := by decide +kernel
theorem dX7_brings_85 : decode cX7_brings 85 = .ok (.iload_n 3, 1) := by decide +kernel
theorem dX7_brings_86 : decode cX7_brings 86 = .ok (.invokevirtual 135, 3) := by decide +kernel
theorem dX7_brings_89 : decode cX7_brings 89 = .ok (.aload_n 0, 1) := by decide +kernel
theorem dX7_brings_90 : decode cX7_brings 90 = .ok (.iload_n 3, 1) := by decide +kernel
theorem dX7_brings_91 : decode cX7_brings 91 = .ok (.iload 4, 2) := by decide +kernel
theorem dX7_brings_93 : decode cX7_brings 93 = .ok (.iload_n 1, 1) := by decide +kernel
theorem dX7_brings_94 : decode cX7_brings 94 = .ok (.invokevirtual 139, 3) := by decide +kernel
theorem dX7_brings_97 : decode cX7_brings 97 = .ok (.iinc 3 1, 3) := by decide +kernel
theorem dX7_brings_100 : decode cX7_brings 100 = .ok (.iinc 4 1, 3) := by decide +kernel
theorem dX7_brings_103 : decode cX7_brings 103 = .ok (.goto (-98), 3) := by decide +kernel
theorem dX7_brings_106 : decode cX7_brings 106 = .ok (.iload_n 3, 1) := by decide +kernel
theorem dX7_brings_107 : decode cX7_brings 107 = .ok (.ireturn, 1) := by decide +kernel
set_option maxRecDepth 20000 in
theorem ggX7_rankOf_X7_laysJoints : GoodIn wsX7_rankOf wsX7_laysJoints := goodIn_r _ [6, 1, 7, 8, 9, 10, 11, 12, 13, 49, 50, 51, 52, 53, 54, 55, 56, 57, 58, 59, 60, 61, 62, 63, 64, 65, 66, 67, 68, 69, 70, 71, 72, 73] (by decide +kernel) (by decide +kernel)
set_option maxRecDepth 20000 in
theorem gX7_rankOf_X7_laysJoints : GoodIn wsX7_rankOf (wsV RX7 143 RX7 yX7_laysJoints wsX7_laysJoints) := goodIn_app (goodIn_of _ (by decide +kernel)) ggX7_rankOf_X7_laysJoints
set_option maxRecDepth 20000 in
theorem ggX7_rankOf_X7_laysMatrix : GoodIn wsX7_rankOf wsX7_laysMatrix := goodIn_r _ [17, 18, 19, 20, 8, 21, 22, 10, 23, 24, 25, 5, 26, 12, 27, 28, 29, 30, 49, 50, 51, 52, 53, 54, 55, 56, 57, 58, 59, 60, 61, 62, 63, 64, 65, 66, 67, 68, 69, 70, 71, 72, 73] (by decide +kernel) (by decide +kernel)
set_option maxRecDepth 20000 in
theorem gX7_rankOf_X7_laysMatrix : GoodIn wsX7_rankOf (wsV RX7 146 RX7 yX7_laysMatrix wsX7_laysMatrix) := goodIn_app (goodIn_of _ (by decide +kernel)) ggX7_rankOf_X7_laysMatrix
set_option maxRecDepth 20000 in
theorem ggX7_rankOf_X7_brings : GoodIn wsX7_rankOf wsX7_brings := goodIn_r _ [34, 18, 35, 36, 37, 38, 5, 39, 40, 41, 42, 43, 30, 44, 45, 46, 47, 48, 27, 28, 29, 49, 50, 51, 52, 53, 54, 55, 56, 57, 58, 59, 60, 61, 62, 63, 64, 65, 66, 67, 68, 69, 70, 71, 72, 73] (by decide +kernel) (by decide +kernel)
set_option maxRecDepth 20000 in
theorem gX7_rankOf_X7_brings : GoodIn wsX7_rankOf (wsV RX7 150 RX7 yX7_brings wsX7_brings) := goodIn_app (goodIn_of _ (by decide +kernel)) ggX7_rankOf_X7_brings
theorem dX7_rankOf_0 : decode cX7_rankOf 0 = .ok (.aload_n 0, 1) := by decide +kernel
theorem dX7_rankOf_1 : decode cX7_rankOf 1 = .ok (.invokevirtual 143, 3) := by decide +kernel
theorem dX7_rankOf_4 : decode cX7_rankOf 4 = .ok (.aload_n 0, 1) := by decide +kernel
theorem dX7_rankOf_5 : decode cX7_rankOf 5 = .ok (.iload_n 1, 1) := by decide +kernel
theorem dX7_rankOf_6 : decode cX7_rankOf 6 = .ok (.iconst 0, 1) := by decide +kernel
theorem dX7_rankOf_7 : decode cX7_rankOf 7 = .ok (.invokevirtual 146, 3) := by decide +kernel
theorem dX7_rankOf_10 : decode cX7_rankOf 10 = .ok (.istore_n 2, 1) := by decide +kernel
theorem dX7_rankOf_11 : decode cX7_rankOf 11 = .ok (.aload_n 0, 1) := by decide +kernel
theorem dX7_rankOf_12 : decode cX7_rankOf 12 = .ok (.iload_n 2, 1) := by decide +kernel
theorem dX7_rankOf_13 : decode cX7_rankOf 13 = .ok (.aload_n 0, 1) := by decide +kernel
theorem dX7_rankOf_14 : decode cX7_rankOf 14 = .ok (.getfield 121, 3) := by decide +kernel
theorem dX7_rankOf_17 : decode cX7_rankOf 17 = .ok (.invokevirtual 150, 3) := by decide +kernel
theorem dX7_rankOf_20 : decode cX7_rankOf 20 = .ok (.ireturn, 1) := by decide +kernel
theorem dX7_free_0 : decode cX7_free 0 = .ok (.iconst (-1), 1) := by decide +kernel
theorem dX7_free_1 : decode cX7_free 1 = .ok (.istore_n 3, 1) := by decide +kernel
theorem dX7_free_2 : decode cX7_free 2 = .ok (.iconst 0, 1) := by decide +kernel
theorem dX7_free_3 : decode cX7_free 3 = .ok (.istore 4, 2) := by decide +kernel
theorem dX7_free_5 : decode cX7_free 5 = .ok (.iconst 0, 1) := by decide +kernel
theorem dX7_free_6 : decode cX7_free 6 = .ok (.istore 5, 2) := by decide +kernel
theorem dX7_free_8 : decode cX7_free 8 = .ok (.iload 5, 2) := by decide +kernel
theorem dX7_free_10 : decode cX7_free 10 = .ok (.iload_n 2, 1) := by decide +kernel
theorem dX7_free_11 : decode cX7_free 11 = .ok (.if_icmp .ge 54, 3) := by decide +kernel
theorem dX7_free_14 : decode cX7_free 14 = .ok (.aload_n 0, 1) := by decide +kernel
theorem dX7_free_15 : decode cX7_free 15 = .ok (.getfield 63, 3) := by decide +kernel
theorem dX7_free_18 : decode cX7_free 18 = .ok (.iload 5, 2) := by decide +kernel
theorem dX7_free_20 : decode cX7_free 20 = .ok (.iaload, 1) := by decide +kernel
theorem dX7_free_21 : decode cX7_free 21 = .ok (.iconst (-1), 1) := by decide +kernel
theorem dX7_free_22 : decode cX7_free 22 = .ok (.if_icmp .ne 14, 3) := by decide +kernel
theorem dX7_free_25 : decode cX7_free 25 = .ok (.iload 4, 2) := by decide +kernel
theorem dX7_free_27 : decode cX7_free 27 = .ok (.iload_n 1, 1) := by decide +kernel
theorem dX7_free_28 : decode cX7_free 28 = .ok (.if_icmp .ne 8, 3) := by decide +kernel
theorem dX7_free_31 : decode cX7_free 31 = .ok (.iload 5, 2) := by decide +kernel
theorem dX7_free_33 : decode cX7_free 33 = .ok (.goto 4, 3) := by decide +kernel
theorem dX7_free_36 : decode cX7_free 36 = .ok (.iload_n 3, 1) := by decide +kernel
theorem dX7_free_37 : decode cX7_free 37 = .ok (.istore_n 3, 1) := by decide +kernel
theorem dX7_free_38 : decode cX7_free 38 = .ok (.iload 4, 2) := by decide +kernel
theorem dX7_free_40 : decode cX7_free 40 = .ok (.aload_n 0, 1) := by decide +kernel
theorem dX7_free_41 : decode cX7_free 41 = .ok (.getfield 63, 3) := by decide +kernel
theorem dX7_free_44 : decode cX7_free 44 = .ok (.iload 5, 2) := by decide +kernel
theorem dX7_free_46 : decode cX7_free 46 = .ok (.iaload, 1) := by decide +kernel
theorem dX7_free_47 : decode cX7_free 47 = .ok (.iconst (-1), 1) := by decide +kernel
theorem dX7_free_48 : decode cX7_free 48 = .ok (.if_icmp .ne 7, 3) := by decide +kernel
theorem dX7_free_51 : decode cX7_free 51 = .ok (.iconst 1, 1) := by decide +kernel
theorem dX7_free_52 : decode cX7_free 52 = .ok (.goto 4, 3) := by decide +kernel
theorem dX7_free_55 : decode cX7_free 55 = .ok (.iconst 0, 1) := by decide +kernel
theorem dX7_free_56 : decode cX7_free 56 = .ok (.iadd, 1) := by decide +kernel
theorem dX7_free_57 : decode cX7_free 57 = .ok (.istore 4, 2) := by decide +kernel
theorem dX7_free_59 : decode cX7_free 59 = .ok (.iinc 5 1, 3) := by decide +kernel
theorem dX7_free_62 : decode cX7_free 62 = .ok (.goto (-54), 3) := by decide +kernel
theorem dX7_free_65 : decode cX7_free 65 = .ok (.iload_n 3, 1) := by decide +kernel
theorem dX7_free_66 : decode cX7_free 66 = .ok (.ireturn, 1) := by decide +kernel
set_option maxRecDepth 20000 in
theorem ggX7_has_X7_within : GoodIn wsX7_has wsX7_within := goodIn_r _ [6, 7] (by decide +kernel) (by decide +kernel)
set_option maxRecDepth 20000 in
theorem gX7_has_X7_within : GoodIn wsX7_has (va_wsS RX7 124 yX7_within wsX7_within) := goodIn_app (goodIn_of _ (by decide +kernel)) ggX7_has_X7_within
theorem dX7_has_0 : decode cX7_has 0 = .ok (.aload_n 0, 1) := by decide +kernel
theorem dX7_has_1 : decode cX7_has 1 = .ok (.getfield 63, 3) := by decide +kernel
theorem dX7_has_4 : decode cX7_has 4 = .ok (.iload_n 2, 1) := by decide +kernel
theorem dX7_has_5 : decode cX7_has 5 = .ok (.iaload, 1) := by decide +kernel
theorem dX7_has_6 : decode cX7_has 6 = .ok (.iconst (-1), 1) := by decide +kernel
theorem dX7_has_7 : decode cX7_has 7 = .ok (.if_icmp .ne 14, 3) := by decide +kernel
theorem dX7_has_10 : decode cX7_has 10 = .ok (.iload_n 2, 1) := by decide +kernel
theorem dX7_has_11 : decode cX7_has 11 = .ok (.iload_n 1, 1) := by decide +kernel
theorem dX7_has_12 : decode cX7_has 12 = .ok (.if_icmp .ne 7, 3) := by decide +kernel
theorem dX7_has_15 : decode cX7_has 15 = .ok (.iconst 1, 1) := by decide +kernel
theorem dX7_has_16 : decode cX7_has 16 = .ok (.goto 4, 3) := by decide +kernel
theorem dX7_has_19 : decode cX7_has 19 = .ok (.iconst 0, 1) := by decide +kernel
theorem dX7_has_20 : decode cX7_has 20 = .ok (.ireturn, 1) := by decide +kernel
theorem dX7_has_21 : decode cX7_has 21 = .ok (.aload_n 0, 1) := by decide +kernel
theorem dX7_has_22 : decode cX7_has 22 = .ok (.getfield 60, 3) := by decide +kernel
theorem dX7_has_25 : decode cX7_has 25 = .ok (.bipush 40, 2) := by decide +kernel
theorem dX7_has_27 : decode cX7_has 27 = .ok (.aload_n 0, 1) := by decide +kernel
theorem dX7_has_28 : decode cX7_has 28 = .ok (.getfield 63, 3) := by decide +kernel
theorem dX7_has_31 : decode cX7_has 31 = .ok (.iload_n 2, 1) := by decide +kernel
theorem dX7_has_32 : decode cX7_has 32 = .ok (.iaload, 1) := by decide +kernel
theorem dX7_has_33 : decode cX7_has 33 = .ok (.imul, 1) := by decide +kernel
theorem dX7_has_34 : decode cX7_has 34 = .ok (.iload_n 1, 1) := by decide +kernel
theorem dX7_has_35 : decode cX7_has 35 = .ok (.iadd, 1) := by decide +kernel
theorem dX7_has_36 : decode cX7_has 36 = .ok (.laload, 1) := by decide +kernel
theorem dX7_has_37 : decode cX7_has 37 = .ok (.lneg, 1) := by decide +kernel
theorem dX7_has_38 : decode cX7_has 38 = .ok (.invokestatic 124, 3) := by decide +kernel
theorem dX7_has_41 : decode cX7_has 41 = .ok (.l2i, 1) := by decide +kernel
theorem dX7_has_42 : decode cX7_has 42 = .ok (.ireturn, 1) := by decide +kernel
set_option maxRecDepth 20000 in
theorem ggX7_rank_X7_rankOf : GoodIn wsX7_rank wsX7_rankOf := goodIn_r _ [6, 7, 8, 9, 10, 5, 11, 12, 13, 14, 15, 16, 17, 18, 19, 20, 21, 22, 23, 24, 25, 26, 27, 28, 29, 30, 31, 32, 33, 34, 35, 36, 37, 38, 39, 40, 41, 42, 43, 44, 45, 46, 47, 48, 49, 50, 51, 52, 53, 54, 55, 56, 57, 58, 59, 60, 61, 62, 63, 64, 65, 66, 67, 68, 69, 70, 71, 72, 73, 74, 75, 76, 77, 78] (by decide +kernel) (by decide +kernel)
set_option maxRecDepth 20000 in
theorem gX7_rank_X7_rankOf : GoodIn wsX7_rank (wsV RX7 153 RX7 yX7_rankOf wsX7_rankOf) := goodIn_app (goodIn_of _ (by decide +kernel)) ggX7_rank_X7_rankOf
theorem dX7_rank_0 : decode cX7_rank 0 = .ok (.aload_n 0, 1) := by decide +kernel
theorem dX7_rank_1 : decode cX7_rank 1 = .ok (.iconst 0, 1) := by decide +kernel
theorem dX7_rank_2 : decode cX7_rank 2 = .ok (.putfield 72, 3) := by decide +kernel
theorem dX7_rank_5 : decode cX7_rank 5 = .ok (.aload_n 0, 1) := by decide +kernel
theorem dX7_rank_6 : decode cX7_rank 6 = .ok (.iconst (-1), 1) := by decide +kernel
theorem dX7_rank_7 : decode cX7_rank 7 = .ok (.invokevirtual 153, 3) := by decide +kernel
theorem dX7_rank_10 : decode cX7_rank 10 = .ok (.ireturn, 1) := by decide +kernel
set_option maxRecDepth 20000 in
theorem ggX7_motions_X7_rankOf : GoodIn wsX7_motions wsX7_rankOf := goodIn_r _ [7, 2, 8, 9, 10, 6, 11, 12, 13, 14, 15, 16, 17, 18, 19, 20, 21, 22, 23, 24, 25, 26, 27, 28, 29, 30, 31, 32, 33, 34, 35, 36, 37, 38, 39, 40, 41, 42, 43, 44, 45, 46, 47, 48, 49, 50, 51, 52, 53, 54, 55, 56, 57, 58, 59, 60, 61, 62, 63, 64, 65, 66, 67, 68, 69, 70, 71, 72, 73, 74, 75, 76, 77, 78] (by decide +kernel) (by decide +kernel)
set_option maxRecDepth 20000 in
theorem gX7_motions_X7_rankOf : GoodIn wsX7_motions (wsV RX7 153 RX7 yX7_rankOf wsX7_rankOf) := goodIn_app (goodIn_of _ (by decide +kernel)) ggX7_motions_X7_rankOf
theorem dX7_motions_0 : decode cX7_motions 0 = .ok (.aload_n 0, 1) := by decide +kernel
theorem dX7_motions_1 : decode cX7_motions 1 = .ok (.iconst 0, 1) := by decide +kernel
theorem dX7_motions_2 : decode cX7_motions 2 = .ok (.putfield 72, 3) := by decide +kernel
theorem dX7_motions_5 : decode cX7_motions 5 = .ok (.aload_n 0, 1) := by decide +kernel
theorem dX7_motions_6 : decode cX7_motions 6 = .ok (.iconst (-1), 1) := by decide +kernel
theorem dX7_motions_7 : decode cX7_motions 7 = .ok (.invokevirtual 153, 3) := by decide +kernel
theorem dX7_motions_10 : decode cX7_motions 10 = .ok (.istore_n 1, 1) := by decide +kernel
theorem dX7_motions_11 : decode cX7_motions 11 = .ok (.aload_n 0, 1) := by decide +kernel
theorem dX7_motions_12 : decode cX7_motions 12 = .ok (.getfield 121, 3) := by decide +kernel
theorem dX7_motions_15 : decode cX7_motions 15 = .ok (.iload_n 1, 1) := by decide +kernel
theorem dX7_motions_16 : decode cX7_motions 16 = .ok (.isub, 1) := by decide +kernel
theorem dX7_motions_17 : decode cX7_motions 17 = .ok (.ireturn, 1) := by decide +kernel
set_option maxRecDepth 20000 in
theorem ggX7_stresses_X7_many : GoodIn wsX7_stresses wsX7_many := goodIn_r _ [6, 7, 8, 58, 59, 60, 61, 62, 63, 64, 65, 66, 67, 68, 69, 70, 71, 72, 73, 74, 75, 76, 77, 78, 79, 80, 81, 82] (by decide +kernel) (by decide +kernel)
set_option maxRecDepth 20000 in
theorem gX7_stresses_X7_many : GoodIn wsX7_stresses (wsV RX7 111 RX7 yX7_many wsX7_many) := goodIn_app (goodIn_of _ (by decide +kernel)) ggX7_stresses_X7_many
set_option maxRecDepth 20000 in
theorem ggX7_stresses_X7_rankOf : GoodIn wsX7_stresses wsX7_rankOf := goodIn_r _ [12, 13, 14, 15, 16, 5, 17, 18, 19, 20, 21, 22, 23, 24, 25, 26, 27, 28, 29, 7, 8, 30, 31, 32, 33, 34, 35, 36, 37, 38, 39, 40, 41, 42, 43, 44, 45, 46, 47, 48, 49, 50, 51, 52, 53, 54, 55, 56, 57, 58, 59, 60, 61, 62, 63, 64, 65, 66, 67, 68, 69, 70, 71, 72, 73, 74, 75, 76, 77, 78, 79, 80, 81, 82] (by decide +kernel) (by decide +kernel)
set_option maxRecDepth 20000 in
theorem gX7_stresses_X7_rankOf : GoodIn wsX7_stresses (wsV RX7 153 RX7 yX7_rankOf wsX7_rankOf) := goodIn_app (goodIn_of _ (by decide +kernel)) ggX7_stresses_X7_rankOf
theorem dX7_stresses_0 : decode cX7_stresses 0 = .ok (.aload_n 0, 1) := by decide +kernel
theorem dX7_stresses_1 : decode cX7_stresses 1 = .ok (.iconst 0, 1) := by decide +kernel
theorem dX7_stresses_2 : decode cX7_stresses 2 = .ok (.putfield 72, 3) := by decide +kernel
theorem dX7_stresses_5 : decode cX7_stresses 5 = .ok (.aload_n 0, 1) := by decide +kernel
theorem dX7_stresses_6 : decode cX7_stresses 6 = .ok (.invokevirtual 111, 3) := by decide +kernel
theorem dX7_stresses_9 : decode cX7_stresses 9 = .ok (.aload_n 0, 1) := by decide +kernel
theorem dX7_stresses_10 : decode cX7_stresses 10 = .ok (.iconst (-1), 1) := by decide +kernel
theorem dX7_stresses_11 : decode cX7_stresses 11 = .ok (.invokevirtual 153, 3) := by decide +kernel
theorem dX7_stresses_14 : decode cX7_stresses 14 = .ok (.isub, 1) := by decide +kernel
theorem dX7_stresses_15 : decode cX7_stresses 15 = .ok (.ireturn, 1) := by decide +kernel
set_option maxRecDepth 20000 in
theorem ggX7_isRedundant_X7_isMember : GoodIn wsX7_isRedundant wsX7_isMember := goodIn_r _ [5, 6, 7, 8, 9, 4, 10, 65, 66, 67, 68, 69, 70, 71, 72, 73, 74, 75, 76, 77, 78, 79, 80, 81, 82, 83, 84, 85, 86, 87, 88, 89] (by decide +kernel) (by decide +kernel)
set_option maxRecDepth 20000 in
theorem gX7_isRedundant_X7_isMember : GoodIn wsX7_isRedundant (wsV RX7 108 RX7 yX7_isMember wsX7_isMember) := goodIn_app (goodIn_of _ (by decide +kernel)) ggX7_isRedundant_X7_isMember
set_option maxRecDepth 20000 in
theorem ggX7_isRedundant_X7_holds : GoodIn wsX7_isRedundant wsX7_holds := goodIn_r _ [14, 15, 65, 66, 67, 68, 69, 70, 71, 72, 73, 74, 75, 76, 77, 78, 79, 80, 81, 82, 83, 84, 85, 86, 87, 88, 89] (by decide +kernel) (by decide +kernel)
set_option maxRecDepth 20000 in
theorem gX7_isRedundant_X7_holds : GoodIn wsX7_isRedundant (wsV RX7 90 RX7 yX7_holds wsX7_holds) := goodIn_app (goodIn_of _ (by decide +kernel)) ggX7_isRedundant_X7_holds
set_option maxRecDepth 20000 in
theorem ggX7_isRedundant_X7_rankOf : GoodIn wsX7_isRedundant wsX7_rankOf := goodIn_r _ [19, 20, 21, 22, 23, 4, 24, 25, 26, 27, 28, 29, 30, 31, 32, 33, 34, 35, 36, 6, 7, 37, 38, 39, 40, 41, 42, 43, 44, 45, 46, 47, 48, 49, 50, 51, 52, 53, 54, 55, 56, 57, 58, 59, 60, 61, 62, 63, 64, 65, 66, 67, 68, 69, 70, 71, 72, 73, 74, 75, 76, 77, 78, 79, 80, 81, 82, 83, 84, 85, 86, 87, 88, 89] (by decide +kernel) (by decide +kernel)
set_option maxRecDepth 20000 in
theorem gX7_isRedundant_X7_rankOf : GoodIn wsX7_isRedundant (wsV RX7 153 RX7 yX7_rankOf wsX7_rankOf) := goodIn_app (goodIn_of _ (by decide +kernel)) ggX7_isRedundant_X7_rankOf
theorem dX7_isRedundant_0 : decode cX7_isRedundant 0 = .ok (.aload_n 0, 1) := by decide +kernel
theorem dX7_isRedundant_1 : decode cX7_isRedundant 1 = .ok (.aload_n 0, 1) := by decide +kernel
theorem dX7_isRedundant_2 : decode cX7_isRedundant 2 = .ok (.iload_n 1, 1) := by decide +kernel
theorem dX7_isRedundant_3 : decode cX7_isRedundant 3 = .ok (.invokevirtual 108, 3) := by decide +kernel
theorem dX7_isRedundant_6 : decode cX7_isRedundant 6 = .ok (.ifCond .eq 7, 3) := by decide +kernel
theorem dX7_isRedundant_9 : decode cX7_isRedundant 9 = .ok (.iconst 0, 1) := by decide +kernel
theorem dX7_isRedundant_10 : decode cX7_isRedundant 10 = .ok (.goto 4, 3) := by decide +kernel
theorem dX7_isRedundant_13 : decode cX7_isRedundant 13 = .ok (.iconst 1, 1) := by decide +kernel
theorem dX7_isRedundant_14 : decode cX7_isRedundant 14 = .ok (.invokevirtual 90, 3) := by decide +kernel
theorem dX7_isRedundant_17 : decode cX7_isRedundant 17 = .ok (.ifCond .eq 20, 3) := by decide +kernel
theorem dX7_isRedundant_20 : decode cX7_isRedundant 20 = .ok (.aload_n 0, 1) := by decide +kernel
theorem dX7_isRedundant_21 : decode cX7_isRedundant 21 = .ok (.iconst (-1), 1) := by decide +kernel
theorem dX7_isRedundant_22 : decode cX7_isRedundant 22 = .ok (.invokevirtual 153, 3) := by decide +kernel
theorem dX7_isRedundant_25 : decode cX7_isRedundant 25 = .ok (.aload_n 0, 1) := by decide +kernel
theorem dX7_isRedundant_26 : decode cX7_isRedundant 26 = .ok (.iload_n 1, 1) := by decide +kernel
theorem dX7_isRedundant_27 : decode cX7_isRedundant 27 = .ok (.invokevirtual 153, 3) := by decide +kernel
theorem dX7_isRedundant_30 : decode cX7_isRedundant 30 = .ok (.if_icmp .ne 7, 3) := by decide +kernel
theorem dX7_isRedundant_33 : decode cX7_isRedundant 33 = .ok (.iconst 1, 1) := by decide +kernel
theorem dX7_isRedundant_34 : decode cX7_isRedundant 34 = .ok (.goto 4, 3) := by decide +kernel
theorem dX7_isRedundant_37 : decode cX7_isRedundant 37 = .ok (.iconst 0, 1) := by decide +kernel
theorem dX7_isRedundant_38 : decode cX7_isRedundant 38 = .ok (.ireturn, 1) := by decide +kernel
set_option maxRecDepth 20000 in
theorem ggX7_flex_X7_isJoint : GoodIn wsX7_flex wsX7_isJoint := goodIn_r _ [7, 8, 9, 10, 6, 11, 73, 74, 75, 76, 77, 78, 79, 80, 81, 82, 83, 84, 85, 86, 87, 88, 89, 90, 91, 92, 93, 94, 95, 96, 97] (by decide +kernel) (by decide +kernel)
set_option maxRecDepth 20000 in
theorem gX7_flex_X7_isJoint : GoodIn wsX7_flex (wsV RX7 98 RX7 yX7_isJoint wsX7_isJoint) := goodIn_app (goodIn_of _ (by decide +kernel)) ggX7_flex_X7_isJoint
set_option maxRecDepth 20000 in
theorem ggX7_flex_X7_holds : GoodIn wsX7_flex wsX7_holds := goodIn_r _ [15, 16, 73, 74, 75, 76, 77, 78, 79, 80, 81, 82, 83, 84, 85, 86, 87, 88, 89, 90, 91, 92, 93, 94, 95, 96, 97] (by decide +kernel) (by decide +kernel)
set_option maxRecDepth 20000 in
theorem gX7_flex_X7_holds : GoodIn wsX7_flex (wsV RX7 90 RX7 yX7_holds wsX7_holds) := goodIn_app (goodIn_of _ (by decide +kernel)) ggX7_flex_X7_holds
set_option maxRecDepth 20000 in
theorem ggX7_flex_X7_rankOf : GoodIn wsX7_flex wsX7_rankOf := goodIn_r _ [20, 1, 21, 22, 23, 6, 24, 8, 25, 26, 27, 28, 2, 29, 30, 31, 32, 33, 34, 35, 36, 37, 38, 39, 40, 41, 42, 43, 44, 45, 46, 47, 48, 49, 50, 51, 52, 53, 54, 55, 56, 57, 58, 59, 60, 61, 62, 63, 64, 73, 74, 75, 76, 77, 78, 79, 80, 81, 82, 83, 84, 85, 86, 87, 88, 89, 90, 91, 92, 93, 94, 95, 96, 97] (by decide +kernel) (by decide +kernel)
set_option maxRecDepth 20000 in
theorem gX7_flex_X7_rankOf : GoodIn wsX7_flex (wsV RX7 153 RX7 yX7_rankOf wsX7_rankOf) := goodIn_app (goodIn_of _ (by decide +kernel)) ggX7_flex_X7_rankOf
set_option maxRecDepth 20000 in
theorem ggX7_flex_X7_free : GoodIn wsX7_flex wsX7_free := goodIn_r _ [68, 51, 73, 74, 75, 76, 77, 78, 79, 80, 81, 82, 83, 84, 85, 86, 87, 88, 89, 90, 91, 92, 93, 94, 95, 96, 97] (by decide +kernel) (by decide +kernel)
set_option maxRecDepth 20000 in
theorem gX7_flex_X7_free : GoodIn wsX7_flex (wsV RX7 157 RX7 yX7_free wsX7_free) := goodIn_app (goodIn_of _ (by decide +kernel)) ggX7_flex_X7_free
set_option maxRecDepth 20000 in
theorem ggX7_flex_X7_has : GoodIn wsX7_flex wsX7_has := goodIn_r _ [72, 51, 34, 43, 44, 6, 45, 46, 73, 74, 75, 76, 77, 78, 79, 80, 81, 82, 83, 84, 85, 86, 87, 88, 89, 90, 91, 92, 93, 94, 95, 96, 97] (by decide +kernel) (by decide +kernel)
set_option maxRecDepth 20000 in
theorem gX7_flex_X7_has : GoodIn wsX7_flex (wsV RX7 160 RX7 yX7_has wsX7_has) := goodIn_app (goodIn_of _ (by decide +kernel)) ggX7_flex_X7_has
theorem dX7_flex_0 : decode cX7_flex 0 = .ok (.aload_n 0, 1) := by decide +kernel
theorem dX7_flex_1 : decode cX7_flex 1 = .ok (.aload_n 0, 1) := by decide +kernel
theorem dX7_flex_2 : decode cX7_flex 2 = .ok (.iload_n 2, 1) := by decide +kernel
theorem dX7_flex_3 : decode cX7_flex 3 = .ok (.invokevirtual 98, 3) := by decide +kernel
theorem dX7_flex_6 : decode cX7_flex 6 = .ok (.ifCond .eq 11, 3) := by decide +kernel
theorem dX7_flex_9 : decode cX7_flex 9 = .ok (.iload_n 1, 1) := by decide +kernel
theorem dX7_flex_10 : decode cX7_flex 10 = .ok (.ifCond .lt 7, 3) := by decide +kernel
theorem dX7_flex_13 : decode cX7_flex 13 = .ok (.iconst 0, 1) := by decide +kernel
theorem dX7_flex_14 : decode cX7_flex 14 = .ok (.goto 4, 3) := by decide +kernel
theorem dX7_flex_17 : decode cX7_flex 17 = .ok (.iconst 1, 1) := by decide +kernel
theorem dX7_flex_18 : decode cX7_flex 18 = .ok (.invokevirtual 90, 3) := by decide +kernel
theorem dX7_flex_21 : decode cX7_flex 21 = .ok (.ifCond .ne 5, 3) := by decide +kernel
theorem dX7_flex_24 : decode cX7_flex 24 = .ok (.iconst 0, 1) := by decide +kernel
theorem dX7_flex_25 : decode cX7_flex 25 = .ok (.ireturn, 1) := by decide +kernel
theorem dX7_flex_26 : decode cX7_flex 26 = .ok (.aload_n 0, 1) := by decide +kernel
theorem dX7_flex_27 : decode cX7_flex 27 = .ok (.iconst (-1), 1) := by decide +kernel
theorem dX7_flex_28 : decode cX7_flex 28 = .ok (.invokevirtual 153, 3) := by decide +kernel
theorem dX7_flex_31 : decode cX7_flex 31 = .ok (.istore 4, 2) := by decide +kernel
theorem dX7_flex_33 : decode cX7_flex 33 = .ok (.iload_n 1, 1) := by decide +kernel
theorem dX7_flex_34 : decode cX7_flex 34 = .ok (.aload_n 0, 1) := by decide +kernel
theorem dX7_flex_35 : decode cX7_flex 35 = .ok (.getfield 121, 3) := by decide +kernel
theorem dX7_flex_38 : decode cX7_flex 38 = .ok (.iload 4, 2) := by decide +kernel
theorem dX7_flex_40 : decode cX7_flex 40 = .ok (.isub, 1) := by decide +kernel
theorem dX7_flex_41 : decode cX7_flex 41 = .ok (.if_icmp .lt 5, 3) := by decide +kernel
theorem dX7_flex_44 : decode cX7_flex 44 = .ok (.iconst (-1), 1) := by decide +kernel
theorem dX7_flex_45 : decode cX7_flex 45 = .ok (.ireturn, 1) := by decide +kernel
theorem dX7_flex_46 : decode cX7_flex 46 = .ok (.aload_n 0, 1) := by decide +kernel
theorem dX7_flex_47 : decode cX7_flex 47 = .ok (.getfield 57, 3) := by decide +kernel
theorem dX7_flex_50 : decode cX7_flex 50 = .ok (.iload_n 2, 1) := by decide +kernel
theorem dX7_flex_51 : decode cX7_flex 51 = .ok (.iaload, 1) := by decide +kernel
theorem dX7_flex_52 : decode cX7_flex 52 = .ok (.iconst (-1), 1) := by decide +kernel
theorem dX7_flex_53 : decode cX7_flex 53 = .ok (.if_icmp .ne 7, 3) := by decide +kernel
theorem dX7_flex_56 : decode cX7_flex 56 = .ok (.iconst 0, 1) := by decide +kernel
theorem dX7_flex_57 : decode cX7_flex 57 = .ok (.goto 32, 3) := by decide +kernel
theorem dX7_flex_60 : decode cX7_flex 60 = .ok (.aload_n 0, 1) := by decide +kernel
theorem dX7_flex_61 : decode cX7_flex 61 = .ok (.aload_n 0, 1) := by decide +kernel
theorem dX7_flex_62 : decode cX7_flex 62 = .ok (.iload_n 1, 1) := by decide +kernel
theorem dX7_flex_63 : decode cX7_flex 63 = .ok (.aload_n 0, 1) := by decide +kernel
theorem dX7_flex_64 : decode cX7_flex 64 = .ok (.getfield 121, 3) := by decide +kernel
theorem dX7_flex_67 : decode cX7_flex 67 = .ok (.invokevirtual 157, 3) := by decide +kernel
theorem dX7_flex_70 : decode cX7_flex 70 = .ok (.aload_n 0, 1) := by decide +kernel
theorem dX7_flex_71 : decode cX7_flex 71 = .ok (.getfield 57, 3) := by decide +kernel
theorem dX7_flex_74 : decode cX7_flex 74 = .ok (.iload_n 2, 1) := by decide +kernel
theorem dX7_flex_75 : decode cX7_flex 75 = .ok (.iaload, 1) := by decide +kernel
theorem dX7_flex_76 : decode cX7_flex 76 = .ok (.iload_n 3, 1) := by decide +kernel
theorem dX7_flex_77 : decode cX7_flex 77 = .ok (.ifCond .eq 7, 3) := by decide +kernel
theorem dX7_flex_80 : decode cX7_flex 80 = .ok (.iconst 1, 1) := by decide +kernel
theorem dX7_flex_81 : decode cX7_flex 81 = .ok (.goto 4, 3) := by decide +kernel
theorem dX7_flex_84 : decode cX7_flex 84 = .ok (.iconst 0, 1) := by decide +kernel
theorem dX7_flex_85 : decode cX7_flex 85 = .ok (.iadd, 1) := by decide +kernel
theorem dX7_flex_86 : decode cX7_flex 86 = .ok (.invokevirtual 160, 3) := by decide +kernel
theorem dX7_flex_89 : decode cX7_flex 89 = .ok (.ireturn, 1) := by decide +kernel
set_option maxRecDepth 20000 in
theorem ggX7_balance_X7_isMember : GoodIn wsX7_balance wsX7_isMember := goodIn_r _ [7, 8, 2, 9, 10, 6, 11, 69, 70, 71, 72, 73, 74, 75, 76, 77, 78, 79, 80, 81, 82, 83, 84, 85, 86, 87, 88, 89, 90, 91, 92, 93] (by decide +kernel) (by decide +kernel)
set_option maxRecDepth 20000 in
theorem gX7_balance_X7_isMember : GoodIn wsX7_balance (wsV RX7 108 RX7 yX7_isMember wsX7_isMember) := goodIn_app (goodIn_of _ (by decide +kernel)) ggX7_balance_X7_isMember
set_option maxRecDepth 20000 in
theorem ggX7_balance_X7_holds : GoodIn wsX7_balance wsX7_holds := goodIn_r _ [15, 16, 69, 70, 71, 72, 73, 74, 75, 76, 77, 78, 79, 80, 81, 82, 83, 84, 85, 86, 87, 88, 89, 90, 91, 92, 93] (by decide +kernel) (by decide +kernel)
set_option maxRecDepth 20000 in
theorem gX7_balance_X7_holds : GoodIn wsX7_balance (wsV RX7 90 RX7 yX7_holds wsX7_holds) := goodIn_app (goodIn_of _ (by decide +kernel)) ggX7_balance_X7_holds
set_option maxRecDepth 20000 in
theorem ggX7_balance_X7_laysJoints : GoodIn wsX7_balance wsX7_laysJoints := goodIn_r _ [20, 1, 21, 22, 23, 24, 25, 26, 27, 69, 70, 71, 72, 73, 74, 75, 76, 77, 78, 79, 80, 81, 82, 83, 84, 85, 86, 87, 88, 89, 90, 91, 92, 93] (by decide +kernel) (by decide +kernel)
set_option maxRecDepth 20000 in
theorem gX7_balance_X7_laysJoints : GoodIn wsX7_balance (wsV RX7 143 RX7 yX7_laysJoints wsX7_laysJoints) := goodIn_app (goodIn_of _ (by decide +kernel)) ggX7_balance_X7_laysJoints
set_option maxRecDepth 20000 in
theorem ggX7_balance_X7_laysMatrix : GoodIn wsX7_balance wsX7_laysMatrix := goodIn_r _ [31, 32, 8, 2, 22, 33, 34, 24, 35, 36, 37, 6, 38, 26, 39, 40, 41, 42, 69, 70, 71, 72, 73, 74, 75, 76, 77, 78, 79, 80, 81, 82, 83, 84, 85, 86, 87, 88, 89, 90, 91, 92, 93] (by decide +kernel) (by decide +kernel)
set_option maxRecDepth 20000 in
theorem gX7_balance_X7_laysMatrix : GoodIn wsX7_balance (wsV RX7 146 RX7 yX7_laysMatrix wsX7_laysMatrix) := goodIn_app (goodIn_of _ (by decide +kernel)) ggX7_balance_X7_laysMatrix
set_option maxRecDepth 20000 in
theorem ggX7_balance_X7_brings : GoodIn wsX7_balance wsX7_brings := goodIn_r _ [46, 32, 47, 48, 49, 50, 6, 51, 52, 53, 54, 55, 42, 56, 57, 58, 59, 60, 39, 40, 41, 69, 70, 71, 72, 73, 74, 75, 76, 77, 78, 79, 80, 81, 82, 83, 84, 85, 86, 87, 88, 89, 90, 91, 92, 93] (by decide +kernel) (by decide +kernel)
set_option maxRecDepth 20000 in
theorem gX7_balance_X7_brings : GoodIn wsX7_balance (wsV RX7 150 RX7 yX7_brings wsX7_brings) := goodIn_app (goodIn_of _ (by decide +kernel)) ggX7_balance_X7_brings
set_option maxRecDepth 20000 in
theorem ggX7_balance_X7_free : GoodIn wsX7_balance wsX7_free := goodIn_r _ [64, 47, 69, 70, 71, 72, 73, 74, 75, 76, 77, 78, 79, 80, 81, 82, 83, 84, 85, 86, 87, 88, 89, 90, 91, 92, 93] (by decide +kernel) (by decide +kernel)
set_option maxRecDepth 20000 in
theorem gX7_balance_X7_free : GoodIn wsX7_balance (wsV RX7 157 RX7 yX7_free wsX7_free) := goodIn_app (goodIn_of _ (by decide +kernel)) ggX7_balance_X7_free
set_option maxRecDepth 20000 in
theorem ggX7_balance_X7_has : GoodIn wsX7_balance wsX7_has := goodIn_r _ [68, 47, 32, 39, 40, 6, 41, 42, 69, 70, 71, 72, 73, 74, 75, 76, 77, 78, 79, 80, 81, 82, 83, 84, 85, 86, 87, 88, 89, 90, 91, 92, 93] (by decide +kernel) (by decide +kernel)
set_option maxRecDepth 20000 in
theorem gX7_balance_X7_has : GoodIn wsX7_balance (wsV RX7 160 RX7 yX7_has wsX7_has) := goodIn_app (goodIn_of _ (by decide +kernel)) ggX7_balance_X7_has
theorem dX7_balance_0 : decode cX7_balance 0 = .ok (.aload_n 0, 1) := by decide +kernel
theorem dX7_balance_1 : decode cX7_balance 1 = .ok (.aload_n 0, 1) := by decide +kernel
theorem dX7_balance_2 : decode cX7_balance 2 = .ok (.iload_n 2, 1) := by decide +kernel
theorem dX7_balance_3 : decode cX7_balance 3 = .ok (.invokevirtual 108, 3) := by decide +kernel
theorem dX7_balance_6 : decode cX7_balance 6 = .ok (.ifCond .eq 11, 3) := by decide +kernel
theorem dX7_balance_9 : decode cX7_balance 9 = .ok (.iload_n 1, 1) := by decide +kernel
theorem dX7_balance_10 : decode cX7_balance 10 = .ok (.ifCond .lt 7, 3) := by decide +kernel
theorem dX7_balance_13 : decode cX7_balance 13 = .ok (.iconst 0, 1) := by decide +kernel
theorem dX7_balance_14 : decode cX7_balance 14 = .ok (.goto 4, 3) := by decide +kernel
theorem dX7_balance_17 : decode cX7_balance 17 = .ok (.iconst 1, 1) := by decide +kernel
theorem dX7_balance_18 : decode cX7_balance 18 = .ok (.invokevirtual 90, 3) := by decide +kernel
theorem dX7_balance_21 : decode cX7_balance 21 = .ok (.ifCond .ne 5, 3) := by decide +kernel
theorem dX7_balance_24 : decode cX7_balance 24 = .ok (.iconst 0, 1) := by decide +kernel
theorem dX7_balance_25 : decode cX7_balance 25 = .ok (.ireturn, 1) := by decide +kernel
theorem dX7_balance_26 : decode cX7_balance 26 = .ok (.aload_n 0, 1) := by decide +kernel
theorem dX7_balance_27 : decode cX7_balance 27 = .ok (.invokevirtual 143, 3) := by decide +kernel
theorem dX7_balance_30 : decode cX7_balance 30 = .ok (.aload_n 0, 1) := by decide +kernel
theorem dX7_balance_31 : decode cX7_balance 31 = .ok (.iconst (-1), 1) := by decide +kernel
theorem dX7_balance_32 : decode cX7_balance 32 = .ok (.iconst 1, 1) := by decide +kernel
theorem dX7_balance_33 : decode cX7_balance 33 = .ok (.invokevirtual 146, 3) := by decide +kernel
theorem dX7_balance_36 : decode cX7_balance 36 = .ok (.istore_n 3, 1) := by decide +kernel
theorem dX7_balance_37 : decode cX7_balance 37 = .ok (.aload_n 0, 1) := by decide +kernel
theorem dX7_balance_38 : decode cX7_balance 38 = .ok (.aload_n 0, 1) := by decide +kernel
theorem dX7_balance_39 : decode cX7_balance 39 = .ok (.getfield 121, 3) := by decide +kernel
theorem dX7_balance_42 : decode cX7_balance 42 = .ok (.iload_n 3, 1) := by decide +kernel
theorem dX7_balance_43 : decode cX7_balance 43 = .ok (.invokevirtual 150, 3) := by decide +kernel
theorem dX7_balance_46 : decode cX7_balance 46 = .ok (.istore 4, 2) := by decide +kernel
theorem dX7_balance_48 : decode cX7_balance 48 = .ok (.iload_n 1, 1) := by decide +kernel
theorem dX7_balance_49 : decode cX7_balance 49 = .ok (.iload_n 3, 1) := by decide +kernel
theorem dX7_balance_50 : decode cX7_balance 50 = .ok (.iload 4, 2) := by decide +kernel
theorem dX7_balance_52 : decode cX7_balance 52 = .ok (.isub, 1) := by decide +kernel
theorem dX7_balance_53 : decode cX7_balance 53 = .ok (.if_icmp .lt 5, 3) := by decide +kernel
theorem dX7_balance_56 : decode cX7_balance 56 = .ok (.iconst (-1), 1) := by decide +kernel
theorem dX7_balance_57 : decode cX7_balance 57 = .ok (.ireturn, 1) := by decide +kernel
theorem dX7_balance_58 : decode cX7_balance 58 = .ok (.iconst 0, 1) := by decide +kernel
theorem dX7_balance_59 : decode cX7_balance 59 = .ok (.istore 5, 2) := by decide +kernel
theorem dX7_balance_61 : decode cX7_balance 61 = .ok (.iconst 0, 1) := by decide +kernel
theorem dX7_balance_62 : decode cX7_balance 62 = .ok (.istore 6, 2) := by decide +kernel
theorem dX7_balance_64 : decode cX7_balance 64 = .ok (.iload 6, 2) := by decide +kernel
theorem dX7_balance_66 : decode cX7_balance 66 = .ok (.iload_n 2, 1) := by decide +kernel
theorem dX7_balance_67 : decode cX7_balance 67 = .ok (.if_icmp .ge 29, 3) := by decide +kernel
theorem dX7_balance_70 : decode cX7_balance 70 = .ok (.iload 5, 2) := by decide +kernel
theorem dX7_balance_72 : decode cX7_balance 72 = .ok (.aload_n 0, 1) := by decide +kernel
theorem dX7_balance_73 : decode cX7_balance 73 = .ok (.getfield 35, 3) := by decide +kernel
theorem dX7_balance_76 : decode cX7_balance 76 = .ok (.iload 6, 2) := by decide +kernel
theorem dX7_balance_78 : decode cX7_balance 78 = .ok (.baload, 1) := by decide +kernel
theorem dX7_balance_79 : decode cX7_balance 79 = .ok (.ifCond .eq 7, 3) := by decide +kernel
theorem dX7_balance_82 : decode cX7_balance 82 = .ok (.iconst 0, 1) := by decide +kernel
theorem dX7_balance_83 : decode cX7_balance 83 = .ok (.goto 4, 3) := by decide +kernel
theorem dX7_balance_86 : decode cX7_balance 86 = .ok (.iconst 1, 1) := by decide +kernel
theorem dX7_balance_87 : decode cX7_balance 87 = .ok (.iadd, 1) := by decide +kernel
theorem dX7_balance_88 : decode cX7_balance 88 = .ok (.istore 5, 2) := by decide +kernel
theorem dX7_balance_90 : decode cX7_balance 90 = .ok (.iinc 6 1, 3) := by decide +kernel
theorem dX7_balance_93 : decode cX7_balance 93 = .ok (.goto (-29), 3) := by decide +kernel
theorem dX7_balance_96 : decode cX7_balance 96 = .ok (.aload_n 0, 1) := by decide +kernel
theorem dX7_balance_97 : decode cX7_balance 97 = .ok (.aload_n 0, 1) := by decide +kernel
theorem dX7_balance_98 : decode cX7_balance 98 = .ok (.iload_n 1, 1) := by decide +kernel
theorem dX7_balance_99 : decode cX7_balance 99 = .ok (.iload_n 3, 1) := by decide +kernel
theorem dX7_balance_100 : decode cX7_balance 100 = .ok (.invokevirtual 157, 3) := by decide +kernel
theorem dX7_balance_103 : decode cX7_balance 103 = .ok (.iload 5, 2) := by decide +kernel
theorem dX7_balance_105 : decode cX7_balance 105 = .ok (.invokevirtual 160, 3) := by decide +kernel
theorem dX7_balance_108 : decode cX7_balance 108 = .ok (.ireturn, 1) := by decide +kernel
set_option maxRecDepth 20000 in
theorem ggX7_rankAt_X7_isIn : GoodIn wsX7_rankAt wsX7_isIn := goodIn_r _ [13] (by decide +kernel) (by decide +kernel)
set_option maxRecDepth 20000 in
theorem gX7_rankAt_X7_isIn : GoodIn wsX7_rankAt (va_wsS RX7 79 yX7_isIn wsX7_isIn) := goodIn_app (goodIn_of _ (by decide +kernel)) ggX7_rankAt_X7_isIn
set_option maxRecDepth 20000 in
theorem ggX7_rankAt_X7_holds : GoodIn wsX7_rankAt wsX7_holds := goodIn_r _ [17, 18, 53, 54, 55, 56, 57, 58, 59, 60, 61, 62, 63, 64, 65, 66, 67, 68, 69, 70, 71, 72, 73, 74, 75, 76, 77] (by decide +kernel) (by decide +kernel)
set_option maxRecDepth 20000 in
theorem gX7_rankAt_X7_holds : GoodIn wsX7_rankAt (wsV RX7 90 RX7 yX7_holds wsX7_holds) := goodIn_app (goodIn_of _ (by decide +kernel)) ggX7_rankAt_X7_holds
set_option maxRecDepth 20000 in
theorem ggX7_rankAt_X7_laysMatrix : GoodIn wsX7_rankAt wsX7_laysMatrix := goodIn_r _ [22, 23, 24, 25, 6, 26, 27, 7, 28, 29, 30, 12, 31, 8, 32, 33, 34, 5, 53, 54, 55, 56, 57, 58, 59, 60, 61, 62, 63, 64, 65, 66, 67, 68, 69, 70, 71, 72, 73, 74, 75, 76, 77] (by decide +kernel) (by decide +kernel)
set_option maxRecDepth 20000 in
theorem gX7_rankAt_X7_laysMatrix : GoodIn wsX7_rankAt (wsV RX7 146 RX7 yX7_laysMatrix wsX7_laysMatrix) := goodIn_app (goodIn_of _ (by decide +kernel)) ggX7_rankAt_X7_laysMatrix
set_option maxRecDepth 20000 in
theorem ggX7_rankAt_X7_brings : GoodIn wsX7_rankAt wsX7_brings := goodIn_r _ [38, 23, 39, 40, 41, 42, 12, 43, 44, 45, 46, 47, 5, 48, 49, 50, 51, 52, 32, 33, 34, 53, 54, 55, 56, 57, 58, 59, 60, 61, 62, 63, 64, 65, 66, 67, 68, 69, 70, 71, 72, 73, 74, 75, 76, 77] (by decide +kernel) (by decide +kernel)
set_option maxRecDepth 20000 in
theorem gX7_rankAt_X7_brings : GoodIn wsX7_rankAt (wsV RX7 150 RX7 yX7_brings wsX7_brings) := goodIn_app (goodIn_of _ (by decide +kernel)) ggX7_rankAt_X7_brings
theorem dX7_rankAt_0 : decode cX7_rankAt 0 = .ok (.aload_n 0, 1) := by decide +kernel
theorem dX7_rankAt_1 : decode cX7_rankAt 1 = .ok (.iload_n 1, 1) := by decide +kernel
theorem dX7_rankAt_2 : decode cX7_rankAt 2 = .ok (.iconst 0, 1) := by decide +kernel
theorem dX7_rankAt_3 : decode cX7_rankAt 3 = .ok (.ldc 163, 2) := by decide +kernel
theorem dX7_rankAt_5 : decode cX7_rankAt 5 = .ok (.invokestatic 79, 3) := by decide +kernel
theorem dX7_rankAt_8 : decode cX7_rankAt 8 = .ok (.ifCond .eq 7, 3) := by decide +kernel
theorem dX7_rankAt_11 : decode cX7_rankAt 11 = .ok (.iconst 0, 1) := by decide +kernel
theorem dX7_rankAt_12 : decode cX7_rankAt 12 = .ok (.goto 4, 3) := by decide +kernel
theorem dX7_rankAt_15 : decode cX7_rankAt 15 = .ok (.iconst 1, 1) := by decide +kernel
theorem dX7_rankAt_16 : decode cX7_rankAt 16 = .ok (.invokevirtual 90, 3) := by decide +kernel
theorem dX7_rankAt_19 : decode cX7_rankAt 19 = .ok (.ifCond .ne 5, 3) := by decide +kernel
theorem dX7_rankAt_22 : decode cX7_rankAt 22 = .ok (.iconst 0, 1) := by decide +kernel
theorem dX7_rankAt_23 : decode cX7_rankAt 23 = .ok (.ireturn, 1) := by decide +kernel
theorem dX7_rankAt_24 : decode cX7_rankAt 24 = .ok (.iload_n 1, 1) := by decide +kernel
theorem dX7_rankAt_25 : decode cX7_rankAt 25 = .ok (.i2l, 1) := by decide +kernel
theorem dX7_rankAt_26 : decode cX7_rankAt 26 = .ok (.lstore_n 2, 1) := by decide +kernel
theorem dX7_rankAt_27 : decode cX7_rankAt 27 = .ok (.iconst 0, 1) := by decide +kernel
theorem dX7_rankAt_28 : decode cX7_rankAt 28 = .ok (.istore 4, 2) := by decide +kernel
theorem dX7_rankAt_30 : decode cX7_rankAt 30 = .ok (.iload 4, 2) := by decide +kernel
theorem dX7_rankAt_32 : decode cX7_rankAt 32 = .ok (.aload_n 0, 1) := by decide +kernel
theorem dX7_rankAt_33 : decode cX7_rankAt 33 = .ok (.getfield 76, 3) := by decide +kernel
theorem dX7_rankAt_36 : decode cX7_rankAt 36 = .ok (.if_icmp .ge 88, 3) := by decide +kernel
theorem dX7_rankAt_39 : decode cX7_rankAt 39 = .ok (.ldc2_w 164, 3) := by decide +kernel
theorem dX7_rankAt_42 : decode cX7_rankAt 42 = .ok (.lload_n 2, 1) := by decide +kernel
theorem dX7_rankAt_43 : decode cX7_rankAt 43 = .ok (.lmul, 1) := by decide +kernel
theorem dX7_rankAt_44 : decode cX7_rankAt 44 = .ok (.ldc2_w 166, 3) := by decide +kernel
theorem dX7_rankAt_47 : decode cX7_rankAt 47 = .ok (.ladd, 1) := by decide +kernel
theorem dX7_rankAt_48 : decode cX7_rankAt 48 = .ok (.ldc2_w 115, 3) := by decide +kernel
theorem dX7_rankAt_51 : decode cX7_rankAt 51 = .ok (.lrem, 1) := by decide +kernel
theorem dX7_rankAt_52 : decode cX7_rankAt 52 = .ok (.lstore_n 2, 1) := by decide +kernel
theorem dX7_rankAt_53 : decode cX7_rankAt 53 = .ok (.aload_n 0, 1) := by decide +kernel
theorem dX7_rankAt_54 : decode cX7_rankAt 54 = .ok (.getfield 50, 3) := by decide +kernel
theorem dX7_rankAt_57 : decode cX7_rankAt 57 = .ok (.iload 4, 2) := by decide +kernel
theorem dX7_rankAt_59 : decode cX7_rankAt 59 = .ok (.lload_n 2, 1) := by decide +kernel
theorem dX7_rankAt_60 : decode cX7_rankAt 60 = .ok (.lload_n 2, 1) := by decide +kernel
theorem dX7_rankAt_61 : decode cX7_rankAt 61 = .ok (.lmul, 1) := by decide +kernel
theorem dX7_rankAt_62 : decode cX7_rankAt 62 = .ok (.ldc2_w 115, 3) := by decide +kernel
theorem dX7_rankAt_65 : decode cX7_rankAt 65 = .ok (.lrem, 1) := by decide +kernel
theorem dX7_rankAt_66 : decode cX7_rankAt 66 = .ok (.lload_n 2, 1) := by decide +kernel
theorem dX7_rankAt_67 : decode cX7_rankAt 67 = .ok (.lmul, 1) := by decide +kernel
theorem dX7_rankAt_68 : decode cX7_rankAt 68 = .ok (.ldc2_w 115, 3) := by decide +kernel
theorem dX7_rankAt_71 : decode cX7_rankAt 71 = .ok (.lrem, 1) := by decide +kernel
theorem dX7_rankAt_72 : decode cX7_rankAt 72 = .ok (.lastore, 1) := by decide +kernel
theorem dX7_rankAt_73 : decode cX7_rankAt 73 = .ok (.ldc2_w 164, 3) := by decide +kernel
theorem dX7_rankAt_76 : decode cX7_rankAt 76 = .ok (.lload_n 2, 1) := by decide +kernel
theorem dX7_rankAt_77 : decode cX7_rankAt 77 = .ok (.lmul, 1) := by decide +kernel
theorem dX7_rankAt_78 : decode cX7_rankAt 78 = .ok (.ldc2_w 166, 3) := by decide +kernel
theorem dX7_rankAt_81 : decode cX7_rankAt 81 = .ok (.ladd, 1) := by decide +kernel
theorem dX7_rankAt_82 : decode cX7_rankAt 82 = .ok (.ldc2_w 115, 3) := by decide +kernel
theorem dX7_rankAt_85 : decode cX7_rankAt 85 = .ok (.lrem, 1) := by decide +kernel
theorem dX7_rankAt_86 : decode cX7_rankAt 86 = .ok (.lstore_n 2, 1) := by decide +kernel
theorem dX7_rankAt_87 : decode cX7_rankAt 87 = .ok (.aload_n 0, 1) := by decide +kernel
theorem dX7_rankAt_88 : decode cX7_rankAt 88 = .ok (.getfield 54, 3) := by decide +kernel
theorem dX7_rankAt_91 : decode cX7_rankAt 91 = .ok (.iload 4, 2) := by decide +kernel
theorem dX7_rankAt_93 : decode cX7_rankAt 93 = .ok (.lload_n 2, 1) := by decide +kernel
theorem dX7_rankAt_94 : decode cX7_rankAt 94 = .ok (.lload_n 2, 1) := by decide +kernel
theorem dX7_rankAt_95 : decode cX7_rankAt 95 = .ok (.lmul, 1) := by decide +kernel
theorem dX7_rankAt_96 : decode cX7_rankAt 96 = .ok (.ldc2_w 115, 3) := by decide +kernel
theorem dX7_rankAt_99 : decode cX7_rankAt 99 = .ok (.lrem, 1) := by decide +kernel
theorem dX7_rankAt_100 : decode cX7_rankAt 100 = .ok (.lload_n 2, 1) := by decide +kernel
theorem dX7_rankAt_101 : decode cX7_rankAt 101 = .ok (.lmul, 1) := by decide +kernel
theorem dX7_rankAt_102 : decode cX7_rankAt 102 = .ok (.ldc2_w 115, 3) := by decide +kernel
theorem dX7_rankAt_105 : decode cX7_rankAt 105 = .ok (.lrem, 1) := by decide +kernel
theorem dX7_rankAt_106 : decode cX7_rankAt 106 = .ok (.lastore, 1) := by decide +kernel
theorem dX7_rankAt_107 : decode cX7_rankAt 107 = .ok (.aload_n 0, 1) := by decide +kernel
theorem dX7_rankAt_108 : decode cX7_rankAt 108 = .ok (.getfield 57, 3) := by decide +kernel
theorem dX7_rankAt_111 : decode cX7_rankAt 111 = .ok (.iload 4, 2) := by decide +kernel
theorem dX7_rankAt_113 : decode cX7_rankAt 113 = .ok (.iconst 2, 1) := by decide +kernel
theorem dX7_rankAt_114 : decode cX7_rankAt 114 = .ok (.iload 4, 2) := by decide +kernel
theorem dX7_rankAt_116 : decode cX7_rankAt 116 = .ok (.imul, 1) := by decide +kernel
theorem dX7_rankAt_117 : decode cX7_rankAt 117 = .ok (.iastore, 1) := by decide +kernel
theorem dX7_rankAt_118 : decode cX7_rankAt 118 = .ok (.iinc 4 1, 3) := by decide +kernel
theorem dX7_rankAt_121 : decode cX7_rankAt 121 = .ok (.goto (-91), 3) := by decide +kernel
theorem dX7_rankAt_124 : decode cX7_rankAt 124 = .ok (.aload_n 0, 1) := by decide +kernel
theorem dX7_rankAt_125 : decode cX7_rankAt 125 = .ok (.iconst 2, 1) := by decide +kernel
theorem dX7_rankAt_126 : decode cX7_rankAt 126 = .ok (.aload_n 0, 1) := by decide +kernel
theorem dX7_rankAt_127 : decode cX7_rankAt 127 = .ok (.getfield 76, 3) := by decide +kernel
theorem dX7_rankAt_130 : decode cX7_rankAt 130 = .ok (.imul, 1) := by decide +kernel
theorem dX7_rankAt_131 : decode cX7_rankAt 131 = .ok (.putfield 121, 3) := by decide +kernel
theorem dX7_rankAt_134 : decode cX7_rankAt 134 = .ok (.aload_n 0, 1) := by decide +kernel
theorem dX7_rankAt_135 : decode cX7_rankAt 135 = .ok (.iconst (-1), 1) := by decide +kernel
theorem dX7_rankAt_136 : decode cX7_rankAt 136 = .ok (.iconst 0, 1) := by decide +kernel
theorem dX7_rankAt_137 : decode cX7_rankAt 137 = .ok (.invokevirtual 146, 3) := by decide +kernel
theorem dX7_rankAt_140 : decode cX7_rankAt 140 = .ok (.istore 4, 2) := by decide +kernel
theorem dX7_rankAt_142 : decode cX7_rankAt 142 = .ok (.aload_n 0, 1) := by decide +kernel
theorem dX7_rankAt_143 : decode cX7_rankAt 143 = .ok (.iload 4, 2) := by decide +kernel
theorem dX7_rankAt_145 : decode cX7_rankAt 145 = .ok (.aload_n 0, 1) := by decide +kernel
theorem dX7_rankAt_146 : decode cX7_rankAt 146 = .ok (.getfield 121, 3) := by decide +kernel
theorem dX7_rankAt_149 : decode cX7_rankAt 149 = .ok (.invokevirtual 150, 3) := by decide +kernel
theorem dX7_rankAt_152 : decode cX7_rankAt 152 = .ok (.ireturn, 1) := by decide +kernel
theorem dX7_bits_0 : decode cX7_bits 0 = .ok (.iconst 0, 1) := by decide +kernel
theorem dX7_bits_1 : decode cX7_bits 1 = .ok (.istore_n 1, 1) := by decide +kernel
theorem dX7_bits_2 : decode cX7_bits 2 = .ok (.iconst 0, 1) := by decide +kernel
theorem dX7_bits_3 : decode cX7_bits 3 = .ok (.istore_n 2, 1) := by decide +kernel
theorem dX7_bits_4 : decode cX7_bits 4 = .ok (.iload_n 2, 1) := by decide +kernel
theorem dX7_bits_5 : decode cX7_bits 5 = .ok (.bipush 10, 2) := by decide +kernel
theorem dX7_bits_7 : decode cX7_bits 7 = .ok (.if_icmp .ge 17, 3) := by decide +kernel
theorem dX7_bits_10 : decode cX7_bits 10 = .ok (.iload_n 1, 1) := by decide +kernel
theorem dX7_bits_11 : decode cX7_bits 11 = .ok (.iload_n 0, 1) := by decide +kernel
theorem dX7_bits_12 : decode cX7_bits 12 = .ok (.iload_n 2, 1) := by decide +kernel
theorem dX7_bits_13 : decode cX7_bits 13 = .ok (.ishr, 1) := by decide +kernel
theorem dX7_bits_14 : decode cX7_bits 14 = .ok (.iconst 1, 1) := by decide +kernel
theorem dX7_bits_15 : decode cX7_bits 15 = .ok (.iand, 1) := by decide +kernel
theorem dX7_bits_16 : decode cX7_bits 16 = .ok (.iadd, 1) := by decide +kernel
theorem dX7_bits_17 : decode cX7_bits 17 = .ok (.istore_n 1, 1) := by decide +kernel
theorem dX7_bits_18 : decode cX7_bits 18 = .ok (.iinc 2 1, 3) := by decide +kernel
theorem dX7_bits_21 : decode cX7_bits 21 = .ok (.goto (-17), 3) := by decide +kernel
theorem dX7_bits_24 : decode cX7_bits 24 = .ok (.iload_n 1, 1) := by decide +kernel
theorem dX7_bits_25 : decode cX7_bits 25 = .ok (.ireturn, 1) := by decide +kernel
set_option maxRecDepth 20000 in
theorem ggX7_isFull_X7_bits : GoodIn wsX7_isFull wsX7_bits := goodIn_r _ [5] (by decide +kernel) (by decide +kernel)
set_option maxRecDepth 20000 in
theorem gX7_isFull_X7_bits : GoodIn wsX7_isFull (va_wsS RX7 168 yX7_bits wsX7_bits) := goodIn_app (goodIn_of _ (by decide +kernel)) ggX7_isFull_X7_bits
theorem dX7_isFull_0 : decode cX7_isFull 0 = .ok (.aload_n 0, 1) := by decide +kernel
theorem dX7_isFull_1 : decode cX7_isFull 1 = .ok (.getfield 69, 3) := by decide +kernel
theorem dX7_isFull_4 : decode cX7_isFull 4 = .ok (.iload_n 1, 1) := by decide +kernel
theorem dX7_isFull_5 : decode cX7_isFull 5 = .ok (.iaload, 1) := by decide +kernel
theorem dX7_isFull_6 : decode cX7_isFull 6 = .ok (.iconst 2, 1) := by decide +kernel
theorem dX7_isFull_7 : decode cX7_isFull 7 = .ok (.iload_n 1, 1) := by decide +kernel
theorem dX7_isFull_8 : decode cX7_isFull 8 = .ok (.invokestatic 168, 3) := by decide +kernel
theorem dX7_isFull_11 : decode cX7_isFull 11 = .ok (.imul, 1) := by decide +kernel
theorem dX7_isFull_12 : decode cX7_isFull 12 = .ok (.iconst 3, 1) := by decide +kernel
theorem dX7_isFull_13 : decode cX7_isFull 13 = .ok (.isub, 1) := by decide +kernel
theorem dX7_isFull_14 : decode cX7_isFull 14 = .ok (.if_icmp .ne 7, 3) := by decide +kernel
theorem dX7_isFull_17 : decode cX7_isFull 17 = .ok (.iconst 1, 1) := by decide +kernel
theorem dX7_isFull_18 : decode cX7_isFull 18 = .ok (.goto 4, 3) := by decide +kernel
theorem dX7_isFull_21 : decode cX7_isFull 21 = .ok (.iconst 0, 1) := by decide +kernel
theorem dX7_isFull_22 : decode cX7_isFull 22 = .ok (.ireturn, 1) := by decide +kernel
set_option maxRecDepth 20000 in
theorem ggX7_areFirm_X7_isFull : GoodIn wsX7_areFirm wsX7_isFull := goodIn_r _ [6, 7, 8, 9, 5, 10, 11, 12, 13, 14, 15, 16, 17, 18, 19, 20, 21, 22, 23, 24, 25, 26, 27, 28, 29, 30, 31, 32, 33, 34, 35] (by decide +kernel) (by decide +kernel)
set_option maxRecDepth 20000 in
theorem gX7_areFirm_X7_isFull : GoodIn wsX7_areFirm (wsV RX7 171 RX7 yX7_isFull wsX7_isFull) := goodIn_app (goodIn_of _ (by decide +kernel)) ggX7_areFirm_X7_isFull
theorem dX7_areFirm_0 : decode cX7_areFirm 0 = .ok (.iconst 0, 1) := by decide +kernel
theorem dX7_areFirm_1 : decode cX7_areFirm 1 = .ok (.istore_n 3, 1) := by decide +kernel
theorem dX7_areFirm_2 : decode cX7_areFirm 2 = .ok (.iconst 1, 1) := by decide +kernel
theorem dX7_areFirm_3 : decode cX7_areFirm 3 = .ok (.iload_n 1, 1) := by decide +kernel
theorem dX7_areFirm_4 : decode cX7_areFirm 4 = .ok (.ishl, 1) := by decide +kernel
theorem dX7_areFirm_5 : decode cX7_areFirm 5 = .ok (.iconst 1, 1) := by decide +kernel
theorem dX7_areFirm_6 : decode cX7_areFirm 6 = .ok (.iload_n 2, 1) := by decide +kernel
theorem dX7_areFirm_7 : decode cX7_areFirm 7 = .ok (.ishl, 1) := by decide +kernel
theorem dX7_areFirm_8 : decode cX7_areFirm 8 = .ok (.ior, 1) := by decide +kernel
theorem dX7_areFirm_9 : decode cX7_areFirm 9 = .ok (.istore 4, 2) := by decide +kernel
theorem dX7_areFirm_11 : decode cX7_areFirm 11 = .ok (.iconst 0, 1) := by decide +kernel
theorem dX7_areFirm_12 : decode cX7_areFirm 12 = .ok (.istore 5, 2) := by decide +kernel
theorem dX7_areFirm_14 : decode cX7_areFirm 14 = .ok (.iload 5, 2) := by decide +kernel
theorem dX7_areFirm_16 : decode cX7_areFirm 16 = .ok (.iconst 1, 1) := by decide +kernel
theorem dX7_areFirm_17 : decode cX7_areFirm 17 = .ok (.aload_n 0, 1) := by decide +kernel
theorem dX7_areFirm_18 : decode cX7_areFirm 18 = .ok (.getfield 76, 3) := by decide +kernel
theorem dX7_areFirm_21 : decode cX7_areFirm 21 = .ok (.ishl, 1) := by decide +kernel
theorem dX7_areFirm_22 : decode cX7_areFirm 22 = .ok (.if_icmp .ge 38, 3) := by decide +kernel
theorem dX7_areFirm_25 : decode cX7_areFirm 25 = .ok (.iload_n 3, 1) := by decide +kernel
theorem dX7_areFirm_26 : decode cX7_areFirm 26 = .ok (.ifCond .ne 34, 3) := by decide +kernel
theorem dX7_areFirm_29 : decode cX7_areFirm 29 = .ok (.iload 5, 2) := by decide +kernel
theorem dX7_areFirm_31 : decode cX7_areFirm 31 = .ok (.iload 4, 2) := by decide +kernel
theorem dX7_areFirm_33 : decode cX7_areFirm 33 = .ok (.iand, 1) := by decide +kernel
theorem dX7_areFirm_34 : decode cX7_areFirm 34 = .ok (.iload 4, 2) := by decide +kernel
theorem dX7_areFirm_36 : decode cX7_areFirm 36 = .ok (.if_icmp .ne 16, 3) := by decide +kernel
theorem dX7_areFirm_39 : decode cX7_areFirm 39 = .ok (.aload_n 0, 1) := by decide +kernel
theorem dX7_areFirm_40 : decode cX7_areFirm 40 = .ok (.iload 5, 2) := by decide +kernel
theorem dX7_areFirm_42 : decode cX7_areFirm 42 = .ok (.invokevirtual 171, 3) := by decide +kernel
theorem dX7_areFirm_45 : decode cX7_areFirm 45 = .ok (.ifCond .eq 7, 3) := by decide +kernel
theorem dX7_areFirm_48 : decode cX7_areFirm 48 = .ok (.iconst 1, 1) := by decide +kernel
theorem dX7_areFirm_49 : decode cX7_areFirm 49 = .ok (.goto 4, 3) := by decide +kernel
theorem dX7_areFirm_52 : decode cX7_areFirm 52 = .ok (.iconst 0, 1) := by decide +kernel
theorem dX7_areFirm_53 : decode cX7_areFirm 53 = .ok (.istore_n 3, 1) := by decide +kernel
theorem dX7_areFirm_54 : decode cX7_areFirm 54 = .ok (.iinc 5 1, 3) := by decide +kernel
theorem dX7_areFirm_57 : decode cX7_areFirm 57 = .ok (.goto (-43), 3) := by decide +kernel
theorem dX7_areFirm_60 : decode cX7_areFirm 60 = .ok (.iload_n 3, 1) := by decide +kernel
theorem dX7_areFirm_61 : decode cX7_areFirm 61 = .ok (.ireturn, 1) := by decide +kernel
set_option maxRecDepth 20000 in
theorem ggX7_keeps_X7_areFirm : GoodIn wsX7_keeps wsX7_areFirm := goodIn_r _ [12, 1, 13, 14, 15, 11, 16, 2, 17, 18, 19, 20, 21, 22, 23, 24, 25, 26, 27, 28, 29, 30, 31, 32, 33, 34, 35, 36, 37, 38, 39, 40, 41, 42, 43, 44] (by decide +kernel) (by decide +kernel)
set_option maxRecDepth 20000 in
theorem gX7_keeps_X7_areFirm : GoodIn wsX7_keeps (wsV RX7 174 RX7 yX7_areFirm wsX7_areFirm) := goodIn_app (goodIn_of _ (by decide +kernel)) ggX7_keeps_X7_areFirm
theorem dX7_keeps_0 : decode cX7_keeps 0 = .ok (.iconst 0, 1) := by decide +kernel
theorem dX7_keeps_1 : decode cX7_keeps 1 = .ok (.istore_n 2, 1) := by decide +kernel
theorem dX7_keeps_2 : decode cX7_keeps 2 = .ok (.iload_n 2, 1) := by decide +kernel
theorem dX7_keeps_3 : decode cX7_keeps 3 = .ok (.iconst 1, 1) := by decide +kernel
theorem dX7_keeps_4 : decode cX7_keeps 4 = .ok (.aload_n 0, 1) := by decide +kernel
theorem dX7_keeps_5 : decode cX7_keeps 5 = .ok (.getfield 76, 3) := by decide +kernel
theorem dX7_keeps_8 : decode cX7_keeps 8 = .ok (.ishl, 1) := by decide +kernel
theorem dX7_keeps_9 : decode cX7_keeps 9 = .ok (.if_icmp .ge 16, 3) := by decide +kernel
theorem dX7_keeps_12 : decode cX7_keeps 12 = .ok (.aload_n 0, 1) := by decide +kernel
theorem dX7_keeps_13 : decode cX7_keeps 13 = .ok (.getfield 69, 3) := by decide +kernel
theorem dX7_keeps_16 : decode cX7_keeps 16 = .ok (.iload_n 2, 1) := by decide +kernel
theorem dX7_keeps_17 : decode cX7_keeps 17 = .ok (.iconst 0, 1) := by decide +kernel
theorem dX7_keeps_18 : decode cX7_keeps 18 = .ok (.iastore, 1) := by decide +kernel
theorem dX7_keeps_19 : decode cX7_keeps 19 = .ok (.iinc 2 1, 3) := by decide +kernel
theorem dX7_keeps_22 : decode cX7_keeps 22 = .ok (.goto (-20), 3) := by decide +kernel
theorem dX7_keeps_25 : decode cX7_keeps 25 = .ok (.iconst 0, 1) := by decide +kernel
theorem dX7_keeps_26 : decode cX7_keeps 26 = .ok (.istore_n 2, 1) := by decide +kernel
theorem dX7_keeps_27 : decode cX7_keeps 27 = .ok (.iconst 0, 1) := by decide +kernel
theorem dX7_keeps_28 : decode cX7_keeps 28 = .ok (.istore_n 3, 1) := by decide +kernel
theorem dX7_keeps_29 : decode cX7_keeps 29 = .ok (.iload_n 3, 1) := by decide +kernel
theorem dX7_keeps_30 : decode cX7_keeps 30 = .ok (.aload_n 0, 1) := by decide +kernel
theorem dX7_keeps_31 : decode cX7_keeps 31 = .ok (.getfield 83, 3) := by decide +kernel
theorem dX7_keeps_34 : decode cX7_keeps 34 = .ok (.if_icmp .ge 156, 3) := by decide +kernel
theorem dX7_keeps_37 : decode cX7_keeps 37 = .ok (.aload_n 0, 1) := by decide +kernel
theorem dX7_keeps_38 : decode cX7_keeps 38 = .ok (.getfield 66, 3) := by decide +kernel
theorem dX7_keeps_41 : decode cX7_keeps 41 = .ok (.iload_n 3, 1) := by decide +kernel
theorem dX7_keeps_42 : decode cX7_keeps 42 = .ok (.aload_n 0, 1) := by decide +kernel
theorem dX7_keeps_43 : decode cX7_keeps 43 = .ok (.getfield 35, 3) := by decide +kernel
theorem dX7_keeps_46 : decode cX7_keeps 46 = .ok (.iload_n 3, 1) := by decide +kernel
theorem dX7_keeps_47 : decode cX7_keeps 47 = .ok (.baload, 1) := by decide +kernel
theorem dX7_keeps_48 : decode cX7_keeps 48 = .ok (.ifCond .ne 31, 3) := by decide +kernel
theorem dX7_keeps_51 : decode cX7_keeps 51 = .ok (.iload_n 3, 1) := by decide +kernel
theorem dX7_keeps_52 : decode cX7_keeps 52 = .ok (.iload_n 1, 1) := by decide +kernel
theorem dX7_keeps_53 : decode cX7_keeps 53 = .ok (.if_icmp .eq 26, 3) := by decide +kernel
theorem dX7_keeps_56 : decode cX7_keeps 56 = .ok (.aload_n 0, 1) := by decide +kernel
theorem dX7_keeps_57 : decode cX7_keeps 57 = .ok (.aload_n 0, 1) := by decide +kernel
theorem dX7_keeps_58 : decode cX7_keeps 58 = .ok (.getfield 23, 3) := by decide +kernel
theorem dX7_keeps_61 : decode cX7_keeps 61 = .ok (.iload_n 3, 1) := by decide +kernel
theorem dX7_keeps_62 : decode cX7_keeps 62 = .ok (.iaload, 1) := by decide +kernel
theorem dX7_keeps_63 : decode cX7_keeps 63 = .ok (.aload_n 0, 1) := by decide +kernel
theorem dX7_keeps_64 : decode cX7_keeps 64 = .ok (.getfield 26, 3) := by decide +kernel
theorem dX7_keeps_67 : decode cX7_keeps 67 = .ok (.iload_n 3, 1) := by decide +kernel
theorem dX7_keeps_68 : decode cX7_keeps 68 = .ok (.iaload, 1) := by decide +kernel
theorem dX7_keeps_69 : decode cX7_keeps 69 = .ok (.invokevirtual 174, 3) := by decide +kernel
theorem dX7_keeps_72 : decode cX7_keeps 72 = .ok (.ifCond .ne 7, 3) := by decide +kernel
theorem dX7_keeps_75 : decode cX7_keeps 75 = .ok (.iconst 1, 1) := by decide +kernel
theorem dX7_keeps_76 : decode cX7_keeps 76 = .ok (.goto 4, 3) := by decide +kernel
theorem dX7_keeps_79 : decode cX7_keeps 79 = .ok (.iconst 0, 1) := by decide +kernel
theorem dX7_keeps_80 : decode cX7_keeps 80 = .ok (.bastore, 1) := by decide +kernel
theorem dX7_keeps_81 : decode cX7_keeps 81 = .ok (.aload_n 0, 1) := by decide +kernel
theorem dX7_keeps_82 : decode cX7_keeps 82 = .ok (.getfield 66, 3) := by decide +kernel
theorem dX7_keeps_85 : decode cX7_keeps 85 = .ok (.iload_n 3, 1) := by decide +kernel
theorem dX7_keeps_86 : decode cX7_keeps 86 = .ok (.baload, 1) := by decide +kernel
theorem dX7_keeps_87 : decode cX7_keeps 87 = .ok (.ifCond .eq 23, 3) := by decide +kernel
theorem dX7_keeps_90 : decode cX7_keeps 90 = .ok (.iconst 1, 1) := by decide +kernel
theorem dX7_keeps_91 : decode cX7_keeps 91 = .ok (.aload_n 0, 1) := by decide +kernel
theorem dX7_keeps_92 : decode cX7_keeps 92 = .ok (.getfield 23, 3) := by decide +kernel
theorem dX7_keeps_95 : decode cX7_keeps 95 = .ok (.iload_n 3, 1) := by decide +kernel
theorem dX7_keeps_96 : decode cX7_keeps 96 = .ok (.iaload, 1) := by decide +kernel
theorem dX7_keeps_97 : decode cX7_keeps 97 = .ok (.ishl, 1) := by decide +kernel
theorem dX7_keeps_98 : decode cX7_keeps 98 = .ok (.iconst 1, 1) := by decide +kernel
theorem dX7_keeps_99 : decode cX7_keeps 99 = .ok (.aload_n 0, 1) := by decide +kernel
theorem dX7_keeps_100 : decode cX7_keeps 100 = .ok (.getfield 26, 3) := by decide +kernel
theorem dX7_keeps_103 : decode cX7_keeps 103 = .ok (.iload_n 3, 1) := by decide +kernel
theorem dX7_keeps_104 : decode cX7_keeps 104 = .ok (.iaload, 1) := by decide +kernel
theorem dX7_keeps_105 : decode cX7_keeps 105 = .ok (.ishl, 1) := by decide +kernel
theorem dX7_keeps_106 : decode cX7_keeps 106 = .ok (.ior, 1) := by decide +kernel
theorem dX7_keeps_107 : decode cX7_keeps 107 = .ok (.goto 4, 3) := by decide +kernel
theorem dX7_keeps_110 : decode cX7_keeps 110 = .ok (.iconst 0, 1) := by decide +kernel
theorem dX7_keeps_111 : decode cX7_keeps 111 = .ok (.istore 4, 2) := by decide +kernel
theorem dX7_keeps_113 : decode cX7_keeps 113 = .ok (.iconst 0, 1) := by decide +kernel
theorem dX7_keeps_114 : decode cX7_keeps 114 = .ok (.istore 5, 2) := by decide +kernel
theorem dX7_keeps_116 : decode cX7_keeps 116 = .ok (.iload 5, 2) := by decide +kernel
theorem dX7_keeps_118 : decode cX7_keeps 118 = .ok (.iconst 1, 1) := by decide +kernel
theorem dX7_keeps_119 : decode cX7_keeps 119 = .ok (.aload_n 0, 1) := by decide +kernel
theorem dX7_keeps_120 : decode cX7_keeps 120 = .ok (.getfield 76, 3) := by decide +kernel
theorem dX7_keeps_123 : decode cX7_keeps 123 = .ok (.ishl, 1) := by decide +kernel
theorem dX7_keeps_124 : decode cX7_keeps 124 = .ok (.if_icmp .ge 43, 3) := by decide +kernel
theorem dX7_keeps_127 : decode cX7_keeps 127 = .ok (.aload_n 0, 1) := by decide +kernel
theorem dX7_keeps_128 : decode cX7_keeps 128 = .ok (.getfield 66, 3) := by decide +kernel
theorem dX7_keeps_131 : decode cX7_keeps 131 = .ok (.iload_n 3, 1) := by decide +kernel
theorem dX7_keeps_132 : decode cX7_keeps 132 = .ok (.baload, 1) := by decide +kernel
theorem dX7_keeps_133 : decode cX7_keeps 133 = .ok (.ifCond .eq 34, 3) := by decide +kernel
theorem dX7_keeps_136 : decode cX7_keeps 136 = .ok (.aload_n 0, 1) := by decide +kernel
theorem dX7_keeps_137 : decode cX7_keeps 137 = .ok (.getfield 69, 3) := by decide +kernel
theorem dX7_keeps_140 : decode cX7_keeps 140 = .ok (.iload 5, 2) := by decide +kernel
theorem dX7_keeps_142 : decode cX7_keeps 142 = .ok (.dup2, 1) := by decide +kernel
theorem dX7_keeps_143 : decode cX7_keeps 143 = .ok (.iaload, 1) := by decide +kernel
theorem dX7_keeps_144 : decode cX7_keeps 144 = .ok (.iload 5, 2) := by decide +kernel
theorem dX7_keeps_146 : decode cX7_keeps 146 = .ok (.iload 4, 2) := by decide +kernel
theorem dX7_keeps_148 : decode cX7_keeps 148 = .ok (.iand, 1) := by decide +kernel
theorem dX7_keeps_149 : decode cX7_keeps 149 = .ok (.iload 4, 2) := by decide +kernel
theorem dX7_keeps_151 : decode cX7_keeps 151 = .ok (.if_icmp .ne 7, 3) := by decide +kernel
theorem dX7_keeps_154 : decode cX7_keeps 154 = .ok (.iconst 1, 1) := by decide +kernel
theorem dX7_keeps_155 : decode cX7_keeps 155 = .ok (.goto 4, 3) := by decide +kernel
theorem dX7_keeps_158 : decode cX7_keeps 158 = .ok (.iconst 0, 1) := by decide +kernel
theorem dX7_keeps_159 : decode cX7_keeps 159 = .ok (.iadd, 1) := by decide +kernel
theorem dX7_keeps_160 : decode cX7_keeps 160 = .ok (.iastore, 1) := by decide +kernel
theorem dX7_keeps_161 : decode cX7_keeps 161 = .ok (.iinc 5 1, 3) := by decide +kernel
theorem dX7_keeps_164 : decode cX7_keeps 164 = .ok (.goto (-48), 3) := by decide +kernel
theorem dX7_keeps_167 : decode cX7_keeps 167 = .ok (.iload_n 2, 1) := by decide +kernel
theorem dX7_keeps_168 : decode cX7_keeps 168 = .ok (.aload_n 0, 1) := by decide +kernel
theorem dX7_keeps_169 : decode cX7_keeps 169 = .ok (.getfield 66, 3) := by decide +kernel
theorem dX7_keeps_172 : decode cX7_keeps 172 = .ok (.iload_n 3, 1) := by decide +kernel
theorem dX7_keeps_173 : decode cX7_keeps 173 = .ok (.baload, 1) := by decide +kernel
theorem dX7_keeps_174 : decode cX7_keeps 174 = .ok (.ifCond .eq 7, 3) := by decide +kernel
theorem dX7_keeps_177 : decode cX7_keeps 177 = .ok (.iconst 1, 1) := by decide +kernel
theorem dX7_keeps_178 : decode cX7_keeps 178 = .ok (.goto 4, 3) := by decide +kernel
theorem dX7_keeps_181 : decode cX7_keeps 181 = .ok (.iconst 0, 1) := by decide +kernel
theorem dX7_keeps_182 : decode cX7_keeps 182 = .ok (.iadd, 1) := by decide +kernel
theorem dX7_keeps_183 : decode cX7_keeps 183 = .ok (.istore_n 2, 1) := by decide +kernel
theorem dX7_keeps_184 : decode cX7_keeps 184 = .ok (.iinc 3 1, 3) := by decide +kernel
theorem dX7_keeps_187 : decode cX7_keeps 187 = .ok (.goto (-158), 3) := by decide +kernel
theorem dX7_keeps_190 : decode cX7_keeps 190 = .ok (.iload_n 2, 1) := by decide +kernel
theorem dX7_keeps_191 : decode cX7_keeps 191 = .ok (.ireturn, 1) := by decide +kernel
set_option maxRecDepth 20000 in
theorem ggX7_kept_X7_keeps : GoodIn wsX7_kept wsX7_keeps := goodIn_r _ [6, 7, 8, 9, 10, 11, 12, 13, 14, 15, 16, 5, 17, 18, 19, 20, 21, 22, 23, 24, 25, 26, 27, 28, 29, 30, 31, 32, 33, 34, 35, 36, 37, 38, 39, 40, 41, 42, 43, 44, 45, 46, 47, 48, 49] (by decide +kernel) (by decide +kernel)
set_option maxRecDepth 20000 in
theorem gX7_kept_X7_keeps : GoodIn wsX7_kept (wsV RX7 177 RX7 yX7_keeps wsX7_keeps) := goodIn_app (goodIn_of _ (by decide +kernel)) ggX7_kept_X7_keeps
theorem dX7_kept_0 : decode cX7_kept 0 = .ok (.aload_n 0, 1) := by decide +kernel
theorem dX7_kept_1 : decode cX7_kept 1 = .ok (.iconst 0, 1) := by decide +kernel
theorem dX7_kept_2 : decode cX7_kept 2 = .ok (.putfield 72, 3) := by decide +kernel
theorem dX7_kept_5 : decode cX7_kept 5 = .ok (.aload_n 0, 1) := by decide +kernel
theorem dX7_kept_6 : decode cX7_kept 6 = .ok (.iconst (-1), 1) := by decide +kernel
theorem dX7_kept_7 : decode cX7_kept 7 = .ok (.invokevirtual 177, 3) := by decide +kernel
theorem dX7_kept_10 : decode cX7_kept 10 = .ok (.ireturn, 1) := by decide +kernel
set_option maxRecDepth 20000 in
theorem ggX7_isKept_X7_isMember : GoodIn wsX7_isKept wsX7_isMember := goodIn_r _ [6, 7, 8, 9, 10, 5, 11, 36, 37, 38, 39, 40, 41, 42, 43, 44, 45, 46, 47, 48, 49, 50, 51, 52, 53, 54, 55, 56, 57, 58, 59, 60] (by decide +kernel) (by decide +kernel)
set_option maxRecDepth 20000 in
theorem gX7_isKept_X7_isMember : GoodIn wsX7_isKept (wsV RX7 108 RX7 yX7_isMember wsX7_isMember) := goodIn_app (goodIn_of _ (by decide +kernel)) ggX7_isKept_X7_isMember
set_option maxRecDepth 20000 in
theorem ggX7_isKept_X7_holds : GoodIn wsX7_isKept wsX7_holds := goodIn_r _ [15, 16, 36, 37, 38, 39, 40, 41, 42, 43, 44, 45, 46, 47, 48, 49, 50, 51, 52, 53, 54, 55, 56, 57, 58, 59, 60] (by decide +kernel) (by decide +kernel)
set_option maxRecDepth 20000 in
theorem gX7_isKept_X7_holds : GoodIn wsX7_isKept (wsV RX7 90 RX7 yX7_holds wsX7_holds) := goodIn_app (goodIn_of _ (by decide +kernel)) ggX7_isKept_X7_holds
set_option maxRecDepth 20000 in
theorem ggX7_isKept_X7_keeps : GoodIn wsX7_isKept wsX7_keeps := goodIn_r _ [20, 21, 22, 7, 1, 8, 23, 24, 25, 26, 27, 5, 28, 29, 30, 31, 32, 33, 34, 35, 36, 37, 38, 39, 40, 41, 42, 43, 44, 45, 46, 47, 48, 49, 50, 51, 52, 53, 54, 55, 56, 57, 58, 59, 60] (by decide +kernel) (by decide +kernel)
set_option maxRecDepth 20000 in
theorem gX7_isKept_X7_keeps : GoodIn wsX7_isKept (wsV RX7 177 RX7 yX7_keeps wsX7_keeps) := goodIn_app (goodIn_of _ (by decide +kernel)) ggX7_isKept_X7_keeps
theorem dX7_isKept_0 : decode cX7_isKept 0 = .ok (.aload_n 0, 1) := by decide +kernel
theorem dX7_isKept_1 : decode cX7_isKept 1 = .ok (.aload_n 0, 1) := by decide +kernel
theorem dX7_isKept_2 : decode cX7_isKept 2 = .ok (.iload_n 1, 1) := by decide +kernel
theorem dX7_isKept_3 : decode cX7_isKept 3 = .ok (.invokevirtual 108, 3) := by decide +kernel
theorem dX7_isKept_6 : decode cX7_isKept 6 = .ok (.ifCond .eq 7, 3) := by decide +kernel
theorem dX7_isKept_9 : decode cX7_isKept 9 = .ok (.iconst 0, 1) := by decide +kernel
theorem dX7_isKept_10 : decode cX7_isKept 10 = .ok (.goto 4, 3) := by decide +kernel
theorem dX7_isKept_13 : decode cX7_isKept 13 = .ok (.iconst 1, 1) := by decide +kernel
theorem dX7_isKept_14 : decode cX7_isKept 14 = .ok (.invokevirtual 90, 3) := by decide +kernel
theorem dX7_isKept_17 : decode cX7_isKept 17 = .ok (.ifCond .eq 24, 3) := by decide +kernel
theorem dX7_isKept_20 : decode cX7_isKept 20 = .ok (.aload_n 0, 1) := by decide +kernel
theorem dX7_isKept_21 : decode cX7_isKept 21 = .ok (.iconst (-1), 1) := by decide +kernel
theorem dX7_isKept_22 : decode cX7_isKept 22 = .ok (.invokevirtual 177, 3) := by decide +kernel
theorem dX7_isKept_25 : decode cX7_isKept 25 = .ok (.ifCond .lt 16, 3) := by decide +kernel
theorem dX7_isKept_28 : decode cX7_isKept 28 = .ok (.aload_n 0, 1) := by decide +kernel
theorem dX7_isKept_29 : decode cX7_isKept 29 = .ok (.getfield 66, 3) := by decide +kernel
theorem dX7_isKept_32 : decode cX7_isKept 32 = .ok (.iload_n 1, 1) := by decide +kernel
theorem dX7_isKept_33 : decode cX7_isKept 33 = .ok (.baload, 1) := by decide +kernel
theorem dX7_isKept_34 : decode cX7_isKept 34 = .ok (.ifCond .eq 7, 3) := by decide +kernel
theorem dX7_isKept_37 : decode cX7_isKept 37 = .ok (.iconst 1, 1) := by decide +kernel
theorem dX7_isKept_38 : decode cX7_isKept 38 = .ok (.goto 4, 3) := by decide +kernel
theorem dX7_isKept_41 : decode cX7_isKept 41 = .ok (.iconst 0, 1) := by decide +kernel
theorem dX7_isKept_42 : decode cX7_isKept 42 = .ok (.ireturn, 1) := by decide +kernel
set_option maxRecDepth 20000 in
theorem ggX7_block_X7_isMember : GoodIn wsX7_block wsX7_isMember := goodIn_r _ [8, 9, 10, 11, 12, 7, 13, 36, 37, 38, 39, 40, 41, 42, 43, 44, 45, 46, 47, 48, 49, 50, 51, 52, 53, 54, 55, 56, 57, 58, 59, 60] (by decide +kernel) (by decide +kernel)
set_option maxRecDepth 20000 in
theorem gX7_block_X7_isMember : GoodIn wsX7_block (wsV RX7 108 RX7 yX7_isMember wsX7_isMember) := goodIn_app (goodIn_of _ (by decide +kernel)) ggX7_block_X7_isMember
set_option maxRecDepth 20000 in
theorem ggX7_block_X7_holds : GoodIn wsX7_block wsX7_holds := goodIn_r _ [17, 18, 36, 37, 38, 39, 40, 41, 42, 43, 44, 45, 46, 47, 48, 49, 50, 51, 52, 53, 54, 55, 56, 57, 58, 59, 60] (by decide +kernel) (by decide +kernel)
set_option maxRecDepth 20000 in
theorem gX7_block_X7_holds : GoodIn wsX7_block (wsV RX7 90 RX7 yX7_holds wsX7_holds) := goodIn_app (goodIn_of _ (by decide +kernel)) ggX7_block_X7_holds
set_option maxRecDepth 20000 in
theorem ggX7_block_X7_keeps : GoodIn wsX7_block wsX7_keeps := goodIn_r _ [22, 3, 23, 9, 24, 10, 1, 2, 25, 26, 27, 7, 28, 29, 30, 31, 32, 33, 34, 35, 36, 37, 38, 39, 40, 41, 42, 43, 44, 45, 46, 47, 48, 49, 50, 51, 52, 53, 54, 55, 56, 57, 58, 59, 60] (by decide +kernel) (by decide +kernel)
set_option maxRecDepth 20000 in
theorem gX7_block_X7_keeps : GoodIn wsX7_block (wsV RX7 177 RX7 yX7_keeps wsX7_keeps) := goodIn_app (goodIn_of _ (by decide +kernel)) ggX7_block_X7_keeps
set_option maxRecDepth 20000 in
theorem ggX7_block_X7_areFirm : GoodIn wsX7_block wsX7_areFirm := goodIn_r _ [28, 3, 29, 30, 31, 7, 32, 23, 33, 34, 35, 36, 37, 38, 39, 40, 41, 42, 43, 44, 45, 46, 47, 48, 49, 50, 51, 52, 53, 54, 55, 56, 57, 58, 59, 60] (by decide +kernel) (by decide +kernel)
set_option maxRecDepth 20000 in
theorem gX7_block_X7_areFirm : GoodIn wsX7_block (wsV RX7 174 RX7 yX7_areFirm wsX7_areFirm) := goodIn_app (goodIn_of _ (by decide +kernel)) ggX7_block_X7_areFirm
theorem dX7_block_0 : decode cX7_block 0 = .ok (.aload_n 0, 1) := by decide +kernel
theorem dX7_block_1 : decode cX7_block 1 = .ok (.aload_n 0, 1) := by decide +kernel
theorem dX7_block_2 : decode cX7_block 2 = .ok (.iload_n 1, 1) := by decide +kernel
theorem dX7_block_3 : decode cX7_block 3 = .ok (.invokevirtual 108, 3) := by decide +kernel
theorem dX7_block_6 : decode cX7_block 6 = .ok (.ifCond .eq 7, 3) := by decide +kernel
theorem dX7_block_9 : decode cX7_block 9 = .ok (.iconst 0, 1) := by decide +kernel
theorem dX7_block_10 : decode cX7_block 10 = .ok (.goto 4, 3) := by decide +kernel
theorem dX7_block_13 : decode cX7_block 13 = .ok (.iconst 1, 1) := by decide +kernel
theorem dX7_block_14 : decode cX7_block 14 = .ok (.invokevirtual 90, 3) := by decide +kernel
theorem dX7_block_17 : decode cX7_block 17 = .ok (.ifCond .ne 5, 3) := by decide +kernel
theorem dX7_block_20 : decode cX7_block 20 = .ok (.iconst 0, 1) := by decide +kernel
theorem dX7_block_21 : decode cX7_block 21 = .ok (.ireturn, 1) := by decide +kernel
theorem dX7_block_22 : decode cX7_block 22 = .ok (.aload_n 0, 1) := by decide +kernel
theorem dX7_block_23 : decode cX7_block 23 = .ok (.iconst (-1), 1) := by decide +kernel
theorem dX7_block_24 : decode cX7_block 24 = .ok (.invokevirtual 177, 3) := by decide +kernel
theorem dX7_block_27 : decode cX7_block 27 = .ok (.ifCond .ge 7, 3) := by decide +kernel
theorem dX7_block_30 : decode cX7_block 30 = .ok (.iconst 0, 1) := by decide +kernel
theorem dX7_block_31 : decode cX7_block 31 = .ok (.goto 20, 3) := by decide +kernel
theorem dX7_block_34 : decode cX7_block 34 = .ok (.iconst 1, 1) := by decide +kernel
theorem dX7_block_35 : decode cX7_block 35 = .ok (.aload_n 0, 1) := by decide +kernel
theorem dX7_block_36 : decode cX7_block 36 = .ok (.getfield 23, 3) := by decide +kernel
theorem dX7_block_39 : decode cX7_block 39 = .ok (.iload_n 1, 1) := by decide +kernel
theorem dX7_block_40 : decode cX7_block 40 = .ok (.iaload, 1) := by decide +kernel
theorem dX7_block_41 : decode cX7_block 41 = .ok (.ishl, 1) := by decide +kernel
theorem dX7_block_42 : decode cX7_block 42 = .ok (.iconst 1, 1) := by decide +kernel
theorem dX7_block_43 : decode cX7_block 43 = .ok (.aload_n 0, 1) := by decide +kernel
theorem dX7_block_44 : decode cX7_block 44 = .ok (.getfield 26, 3) := by decide +kernel
theorem dX7_block_47 : decode cX7_block 47 = .ok (.iload_n 1, 1) := by decide +kernel
theorem dX7_block_48 : decode cX7_block 48 = .ok (.iaload, 1) := by decide +kernel
theorem dX7_block_49 : decode cX7_block 49 = .ok (.ishl, 1) := by decide +kernel
theorem dX7_block_50 : decode cX7_block 50 = .ok (.ior, 1) := by decide +kernel
theorem dX7_block_51 : decode cX7_block 51 = .ok (.istore_n 2, 1) := by decide +kernel
theorem dX7_block_52 : decode cX7_block 52 = .ok (.iconst 0, 1) := by decide +kernel
theorem dX7_block_53 : decode cX7_block 53 = .ok (.istore_n 3, 1) := by decide +kernel
theorem dX7_block_54 : decode cX7_block 54 = .ok (.iload_n 3, 1) := by decide +kernel
theorem dX7_block_55 : decode cX7_block 55 = .ok (.aload_n 0, 1) := by decide +kernel
theorem dX7_block_56 : decode cX7_block 56 = .ok (.getfield 76, 3) := by decide +kernel
theorem dX7_block_59 : decode cX7_block 59 = .ok (.if_icmp .ge 79, 3) := by decide +kernel
theorem dX7_block_62 : decode cX7_block 62 = .ok (.iload_n 3, 1) := by decide +kernel
theorem dX7_block_63 : decode cX7_block 63 = .ok (.aload_n 0, 1) := by decide +kernel
theorem dX7_block_64 : decode cX7_block 64 = .ok (.getfield 23, 3) := by decide +kernel
theorem dX7_block_67 : decode cX7_block 67 = .ok (.iload_n 1, 1) := by decide +kernel
theorem dX7_block_68 : decode cX7_block 68 = .ok (.iaload, 1) := by decide +kernel
theorem dX7_block_69 : decode cX7_block 69 = .ok (.if_icmp .eq 45, 3) := by decide +kernel
theorem dX7_block_72 : decode cX7_block 72 = .ok (.iload_n 3, 1) := by decide +kernel
theorem dX7_block_73 : decode cX7_block 73 = .ok (.aload_n 0, 1) := by decide +kernel
theorem dX7_block_74 : decode cX7_block 74 = .ok (.getfield 26, 3) := by decide +kernel
theorem dX7_block_77 : decode cX7_block 77 = .ok (.iload_n 1, 1) := by decide +kernel
theorem dX7_block_78 : decode cX7_block 78 = .ok (.iaload, 1) := by decide +kernel
theorem dX7_block_79 : decode cX7_block 79 = .ok (.if_icmp .eq 35, 3) := by decide +kernel
theorem dX7_block_82 : decode cX7_block 82 = .ok (.aload_n 0, 1) := by decide +kernel
theorem dX7_block_83 : decode cX7_block 83 = .ok (.iload_n 3, 1) := by decide +kernel
theorem dX7_block_84 : decode cX7_block 84 = .ok (.aload_n 0, 1) := by decide +kernel
theorem dX7_block_85 : decode cX7_block 85 = .ok (.getfield 23, 3) := by decide +kernel
theorem dX7_block_88 : decode cX7_block 88 = .ok (.iload_n 1, 1) := by decide +kernel
theorem dX7_block_89 : decode cX7_block 89 = .ok (.iaload, 1) := by decide +kernel
theorem dX7_block_90 : decode cX7_block 90 = .ok (.invokevirtual 174, 3) := by decide +kernel
theorem dX7_block_93 : decode cX7_block 93 = .ok (.ifCond .eq 21, 3) := by decide +kernel
theorem dX7_block_96 : decode cX7_block 96 = .ok (.aload_n 0, 1) := by decide +kernel
theorem dX7_block_97 : decode cX7_block 97 = .ok (.iload_n 3, 1) := by decide +kernel
theorem dX7_block_98 : decode cX7_block 98 = .ok (.aload_n 0, 1) := by decide +kernel
theorem dX7_block_99 : decode cX7_block 99 = .ok (.getfield 26, 3) := by decide +kernel
theorem dX7_block_102 : decode cX7_block 102 = .ok (.iload_n 1, 1) := by decide +kernel
theorem dX7_block_103 : decode cX7_block 103 = .ok (.iaload, 1) := by decide +kernel
theorem dX7_block_104 : decode cX7_block 104 = .ok (.invokevirtual 174, 3) := by decide +kernel
theorem dX7_block_107 : decode cX7_block 107 = .ok (.ifCond .eq 7, 3) := by decide +kernel
theorem dX7_block_110 : decode cX7_block 110 = .ok (.iconst 1, 1) := by decide +kernel
theorem dX7_block_111 : decode cX7_block 111 = .ok (.goto 4, 3) := by decide +kernel
theorem dX7_block_114 : decode cX7_block 114 = .ok (.iconst 0, 1) := by decide +kernel
theorem dX7_block_115 : decode cX7_block 115 = .ok (.istore 4, 2) := by decide +kernel
theorem dX7_block_117 : decode cX7_block 117 = .ok (.iload_n 2, 1) := by decide +kernel
theorem dX7_block_118 : decode cX7_block 118 = .ok (.iload 4, 2) := by decide +kernel
theorem dX7_block_120 : decode cX7_block 120 = .ok (.ifCond .eq 9, 3) := by decide +kernel
theorem dX7_block_123 : decode cX7_block 123 = .ok (.iconst 1, 1) := by decide +kernel
theorem dX7_block_124 : decode cX7_block 124 = .ok (.iload_n 3, 1) := by decide +kernel
theorem dX7_block_125 : decode cX7_block 125 = .ok (.ishl, 1) := by decide +kernel
theorem dX7_block_126 : decode cX7_block 126 = .ok (.goto 4, 3) := by decide +kernel
theorem dX7_block_129 : decode cX7_block 129 = .ok (.iconst 0, 1) := by decide +kernel
theorem dX7_block_130 : decode cX7_block 130 = .ok (.ior, 1) := by decide +kernel
theorem dX7_block_131 : decode cX7_block 131 = .ok (.istore_n 2, 1) := by decide +kernel
theorem dX7_block_132 : decode cX7_block 132 = .ok (.iinc 3 1, 3) := by decide +kernel
theorem dX7_block_135 : decode cX7_block 135 = .ok (.goto (-81), 3) := by decide +kernel
theorem dX7_block_138 : decode cX7_block 138 = .ok (.iload_n 2, 1) := by decide +kernel
theorem dX7_block_139 : decode cX7_block 139 = .ok (.ireturn, 1) := by decide +kernel
set_option maxRecDepth 20000 in
theorem ggX7_lacksWithout_X7_keeps : GoodIn wsX7_lacksWithout wsX7_keeps := goodIn_r _ [6, 1, 7, 8, 9, 10, 11, 12, 13, 14, 15, 5, 16, 17, 18, 19, 20, 21, 22, 23, 24, 25, 26, 27, 28, 29, 30, 31, 32, 33, 34, 35, 36, 37, 38, 39, 40, 41, 42, 43, 44, 45, 46, 47, 48] (by decide +kernel) (by decide +kernel)
set_option maxRecDepth 20000 in
theorem gX7_lacksWithout_X7_keeps : GoodIn wsX7_lacksWithout (wsV RX7 177 RX7 yX7_keeps wsX7_keeps) := goodIn_app (goodIn_of _ (by decide +kernel)) ggX7_lacksWithout_X7_keeps
theorem dX7_lacksWithout_0 : decode cX7_lacksWithout 0 = .ok (.iconst 2, 1) := by decide +kernel
theorem dX7_lacksWithout_1 : decode cX7_lacksWithout 1 = .ok (.aload_n 0, 1) := by decide +kernel
theorem dX7_lacksWithout_2 : decode cX7_lacksWithout 2 = .ok (.getfield 76, 3) := by decide +kernel
theorem dX7_lacksWithout_5 : decode cX7_lacksWithout 5 = .ok (.imul, 1) := by decide +kernel
theorem dX7_lacksWithout_6 : decode cX7_lacksWithout 6 = .ok (.iconst 3, 1) := by decide +kernel
theorem dX7_lacksWithout_7 : decode cX7_lacksWithout 7 = .ok (.isub, 1) := by decide +kernel
theorem dX7_lacksWithout_8 : decode cX7_lacksWithout 8 = .ok (.aload_n 0, 1) := by decide +kernel
theorem dX7_lacksWithout_9 : decode cX7_lacksWithout 9 = .ok (.iload_n 1, 1) := by decide +kernel
theorem dX7_lacksWithout_10 : decode cX7_lacksWithout 10 = .ok (.invokevirtual 177, 3) := by decide +kernel
theorem dX7_lacksWithout_13 : decode cX7_lacksWithout 13 = .ok (.isub, 1) := by decide +kernel
theorem dX7_lacksWithout_14 : decode cX7_lacksWithout 14 = .ok (.ireturn, 1) := by decide +kernel
set_option maxRecDepth 20000 in
theorem ggX7_lacks_X7_lacksWithout : GoodIn wsX7_lacks wsX7_lacksWithout := goodIn_r _ [7, 2, 8, 9, 10, 6, 11, 12, 13, 14, 15, 16, 17, 18, 19, 20, 21, 22, 23, 24, 25, 26, 27, 28, 29, 30, 31, 32, 33, 34, 35, 36, 37, 38, 39, 40, 41, 42, 43, 44, 45, 46, 47, 48, 49, 50, 51, 52, 53] (by decide +kernel) (by decide +kernel)
set_option maxRecDepth 20000 in
theorem gX7_lacks_X7_lacksWithout : GoodIn wsX7_lacks (wsV RX7 180 RX7 yX7_lacksWithout wsX7_lacksWithout) := goodIn_app (goodIn_of _ (by decide +kernel)) ggX7_lacks_X7_lacksWithout
theorem dX7_lacks_0 : decode cX7_lacks 0 = .ok (.aload_n 0, 1) := by decide +kernel
theorem dX7_lacks_1 : decode cX7_lacks 1 = .ok (.iconst 0, 1) := by decide +kernel
theorem dX7_lacks_2 : decode cX7_lacks 2 = .ok (.putfield 72, 3) := by decide +kernel
theorem dX7_lacks_5 : decode cX7_lacks 5 = .ok (.aload_n 0, 1) := by decide +kernel
theorem dX7_lacks_6 : decode cX7_lacks 6 = .ok (.getfield 76, 3) := by decide +kernel
theorem dX7_lacks_9 : decode cX7_lacks 9 = .ok (.iconst 2, 1) := by decide +kernel
theorem dX7_lacks_10 : decode cX7_lacks 10 = .ok (.if_icmp .ge 7, 3) := by decide +kernel
theorem dX7_lacks_13 : decode cX7_lacks 13 = .ok (.iconst (-1), 1) := by decide +kernel
theorem dX7_lacks_14 : decode cX7_lacks 14 = .ok (.goto 8, 3) := by decide +kernel
theorem dX7_lacks_17 : decode cX7_lacks 17 = .ok (.aload_n 0, 1) := by decide +kernel
theorem dX7_lacks_18 : decode cX7_lacks 18 = .ok (.iconst (-1), 1) := by decide +kernel
theorem dX7_lacks_19 : decode cX7_lacks 19 = .ok (.invokevirtual 180, 3) := by decide +kernel
theorem dX7_lacks_22 : decode cX7_lacks 22 = .ok (.ireturn, 1) := by decide +kernel
theorem dX7_near_0 : decode cX7_near 0 = .ok (.iconst 0, 1) := by decide +kernel
theorem dX7_near_1 : decode cX7_near 1 = .ok (.istore_n 2, 1) := by decide +kernel
theorem dX7_near_2 : decode cX7_near 2 = .ok (.iconst 0, 1) := by decide +kernel
theorem dX7_near_3 : decode cX7_near 3 = .ok (.istore_n 3, 1) := by decide +kernel
theorem dX7_near_4 : decode cX7_near 4 = .ok (.iload_n 3, 1) := by decide +kernel
theorem dX7_near_5 : decode cX7_near 5 = .ok (.aload_n 0, 1) := by decide +kernel
theorem dX7_near_6 : decode cX7_near 6 = .ok (.getfield 83, 3) := by decide +kernel
theorem dX7_near_9 : decode cX7_near 9 = .ok (.if_icmp .ge 68, 3) := by decide +kernel
theorem dX7_near_12 : decode cX7_near 12 = .ok (.iload_n 2, 1) := by decide +kernel
theorem dX7_near_13 : decode cX7_near 13 = .ok (.aload_n 0, 1) := by decide +kernel
theorem dX7_near_14 : decode cX7_near 14 = .ok (.getfield 35, 3) := by decide +kernel
theorem dX7_near_17 : decode cX7_near 17 = .ok (.iload_n 3, 1) := by decide +kernel
theorem dX7_near_18 : decode cX7_near 18 = .ok (.baload, 1) := by decide +kernel
theorem dX7_near_19 : decode cX7_near 19 = .ok (.ifCond .eq 7, 3) := by decide +kernel
theorem dX7_near_22 : decode cX7_near 22 = .ok (.iconst 0, 1) := by decide +kernel
theorem dX7_near_23 : decode cX7_near 23 = .ok (.goto 46, 3) := by decide +kernel
theorem dX7_near_26 : decode cX7_near 26 = .ok (.aload_n 0, 1) := by decide +kernel
theorem dX7_near_27 : decode cX7_near 27 = .ok (.getfield 23, 3) := by decide +kernel
theorem dX7_near_30 : decode cX7_near 30 = .ok (.iload_n 3, 1) := by decide +kernel
theorem dX7_near_31 : decode cX7_near 31 = .ok (.iaload, 1) := by decide +kernel
theorem dX7_near_32 : decode cX7_near 32 = .ok (.iload_n 1, 1) := by decide +kernel
theorem dX7_near_33 : decode cX7_near 33 = .ok (.if_icmp .ne 14, 3) := by decide +kernel
theorem dX7_near_36 : decode cX7_near 36 = .ok (.iconst 1, 1) := by decide +kernel
theorem dX7_near_37 : decode cX7_near 37 = .ok (.aload_n 0, 1) := by decide +kernel
theorem dX7_near_38 : decode cX7_near 38 = .ok (.getfield 26, 3) := by decide +kernel
theorem dX7_near_41 : decode cX7_near 41 = .ok (.iload_n 3, 1) := by decide +kernel
theorem dX7_near_42 : decode cX7_near 42 = .ok (.iaload, 1) := by decide +kernel
theorem dX7_near_43 : decode cX7_near 43 = .ok (.ishl, 1) := by decide +kernel
theorem dX7_near_44 : decode cX7_near 44 = .ok (.goto 25, 3) := by decide +kernel
theorem dX7_near_47 : decode cX7_near 47 = .ok (.aload_n 0, 1) := by decide +kernel
theorem dX7_near_48 : decode cX7_near 48 = .ok (.getfield 26, 3) := by decide +kernel
theorem dX7_near_51 : decode cX7_near 51 = .ok (.iload_n 3, 1) := by decide +kernel
theorem dX7_near_52 : decode cX7_near 52 = .ok (.iaload, 1) := by decide +kernel
theorem dX7_near_53 : decode cX7_near 53 = .ok (.iload_n 1, 1) := by decide +kernel
theorem dX7_near_54 : decode cX7_near 54 = .ok (.if_icmp .ne 14, 3) := by decide +kernel
theorem dX7_near_57 : decode cX7_near 57 = .ok (.iconst 1, 1) := by decide +kernel
theorem dX7_near_58 : decode cX7_near 58 = .ok (.aload_n 0, 1) := by decide +kernel
theorem dX7_near_59 : decode cX7_near 59 = .ok (.getfield 23, 3) := by decide +kernel
theorem dX7_near_62 : decode cX7_near 62 = .ok (.iload_n 3, 1) := by decide +kernel
theorem dX7_near_63 : decode cX7_near 63 = .ok (.iaload, 1) := by decide +kernel
theorem dX7_near_64 : decode cX7_near 64 = .ok (.ishl, 1) := by decide +kernel
theorem dX7_near_65 : decode cX7_near 65 = .ok (.goto 4, 3) := by decide +kernel
theorem dX7_near_68 : decode cX7_near 68 = .ok (.iconst 0, 1) := by decide +kernel
theorem dX7_near_69 : decode cX7_near 69 = .ok (.ior, 1) := by decide +kernel
theorem dX7_near_70 : decode cX7_near 70 = .ok (.istore_n 2, 1) := by decide +kernel
theorem dX7_near_71 : decode cX7_near 71 = .ok (.iinc 3 1, 3) := by decide +kernel
theorem dX7_near_74 : decode cX7_near 74 = .ok (.goto (-70), 3) := by decide +kernel
theorem dX7_near_77 : decode cX7_near 77 = .ok (.iload_n 2, 1) := by decide +kernel
theorem dX7_near_78 : decode cX7_near 78 = .ok (.ireturn, 1) := by decide +kernel
set_option maxRecDepth 20000 in
theorem ggX7_doHang_X7_near : GoodIn wsX7_doHang wsX7_near := goodIn_r _ [6, 7, 8, 9, 10, 11, 12, 13, 14, 15, 16, 17, 18, 19, 20, 21, 22, 23, 24, 25, 26, 27, 28, 29, 30, 31, 32, 33, 34, 35] (by decide +kernel) (by decide +kernel)
set_option maxRecDepth 20000 in
theorem gX7_doHang_X7_near : GoodIn wsX7_doHang (wsV RX7 183 RX7 yX7_near wsX7_near) := goodIn_app (goodIn_of _ (by decide +kernel)) ggX7_doHang_X7_near
theorem dX7_doHang_0 : decode cX7_doHang 0 = .ok (.iconst 1, 1) := by decide +kernel
theorem dX7_doHang_1 : decode cX7_doHang 1 = .ok (.aload_n 0, 1) := by decide +kernel
theorem dX7_doHang_2 : decode cX7_doHang 2 = .ok (.getfield 76, 3) := by decide +kernel
theorem dX7_doHang_5 : decode cX7_doHang 5 = .ok (.ishl, 1) := by decide +kernel
theorem dX7_doHang_6 : decode cX7_doHang 6 = .ok (.iconst 1, 1) := by decide +kernel
theorem dX7_doHang_7 : decode cX7_doHang 7 = .ok (.isub, 1) := by decide +kernel
theorem dX7_doHang_8 : decode cX7_doHang 8 = .ok (.iload_n 1, 1) := by decide +kernel
theorem dX7_doHang_9 : decode cX7_doHang 9 = .ok (.iconst (-1), 1) := by decide +kernel
theorem dX7_doHang_10 : decode cX7_doHang 10 = .ok (.ixor, 1) := by decide +kernel
theorem dX7_doHang_11 : decode cX7_doHang 11 = .ok (.iand, 1) := by decide +kernel
theorem dX7_doHang_12 : decode cX7_doHang 12 = .ok (.istore_n 2, 1) := by decide +kernel
theorem dX7_doHang_13 : decode cX7_doHang 13 = .ok (.iload_n 2, 1) := by decide +kernel
theorem dX7_doHang_14 : decode cX7_doHang 14 = .ok (.iload_n 2, 1) := by decide +kernel
theorem dX7_doHang_15 : decode cX7_doHang 15 = .ok (.ineg, 1) := by decide +kernel
theorem dX7_doHang_16 : decode cX7_doHang 16 = .ok (.iand, 1) := by decide +kernel
theorem dX7_doHang_17 : decode cX7_doHang 17 = .ok (.istore_n 3, 1) := by decide +kernel
theorem dX7_doHang_18 : decode cX7_doHang 18 = .ok (.iconst 0, 1) := by decide +kernel
theorem dX7_doHang_19 : decode cX7_doHang 19 = .ok (.istore 4, 2) := by decide +kernel
theorem dX7_doHang_21 : decode cX7_doHang 21 = .ok (.iload 4, 2) := by decide +kernel
theorem dX7_doHang_23 : decode cX7_doHang 23 = .ok (.aload_n 0, 1) := by decide +kernel
theorem dX7_doHang_24 : decode cX7_doHang 24 = .ok (.getfield 76, 3) := by decide +kernel
theorem dX7_doHang_27 : decode cX7_doHang 27 = .ok (.if_icmp .ge 52, 3) := by decide +kernel
theorem dX7_doHang_30 : decode cX7_doHang 30 = .ok (.iconst 0, 1) := by decide +kernel
theorem dX7_doHang_31 : decode cX7_doHang 31 = .ok (.istore 5, 2) := by decide +kernel
theorem dX7_doHang_33 : decode cX7_doHang 33 = .ok (.iload 5, 2) := by decide +kernel
theorem dX7_doHang_35 : decode cX7_doHang 35 = .ok (.aload_n 0, 1) := by decide +kernel
theorem dX7_doHang_36 : decode cX7_doHang 36 = .ok (.getfield 76, 3) := by decide +kernel
theorem dX7_doHang_39 : decode cX7_doHang 39 = .ok (.if_icmp .ge 34, 3) := by decide +kernel
theorem dX7_doHang_42 : decode cX7_doHang 42 = .ok (.iload_n 3, 1) := by decide +kernel
theorem dX7_doHang_43 : decode cX7_doHang 43 = .ok (.iload_n 3, 1) := by decide +kernel
theorem dX7_doHang_44 : decode cX7_doHang 44 = .ok (.iload 5, 2) := by decide +kernel
theorem dX7_doHang_46 : decode cX7_doHang 46 = .ok (.ishr, 1) := by decide +kernel
theorem dX7_doHang_47 : decode cX7_doHang 47 = .ok (.iconst 1, 1) := by decide +kernel
theorem dX7_doHang_48 : decode cX7_doHang 48 = .ok (.iand, 1) := by decide +kernel
theorem dX7_doHang_49 : decode cX7_doHang 49 = .ok (.iconst 1, 1) := by decide +kernel
theorem dX7_doHang_50 : decode cX7_doHang 50 = .ok (.if_icmp .ne 14, 3) := by decide +kernel
theorem dX7_doHang_53 : decode cX7_doHang 53 = .ok (.aload_n 0, 1) := by decide +kernel
theorem dX7_doHang_54 : decode cX7_doHang 54 = .ok (.iload 5, 2) := by decide +kernel
theorem dX7_doHang_56 : decode cX7_doHang 56 = .ok (.invokevirtual 183, 3) := by decide +kernel
theorem dX7_doHang_59 : decode cX7_doHang 59 = .ok (.iload_n 2, 1) := by decide +kernel
theorem dX7_doHang_60 : decode cX7_doHang 60 = .ok (.iand, 1) := by decide +kernel
theorem dX7_doHang_61 : decode cX7_doHang 61 = .ok (.goto 4, 3) := by decide +kernel
theorem dX7_doHang_64 : decode cX7_doHang 64 = .ok (.iconst 0, 1) := by decide +kernel
theorem dX7_doHang_65 : decode cX7_doHang 65 = .ok (.ior, 1) := by decide +kernel
theorem dX7_doHang_66 : decode cX7_doHang 66 = .ok (.istore_n 3, 1) := by decide +kernel
theorem dX7_doHang_67 : decode cX7_doHang 67 = .ok (.iinc 5 1, 3) := by decide +kernel
theorem dX7_doHang_70 : decode cX7_doHang 70 = .ok (.goto (-37), 3) := by decide +kernel
theorem dX7_doHang_73 : decode cX7_doHang 73 = .ok (.iinc 4 1, 3) := by decide +kernel
theorem dX7_doHang_76 : decode cX7_doHang 76 = .ok (.goto (-55), 3) := by decide +kernel
theorem dX7_doHang_79 : decode cX7_doHang 79 = .ok (.iload_n 3, 1) := by decide +kernel
theorem dX7_doHang_80 : decode cX7_doHang 80 = .ok (.iload_n 2, 1) := by decide +kernel
theorem dX7_doHang_81 : decode cX7_doHang 81 = .ok (.if_icmp .ne 7, 3) := by decide +kernel
theorem dX7_doHang_84 : decode cX7_doHang 84 = .ok (.iconst 1, 1) := by decide +kernel
theorem dX7_doHang_85 : decode cX7_doHang 85 = .ok (.goto 4, 3) := by decide +kernel
theorem dX7_doHang_88 : decode cX7_doHang 88 = .ok (.iconst 0, 1) := by decide +kernel
theorem dX7_doHang_89 : decode cX7_doHang 89 = .ok (.ireturn, 1) := by decide +kernel
set_option maxRecDepth 20000 in
theorem ggX7_isWhole_X7_near : GoodIn wsX7_isWhole wsX7_near := goodIn_r _ [6, 7, 8, 9, 10, 14, 15, 16, 17, 18, 19, 20, 21, 22, 23, 24, 25, 26, 27, 28, 29, 30, 31, 32, 33, 34, 35, 36, 37, 38] (by decide +kernel) (by decide +kernel)
set_option maxRecDepth 20000 in
theorem gX7_isWhole_X7_near : GoodIn wsX7_isWhole (wsV RX7 183 RX7 yX7_near wsX7_near) := goodIn_app (goodIn_of _ (by decide +kernel)) ggX7_isWhole_X7_near
set_option maxRecDepth 20000 in
theorem ggX7_isWhole_X7_bits : GoodIn wsX7_isWhole wsX7_bits := goodIn_r _ [13] (by decide +kernel) (by decide +kernel)
set_option maxRecDepth 20000 in
theorem gX7_isWhole_X7_bits : GoodIn wsX7_isWhole (va_wsS RX7 168 yX7_bits wsX7_bits) := goodIn_app (goodIn_of _ (by decide +kernel)) ggX7_isWhole_X7_bits
theorem dX7_isWhole_0 : decode cX7_isWhole 0 = .ok (.iconst 1, 1) := by decide +kernel
theorem dX7_isWhole_1 : decode cX7_isWhole 1 = .ok (.istore_n 1, 1) := by decide +kernel
theorem dX7_isWhole_2 : decode cX7_isWhole 2 = .ok (.iconst 0, 1) := by decide +kernel
theorem dX7_isWhole_3 : decode cX7_isWhole 3 = .ok (.istore_n 2, 1) := by decide +kernel
theorem dX7_isWhole_4 : decode cX7_isWhole 4 = .ok (.iload_n 2, 1) := by decide +kernel
theorem dX7_isWhole_5 : decode cX7_isWhole 5 = .ok (.aload_n 0, 1) := by decide +kernel
theorem dX7_isWhole_6 : decode cX7_isWhole 6 = .ok (.getfield 76, 3) := by decide +kernel
theorem dX7_isWhole_9 : decode cX7_isWhole 9 = .ok (.if_icmp .ge 36, 3) := by decide +kernel
theorem dX7_isWhole_12 : decode cX7_isWhole 12 = .ok (.iload_n 1, 1) := by decide +kernel
theorem dX7_isWhole_13 : decode cX7_isWhole 13 = .ok (.ifCond .eq 24, 3) := by decide +kernel
theorem dX7_isWhole_16 : decode cX7_isWhole 16 = .ok (.aload_n 0, 1) := by decide +kernel
theorem dX7_isWhole_17 : decode cX7_isWhole 17 = .ok (.iload_n 2, 1) := by decide +kernel
theorem dX7_isWhole_18 : decode cX7_isWhole 18 = .ok (.invokevirtual 183, 3) := by decide +kernel
theorem dX7_isWhole_21 : decode cX7_isWhole 21 = .ok (.invokestatic 168, 3) := by decide +kernel
theorem dX7_isWhole_24 : decode cX7_isWhole 24 = .ok (.aload_n 0, 1) := by decide +kernel
theorem dX7_isWhole_25 : decode cX7_isWhole 25 = .ok (.getfield 76, 3) := by decide +kernel
theorem dX7_isWhole_28 : decode cX7_isWhole 28 = .ok (.iconst 1, 1) := by decide +kernel
theorem dX7_isWhole_29 : decode cX7_isWhole 29 = .ok (.isub, 1) := by decide +kernel
theorem dX7_isWhole_30 : decode cX7_isWhole 30 = .ok (.if_icmp .ne 7, 3) := by decide +kernel
theorem dX7_isWhole_33 : decode cX7_isWhole 33 = .ok (.iconst 1, 1) := by decide +kernel
theorem dX7_isWhole_34 : decode cX7_isWhole 34 = .ok (.goto 4, 3) := by decide +kernel
theorem dX7_isWhole_37 : decode cX7_isWhole 37 = .ok (.iconst 0, 1) := by decide +kernel
theorem dX7_isWhole_38 : decode cX7_isWhole 38 = .ok (.istore_n 1, 1) := by decide +kernel
theorem dX7_isWhole_39 : decode cX7_isWhole 39 = .ok (.iinc 2 1, 3) := by decide +kernel
theorem dX7_isWhole_42 : decode cX7_isWhole 42 = .ok (.goto (-38), 3) := by decide +kernel
theorem dX7_isWhole_45 : decode cX7_isWhole 45 = .ok (.iload_n 1, 1) := by decide +kernel
theorem dX7_isWhole_46 : decode cX7_isWhole 46 = .ok (.ireturn, 1) := by decide +kernel
set_option maxRecDepth 20000 in
theorem ggX7_isGlobal_X7_isWhole : GoodIn wsX7_isGlobal wsX7_isWhole := goodIn_r _ [9, 2, 10, 11, 12, 8, 13, 3, 4, 14, 15, 16, 17, 18, 41, 42, 43, 44, 45, 46, 47, 48, 49, 50, 51, 52, 53, 54, 55, 56, 57, 58, 59, 60, 61, 62, 63, 64, 65] (by decide +kernel) (by decide +kernel)
set_option maxRecDepth 20000 in
theorem gX7_isGlobal_X7_isWhole : GoodIn wsX7_isGlobal (wsV RX7 186 RX7 yX7_isWhole wsX7_isWhole) := goodIn_app (goodIn_of _ (by decide +kernel)) ggX7_isGlobal_X7_isWhole
set_option maxRecDepth 20000 in
theorem ggX7_isGlobal_X7_lacksWithout : GoodIn wsX7_isGlobal wsX7_lacksWithout := goodIn_r _ [22, 2, 23, 24, 25, 8, 26, 27, 3, 28, 4, 14, 15, 29, 30, 31, 32, 33, 34, 35, 36, 16, 17, 18, 41, 42, 43, 44, 45, 46, 47, 48, 49, 50, 51, 52, 53, 54, 55, 56, 57, 58, 59, 60, 61, 62, 63, 64, 65] (by decide +kernel) (by decide +kernel)
set_option maxRecDepth 20000 in
theorem gX7_isGlobal_X7_lacksWithout : GoodIn wsX7_isGlobal (wsV RX7 180 RX7 yX7_lacksWithout wsX7_lacksWithout) := goodIn_app (goodIn_of _ (by decide +kernel)) ggX7_isGlobal_X7_lacksWithout
set_option maxRecDepth 20000 in
theorem ggX7_isGlobal_X7_doHang : GoodIn wsX7_isGlobal wsX7_doHang := goodIn_r _ [40, 2, 10, 11, 12, 8, 13, 3, 4, 14, 15, 41, 42, 43, 44, 45, 46, 47, 48, 49, 50, 51, 52, 53, 54, 55, 56, 57, 58, 59, 60, 61, 62, 63, 64, 65] (by decide +kernel) (by decide +kernel)
set_option maxRecDepth 20000 in
theorem gX7_isGlobal_X7_doHang : GoodIn wsX7_isGlobal (wsV RX7 190 RX7 yX7_doHang wsX7_doHang) := goodIn_app (goodIn_of _ (by decide +kernel)) ggX7_isGlobal_X7_doHang
theorem dX7_isGlobal_0 : decode cX7_isGlobal 0 = .ok (.aload_n 0, 1) := by decide +kernel
theorem dX7_isGlobal_1 : decode cX7_isGlobal 1 = .ok (.iconst 0, 1) := by decide +kernel
theorem dX7_isGlobal_2 : decode cX7_isGlobal 2 = .ok (.putfield 72, 3) := by decide +kernel
theorem dX7_isGlobal_5 : decode cX7_isGlobal 5 = .ok (.aload_n 0, 1) := by decide +kernel
theorem dX7_isGlobal_6 : decode cX7_isGlobal 6 = .ok (.invokevirtual 186, 3) := by decide +kernel
theorem dX7_isGlobal_9 : decode cX7_isGlobal 9 = .ok (.ifCond .eq 5, 3) := by decide +kernel
theorem dX7_isGlobal_12 : decode cX7_isGlobal 12 = .ok (.iconst 1, 1) := by decide +kernel
theorem dX7_isGlobal_13 : decode cX7_isGlobal 13 = .ok (.ireturn, 1) := by decide +kernel
theorem dX7_isGlobal_14 : decode cX7_isGlobal 14 = .ok (.aload_n 0, 1) := by decide +kernel
theorem dX7_isGlobal_15 : decode cX7_isGlobal 15 = .ok (.getfield 76, 3) := by decide +kernel
theorem dX7_isGlobal_18 : decode cX7_isGlobal 18 = .ok (.iconst 3, 1) := by decide +kernel
theorem dX7_isGlobal_19 : decode cX7_isGlobal 19 = .ok (.if_icmp .le 15, 3) := by decide +kernel
theorem dX7_isGlobal_22 : decode cX7_isGlobal 22 = .ok (.aload_n 0, 1) := by decide +kernel
theorem dX7_isGlobal_23 : decode cX7_isGlobal 23 = .ok (.iconst (-1), 1) := by decide +kernel
theorem dX7_isGlobal_24 : decode cX7_isGlobal 24 = .ok (.invokevirtual 180, 3) := by decide +kernel
theorem dX7_isGlobal_27 : decode cX7_isGlobal 27 = .ok (.ifCond .ne 7, 3) := by decide +kernel
theorem dX7_isGlobal_30 : decode cX7_isGlobal 30 = .ok (.iconst 1, 1) := by decide +kernel
theorem dX7_isGlobal_31 : decode cX7_isGlobal 31 = .ok (.goto 4, 3) := by decide +kernel
theorem dX7_isGlobal_34 : decode cX7_isGlobal 34 = .ok (.iconst 0, 1) := by decide +kernel
theorem dX7_isGlobal_35 : decode cX7_isGlobal 35 = .ok (.istore_n 1, 1) := by decide +kernel
theorem dX7_isGlobal_36 : decode cX7_isGlobal 36 = .ok (.iconst 0, 1) := by decide +kernel
theorem dX7_isGlobal_37 : decode cX7_isGlobal 37 = .ok (.istore_n 2, 1) := by decide +kernel
theorem dX7_isGlobal_38 : decode cX7_isGlobal 38 = .ok (.iload_n 2, 1) := by decide +kernel
theorem dX7_isGlobal_39 : decode cX7_isGlobal 39 = .ok (.aload_n 0, 1) := by decide +kernel
theorem dX7_isGlobal_40 : decode cX7_isGlobal 40 = .ok (.getfield 83, 3) := by decide +kernel
theorem dX7_isGlobal_43 : decode cX7_isGlobal 43 = .ok (.if_icmp .ge 36, 3) := by decide +kernel
theorem dX7_isGlobal_46 : decode cX7_isGlobal 46 = .ok (.iload_n 1, 1) := by decide +kernel
theorem dX7_isGlobal_47 : decode cX7_isGlobal 47 = .ok (.ifCond .eq 32, 3) := by decide +kernel
theorem dX7_isGlobal_50 : decode cX7_isGlobal 50 = .ok (.aload_n 0, 1) := by decide +kernel
theorem dX7_isGlobal_51 : decode cX7_isGlobal 51 = .ok (.getfield 35, 3) := by decide +kernel
theorem dX7_isGlobal_54 : decode cX7_isGlobal 54 = .ok (.iload_n 2, 1) := by decide +kernel
theorem dX7_isGlobal_55 : decode cX7_isGlobal 55 = .ok (.baload, 1) := by decide +kernel
theorem dX7_isGlobal_56 : decode cX7_isGlobal 56 = .ok (.ifCond .ne 11, 3) := by decide +kernel
theorem dX7_isGlobal_59 : decode cX7_isGlobal 59 = .ok (.aload_n 0, 1) := by decide +kernel
theorem dX7_isGlobal_60 : decode cX7_isGlobal 60 = .ok (.iload_n 2, 1) := by decide +kernel
theorem dX7_isGlobal_61 : decode cX7_isGlobal 61 = .ok (.invokevirtual 180, 3) := by decide +kernel
theorem dX7_isGlobal_64 : decode cX7_isGlobal 64 = .ok (.ifCond .ne 7, 3) := by decide +kernel
theorem dX7_isGlobal_67 : decode cX7_isGlobal 67 = .ok (.iconst 1, 1) := by decide +kernel
theorem dX7_isGlobal_68 : decode cX7_isGlobal 68 = .ok (.goto 4, 3) := by decide +kernel
theorem dX7_isGlobal_71 : decode cX7_isGlobal 71 = .ok (.iconst 0, 1) := by decide +kernel
theorem dX7_isGlobal_72 : decode cX7_isGlobal 72 = .ok (.istore_n 1, 1) := by decide +kernel
theorem dX7_isGlobal_73 : decode cX7_isGlobal 73 = .ok (.iinc 2 1, 3) := by decide +kernel
theorem dX7_isGlobal_76 : decode cX7_isGlobal 76 = .ok (.goto (-38), 3) := by decide +kernel
theorem dX7_isGlobal_79 : decode cX7_isGlobal 79 = .ok (.iconst 0, 1) := by decide +kernel
theorem dX7_isGlobal_80 : decode cX7_isGlobal 80 = .ok (.istore_n 2, 1) := by decide +kernel
theorem dX7_isGlobal_81 : decode cX7_isGlobal 81 = .ok (.iload_n 2, 1) := by decide +kernel
theorem dX7_isGlobal_82 : decode cX7_isGlobal 82 = .ok (.aload_n 0, 1) := by decide +kernel
theorem dX7_isGlobal_83 : decode cX7_isGlobal 83 = .ok (.getfield 76, 3) := by decide +kernel
theorem dX7_isGlobal_86 : decode cX7_isGlobal 86 = .ok (.aload_n 0, 1) := by decide +kernel
theorem dX7_isGlobal_87 : decode cX7_isGlobal 87 = .ok (.getfield 76, 3) := by decide +kernel
theorem dX7_isGlobal_90 : decode cX7_isGlobal 90 = .ok (.imul, 1) := by decide +kernel
theorem dX7_isGlobal_91 : decode cX7_isGlobal 91 = .ok (.if_icmp .ge 58, 3) := by decide +kernel
theorem dX7_isGlobal_94 : decode cX7_isGlobal 94 = .ok (.iload_n 1, 1) := by decide +kernel
theorem dX7_isGlobal_95 : decode cX7_isGlobal 95 = .ok (.ifCond .eq 54, 3) := by decide +kernel
theorem dX7_isGlobal_98 : decode cX7_isGlobal 98 = .ok (.iload_n 2, 1) := by decide +kernel
theorem dX7_isGlobal_99 : decode cX7_isGlobal 99 = .ok (.aload_n 0, 1) := by decide +kernel
theorem dX7_isGlobal_100 : decode cX7_isGlobal 100 = .ok (.getfield 76, 3) := by decide +kernel
theorem dX7_isGlobal_103 : decode cX7_isGlobal 103 = .ok (.idiv, 1) := by decide +kernel
theorem dX7_isGlobal_104 : decode cX7_isGlobal 104 = .ok (.iload_n 2, 1) := by decide +kernel
theorem dX7_isGlobal_105 : decode cX7_isGlobal 105 = .ok (.aload_n 0, 1) := by decide +kernel
theorem dX7_isGlobal_106 : decode cX7_isGlobal 106 = .ok (.getfield 76, 3) := by decide +kernel
theorem dX7_isGlobal_109 : decode cX7_isGlobal 109 = .ok (.irem, 1) := by decide +kernel
theorem dX7_isGlobal_110 : decode cX7_isGlobal 110 = .ok (.if_icmp .ge 27, 3) := by decide +kernel
theorem dX7_isGlobal_113 : decode cX7_isGlobal 113 = .ok (.aload_n 0, 1) := by decide +kernel
theorem dX7_isGlobal_114 : decode cX7_isGlobal 114 = .ok (.iconst 1, 1) := by decide +kernel
theorem dX7_isGlobal_115 : decode cX7_isGlobal 115 = .ok (.iload_n 2, 1) := by decide +kernel
theorem dX7_isGlobal_116 : decode cX7_isGlobal 116 = .ok (.aload_n 0, 1) := by decide +kernel
theorem dX7_isGlobal_117 : decode cX7_isGlobal 117 = .ok (.getfield 76, 3) := by decide +kernel
theorem dX7_isGlobal_120 : decode cX7_isGlobal 120 = .ok (.idiv, 1) := by decide +kernel
theorem dX7_isGlobal_121 : decode cX7_isGlobal 121 = .ok (.ishl, 1) := by decide +kernel
theorem dX7_isGlobal_122 : decode cX7_isGlobal 122 = .ok (.iconst 1, 1) := by decide +kernel
theorem dX7_isGlobal_123 : decode cX7_isGlobal 123 = .ok (.iload_n 2, 1) := by decide +kernel
theorem dX7_isGlobal_124 : decode cX7_isGlobal 124 = .ok (.aload_n 0, 1) := by decide +kernel
theorem dX7_isGlobal_125 : decode cX7_isGlobal 125 = .ok (.getfield 76, 3) := by decide +kernel
theorem dX7_isGlobal_128 : decode cX7_isGlobal 128 = .ok (.irem, 1) := by decide +kernel
theorem dX7_isGlobal_129 : decode cX7_isGlobal 129 = .ok (.ishl, 1) := by decide +kernel
theorem dX7_isGlobal_130 : decode cX7_isGlobal 130 = .ok (.ior, 1) := by decide +kernel
theorem dX7_isGlobal_131 : decode cX7_isGlobal 131 = .ok (.invokevirtual 190, 3) := by decide +kernel
theorem dX7_isGlobal_134 : decode cX7_isGlobal 134 = .ok (.ifCond .eq 7, 3) := by decide +kernel
theorem dX7_isGlobal_137 : decode cX7_isGlobal 137 = .ok (.iconst 1, 1) := by decide +kernel
theorem dX7_isGlobal_138 : decode cX7_isGlobal 138 = .ok (.goto 4, 3) := by decide +kernel
theorem dX7_isGlobal_141 : decode cX7_isGlobal 141 = .ok (.iconst 0, 1) := by decide +kernel
theorem dX7_isGlobal_142 : decode cX7_isGlobal 142 = .ok (.istore_n 1, 1) := by decide +kernel
theorem dX7_isGlobal_143 : decode cX7_isGlobal 143 = .ok (.iinc 2 1, 3) := by decide +kernel
theorem dX7_isGlobal_146 : decode cX7_isGlobal 146 = .ok (.goto (-65), 3) := by decide +kernel
theorem dX7_isGlobal_149 : decode cX7_isGlobal 149 = .ok (.iload_n 1, 1) := by decide +kernel
theorem dX7_isGlobal_150 : decode cX7_isGlobal 150 = .ok (.ireturn, 1) := by decide +kernel
set_option maxRecDepth 20000 in
theorem ggX7_steps_X7_adds : GoodIn wsX7_steps wsX7_adds := goodIn_r _ [12, 13, 3, 14, 15, 16, 17, 18, 19, 20, 21, 22, 23, 24, 25, 26, 27, 28, 29, 30, 31, 32, 33, 34, 35, 36, 37, 38, 39, 40, 41] (by decide +kernel) (by decide +kernel)
set_option maxRecDepth 20000 in
theorem gX7_steps_X7_adds : GoodIn wsX7_steps (wsV RX7 94 RX7 yX7_adds wsX7_adds) := goodIn_app (goodIn_of _ (by decide +kernel)) ggX7_steps_X7_adds
theorem dX7_steps_0 : decode cX7_steps 0 = .ok (.aload_n 0, 1) := by decide +kernel
theorem dX7_steps_1 : decode cX7_steps 1 = .ok (.getfield 38, 3) := by decide +kernel
theorem dX7_steps_4 : decode cX7_steps 4 = .ok (.aload_n 0, 1) := by decide +kernel
theorem dX7_steps_5 : decode cX7_steps 5 = .ok (.getfield 193, 3) := by decide +kernel
theorem dX7_steps_8 : decode cX7_steps 8 = .ok (.aload_n 0, 1) := by decide +kernel
theorem dX7_steps_9 : decode cX7_steps 9 = .ok (.getfield 76, 3) := by decide +kernel
theorem dX7_steps_12 : decode cX7_steps 12 = .ok (.iastore, 1) := by decide +kernel
theorem dX7_steps_13 : decode cX7_steps 13 = .ok (.aload_n 0, 1) := by decide +kernel
theorem dX7_steps_14 : decode cX7_steps 14 = .ok (.getfield 41, 3) := by decide +kernel
theorem dX7_steps_17 : decode cX7_steps 17 = .ok (.aload_n 0, 1) := by decide +kernel
theorem dX7_steps_18 : decode cX7_steps 18 = .ok (.getfield 193, 3) := by decide +kernel
theorem dX7_steps_21 : decode cX7_steps 21 = .ok (.aload_n 0, 1) := by decide +kernel
theorem dX7_steps_22 : decode cX7_steps 22 = .ok (.getfield 83, 3) := by decide +kernel
theorem dX7_steps_25 : decode cX7_steps 25 = .ok (.iastore, 1) := by decide +kernel
theorem dX7_steps_26 : decode cX7_steps 26 = .ok (.aload_n 0, 1) := by decide +kernel
theorem dX7_steps_27 : decode cX7_steps 27 = .ok (.getfield 44, 3) := by decide +kernel
theorem dX7_steps_30 : decode cX7_steps 30 = .ok (.aload_n 0, 1) := by decide +kernel
theorem dX7_steps_31 : decode cX7_steps 31 = .ok (.getfield 193, 3) := by decide +kernel
theorem dX7_steps_34 : decode cX7_steps 34 = .ok (.iload_n 1, 1) := by decide +kernel
theorem dX7_steps_35 : decode cX7_steps 35 = .ok (.iastore, 1) := by decide +kernel
theorem dX7_steps_36 : decode cX7_steps 36 = .ok (.aload_n 0, 1) := by decide +kernel
theorem dX7_steps_37 : decode cX7_steps 37 = .ok (.getfield 47, 3) := by decide +kernel
theorem dX7_steps_40 : decode cX7_steps 40 = .ok (.aload_n 0, 1) := by decide +kernel
theorem dX7_steps_41 : decode cX7_steps 41 = .ok (.getfield 193, 3) := by decide +kernel
theorem dX7_steps_44 : decode cX7_steps 44 = .ok (.iload_n 2, 1) := by decide +kernel
theorem dX7_steps_45 : decode cX7_steps 45 = .ok (.iastore, 1) := by decide +kernel
theorem dX7_steps_46 : decode cX7_steps 46 = .ok (.aload_n 0, 1) := by decide +kernel
theorem dX7_steps_47 : decode cX7_steps 47 = .ok (.dup, 1) := by decide +kernel
theorem dX7_steps_48 : decode cX7_steps 48 = .ok (.getfield 193, 3) := by decide +kernel
theorem dX7_steps_51 : decode cX7_steps 51 = .ok (.iconst 1, 1) := by decide +kernel
theorem dX7_steps_52 : decode cX7_steps 52 = .ok (.iadd, 1) := by decide +kernel
theorem dX7_steps_53 : decode cX7_steps 53 = .ok (.putfield 193, 3) := by decide +kernel
theorem dX7_steps_56 : decode cX7_steps 56 = .ok (.aload_n 0, 1) := by decide +kernel
theorem dX7_steps_57 : decode cX7_steps 57 = .ok (.iload_n 3, 1) := by decide +kernel
theorem dX7_steps_58 : decode cX7_steps 58 = .ok (.iload 4, 2) := by decide +kernel
theorem dX7_steps_60 : decode cX7_steps 60 = .ok (.invokevirtual 94, 3) := by decide +kernel
theorem dX7_steps_63 : decode cX7_steps 63 = .ok (.ireturn, 1) := by decide +kernel
set_option maxRecDepth 20000 in
theorem ggX7_grow_X7_isJoint : GoodIn wsX7_grow wsX7_isJoint := goodIn_r _ [7, 1, 8, 9, 6, 10, 43, 44, 45, 46, 47, 48, 49, 50, 51, 52, 53, 54, 55, 56, 57, 58, 59, 60, 61, 62, 63, 64, 65, 66, 67] (by decide +kernel) (by decide +kernel)
set_option maxRecDepth 20000 in
theorem gX7_grow_X7_isJoint : GoodIn wsX7_grow (wsV RX7 98 RX7 yX7_isJoint wsX7_isJoint) := goodIn_app (goodIn_of _ (by decide +kernel)) ggX7_grow_X7_isJoint
set_option maxRecDepth 20000 in
theorem ggX7_grow_X7_isPoint : GoodIn wsX7_grow wsX7_isPoint := goodIn_r _ [13, 8, 9, 6, 10] (by decide +kernel) (by decide +kernel)
set_option maxRecDepth 20000 in
theorem gX7_grow_X7_isPoint : GoodIn wsX7_grow (va_wsS RX7 86 yX7_isPoint wsX7_isPoint) := goodIn_app (goodIn_of _ (by decide +kernel)) ggX7_grow_X7_isPoint
set_option maxRecDepth 20000 in
theorem ggX7_grow_X7_holds : GoodIn wsX7_grow wsX7_holds := goodIn_r _ [17, 18, 43, 44, 45, 46, 47, 48, 49, 50, 51, 52, 53, 54, 55, 56, 57, 58, 59, 60, 61, 62, 63, 64, 65, 66, 67] (by decide +kernel) (by decide +kernel)
set_option maxRecDepth 20000 in
theorem gX7_grow_X7_holds : GoodIn wsX7_grow (wsV RX7 90 RX7 yX7_holds wsX7_holds) := goodIn_app (goodIn_of _ (by decide +kernel)) ggX7_grow_X7_holds
set_option maxRecDepth 20000 in
theorem ggX7_grow_X7_steps : GoodIn wsX7_grow wsX7_steps := goodIn_r _ [22, 23, 24, 1, 25, 2, 26, 27, 28, 29, 30, 6, 31, 32, 33, 34, 35, 43, 44, 45, 46, 47, 48, 49, 50, 51, 52, 53, 54, 55, 56, 57, 58, 59, 60, 61, 62, 63, 64, 65, 66, 67] (by decide +kernel) (by decide +kernel)
set_option maxRecDepth 20000 in
theorem gX7_grow_X7_steps : GoodIn wsX7_grow (wsV RX7 196 RX7 yX7_steps wsX7_steps) := goodIn_app (goodIn_of _ (by decide +kernel)) ggX7_grow_X7_steps
set_option maxRecDepth 20000 in
theorem ggX7_grow_X7_sets : GoodIn wsX7_grow wsX7_sets := goodIn_r _ [39, 40, 2, 41, 42, 43, 44, 45, 46, 47, 48, 49, 50, 51, 52, 53, 54, 55, 56, 57, 58, 59, 60, 61, 62, 63, 64, 65, 66, 67] (by decide +kernel) (by decide +kernel)
set_option maxRecDepth 20000 in
theorem gX7_grow_X7_sets : GoodIn wsX7_grow (wsV RX7 104 RX7 yX7_sets wsX7_sets) := goodIn_app (goodIn_of _ (by decide +kernel)) ggX7_grow_X7_sets
theorem dX7_grow_0 : decode cX7_grow 0 = .ok (.aload_n 0, 1) := by decide +kernel
theorem dX7_grow_1 : decode cX7_grow 1 = .ok (.iload_n 1, 1) := by decide +kernel
theorem dX7_grow_2 : decode cX7_grow 2 = .ok (.invokevirtual 98, 3) := by decide +kernel
theorem dX7_grow_5 : decode cX7_grow 5 = .ok (.ifCond .eq 15, 3) := by decide +kernel
theorem dX7_grow_8 : decode cX7_grow 8 = .ok (.aload_n 0, 1) := by decide +kernel
theorem dX7_grow_9 : decode cX7_grow 9 = .ok (.iload_n 2, 1) := by decide +kernel
theorem dX7_grow_10 : decode cX7_grow 10 = .ok (.invokevirtual 98, 3) := by decide +kernel
theorem dX7_grow_13 : decode cX7_grow 13 = .ok (.ifCond .eq 7, 3) := by decide +kernel
theorem dX7_grow_16 : decode cX7_grow 16 = .ok (.iconst 1, 1) := by decide +kernel
theorem dX7_grow_17 : decode cX7_grow 17 = .ok (.goto 4, 3) := by decide +kernel
theorem dX7_grow_20 : decode cX7_grow 20 = .ok (.iconst 0, 1) := by decide +kernel
theorem dX7_grow_21 : decode cX7_grow 21 = .ok (.istore 5, 2) := by decide +kernel
theorem dX7_grow_23 : decode cX7_grow 23 = .ok (.iload_n 1, 1) := by decide +kernel
theorem dX7_grow_24 : decode cX7_grow 24 = .ok (.iload_n 2, 1) := by decide +kernel
theorem dX7_grow_25 : decode cX7_grow 25 = .ok (.if_icmp .eq 16, 3) := by decide +kernel
theorem dX7_grow_28 : decode cX7_grow 28 = .ok (.iload_n 3, 1) := by decide +kernel
theorem dX7_grow_29 : decode cX7_grow 29 = .ok (.iload 4, 2) := by decide +kernel
theorem dX7_grow_31 : decode cX7_grow 31 = .ok (.invokestatic 86, 3) := by decide +kernel
theorem dX7_grow_34 : decode cX7_grow 34 = .ok (.ifCond .eq 7, 3) := by decide +kernel
theorem dX7_grow_37 : decode cX7_grow 37 = .ok (.iconst 1, 1) := by decide +kernel
theorem dX7_grow_38 : decode cX7_grow 38 = .ok (.goto 4, 3) := by decide +kernel
theorem dX7_grow_41 : decode cX7_grow 41 = .ok (.iconst 0, 1) := by decide +kernel
theorem dX7_grow_42 : decode cX7_grow 42 = .ok (.istore 6, 2) := by decide +kernel
theorem dX7_grow_44 : decode cX7_grow 44 = .ok (.aload_n 0, 1) := by decide +kernel
theorem dX7_grow_45 : decode cX7_grow 45 = .ok (.iload 5, 2) := by decide +kernel
theorem dX7_grow_47 : decode cX7_grow 47 = .ok (.ifCond .ne 7, 3) := by decide +kernel
theorem dX7_grow_50 : decode cX7_grow 50 = .ok (.iconst 1, 1) := by decide +kernel
theorem dX7_grow_51 : decode cX7_grow 51 = .ok (.goto 35, 3) := by decide +kernel
theorem dX7_grow_54 : decode cX7_grow 54 = .ok (.iload 6, 2) := by decide +kernel
theorem dX7_grow_56 : decode cX7_grow 56 = .ok (.ifCond .ne 7, 3) := by decide +kernel
theorem dX7_grow_59 : decode cX7_grow 59 = .ok (.iconst 2, 1) := by decide +kernel
theorem dX7_grow_60 : decode cX7_grow 60 = .ok (.goto 26, 3) := by decide +kernel
theorem dX7_grow_63 : decode cX7_grow 63 = .ok (.aload_n 0, 1) := by decide +kernel
theorem dX7_grow_64 : decode cX7_grow 64 = .ok (.getfield 76, 3) := by decide +kernel
theorem dX7_grow_67 : decode cX7_grow 67 = .ok (.bipush 10, 2) := by decide +kernel
theorem dX7_grow_69 : decode cX7_grow 69 = .ok (.if_icmp .eq 12, 3) := by decide +kernel
theorem dX7_grow_72 : decode cX7_grow 72 = .ok (.aload_n 0, 1) := by decide +kernel
theorem dX7_grow_73 : decode cX7_grow 73 = .ok (.getfield 83, 3) := by decide +kernel
theorem dX7_grow_76 : decode cX7_grow 76 = .ok (.bipush 38, 2) := by decide +kernel
theorem dX7_grow_78 : decode cX7_grow 78 = .ok (.if_icmp .le 7, 3) := by decide +kernel
theorem dX7_grow_81 : decode cX7_grow 81 = .ok (.iconst 3, 1) := by decide +kernel
theorem dX7_grow_82 : decode cX7_grow 82 = .ok (.goto 4, 3) := by decide +kernel
theorem dX7_grow_85 : decode cX7_grow 85 = .ok (.iconst 0, 1) := by decide +kernel
theorem dX7_grow_86 : decode cX7_grow 86 = .ok (.invokevirtual 90, 3) := by decide +kernel
theorem dX7_grow_89 : decode cX7_grow 89 = .ok (.ifCond .ne 5, 3) := by decide +kernel
theorem dX7_grow_92 : decode cX7_grow 92 = .ok (.iconst 0, 1) := by decide +kernel
theorem dX7_grow_93 : decode cX7_grow 93 = .ok (.ireturn, 1) := by decide +kernel
theorem dX7_grow_94 : decode cX7_grow 94 = .ok (.aload_n 0, 1) := by decide +kernel
theorem dX7_grow_95 : decode cX7_grow 95 = .ok (.iconst 2, 1) := by decide +kernel
theorem dX7_grow_96 : decode cX7_grow 96 = .ok (.iconst (-1), 1) := by decide +kernel
theorem dX7_grow_97 : decode cX7_grow 97 = .ok (.iload_n 3, 1) := by decide +kernel
theorem dX7_grow_98 : decode cX7_grow 98 = .ok (.iload 4, 2) := by decide +kernel
theorem dX7_grow_100 : decode cX7_grow 100 = .ok (.invokevirtual 196, 3) := by decide +kernel
theorem dX7_grow_103 : decode cX7_grow 103 = .ok (.istore 7, 2) := by decide +kernel
theorem dX7_grow_105 : decode cX7_grow 105 = .ok (.aload_n 0, 1) := by decide +kernel
theorem dX7_grow_106 : decode cX7_grow 106 = .ok (.iload_n 1, 1) := by decide +kernel
theorem dX7_grow_107 : decode cX7_grow 107 = .ok (.iload 7, 2) := by decide +kernel
theorem dX7_grow_109 : decode cX7_grow 109 = .ok (.iconst 0, 1) := by decide +kernel
theorem dX7_grow_110 : decode cX7_grow 110 = .ok (.invokevirtual 104, 3) := by decide +kernel
theorem dX7_grow_113 : decode cX7_grow 113 = .ok (.pop, 1) := by decide +kernel
theorem dX7_grow_114 : decode cX7_grow 114 = .ok (.aload_n 0, 1) := by decide +kernel
theorem dX7_grow_115 : decode cX7_grow 115 = .ok (.iload_n 2, 1) := by decide +kernel
theorem dX7_grow_116 : decode cX7_grow 116 = .ok (.iload 7, 2) := by decide +kernel
theorem dX7_grow_118 : decode cX7_grow 118 = .ok (.iconst 0, 1) := by decide +kernel
theorem dX7_grow_119 : decode cX7_grow 119 = .ok (.invokevirtual 104, 3) := by decide +kernel
theorem dX7_grow_122 : decode cX7_grow 122 = .ok (.pop, 1) := by decide +kernel
theorem dX7_grow_123 : decode cX7_grow 123 = .ok (.iload 7, 2) := by decide +kernel
theorem dX7_grow_125 : decode cX7_grow 125 = .ok (.ireturn, 1) := by decide +kernel
set_option maxRecDepth 20000 in
theorem ggX7_split_X7_isMember : GoodIn wsX7_split wsX7_isMember := goodIn_r _ [10, 4, 5, 11, 12, 9, 13, 48, 49, 50, 51, 52, 53, 54, 55, 56, 57, 58, 59, 60, 61, 62, 63, 64, 65, 66, 67, 68, 69, 70, 71, 72] (by decide +kernel) (by decide +kernel)
set_option maxRecDepth 20000 in
theorem gX7_split_X7_isMember : GoodIn wsX7_split (wsV RX7 108 RX7 yX7_isMember wsX7_isMember) := goodIn_app (goodIn_of _ (by decide +kernel)) ggX7_split_X7_isMember
set_option maxRecDepth 20000 in
theorem ggX7_split_X7_isJoint : GoodIn wsX7_split wsX7_isJoint := goodIn_r _ [17, 3, 11, 12, 9, 13, 48, 49, 50, 51, 52, 53, 54, 55, 56, 57, 58, 59, 60, 61, 62, 63, 64, 65, 66, 67, 68, 69, 70, 71, 72] (by decide +kernel) (by decide +kernel)
set_option maxRecDepth 20000 in
theorem gX7_split_X7_isJoint : GoodIn wsX7_split (wsV RX7 98 RX7 yX7_isJoint wsX7_isJoint) := goodIn_app (goodIn_of _ (by decide +kernel)) ggX7_split_X7_isJoint
set_option maxRecDepth 20000 in
theorem ggX7_split_X7_isPoint : GoodIn wsX7_split wsX7_isPoint := goodIn_r _ [20, 11, 12, 9, 13] (by decide +kernel) (by decide +kernel)
set_option maxRecDepth 20000 in
theorem gX7_split_X7_isPoint : GoodIn wsX7_split (va_wsS RX7 86 yX7_isPoint wsX7_isPoint) := goodIn_app (goodIn_of _ (by decide +kernel)) ggX7_split_X7_isPoint
set_option maxRecDepth 20000 in
theorem ggX7_split_X7_holds : GoodIn wsX7_split wsX7_holds := goodIn_r _ [24, 25, 48, 49, 50, 51, 52, 53, 54, 55, 56, 57, 58, 59, 60, 61, 62, 63, 64, 65, 66, 67, 68, 69, 70, 71, 72] (by decide +kernel) (by decide +kernel)
set_option maxRecDepth 20000 in
theorem gX7_split_X7_holds : GoodIn wsX7_split (wsV RX7 90 RX7 yX7_holds wsX7_holds) := goodIn_app (goodIn_of _ (by decide +kernel)) ggX7_split_X7_holds
set_option maxRecDepth 20000 in
theorem ggX7_split_X7_steps : GoodIn wsX7_split wsX7_steps := goodIn_r _ [29, 30, 31, 3, 32, 4, 33, 34, 35, 36, 37, 9, 38, 39, 40, 41, 42, 48, 49, 50, 51, 52, 53, 54, 55, 56, 57, 58, 59, 60, 61, 62, 63, 64, 65, 66, 67, 68, 69, 70, 71, 72] (by decide +kernel) (by decide +kernel)
set_option maxRecDepth 20000 in
theorem gX7_split_X7_steps : GoodIn wsX7_split (wsV RX7 196 RX7 yX7_steps wsX7_steps) := goodIn_app (goodIn_of _ (by decide +kernel)) ggX7_split_X7_steps
set_option maxRecDepth 20000 in
theorem ggX7_split_X7_sets : GoodIn wsX7_split wsX7_sets := goodIn_r _ [46, 1, 4, 2, 47, 48, 49, 50, 51, 52, 53, 54, 55, 56, 57, 58, 59, 60, 61, 62, 63, 64, 65, 66, 67, 68, 69, 70, 71, 72] (by decide +kernel) (by decide +kernel)
set_option maxRecDepth 20000 in
theorem gX7_split_X7_sets : GoodIn wsX7_split (wsV RX7 104 RX7 yX7_sets wsX7_sets) := goodIn_app (goodIn_of _ (by decide +kernel)) ggX7_split_X7_sets
theorem dX7_split_0 : decode cX7_split 0 = .ok (.aload_n 0, 1) := by decide +kernel
theorem dX7_split_1 : decode cX7_split 1 = .ok (.iload_n 1, 1) := by decide +kernel
theorem dX7_split_2 : decode cX7_split 2 = .ok (.invokevirtual 108, 3) := by decide +kernel
theorem dX7_split_5 : decode cX7_split 5 = .ok (.ifCond .eq 15, 3) := by decide +kernel
theorem dX7_split_8 : decode cX7_split 8 = .ok (.aload_n 0, 1) := by decide +kernel
theorem dX7_split_9 : decode cX7_split 9 = .ok (.iload_n 2, 1) := by decide +kernel
theorem dX7_split_10 : decode cX7_split 10 = .ok (.invokevirtual 98, 3) := by decide +kernel
theorem dX7_split_13 : decode cX7_split 13 = .ok (.ifCond .eq 7, 3) := by decide +kernel
theorem dX7_split_16 : decode cX7_split 16 = .ok (.iconst 1, 1) := by decide +kernel
theorem dX7_split_17 : decode cX7_split 17 = .ok (.goto 4, 3) := by decide +kernel
theorem dX7_split_20 : decode cX7_split 20 = .ok (.iconst 0, 1) := by decide +kernel
theorem dX7_split_21 : decode cX7_split 21 = .ok (.istore 5, 2) := by decide +kernel
theorem dX7_split_23 : decode cX7_split 23 = .ok (.iload 5, 2) := by decide +kernel
theorem dX7_split_25 : decode cX7_split 25 = .ok (.ifCond .eq 36, 3) := by decide +kernel
theorem dX7_split_28 : decode cX7_split 28 = .ok (.iload_n 2, 1) := by decide +kernel
theorem dX7_split_29 : decode cX7_split 29 = .ok (.aload_n 0, 1) := by decide +kernel
theorem dX7_split_30 : decode cX7_split 30 = .ok (.getfield 23, 3) := by decide +kernel
theorem dX7_split_33 : decode cX7_split 33 = .ok (.iload_n 1, 1) := by decide +kernel
theorem dX7_split_34 : decode cX7_split 34 = .ok (.iaload, 1) := by decide +kernel
theorem dX7_split_35 : decode cX7_split 35 = .ok (.if_icmp .eq 26, 3) := by decide +kernel
theorem dX7_split_38 : decode cX7_split 38 = .ok (.iload_n 2, 1) := by decide +kernel
theorem dX7_split_39 : decode cX7_split 39 = .ok (.aload_n 0, 1) := by decide +kernel
theorem dX7_split_40 : decode cX7_split 40 = .ok (.getfield 26, 3) := by decide +kernel
theorem dX7_split_43 : decode cX7_split 43 = .ok (.iload_n 1, 1) := by decide +kernel
theorem dX7_split_44 : decode cX7_split 44 = .ok (.iaload, 1) := by decide +kernel
theorem dX7_split_45 : decode cX7_split 45 = .ok (.if_icmp .eq 16, 3) := by decide +kernel
theorem dX7_split_48 : decode cX7_split 48 = .ok (.iload_n 3, 1) := by decide +kernel
theorem dX7_split_49 : decode cX7_split 49 = .ok (.iload 4, 2) := by decide +kernel
theorem dX7_split_51 : decode cX7_split 51 = .ok (.invokestatic 86, 3) := by decide +kernel
theorem dX7_split_54 : decode cX7_split 54 = .ok (.ifCond .eq 7, 3) := by decide +kernel
theorem dX7_split_57 : decode cX7_split 57 = .ok (.iconst 1, 1) := by decide +kernel
theorem dX7_split_58 : decode cX7_split 58 = .ok (.goto 4, 3) := by decide +kernel
theorem dX7_split_61 : decode cX7_split 61 = .ok (.iconst 0, 1) := by decide +kernel
theorem dX7_split_62 : decode cX7_split 62 = .ok (.istore 6, 2) := by decide +kernel
theorem dX7_split_64 : decode cX7_split 64 = .ok (.aload_n 0, 1) := by decide +kernel
theorem dX7_split_65 : decode cX7_split 65 = .ok (.iload 5, 2) := by decide +kernel
theorem dX7_split_67 : decode cX7_split 67 = .ok (.ifCond .ne 7, 3) := by decide +kernel
theorem dX7_split_70 : decode cX7_split 70 = .ok (.iconst 1, 1) := by decide +kernel
theorem dX7_split_71 : decode cX7_split 71 = .ok (.goto 35, 3) := by decide +kernel
theorem dX7_split_74 : decode cX7_split 74 = .ok (.iload 6, 2) := by decide +kernel
theorem dX7_split_76 : decode cX7_split 76 = .ok (.ifCond .ne 7, 3) := by decide +kernel
theorem dX7_split_79 : decode cX7_split 79 = .ok (.iconst 2, 1) := by decide +kernel
theorem dX7_split_80 : decode cX7_split 80 = .ok (.goto 26, 3) := by decide +kernel
theorem dX7_split_83 : decode cX7_split 83 = .ok (.aload_n 0, 1) := by decide +kernel
theorem dX7_split_84 : decode cX7_split 84 = .ok (.getfield 76, 3) := by decide +kernel
theorem dX7_split_87 : decode cX7_split 87 = .ok (.bipush 10, 2) := by decide +kernel
theorem dX7_split_89 : decode cX7_split 89 = .ok (.if_icmp .eq 12, 3) := by decide +kernel
theorem dX7_split_92 : decode cX7_split 92 = .ok (.aload_n 0, 1) := by decide +kernel
theorem dX7_split_93 : decode cX7_split 93 = .ok (.getfield 83, 3) := by decide +kernel
theorem dX7_split_96 : decode cX7_split 96 = .ok (.bipush 37, 2) := by decide +kernel
theorem dX7_split_98 : decode cX7_split 98 = .ok (.if_icmp .le 7, 3) := by decide +kernel
theorem dX7_split_101 : decode cX7_split 101 = .ok (.iconst 3, 1) := by decide +kernel
theorem dX7_split_102 : decode cX7_split 102 = .ok (.goto 4, 3) := by decide +kernel
theorem dX7_split_105 : decode cX7_split 105 = .ok (.iconst 0, 1) := by decide +kernel
theorem dX7_split_106 : decode cX7_split 106 = .ok (.invokevirtual 90, 3) := by decide +kernel
theorem dX7_split_109 : decode cX7_split 109 = .ok (.ifCond .ne 5, 3) := by decide +kernel
theorem dX7_split_112 : decode cX7_split 112 = .ok (.iconst 0, 1) := by decide +kernel
theorem dX7_split_113 : decode cX7_split 113 = .ok (.ireturn, 1) := by decide +kernel
theorem dX7_split_114 : decode cX7_split 114 = .ok (.aload_n 0, 1) := by decide +kernel
theorem dX7_split_115 : decode cX7_split 115 = .ok (.getfield 35, 3) := by decide +kernel
theorem dX7_split_118 : decode cX7_split 118 = .ok (.iload_n 1, 1) := by decide +kernel
theorem dX7_split_119 : decode cX7_split 119 = .ok (.iconst 1, 1) := by decide +kernel
theorem dX7_split_120 : decode cX7_split 120 = .ok (.bastore, 1) := by decide +kernel
theorem dX7_split_121 : decode cX7_split 121 = .ok (.aload_n 0, 1) := by decide +kernel
theorem dX7_split_122 : decode cX7_split 122 = .ok (.iconst 3, 1) := by decide +kernel
theorem dX7_split_123 : decode cX7_split 123 = .ok (.iload_n 1, 1) := by decide +kernel
theorem dX7_split_124 : decode cX7_split 124 = .ok (.iload_n 3, 1) := by decide +kernel
theorem dX7_split_125 : decode cX7_split 125 = .ok (.iload 4, 2) := by decide +kernel
theorem dX7_split_127 : decode cX7_split 127 = .ok (.invokevirtual 196, 3) := by decide +kernel
theorem dX7_split_130 : decode cX7_split 130 = .ok (.istore 7, 2) := by decide +kernel
theorem dX7_split_132 : decode cX7_split 132 = .ok (.aload_n 0, 1) := by decide +kernel
theorem dX7_split_133 : decode cX7_split 133 = .ok (.aload_n 0, 1) := by decide +kernel
theorem dX7_split_134 : decode cX7_split 134 = .ok (.getfield 23, 3) := by decide +kernel
theorem dX7_split_137 : decode cX7_split 137 = .ok (.iload_n 1, 1) := by decide +kernel
theorem dX7_split_138 : decode cX7_split 138 = .ok (.iaload, 1) := by decide +kernel
theorem dX7_split_139 : decode cX7_split 139 = .ok (.iload 7, 2) := by decide +kernel
theorem dX7_split_141 : decode cX7_split 141 = .ok (.iconst 0, 1) := by decide +kernel
theorem dX7_split_142 : decode cX7_split 142 = .ok (.invokevirtual 104, 3) := by decide +kernel
theorem dX7_split_145 : decode cX7_split 145 = .ok (.pop, 1) := by decide +kernel
theorem dX7_split_146 : decode cX7_split 146 = .ok (.aload_n 0, 1) := by decide +kernel
theorem dX7_split_147 : decode cX7_split 147 = .ok (.aload_n 0, 1) := by decide +kernel
theorem dX7_split_148 : decode cX7_split 148 = .ok (.getfield 26, 3) := by decide +kernel
theorem dX7_split_151 : decode cX7_split 151 = .ok (.iload_n 1, 1) := by decide +kernel
theorem dX7_split_152 : decode cX7_split 152 = .ok (.iaload, 1) := by decide +kernel
theorem dX7_split_153 : decode cX7_split 153 = .ok (.iload 7, 2) := by decide +kernel
theorem dX7_split_155 : decode cX7_split 155 = .ok (.iconst 0, 1) := by decide +kernel
theorem dX7_split_156 : decode cX7_split 156 = .ok (.invokevirtual 104, 3) := by decide +kernel
theorem dX7_split_159 : decode cX7_split 159 = .ok (.pop, 1) := by decide +kernel
theorem dX7_split_160 : decode cX7_split 160 = .ok (.aload_n 0, 1) := by decide +kernel
theorem dX7_split_161 : decode cX7_split 161 = .ok (.iload_n 2, 1) := by decide +kernel
theorem dX7_split_162 : decode cX7_split 162 = .ok (.iload 7, 2) := by decide +kernel
theorem dX7_split_164 : decode cX7_split 164 = .ok (.iconst 0, 1) := by decide +kernel
theorem dX7_split_165 : decode cX7_split 165 = .ok (.invokevirtual 104, 3) := by decide +kernel
theorem dX7_split_168 : decode cX7_split 168 = .ok (.pop, 1) := by decide +kernel
theorem dX7_split_169 : decode cX7_split 169 = .ok (.iload 7, 2) := by decide +kernel
theorem dX7_split_171 : decode cX7_split 171 = .ok (.ireturn, 1) := by decide +kernel
set_option maxRecDepth 20000 in
theorem ggX7_canUndo_X7_near : GoodIn wsX7_canUndo wsX7_near := goodIn_r _ [12, 13, 7, 14, 15, 19, 20, 21, 22, 23, 24, 25, 26, 27, 28, 29, 30, 31, 32, 33, 34, 35, 36, 37, 38, 39, 40, 41, 42, 43] (by decide +kernel) (by decide +kernel)
set_option maxRecDepth 20000 in
theorem gX7_canUndo_X7_near : GoodIn wsX7_canUndo (wsV RX7 183 RX7 yX7_near wsX7_near) := goodIn_app (goodIn_of _ (by decide +kernel)) ggX7_canUndo_X7_near
set_option maxRecDepth 20000 in
theorem ggX7_canUndo_X7_bits : GoodIn wsX7_canUndo wsX7_bits := goodIn_r _ [18] (by decide +kernel) (by decide +kernel)
set_option maxRecDepth 20000 in
theorem gX7_canUndo_X7_bits : GoodIn wsX7_canUndo (va_wsS RX7 168 yX7_bits wsX7_bits) := goodIn_app (goodIn_of _ (by decide +kernel)) ggX7_canUndo_X7_bits
theorem dX7_canUndo_0 : decode cX7_canUndo 0 = .ok (.aload_n 0, 1) := by decide +kernel
theorem dX7_canUndo_1 : decode cX7_canUndo 1 = .ok (.getfield 193, 3) := by decide +kernel
theorem dX7_canUndo_4 : decode cX7_canUndo 4 = .ok (.ifCond .ne 5, 3) := by decide +kernel
theorem dX7_canUndo_7 : decode cX7_canUndo 7 = .ok (.iconst 0, 1) := by decide +kernel
theorem dX7_canUndo_8 : decode cX7_canUndo 8 = .ok (.ireturn, 1) := by decide +kernel
theorem dX7_canUndo_9 : decode cX7_canUndo 9 = .ok (.aload_n 0, 1) := by decide +kernel
theorem dX7_canUndo_10 : decode cX7_canUndo 10 = .ok (.getfield 38, 3) := by decide +kernel
theorem dX7_canUndo_13 : decode cX7_canUndo 13 = .ok (.aload_n 0, 1) := by decide +kernel
theorem dX7_canUndo_14 : decode cX7_canUndo 14 = .ok (.getfield 193, 3) := by decide +kernel
theorem dX7_canUndo_17 : decode cX7_canUndo 17 = .ok (.iconst 1, 1) := by decide +kernel
theorem dX7_canUndo_18 : decode cX7_canUndo 18 = .ok (.isub, 1) := by decide +kernel
theorem dX7_canUndo_19 : decode cX7_canUndo 19 = .ok (.iaload, 1) := by decide +kernel
theorem dX7_canUndo_20 : decode cX7_canUndo 20 = .ok (.istore_n 1, 1) := by decide +kernel
theorem dX7_canUndo_21 : decode cX7_canUndo 21 = .ok (.aload_n 0, 1) := by decide +kernel
theorem dX7_canUndo_22 : decode cX7_canUndo 22 = .ok (.getfield 41, 3) := by decide +kernel
theorem dX7_canUndo_25 : decode cX7_canUndo 25 = .ok (.aload_n 0, 1) := by decide +kernel
theorem dX7_canUndo_26 : decode cX7_canUndo 26 = .ok (.getfield 193, 3) := by decide +kernel
theorem dX7_canUndo_29 : decode cX7_canUndo 29 = .ok (.iconst 1, 1) := by decide +kernel
theorem dX7_canUndo_30 : decode cX7_canUndo 30 = .ok (.isub, 1) := by decide +kernel
theorem dX7_canUndo_31 : decode cX7_canUndo 31 = .ok (.iaload, 1) := by decide +kernel
theorem dX7_canUndo_32 : decode cX7_canUndo 32 = .ok (.istore_n 2, 1) := by decide +kernel
theorem dX7_canUndo_33 : decode cX7_canUndo 33 = .ok (.aload_n 0, 1) := by decide +kernel
theorem dX7_canUndo_34 : decode cX7_canUndo 34 = .ok (.getfield 44, 3) := by decide +kernel
theorem dX7_canUndo_37 : decode cX7_canUndo 37 = .ok (.aload_n 0, 1) := by decide +kernel
theorem dX7_canUndo_38 : decode cX7_canUndo 38 = .ok (.getfield 193, 3) := by decide +kernel
theorem dX7_canUndo_41 : decode cX7_canUndo 41 = .ok (.iconst 1, 1) := by decide +kernel
theorem dX7_canUndo_42 : decode cX7_canUndo 42 = .ok (.isub, 1) := by decide +kernel
theorem dX7_canUndo_43 : decode cX7_canUndo 43 = .ok (.iaload, 1) := by decide +kernel
theorem dX7_canUndo_44 : decode cX7_canUndo 44 = .ok (.istore_n 3, 1) := by decide +kernel
theorem dX7_canUndo_45 : decode cX7_canUndo 45 = .ok (.iload_n 1, 1) := by decide +kernel
theorem dX7_canUndo_46 : decode cX7_canUndo 46 = .ok (.aload_n 0, 1) := by decide +kernel
theorem dX7_canUndo_47 : decode cX7_canUndo 47 = .ok (.getfield 76, 3) := by decide +kernel
theorem dX7_canUndo_50 : decode cX7_canUndo 50 = .ok (.iconst 1, 1) := by decide +kernel
theorem dX7_canUndo_51 : decode cX7_canUndo 51 = .ok (.isub, 1) := by decide +kernel
theorem dX7_canUndo_52 : decode cX7_canUndo 52 = .ok (.if_icmp .ne 28, 3) := by decide +kernel
theorem dX7_canUndo_55 : decode cX7_canUndo 55 = .ok (.aload_n 0, 1) := by decide +kernel
theorem dX7_canUndo_56 : decode cX7_canUndo 56 = .ok (.getfield 16, 3) := by decide +kernel
theorem dX7_canUndo_59 : decode cX7_canUndo 59 = .ok (.iload_n 1, 1) := by decide +kernel
theorem dX7_canUndo_60 : decode cX7_canUndo 60 = .ok (.baload, 1) := by decide +kernel
theorem dX7_canUndo_61 : decode cX7_canUndo 61 = .ok (.ifCond .ne 19, 3) := by decide +kernel
theorem dX7_canUndo_64 : decode cX7_canUndo 64 = .ok (.aload_n 0, 1) := by decide +kernel
theorem dX7_canUndo_65 : decode cX7_canUndo 65 = .ok (.iload_n 1, 1) := by decide +kernel
theorem dX7_canUndo_66 : decode cX7_canUndo 66 = .ok (.invokevirtual 183, 3) := by decide +kernel
theorem dX7_canUndo_69 : decode cX7_canUndo 69 = .ok (.invokestatic 168, 3) := by decide +kernel
theorem dX7_canUndo_72 : decode cX7_canUndo 72 = .ok (.iload_n 3, 1) := by decide +kernel
theorem dX7_canUndo_73 : decode cX7_canUndo 73 = .ok (.if_icmp .ne 7, 3) := by decide +kernel
theorem dX7_canUndo_76 : decode cX7_canUndo 76 = .ok (.iconst 1, 1) := by decide +kernel
theorem dX7_canUndo_77 : decode cX7_canUndo 77 = .ok (.goto 4, 3) := by decide +kernel
theorem dX7_canUndo_80 : decode cX7_canUndo 80 = .ok (.iconst 0, 1) := by decide +kernel
theorem dX7_canUndo_81 : decode cX7_canUndo 81 = .ok (.istore 4, 2) := by decide +kernel
theorem dX7_canUndo_83 : decode cX7_canUndo 83 = .ok (.iload_n 2, 1) := by decide +kernel
theorem dX7_canUndo_84 : decode cX7_canUndo 84 = .ok (.istore 5, 2) := by decide +kernel
theorem dX7_canUndo_86 : decode cX7_canUndo 86 = .ok (.iload 5, 2) := by decide +kernel
theorem dX7_canUndo_88 : decode cX7_canUndo 88 = .ok (.iload_n 2, 1) := by decide +kernel
theorem dX7_canUndo_89 : decode cX7_canUndo 89 = .ok (.iload_n 3, 1) := by decide +kernel
theorem dX7_canUndo_90 : decode cX7_canUndo 90 = .ok (.iadd, 1) := by decide +kernel
theorem dX7_canUndo_91 : decode cX7_canUndo 91 = .ok (.if_icmp .ge 31, 3) := by decide +kernel
theorem dX7_canUndo_94 : decode cX7_canUndo 94 = .ok (.iload 4, 2) := by decide +kernel
theorem dX7_canUndo_96 : decode cX7_canUndo 96 = .ok (.ifCond .eq 17, 3) := by decide +kernel
theorem dX7_canUndo_99 : decode cX7_canUndo 99 = .ok (.aload_n 0, 1) := by decide +kernel
theorem dX7_canUndo_100 : decode cX7_canUndo 100 = .ok (.getfield 35, 3) := by decide +kernel
theorem dX7_canUndo_103 : decode cX7_canUndo 103 = .ok (.iload 5, 2) := by decide +kernel
theorem dX7_canUndo_105 : decode cX7_canUndo 105 = .ok (.baload, 1) := by decide +kernel
theorem dX7_canUndo_106 : decode cX7_canUndo 106 = .ok (.ifCond .ne 7, 3) := by decide +kernel
theorem dX7_canUndo_109 : decode cX7_canUndo 109 = .ok (.iconst 1, 1) := by decide +kernel
theorem dX7_canUndo_110 : decode cX7_canUndo 110 = .ok (.goto 4, 3) := by decide +kernel
theorem dX7_canUndo_113 : decode cX7_canUndo 113 = .ok (.iconst 0, 1) := by decide +kernel
theorem dX7_canUndo_114 : decode cX7_canUndo 114 = .ok (.istore 4, 2) := by decide +kernel
theorem dX7_canUndo_116 : decode cX7_canUndo 116 = .ok (.iinc 5 1, 3) := by decide +kernel
theorem dX7_canUndo_119 : decode cX7_canUndo 119 = .ok (.goto (-33), 3) := by decide +kernel
theorem dX7_canUndo_122 : decode cX7_canUndo 122 = .ok (.iload 4, 2) := by decide +kernel
theorem dX7_canUndo_124 : decode cX7_canUndo 124 = .ok (.ireturn, 1) := by decide +kernel
set_option maxRecDepth 20000 in
theorem ggX7_undo_X7_canUndo : GoodIn wsX7_undo wsX7_canUndo := goodIn_r _ [13, 1, 14, 2, 3, 5, 15, 4, 16, 17, 18, 12, 19, 20, 7, 8, 21, 22, 23, 33, 34, 35, 36, 37, 38, 39, 40, 41, 42, 43, 44, 45, 46, 47, 48, 49, 50, 51, 52, 53, 54, 55, 56, 57] (by decide +kernel) (by decide +kernel)
set_option maxRecDepth 20000 in
theorem gX7_undo_X7_canUndo : GoodIn wsX7_undo (wsV RX7 199 RX7 yX7_canUndo wsX7_canUndo) := goodIn_app (goodIn_of _ (by decide +kernel)) ggX7_undo_X7_canUndo
set_option maxRecDepth 20000 in
theorem ggX7_undo_X7_holds : GoodIn wsX7_undo wsX7_holds := goodIn_r _ [27, 28, 33, 34, 35, 36, 37, 38, 39, 40, 41, 42, 43, 44, 45, 46, 47, 48, 49, 50, 51, 52, 53, 54, 55, 56, 57] (by decide +kernel) (by decide +kernel)
set_option maxRecDepth 20000 in
theorem gX7_undo_X7_holds : GoodIn wsX7_undo (wsV RX7 90 RX7 yX7_holds wsX7_holds) := goodIn_app (goodIn_of _ (by decide +kernel)) ggX7_undo_X7_holds
set_option maxRecDepth 20000 in
theorem ggX7_undo_X7_between : GoodIn wsX7_undo wsX7_between := goodIn_r _ [32, 20, 7, 8, 4, 33, 34, 35, 36, 37, 38, 39, 40, 41, 42, 43, 44, 45, 46, 47, 48, 49, 50, 51, 52, 53, 54, 55, 56, 57] (by decide +kernel) (by decide +kernel)
set_option maxRecDepth 20000 in
theorem gX7_undo_X7_between : GoodIn wsX7_undo (wsV RX7 101 RX7 yX7_between wsX7_between) := goodIn_app (goodIn_of _ (by decide +kernel)) ggX7_undo_X7_between
theorem dX7_undo_0 : decode cX7_undo 0 = .ok (.aload_n 0, 1) := by decide +kernel
theorem dX7_undo_1 : decode cX7_undo 1 = .ok (.aload_n 0, 1) := by decide +kernel
theorem dX7_undo_2 : decode cX7_undo 2 = .ok (.invokevirtual 199, 3) := by decide +kernel
theorem dX7_undo_5 : decode cX7_undo 5 = .ok (.ifCond .eq 7, 3) := by decide +kernel
theorem dX7_undo_8 : decode cX7_undo 8 = .ok (.iconst 0, 1) := by decide +kernel
theorem dX7_undo_9 : decode cX7_undo 9 = .ok (.goto 4, 3) := by decide +kernel
theorem dX7_undo_12 : decode cX7_undo 12 = .ok (.iconst 1, 1) := by decide +kernel
theorem dX7_undo_13 : decode cX7_undo 13 = .ok (.invokevirtual 90, 3) := by decide +kernel
theorem dX7_undo_16 : decode cX7_undo 16 = .ok (.ifCond .ne 5, 3) := by decide +kernel
theorem dX7_undo_19 : decode cX7_undo 19 = .ok (.iconst 0, 1) := by decide +kernel
theorem dX7_undo_20 : decode cX7_undo 20 = .ok (.ireturn, 1) := by decide +kernel
theorem dX7_undo_21 : decode cX7_undo 21 = .ok (.aload_n 0, 1) := by decide +kernel
theorem dX7_undo_22 : decode cX7_undo 22 = .ok (.dup, 1) := by decide +kernel
theorem dX7_undo_23 : decode cX7_undo 23 = .ok (.getfield 193, 3) := by decide +kernel
theorem dX7_undo_26 : decode cX7_undo 26 = .ok (.iconst 1, 1) := by decide +kernel
theorem dX7_undo_27 : decode cX7_undo 27 = .ok (.isub, 1) := by decide +kernel
theorem dX7_undo_28 : decode cX7_undo 28 = .ok (.putfield 193, 3) := by decide +kernel
theorem dX7_undo_31 : decode cX7_undo 31 = .ok (.aload_n 0, 1) := by decide +kernel
theorem dX7_undo_32 : decode cX7_undo 32 = .ok (.getfield 41, 3) := by decide +kernel
theorem dX7_undo_35 : decode cX7_undo 35 = .ok (.aload_n 0, 1) := by decide +kernel
theorem dX7_undo_36 : decode cX7_undo 36 = .ok (.getfield 193, 3) := by decide +kernel
theorem dX7_undo_39 : decode cX7_undo 39 = .ok (.iaload, 1) := by decide +kernel
theorem dX7_undo_40 : decode cX7_undo 40 = .ok (.istore_n 1, 1) := by decide +kernel
theorem dX7_undo_41 : decode cX7_undo 41 = .ok (.iload_n 1, 1) := by decide +kernel
theorem dX7_undo_42 : decode cX7_undo 42 = .ok (.aload_n 0, 1) := by decide +kernel
theorem dX7_undo_43 : decode cX7_undo 43 = .ok (.getfield 41, 3) := by decide +kernel
theorem dX7_undo_46 : decode cX7_undo 46 = .ok (.aload_n 0, 1) := by decide +kernel
theorem dX7_undo_47 : decode cX7_undo 47 = .ok (.getfield 193, 3) := by decide +kernel
theorem dX7_undo_50 : decode cX7_undo 50 = .ok (.iaload, 1) := by decide +kernel
theorem dX7_undo_51 : decode cX7_undo 51 = .ok (.aload_n 0, 1) := by decide +kernel
theorem dX7_undo_52 : decode cX7_undo 52 = .ok (.getfield 44, 3) := by decide +kernel
theorem dX7_undo_55 : decode cX7_undo 55 = .ok (.aload_n 0, 1) := by decide +kernel
theorem dX7_undo_56 : decode cX7_undo 56 = .ok (.getfield 193, 3) := by decide +kernel
theorem dX7_undo_59 : decode cX7_undo 59 = .ok (.iaload, 1) := by decide +kernel
theorem dX7_undo_60 : decode cX7_undo 60 = .ok (.iadd, 1) := by decide +kernel
theorem dX7_undo_61 : decode cX7_undo 61 = .ok (.if_icmp .ge 16, 3) := by decide +kernel
theorem dX7_undo_64 : decode cX7_undo 64 = .ok (.aload_n 0, 1) := by decide +kernel
theorem dX7_undo_65 : decode cX7_undo 65 = .ok (.getfield 35, 3) := by decide +kernel
theorem dX7_undo_68 : decode cX7_undo 68 = .ok (.iload_n 1, 1) := by decide +kernel
theorem dX7_undo_69 : decode cX7_undo 69 = .ok (.iconst 1, 1) := by decide +kernel
theorem dX7_undo_70 : decode cX7_undo 70 = .ok (.bastore, 1) := by decide +kernel
theorem dX7_undo_71 : decode cX7_undo 71 = .ok (.iinc 1 1, 3) := by decide +kernel
theorem dX7_undo_74 : decode cX7_undo 74 = .ok (.goto (-33), 3) := by decide +kernel
theorem dX7_undo_77 : decode cX7_undo 77 = .ok (.aload_n 0, 1) := by decide +kernel
theorem dX7_undo_78 : decode cX7_undo 78 = .ok (.dup, 1) := by decide +kernel
theorem dX7_undo_79 : decode cX7_undo 79 = .ok (.getfield 76, 3) := by decide +kernel
theorem dX7_undo_82 : decode cX7_undo 82 = .ok (.iconst 1, 1) := by decide +kernel
theorem dX7_undo_83 : decode cX7_undo 83 = .ok (.isub, 1) := by decide +kernel
theorem dX7_undo_84 : decode cX7_undo 84 = .ok (.putfield 76, 3) := by decide +kernel
theorem dX7_undo_87 : decode cX7_undo 87 = .ok (.aload_n 0, 1) := by decide +kernel
theorem dX7_undo_88 : decode cX7_undo 88 = .ok (.getfield 47, 3) := by decide +kernel
theorem dX7_undo_91 : decode cX7_undo 91 = .ok (.aload_n 0, 1) := by decide +kernel
theorem dX7_undo_92 : decode cX7_undo 92 = .ok (.getfield 193, 3) := by decide +kernel
theorem dX7_undo_95 : decode cX7_undo 95 = .ok (.iaload, 1) := by decide +kernel
theorem dX7_undo_96 : decode cX7_undo 96 = .ok (.istore_n 1, 1) := by decide +kernel
theorem dX7_undo_97 : decode cX7_undo 97 = .ok (.iload_n 1, 1) := by decide +kernel
theorem dX7_undo_98 : decode cX7_undo 98 = .ok (.iconst (-1), 1) := by decide +kernel
theorem dX7_undo_99 : decode cX7_undo 99 = .ok (.if_icmp .eq 30, 3) := by decide +kernel
theorem dX7_undo_102 : decode cX7_undo 102 = .ok (.aload_n 0, 1) := by decide +kernel
theorem dX7_undo_103 : decode cX7_undo 103 = .ok (.aload_n 0, 1) := by decide +kernel
theorem dX7_undo_104 : decode cX7_undo 104 = .ok (.getfield 23, 3) := by decide +kernel
theorem dX7_undo_107 : decode cX7_undo 107 = .ok (.iload_n 1, 1) := by decide +kernel
theorem dX7_undo_108 : decode cX7_undo 108 = .ok (.iaload, 1) := by decide +kernel
theorem dX7_undo_109 : decode cX7_undo 109 = .ok (.aload_n 0, 1) := by decide +kernel
theorem dX7_undo_110 : decode cX7_undo 110 = .ok (.getfield 26, 3) := by decide +kernel
theorem dX7_undo_113 : decode cX7_undo 113 = .ok (.iload_n 1, 1) := by decide +kernel
theorem dX7_undo_114 : decode cX7_undo 114 = .ok (.iaload, 1) := by decide +kernel
theorem dX7_undo_115 : decode cX7_undo 115 = .ok (.invokevirtual 101, 3) := by decide +kernel
theorem dX7_undo_118 : decode cX7_undo 118 = .ok (.iconst (-1), 1) := by decide +kernel
theorem dX7_undo_119 : decode cX7_undo 119 = .ok (.if_icmp .ne 10, 3) := by decide +kernel
theorem dX7_undo_122 : decode cX7_undo 122 = .ok (.aload_n 0, 1) := by decide +kernel
theorem dX7_undo_123 : decode cX7_undo 123 = .ok (.getfield 35, 3) := by decide +kernel
theorem dX7_undo_126 : decode cX7_undo 126 = .ok (.iload_n 1, 1) := by decide +kernel
theorem dX7_undo_127 : decode cX7_undo 127 = .ok (.iconst 0, 1) := by decide +kernel
theorem dX7_undo_128 : decode cX7_undo 128 = .ok (.bastore, 1) := by decide +kernel
theorem dX7_undo_129 : decode cX7_undo 129 = .ok (.aload_n 0, 1) := by decide +kernel
theorem dX7_undo_130 : decode cX7_undo 130 = .ok (.getfield 193, 3) := by decide +kernel
theorem dX7_undo_133 : decode cX7_undo 133 = .ok (.ireturn, 1) := by decide +kernel
set_option maxRecDepth 20000 in
theorem ggX7_stress_X7_isMember : GoodIn wsX7_stress wsX7_isMember := goodIn_r _ [6, 7, 8, 9, 10, 5, 11, 17, 18, 19, 20, 21, 22, 23, 24, 25, 26, 27, 28, 29, 30, 31, 32, 33, 34, 35, 36, 37, 38, 39, 40, 41] (by decide +kernel) (by decide +kernel)
set_option maxRecDepth 20000 in
theorem gX7_stress_X7_isMember : GoodIn wsX7_stress (wsV RX7 108 RX7 yX7_isMember wsX7_isMember) := goodIn_app (goodIn_of _ (by decide +kernel)) ggX7_stress_X7_isMember
set_option maxRecDepth 20000 in
theorem ggX7_stress_X7_isIn : GoodIn wsX7_stress wsX7_isIn := goodIn_r _ [11] (by decide +kernel) (by decide +kernel)
set_option maxRecDepth 20000 in
theorem gX7_stress_X7_isIn : GoodIn wsX7_stress (va_wsS RX7 79 yX7_isIn wsX7_isIn) := goodIn_app (goodIn_of _ (by decide +kernel)) ggX7_stress_X7_isIn
set_option maxRecDepth 20000 in
theorem ggX7_stress_X7_holds : GoodIn wsX7_stress wsX7_holds := goodIn_r _ [15, 16, 17, 18, 19, 20, 21, 22, 23, 24, 25, 26, 27, 28, 29, 30, 31, 32, 33, 34, 35, 36, 37, 38, 39, 40, 41] (by decide +kernel) (by decide +kernel)
set_option maxRecDepth 20000 in
theorem gX7_stress_X7_holds : GoodIn wsX7_stress (wsV RX7 90 RX7 yX7_holds wsX7_holds) := goodIn_app (goodIn_of _ (by decide +kernel)) ggX7_stress_X7_holds
theorem dX7_stress_0 : decode cX7_stress 0 = .ok (.aload_n 0, 1) := by decide +kernel
theorem dX7_stress_1 : decode cX7_stress 1 = .ok (.aload_n 0, 1) := by decide +kernel
theorem dX7_stress_2 : decode cX7_stress 2 = .ok (.iload_n 1, 1) := by decide +kernel
theorem dX7_stress_3 : decode cX7_stress 3 = .ok (.invokevirtual 108, 3) := by decide +kernel
theorem dX7_stress_6 : decode cX7_stress 6 = .ok (.ifCond .ne 7, 3) := by decide +kernel
theorem dX7_stress_9 : decode cX7_stress 9 = .ok (.iconst 1, 1) := by decide +kernel
theorem dX7_stress_10 : decode cX7_stress 10 = .ok (.goto 19, 3) := by decide +kernel
theorem dX7_stress_13 : decode cX7_stress 13 = .ok (.iload_n 2, 1) := by decide +kernel
theorem dX7_stress_14 : decode cX7_stress 14 = .ok (.bipush (-99), 2) := by decide +kernel
theorem dX7_stress_16 : decode cX7_stress 16 = .ok (.bipush 99, 2) := by decide +kernel
theorem dX7_stress_18 : decode cX7_stress 18 = .ok (.invokestatic 79, 3) := by decide +kernel
theorem dX7_stress_21 : decode cX7_stress 21 = .ok (.ifCond .eq 7, 3) := by decide +kernel
theorem dX7_stress_24 : decode cX7_stress 24 = .ok (.iconst 0, 1) := by decide +kernel
theorem dX7_stress_25 : decode cX7_stress 25 = .ok (.goto 4, 3) := by decide +kernel
theorem dX7_stress_28 : decode cX7_stress 28 = .ok (.iconst 2, 1) := by decide +kernel
theorem dX7_stress_29 : decode cX7_stress 29 = .ok (.invokevirtual 90, 3) := by decide +kernel
theorem dX7_stress_32 : decode cX7_stress 32 = .ok (.ifCond .ne 5, 3) := by decide +kernel
theorem dX7_stress_35 : decode cX7_stress 35 = .ok (.iconst 0, 1) := by decide +kernel
theorem dX7_stress_36 : decode cX7_stress 36 = .ok (.ireturn, 1) := by decide +kernel
theorem dX7_stress_37 : decode cX7_stress 37 = .ok (.aload_n 0, 1) := by decide +kernel
theorem dX7_stress_38 : decode cX7_stress 38 = .ok (.getfield 32, 3) := by decide +kernel
theorem dX7_stress_41 : decode cX7_stress 41 = .ok (.iload_n 1, 1) := by decide +kernel
theorem dX7_stress_42 : decode cX7_stress 42 = .ok (.iaload, 1) := by decide +kernel
theorem dX7_stress_43 : decode cX7_stress 43 = .ok (.istore_n 3, 1) := by decide +kernel
theorem dX7_stress_44 : decode cX7_stress 44 = .ok (.aload_n 0, 1) := by decide +kernel
theorem dX7_stress_45 : decode cX7_stress 45 = .ok (.getfield 32, 3) := by decide +kernel
theorem dX7_stress_48 : decode cX7_stress 48 = .ok (.iload_n 1, 1) := by decide +kernel
theorem dX7_stress_49 : decode cX7_stress 49 = .ok (.iload_n 2, 1) := by decide +kernel
theorem dX7_stress_50 : decode cX7_stress 50 = .ok (.iastore, 1) := by decide +kernel
theorem dX7_stress_51 : decode cX7_stress 51 = .ok (.iload_n 3, 1) := by decide +kernel
theorem dX7_stress_52 : decode cX7_stress 52 = .ok (.ireturn, 1) := by decide +kernel
theorem dX7_isBalanced_0 : decode cX7_isBalanced 0 = .ok (.iconst 0, 1) := by decide +kernel
theorem dX7_isBalanced_1 : decode cX7_isBalanced 1 = .ok (.istore_n 2, 1) := by decide +kernel
theorem dX7_isBalanced_2 : decode cX7_isBalanced 2 = .ok (.iconst 0, 1) := by decide +kernel
theorem dX7_isBalanced_3 : decode cX7_isBalanced 3 = .ok (.istore_n 3, 1) := by decide +kernel
theorem dX7_isBalanced_4 : decode cX7_isBalanced 4 = .ok (.iconst 0, 1) := by decide +kernel
theorem dX7_isBalanced_5 : decode cX7_isBalanced 5 = .ok (.istore 4, 2) := by decide +kernel
theorem dX7_isBalanced_7 : decode cX7_isBalanced 7 = .ok (.iload 4, 2) := by decide +kernel
theorem dX7_isBalanced_9 : decode cX7_isBalanced 9 = .ok (.aload_n 0, 1) := by decide +kernel
theorem dX7_isBalanced_10 : decode cX7_isBalanced 10 = .ok (.getfield 83, 3) := by decide +kernel
theorem dX7_isBalanced_13 : decode cX7_isBalanced 13 = .ok (.if_icmp .ge 146, 3) := by decide +kernel
theorem dX7_isBalanced_16 : decode cX7_isBalanced 16 = .ok (.aload_n 0, 1) := by decide +kernel
theorem dX7_isBalanced_17 : decode cX7_isBalanced 17 = .ok (.getfield 35, 3) := by decide +kernel
theorem dX7_isBalanced_20 : decode cX7_isBalanced 20 = .ok (.iload 4, 2) := by decide +kernel
theorem dX7_isBalanced_22 : decode cX7_isBalanced 22 = .ok (.baload, 1) := by decide +kernel
theorem dX7_isBalanced_23 : decode cX7_isBalanced 23 = .ok (.ifCond .ne 29, 3) := by decide +kernel
theorem dX7_isBalanced_26 : decode cX7_isBalanced 26 = .ok (.aload_n 0, 1) := by decide +kernel
theorem dX7_isBalanced_27 : decode cX7_isBalanced 27 = .ok (.getfield 23, 3) := by decide +kernel
theorem dX7_isBalanced_30 : decode cX7_isBalanced 30 = .ok (.iload 4, 2) := by decide +kernel
theorem dX7_isBalanced_32 : decode cX7_isBalanced 32 = .ok (.iaload, 1) := by decide +kernel
theorem dX7_isBalanced_33 : decode cX7_isBalanced 33 = .ok (.iload_n 1, 1) := by decide +kernel
theorem dX7_isBalanced_34 : decode cX7_isBalanced 34 = .ok (.if_icmp .eq 14, 3) := by decide +kernel
theorem dX7_isBalanced_37 : decode cX7_isBalanced 37 = .ok (.aload_n 0, 1) := by decide +kernel
theorem dX7_isBalanced_38 : decode cX7_isBalanced 38 = .ok (.getfield 26, 3) := by decide +kernel
theorem dX7_isBalanced_41 : decode cX7_isBalanced 41 = .ok (.iload 4, 2) := by decide +kernel
theorem dX7_isBalanced_43 : decode cX7_isBalanced 43 = .ok (.iaload, 1) := by decide +kernel
theorem dX7_isBalanced_44 : decode cX7_isBalanced 44 = .ok (.iload_n 1, 1) := by decide +kernel
theorem dX7_isBalanced_45 : decode cX7_isBalanced 45 = .ok (.if_icmp .ne 7, 3) := by decide +kernel
theorem dX7_isBalanced_48 : decode cX7_isBalanced 48 = .ok (.iconst 1, 1) := by decide +kernel
theorem dX7_isBalanced_49 : decode cX7_isBalanced 49 = .ok (.goto 4, 3) := by decide +kernel
theorem dX7_isBalanced_52 : decode cX7_isBalanced 52 = .ok (.iconst 0, 1) := by decide +kernel
theorem dX7_isBalanced_53 : decode cX7_isBalanced 53 = .ok (.istore 5, 2) := by decide +kernel
theorem dX7_isBalanced_55 : decode cX7_isBalanced 55 = .ok (.aload_n 0, 1) := by decide +kernel
theorem dX7_isBalanced_56 : decode cX7_isBalanced 56 = .ok (.getfield 23, 3) := by decide +kernel
theorem dX7_isBalanced_59 : decode cX7_isBalanced 59 = .ok (.iload 4, 2) := by decide +kernel
theorem dX7_isBalanced_61 : decode cX7_isBalanced 61 = .ok (.iaload, 1) := by decide +kernel
theorem dX7_isBalanced_62 : decode cX7_isBalanced 62 = .ok (.iload_n 1, 1) := by decide +kernel
theorem dX7_isBalanced_63 : decode cX7_isBalanced 63 = .ok (.if_icmp .ne 13, 3) := by decide +kernel
theorem dX7_isBalanced_66 : decode cX7_isBalanced 66 = .ok (.aload_n 0, 1) := by decide +kernel
theorem dX7_isBalanced_67 : decode cX7_isBalanced 67 = .ok (.getfield 26, 3) := by decide +kernel
theorem dX7_isBalanced_70 : decode cX7_isBalanced 70 = .ok (.iload 4, 2) := by decide +kernel
theorem dX7_isBalanced_72 : decode cX7_isBalanced 72 = .ok (.iaload, 1) := by decide +kernel
theorem dX7_isBalanced_73 : decode cX7_isBalanced 73 = .ok (.goto 10, 3) := by decide +kernel
theorem dX7_isBalanced_76 : decode cX7_isBalanced 76 = .ok (.aload_n 0, 1) := by decide +kernel
theorem dX7_isBalanced_77 : decode cX7_isBalanced 77 = .ok (.getfield 23, 3) := by decide +kernel
theorem dX7_isBalanced_80 : decode cX7_isBalanced 80 = .ok (.iload 4, 2) := by decide +kernel
theorem dX7_isBalanced_82 : decode cX7_isBalanced 82 = .ok (.iaload, 1) := by decide +kernel
theorem dX7_isBalanced_83 : decode cX7_isBalanced 83 = .ok (.istore 6, 2) := by decide +kernel
theorem dX7_isBalanced_85 : decode cX7_isBalanced 85 = .ok (.iload_n 2, 1) := by decide +kernel
theorem dX7_isBalanced_86 : decode cX7_isBalanced 86 = .ok (.iload 5, 2) := by decide +kernel
theorem dX7_isBalanced_88 : decode cX7_isBalanced 88 = .ok (.ifCond .eq 28, 3) := by decide +kernel
theorem dX7_isBalanced_91 : decode cX7_isBalanced 91 = .ok (.aload_n 0, 1) := by decide +kernel
theorem dX7_isBalanced_92 : decode cX7_isBalanced 92 = .ok (.getfield 32, 3) := by decide +kernel
theorem dX7_isBalanced_95 : decode cX7_isBalanced 95 = .ok (.iload 4, 2) := by decide +kernel
theorem dX7_isBalanced_97 : decode cX7_isBalanced 97 = .ok (.iaload, 1) := by decide +kernel
theorem dX7_isBalanced_98 : decode cX7_isBalanced 98 = .ok (.aload_n 0, 1) := by decide +kernel
theorem dX7_isBalanced_99 : decode cX7_isBalanced 99 = .ok (.getfield 7, 3) := by decide +kernel
theorem dX7_isBalanced_102 : decode cX7_isBalanced 102 = .ok (.iload 6, 2) := by decide +kernel
theorem dX7_isBalanced_104 : decode cX7_isBalanced 104 = .ok (.iaload, 1) := by decide +kernel
theorem dX7_isBalanced_105 : decode cX7_isBalanced 105 = .ok (.aload_n 0, 1) := by decide +kernel
theorem dX7_isBalanced_106 : decode cX7_isBalanced 106 = .ok (.getfield 7, 3) := by decide +kernel
theorem dX7_isBalanced_109 : decode cX7_isBalanced 109 = .ok (.iload_n 1, 1) := by decide +kernel
theorem dX7_isBalanced_110 : decode cX7_isBalanced 110 = .ok (.iaload, 1) := by decide +kernel
theorem dX7_isBalanced_111 : decode cX7_isBalanced 111 = .ok (.isub, 1) := by decide +kernel
theorem dX7_isBalanced_112 : decode cX7_isBalanced 112 = .ok (.imul, 1) := by decide +kernel
theorem dX7_isBalanced_113 : decode cX7_isBalanced 113 = .ok (.goto 4, 3) := by decide +kernel
theorem dX7_isBalanced_116 : decode cX7_isBalanced 116 = .ok (.iconst 0, 1) := by decide +kernel
theorem dX7_isBalanced_117 : decode cX7_isBalanced 117 = .ok (.iadd, 1) := by decide +kernel
theorem dX7_isBalanced_118 : decode cX7_isBalanced 118 = .ok (.istore_n 2, 1) := by decide +kernel
theorem dX7_isBalanced_119 : decode cX7_isBalanced 119 = .ok (.iload_n 3, 1) := by decide +kernel
theorem dX7_isBalanced_120 : decode cX7_isBalanced 120 = .ok (.iload 5, 2) := by decide +kernel
theorem dX7_isBalanced_122 : decode cX7_isBalanced 122 = .ok (.ifCond .eq 28, 3) := by decide +kernel
theorem dX7_isBalanced_125 : decode cX7_isBalanced 125 = .ok (.aload_n 0, 1) := by decide +kernel
theorem dX7_isBalanced_126 : decode cX7_isBalanced 126 = .ok (.getfield 32, 3) := by decide +kernel
theorem dX7_isBalanced_129 : decode cX7_isBalanced 129 = .ok (.iload 4, 2) := by decide +kernel
theorem dX7_isBalanced_131 : decode cX7_isBalanced 131 = .ok (.iaload, 1) := by decide +kernel
theorem dX7_isBalanced_132 : decode cX7_isBalanced 132 = .ok (.aload_n 0, 1) := by decide +kernel
theorem dX7_isBalanced_133 : decode cX7_isBalanced 133 = .ok (.getfield 13, 3) := by decide +kernel
theorem dX7_isBalanced_136 : decode cX7_isBalanced 136 = .ok (.iload 6, 2) := by decide +kernel
theorem dX7_isBalanced_138 : decode cX7_isBalanced 138 = .ok (.iaload, 1) := by decide +kernel
theorem dX7_isBalanced_139 : decode cX7_isBalanced 139 = .ok (.aload_n 0, 1) := by decide +kernel
theorem dX7_isBalanced_140 : decode cX7_isBalanced 140 = .ok (.getfield 13, 3) := by decide +kernel
theorem dX7_isBalanced_143 : decode cX7_isBalanced 143 = .ok (.iload_n 1, 1) := by decide +kernel
theorem dX7_isBalanced_144 : decode cX7_isBalanced 144 = .ok (.iaload, 1) := by decide +kernel
theorem dX7_isBalanced_145 : decode cX7_isBalanced 145 = .ok (.isub, 1) := by decide +kernel
theorem dX7_isBalanced_146 : decode cX7_isBalanced 146 = .ok (.imul, 1) := by decide +kernel
theorem dX7_isBalanced_147 : decode cX7_isBalanced 147 = .ok (.goto 4, 3) := by decide +kernel
theorem dX7_isBalanced_150 : decode cX7_isBalanced 150 = .ok (.iconst 0, 1) := by decide +kernel
theorem dX7_isBalanced_151 : decode cX7_isBalanced 151 = .ok (.iadd, 1) := by decide +kernel
theorem dX7_isBalanced_152 : decode cX7_isBalanced 152 = .ok (.istore_n 3, 1) := by decide +kernel
theorem dX7_isBalanced_153 : decode cX7_isBalanced 153 = .ok (.iinc 4 1, 3) := by decide +kernel
theorem dX7_isBalanced_156 : decode cX7_isBalanced 156 = .ok (.goto (-149), 3) := by decide +kernel
theorem dX7_isBalanced_159 : decode cX7_isBalanced 159 = .ok (.iload_n 2, 1) := by decide +kernel
theorem dX7_isBalanced_160 : decode cX7_isBalanced 160 = .ok (.ifCond .ne 11, 3) := by decide +kernel
theorem dX7_isBalanced_163 : decode cX7_isBalanced 163 = .ok (.iload_n 3, 1) := by decide +kernel
theorem dX7_isBalanced_164 : decode cX7_isBalanced 164 = .ok (.ifCond .ne 7, 3) := by decide +kernel
theorem dX7_isBalanced_167 : decode cX7_isBalanced 167 = .ok (.iconst 1, 1) := by decide +kernel
theorem dX7_isBalanced_168 : decode cX7_isBalanced 168 = .ok (.goto 4, 3) := by decide +kernel
theorem dX7_isBalanced_171 : decode cX7_isBalanced 171 = .ok (.iconst 0, 1) := by decide +kernel
theorem dX7_isBalanced_172 : decode cX7_isBalanced 172 = .ok (.ireturn, 1) := by decide +kernel
set_option maxRecDepth 20000 in
theorem ggX7_unbalancedSet_X7_isBalanced : GoodIn wsX7_unbalancedSet wsX7_isBalanced := goodIn_r _ [7, 8, 9, 10, 11, 12, 13, 14, 15, 16, 17, 18, 19, 20, 21, 22, 23, 24, 25, 26, 27, 28, 29, 30, 31, 32, 33, 34, 35, 36, 37, 38, 39] (by decide +kernel) (by decide +kernel)
set_option maxRecDepth 20000 in
theorem gX7_unbalancedSet_X7_isBalanced : GoodIn wsX7_unbalancedSet (wsV RX7 202 RX7 yX7_isBalanced wsX7_isBalanced) := goodIn_app (goodIn_of _ (by decide +kernel)) ggX7_unbalancedSet_X7_isBalanced
theorem dX7_unbalancedSet_0 : decode cX7_unbalancedSet 0 = .ok (.iconst 0, 1) := by decide +kernel
theorem dX7_unbalancedSet_1 : decode cX7_unbalancedSet 1 = .ok (.istore_n 1, 1) := by decide +kernel
theorem dX7_unbalancedSet_2 : decode cX7_unbalancedSet 2 = .ok (.iconst 0, 1) := by decide +kernel
theorem dX7_unbalancedSet_3 : decode cX7_unbalancedSet 3 = .ok (.istore_n 2, 1) := by decide +kernel
theorem dX7_unbalancedSet_4 : decode cX7_unbalancedSet 4 = .ok (.iload_n 2, 1) := by decide +kernel
theorem dX7_unbalancedSet_5 : decode cX7_unbalancedSet 5 = .ok (.aload_n 0, 1) := by decide +kernel
theorem dX7_unbalancedSet_6 : decode cX7_unbalancedSet 6 = .ok (.getfield 76, 3) := by decide +kernel
theorem dX7_unbalancedSet_9 : decode cX7_unbalancedSet 9 = .ok (.if_icmp .ge 36, 3) := by decide +kernel
theorem dX7_unbalancedSet_12 : decode cX7_unbalancedSet 12 = .ok (.iload_n 1, 1) := by decide +kernel
theorem dX7_unbalancedSet_13 : decode cX7_unbalancedSet 13 = .ok (.aload_n 0, 1) := by decide +kernel
theorem dX7_unbalancedSet_14 : decode cX7_unbalancedSet 14 = .ok (.getfield 16, 3) := by decide +kernel
theorem dX7_unbalancedSet_17 : decode cX7_unbalancedSet 17 = .ok (.iload_n 2, 1) := by decide +kernel
theorem dX7_unbalancedSet_18 : decode cX7_unbalancedSet 18 = .ok (.baload, 1) := by decide +kernel
theorem dX7_unbalancedSet_19 : decode cX7_unbalancedSet 19 = .ok (.ifCond .ne 11, 3) := by decide +kernel
theorem dX7_unbalancedSet_22 : decode cX7_unbalancedSet 22 = .ok (.aload_n 0, 1) := by decide +kernel
theorem dX7_unbalancedSet_23 : decode cX7_unbalancedSet 23 = .ok (.iload_n 2, 1) := by decide +kernel
theorem dX7_unbalancedSet_24 : decode cX7_unbalancedSet 24 = .ok (.invokevirtual 202, 3) := by decide +kernel
theorem dX7_unbalancedSet_27 : decode cX7_unbalancedSet 27 = .ok (.ifCond .eq 7, 3) := by decide +kernel
theorem dX7_unbalancedSet_30 : decode cX7_unbalancedSet 30 = .ok (.iconst 0, 1) := by decide +kernel
theorem dX7_unbalancedSet_31 : decode cX7_unbalancedSet 31 = .ok (.goto 6, 3) := by decide +kernel
theorem dX7_unbalancedSet_34 : decode cX7_unbalancedSet 34 = .ok (.iconst 1, 1) := by decide +kernel
theorem dX7_unbalancedSet_35 : decode cX7_unbalancedSet 35 = .ok (.iload_n 2, 1) := by decide +kernel
theorem dX7_unbalancedSet_36 : decode cX7_unbalancedSet 36 = .ok (.ishl, 1) := by decide +kernel
theorem dX7_unbalancedSet_37 : decode cX7_unbalancedSet 37 = .ok (.ior, 1) := by decide +kernel
theorem dX7_unbalancedSet_38 : decode cX7_unbalancedSet 38 = .ok (.istore_n 1, 1) := by decide +kernel
theorem dX7_unbalancedSet_39 : decode cX7_unbalancedSet 39 = .ok (.iinc 2 1, 3) := by decide +kernel
theorem dX7_unbalancedSet_42 : decode cX7_unbalancedSet 42 = .ok (.goto (-38), 3) := by decide +kernel
theorem dX7_unbalancedSet_45 : decode cX7_unbalancedSet 45 = .ok (.iload_n 1, 1) := by decide +kernel
theorem dX7_unbalancedSet_46 : decode cX7_unbalancedSet 46 = .ok (.ireturn, 1) := by decide +kernel
set_option maxRecDepth 20000 in
theorem ggX7_unbalanced_X7_unbalancedSet : GoodIn wsX7_unbalanced wsX7_unbalancedSet := goodIn_r _ [6, 7, 8, 9, 10, 11, 5, 12, 13, 14, 15, 16, 17, 18, 19, 20, 21, 22, 23, 24, 25, 26, 27, 28, 29, 30, 31, 32, 33, 34, 35, 36, 37, 38, 39, 40, 41, 42, 43, 44] (by decide +kernel) (by decide +kernel)
set_option maxRecDepth 20000 in
theorem gX7_unbalanced_X7_unbalancedSet : GoodIn wsX7_unbalanced (wsV RX7 205 RX7 yX7_unbalancedSet wsX7_unbalancedSet) := goodIn_app (goodIn_of _ (by decide +kernel)) ggX7_unbalanced_X7_unbalancedSet
theorem dX7_unbalanced_0 : decode cX7_unbalanced 0 = .ok (.aload_n 0, 1) := by decide +kernel
theorem dX7_unbalanced_1 : decode cX7_unbalanced 1 = .ok (.iconst 0, 1) := by decide +kernel
theorem dX7_unbalanced_2 : decode cX7_unbalanced 2 = .ok (.putfield 72, 3) := by decide +kernel
theorem dX7_unbalanced_5 : decode cX7_unbalanced 5 = .ok (.aload_n 0, 1) := by decide +kernel
theorem dX7_unbalanced_6 : decode cX7_unbalanced 6 = .ok (.invokevirtual 205, 3) := by decide +kernel
theorem dX7_unbalanced_9 : decode cX7_unbalanced 9 = .ok (.ireturn, 1) := by decide +kernel
set_option maxRecDepth 20000 in
theorem ggX7_isProper_X7_unbalancedSet : GoodIn wsX7_isProper wsX7_unbalancedSet := goodIn_r _ [10, 11, 12, 13, 14, 15, 9, 16, 2, 3, 17, 18, 4, 19, 20, 21, 22, 23, 24, 25, 26, 27, 28, 29, 30, 31, 32, 33, 34, 35, 36, 37, 38, 39, 40, 41, 42, 43, 44, 45] (by decide +kernel) (by decide +kernel)
set_option maxRecDepth 20000 in
theorem gX7_isProper_X7_unbalancedSet : GoodIn wsX7_isProper (wsV RX7 205 RX7 yX7_unbalancedSet wsX7_unbalancedSet) := goodIn_app (goodIn_of _ (by decide +kernel)) ggX7_isProper_X7_unbalancedSet
theorem dX7_isProper_0 : decode cX7_isProper 0 = .ok (.aload_n 0, 1) := by decide +kernel
theorem dX7_isProper_1 : decode cX7_isProper 1 = .ok (.iconst 0, 1) := by decide +kernel
theorem dX7_isProper_2 : decode cX7_isProper 2 = .ok (.putfield 72, 3) := by decide +kernel
theorem dX7_isProper_5 : decode cX7_isProper 5 = .ok (.aload_n 0, 1) := by decide +kernel
theorem dX7_isProper_6 : decode cX7_isProper 6 = .ok (.invokevirtual 205, 3) := by decide +kernel
theorem dX7_isProper_9 : decode cX7_isProper 9 = .ok (.ifCond .ne 7, 3) := by decide +kernel
theorem dX7_isProper_12 : decode cX7_isProper 12 = .ok (.iconst 1, 1) := by decide +kernel
theorem dX7_isProper_13 : decode cX7_isProper 13 = .ok (.goto 4, 3) := by decide +kernel
theorem dX7_isProper_16 : decode cX7_isProper 16 = .ok (.iconst 0, 1) := by decide +kernel
theorem dX7_isProper_17 : decode cX7_isProper 17 = .ok (.istore_n 1, 1) := by decide +kernel
theorem dX7_isProper_18 : decode cX7_isProper 18 = .ok (.iconst 0, 1) := by decide +kernel
theorem dX7_isProper_19 : decode cX7_isProper 19 = .ok (.istore_n 2, 1) := by decide +kernel
theorem dX7_isProper_20 : decode cX7_isProper 20 = .ok (.iconst 0, 1) := by decide +kernel
theorem dX7_isProper_21 : decode cX7_isProper 21 = .ok (.istore_n 3, 1) := by decide +kernel
theorem dX7_isProper_22 : decode cX7_isProper 22 = .ok (.iload_n 3, 1) := by decide +kernel
theorem dX7_isProper_23 : decode cX7_isProper 23 = .ok (.aload_n 0, 1) := by decide +kernel
theorem dX7_isProper_24 : decode cX7_isProper 24 = .ok (.getfield 83, 3) := by decide +kernel
theorem dX7_isProper_27 : decode cX7_isProper 27 = .ok (.if_icmp .ge 106, 3) := by decide +kernel
theorem dX7_isProper_30 : decode cX7_isProper 30 = .ok (.iload_n 2, 1) := by decide +kernel
theorem dX7_isProper_31 : decode cX7_isProper 31 = .ok (.ifCond .ne 21, 3) := by decide +kernel
theorem dX7_isProper_34 : decode cX7_isProper 34 = .ok (.aload_n 0, 1) := by decide +kernel
theorem dX7_isProper_35 : decode cX7_isProper 35 = .ok (.getfield 35, 3) := by decide +kernel
theorem dX7_isProper_38 : decode cX7_isProper 38 = .ok (.iload_n 3, 1) := by decide +kernel
theorem dX7_isProper_39 : decode cX7_isProper 39 = .ok (.baload, 1) := by decide +kernel
theorem dX7_isProper_40 : decode cX7_isProper 40 = .ok (.ifCond .ne 16, 3) := by decide +kernel
theorem dX7_isProper_43 : decode cX7_isProper 43 = .ok (.aload_n 0, 1) := by decide +kernel
theorem dX7_isProper_44 : decode cX7_isProper 44 = .ok (.getfield 32, 3) := by decide +kernel
theorem dX7_isProper_47 : decode cX7_isProper 47 = .ok (.iload_n 3, 1) := by decide +kernel
theorem dX7_isProper_48 : decode cX7_isProper 48 = .ok (.iaload, 1) := by decide +kernel
theorem dX7_isProper_49 : decode cX7_isProper 49 = .ok (.ifCond .eq 7, 3) := by decide +kernel
theorem dX7_isProper_52 : decode cX7_isProper 52 = .ok (.iconst 1, 1) := by decide +kernel
theorem dX7_isProper_53 : decode cX7_isProper 53 = .ok (.goto 4, 3) := by decide +kernel
theorem dX7_isProper_56 : decode cX7_isProper 56 = .ok (.iconst 0, 1) := by decide +kernel
theorem dX7_isProper_57 : decode cX7_isProper 57 = .ok (.istore_n 2, 1) := by decide +kernel
theorem dX7_isProper_58 : decode cX7_isProper 58 = .ok (.aload_n 0, 1) := by decide +kernel
theorem dX7_isProper_59 : decode cX7_isProper 59 = .ok (.getfield 29, 3) := by decide +kernel
theorem dX7_isProper_62 : decode cX7_isProper 62 = .ok (.iload_n 3, 1) := by decide +kernel
theorem dX7_isProper_63 : decode cX7_isProper 63 = .ok (.iaload, 1) := by decide +kernel
theorem dX7_isProper_64 : decode cX7_isProper 64 = .ok (.iconst 1, 1) := by decide +kernel
theorem dX7_isProper_65 : decode cX7_isProper 65 = .ok (.if_icmp .ne 12, 3) := by decide +kernel
theorem dX7_isProper_68 : decode cX7_isProper 68 = .ok (.aload_n 0, 1) := by decide +kernel
theorem dX7_isProper_69 : decode cX7_isProper 69 = .ok (.getfield 32, 3) := by decide +kernel
theorem dX7_isProper_72 : decode cX7_isProper 72 = .ok (.iload_n 3, 1) := by decide +kernel
theorem dX7_isProper_73 : decode cX7_isProper 73 = .ok (.iaload, 1) := by decide +kernel
theorem dX7_isProper_74 : decode cX7_isProper 74 = .ok (.ifCond .lt 22, 3) := by decide +kernel
theorem dX7_isProper_77 : decode cX7_isProper 77 = .ok (.aload_n 0, 1) := by decide +kernel
theorem dX7_isProper_78 : decode cX7_isProper 78 = .ok (.getfield 29, 3) := by decide +kernel
theorem dX7_isProper_81 : decode cX7_isProper 81 = .ok (.iload_n 3, 1) := by decide +kernel
theorem dX7_isProper_82 : decode cX7_isProper 82 = .ok (.iaload, 1) := by decide +kernel
theorem dX7_isProper_83 : decode cX7_isProper 83 = .ok (.iconst 2, 1) := by decide +kernel
theorem dX7_isProper_84 : decode cX7_isProper 84 = .ok (.if_icmp .ne 16, 3) := by decide +kernel
theorem dX7_isProper_87 : decode cX7_isProper 87 = .ok (.aload_n 0, 1) := by decide +kernel
theorem dX7_isProper_88 : decode cX7_isProper 88 = .ok (.getfield 32, 3) := by decide +kernel
theorem dX7_isProper_91 : decode cX7_isProper 91 = .ok (.iload_n 3, 1) := by decide +kernel
theorem dX7_isProper_92 : decode cX7_isProper 92 = .ok (.iaload, 1) := by decide +kernel
theorem dX7_isProper_93 : decode cX7_isProper 93 = .ok (.ifCond .le 7, 3) := by decide +kernel
theorem dX7_isProper_96 : decode cX7_isProper 96 = .ok (.iconst 1, 1) := by decide +kernel
theorem dX7_isProper_97 : decode cX7_isProper 97 = .ok (.goto 4, 3) := by decide +kernel
theorem dX7_isProper_100 : decode cX7_isProper 100 = .ok (.iconst 0, 1) := by decide +kernel
theorem dX7_isProper_101 : decode cX7_isProper 101 = .ok (.istore 4, 2) := by decide +kernel
theorem dX7_isProper_103 : decode cX7_isProper 103 = .ok (.iload_n 1, 1) := by decide +kernel
theorem dX7_isProper_104 : decode cX7_isProper 104 = .ok (.ifCond .eq 21, 3) := by decide +kernel
theorem dX7_isProper_107 : decode cX7_isProper 107 = .ok (.aload_n 0, 1) := by decide +kernel
theorem dX7_isProper_108 : decode cX7_isProper 108 = .ok (.getfield 35, 3) := by decide +kernel
theorem dX7_isProper_111 : decode cX7_isProper 111 = .ok (.iload_n 3, 1) := by decide +kernel
theorem dX7_isProper_112 : decode cX7_isProper 112 = .ok (.baload, 1) := by decide +kernel
theorem dX7_isProper_113 : decode cX7_isProper 113 = .ok (.ifCond .ne 8, 3) := by decide +kernel
theorem dX7_isProper_116 : decode cX7_isProper 116 = .ok (.iload 4, 2) := by decide +kernel
theorem dX7_isProper_118 : decode cX7_isProper 118 = .ok (.ifCond .ne 7, 3) := by decide +kernel
theorem dX7_isProper_121 : decode cX7_isProper 121 = .ok (.iconst 1, 1) := by decide +kernel
theorem dX7_isProper_122 : decode cX7_isProper 122 = .ok (.goto 4, 3) := by decide +kernel
theorem dX7_isProper_125 : decode cX7_isProper 125 = .ok (.iconst 0, 1) := by decide +kernel
theorem dX7_isProper_126 : decode cX7_isProper 126 = .ok (.istore_n 1, 1) := by decide +kernel
theorem dX7_isProper_127 : decode cX7_isProper 127 = .ok (.iinc 3 1, 3) := by decide +kernel
theorem dX7_isProper_130 : decode cX7_isProper 130 = .ok (.goto (-108), 3) := by decide +kernel
theorem dX7_isProper_133 : decode cX7_isProper 133 = .ok (.iload_n 1, 1) := by decide +kernel
theorem dX7_isProper_134 : decode cX7_isProper 134 = .ok (.ifCond .eq 11, 3) := by decide +kernel
theorem dX7_isProper_137 : decode cX7_isProper 137 = .ok (.iload_n 2, 1) := by decide +kernel
theorem dX7_isProper_138 : decode cX7_isProper 138 = .ok (.ifCond .eq 7, 3) := by decide +kernel
theorem dX7_isProper_141 : decode cX7_isProper 141 = .ok (.iconst 1, 1) := by decide +kernel
theorem dX7_isProper_142 : decode cX7_isProper 142 = .ok (.goto 4, 3) := by decide +kernel
theorem dX7_isProper_145 : decode cX7_isProper 145 = .ok (.iconst 0, 1) := by decide +kernel
theorem dX7_isProper_146 : decode cX7_isProper 146 = .ok (.ireturn, 1) := by decide +kernel
set_option maxRecDepth 20000 in
theorem ggX7_matrix_X7_within : GoodIn wsX7_matrix wsX7_within := goodIn_r _ [12, 13] (by decide +kernel) (by decide +kernel)
set_option maxRecDepth 20000 in
theorem gX7_matrix_X7_within : GoodIn wsX7_matrix (va_wsS RX7 124 yX7_within wsX7_within) := goodIn_app (goodIn_of _ (by decide +kernel)) ggX7_matrix_X7_within
set_option maxRecDepth 20000 in
theorem ggX7_matrix_X7_brings : GoodIn wsX7_matrix wsX7_brings := goodIn_r _ [17, 2, 18, 19, 20, 21, 11, 22, 23, 24, 25, 26, 13, 27, 28, 29, 30, 31, 9, 10, 12, 32, 33, 34, 35, 36, 37, 38, 39, 40, 41, 42, 43, 44, 45, 46, 47, 48, 49, 50, 51, 52, 53, 54, 55, 56] (by decide +kernel) (by decide +kernel)
set_option maxRecDepth 20000 in
theorem gX7_matrix_X7_brings : GoodIn wsX7_matrix (wsV RX7 150 RX7 yX7_brings wsX7_brings) := goodIn_app (goodIn_of _ (by decide +kernel)) ggX7_matrix_X7_brings
theorem dX7_matrix_0 : decode cX7_matrix 0 = .ok (.aload_n 0, 1) := by decide +kernel
theorem dX7_matrix_1 : decode cX7_matrix 1 = .ok (.iconst 0, 1) := by decide +kernel
theorem dX7_matrix_2 : decode cX7_matrix 2 = .ok (.putfield 72, 3) := by decide +kernel
theorem dX7_matrix_5 : decode cX7_matrix 5 = .ok (.iconst 0, 1) := by decide +kernel
theorem dX7_matrix_6 : decode cX7_matrix 6 = .ok (.istore_n 1, 1) := by decide +kernel
theorem dX7_matrix_7 : decode cX7_matrix 7 = .ok (.iload_n 1, 1) := by decide +kernel
theorem dX7_matrix_8 : decode cX7_matrix 8 = .ok (.sipush 1600, 3) := by decide +kernel
theorem dX7_matrix_11 : decode cX7_matrix 11 = .ok (.if_icmp .ge 16, 3) := by decide +kernel
theorem dX7_matrix_14 : decode cX7_matrix 14 = .ok (.aload_n 0, 1) := by decide +kernel
theorem dX7_matrix_15 : decode cX7_matrix 15 = .ok (.getfield 60, 3) := by decide +kernel
theorem dX7_matrix_18 : decode cX7_matrix 18 = .ok (.iload_n 1, 1) := by decide +kernel
theorem dX7_matrix_19 : decode cX7_matrix 19 = .ok (.lconst 0, 1) := by decide +kernel
theorem dX7_matrix_20 : decode cX7_matrix 20 = .ok (.lastore, 1) := by decide +kernel
theorem dX7_matrix_21 : decode cX7_matrix 21 = .ok (.iinc 1 1, 3) := by decide +kernel
theorem dX7_matrix_24 : decode cX7_matrix 24 = .ok (.goto (-17), 3) := by decide +kernel
theorem dX7_matrix_27 : decode cX7_matrix 27 = .ok (.iconst 0, 1) := by decide +kernel
theorem dX7_matrix_28 : decode cX7_matrix 28 = .ok (.istore_n 1, 1) := by decide +kernel
theorem dX7_matrix_29 : decode cX7_matrix 29 = .ok (.iload_n 1, 1) := by decide +kernel
theorem dX7_matrix_30 : decode cX7_matrix 30 = .ok (.aload_n 0, 1) := by decide +kernel
theorem dX7_matrix_31 : decode cX7_matrix 31 = .ok (.getfield 83, 3) := by decide +kernel
theorem dX7_matrix_34 : decode cX7_matrix 34 = .ok (.if_icmp .ge 142, 3) := by decide +kernel
theorem dX7_matrix_37 : decode cX7_matrix 37 = .ok (.aload_n 0, 1) := by decide +kernel
theorem dX7_matrix_38 : decode cX7_matrix 38 = .ok (.getfield 35, 3) := by decide +kernel
theorem dX7_matrix_41 : decode cX7_matrix 41 = .ok (.iload_n 1, 1) := by decide +kernel
theorem dX7_matrix_42 : decode cX7_matrix 42 = .ok (.baload, 1) := by decide +kernel
theorem dX7_matrix_43 : decode cX7_matrix 43 = .ok (.ifCond .ne 127, 3) := by decide +kernel
theorem dX7_matrix_46 : decode cX7_matrix 46 = .ok (.aload_n 0, 1) := by decide +kernel
theorem dX7_matrix_47 : decode cX7_matrix 47 = .ok (.getfield 23, 3) := by decide +kernel
theorem dX7_matrix_50 : decode cX7_matrix 50 = .ok (.iload_n 1, 1) := by decide +kernel
theorem dX7_matrix_51 : decode cX7_matrix 51 = .ok (.iaload, 1) := by decide +kernel
theorem dX7_matrix_52 : decode cX7_matrix 52 = .ok (.istore_n 2, 1) := by decide +kernel
theorem dX7_matrix_53 : decode cX7_matrix 53 = .ok (.aload_n 0, 1) := by decide +kernel
theorem dX7_matrix_54 : decode cX7_matrix 54 = .ok (.getfield 26, 3) := by decide +kernel
theorem dX7_matrix_57 : decode cX7_matrix 57 = .ok (.iload_n 1, 1) := by decide +kernel
theorem dX7_matrix_58 : decode cX7_matrix 58 = .ok (.iaload, 1) := by decide +kernel
theorem dX7_matrix_59 : decode cX7_matrix 59 = .ok (.istore_n 3, 1) := by decide +kernel
theorem dX7_matrix_60 : decode cX7_matrix 60 = .ok (.aload_n 0, 1) := by decide +kernel
theorem dX7_matrix_61 : decode cX7_matrix 61 = .ok (.getfield 60, 3) := by decide +kernel
theorem dX7_matrix_64 : decode cX7_matrix 64 = .ok (.bipush 40, 2) := by decide +kernel
theorem dX7_matrix_66 : decode cX7_matrix 66 = .ok (.iload_n 2, 1) := by decide +kernel
theorem dX7_matrix_67 : decode cX7_matrix 67 = .ok (.imul, 1) := by decide +kernel
theorem dX7_matrix_68 : decode cX7_matrix 68 = .ok (.iload_n 3, 1) := by decide +kernel
theorem dX7_matrix_69 : decode cX7_matrix 69 = .ok (.iadd, 1) := by decide +kernel
theorem dX7_matrix_70 : decode cX7_matrix 70 = .ok (.aload_n 0, 1) := by decide +kernel
theorem dX7_matrix_71 : decode cX7_matrix 71 = .ok (.getfield 32, 3) := by decide +kernel
theorem dX7_matrix_74 : decode cX7_matrix 74 = .ok (.iload_n 1, 1) := by decide +kernel
theorem dX7_matrix_75 : decode cX7_matrix 75 = .ok (.iaload, 1) := by decide +kernel
theorem dX7_matrix_76 : decode cX7_matrix 76 = .ok (.ineg, 1) := by decide +kernel
theorem dX7_matrix_77 : decode cX7_matrix 77 = .ok (.i2l, 1) := by decide +kernel
theorem dX7_matrix_78 : decode cX7_matrix 78 = .ok (.invokestatic 124, 3) := by decide +kernel
theorem dX7_matrix_81 : decode cX7_matrix 81 = .ok (.lastore, 1) := by decide +kernel
theorem dX7_matrix_82 : decode cX7_matrix 82 = .ok (.aload_n 0, 1) := by decide +kernel
theorem dX7_matrix_83 : decode cX7_matrix 83 = .ok (.getfield 60, 3) := by decide +kernel
theorem dX7_matrix_86 : decode cX7_matrix 86 = .ok (.bipush 40, 2) := by decide +kernel
theorem dX7_matrix_88 : decode cX7_matrix 88 = .ok (.iload_n 3, 1) := by decide +kernel
theorem dX7_matrix_89 : decode cX7_matrix 89 = .ok (.imul, 1) := by decide +kernel
theorem dX7_matrix_90 : decode cX7_matrix 90 = .ok (.iload_n 2, 1) := by decide +kernel
theorem dX7_matrix_91 : decode cX7_matrix 91 = .ok (.iadd, 1) := by decide +kernel
theorem dX7_matrix_92 : decode cX7_matrix 92 = .ok (.aload_n 0, 1) := by decide +kernel
theorem dX7_matrix_93 : decode cX7_matrix 93 = .ok (.getfield 32, 3) := by decide +kernel
theorem dX7_matrix_96 : decode cX7_matrix 96 = .ok (.iload_n 1, 1) := by decide +kernel
theorem dX7_matrix_97 : decode cX7_matrix 97 = .ok (.iaload, 1) := by decide +kernel
theorem dX7_matrix_98 : decode cX7_matrix 98 = .ok (.ineg, 1) := by decide +kernel
theorem dX7_matrix_99 : decode cX7_matrix 99 = .ok (.i2l, 1) := by decide +kernel
theorem dX7_matrix_100 : decode cX7_matrix 100 = .ok (.invokestatic 124, 3) := by decide +kernel
theorem dX7_matrix_103 : decode cX7_matrix 103 = .ok (.lastore, 1) := by decide +kernel
theorem dX7_matrix_104 : decode cX7_matrix 104 = .ok (.aload_n 0, 1) := by decide +kernel
theorem dX7_matrix_105 : decode cX7_matrix 105 = .ok (.getfield 60, 3) := by decide +kernel
theorem dX7_matrix_108 : decode cX7_matrix 108 = .ok (.bipush 40, 2) := by decide +kernel
theorem dX7_matrix_110 : decode cX7_matrix 110 = .ok (.iload_n 2, 1) := by decide +kernel
theorem dX7_matrix_111 : decode cX7_matrix 111 = .ok (.imul, 1) := by decide +kernel
theorem dX7_matrix_112 : decode cX7_matrix 112 = .ok (.iload_n 2, 1) := by decide +kernel
theorem dX7_matrix_113 : decode cX7_matrix 113 = .ok (.iadd, 1) := by decide +kernel
theorem dX7_matrix_114 : decode cX7_matrix 114 = .ok (.aload_n 0, 1) := by decide +kernel
theorem dX7_matrix_115 : decode cX7_matrix 115 = .ok (.getfield 60, 3) := by decide +kernel
theorem dX7_matrix_118 : decode cX7_matrix 118 = .ok (.bipush 40, 2) := by decide +kernel
theorem dX7_matrix_120 : decode cX7_matrix 120 = .ok (.iload_n 2, 1) := by decide +kernel
theorem dX7_matrix_121 : decode cX7_matrix 121 = .ok (.imul, 1) := by decide +kernel
theorem dX7_matrix_122 : decode cX7_matrix 122 = .ok (.iload_n 2, 1) := by decide +kernel
theorem dX7_matrix_123 : decode cX7_matrix 123 = .ok (.iadd, 1) := by decide +kernel
theorem dX7_matrix_124 : decode cX7_matrix 124 = .ok (.laload, 1) := by decide +kernel
theorem dX7_matrix_125 : decode cX7_matrix 125 = .ok (.aload_n 0, 1) := by decide +kernel
theorem dX7_matrix_126 : decode cX7_matrix 126 = .ok (.getfield 32, 3) := by decide +kernel
theorem dX7_matrix_129 : decode cX7_matrix 129 = .ok (.iload_n 1, 1) := by decide +kernel
theorem dX7_matrix_130 : decode cX7_matrix 130 = .ok (.iaload, 1) := by decide +kernel
theorem dX7_matrix_131 : decode cX7_matrix 131 = .ok (.i2l, 1) := by decide +kernel
theorem dX7_matrix_132 : decode cX7_matrix 132 = .ok (.ladd, 1) := by decide +kernel
theorem dX7_matrix_133 : decode cX7_matrix 133 = .ok (.invokestatic 124, 3) := by decide +kernel
theorem dX7_matrix_136 : decode cX7_matrix 136 = .ok (.lastore, 1) := by decide +kernel
theorem dX7_matrix_137 : decode cX7_matrix 137 = .ok (.aload_n 0, 1) := by decide +kernel
theorem dX7_matrix_138 : decode cX7_matrix 138 = .ok (.getfield 60, 3) := by decide +kernel
theorem dX7_matrix_141 : decode cX7_matrix 141 = .ok (.bipush 40, 2) := by decide +kernel
theorem dX7_matrix_143 : decode cX7_matrix 143 = .ok (.iload_n 3, 1) := by decide +kernel
theorem dX7_matrix_144 : decode cX7_matrix 144 = .ok (.imul, 1) := by decide +kernel
theorem dX7_matrix_145 : decode cX7_matrix 145 = .ok (.iload_n 3, 1) := by decide +kernel
theorem dX7_matrix_146 : decode cX7_matrix 146 = .ok (.iadd, 1) := by decide +kernel
theorem dX7_matrix_147 : decode cX7_matrix 147 = .ok (.aload_n 0, 1) := by decide +kernel
theorem dX7_matrix_148 : decode cX7_matrix 148 = .ok (.getfield 60, 3) := by decide +kernel
theorem dX7_matrix_151 : decode cX7_matrix 151 = .ok (.bipush 40, 2) := by decide +kernel
theorem dX7_matrix_153 : decode cX7_matrix 153 = .ok (.iload_n 3, 1) := by decide +kernel
theorem dX7_matrix_154 : decode cX7_matrix 154 = .ok (.imul, 1) := by decide +kernel
theorem dX7_matrix_155 : decode cX7_matrix 155 = .ok (.iload_n 3, 1) := by decide +kernel
theorem dX7_matrix_156 : decode cX7_matrix 156 = .ok (.iadd, 1) := by decide +kernel
theorem dX7_matrix_157 : decode cX7_matrix 157 = .ok (.laload, 1) := by decide +kernel
theorem dX7_matrix_158 : decode cX7_matrix 158 = .ok (.aload_n 0, 1) := by decide +kernel
theorem dX7_matrix_159 : decode cX7_matrix 159 = .ok (.getfield 32, 3) := by decide +kernel
theorem dX7_matrix_162 : decode cX7_matrix 162 = .ok (.iload_n 1, 1) := by decide +kernel
theorem dX7_matrix_163 : decode cX7_matrix 163 = .ok (.iaload, 1) := by decide +kernel
theorem dX7_matrix_164 : decode cX7_matrix 164 = .ok (.i2l, 1) := by decide +kernel
theorem dX7_matrix_165 : decode cX7_matrix 165 = .ok (.ladd, 1) := by decide +kernel
theorem dX7_matrix_166 : decode cX7_matrix 166 = .ok (.invokestatic 124, 3) := by decide +kernel
theorem dX7_matrix_169 : decode cX7_matrix 169 = .ok (.lastore, 1) := by decide +kernel
theorem dX7_matrix_170 : decode cX7_matrix 170 = .ok (.iinc 1 1, 3) := by decide +kernel
theorem dX7_matrix_173 : decode cX7_matrix 173 = .ok (.goto (-144), 3) := by decide +kernel
theorem dX7_matrix_176 : decode cX7_matrix 176 = .ok (.aload_n 0, 1) := by decide +kernel
theorem dX7_matrix_177 : decode cX7_matrix 177 = .ok (.aload_n 0, 1) := by decide +kernel
theorem dX7_matrix_178 : decode cX7_matrix 178 = .ok (.getfield 76, 3) := by decide +kernel
theorem dX7_matrix_181 : decode cX7_matrix 181 = .ok (.aload_n 0, 1) := by decide +kernel
theorem dX7_matrix_182 : decode cX7_matrix 182 = .ok (.getfield 76, 3) := by decide +kernel
theorem dX7_matrix_185 : decode cX7_matrix 185 = .ok (.invokevirtual 150, 3) := by decide +kernel
theorem dX7_matrix_188 : decode cX7_matrix 188 = .ok (.ireturn, 1) := by decide +kernel
set_option maxRecDepth 20000 in
theorem ggX7_reaches_X7_isIn : GoodIn wsX7_reaches wsX7_isIn := goodIn_r _ [6] (by decide +kernel) (by decide +kernel)
set_option maxRecDepth 20000 in
theorem gX7_reaches_X7_isIn : GoodIn wsX7_reaches (va_wsS RX7 79 yX7_isIn wsX7_isIn) := goodIn_app (goodIn_of _ (by decide +kernel)) ggX7_reaches_X7_isIn
set_option maxRecDepth 20000 in
theorem ggX7_reaches_X7_holds : GoodIn wsX7_reaches wsX7_holds := goodIn_r _ [10, 11, 12, 13, 14, 15, 16, 17, 18, 19, 20, 21, 22, 23, 24, 25, 26, 27, 28, 29, 30, 31, 32, 33, 34, 35, 36] (by decide +kernel) (by decide +kernel)
set_option maxRecDepth 20000 in
theorem gX7_reaches_X7_holds : GoodIn wsX7_reaches (wsV RX7 90 RX7 yX7_holds wsX7_holds) := goodIn_app (goodIn_of _ (by decide +kernel)) ggX7_reaches_X7_holds
theorem dX7_reaches_0 : decode cX7_reaches 0 = .ok (.iload_n 1, 1) := by decide +kernel
theorem dX7_reaches_1 : decode cX7_reaches 1 = .ok (.iconst 0, 1) := by decide +kernel
theorem dX7_reaches_2 : decode cX7_reaches 2 = .ok (.ldc 208, 2) := by decide +kernel
theorem dX7_reaches_4 : decode cX7_reaches 4 = .ok (.invokestatic 79, 3) := by decide +kernel
theorem dX7_reaches_7 : decode cX7_reaches 7 = .ok (.ifCond .eq 38, 3) := by decide +kernel
theorem dX7_reaches_10 : decode cX7_reaches 10 = .ok (.iload_n 2, 1) := by decide +kernel
theorem dX7_reaches_11 : decode cX7_reaches 11 = .ok (.iconst 0, 1) := by decide +kernel
theorem dX7_reaches_12 : decode cX7_reaches 12 = .ok (.ldc 208, 2) := by decide +kernel
theorem dX7_reaches_14 : decode cX7_reaches 14 = .ok (.invokestatic 79, 3) := by decide +kernel
theorem dX7_reaches_17 : decode cX7_reaches 17 = .ok (.ifCond .eq 28, 3) := by decide +kernel
theorem dX7_reaches_20 : decode cX7_reaches 20 = .ok (.iload_n 3, 1) := by decide +kernel
theorem dX7_reaches_21 : decode cX7_reaches 21 = .ok (.iconst 0, 1) := by decide +kernel
theorem dX7_reaches_22 : decode cX7_reaches 22 = .ok (.ldc 208, 2) := by decide +kernel
theorem dX7_reaches_24 : decode cX7_reaches 24 = .ok (.invokestatic 79, 3) := by decide +kernel
theorem dX7_reaches_27 : decode cX7_reaches 27 = .ok (.ifCond .eq 18, 3) := by decide +kernel
theorem dX7_reaches_30 : decode cX7_reaches 30 = .ok (.iload 4, 2) := by decide +kernel
theorem dX7_reaches_32 : decode cX7_reaches 32 = .ok (.iconst 0, 1) := by decide +kernel
theorem dX7_reaches_33 : decode cX7_reaches 33 = .ok (.ldc 209, 2) := by decide +kernel
theorem dX7_reaches_35 : decode cX7_reaches 35 = .ok (.invokestatic 79, 3) := by decide +kernel
theorem dX7_reaches_38 : decode cX7_reaches 38 = .ok (.ifCond .eq 7, 3) := by decide +kernel
theorem dX7_reaches_41 : decode cX7_reaches 41 = .ok (.iconst 1, 1) := by decide +kernel
theorem dX7_reaches_42 : decode cX7_reaches 42 = .ok (.goto 4, 3) := by decide +kernel
theorem dX7_reaches_45 : decode cX7_reaches 45 = .ok (.iconst 0, 1) := by decide +kernel
theorem dX7_reaches_46 : decode cX7_reaches 46 = .ok (.istore 5, 2) := by decide +kernel
theorem dX7_reaches_48 : decode cX7_reaches 48 = .ok (.aload_n 0, 1) := by decide +kernel
theorem dX7_reaches_49 : decode cX7_reaches 49 = .ok (.iload 5, 2) := by decide +kernel
theorem dX7_reaches_51 : decode cX7_reaches 51 = .ok (.ifCond .eq 7, 3) := by decide +kernel
theorem dX7_reaches_54 : decode cX7_reaches 54 = .ok (.iconst 0, 1) := by decide +kernel
theorem dX7_reaches_55 : decode cX7_reaches 55 = .ok (.goto 4, 3) := by decide +kernel
theorem dX7_reaches_58 : decode cX7_reaches 58 = .ok (.iconst 1, 1) := by decide +kernel
theorem dX7_reaches_59 : decode cX7_reaches 59 = .ok (.invokevirtual 90, 3) := by decide +kernel
theorem dX7_reaches_62 : decode cX7_reaches 62 = .ok (.ifCond .ne 5, 3) := by decide +kernel
theorem dX7_reaches_65 : decode cX7_reaches 65 = .ok (.iconst 0, 1) := by decide +kernel
theorem dX7_reaches_66 : decode cX7_reaches 66 = .ok (.ireturn, 1) := by decide +kernel
theorem dX7_reaches_67 : decode cX7_reaches 67 = .ok (.iload_n 1, 1) := by decide +kernel
theorem dX7_reaches_68 : decode cX7_reaches 68 = .ok (.iload_n 2, 1) := by decide +kernel
theorem dX7_reaches_69 : decode cX7_reaches 69 = .ok (.if_icmp .le 7, 3) := by decide +kernel
theorem dX7_reaches_72 : decode cX7_reaches 72 = .ok (.iload_n 1, 1) := by decide +kernel
theorem dX7_reaches_73 : decode cX7_reaches 73 = .ok (.goto 4, 3) := by decide +kernel
theorem dX7_reaches_76 : decode cX7_reaches 76 = .ok (.iload_n 2, 1) := by decide +kernel
theorem dX7_reaches_77 : decode cX7_reaches 77 = .ok (.istore 6, 2) := by decide +kernel
theorem dX7_reaches_79 : decode cX7_reaches 79 = .ok (.iload_n 3, 1) := by decide +kernel
theorem dX7_reaches_80 : decode cX7_reaches 80 = .ok (.iload 6, 2) := by decide +kernel
theorem dX7_reaches_82 : decode cX7_reaches 82 = .ok (.if_icmp .le 7, 3) := by decide +kernel
theorem dX7_reaches_85 : decode cX7_reaches 85 = .ok (.iload_n 3, 1) := by decide +kernel
theorem dX7_reaches_86 : decode cX7_reaches 86 = .ok (.goto 5, 3) := by decide +kernel
theorem dX7_reaches_89 : decode cX7_reaches 89 = .ok (.iload 6, 2) := by decide +kernel
theorem dX7_reaches_91 : decode cX7_reaches 91 = .ok (.istore 6, 2) := by decide +kernel
theorem dX7_reaches_93 : decode cX7_reaches 93 = .ok (.iload 4, 2) := by decide +kernel
theorem dX7_reaches_95 : decode cX7_reaches 95 = .ok (.iload_n 1, 1) := by decide +kernel
theorem dX7_reaches_96 : decode cX7_reaches 96 = .ok (.iload_n 2, 1) := by decide +kernel
theorem dX7_reaches_97 : decode cX7_reaches 97 = .ok (.iadd, 1) := by decide +kernel
theorem dX7_reaches_98 : decode cX7_reaches 98 = .ok (.iload_n 3, 1) := by decide +kernel
theorem dX7_reaches_99 : decode cX7_reaches 99 = .ok (.iadd, 1) := by decide +kernel
theorem dX7_reaches_100 : decode cX7_reaches 100 = .ok (.if_icmp .gt 22, 3) := by decide +kernel
theorem dX7_reaches_103 : decode cX7_reaches 103 = .ok (.iload 4, 2) := by decide +kernel
theorem dX7_reaches_105 : decode cX7_reaches 105 = .ok (.iconst 2, 1) := by decide +kernel
theorem dX7_reaches_106 : decode cX7_reaches 106 = .ok (.iload 6, 2) := by decide +kernel
theorem dX7_reaches_108 : decode cX7_reaches 108 = .ok (.imul, 1) := by decide +kernel
theorem dX7_reaches_109 : decode cX7_reaches 109 = .ok (.iload_n 1, 1) := by decide +kernel
theorem dX7_reaches_110 : decode cX7_reaches 110 = .ok (.isub, 1) := by decide +kernel
theorem dX7_reaches_111 : decode cX7_reaches 111 = .ok (.iload_n 2, 1) := by decide +kernel
theorem dX7_reaches_112 : decode cX7_reaches 112 = .ok (.isub, 1) := by decide +kernel
theorem dX7_reaches_113 : decode cX7_reaches 113 = .ok (.iload_n 3, 1) := by decide +kernel
theorem dX7_reaches_114 : decode cX7_reaches 114 = .ok (.isub, 1) := by decide +kernel
theorem dX7_reaches_115 : decode cX7_reaches 115 = .ok (.if_icmp .lt 7, 3) := by decide +kernel
theorem dX7_reaches_118 : decode cX7_reaches 118 = .ok (.iconst 1, 1) := by decide +kernel
theorem dX7_reaches_119 : decode cX7_reaches 119 = .ok (.goto 4, 3) := by decide +kernel
theorem dX7_reaches_122 : decode cX7_reaches 122 = .ok (.iconst 0, 1) := by decide +kernel
theorem dX7_reaches_123 : decode cX7_reaches 123 = .ok (.ireturn, 1) := by decide +kernel
set_option maxRecDepth 20000 in
theorem ggX7_folds_X7_isIn : GoodIn wsX7_folds wsX7_isIn := goodIn_r _ [4] (by decide +kernel) (by decide +kernel)
set_option maxRecDepth 20000 in
theorem gX7_folds_X7_isIn : GoodIn wsX7_folds (va_wsS RX7 79 yX7_isIn wsX7_isIn) := goodIn_app (goodIn_of _ (by decide +kernel)) ggX7_folds_X7_isIn
set_option maxRecDepth 20000 in
theorem ggX7_folds_X7_holds : GoodIn wsX7_folds wsX7_holds := goodIn_r _ [8, 9, 13, 14, 15, 16, 17, 18, 19, 20, 21, 22, 23, 24, 25, 26, 27, 28, 29, 30, 31, 32, 33, 34, 35, 36, 37] (by decide +kernel) (by decide +kernel)
set_option maxRecDepth 20000 in
theorem gX7_folds_X7_holds : GoodIn wsX7_folds (wsV RX7 90 RX7 yX7_holds wsX7_holds) := goodIn_app (goodIn_of _ (by decide +kernel)) ggX7_folds_X7_holds
set_option maxRecDepth 20000 in
theorem ggX7_folds_X7_bits : GoodIn wsX7_folds wsX7_bits := goodIn_r _ [12] (by decide +kernel) (by decide +kernel)
set_option maxRecDepth 20000 in
theorem gX7_folds_X7_bits : GoodIn wsX7_folds (va_wsS RX7 168 yX7_bits wsX7_bits) := goodIn_app (goodIn_of _ (by decide +kernel)) ggX7_folds_X7_bits
theorem dX7_folds_0 : decode cX7_folds 0 = .ok (.iload_n 1, 1) := by decide +kernel
theorem dX7_folds_1 : decode cX7_folds 1 = .ok (.iconst 1, 1) := by decide +kernel
theorem dX7_folds_2 : decode cX7_folds 2 = .ok (.sipush 359, 3) := by decide +kernel
theorem dX7_folds_5 : decode cX7_folds 5 = .ok (.invokestatic 79, 3) := by decide +kernel
theorem dX7_folds_8 : decode cX7_folds 8 = .ok (.ifCond .eq 52, 3) := by decide +kernel
theorem dX7_folds_11 : decode cX7_folds 11 = .ok (.iload_n 2, 1) := by decide +kernel
theorem dX7_folds_12 : decode cX7_folds 12 = .ok (.iconst 1, 1) := by decide +kernel
theorem dX7_folds_13 : decode cX7_folds 13 = .ok (.sipush 359, 3) := by decide +kernel
theorem dX7_folds_16 : decode cX7_folds 16 = .ok (.invokestatic 79, 3) := by decide +kernel
theorem dX7_folds_19 : decode cX7_folds 19 = .ok (.ifCond .eq 41, 3) := by decide +kernel
theorem dX7_folds_22 : decode cX7_folds 22 = .ok (.iload_n 3, 1) := by decide +kernel
theorem dX7_folds_23 : decode cX7_folds 23 = .ok (.iconst 1, 1) := by decide +kernel
theorem dX7_folds_24 : decode cX7_folds 24 = .ok (.sipush 359, 3) := by decide +kernel
theorem dX7_folds_27 : decode cX7_folds 27 = .ok (.invokestatic 79, 3) := by decide +kernel
theorem dX7_folds_30 : decode cX7_folds 30 = .ok (.ifCond .eq 30, 3) := by decide +kernel
theorem dX7_folds_33 : decode cX7_folds 33 = .ok (.iload 4, 2) := by decide +kernel
theorem dX7_folds_35 : decode cX7_folds 35 = .ok (.iconst 1, 1) := by decide +kernel
theorem dX7_folds_36 : decode cX7_folds 36 = .ok (.sipush 359, 3) := by decide +kernel
theorem dX7_folds_39 : decode cX7_folds 39 = .ok (.invokestatic 79, 3) := by decide +kernel
theorem dX7_folds_42 : decode cX7_folds 42 = .ok (.ifCond .eq 18, 3) := by decide +kernel
theorem dX7_folds_45 : decode cX7_folds 45 = .ok (.iload 5, 2) := by decide +kernel
theorem dX7_folds_47 : decode cX7_folds 47 = .ok (.iconst 0, 1) := by decide +kernel
theorem dX7_folds_48 : decode cX7_folds 48 = .ok (.bipush 15, 2) := by decide +kernel
theorem dX7_folds_50 : decode cX7_folds 50 = .ok (.invokestatic 79, 3) := by decide +kernel
theorem dX7_folds_53 : decode cX7_folds 53 = .ok (.ifCond .eq 7, 3) := by decide +kernel
theorem dX7_folds_56 : decode cX7_folds 56 = .ok (.iconst 1, 1) := by decide +kernel
theorem dX7_folds_57 : decode cX7_folds 57 = .ok (.goto 4, 3) := by decide +kernel
theorem dX7_folds_60 : decode cX7_folds 60 = .ok (.iconst 0, 1) := by decide +kernel
theorem dX7_folds_61 : decode cX7_folds 61 = .ok (.istore 6, 2) := by decide +kernel
theorem dX7_folds_63 : decode cX7_folds 63 = .ok (.aload_n 0, 1) := by decide +kernel
theorem dX7_folds_64 : decode cX7_folds 64 = .ok (.iload 6, 2) := by decide +kernel
theorem dX7_folds_66 : decode cX7_folds 66 = .ok (.ifCond .eq 7, 3) := by decide +kernel
theorem dX7_folds_69 : decode cX7_folds 69 = .ok (.iconst 0, 1) := by decide +kernel
theorem dX7_folds_70 : decode cX7_folds 70 = .ok (.goto 4, 3) := by decide +kernel
theorem dX7_folds_73 : decode cX7_folds 73 = .ok (.iconst 1, 1) := by decide +kernel
theorem dX7_folds_74 : decode cX7_folds 74 = .ok (.invokevirtual 90, 3) := by decide +kernel
theorem dX7_folds_77 : decode cX7_folds 77 = .ok (.ifCond .ne 5, 3) := by decide +kernel
theorem dX7_folds_80 : decode cX7_folds 80 = .ok (.iconst 0, 1) := by decide +kernel
theorem dX7_folds_81 : decode cX7_folds 81 = .ok (.ireturn, 1) := by decide +kernel
theorem dX7_folds_82 : decode cX7_folds 82 = .ok (.iload_n 1, 1) := by decide +kernel
theorem dX7_folds_83 : decode cX7_folds 83 = .ok (.iload_n 2, 1) := by decide +kernel
theorem dX7_folds_84 : decode cX7_folds 84 = .ok (.iadd, 1) := by decide +kernel
theorem dX7_folds_85 : decode cX7_folds 85 = .ok (.iload_n 3, 1) := by decide +kernel
theorem dX7_folds_86 : decode cX7_folds 86 = .ok (.iadd, 1) := by decide +kernel
theorem dX7_folds_87 : decode cX7_folds 87 = .ok (.iload 4, 2) := by decide +kernel
theorem dX7_folds_89 : decode cX7_folds 89 = .ok (.iadd, 1) := by decide +kernel
theorem dX7_folds_90 : decode cX7_folds 90 = .ok (.sipush 360, 3) := by decide +kernel
theorem dX7_folds_93 : decode cX7_folds 93 = .ok (.if_icmp .eq 7, 3) := by decide +kernel
theorem dX7_folds_96 : decode cX7_folds 96 = .ok (.iconst 1, 1) := by decide +kernel
theorem dX7_folds_97 : decode cX7_folds 97 = .ok (.goto 31, 3) := by decide +kernel
theorem dX7_folds_100 : decode cX7_folds 100 = .ok (.iload_n 1, 1) := by decide +kernel
theorem dX7_folds_101 : decode cX7_folds 101 = .ok (.iload_n 3, 1) := by decide +kernel
theorem dX7_folds_102 : decode cX7_folds 102 = .ok (.iadd, 1) := by decide +kernel
theorem dX7_folds_103 : decode cX7_folds 103 = .ok (.sipush 180, 3) := by decide +kernel
theorem dX7_folds_106 : decode cX7_folds 106 = .ok (.if_icmp .eq 7, 3) := by decide +kernel
theorem dX7_folds_109 : decode cX7_folds 109 = .ok (.iconst 2, 1) := by decide +kernel
theorem dX7_folds_110 : decode cX7_folds 110 = .ok (.goto 18, 3) := by decide +kernel
theorem dX7_folds_113 : decode cX7_folds 113 = .ok (.iload 5, 2) := by decide +kernel
theorem dX7_folds_115 : decode cX7_folds 115 = .ok (.invokestatic 168, 3) := by decide +kernel
theorem dX7_folds_118 : decode cX7_folds 118 = .ok (.iconst 2, 1) := by decide +kernel
theorem dX7_folds_119 : decode cX7_folds 119 = .ok (.irem, 1) := by decide +kernel
theorem dX7_folds_120 : decode cX7_folds 120 = .ok (.ifCond .ne 7, 3) := by decide +kernel
theorem dX7_folds_123 : decode cX7_folds 123 = .ok (.iconst 3, 1) := by decide +kernel
theorem dX7_folds_124 : decode cX7_folds 124 = .ok (.goto 4, 3) := by decide +kernel
theorem dX7_folds_127 : decode cX7_folds 127 = .ok (.iconst 0, 1) := by decide +kernel
theorem dX7_folds_128 : decode cX7_folds 128 = .ok (.ireturn, 1) := by decide +kernel
set_option maxRecDepth 20000 in
theorem ggX7_range_X7_isJoint : GoodIn wsX7_range wsX7_isJoint := goodIn_r _ [6, 7, 8, 9, 5, 10, 16, 17, 18, 19, 20, 21, 22, 23, 24, 25, 26, 27, 28, 29, 30, 31, 32, 33, 34, 35, 36, 37, 38, 39, 40] (by decide +kernel) (by decide +kernel)
set_option maxRecDepth 20000 in
theorem gX7_range_X7_isJoint : GoodIn wsX7_range (wsV RX7 98 RX7 yX7_isJoint wsX7_isJoint) := goodIn_app (goodIn_of _ (by decide +kernel)) ggX7_range_X7_isJoint
set_option maxRecDepth 20000 in
theorem ggX7_range_X7_isIn : GoodIn wsX7_range wsX7_isIn := goodIn_r _ [10] (by decide +kernel) (by decide +kernel)
set_option maxRecDepth 20000 in
theorem gX7_range_X7_isIn : GoodIn wsX7_range (va_wsS RX7 79 yX7_isIn wsX7_isIn) := goodIn_app (goodIn_of _ (by decide +kernel)) ggX7_range_X7_isIn
set_option maxRecDepth 20000 in
theorem ggX7_range_X7_holds : GoodIn wsX7_range wsX7_holds := goodIn_r _ [14, 15, 16, 17, 18, 19, 20, 21, 22, 23, 24, 25, 26, 27, 28, 29, 30, 31, 32, 33, 34, 35, 36, 37, 38, 39, 40] (by decide +kernel) (by decide +kernel)
set_option maxRecDepth 20000 in
theorem gX7_range_X7_holds : GoodIn wsX7_range (wsV RX7 90 RX7 yX7_holds wsX7_holds) := goodIn_app (goodIn_of _ (by decide +kernel)) ggX7_range_X7_holds
