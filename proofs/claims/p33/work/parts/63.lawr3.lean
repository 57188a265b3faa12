theorem dL_isGrown_117 : decode cL_isGrown 117 = .ok (.aload_n 1, 1) := by decide +kernel
theorem dL_isGrown_118 : decode cL_isGrown 118 = .ok (.aload_n 2, 1) := by decide +kernel
theorem dL_isGrown_119 : decode cL_isGrown 119 = .ok (.aload_n 1, 1) := by decide +kernel
theorem dL_isGrown_120 : decode cL_isGrown 120 = .ok (.iconst 1, 1) := by decide +kernel
theorem dL_isGrown_121 : decode cL_isGrown 121 = .ok (.iaload, 1) := by decide +kernel
theorem dL_isGrown_122 : decode cL_isGrown 122 = .ok (.iload_n 3, 1) := by decide +kernel
theorem dL_isGrown_123 : decode cL_isGrown 123 = .ok (.iload 8, 2) := by decide +kernel
theorem dL_isGrown_125 : decode cL_isGrown 125 = .ok (.invokestatic 67, 3) := by decide +kernel
theorem dL_isGrown_128 : decode cL_isGrown 128 = .ok (.ifCond .eq 7, 3) := by decide +kernel
theorem dL_isGrown_131 : decode cL_isGrown 131 = .ok (.iconst 1, 1) := by decide +kernel
theorem dL_isGrown_132 : decode cL_isGrown 132 = .ok (.goto 4, 3) := by decide +kernel
theorem dL_isGrown_135 : decode cL_isGrown 135 = .ok (.iconst 0, 1) := by decide +kernel
theorem dL_isGrown_136 : decode cL_isGrown 136 = .ok (.istore 9, 2) := by decide +kernel
theorem dL_isGrown_138 : decode cL_isGrown 138 = .ok (.iload 9, 2) := by decide +kernel
theorem dL_isGrown_140 : decode cL_isGrown 140 = .ok (.ifCond .eq 23, 3) := by decide +kernel
theorem dL_isGrown_143 : decode cL_isGrown 143 = .ok (.aload_n 0, 1) := by decide +kernel
theorem dL_isGrown_144 : decode cL_isGrown 144 = .ok (.aload_n 1, 1) := by decide +kernel
theorem dL_isGrown_145 : decode cL_isGrown 145 = .ok (.aload_n 2, 1) := by decide +kernel
theorem dL_isGrown_146 : decode cL_isGrown 146 = .ok (.aload_n 1, 1) := by decide +kernel
theorem dL_isGrown_147 : decode cL_isGrown 147 = .ok (.iconst 1, 1) := by decide +kernel
theorem dL_isGrown_148 : decode cL_isGrown 148 = .ok (.iaload, 1) := by decide +kernel
theorem dL_isGrown_149 : decode cL_isGrown 149 = .ok (.iload 4, 2) := by decide +kernel
theorem dL_isGrown_151 : decode cL_isGrown 151 = .ok (.iload 8, 2) := by decide +kernel
theorem dL_isGrown_153 : decode cL_isGrown 153 = .ok (.invokestatic 67, 3) := by decide +kernel
theorem dL_isGrown_156 : decode cL_isGrown 156 = .ok (.ifCond .eq 7, 3) := by decide +kernel
theorem dL_isGrown_159 : decode cL_isGrown 159 = .ok (.iconst 1, 1) := by decide +kernel
theorem dL_isGrown_160 : decode cL_isGrown 160 = .ok (.goto 4, 3) := by decide +kernel
theorem dL_isGrown_163 : decode cL_isGrown 163 = .ok (.iconst 0, 1) := by decide +kernel
theorem dL_isGrown_164 : decode cL_isGrown 164 = .ok (.ireturn, 1) := by decide +kernel
set_option maxRecDepth 20000 in
theorem ggL_isSplit_L_sets : GoodIn wsL_isSplit wsL_sets := goodIn_ca (goodIn_ca (goodIn_ca (goodIn_r _ [4, 5, 6, 7, 8, 9, 10, 11, 12, 13, 14, 15, 16, 17, 18, 19, 20, 21, 22, 23, 24, 25, 26, 27, 28, 29, 30, 31, 32, 33, 34, 35, 36, 37, 38, 39, 40, 41, 42, 43, 44, 45, 46, 47, 48, 49, 50, 51, 52, 53, 54, 55, 56, 57, 58, 59, 60, 61, 62, 63, 64, 65, 66, 67, 68, 69, 70, 71, 72, 73, 74, 75, 76, 77, 78, 79, 80, 81, 82, 83, 84, 85, 86, 87, 88, 89, 90, 91, 92, 93, 94, 95, 96, 97, 98, 99, 100, 101, 102, 103, 306, 307, 308, 309, 310, 311, 312, 313, 314, 315, 316, 317, 318, 319, 320, 321, 322, 323, 324, 325, 326, 327] (by decide +kernel) (by decide +kernel)) (goodIn_sub (fun _ h => List.mem_cons_of_mem _ (List.mem_append_left _ (List.mem_append_left _ (List.mem_append_right _ h)))) (by decide +kernel))) (goodIn_sub (fun _ h => List.mem_cons_of_mem _ (List.mem_append_left _ (List.mem_append_right _ h))) (by decide +kernel))) (goodIn_sub (fun _ h => List.mem_cons_of_mem _ (List.mem_append_right _ h)) (by decide +kernel))
set_option maxRecDepth 20000 in
theorem gL_isSplit_L_sets : GoodIn wsL_isSplit (va_wsS RL 63 yL_sets wsL_sets) := goodIn_app (goodIn_of _ (by decide +kernel)) ggL_isSplit_L_sets
set_option maxRecDepth 20000 in
theorem ggL_isSplit_X6_kept : GoodIn wsL_isSplit wsX6_kept := goodIn_r _ [107, 108, 109, 110, 11, 111, 112, 113, 17, 55, 96, 97, 114, 115, 116, 117, 118, 119, 102, 41, 42, 37, 43, 39, 44, 120, 121, 122, 123, 124, 125, 126, 127, 128, 129, 130, 131, 132, 133, 134, 135, 136, 137, 138, 139, 140, 141, 142, 143, 144, 145, 146, 147, 148, 149, 150, 151, 152, 153, 154, 155, 156, 157, 158, 159, 160, 306, 307, 308, 309, 310, 311, 312, 318, 319, 320, 321, 322, 323, 328, 329, 330] (by decide +kernel) (by decide +kernel)
set_option maxRecDepth 20000 in
theorem gL_isSplit_X6_kept : GoodIn wsL_isSplit (wsV RL 60 RX6 yX6_kept wsX6_kept) := goodIn_app (goodIn_of _ (by decide +kernel)) ggL_isSplit_X6_kept
set_option maxRecDepth 20000 in
theorem ggL_isSplit_X6_ofJoint : GoodIn wsL_isSplit wsX6_ofJoint := goodIn_ca (goodIn_ca (goodIn_r _ [164, 13, 14, 24, 165, 166, 17, 18, 19, 20, 11, 21, 22, 23, 25, 26, 27, 28, 29, 30, 167, 168, 169, 37, 170, 39, 40, 41, 42, 43, 44, 45, 46, 47, 48, 49, 50, 306, 307, 308, 309, 310, 311, 312, 313, 314, 315, 316, 317, 318, 319, 320, 321, 322, 323] (by decide +kernel) (by decide +kernel)) (goodIn_sub (fun _ h => List.mem_cons_of_mem _ (List.mem_append_left _ (List.mem_append_left _ (List.mem_append_right _ h)))) (by decide +kernel))) (goodIn_sub (fun _ h => List.mem_cons_of_mem _ (List.mem_append_right _ h)) (by decide +kernel))
set_option maxRecDepth 20000 in
theorem gL_isSplit_X6_ofJoint : GoodIn wsL_isSplit (wsV RL 57 RX6 yX6_ofJoint wsX6_ofJoint) := goodIn_app (goodIn_of _ (by decide +kernel)) ggL_isSplit_X6_ofJoint
set_option maxRecDepth 20000 in
theorem ggL_isSplit_L_asks : GoodIn wsL_isSplit wsL_asks := goodIn_ca (goodIn_ca (goodIn_r _ [173, 7, 174, 175, 176, 11, 177, 17, 95, 98, 99, 100, 101, 22, 23, 102, 41, 42, 37, 43, 39, 44, 178, 179, 180, 181, 182, 183, 184, 185, 40, 186, 187, 188, 189, 13, 14, 190, 191, 192, 193, 194, 195, 24, 196, 197, 198, 199, 200, 201, 202, 203, 204, 205, 206, 207, 208, 209, 210, 211, 212, 213, 214, 215, 216, 217, 55, 96, 97, 218, 219, 220, 221, 222, 223, 224, 225, 226, 227, 228, 229, 230, 231, 232, 233, 234, 235, 236, 237, 238, 239, 240, 241, 242, 243, 244, 245, 246, 247, 248, 249, 250, 251, 252, 253, 254, 255, 256, 257, 258, 259, 260, 261, 262, 263, 264, 265, 266, 267, 268, 269, 270, 271, 272, 273, 274, 275, 276, 277, 278, 279, 280, 281, 282, 283, 284, 285, 286, 287, 288, 289, 290, 291, 292, 293, 294, 295, 296, 297, 298, 299, 300, 301, 302, 306, 307, 308, 309, 310, 311, 312, 318, 319, 320, 321, 322, 323, 331, 332, 333, 334, 313, 314, 315, 316, 317, 335, 336, 337, 338] (by decide +kernel) (by decide +kernel)) (goodIn_sub (fun _ h => List.mem_cons_of_mem _ (List.mem_append_right _ h)) (by decide +kernel))) (goodIn_sub (fun _ h => List.mem_cons_of_mem _ (List.mem_append_left _ (List.mem_append_left _ (List.mem_append_right _ h)))) (by decide +kernel))
set_option maxRecDepth 20000 in
theorem gL_isSplit_L_asks : GoodIn wsL_isSplit (va_wsS RL 71 yL_asks wsL_asks) := goodIn_app (goodIn_of _ (by decide +kernel)) ggL_isSplit_L_asks
set_option maxRecDepth 20000 in
theorem ggL_isSplit_L_isSet : GoodIn wsL_isSplit wsL_isSet := goodIn_ca (goodIn_ca (goodIn_r _ [305, 171, 172, 3, 173, 7, 174, 175, 176, 11, 177, 17, 95, 98, 99, 100, 101, 22, 23, 102, 41, 42, 37, 43, 39, 44, 178, 179, 180, 181, 182, 183, 184, 185, 40, 186, 187, 188, 189, 13, 14, 190, 191, 192, 193, 194, 195, 24, 196, 197, 198, 199, 200, 201, 202, 203, 204, 205, 206, 207, 208, 209, 210, 211, 212, 213, 214, 215, 216, 217, 55, 96, 97, 218, 219, 220, 221, 222, 223, 224, 225, 226, 227, 228, 229, 230, 231, 232, 233, 234, 235, 236, 237, 238, 239, 240, 241, 242, 243, 244, 245, 246, 247, 248, 249, 250, 251, 252, 253, 254, 255, 256, 257, 258, 259, 260, 261, 262, 263, 264, 265, 266, 267, 268, 269, 270, 271, 272, 273, 274, 275, 276, 277, 278, 279, 280, 281, 282, 283, 284, 285, 286, 287, 288, 289, 290, 291, 292, 293, 294, 295, 296, 297, 298, 299, 300, 301, 302, 306, 307, 308, 309, 310, 311, 312, 318, 319, 320, 321, 322, 323, 331, 332, 333, 334, 313, 314, 315, 316, 317, 335, 336, 337, 338] (by decide +kernel) (by decide +kernel)) (goodIn_sub (fun _ h => List.mem_cons_of_mem _ (List.mem_append_right _ h)) (by decide +kernel))) (goodIn_sub (fun _ h => List.mem_cons_of_mem _ (List.mem_append_left _ (List.mem_append_left _ (List.mem_append_right _ h)))) (by decide +kernel))
set_option maxRecDepth 20000 in
theorem gL_isSplit_L_isSet : GoodIn wsL_isSplit (va_wsS RL 67 yL_isSet wsL_isSet) := goodIn_app (goodIn_of _ (by decide +kernel)) ggL_isSplit_L_isSet
theorem dL_isSplit_0 : decode cL_isSplit 0 = .ok (.aload_n 0, 1) := by decide +kernel
theorem dL_isSplit_1 : decode cL_isSplit 1 = .ok (.iload_n 3, 1) := by decide +kernel
theorem dL_isSplit_2 : decode cL_isSplit 2 = .ok (.iload 4, 2) := by decide +kernel
theorem dL_isSplit_4 : decode cL_isSplit 4 = .ok (.iload 5, 2) := by decide +kernel
theorem dL_isSplit_6 : decode cL_isSplit 6 = .ok (.iload 6, 2) := by decide +kernel
theorem dL_isSplit_8 : decode cL_isSplit 8 = .ok (.iconst 2, 1) := by decide +kernel
theorem dL_isSplit_9 : decode cL_isSplit 9 = .ok (.invokestatic 63, 3) := by decide +kernel
theorem dL_isSplit_12 : decode cL_isSplit 12 = .ok (.istore 7, 2) := by decide +kernel
theorem dL_isSplit_14 : decode cL_isSplit 14 = .ok (.iload 7, 2) := by decide +kernel
theorem dL_isSplit_16 : decode cL_isSplit 16 = .ok (.ifCond .ge 23, 3) := by decide +kernel
theorem dL_isSplit_19 : decode cL_isSplit 19 = .ok (.iload 7, 2) := by decide +kernel
theorem dL_isSplit_21 : decode cL_isSplit 21 = .ok (.bipush (-5), 2) := by decide +kernel
theorem dL_isSplit_23 : decode cL_isSplit 23 = .ok (.if_icmp .le 14, 3) := by decide +kernel
theorem dL_isSplit_26 : decode cL_isSplit 26 = .ok (.aload_n 0, 1) := by decide +kernel
theorem dL_isSplit_27 : decode cL_isSplit 27 = .ok (.invokevirtual 60, 3) := by decide +kernel
theorem dL_isSplit_30 : decode cL_isSplit 30 = .ok (.ifCond .lt 7, 3) := by decide +kernel
theorem dL_isSplit_33 : decode cL_isSplit 33 = .ok (.iconst 1, 1) := by decide +kernel
theorem dL_isSplit_34 : decode cL_isSplit 34 = .ok (.goto 4, 3) := by decide +kernel
theorem dL_isSplit_37 : decode cL_isSplit 37 = .ok (.iconst 0, 1) := by decide +kernel
theorem dL_isSplit_38 : decode cL_isSplit 38 = .ok (.ireturn, 1) := by decide +kernel
theorem dL_isSplit_39 : decode cL_isSplit 39 = .ok (.iload 7, 2) := by decide +kernel
theorem dL_isSplit_41 : decode cL_isSplit 41 = .ok (.aload_n 1, 1) := by decide +kernel
theorem dL_isSplit_42 : decode cL_isSplit 42 = .ok (.iconst 0, 1) := by decide +kernel
theorem dL_isSplit_43 : decode cL_isSplit 43 = .ok (.iaload, 1) := by decide +kernel
theorem dL_isSplit_44 : decode cL_isSplit 44 = .ok (.if_icmp .ne 31, 3) := by decide +kernel
theorem dL_isSplit_47 : decode cL_isSplit 47 = .ok (.aload_n 0, 1) := by decide +kernel
theorem dL_isSplit_48 : decode cL_isSplit 48 = .ok (.iload 7, 2) := by decide +kernel
theorem dL_isSplit_50 : decode cL_isSplit 50 = .ok (.iconst 2, 1) := by decide +kernel
theorem dL_isSplit_51 : decode cL_isSplit 51 = .ok (.invokevirtual 57, 3) := by decide +kernel
theorem dL_isSplit_54 : decode cL_isSplit 54 = .ok (.iconst 3, 1) := by decide +kernel
theorem dL_isSplit_55 : decode cL_isSplit 55 = .ok (.if_icmp .ne 20, 3) := by decide +kernel
theorem dL_isSplit_58 : decode cL_isSplit 58 = .ok (.aload_n 0, 1) := by decide +kernel
theorem dL_isSplit_59 : decode cL_isSplit 59 = .ok (.iload_n 3, 1) := by decide +kernel
theorem dL_isSplit_60 : decode cL_isSplit 60 = .ok (.iconst 0, 1) := by decide +kernel
theorem dL_isSplit_61 : decode cL_isSplit 61 = .ok (.iconst 1, 1) := by decide +kernel
theorem dL_isSplit_62 : decode cL_isSplit 62 = .ok (.invokestatic 71, 3) := by decide +kernel
theorem dL_isSplit_65 : decode cL_isSplit 65 = .ok (.sipush (-200), 3) := by decide +kernel
theorem dL_isSplit_68 : decode cL_isSplit 68 = .ok (.if_icmp .ne 7, 3) := by decide +kernel
theorem dL_isSplit_71 : decode cL_isSplit 71 = .ok (.iconst 1, 1) := by decide +kernel
theorem dL_isSplit_72 : decode cL_isSplit 72 = .ok (.goto 4, 3) := by decide +kernel
theorem dL_isSplit_75 : decode cL_isSplit 75 = .ok (.iconst 0, 1) := by decide +kernel
theorem dL_isSplit_76 : decode cL_isSplit 76 = .ok (.istore 8, 2) := by decide +kernel
theorem dL_isSplit_78 : decode cL_isSplit 78 = .ok (.aload_n 1, 1) := by decide +kernel
theorem dL_isSplit_79 : decode cL_isSplit 79 = .ok (.iconst 0, 1) := by decide +kernel
theorem dL_isSplit_80 : decode cL_isSplit 80 = .ok (.dup2, 1) := by decide +kernel
theorem dL_isSplit_81 : decode cL_isSplit 81 = .ok (.iaload, 1) := by decide +kernel
theorem dL_isSplit_82 : decode cL_isSplit 82 = .ok (.iconst 1, 1) := by decide +kernel
theorem dL_isSplit_83 : decode cL_isSplit 83 = .ok (.iadd, 1) := by decide +kernel
theorem dL_isSplit_84 : decode cL_isSplit 84 = .ok (.iastore, 1) := by decide +kernel
theorem dL_isSplit_85 : decode cL_isSplit 85 = .ok (.aload_n 1, 1) := by decide +kernel
theorem dL_isSplit_86 : decode cL_isSplit 86 = .ok (.iconst 2, 1) := by decide +kernel
theorem dL_isSplit_87 : decode cL_isSplit 87 = .ok (.dup2, 1) := by decide +kernel
theorem dL_isSplit_88 : decode cL_isSplit 88 = .ok (.iaload, 1) := by decide +kernel
theorem dL_isSplit_89 : decode cL_isSplit 89 = .ok (.iconst 1, 1) := by decide +kernel
theorem dL_isSplit_90 : decode cL_isSplit 90 = .ok (.iadd, 1) := by decide +kernel
theorem dL_isSplit_91 : decode cL_isSplit 91 = .ok (.iastore, 1) := by decide +kernel
theorem dL_isSplit_92 : decode cL_isSplit 92 = .ok (.iload 8, 2) := by decide +kernel
theorem dL_isSplit_94 : decode cL_isSplit 94 = .ok (.ifCond .eq 26, 3) := by decide +kernel
theorem dL_isSplit_97 : decode cL_isSplit 97 = .ok (.aload_n 0, 1) := by decide +kernel
theorem dL_isSplit_98 : decode cL_isSplit 98 = .ok (.aload_n 1, 1) := by decide +kernel
theorem dL_isSplit_99 : decode cL_isSplit 99 = .ok (.aload_n 2, 1) := by decide +kernel
theorem dL_isSplit_100 : decode cL_isSplit 100 = .ok (.aload_n 1, 1) := by decide +kernel
theorem dL_isSplit_101 : decode cL_isSplit 101 = .ok (.iconst 1, 1) := by decide +kernel
theorem dL_isSplit_102 : decode cL_isSplit 102 = .ok (.iaload, 1) := by decide +kernel
theorem dL_isSplit_103 : decode cL_isSplit 103 = .ok (.aload_n 2, 1) := by decide +kernel
theorem dL_isSplit_104 : decode cL_isSplit 104 = .ok (.iconst 2, 1) := by decide +kernel
theorem dL_isSplit_105 : decode cL_isSplit 105 = .ok (.iload_n 3, 1) := by decide +kernel
theorem dL_isSplit_106 : decode cL_isSplit 106 = .ok (.imul, 1) := by decide +kernel
theorem dL_isSplit_107 : decode cL_isSplit 107 = .ok (.iaload, 1) := by decide +kernel
theorem dL_isSplit_108 : decode cL_isSplit 108 = .ok (.iload 7, 2) := by decide +kernel
theorem dL_isSplit_110 : decode cL_isSplit 110 = .ok (.invokestatic 67, 3) := by decide +kernel
theorem dL_isSplit_113 : decode cL_isSplit 113 = .ok (.ifCond .eq 7, 3) := by decide +kernel
theorem dL_isSplit_116 : decode cL_isSplit 116 = .ok (.iconst 1, 1) := by decide +kernel
theorem dL_isSplit_117 : decode cL_isSplit 117 = .ok (.goto 4, 3) := by decide +kernel
theorem dL_isSplit_120 : decode cL_isSplit 120 = .ok (.iconst 0, 1) := by decide +kernel
theorem dL_isSplit_121 : decode cL_isSplit 121 = .ok (.istore 8, 2) := by decide +kernel
theorem dL_isSplit_123 : decode cL_isSplit 123 = .ok (.iload 8, 2) := by decide +kernel
theorem dL_isSplit_125 : decode cL_isSplit 125 = .ok (.ifCond .eq 28, 3) := by decide +kernel
theorem dL_isSplit_128 : decode cL_isSplit 128 = .ok (.aload_n 0, 1) := by decide +kernel
theorem dL_isSplit_129 : decode cL_isSplit 129 = .ok (.aload_n 1, 1) := by decide +kernel
theorem dL_isSplit_130 : decode cL_isSplit 130 = .ok (.aload_n 2, 1) := by decide +kernel
theorem dL_isSplit_131 : decode cL_isSplit 131 = .ok (.aload_n 1, 1) := by decide +kernel
theorem dL_isSplit_132 : decode cL_isSplit 132 = .ok (.iconst 1, 1) := by decide +kernel
theorem dL_isSplit_133 : decode cL_isSplit 133 = .ok (.iaload, 1) := by decide +kernel
theorem dL_isSplit_134 : decode cL_isSplit 134 = .ok (.aload_n 2, 1) := by decide +kernel
theorem dL_isSplit_135 : decode cL_isSplit 135 = .ok (.iconst 2, 1) := by decide +kernel
theorem dL_isSplit_136 : decode cL_isSplit 136 = .ok (.iload_n 3, 1) := by decide +kernel
theorem dL_isSplit_137 : decode cL_isSplit 137 = .ok (.imul, 1) := by decide +kernel
theorem dL_isSplit_138 : decode cL_isSplit 138 = .ok (.iconst 1, 1) := by decide +kernel
theorem dL_isSplit_139 : decode cL_isSplit 139 = .ok (.iadd, 1) := by decide +kernel
theorem dL_isSplit_140 : decode cL_isSplit 140 = .ok (.iaload, 1) := by decide +kernel
theorem dL_isSplit_141 : decode cL_isSplit 141 = .ok (.iload 7, 2) := by decide +kernel
theorem dL_isSplit_143 : decode cL_isSplit 143 = .ok (.invokestatic 67, 3) := by decide +kernel
theorem dL_isSplit_146 : decode cL_isSplit 146 = .ok (.ifCond .eq 7, 3) := by decide +kernel
theorem dL_isSplit_149 : decode cL_isSplit 149 = .ok (.iconst 1, 1) := by decide +kernel
theorem dL_isSplit_150 : decode cL_isSplit 150 = .ok (.goto 4, 3) := by decide +kernel
theorem dL_isSplit_153 : decode cL_isSplit 153 = .ok (.iconst 0, 1) := by decide +kernel
theorem dL_isSplit_154 : decode cL_isSplit 154 = .ok (.istore 8, 2) := by decide +kernel
theorem dL_isSplit_156 : decode cL_isSplit 156 = .ok (.iload 8, 2) := by decide +kernel
theorem dL_isSplit_158 : decode cL_isSplit 158 = .ok (.ifCond .eq 23, 3) := by decide +kernel
theorem dL_isSplit_161 : decode cL_isSplit 161 = .ok (.aload_n 0, 1) := by decide +kernel
theorem dL_isSplit_162 : decode cL_isSplit 162 = .ok (.aload_n 1, 1) := by decide +kernel
theorem dL_isSplit_163 : decode cL_isSplit 163 = .ok (.aload_n 2, 1) := by decide +kernel
theorem dL_isSplit_164 : decode cL_isSplit 164 = .ok (.aload_n 1, 1) := by decide +kernel
theorem dL_isSplit_165 : decode cL_isSplit 165 = .ok (.iconst 1, 1) := by decide +kernel
theorem dL_isSplit_166 : decode cL_isSplit 166 = .ok (.iaload, 1) := by decide +kernel
theorem dL_isSplit_167 : decode cL_isSplit 167 = .ok (.iload 4, 2) := by decide +kernel
theorem dL_isSplit_169 : decode cL_isSplit 169 = .ok (.iload 7, 2) := by decide +kernel
theorem dL_isSplit_171 : decode cL_isSplit 171 = .ok (.invokestatic 67, 3) := by decide +kernel
theorem dL_isSplit_174 : decode cL_isSplit 174 = .ok (.ifCond .eq 7, 3) := by decide +kernel
theorem dL_isSplit_177 : decode cL_isSplit 177 = .ok (.iconst 1, 1) := by decide +kernel
theorem dL_isSplit_178 : decode cL_isSplit 178 = .ok (.goto 4, 3) := by decide +kernel
theorem dL_isSplit_181 : decode cL_isSplit 181 = .ok (.iconst 0, 1) := by decide +kernel
theorem dL_isSplit_182 : decode cL_isSplit 182 = .ok (.ireturn, 1) := by decide +kernel
set_option maxRecDepth 20000 in
theorem ggL_arePlaces_X6_places : GoodIn wsL_arePlaces wsX6_places := goodIn_ca (goodIn_r _ [5, 6, 7, 8, 4, 9, 10, 11, 12, 13, 14, 15, 16, 17, 18, 19, 20, 30, 31, 32, 33, 34, 35, 36, 37, 38, 39, 40, 41] (by decide +kernel) (by decide +kernel)) (goodIn_sub (fun _ h => List.mem_cons_of_mem _ (List.mem_append_left _ (List.mem_append_right _ h))) (by decide +kernel))
set_option maxRecDepth 20000 in
theorem gL_arePlaces_X6_places : GoodIn wsL_arePlaces (wsV RL 118 RX6 yX6_places wsX6_places) := goodIn_app (goodIn_of _ (by decide +kernel)) ggL_arePlaces_X6_places
set_option maxRecDepth 20000 in
theorem ggL_arePlaces_X6_place : GoodIn wsL_arePlaces wsX6_place := goodIn_ca (goodIn_ca (goodIn_r _ [24, 6, 25, 26, 4, 27, 28, 29, 7, 8, 9, 10, 11, 12, 13, 14, 15, 16, 17, 18, 19, 20, 30, 31, 32, 33, 34, 35, 36, 37, 38, 39, 40, 41] (by decide +kernel) (by decide +kernel)) (goodIn_sub (fun _ h => List.mem_cons_of_mem _ (List.mem_append_right _ h)) (by decide +kernel))) (goodIn_sub (fun _ h => List.mem_cons_of_mem _ (List.mem_append_left _ (List.mem_append_right _ h))) (by decide +kernel))
set_option maxRecDepth 20000 in
theorem gL_arePlaces_X6_place : GoodIn wsL_arePlaces (wsV RL 121 RX6 yX6_place wsX6_place) := goodIn_app (goodIn_of _ (by decide +kernel)) ggL_arePlaces_X6_place
theorem dL_arePlaces_0 : decode cL_arePlaces 0 = .ok (.aload_n 0, 1) := by decide +kernel
theorem dL_arePlaces_1 : decode cL_arePlaces 1 = .ok (.iload_n 1, 1) := by decide +kernel
theorem dL_arePlaces_2 : decode cL_arePlaces 2 = .ok (.invokevirtual 118, 3) := by decide +kernel
theorem dL_arePlaces_5 : decode cL_arePlaces 5 = .ok (.istore_n 2, 1) := by decide +kernel
theorem dL_arePlaces_6 : decode cL_arePlaces 6 = .ok (.aload_n 0, 1) := by decide +kernel
theorem dL_arePlaces_7 : decode cL_arePlaces 7 = .ok (.iload_n 1, 1) := by decide +kernel
theorem dL_arePlaces_8 : decode cL_arePlaces 8 = .ok (.iconst 0, 1) := by decide +kernel
theorem dL_arePlaces_9 : decode cL_arePlaces 9 = .ok (.invokevirtual 121, 3) := by decide +kernel
theorem dL_arePlaces_12 : decode cL_arePlaces 12 = .ok (.istore_n 3, 1) := by decide +kernel
theorem dL_arePlaces_13 : decode cL_arePlaces 13 = .ok (.iload_n 2, 1) := by decide +kernel
theorem dL_arePlaces_14 : decode cL_arePlaces 14 = .ok (.ifCond .ne 7, 3) := by decide +kernel
theorem dL_arePlaces_17 : decode cL_arePlaces 17 = .ok (.iconst (-1), 1) := by decide +kernel
theorem dL_arePlaces_18 : decode cL_arePlaces 18 = .ok (.goto 11, 3) := by decide +kernel
theorem dL_arePlaces_21 : decode cL_arePlaces 21 = .ok (.aload_n 0, 1) := by decide +kernel
theorem dL_arePlaces_22 : decode cL_arePlaces 22 = .ok (.iload_n 1, 1) := by decide +kernel
theorem dL_arePlaces_23 : decode cL_arePlaces 23 = .ok (.iload_n 2, 1) := by decide +kernel
theorem dL_arePlaces_24 : decode cL_arePlaces 24 = .ok (.iconst 1, 1) := by decide +kernel
theorem dL_arePlaces_25 : decode cL_arePlaces 25 = .ok (.isub, 1) := by decide +kernel
theorem dL_arePlaces_26 : decode cL_arePlaces 26 = .ok (.invokevirtual 121, 3) := by decide +kernel
theorem dL_arePlaces_29 : decode cL_arePlaces 29 = .ok (.istore 4, 2) := by decide +kernel
theorem dL_arePlaces_31 : decode cL_arePlaces 31 = .ok (.iload_n 2, 1) := by decide +kernel
theorem dL_arePlaces_32 : decode cL_arePlaces 32 = .ok (.ifCond .lt 78, 3) := by decide +kernel
theorem dL_arePlaces_35 : decode cL_arePlaces 35 = .ok (.iload_n 2, 1) := by decide +kernel
theorem dL_arePlaces_36 : decode cL_arePlaces 36 = .ok (.sipush 14641, 3) := by decide +kernel
theorem dL_arePlaces_39 : decode cL_arePlaces 39 = .ok (.if_icmp .gt 71, 3) := by decide +kernel
theorem dL_arePlaces_42 : decode cL_arePlaces 42 = .ok (.aload_n 0, 1) := by decide +kernel
theorem dL_arePlaces_43 : decode cL_arePlaces 43 = .ok (.iload_n 1, 1) := by decide +kernel
theorem dL_arePlaces_44 : decode cL_arePlaces 44 = .ok (.iload_n 2, 1) := by decide +kernel
theorem dL_arePlaces_45 : decode cL_arePlaces 45 = .ok (.invokevirtual 121, 3) := by decide +kernel
theorem dL_arePlaces_48 : decode cL_arePlaces 48 = .ok (.iconst (-1), 1) := by decide +kernel
theorem dL_arePlaces_49 : decode cL_arePlaces 49 = .ok (.if_icmp .ne 61, 3) := by decide +kernel
theorem dL_arePlaces_52 : decode cL_arePlaces 52 = .ok (.iload_n 2, 1) := by decide +kernel
theorem dL_arePlaces_53 : decode cL_arePlaces 53 = .ok (.ifCond .ne 7, 3) := by decide +kernel
theorem dL_arePlaces_56 : decode cL_arePlaces 56 = .ok (.iconst 1, 1) := by decide +kernel
theorem dL_arePlaces_57 : decode cL_arePlaces 57 = .ok (.goto 4, 3) := by decide +kernel
theorem dL_arePlaces_60 : decode cL_arePlaces 60 = .ok (.iconst 0, 1) := by decide +kernel
theorem dL_arePlaces_61 : decode cL_arePlaces 61 = .ok (.iload_n 3, 1) := by decide +kernel
theorem dL_arePlaces_62 : decode cL_arePlaces 62 = .ok (.iconst (-1), 1) := by decide +kernel
theorem dL_arePlaces_63 : decode cL_arePlaces 63 = .ok (.if_icmp .ne 7, 3) := by decide +kernel
theorem dL_arePlaces_66 : decode cL_arePlaces 66 = .ok (.iconst 1, 1) := by decide +kernel
theorem dL_arePlaces_67 : decode cL_arePlaces 67 = .ok (.goto 4, 3) := by decide +kernel
theorem dL_arePlaces_70 : decode cL_arePlaces 70 = .ok (.iconst 0, 1) := by decide +kernel
theorem dL_arePlaces_71 : decode cL_arePlaces 71 = .ok (.if_icmp .ne 39, 3) := by decide +kernel
theorem dL_arePlaces_74 : decode cL_arePlaces 74 = .ok (.iload_n 3, 1) := by decide +kernel
theorem dL_arePlaces_75 : decode cL_arePlaces 75 = .ok (.iload 4, 2) := by decide +kernel
theorem dL_arePlaces_77 : decode cL_arePlaces 77 = .ok (.if_icmp .gt 33, 3) := by decide +kernel
theorem dL_arePlaces_80 : decode cL_arePlaces 80 = .ok (.iload_n 2, 1) := by decide +kernel
theorem dL_arePlaces_81 : decode cL_arePlaces 81 = .ok (.iconst 2, 1) := by decide +kernel
theorem dL_arePlaces_82 : decode cL_arePlaces 82 = .ok (.if_icmp .lt 13, 3) := by decide +kernel
theorem dL_arePlaces_85 : decode cL_arePlaces 85 = .ok (.aload_n 0, 1) := by decide +kernel
theorem dL_arePlaces_86 : decode cL_arePlaces 86 = .ok (.iload_n 1, 1) := by decide +kernel
theorem dL_arePlaces_87 : decode cL_arePlaces 87 = .ok (.iconst 1, 1) := by decide +kernel
theorem dL_arePlaces_88 : decode cL_arePlaces 88 = .ok (.invokevirtual 121, 3) := by decide +kernel
theorem dL_arePlaces_91 : decode cL_arePlaces 91 = .ok (.iload_n 3, 1) := by decide +kernel
theorem dL_arePlaces_92 : decode cL_arePlaces 92 = .ok (.if_icmp .le 18, 3) := by decide +kernel
theorem dL_arePlaces_95 : decode cL_arePlaces 95 = .ok (.aload_n 0, 1) := by decide +kernel
theorem dL_arePlaces_96 : decode cL_arePlaces 96 = .ok (.iload_n 1, 1) := by decide +kernel
theorem dL_arePlaces_97 : decode cL_arePlaces 97 = .ok (.iconst 1, 1) := by decide +kernel
theorem dL_arePlaces_98 : decode cL_arePlaces 98 = .ok (.iadd, 1) := by decide +kernel
theorem dL_arePlaces_99 : decode cL_arePlaces 99 = .ok (.invokevirtual 118, 3) := by decide +kernel
theorem dL_arePlaces_102 : decode cL_arePlaces 102 = .ok (.iload_n 2, 1) := by decide +kernel
theorem dL_arePlaces_103 : decode cL_arePlaces 103 = .ok (.if_icmp .lt 7, 3) := by decide +kernel
theorem dL_arePlaces_106 : decode cL_arePlaces 106 = .ok (.iconst 1, 1) := by decide +kernel
theorem dL_arePlaces_107 : decode cL_arePlaces 107 = .ok (.goto 4, 3) := by decide +kernel
theorem dL_arePlaces_110 : decode cL_arePlaces 110 = .ok (.iconst 0, 1) := by decide +kernel
theorem dL_arePlaces_111 : decode cL_arePlaces 111 = .ok (.ireturn, 1) := by decide +kernel
set_option maxRecDepth 20000 in
theorem ggL_isWhole_X6_ofJoint : GoodIn wsL_isWhole wsX6_ofJoint := goodIn_ca (goodIn_ca (goodIn_r _ [5, 6, 7, 8, 9, 10, 11, 12, 13, 14, 4, 15, 16, 17, 18, 19, 20, 21, 22, 23, 24, 25, 26, 27, 28, 29, 30, 31, 32, 33, 34, 35, 36, 37, 38, 39, 40, 299, 300, 301, 302, 303, 304, 305, 306, 307, 308, 309, 310, 311, 312, 313, 314, 315, 316] (by decide +kernel) (by decide +kernel)) (goodIn_sub (fun _ h => List.mem_cons_of_mem _ (List.mem_append_left _ (List.mem_append_right _ h))) (by decide +kernel))) (goodIn_sub (fun _ h => List.mem_cons_of_mem _ (List.mem_append_right _ h)) (by decide +kernel))
set_option maxRecDepth 20000 in
theorem gL_isWhole_X6_ofJoint : GoodIn wsL_isWhole (wsV RL 57 RX6 yX6_ofJoint wsX6_ofJoint) := goodIn_app (goodIn_of _ (by decide +kernel)) ggL_isWhole_X6_ofJoint
set_option maxRecDepth 20000 in
theorem ggL_isWhole_X6_motions : GoodIn wsL_isWhole wsX6_motions := goodIn_r _ [44, 45, 8, 46, 47, 48, 49, 50, 51, 52, 53, 54, 55, 56, 57, 58, 59, 60, 61, 62, 4, 63, 64, 65, 66, 67, 68, 11, 69, 70, 71, 72, 73, 74, 27, 75, 29, 76, 77, 78, 79, 30, 31, 32, 33, 34, 80, 81, 82, 83, 84, 85, 86, 87, 88, 89, 90, 91, 92, 93, 94, 95, 96, 97, 98, 99, 100, 101, 102, 103, 104, 105, 106, 107, 108, 109, 110, 111, 112, 113, 114, 115, 116, 117, 118, 119, 120, 121, 122, 123, 124, 125, 126, 127, 128, 129, 130, 131, 132, 133, 134, 135, 136, 137, 138, 139, 140, 141, 142, 143, 144, 299, 300, 301, 302, 303, 304, 305, 317, 318, 319, 320, 306, 307, 308, 309, 310, 311, 312, 313, 314, 315, 316, 321, 322, 323, 324] (by decide +kernel) (by decide +kernel)
set_option maxRecDepth 20000 in
theorem gL_isWhole_X6_motions : GoodIn wsL_isWhole (wsV RL 124 RX6 yX6_motions wsX6_motions) := goodIn_app (goodIn_of _ (by decide +kernel)) ggL_isWhole_X6_motions
set_option maxRecDepth 20000 in
theorem ggL_isWhole_X6_stresses : GoodIn wsL_isWhole wsX6_stresses := goodIn_r _ [148, 45, 8, 11, 47, 48, 49, 50, 51, 52, 53, 54, 55, 56, 57, 58, 59, 72, 73, 74, 27, 75, 29, 76, 77, 78, 79, 30, 31, 32, 33, 34, 60, 61, 62, 4, 63, 64, 65, 66, 67, 68, 46, 69, 70, 71, 80, 81, 82, 83, 84, 85, 86, 87, 88, 89, 90, 91, 92, 93, 94, 95, 96, 97, 98, 99, 100, 101, 102, 103, 104, 105, 106, 107, 108, 109, 110, 111, 112, 113, 114, 115, 116, 117, 118, 119, 120, 121, 122, 123, 124, 125, 126, 127, 128, 129, 130, 131, 132, 133, 134, 135, 136, 137, 138, 139, 140, 141, 142, 143, 144, 299, 300, 301, 302, 303, 304, 305, 317, 318, 319, 320, 306, 307, 308, 309, 310, 311, 312, 313, 314, 315, 316, 321, 322, 323, 324] (by decide +kernel) (by decide +kernel)
set_option maxRecDepth 20000 in
theorem gL_isWhole_X6_stresses : GoodIn wsL_isWhole (wsV RL 127 RX6 yX6_stresses wsX6_stresses) := goodIn_app (goodIn_of _ (by decide +kernel)) ggL_isWhole_X6_stresses
set_option maxRecDepth 20000 in
theorem ggL_isWhole_X6_kept : GoodIn wsL_isWhole wsX6_kept := goodIn_r _ [152, 153, 154, 155, 4, 156, 157, 158, 11, 69, 70, 71, 159, 160, 161, 162, 163, 164, 80, 31, 32, 27, 33, 29, 34, 165, 166, 167, 168, 169, 170, 171, 172, 173, 174, 175, 176, 177, 178, 179, 180, 181, 182, 183, 184, 185, 186, 187, 188, 189, 190, 191, 192, 193, 194, 195, 196, 197, 198, 199, 200, 201, 202, 203, 204, 205, 299, 300, 301, 302, 303, 304, 305, 311, 312, 313, 314, 315, 316, 325, 326, 327] (by decide +kernel) (by decide +kernel)
set_option maxRecDepth 20000 in
theorem gL_isWhole_X6_kept : GoodIn wsL_isWhole (wsV RL 60 RX6 yX6_kept wsX6_kept) := goodIn_app (goodIn_of _ (by decide +kernel)) ggL_isWhole_X6_kept
set_option maxRecDepth 20000 in
theorem ggL_isWhole_X6_rank : GoodIn wsL_isWhole wsX6_rank := goodIn_r _ [209, 45, 8, 47, 48, 49, 50, 51, 52, 53, 54, 55, 56, 57, 58, 59, 60, 61, 62, 4, 63, 64, 65, 66, 67, 68, 11, 46, 69, 70, 71, 72, 73, 74, 27, 75, 29, 76, 77, 78, 79, 30, 31, 32, 33, 34, 80, 81, 82, 83, 84, 85, 86, 87, 88, 89, 90, 91, 92, 93, 94, 95, 96, 97, 98, 99, 100, 101, 102, 103, 104, 105, 106, 107, 108, 109, 110, 111, 112, 113, 114, 115, 116, 117, 118, 119, 120, 121, 122, 123, 124, 125, 126, 127, 128, 129, 130, 131, 132, 133, 134, 135, 136, 137, 138, 139, 140, 141, 142, 143, 144, 299, 300, 301, 302, 303, 304, 305, 317, 318, 319, 320, 306, 307, 308, 309, 310, 311, 312, 313, 314, 315, 316, 321, 322, 323, 324] (by decide +kernel) (by decide +kernel)
set_option maxRecDepth 20000 in
theorem gL_isWhole_X6_rank : GoodIn wsL_isWhole (wsV RL 79 RX6 yX6_rank wsX6_rank) := goodIn_app (goodIn_of _ (by decide +kernel)) ggL_isWhole_X6_rank
set_option maxRecDepth 20000 in
theorem ggL_isWhole_X6_flex : GoodIn wsL_isWhole wsX6_flex := goodIn_ca (goodIn_r _ [213, 45, 8, 64, 102, 12, 13, 14, 4, 15, 16, 17, 18, 19, 20, 21, 22, 23, 214, 215, 216, 47, 48, 49, 50, 51, 52, 53, 54, 55, 56, 57, 58, 59, 65, 66, 67, 68, 11, 46, 69, 70, 71, 72, 73, 74, 27, 75, 29, 76, 77, 78, 79, 30, 31, 32, 33, 34, 80, 81, 82, 83, 84, 85, 86, 87, 88, 89, 90, 91, 92, 93, 94, 95, 96, 97, 98, 99, 100, 101, 103, 104, 105, 106, 107, 108, 109, 110, 111, 112, 113, 114, 115, 116, 117, 118, 119, 120, 121, 122, 123, 124, 125, 126, 127, 128, 129, 130, 131, 132, 133, 134, 135, 136, 137, 138, 139, 140, 141, 142, 143, 144, 217, 218, 219, 220, 221, 222, 223, 224, 299, 300, 301, 302, 303, 304, 305, 317, 318, 319, 320, 306, 307, 308, 309, 310, 311, 312, 313, 314, 315, 316, 321, 322, 323, 324] (by decide +kernel) (by decide +kernel)) (goodIn_sub (fun _ h => List.mem_cons_of_mem _ (List.mem_append_right _ h)) (by decide +kernel))
set_option maxRecDepth 20000 in
theorem gL_isWhole_X6_flex : GoodIn wsL_isWhole (wsV RL 130 RX6 yX6_flex wsX6_flex) := goodIn_app (goodIn_of _ (by decide +kernel)) ggL_isWhole_X6_flex
set_option maxRecDepth 20000 in
theorem ggL_isWhole_X6_lacks : GoodIn wsL_isWhole wsX6_lacks := goodIn_r _ [228, 8, 229, 230, 231, 232, 4, 233, 153, 154, 155, 156, 157, 158, 11, 69, 70, 71, 159, 160, 161, 162, 163, 164, 80, 31, 32, 27, 33, 29, 34, 165, 166, 167, 168, 169, 170, 171, 172, 173, 174, 175, 176, 177, 178, 179, 180, 181, 182, 183, 184, 185, 186, 187, 188, 189, 190, 191, 192, 193, 194, 195, 196, 197, 198, 199, 200, 201, 202, 203, 204, 205, 299, 300, 301, 302, 303, 304, 305, 306, 307, 308, 309, 310, 311, 312, 313, 314, 315, 316, 325, 326, 327] (by decide +kernel) (by decide +kernel)
set_option maxRecDepth 20000 in
theorem gL_isWhole_X6_lacks : GoodIn wsL_isWhole (wsV RL 115 RX6 yX6_lacks wsX6_lacks) := goodIn_app (goodIn_of _ (by decide +kernel)) ggL_isWhole_X6_lacks
set_option maxRecDepth 20000 in
theorem ggL_isWhole_X6_unbalanced : GoodIn wsL_isWhole wsX6_unbalanced := goodIn_r _ [237, 8, 229, 238, 239, 240, 241, 4, 242, 11, 69, 70, 71, 243, 9, 10, 80, 31, 32, 27, 33, 29, 34, 244, 36, 37, 38, 39, 40, 245, 183, 184, 299, 300, 301, 302, 303, 304, 305, 306, 307, 308, 309, 310, 311, 312, 313, 314, 315, 316] (by decide +kernel) (by decide +kernel)
set_option maxRecDepth 20000 in
theorem gL_isWhole_X6_unbalanced : GoodIn wsL_isWhole (wsV RL 134 RX6 yX6_unbalanced wsX6_unbalanced) := goodIn_app (goodIn_of _ (by decide +kernel)) ggL_isWhole_X6_unbalanced
set_option maxRecDepth 20000 in
theorem ggL_isWhole_X6_isProper : GoodIn wsL_isWhole wsX6_isProper := goodIn_r _ [249, 11, 69, 243, 80, 31, 32, 27, 33, 29, 34, 250, 251, 252, 253, 254, 255, 256, 235, 236, 4, 237, 8, 229, 238, 239, 240, 241, 242, 70, 71, 9, 10, 244, 36, 37, 38, 39, 40, 245, 183, 184, 299, 300, 301, 302, 303, 304, 305, 311, 312, 313, 314, 315, 316, 306, 307, 308, 309, 310] (by decide +kernel) (by decide +kernel)
set_option maxRecDepth 20000 in
theorem gL_isWhole_X6_isProper : GoodIn wsL_isWhole (wsV RL 137 RX6 yX6_isProper wsX6_isProper) := goodIn_app (goodIn_of _ (by decide +kernel)) ggL_isWhole_X6_isProper
set_option maxRecDepth 20000 in
theorem ggL_isWhole_L_isMoved : GoodIn wsL_isWhole wsL_isMoved := goodIn_ca (goodIn_ca (goodIn_r _ [260, 261, 262, 263, 259, 264, 265, 266, 267, 268, 4, 269, 11, 270, 271, 272, 273, 274, 16, 17, 80, 31, 32, 27, 33, 29, 34, 72, 73, 74, 75, 76, 77, 78, 79, 30, 275, 276, 277, 278, 6, 7, 243, 279, 280, 281, 282, 45, 8, 64, 214, 215, 216, 47, 48, 49, 50, 51, 52, 53, 54, 55, 56, 57, 58, 59, 65, 66, 67, 68, 46, 69, 70, 71, 81, 82, 83, 84, 85, 86, 87, 88, 89, 90, 91, 92, 93, 94, 95, 96, 97, 98, 99, 100, 101, 102, 103, 104, 105, 106, 107, 108, 109, 110, 111, 112, 113, 114, 115, 283, 284, 285, 286, 116, 117, 118, 119, 120, 121, 122, 123, 124, 125, 126, 127, 128, 129, 130, 131, 132, 133, 134, 135, 136, 137, 138, 139, 140, 141, 142, 143, 144, 217, 218, 219, 220, 287, 221, 222, 223, 224, 288, 289, 290, 291, 60, 61, 62, 63, 1, 2, 3, 5, 9, 10, 12, 13, 14, 15, 18, 19, 20, 21, 22, 23, 24, 25, 26, 28, 35, 36, 37, 38, 39, 40, 210, 211, 212, 213, 299, 300, 301, 302, 303, 304, 305, 311, 312, 313, 314, 315, 316, 317, 318, 319, 320, 306, 307, 308, 309, 310, 321, 322, 323, 324] (by decide +kernel) (by decide +kernel)) (goodIn_sub (fun _ h => List.mem_cons_of_mem _ (List.mem_append_right _ h)) (by decide +kernel))) (goodIn_sub (fun _ h => List.mem_cons_of_mem _ (List.mem_append_left _ (List.mem_append_right _ h))) (by decide +kernel))
set_option maxRecDepth 20000 in
theorem gL_isWhole_L_isMoved : GoodIn wsL_isWhole (va_wsS RL 140 yL_isMoved wsL_isMoved) := goodIn_app (goodIn_of _ (by decide +kernel)) ggL_isWhole_L_isMoved
set_option maxRecDepth 20000 in
theorem ggL_isWhole_L_isNothing : GoodIn wsL_isWhole wsL_isNothing := goodIn_ca (goodIn_ca (goodIn_r _ [294, 261, 262, 263, 259, 264, 265, 266, 267, 268, 4, 269, 11, 270, 271, 272, 273, 274, 16, 17, 80, 31, 32, 27, 33, 29, 34, 72, 73, 74, 75, 76, 77, 78, 79, 30, 275, 276, 277, 278, 6, 7, 243, 279, 280, 281, 282, 45, 8, 64, 214, 215, 216, 47, 48, 49, 50, 51, 52, 53, 54, 55, 56, 57, 58, 59, 65, 66, 67, 68, 46, 69, 70, 71, 81, 82, 83, 84, 85, 86, 87, 88, 89, 90, 91, 92, 93, 94, 95, 96, 97, 98, 99, 100, 101, 102, 103, 104, 105, 106, 107, 108, 109, 110, 111, 112, 113, 114, 115, 283, 284, 285, 286, 116, 117, 118, 119, 120, 121, 122, 123, 124, 125, 126, 127, 128, 129, 130, 131, 132, 133, 134, 135, 136, 137, 138, 139, 140, 141, 142, 143, 144, 217, 218, 219, 220, 287, 221, 222, 223, 224, 288, 289, 290, 291, 60, 61, 62, 63, 1, 2, 3, 5, 9, 10, 12, 13, 14, 15, 18, 19, 20, 21, 22, 23, 24, 25, 26, 28, 35, 36, 37, 38, 39, 40, 295, 296, 297, 298, 238, 299, 300, 301, 302, 303, 304, 305, 311, 312, 313, 314, 315, 316, 317, 318, 319, 320, 306, 307, 308, 309, 310, 321, 322, 323, 324] (by decide +kernel) (by decide +kernel)) (goodIn_sub (fun _ h => List.mem_cons_of_mem _ (List.mem_append_right _ h)) (by decide +kernel))) (goodIn_sub (fun _ h => List.mem_cons_of_mem _ (List.mem_append_left _ (List.mem_append_right _ h))) (by decide +kernel))
set_option maxRecDepth 20000 in
theorem gL_isWhole_L_isNothing : GoodIn wsL_isWhole (va_wsS RL 144 yL_isNothing wsL_isNothing) := goodIn_app (goodIn_of _ (by decide +kernel)) ggL_isWhole_L_isNothing
theorem dL_isWhole_0 : decode cL_isWhole 0 = .ok (.iconst 0, 1) := by decide +kernel
theorem dL_isWhole_1 : decode cL_isWhole 1 = .ok (.istore 4, 2) := by decide +kernel
theorem dL_isWhole_3 : decode cL_isWhole 3 = .ok (.iconst 0, 1) := by decide +kernel
theorem dL_isWhole_4 : decode cL_isWhole 4 = .ok (.istore 5, 2) := by decide +kernel
theorem dL_isWhole_6 : decode cL_isWhole 6 = .ok (.iload 5, 2) := by decide +kernel
theorem dL_isWhole_8 : decode cL_isWhole 8 = .ok (.aload_n 1, 1) := by decide +kernel
theorem dL_isWhole_9 : decode cL_isWhole 9 = .ok (.iconst 0, 1) := by decide +kernel
theorem dL_isWhole_10 : decode cL_isWhole 10 = .ok (.iaload, 1) := by decide +kernel
theorem dL_isWhole_11 : decode cL_isWhole 11 = .ok (.if_icmp .ge 21, 3) := by decide +kernel
theorem dL_isWhole_14 : decode cL_isWhole 14 = .ok (.iload 4, 2) := by decide +kernel
theorem dL_isWhole_16 : decode cL_isWhole 16 = .ok (.aload_n 0, 1) := by decide +kernel
theorem dL_isWhole_17 : decode cL_isWhole 17 = .ok (.iload 5, 2) := by decide +kernel
theorem dL_isWhole_19 : decode cL_isWhole 19 = .ok (.iconst 2, 1) := by decide +kernel
theorem dL_isWhole_20 : decode cL_isWhole 20 = .ok (.invokevirtual 57, 3) := by decide +kernel
theorem dL_isWhole_23 : decode cL_isWhole 23 = .ok (.iadd, 1) := by decide +kernel
theorem dL_isWhole_24 : decode cL_isWhole 24 = .ok (.istore 4, 2) := by decide +kernel
theorem dL_isWhole_26 : decode cL_isWhole 26 = .ok (.iinc 5 1, 3) := by decide +kernel
theorem dL_isWhole_29 : decode cL_isWhole 29 = .ok (.goto (-23), 3) := by decide +kernel
theorem dL_isWhole_32 : decode cL_isWhole 32 = .ok (.aload_n 0, 1) := by decide +kernel
theorem dL_isWhole_33 : decode cL_isWhole 33 = .ok (.invokevirtual 124, 3) := by decide +kernel
theorem dL_isWhole_36 : decode cL_isWhole 36 = .ok (.istore 5, 2) := by decide +kernel
theorem dL_isWhole_38 : decode cL_isWhole 38 = .ok (.aload_n 0, 1) := by decide +kernel
theorem dL_isWhole_39 : decode cL_isWhole 39 = .ok (.invokevirtual 127, 3) := by decide +kernel
theorem dL_isWhole_42 : decode cL_isWhole 42 = .ok (.istore 6, 2) := by decide +kernel
theorem dL_isWhole_44 : decode cL_isWhole 44 = .ok (.aload_n 0, 1) := by decide +kernel
theorem dL_isWhole_45 : decode cL_isWhole 45 = .ok (.invokevirtual 60, 3) := by decide +kernel
theorem dL_isWhole_48 : decode cL_isWhole 48 = .ok (.istore 7, 2) := by decide +kernel
theorem dL_isWhole_50 : decode cL_isWhole 50 = .ok (.iload 4, 2) := by decide +kernel
theorem dL_isWhole_52 : decode cL_isWhole 52 = .ok (.iconst 2, 1) := by decide +kernel
theorem dL_isWhole_53 : decode cL_isWhole 53 = .ok (.irem, 1) := by decide +kernel
theorem dL_isWhole_54 : decode cL_isWhole 54 = .ok (.ifCond .ne 83, 3) := by decide +kernel
theorem dL_isWhole_57 : decode cL_isWhole 57 = .ok (.iload 6, 2) := by decide +kernel
theorem dL_isWhole_59 : decode cL_isWhole 59 = .ok (.iload 4, 2) := by decide +kernel
theorem dL_isWhole_61 : decode cL_isWhole 61 = .ok (.iconst 2, 1) := by decide +kernel
theorem dL_isWhole_62 : decode cL_isWhole 62 = .ok (.idiv, 1) := by decide +kernel
theorem dL_isWhole_63 : decode cL_isWhole 63 = .ok (.aload_n 0, 1) := by decide +kernel
theorem dL_isWhole_64 : decode cL_isWhole 64 = .ok (.invokevirtual 79, 3) := by decide +kernel
theorem dL_isWhole_67 : decode cL_isWhole 67 = .ok (.isub, 1) := by decide +kernel
theorem dL_isWhole_68 : decode cL_isWhole 68 = .ok (.if_icmp .ne 69, 3) := by decide +kernel
theorem dL_isWhole_71 : decode cL_isWhole 71 = .ok (.iload 7, 2) := by decide +kernel
theorem dL_isWhole_73 : decode cL_isWhole 73 = .ok (.iload 4, 2) := by decide +kernel
theorem dL_isWhole_75 : decode cL_isWhole 75 = .ok (.iconst 2, 1) := by decide +kernel
theorem dL_isWhole_76 : decode cL_isWhole 76 = .ok (.idiv, 1) := by decide +kernel
theorem dL_isWhole_77 : decode cL_isWhole 77 = .ok (.if_icmp .gt 60, 3) := by decide +kernel
theorem dL_isWhole_80 : decode cL_isWhole 80 = .ok (.iload 5, 2) := by decide +kernel
theorem dL_isWhole_82 : decode cL_isWhole 82 = .ok (.ifCond .lt 55, 3) := by decide +kernel
theorem dL_isWhole_85 : decode cL_isWhole 85 = .ok (.iload 6, 2) := by decide +kernel
theorem dL_isWhole_87 : decode cL_isWhole 87 = .ok (.ifCond .lt 50, 3) := by decide +kernel
theorem dL_isWhole_90 : decode cL_isWhole 90 = .ok (.aload_n 0, 1) := by decide +kernel
theorem dL_isWhole_91 : decode cL_isWhole 91 = .ok (.iload 5, 2) := by decide +kernel
theorem dL_isWhole_93 : decode cL_isWhole 93 = .ok (.iconst 0, 1) := by decide +kernel
theorem dL_isWhole_94 : decode cL_isWhole 94 = .ok (.iconst 1, 1) := by decide +kernel
theorem dL_isWhole_95 : decode cL_isWhole 95 = .ok (.invokevirtual 130, 3) := by decide +kernel
theorem dL_isWhole_98 : decode cL_isWhole 98 = .ok (.iconst (-1), 1) := by decide +kernel
theorem dL_isWhole_99 : decode cL_isWhole 99 = .ok (.if_icmp .ne 38, 3) := by decide +kernel
theorem dL_isWhole_102 : decode cL_isWhole 102 = .ok (.aload_n 0, 1) := by decide +kernel
theorem dL_isWhole_103 : decode cL_isWhole 103 = .ok (.invokevirtual 115, 3) := by decide +kernel
theorem dL_isWhole_106 : decode cL_isWhole 106 = .ok (.iconst 2, 1) := by decide +kernel
theorem dL_isWhole_107 : decode cL_isWhole 107 = .ok (.aload_n 1, 1) := by decide +kernel
theorem dL_isWhole_108 : decode cL_isWhole 108 = .ok (.iconst 0, 1) := by decide +kernel
theorem dL_isWhole_109 : decode cL_isWhole 109 = .ok (.iaload, 1) := by decide +kernel
theorem dL_isWhole_110 : decode cL_isWhole 110 = .ok (.imul, 1) := by decide +kernel
theorem dL_isWhole_111 : decode cL_isWhole 111 = .ok (.iconst 3, 1) := by decide +kernel
theorem dL_isWhole_112 : decode cL_isWhole 112 = .ok (.isub, 1) := by decide +kernel
theorem dL_isWhole_113 : decode cL_isWhole 113 = .ok (.iload 7, 2) := by decide +kernel
theorem dL_isWhole_115 : decode cL_isWhole 115 = .ok (.isub, 1) := by decide +kernel
theorem dL_isWhole_116 : decode cL_isWhole 116 = .ok (.if_icmp .ne 21, 3) := by decide +kernel
theorem dL_isWhole_119 : decode cL_isWhole 119 = .ok (.aload_n 0, 1) := by decide +kernel
theorem dL_isWhole_120 : decode cL_isWhole 120 = .ok (.invokevirtual 134, 3) := by decide +kernel
theorem dL_isWhole_123 : decode cL_isWhole 123 = .ok (.ifCond .eq 10, 3) := by decide +kernel
theorem dL_isWhole_126 : decode cL_isWhole 126 = .ok (.aload_n 0, 1) := by decide +kernel
theorem dL_isWhole_127 : decode cL_isWhole 127 = .ok (.invokevirtual 137, 3) := by decide +kernel
theorem dL_isWhole_130 : decode cL_isWhole 130 = .ok (.ifCond .ne 7, 3) := by decide +kernel
theorem dL_isWhole_133 : decode cL_isWhole 133 = .ok (.iconst 1, 1) := by decide +kernel
theorem dL_isWhole_134 : decode cL_isWhole 134 = .ok (.goto 4, 3) := by decide +kernel
theorem dL_isWhole_137 : decode cL_isWhole 137 = .ok (.iconst 0, 1) := by decide +kernel
theorem dL_isWhole_138 : decode cL_isWhole 138 = .ok (.istore 8, 2) := by decide +kernel
theorem dL_isWhole_140 : decode cL_isWhole 140 = .ok (.iload 8, 2) := by decide +kernel
theorem dL_isWhole_142 : decode cL_isWhole 142 = .ok (.ifCond .eq 60, 3) := by decide +kernel
theorem dL_isWhole_145 : decode cL_isWhole 145 = .ok (.iload 5, 2) := by decide +kernel
theorem dL_isWhole_147 : decode cL_isWhole 147 = .ok (.ifCond .eq 22, 3) := by decide +kernel
theorem dL_isWhole_150 : decode cL_isWhole 150 = .ok (.aload_n 1, 1) := by decide +kernel
theorem dL_isWhole_151 : decode cL_isWhole 151 = .ok (.iconst 1, 1) := by decide +kernel
theorem dL_isWhole_152 : decode cL_isWhole 152 = .ok (.iaload, 1) := by decide +kernel
theorem dL_isWhole_153 : decode cL_isWhole 153 = .ok (.ifCond .eq 16, 3) := by decide +kernel
theorem dL_isWhole_156 : decode cL_isWhole 156 = .ok (.aload_n 0, 1) := by decide +kernel
theorem dL_isWhole_157 : decode cL_isWhole 157 = .ok (.aload_n 2, 1) := by decide +kernel
theorem dL_isWhole_158 : decode cL_isWhole 158 = .ok (.iload_n 3, 1) := by decide +kernel
theorem dL_isWhole_159 : decode cL_isWhole 159 = .ok (.aload_n 1, 1) := by decide +kernel
theorem dL_isWhole_160 : decode cL_isWhole 160 = .ok (.iconst 1, 1) := by decide +kernel
theorem dL_isWhole_161 : decode cL_isWhole 161 = .ok (.iaload, 1) := by decide +kernel
theorem dL_isWhole_162 : decode cL_isWhole 162 = .ok (.irem, 1) := by decide +kernel
theorem dL_isWhole_163 : decode cL_isWhole 163 = .ok (.invokestatic 140, 3) := by decide +kernel
theorem dL_isWhole_166 : decode cL_isWhole 166 = .ok (.ifCond .eq 36, 3) := by decide +kernel
theorem dL_isWhole_169 : decode cL_isWhole 169 = .ok (.iload_n 3, 1) := by decide +kernel
theorem dL_isWhole_170 : decode cL_isWhole 170 = .ok (.bipush 6, 2) := by decide +kernel
theorem dL_isWhole_172 : decode cL_isWhole 172 = .ok (.irem, 1) := by decide +kernel
theorem dL_isWhole_173 : decode cL_isWhole 173 = .ok (.ifCond .gt 25, 3) := by decide +kernel
theorem dL_isWhole_176 : decode cL_isWhole 176 = .ok (.iload 6, 2) := by decide +kernel
theorem dL_isWhole_178 : decode cL_isWhole 178 = .ok (.ifCond .eq 20, 3) := by decide +kernel
theorem dL_isWhole_181 : decode cL_isWhole 181 = .ok (.aload_n 0, 1) := by decide +kernel
theorem dL_isWhole_182 : decode cL_isWhole 182 = .ok (.aload_n 1, 1) := by decide +kernel
theorem dL_isWhole_183 : decode cL_isWhole 183 = .ok (.aload_n 2, 1) := by decide +kernel
theorem dL_isWhole_184 : decode cL_isWhole 184 = .ok (.iload_n 3, 1) := by decide +kernel
theorem dL_isWhole_185 : decode cL_isWhole 185 = .ok (.bipush 6, 2) := by decide +kernel
theorem dL_isWhole_187 : decode cL_isWhole 187 = .ok (.idiv, 1) := by decide +kernel
theorem dL_isWhole_188 : decode cL_isWhole 188 = .ok (.aload_n 1, 1) := by decide +kernel
theorem dL_isWhole_189 : decode cL_isWhole 189 = .ok (.iconst 0, 1) := by decide +kernel
theorem dL_isWhole_190 : decode cL_isWhole 190 = .ok (.iaload, 1) := by decide +kernel
theorem dL_isWhole_191 : decode cL_isWhole 191 = .ok (.irem, 1) := by decide +kernel
theorem dL_isWhole_192 : decode cL_isWhole 192 = .ok (.invokestatic 144, 3) := by decide +kernel
theorem dL_isWhole_195 : decode cL_isWhole 195 = .ok (.ifCond .eq 7, 3) := by decide +kernel
theorem dL_isWhole_198 : decode cL_isWhole 198 = .ok (.iconst 1, 1) := by decide +kernel
theorem dL_isWhole_199 : decode cL_isWhole 199 = .ok (.goto 4, 3) := by decide +kernel
theorem dL_isWhole_202 : decode cL_isWhole 202 = .ok (.iconst 0, 1) := by decide +kernel
theorem dL_isWhole_203 : decode cL_isWhole 203 = .ok (.ireturn, 1) := by decide +kernel
set_option maxRecDepth 20000 in
theorem ggL_isMoved_L_asks : GoodIn wsL_isMoved wsL_asks := goodIn_ca (goodIn_ca (goodIn_r _ [5, 6, 7, 8, 9, 10, 11, 12, 13, 14, 15, 16, 17, 18, 19, 20, 21, 22, 23, 24, 25, 26, 27, 28, 29, 30, 31, 32, 33, 34, 35, 36, 37, 38, 39, 40, 41, 42, 43, 44, 45, 46, 47, 48, 49, 50, 51, 52, 53, 54, 55, 56, 57, 58, 59, 60, 61, 62, 63, 64, 65, 66, 67, 68, 69, 70, 71, 72, 73, 74, 75, 76, 77, 78, 79, 80, 81, 82, 83, 84, 85, 86, 87, 88, 89, 90, 91, 92, 93, 94, 95, 96, 97, 98, 99, 100, 101, 102, 103, 104, 105, 106, 107, 108, 109, 110, 111, 112, 113, 114, 115, 116, 117, 118, 119, 120, 121, 122, 123, 124, 125, 126, 127, 128, 129, 130, 131, 132, 133, 134, 135, 136, 137, 138, 139, 140, 141, 142, 143, 144, 145, 146, 147, 148, 149, 150, 151, 152, 153, 154, 155, 156, 157, 158, 189, 190, 191, 192, 193, 194, 195, 196, 197, 198, 199, 200, 201, 202, 203, 204, 205, 206, 207, 208, 209, 210, 211, 212, 213, 214] (by decide +kernel) (by decide +kernel)) (goodIn_sub (fun _ h => List.mem_cons_of_mem _ (List.mem_append_left _ (List.mem_append_right _ h))) (by decide +kernel))) (goodIn_sub (fun _ h => List.mem_cons_of_mem _ (List.mem_append_right _ h)) (by decide +kernel))
set_option maxRecDepth 20000 in
theorem gL_isMoved_L_asks : GoodIn wsL_isMoved (va_wsS RL 71 yL_asks wsL_asks) := goodIn_app (goodIn_of _ (by decide +kernel)) ggL_isMoved_L_asks
set_option maxRecDepth 20000 in
theorem ggL_isMoved_X6_ofJoint : GoodIn wsL_isMoved wsX6_ofJoint := goodIn_ca (goodIn_ca (goodIn_r _ [162, 40, 41, 48, 163, 164, 12, 165, 166, 167, 10, 168, 18, 19, 169, 170, 171, 172, 173, 174, 175, 176, 177, 23, 178, 25, 35, 21, 22, 24, 26, 179, 180, 181, 182, 183, 184, 189, 190, 191, 192, 193, 194, 195, 206, 207, 208, 209, 210, 196, 197, 198, 199, 200, 201] (by decide +kernel) (by decide +kernel)) (goodIn_sub (fun _ h => List.mem_cons_of_mem _ (List.mem_append_right _ h)) (by decide +kernel))) (goodIn_sub (fun _ h => List.mem_cons_of_mem _ (List.mem_append_left _ (List.mem_append_right _ h))) (by decide +kernel))
set_option maxRecDepth 20000 in
theorem gL_isMoved_X6_ofJoint : GoodIn wsL_isMoved (wsV RL 57 RX6 yX6_ofJoint wsX6_ofJoint) := goodIn_app (goodIn_of _ (by decide +kernel)) ggL_isMoved_X6_ofJoint
set_option maxRecDepth 20000 in
theorem ggL_isMoved_X6_flex : GoodIn wsL_isMoved wsX6_flex := goodIn_ca (goodIn_r _ [188, 47, 48, 49, 95, 165, 166, 167, 10, 168, 18, 19, 169, 170, 171, 172, 173, 174, 50, 51, 52, 53, 54, 55, 56, 57, 58, 59, 60, 61, 62, 63, 64, 65, 66, 67, 68, 69, 12, 70, 71, 72, 73, 27, 28, 29, 23, 30, 25, 31, 32, 33, 34, 35, 21, 22, 24, 26, 20, 74, 75, 76, 77, 78, 79, 80, 81, 82, 83, 84, 85, 86, 87, 88, 89, 90, 91, 92, 93, 94, 96, 97, 98, 99, 100, 101, 102, 103, 104, 105, 106, 107, 108, 113, 114, 115, 116, 117, 118, 119, 120, 121, 122, 123, 124, 125, 126, 127, 128, 129, 130, 131, 132, 133, 134, 135, 136, 137, 138, 139, 140, 141, 142, 143, 144, 145, 147, 148, 149, 150, 189, 190, 191, 192, 193, 194, 195, 202, 203, 204, 205, 206, 207, 208, 209, 210, 196, 197, 198, 199, 200, 201, 211, 212, 213, 214] (by decide +kernel) (by decide +kernel)) (goodIn_sub (fun _ h => List.mem_cons_of_mem _ (List.mem_append_left _ (List.mem_append_right _ h))) (by decide +kernel))
set_option maxRecDepth 20000 in
theorem gL_isMoved_X6_flex : GoodIn wsL_isMoved (wsV RL 130 RX6 yX6_flex wsX6_flex) := goodIn_app (goodIn_of _ (by decide +kernel)) ggL_isMoved_X6_flex
theorem dL_isMoved_0 : decode cL_isMoved 0 = .ok (.aload_n 1, 1) := by decide +kernel
