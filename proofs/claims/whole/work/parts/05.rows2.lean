theorem dX6_split_39 : decode cX6_split 39 = .ok (.invokevirtual 59, 3) := by decide +kernel
theorem dX6_split_42 : decode cX6_split 42 = .ok (.aload_n 0, 1) := by decide +kernel
theorem dX6_split_43 : decode cX6_split 43 = .ok (.iconst 3, 1) := by decide +kernel
theorem dX6_split_44 : decode cX6_split 44 = .ok (.invokevirtual 100, 3) := by decide +kernel
theorem dX6_split_47 : decode cX6_split 47 = .ok (.aload_n 0, 1) := by decide +kernel
theorem dX6_split_48 : decode cX6_split 48 = .ok (.getfield 10, 3) := by decide +kernel
theorem dX6_split_51 : decode cX6_split 51 = .ok (.iload_n 3, 1) := by decide +kernel
theorem dX6_split_52 : decode cX6_split 52 = .ok (.iload 4, 2) := by decide +kernel
theorem dX6_split_54 : decode cX6_split 54 = .ok (.invokevirtual 62, 3) := by decide +kernel
theorem dX6_split_57 : decode cX6_split 57 = .ok (.istore 5, 2) := by decide +kernel
theorem dX6_split_59 : decode cX6_split 59 = .ok (.aload_n 0, 1) := by decide +kernel
theorem dX6_split_60 : decode cX6_split 60 = .ok (.getfield 19, 3) := by decide +kernel
theorem dX6_split_63 : decode cX6_split 63 = .ok (.getfield 109, 3) := by decide +kernel
theorem dX6_split_66 : decode cX6_split 66 = .ok (.iload_n 1, 1) := by decide +kernel
theorem dX6_split_67 : decode cX6_split 67 = .ok (.iconst 1, 1) := by decide +kernel
theorem dX6_split_68 : decode cX6_split 68 = .ok (.bastore, 1) := by decide +kernel
theorem dX6_split_69 : decode cX6_split 69 = .ok (.aload_n 0, 1) := by decide +kernel
theorem dX6_split_70 : decode cX6_split 70 = .ok (.getfield 19, 3) := by decide +kernel
theorem dX6_split_73 : decode cX6_split 73 = .ok (.aload_n 0, 1) := by decide +kernel
theorem dX6_split_74 : decode cX6_split 74 = .ok (.getfield 19, 3) := by decide +kernel
theorem dX6_split_77 : decode cX6_split 77 = .ok (.getfield 168, 3) := by decide +kernel
theorem dX6_split_80 : decode cX6_split 80 = .ok (.iload_n 1, 1) := by decide +kernel
theorem dX6_split_81 : decode cX6_split 81 = .ok (.iaload, 1) := by decide +kernel
theorem dX6_split_82 : decode cX6_split 82 = .ok (.iload 5, 2) := by decide +kernel
theorem dX6_split_84 : decode cX6_split 84 = .ok (.iconst 0, 1) := by decide +kernel
theorem dX6_split_85 : decode cX6_split 85 = .ok (.invokevirtual 103, 3) := by decide +kernel
theorem dX6_split_88 : decode cX6_split 88 = .ok (.istore 6, 2) := by decide +kernel
theorem dX6_split_90 : decode cX6_split 90 = .ok (.aload_n 0, 1) := by decide +kernel
theorem dX6_split_91 : decode cX6_split 91 = .ok (.getfield 19, 3) := by decide +kernel
theorem dX6_split_94 : decode cX6_split 94 = .ok (.aload_n 0, 1) := by decide +kernel
theorem dX6_split_95 : decode cX6_split 95 = .ok (.getfield 19, 3) := by decide +kernel
theorem dX6_split_98 : decode cX6_split 98 = .ok (.getfield 171, 3) := by decide +kernel
theorem dX6_split_101 : decode cX6_split 101 = .ok (.iload_n 1, 1) := by decide +kernel
theorem dX6_split_102 : decode cX6_split 102 = .ok (.iaload, 1) := by decide +kernel
theorem dX6_split_103 : decode cX6_split 103 = .ok (.iload 5, 2) := by decide +kernel
theorem dX6_split_105 : decode cX6_split 105 = .ok (.iconst 0, 1) := by decide +kernel
theorem dX6_split_106 : decode cX6_split 106 = .ok (.invokevirtual 103, 3) := by decide +kernel
theorem dX6_split_109 : decode cX6_split 109 = .ok (.pop, 1) := by decide +kernel
theorem dX6_split_110 : decode cX6_split 110 = .ok (.aload_n 0, 1) := by decide +kernel
theorem dX6_split_111 : decode cX6_split 111 = .ok (.getfield 19, 3) := by decide +kernel
theorem dX6_split_114 : decode cX6_split 114 = .ok (.iload_n 2, 1) := by decide +kernel
theorem dX6_split_115 : decode cX6_split 115 = .ok (.iload 5, 2) := by decide +kernel
theorem dX6_split_117 : decode cX6_split 117 = .ok (.iconst 0, 1) := by decide +kernel
theorem dX6_split_118 : decode cX6_split 118 = .ok (.invokevirtual 103, 3) := by decide +kernel
theorem dX6_split_121 : decode cX6_split 121 = .ok (.pop, 1) := by decide +kernel
theorem dX6_split_122 : decode cX6_split 122 = .ok (.aload_n 0, 1) := by decide +kernel
theorem dX6_split_123 : decode cX6_split 123 = .ok (.getfield 26, 3) := by decide +kernel
theorem dX6_split_126 : decode cX6_split 126 = .ok (.iload 5, 2) := by decide +kernel
theorem dX6_split_128 : decode cX6_split 128 = .ok (.iload 6, 2) := by decide +kernel
theorem dX6_split_130 : decode cX6_split 130 = .ok (.iload_n 1, 1) := by decide +kernel
theorem dX6_split_131 : decode cX6_split 131 = .ok (.invokevirtual 194, 3) := by decide +kernel
theorem dX6_split_134 : decode cX6_split 134 = .ok (.iload 5, 2) := by decide +kernel
theorem dX6_split_136 : decode cX6_split 136 = .ok (.ireturn, 1) := by decide +kernel
set_option maxRecDepth 20000 in
theorem ggX6_undo_X6_canBeUndone : GoodIn wsX6_undo wsX6_canBeUndone := goodIn_r _ [14, 3, 15, 8, 16, 17, 5, 7, 18, 19, 20, 21, 22, 23, 24, 25, 26, 27, 28, 29, 30, 31, 32, 33, 34, 35, 36, 37, 38, 39, 40, 41, 63, 64, 65, 66, 67, 68, 69, 70, 71, 72, 73, 80, 81, 82, 83, 84, 74, 75, 76, 77, 78, 79] (by decide +kernel) (by decide +kernel)
set_option maxRecDepth 20000 in
theorem gX6_undo_X6_canBeUndone : GoodIn wsX6_undo (wsV RX6 205 RX6 yX6_canBeUndone wsX6_canBeUndone) := goodIn_app (goodIn_of _ (by decide +kernel)) ggX6_undo_X6_canBeUndone
set_option maxRecDepth 20000 in
theorem ggX6_undo_X5_bars : GoodIn wsX6_undo wsX5_bars := goodIn_r _ [22, 23, 70, 71, 72, 73] (by decide +kernel) (by decide +kernel)
set_option maxRecDepth 20000 in
theorem gX6_undo_X5_bars : GoodIn wsX6_undo (wsV RX6 211 RX5 yX5_bars wsX5_bars) := goodIn_app (goodIn_of _ (by decide +kernel)) ggX6_undo_X5_bars
set_option maxRecDepth 20000 in
theorem ggX6_undo_X1_dropLast : GoodIn wsX6_undo wsX1_dropLast := goodIn_r _ [46, 47, 80, 81, 82, 83, 84] (by decide +kernel) (by decide +kernel)
set_option maxRecDepth 20000 in
theorem gX6_undo_X1_dropLast : GoodIn wsX6_undo (wsV RX6 217 RX1 yX1_dropLast wsX1_dropLast) := goodIn_app (goodIn_of _ (by decide +kernel)) ggX6_undo_X1_dropLast
set_option maxRecDepth 20000 in
theorem ggX6_undo_X6_bringBack : GoodIn wsX6_undo wsX6_bringBack := goodIn_r _ [51, 5, 52, 53, 6, 54, 55, 56, 27, 57, 29, 35, 25, 26, 28, 30, 36, 37, 38, 39, 40, 41, 63, 64, 65, 66, 67, 68, 69, 74, 75, 76, 77, 78, 79] (by decide +kernel) (by decide +kernel)
set_option maxRecDepth 20000 in
theorem gX6_undo_X6_bringBack : GoodIn wsX6_undo (wsV RX6 223 RX6 yX6_bringBack wsX6_bringBack) := goodIn_app (goodIn_of _ (by decide +kernel)) ggX6_undo_X6_bringBack
set_option maxRecDepth 20000 in
theorem ggX6_undo_X5_dropLast : GoodIn wsX6_undo wsX5_dropLast := goodIn_r _ [61, 62, 70, 71, 72, 73] (by decide +kernel) (by decide +kernel)
set_option maxRecDepth 20000 in
theorem gX6_undo_X5_dropLast : GoodIn wsX6_undo (wsV RX6 226 RX5 yX5_dropLast wsX5_dropLast) := goodIn_app (goodIn_of _ (by decide +kernel)) ggX6_undo_X5_dropLast
theorem dX6_undo_0 : decode cX6_undo 0 = .ok (.aload_n 0, 1) := by decide +kernel
theorem dX6_undo_1 : decode cX6_undo 1 = .ok (.getfield 26, 3) := by decide +kernel
theorem dX6_undo_4 : decode cX6_undo 4 = .ok (.getfield 202, 3) := by decide +kernel
theorem dX6_undo_7 : decode cX6_undo 7 = .ok (.iconst 1, 1) := by decide +kernel
theorem dX6_undo_8 : decode cX6_undo 8 = .ok (.isub, 1) := by decide +kernel
theorem dX6_undo_9 : decode cX6_undo 9 = .ok (.istore_n 1, 1) := by decide +kernel
theorem dX6_undo_10 : decode cX6_undo 10 = .ok (.iload_n 1, 1) := by decide +kernel
theorem dX6_undo_11 : decode cX6_undo 11 = .ok (.ifCond .ge 13, 3) := by decide +kernel
theorem dX6_undo_14 : decode cX6_undo 14 = .ok (.new 95, 3) := by decide +kernel
theorem dX6_undo_17 : decode cX6_undo 17 = .ok (.dup, 1) := by decide +kernel
theorem dX6_undo_18 : decode cX6_undo 18 = .ok (.ldc 203, 2) := by decide +kernel
theorem dX6_undo_20 : decode cX6_undo 20 = .ok (.invokespecial 99, 3) := by decide +kernel
theorem dX6_undo_23 : decode cX6_undo 23 = .ok (.athrow, 1) := by decide +kernel
theorem dX6_undo_24 : decode cX6_undo 24 = .ok (.aload_n 0, 1) := by decide +kernel
theorem dX6_undo_25 : decode cX6_undo 25 = .ok (.iload_n 1, 1) := by decide +kernel
theorem dX6_undo_26 : decode cX6_undo 26 = .ok (.invokevirtual 205, 3) := by decide +kernel
theorem dX6_undo_29 : decode cX6_undo 29 = .ok (.ifCond .ne 13, 3) := by decide +kernel
theorem dX6_undo_32 : decode cX6_undo 32 = .ok (.new 95, 3) := by decide +kernel
theorem dX6_undo_35 : decode cX6_undo 35 = .ok (.dup, 1) := by decide +kernel
theorem dX6_undo_36 : decode cX6_undo 36 = .ok (.ldc 209, 2) := by decide +kernel
theorem dX6_undo_38 : decode cX6_undo 38 = .ok (.invokespecial 99, 3) := by decide +kernel
theorem dX6_undo_41 : decode cX6_undo 41 = .ok (.athrow, 1) := by decide +kernel
theorem dX6_undo_42 : decode cX6_undo 42 = .ok (.iconst 0, 1) := by decide +kernel
theorem dX6_undo_43 : decode cX6_undo 43 = .ok (.istore_n 2, 1) := by decide +kernel
theorem dX6_undo_44 : decode cX6_undo 44 = .ok (.iload_n 2, 1) := by decide +kernel
theorem dX6_undo_45 : decode cX6_undo 45 = .ok (.aload_n 0, 1) := by decide +kernel
theorem dX6_undo_46 : decode cX6_undo 46 = .ok (.getfield 26, 3) := by decide +kernel
theorem dX6_undo_49 : decode cX6_undo 49 = .ok (.iload_n 1, 1) := by decide +kernel
theorem dX6_undo_50 : decode cX6_undo 50 = .ok (.invokevirtual 211, 3) := by decide +kernel
theorem dX6_undo_53 : decode cX6_undo 53 = .ok (.if_icmp .ge 29, 3) := by decide +kernel
theorem dX6_undo_56 : decode cX6_undo 56 = .ok (.aload_n 0, 1) := by decide +kernel
theorem dX6_undo_57 : decode cX6_undo 57 = .ok (.getfield 19, 3) := by decide +kernel
theorem dX6_undo_60 : decode cX6_undo 60 = .ok (.getfield 109, 3) := by decide +kernel
theorem dX6_undo_63 : decode cX6_undo 63 = .ok (.aload_n 0, 1) := by decide +kernel
theorem dX6_undo_64 : decode cX6_undo 64 = .ok (.getfield 26, 3) := by decide +kernel
theorem dX6_undo_67 : decode cX6_undo 67 = .ok (.getfield 214, 3) := by decide +kernel
theorem dX6_undo_70 : decode cX6_undo 70 = .ok (.iload_n 1, 1) := by decide +kernel
theorem dX6_undo_71 : decode cX6_undo 71 = .ok (.iaload, 1) := by decide +kernel
theorem dX6_undo_72 : decode cX6_undo 72 = .ok (.iload_n 2, 1) := by decide +kernel
theorem dX6_undo_73 : decode cX6_undo 73 = .ok (.iadd, 1) := by decide +kernel
theorem dX6_undo_74 : decode cX6_undo 74 = .ok (.iconst 1, 1) := by decide +kernel
theorem dX6_undo_75 : decode cX6_undo 75 = .ok (.bastore, 1) := by decide +kernel
theorem dX6_undo_76 : decode cX6_undo 76 = .ok (.iinc 2 1, 3) := by decide +kernel
theorem dX6_undo_79 : decode cX6_undo 79 = .ok (.goto (-35), 3) := by decide +kernel
theorem dX6_undo_82 : decode cX6_undo 82 = .ok (.aload_n 0, 1) := by decide +kernel
theorem dX6_undo_83 : decode cX6_undo 83 = .ok (.getfield 10, 3) := by decide +kernel
theorem dX6_undo_86 : decode cX6_undo 86 = .ok (.invokevirtual 217, 3) := by decide +kernel
theorem dX6_undo_89 : decode cX6_undo 89 = .ok (.aload_n 0, 1) := by decide +kernel
theorem dX6_undo_90 : decode cX6_undo 90 = .ok (.aload_n 0, 1) := by decide +kernel
theorem dX6_undo_91 : decode cX6_undo 91 = .ok (.getfield 26, 3) := by decide +kernel
theorem dX6_undo_94 : decode cX6_undo 94 = .ok (.getfield 220, 3) := by decide +kernel
theorem dX6_undo_97 : decode cX6_undo 97 = .ok (.iload_n 1, 1) := by decide +kernel
theorem dX6_undo_98 : decode cX6_undo 98 = .ok (.iaload, 1) := by decide +kernel
theorem dX6_undo_99 : decode cX6_undo 99 = .ok (.invokevirtual 223, 3) := by decide +kernel
theorem dX6_undo_102 : decode cX6_undo 102 = .ok (.aload_n 0, 1) := by decide +kernel
theorem dX6_undo_103 : decode cX6_undo 103 = .ok (.getfield 26, 3) := by decide +kernel
theorem dX6_undo_106 : decode cX6_undo 106 = .ok (.invokevirtual 226, 3) := by decide +kernel
theorem dX6_undo_109 : decode cX6_undo 109 = .ok (.aload_n 0, 1) := by decide +kernel
theorem dX6_undo_110 : decode cX6_undo 110 = .ok (.getfield 26, 3) := by decide +kernel
theorem dX6_undo_113 : decode cX6_undo 113 = .ok (.getfield 202, 3) := by decide +kernel
theorem dX6_undo_116 : decode cX6_undo 116 = .ok (.ireturn, 1) := by decide +kernel
set_option maxRecDepth 20000 in
theorem ggX6_stress_X6_requireMember : GoodIn wsX6_stress wsX6_requireMember := goodIn_ca (goodIn_r _ [9, 10, 11, 3, 12, 13, 14, 15, 16, 17, 18, 19, 20, 21, 22, 23, 24, 25, 26, 27, 28, 29, 30, 31] (by decide +kernel) (by decide +kernel)) (goodIn_sub (fun _ h => List.mem_cons_of_mem _ (List.mem_append_right _ h)) (by decide +kernel))
set_option maxRecDepth 20000 in
theorem gX6_stress_X6_requireMember : GoodIn wsX6_stress (wsV RX6 106 RX6 yX6_requireMember wsX6_requireMember) := goodIn_app (goodIn_of _ (by decide +kernel)) ggX6_stress_X6_requireMember
theorem dX6_stress_0 : decode cX6_stress 0 = .ok (.aload_n 0, 1) := by decide +kernel
theorem dX6_stress_1 : decode cX6_stress 1 = .ok (.iload_n 1, 1) := by decide +kernel
theorem dX6_stress_2 : decode cX6_stress 2 = .ok (.invokevirtual 106, 3) := by decide +kernel
theorem dX6_stress_5 : decode cX6_stress 5 = .ok (.iload_n 2, 1) := by decide +kernel
theorem dX6_stress_6 : decode cX6_stress 6 = .ok (.bipush (-99), 2) := by decide +kernel
theorem dX6_stress_8 : decode cX6_stress 8 = .ok (.if_icmp .lt 9, 3) := by decide +kernel
theorem dX6_stress_11 : decode cX6_stress 11 = .ok (.iload_n 2, 1) := by decide +kernel
theorem dX6_stress_12 : decode cX6_stress 12 = .ok (.bipush 99, 2) := by decide +kernel
theorem dX6_stress_14 : decode cX6_stress 14 = .ok (.if_icmp .le 13, 3) := by decide +kernel
theorem dX6_stress_17 : decode cX6_stress 17 = .ok (.new 84, 3) := by decide +kernel
theorem dX6_stress_20 : decode cX6_stress 20 = .ok (.dup, 1) := by decide +kernel
theorem dX6_stress_21 : decode cX6_stress 21 = .ok (.ldc 227, 2) := by decide +kernel
theorem dX6_stress_23 : decode cX6_stress 23 = .ok (.invokespecial 88, 3) := by decide +kernel
theorem dX6_stress_26 : decode cX6_stress 26 = .ok (.athrow, 1) := by decide +kernel
theorem dX6_stress_27 : decode cX6_stress 27 = .ok (.aload_n 0, 1) := by decide +kernel
theorem dX6_stress_28 : decode cX6_stress 28 = .ok (.getfield 19, 3) := by decide +kernel
theorem dX6_stress_31 : decode cX6_stress 31 = .ok (.getfield 229, 3) := by decide +kernel
theorem dX6_stress_34 : decode cX6_stress 34 = .ok (.iload_n 1, 1) := by decide +kernel
theorem dX6_stress_35 : decode cX6_stress 35 = .ok (.iaload, 1) := by decide +kernel
theorem dX6_stress_36 : decode cX6_stress 36 = .ok (.istore_n 3, 1) := by decide +kernel
theorem dX6_stress_37 : decode cX6_stress 37 = .ok (.aload_n 0, 1) := by decide +kernel
theorem dX6_stress_38 : decode cX6_stress 38 = .ok (.getfield 19, 3) := by decide +kernel
theorem dX6_stress_41 : decode cX6_stress 41 = .ok (.getfield 229, 3) := by decide +kernel
theorem dX6_stress_44 : decode cX6_stress 44 = .ok (.iload_n 1, 1) := by decide +kernel
theorem dX6_stress_45 : decode cX6_stress 45 = .ok (.iload_n 2, 1) := by decide +kernel
theorem dX6_stress_46 : decode cX6_stress 46 = .ok (.iastore, 1) := by decide +kernel
theorem dX6_stress_47 : decode cX6_stress 47 = .ok (.iload_n 3, 1) := by decide +kernel
theorem dX6_stress_48 : decode cX6_stress 48 = .ok (.ireturn, 1) := by decide +kernel
set_option maxRecDepth 20000 in
theorem ggX6_unbalanced_X6_isBalanced : GoodIn wsX6_unbalanced wsX6_isBalanced := goodIn_r _ [8, 9, 10, 11, 12, 13, 1, 14, 15, 16, 17, 18, 19, 20, 21, 22, 23, 24, 25, 26, 27, 28, 32, 33, 34, 35, 36, 37, 38, 44, 45, 46, 47, 48, 49, 39, 40, 41, 42, 43] (by decide +kernel) (by decide +kernel)
set_option maxRecDepth 20000 in
theorem gX6_unbalanced_X6_isBalanced : GoodIn wsX6_unbalanced (wsV RX6 232 RX6 yX6_isBalanced wsX6_isBalanced) := goodIn_app (goodIn_of _ (by decide +kernel)) ggX6_unbalanced_X6_isBalanced
set_option maxRecDepth 20000 in
theorem ggX6_unbalanced_X6_bit : GoodIn wsX6_unbalanced wsX6_bit := goodIn_r _ [31] (by decide +kernel) (by decide +kernel)
set_option maxRecDepth 20000 in
theorem gX6_unbalanced_X6_bit : GoodIn wsX6_unbalanced (va_wsS RX6 174 yX6_bit wsX6_bit) := goodIn_app (goodIn_of _ (by decide +kernel)) ggX6_unbalanced_X6_bit
theorem dX6_unbalanced_0 : decode cX6_unbalanced 0 = .ok (.iconst 0, 1) := by decide +kernel
theorem dX6_unbalanced_1 : decode cX6_unbalanced 1 = .ok (.istore_n 1, 1) := by decide +kernel
theorem dX6_unbalanced_2 : decode cX6_unbalanced 2 = .ok (.iconst 0, 1) := by decide +kernel
theorem dX6_unbalanced_3 : decode cX6_unbalanced 3 = .ok (.istore_n 2, 1) := by decide +kernel
theorem dX6_unbalanced_4 : decode cX6_unbalanced 4 = .ok (.iload_n 2, 1) := by decide +kernel
theorem dX6_unbalanced_5 : decode cX6_unbalanced 5 = .ok (.aload_n 0, 1) := by decide +kernel
theorem dX6_unbalanced_6 : decode cX6_unbalanced 6 = .ok (.getfield 10, 3) := by decide +kernel
theorem dX6_unbalanced_9 : decode cX6_unbalanced 9 = .ok (.getfield 155, 3) := by decide +kernel
theorem dX6_unbalanced_12 : decode cX6_unbalanced 12 = .ok (.if_icmp .ge 36, 3) := by decide +kernel
theorem dX6_unbalanced_15 : decode cX6_unbalanced 15 = .ok (.aload_n 0, 1) := by decide +kernel
theorem dX6_unbalanced_16 : decode cX6_unbalanced 16 = .ok (.getfield 10, 3) := by decide +kernel
theorem dX6_unbalanced_19 : decode cX6_unbalanced 19 = .ok (.getfield 77, 3) := by decide +kernel
theorem dX6_unbalanced_22 : decode cX6_unbalanced 22 = .ok (.iload_n 2, 1) := by decide +kernel
theorem dX6_unbalanced_23 : decode cX6_unbalanced 23 = .ok (.baload, 1) := by decide +kernel
theorem dX6_unbalanced_24 : decode cX6_unbalanced 24 = .ok (.ifCond .ne 18, 3) := by decide +kernel
theorem dX6_unbalanced_27 : decode cX6_unbalanced 27 = .ok (.aload_n 0, 1) := by decide +kernel
theorem dX6_unbalanced_28 : decode cX6_unbalanced 28 = .ok (.iload_n 2, 1) := by decide +kernel
theorem dX6_unbalanced_29 : decode cX6_unbalanced 29 = .ok (.invokevirtual 232, 3) := by decide +kernel
theorem dX6_unbalanced_32 : decode cX6_unbalanced 32 = .ok (.ifCond .ne 10, 3) := by decide +kernel
theorem dX6_unbalanced_35 : decode cX6_unbalanced 35 = .ok (.iload_n 1, 1) := by decide +kernel
theorem dX6_unbalanced_36 : decode cX6_unbalanced 36 = .ok (.iload_n 2, 1) := by decide +kernel
theorem dX6_unbalanced_37 : decode cX6_unbalanced 37 = .ok (.invokestatic 174, 3) := by decide +kernel
theorem dX6_unbalanced_40 : decode cX6_unbalanced 40 = .ok (.ior, 1) := by decide +kernel
theorem dX6_unbalanced_41 : decode cX6_unbalanced 41 = .ok (.istore_n 1, 1) := by decide +kernel
theorem dX6_unbalanced_42 : decode cX6_unbalanced 42 = .ok (.iinc 2 1, 3) := by decide +kernel
theorem dX6_unbalanced_45 : decode cX6_unbalanced 45 = .ok (.goto (-41), 3) := by decide +kernel
theorem dX6_unbalanced_48 : decode cX6_unbalanced 48 = .ok (.iload_n 1, 1) := by decide +kernel
theorem dX6_unbalanced_49 : decode cX6_unbalanced 49 = .ok (.ireturn, 1) := by decide +kernel
set_option maxRecDepth 20000 in
theorem ggX6_isProper_X3_has : GoodIn wsX6_isProper wsX3_has := goodIn_r _ [8, 9, 10, 49, 50, 51, 52, 53, 54] (by decide +kernel) (by decide +kernel)
set_option maxRecDepth 20000 in
theorem gX6_isProper_X3_has : GoodIn wsX6_isProper (wsV RX6 236 RX3 yX3_has wsX3_has) := goodIn_app (goodIn_of _ (by decide +kernel)) ggX6_isProper_X3_has
set_option maxRecDepth 20000 in
theorem ggX6_isProper_X3_isWronglyTold : GoodIn wsX6_isProper wsX3_isWronglyTold := goodIn_r _ [14, 15, 16, 49, 50, 51, 52, 53, 54] (by decide +kernel) (by decide +kernel)
set_option maxRecDepth 20000 in
theorem gX6_isProper_X3_isWronglyTold : GoodIn wsX6_isProper (wsV RX6 239 RX3 yX3_isWronglyTold wsX3_isWronglyTold) := goodIn_app (goodIn_of _ (by decide +kernel)) ggX6_isProper_X3_isWronglyTold
set_option maxRecDepth 20000 in
theorem ggX6_isProper_X6_unbalanced : GoodIn wsX6_isProper wsX6_unbalanced := goodIn_r _ [21, 22, 23, 24, 25, 26, 27, 20, 28, 1, 2, 29, 30, 3, 31, 32, 4, 5, 6, 7, 8, 9, 10, 33, 34, 35, 36, 37, 38, 39, 40, 41, 42, 43, 44, 45, 46, 47, 48, 55, 56, 57, 58, 59, 49, 50, 51, 52, 53, 54] (by decide +kernel) (by decide +kernel)
set_option maxRecDepth 20000 in
theorem gX6_isProper_X6_unbalanced : GoodIn wsX6_isProper (wsV RX6 242 RX6 yX6_unbalanced wsX6_unbalanced) := goodIn_app (goodIn_of _ (by decide +kernel)) ggX6_isProper_X6_unbalanced
theorem dX6_isProper_0 : decode cX6_isProper 0 = .ok (.iconst 0, 1) := by decide +kernel
theorem dX6_isProper_1 : decode cX6_isProper 1 = .ok (.istore_n 1, 1) := by decide +kernel
theorem dX6_isProper_2 : decode cX6_isProper 2 = .ok (.iconst 0, 1) := by decide +kernel
theorem dX6_isProper_3 : decode cX6_isProper 3 = .ok (.istore_n 2, 1) := by decide +kernel
theorem dX6_isProper_4 : decode cX6_isProper 4 = .ok (.iload_n 2, 1) := by decide +kernel
theorem dX6_isProper_5 : decode cX6_isProper 5 = .ok (.aload_n 0, 1) := by decide +kernel
theorem dX6_isProper_6 : decode cX6_isProper 6 = .ok (.getfield 19, 3) := by decide +kernel
theorem dX6_isProper_9 : decode cX6_isProper 9 = .ok (.getfield 235, 3) := by decide +kernel
theorem dX6_isProper_12 : decode cX6_isProper 12 = .ok (.if_icmp .ge 47, 3) := by decide +kernel
theorem dX6_isProper_15 : decode cX6_isProper 15 = .ok (.aload_n 0, 1) := by decide +kernel
theorem dX6_isProper_16 : decode cX6_isProper 16 = .ok (.getfield 19, 3) := by decide +kernel
theorem dX6_isProper_19 : decode cX6_isProper 19 = .ok (.iload_n 2, 1) := by decide +kernel
theorem dX6_isProper_20 : decode cX6_isProper 20 = .ok (.invokevirtual 236, 3) := by decide +kernel
theorem dX6_isProper_23 : decode cX6_isProper 23 = .ok (.ifCond .eq 30, 3) := by decide +kernel
theorem dX6_isProper_26 : decode cX6_isProper 26 = .ok (.aload_n 0, 1) := by decide +kernel
theorem dX6_isProper_27 : decode cX6_isProper 27 = .ok (.getfield 19, 3) := by decide +kernel
theorem dX6_isProper_30 : decode cX6_isProper 30 = .ok (.iload_n 2, 1) := by decide +kernel
theorem dX6_isProper_31 : decode cX6_isProper 31 = .ok (.invokevirtual 239, 3) := by decide +kernel
theorem dX6_isProper_34 : decode cX6_isProper 34 = .ok (.ifCond .eq 5, 3) := by decide +kernel
theorem dX6_isProper_37 : decode cX6_isProper 37 = .ok (.iconst 0, 1) := by decide +kernel
theorem dX6_isProper_38 : decode cX6_isProper 38 = .ok (.ireturn, 1) := by decide +kernel
theorem dX6_isProper_39 : decode cX6_isProper 39 = .ok (.aload_n 0, 1) := by decide +kernel
theorem dX6_isProper_40 : decode cX6_isProper 40 = .ok (.getfield 19, 3) := by decide +kernel
theorem dX6_isProper_43 : decode cX6_isProper 43 = .ok (.getfield 229, 3) := by decide +kernel
theorem dX6_isProper_46 : decode cX6_isProper 46 = .ok (.iload_n 2, 1) := by decide +kernel
theorem dX6_isProper_47 : decode cX6_isProper 47 = .ok (.iaload, 1) := by decide +kernel
theorem dX6_isProper_48 : decode cX6_isProper 48 = .ok (.ifCond .eq 5, 3) := by decide +kernel
theorem dX6_isProper_51 : decode cX6_isProper 51 = .ok (.iconst 1, 1) := by decide +kernel
theorem dX6_isProper_52 : decode cX6_isProper 52 = .ok (.istore_n 1, 1) := by decide +kernel
theorem dX6_isProper_53 : decode cX6_isProper 53 = .ok (.iinc 2 1, 3) := by decide +kernel
theorem dX6_isProper_56 : decode cX6_isProper 56 = .ok (.goto (-52), 3) := by decide +kernel
theorem dX6_isProper_59 : decode cX6_isProper 59 = .ok (.iload_n 1, 1) := by decide +kernel
theorem dX6_isProper_60 : decode cX6_isProper 60 = .ok (.ifCond .eq 14, 3) := by decide +kernel
theorem dX6_isProper_63 : decode cX6_isProper 63 = .ok (.aload_n 0, 1) := by decide +kernel
theorem dX6_isProper_64 : decode cX6_isProper 64 = .ok (.invokevirtual 242, 3) := by decide +kernel
theorem dX6_isProper_67 : decode cX6_isProper 67 = .ok (.ifCond .ne 7, 3) := by decide +kernel
theorem dX6_isProper_70 : decode cX6_isProper 70 = .ok (.iconst 1, 1) := by decide +kernel
theorem dX6_isProper_71 : decode cX6_isProper 71 = .ok (.goto 4, 3) := by decide +kernel
theorem dX6_isProper_74 : decode cX6_isProper 74 = .ok (.iconst 0, 1) := by decide +kernel
theorem dX6_isProper_75 : decode cX6_isProper 75 = .ok (.ireturn, 1) := by decide +kernel
set_option maxRecDepth 20000 in
theorem ggX6_matrix_X0_begin : GoodIn wsX6_matrix wsX0_begin := goodIn_r _ [13, 14, 15, 16, 17, 18, 19, 20, 21, 22, 23, 87, 88, 89, 90] (by decide +kernel) (by decide +kernel)
set_option maxRecDepth 20000 in
theorem gX6_matrix_X0_begin : GoodIn wsX6_matrix (wsV RX6 245 RX0 yX0_begin wsX0_begin) := goodIn_app (goodIn_of _ (by decide +kernel)) ggX6_matrix_X0_begin
set_option maxRecDepth 20000 in
theorem ggX6_matrix_X3_has : GoodIn wsX6_matrix wsX3_has := goodIn_r _ [28, 29, 30, 81, 82, 83, 84, 85, 86] (by decide +kernel) (by decide +kernel)
set_option maxRecDepth 20000 in
theorem gX6_matrix_X3_has : GoodIn wsX6_matrix (wsV RX6 236 RX3 yX3_has wsX3_has) := goodIn_app (goodIn_of _ (by decide +kernel)) ggX6_matrix_X3_has
set_option maxRecDepth 20000 in
theorem ggX6_matrix_X0_add : GoodIn wsX6_matrix wsX0_add := goodIn_r _ [34, 21, 22, 23, 35, 36, 37, 38, 39, 87, 88, 89, 90] (by decide +kernel) (by decide +kernel)
set_option maxRecDepth 20000 in
theorem gX6_matrix_X0_add : GoodIn wsX6_matrix (wsV RX6 248 RX0 yX0_add wsX0_add) := goodIn_app (goodIn_of _ (by decide +kernel)) ggX6_matrix_X0_add
set_option maxRecDepth 20000 in
theorem ggX6_matrix_X0_reduce : GoodIn wsX6_matrix wsX0_reduce := goodIn_r _ [43, 22, 44, 45, 46, 47, 12, 48, 21, 23, 49, 50, 51, 52, 53, 54, 55, 56, 35, 57, 58, 59, 60, 61, 62, 63, 64, 65, 66, 67, 68, 87, 88, 89, 90] (by decide +kernel) (by decide +kernel)
set_option maxRecDepth 20000 in
theorem gX6_matrix_X0_reduce : GoodIn wsX6_matrix (wsV RX6 134 RX0 yX0_reduce wsX0_reduce) := goodIn_app (goodIn_of _ (by decide +kernel)) ggX6_matrix_X0_reduce
theorem dX6_matrix_0 : decode cX6_matrix 0 = .ok (.aload_n 0, 1) := by decide +kernel
theorem dX6_matrix_1 : decode cX6_matrix 1 = .ok (.getfield 40, 3) := by decide +kernel
theorem dX6_matrix_4 : decode cX6_matrix 4 = .ok (.aload_n 0, 1) := by decide +kernel
theorem dX6_matrix_5 : decode cX6_matrix 5 = .ok (.getfield 10, 3) := by decide +kernel
theorem dX6_matrix_8 : decode cX6_matrix 8 = .ok (.getfield 155, 3) := by decide +kernel
theorem dX6_matrix_11 : decode cX6_matrix 11 = .ok (.aload_n 0, 1) := by decide +kernel
theorem dX6_matrix_12 : decode cX6_matrix 12 = .ok (.getfield 10, 3) := by decide +kernel
theorem dX6_matrix_15 : decode cX6_matrix 15 = .ok (.getfield 155, 3) := by decide +kernel
theorem dX6_matrix_18 : decode cX6_matrix 18 = .ok (.invokevirtual 245, 3) := by decide +kernel
theorem dX6_matrix_21 : decode cX6_matrix 21 = .ok (.iconst 0, 1) := by decide +kernel
theorem dX6_matrix_22 : decode cX6_matrix 22 = .ok (.istore_n 1, 1) := by decide +kernel
theorem dX6_matrix_23 : decode cX6_matrix 23 = .ok (.iload_n 1, 1) := by decide +kernel
theorem dX6_matrix_24 : decode cX6_matrix 24 = .ok (.aload_n 0, 1) := by decide +kernel
theorem dX6_matrix_25 : decode cX6_matrix 25 = .ok (.getfield 19, 3) := by decide +kernel
theorem dX6_matrix_28 : decode cX6_matrix 28 = .ok (.getfield 235, 3) := by decide +kernel
theorem dX6_matrix_31 : decode cX6_matrix 31 = .ok (.if_icmp .ge 97, 3) := by decide +kernel
theorem dX6_matrix_34 : decode cX6_matrix 34 = .ok (.aload_n 0, 1) := by decide +kernel
theorem dX6_matrix_35 : decode cX6_matrix 35 = .ok (.getfield 19, 3) := by decide +kernel
theorem dX6_matrix_38 : decode cX6_matrix 38 = .ok (.iload_n 1, 1) := by decide +kernel
theorem dX6_matrix_39 : decode cX6_matrix 39 = .ok (.invokevirtual 236, 3) := by decide +kernel
theorem dX6_matrix_42 : decode cX6_matrix 42 = .ok (.ifCond .eq 80, 3) := by decide +kernel
theorem dX6_matrix_45 : decode cX6_matrix 45 = .ok (.aload_n 0, 1) := by decide +kernel
theorem dX6_matrix_46 : decode cX6_matrix 46 = .ok (.getfield 19, 3) := by decide +kernel
theorem dX6_matrix_49 : decode cX6_matrix 49 = .ok (.getfield 168, 3) := by decide +kernel
theorem dX6_matrix_52 : decode cX6_matrix 52 = .ok (.iload_n 1, 1) := by decide +kernel
theorem dX6_matrix_53 : decode cX6_matrix 53 = .ok (.iaload, 1) := by decide +kernel
theorem dX6_matrix_54 : decode cX6_matrix 54 = .ok (.istore_n 2, 1) := by decide +kernel
theorem dX6_matrix_55 : decode cX6_matrix 55 = .ok (.aload_n 0, 1) := by decide +kernel
theorem dX6_matrix_56 : decode cX6_matrix 56 = .ok (.getfield 19, 3) := by decide +kernel
theorem dX6_matrix_59 : decode cX6_matrix 59 = .ok (.getfield 171, 3) := by decide +kernel
theorem dX6_matrix_62 : decode cX6_matrix 62 = .ok (.iload_n 1, 1) := by decide +kernel
theorem dX6_matrix_63 : decode cX6_matrix 63 = .ok (.iaload, 1) := by decide +kernel
theorem dX6_matrix_64 : decode cX6_matrix 64 = .ok (.istore_n 3, 1) := by decide +kernel
theorem dX6_matrix_65 : decode cX6_matrix 65 = .ok (.aload_n 0, 1) := by decide +kernel
theorem dX6_matrix_66 : decode cX6_matrix 66 = .ok (.getfield 19, 3) := by decide +kernel
theorem dX6_matrix_69 : decode cX6_matrix 69 = .ok (.getfield 229, 3) := by decide +kernel
theorem dX6_matrix_72 : decode cX6_matrix 72 = .ok (.iload_n 1, 1) := by decide +kernel
theorem dX6_matrix_73 : decode cX6_matrix 73 = .ok (.iaload, 1) := by decide +kernel
theorem dX6_matrix_74 : decode cX6_matrix 74 = .ok (.istore 4, 2) := by decide +kernel
theorem dX6_matrix_76 : decode cX6_matrix 76 = .ok (.aload_n 0, 1) := by decide +kernel
theorem dX6_matrix_77 : decode cX6_matrix 77 = .ok (.getfield 40, 3) := by decide +kernel
theorem dX6_matrix_80 : decode cX6_matrix 80 = .ok (.iload_n 2, 1) := by decide +kernel
theorem dX6_matrix_81 : decode cX6_matrix 81 = .ok (.iload_n 3, 1) := by decide +kernel
theorem dX6_matrix_82 : decode cX6_matrix 82 = .ok (.iload 4, 2) := by decide +kernel
theorem dX6_matrix_84 : decode cX6_matrix 84 = .ok (.ineg, 1) := by decide +kernel
theorem dX6_matrix_85 : decode cX6_matrix 85 = .ok (.invokevirtual 248, 3) := by decide +kernel
theorem dX6_matrix_88 : decode cX6_matrix 88 = .ok (.aload_n 0, 1) := by decide +kernel
theorem dX6_matrix_89 : decode cX6_matrix 89 = .ok (.getfield 40, 3) := by decide +kernel
theorem dX6_matrix_92 : decode cX6_matrix 92 = .ok (.iload_n 3, 1) := by decide +kernel
theorem dX6_matrix_93 : decode cX6_matrix 93 = .ok (.iload_n 2, 1) := by decide +kernel
theorem dX6_matrix_94 : decode cX6_matrix 94 = .ok (.iload 4, 2) := by decide +kernel
theorem dX6_matrix_96 : decode cX6_matrix 96 = .ok (.ineg, 1) := by decide +kernel
theorem dX6_matrix_97 : decode cX6_matrix 97 = .ok (.invokevirtual 248, 3) := by decide +kernel
theorem dX6_matrix_100 : decode cX6_matrix 100 = .ok (.aload_n 0, 1) := by decide +kernel
theorem dX6_matrix_101 : decode cX6_matrix 101 = .ok (.getfield 40, 3) := by decide +kernel
theorem dX6_matrix_104 : decode cX6_matrix 104 = .ok (.iload_n 2, 1) := by decide +kernel
theorem dX6_matrix_105 : decode cX6_matrix 105 = .ok (.iload_n 2, 1) := by decide +kernel
theorem dX6_matrix_106 : decode cX6_matrix 106 = .ok (.iload 4, 2) := by decide +kernel
theorem dX6_matrix_108 : decode cX6_matrix 108 = .ok (.invokevirtual 248, 3) := by decide +kernel
theorem dX6_matrix_111 : decode cX6_matrix 111 = .ok (.aload_n 0, 1) := by decide +kernel
theorem dX6_matrix_112 : decode cX6_matrix 112 = .ok (.getfield 40, 3) := by decide +kernel
theorem dX6_matrix_115 : decode cX6_matrix 115 = .ok (.iload_n 3, 1) := by decide +kernel
theorem dX6_matrix_116 : decode cX6_matrix 116 = .ok (.iload_n 3, 1) := by decide +kernel
theorem dX6_matrix_117 : decode cX6_matrix 117 = .ok (.iload 4, 2) := by decide +kernel
theorem dX6_matrix_119 : decode cX6_matrix 119 = .ok (.invokevirtual 248, 3) := by decide +kernel
theorem dX6_matrix_122 : decode cX6_matrix 122 = .ok (.iinc 1 1, 3) := by decide +kernel
theorem dX6_matrix_125 : decode cX6_matrix 125 = .ok (.goto (-102), 3) := by decide +kernel
theorem dX6_matrix_128 : decode cX6_matrix 128 = .ok (.aload_n 0, 1) := by decide +kernel
theorem dX6_matrix_129 : decode cX6_matrix 129 = .ok (.getfield 40, 3) := by decide +kernel
theorem dX6_matrix_132 : decode cX6_matrix 132 = .ok (.invokevirtual 134, 3) := by decide +kernel
theorem dX6_matrix_135 : decode cX6_matrix 135 = .ok (.ireturn, 1) := by decide +kernel
set_option maxRecDepth 20000 in
theorem ggX6_reaches_X6_requireLink : GoodIn wsX6_reaches wsX6_requireLink := goodIn_ca (goodIn_r _ [11, 1, 2, 12] (by decide +kernel) (by decide +kernel)) (goodIn_sub (fun _ h => List.mem_cons_of_mem _ (List.mem_append_right _ h)) (by decide +kernel))
set_option maxRecDepth 20000 in
theorem gX6_reaches_X6_requireLink : GoodIn wsX6_reaches (va_wsS RX6 249 yX6_requireLink wsX6_requireLink) := goodIn_app (goodIn_of _ (by decide +kernel)) ggX6_reaches_X6_requireLink
theorem dX6_reaches_0 : decode cX6_reaches 0 = .ok (.iload_n 1, 1) := by decide +kernel
theorem dX6_reaches_1 : decode cX6_reaches 1 = .ok (.invokestatic 249, 3) := by decide +kernel
theorem dX6_reaches_4 : decode cX6_reaches 4 = .ok (.iload_n 2, 1) := by decide +kernel
theorem dX6_reaches_5 : decode cX6_reaches 5 = .ok (.invokestatic 249, 3) := by decide +kernel
theorem dX6_reaches_8 : decode cX6_reaches 8 = .ok (.iload_n 3, 1) := by decide +kernel
theorem dX6_reaches_9 : decode cX6_reaches 9 = .ok (.invokestatic 249, 3) := by decide +kernel
theorem dX6_reaches_12 : decode cX6_reaches 12 = .ok (.iload 4, 2) := by decide +kernel
theorem dX6_reaches_14 : decode cX6_reaches 14 = .ok (.ifCond .lt 10, 3) := by decide +kernel
theorem dX6_reaches_17 : decode cX6_reaches 17 = .ok (.iload 4, 2) := by decide +kernel
theorem dX6_reaches_19 : decode cX6_reaches 19 = .ok (.ldc 252, 2) := by decide +kernel
theorem dX6_reaches_21 : decode cX6_reaches 21 = .ok (.if_icmp .le 13, 3) := by decide +kernel
theorem dX6_reaches_24 : decode cX6_reaches 24 = .ok (.new 84, 3) := by decide +kernel
theorem dX6_reaches_27 : decode cX6_reaches 27 = .ok (.dup, 1) := by decide +kernel
theorem dX6_reaches_28 : decode cX6_reaches 28 = .ok (.ldc 253, 2) := by decide +kernel
theorem dX6_reaches_30 : decode cX6_reaches 30 = .ok (.invokespecial 88, 3) := by decide +kernel
theorem dX6_reaches_33 : decode cX6_reaches 33 = .ok (.athrow, 1) := by decide +kernel
theorem dX6_reaches_34 : decode cX6_reaches 34 = .ok (.iload_n 1, 1) := by decide +kernel
theorem dX6_reaches_35 : decode cX6_reaches 35 = .ok (.iload_n 2, 1) := by decide +kernel
theorem dX6_reaches_36 : decode cX6_reaches 36 = .ok (.iadd, 1) := by decide +kernel
theorem dX6_reaches_37 : decode cX6_reaches 37 = .ok (.iload_n 3, 1) := by decide +kernel
theorem dX6_reaches_38 : decode cX6_reaches 38 = .ok (.iadd, 1) := by decide +kernel
theorem dX6_reaches_39 : decode cX6_reaches 39 = .ok (.istore 5, 2) := by decide +kernel
theorem dX6_reaches_41 : decode cX6_reaches 41 = .ok (.iload_n 1, 1) := by decide +kernel
theorem dX6_reaches_42 : decode cX6_reaches 42 = .ok (.iload_n 2, 1) := by decide +kernel
theorem dX6_reaches_43 : decode cX6_reaches 43 = .ok (.iload_n 3, 1) := by decide +kernel
theorem dX6_reaches_44 : decode cX6_reaches 44 = .ok (.invokestatic 255, 3) := by decide +kernel
theorem dX6_reaches_47 : decode cX6_reaches 47 = .ok (.invokestatic 255, 3) := by decide +kernel
theorem dX6_reaches_50 : decode cX6_reaches 50 = .ok (.istore 6, 2) := by decide +kernel
theorem dX6_reaches_52 : decode cX6_reaches 52 = .ok (.iload 4, 2) := by decide +kernel
theorem dX6_reaches_54 : decode cX6_reaches 54 = .ok (.iload 5, 2) := by decide +kernel
theorem dX6_reaches_56 : decode cX6_reaches 56 = .ok (.if_icmp .gt 20, 3) := by decide +kernel
theorem dX6_reaches_59 : decode cX6_reaches 59 = .ok (.iload 4, 2) := by decide +kernel
theorem dX6_reaches_61 : decode cX6_reaches 61 = .ok (.iload 6, 2) := by decide +kernel
theorem dX6_reaches_63 : decode cX6_reaches 63 = .ok (.iload 5, 2) := by decide +kernel
theorem dX6_reaches_65 : decode cX6_reaches 65 = .ok (.iload 6, 2) := by decide +kernel
theorem dX6_reaches_67 : decode cX6_reaches 67 = .ok (.isub, 1) := by decide +kernel
theorem dX6_reaches_68 : decode cX6_reaches 68 = .ok (.isub, 1) := by decide +kernel
theorem dX6_reaches_69 : decode cX6_reaches 69 = .ok (.if_icmp .lt 7, 3) := by decide +kernel
theorem dX6_reaches_72 : decode cX6_reaches 72 = .ok (.iconst 1, 1) := by decide +kernel
theorem dX6_reaches_73 : decode cX6_reaches 73 = .ok (.goto 4, 3) := by decide +kernel
theorem dX6_reaches_76 : decode cX6_reaches 76 = .ok (.iconst 0, 1) := by decide +kernel
theorem dX6_reaches_77 : decode cX6_reaches 77 = .ok (.ireturn, 1) := by decide +kernel
set_option maxRecDepth 20000 in
theorem ggX6_folds_X6_requireAngle : GoodIn wsX6_folds wsX6_requireAngle := goodIn_ca (goodIn_r _ [6, 1, 2] (by decide +kernel) (by decide +kernel)) (goodIn_sub (fun _ h => List.mem_cons_of_mem _ (List.mem_append_right _ h)) (by decide +kernel))
set_option maxRecDepth 20000 in
theorem gX6_folds_X6_requireAngle : GoodIn wsX6_folds (va_wsS RX6 260 yX6_requireAngle wsX6_requireAngle) := goodIn_app (goodIn_of _ (by decide +kernel)) ggX6_folds_X6_requireAngle
set_option maxRecDepth 20000 in
theorem ggX6_folds_J6_bitCount_0f7a4 : GoodIn wsX6_folds wsJ6_bitCount_0f7a4 := goodIn_r _ [10, 11, 12, 13] (by decide +kernel) (by decide +kernel)
set_option maxRecDepth 20000 in
theorem gX6_folds_J6_bitCount_0f7a4 : GoodIn wsX6_folds (va_wsS RX6 265 yJ6_bitCount_0f7a4 wsJ6_bitCount_0f7a4) := goodIn_app (goodIn_of _ (by decide +kernel)) ggX6_folds_J6_bitCount_0f7a4
theorem dX6_folds_0 : decode cX6_folds 0 = .ok (.iload_n 1, 1) := by decide +kernel
theorem dX6_folds_1 : decode cX6_folds 1 = .ok (.invokestatic 260, 3) := by decide +kernel
theorem dX6_folds_4 : decode cX6_folds 4 = .ok (.iload_n 2, 1) := by decide +kernel
theorem dX6_folds_5 : decode cX6_folds 5 = .ok (.invokestatic 260, 3) := by decide +kernel
theorem dX6_folds_8 : decode cX6_folds 8 = .ok (.iload_n 3, 1) := by decide +kernel
theorem dX6_folds_9 : decode cX6_folds 9 = .ok (.invokestatic 260, 3) := by decide +kernel
theorem dX6_folds_12 : decode cX6_folds 12 = .ok (.iload 4, 2) := by decide +kernel
theorem dX6_folds_14 : decode cX6_folds 14 = .ok (.invokestatic 260, 3) := by decide +kernel
theorem dX6_folds_17 : decode cX6_folds 17 = .ok (.iload 5, 2) := by decide +kernel
theorem dX6_folds_19 : decode cX6_folds 19 = .ok (.ifCond .lt 10, 3) := by decide +kernel
theorem dX6_folds_22 : decode cX6_folds 22 = .ok (.iload 5, 2) := by decide +kernel
theorem dX6_folds_24 : decode cX6_folds 24 = .ok (.bipush 15, 2) := by decide +kernel
theorem dX6_folds_26 : decode cX6_folds 26 = .ok (.if_icmp .le 14, 3) := by decide +kernel
theorem dX6_folds_29 : decode cX6_folds 29 = .ok (.new 84, 3) := by decide +kernel
theorem dX6_folds_32 : decode cX6_folds 32 = .ok (.dup, 1) := by decide +kernel
theorem dX6_folds_33 : decode cX6_folds 33 = .ok (.ldc_w 263, 3) := by decide +kernel
theorem dX6_folds_36 : decode cX6_folds 36 = .ok (.invokespecial 88, 3) := by decide +kernel
theorem dX6_folds_39 : decode cX6_folds 39 = .ok (.athrow, 1) := by decide +kernel
theorem dX6_folds_40 : decode cX6_folds 40 = .ok (.iload_n 1, 1) := by decide +kernel
theorem dX6_folds_41 : decode cX6_folds 41 = .ok (.iload_n 2, 1) := by decide +kernel
theorem dX6_folds_42 : decode cX6_folds 42 = .ok (.iadd, 1) := by decide +kernel
theorem dX6_folds_43 : decode cX6_folds 43 = .ok (.iload_n 3, 1) := by decide +kernel
theorem dX6_folds_44 : decode cX6_folds 44 = .ok (.iadd, 1) := by decide +kernel
theorem dX6_folds_45 : decode cX6_folds 45 = .ok (.iload 4, 2) := by decide +kernel
theorem dX6_folds_47 : decode cX6_folds 47 = .ok (.iadd, 1) := by decide +kernel
theorem dX6_folds_48 : decode cX6_folds 48 = .ok (.sipush 360, 3) := by decide +kernel
theorem dX6_folds_51 : decode cX6_folds 51 = .ok (.if_icmp .eq 5, 3) := by decide +kernel
theorem dX6_folds_54 : decode cX6_folds 54 = .ok (.iconst 1, 1) := by decide +kernel
theorem dX6_folds_55 : decode cX6_folds 55 = .ok (.ireturn, 1) := by decide +kernel
theorem dX6_folds_56 : decode cX6_folds 56 = .ok (.iload_n 1, 1) := by decide +kernel
theorem dX6_folds_57 : decode cX6_folds 57 = .ok (.iload_n 3, 1) := by decide +kernel
theorem dX6_folds_58 : decode cX6_folds 58 = .ok (.iadd, 1) := by decide +kernel
theorem dX6_folds_59 : decode cX6_folds 59 = .ok (.sipush 180, 3) := by decide +kernel
theorem dX6_folds_62 : decode cX6_folds 62 = .ok (.if_icmp .eq 5, 3) := by decide +kernel
theorem dX6_folds_65 : decode cX6_folds 65 = .ok (.iconst 2, 1) := by decide +kernel
theorem dX6_folds_66 : decode cX6_folds 66 = .ok (.ireturn, 1) := by decide +kernel
theorem dX6_folds_67 : decode cX6_folds 67 = .ok (.iload 5, 2) := by decide +kernel
theorem dX6_folds_69 : decode cX6_folds 69 = .ok (.invokestatic 265, 3) := by decide +kernel
theorem dX6_folds_72 : decode cX6_folds 72 = .ok (.istore 6, 2) := by decide +kernel
theorem dX6_folds_74 : decode cX6_folds 74 = .ok (.iload 6, 2) := by decide +kernel
theorem dX6_folds_76 : decode cX6_folds 76 = .ok (.iconst 1, 1) := by decide +kernel
theorem dX6_folds_77 : decode cX6_folds 77 = .ok (.if_icmp .eq 9, 3) := by decide +kernel
theorem dX6_folds_80 : decode cX6_folds 80 = .ok (.iload 6, 2) := by decide +kernel
theorem dX6_folds_82 : decode cX6_folds 82 = .ok (.iconst 3, 1) := by decide +kernel
theorem dX6_folds_83 : decode cX6_folds 83 = .ok (.if_icmp .ne 7, 3) := by decide +kernel
theorem dX6_folds_86 : decode cX6_folds 86 = .ok (.iconst 0, 1) := by decide +kernel
theorem dX6_folds_87 : decode cX6_folds 87 = .ok (.goto 4, 3) := by decide +kernel
theorem dX6_folds_90 : decode cX6_folds 90 = .ok (.iconst 3, 1) := by decide +kernel
theorem dX6_folds_91 : decode cX6_folds 91 = .ok (.ireturn, 1) := by decide +kernel
set_option maxRecDepth 20000 in
theorem ggX6_range_X6_requireJoint : GoodIn wsX6_range wsX6_requireJoint := goodIn_ca (goodIn_r _ [9, 10, 11, 3, 12, 13, 14, 15, 16, 17, 18, 19, 20, 21, 22, 23, 24, 25, 26, 27, 28, 29] (by decide +kernel) (by decide +kernel)) (goodIn_sub (fun _ h => List.mem_cons_of_mem _ (List.mem_append_right _ h)) (by decide +kernel))
set_option maxRecDepth 20000 in
theorem gX6_range_X6_requireJoint : GoodIn wsX6_range (wsV RX6 66 RX6 yX6_requireJoint wsX6_requireJoint) := goodIn_app (goodIn_of _ (by decide +kernel)) ggX6_range_X6_requireJoint
theorem dX6_range_0 : decode cX6_range 0 = .ok (.aload_n 0, 1) := by decide +kernel
theorem dX6_range_1 : decode cX6_range 1 = .ok (.iload_n 1, 1) := by decide +kernel
theorem dX6_range_2 : decode cX6_range 2 = .ok (.invokevirtual 66, 3) := by decide +kernel
theorem dX6_range_5 : decode cX6_range 5 = .ok (.iload_n 2, 1) := by decide +kernel
theorem dX6_range_6 : decode cX6_range 6 = .ok (.iconst (-1), 1) := by decide +kernel
theorem dX6_range_7 : decode cX6_range 7 = .ok (.if_icmp .eq 25, 3) := by decide +kernel
theorem dX6_range_10 : decode cX6_range 10 = .ok (.iload_n 2, 1) := by decide +kernel
theorem dX6_range_11 : decode cX6_range 11 = .ok (.ifCond .lt 10, 3) := by decide +kernel
theorem dX6_range_14 : decode cX6_range 14 = .ok (.iload_n 2, 1) := by decide +kernel
theorem dX6_range_15 : decode cX6_range 15 = .ok (.sipush 30000, 3) := by decide +kernel
theorem dX6_range_18 : decode cX6_range 18 = .ok (.if_icmp .le 14, 3) := by decide +kernel
theorem dX6_range_21 : decode cX6_range 21 = .ok (.new 84, 3) := by decide +kernel
theorem dX6_range_24 : decode cX6_range 24 = .ok (.dup, 1) := by decide +kernel
theorem dX6_range_25 : decode cX6_range 25 = .ok (.ldc_w 270, 3) := by decide +kernel
theorem dX6_range_28 : decode cX6_range 28 = .ok (.invokespecial 88, 3) := by decide +kernel
theorem dX6_range_31 : decode cX6_range 31 = .ok (.athrow, 1) := by decide +kernel
theorem dX6_range_32 : decode cX6_range 32 = .ok (.aload_n 0, 1) := by decide +kernel
theorem dX6_range_33 : decode cX6_range 33 = .ok (.getfield 10, 3) := by decide +kernel
theorem dX6_range_36 : decode cX6_range 36 = .ok (.getfield 272, 3) := by decide +kernel
theorem dX6_range_39 : decode cX6_range 39 = .ok (.iload_n 1, 1) := by decide +kernel
theorem dX6_range_40 : decode cX6_range 40 = .ok (.iaload, 1) := by decide +kernel
theorem dX6_range_41 : decode cX6_range 41 = .ok (.istore_n 3, 1) := by decide +kernel
theorem dX6_range_42 : decode cX6_range 42 = .ok (.aload_n 0, 1) := by decide +kernel
theorem dX6_range_43 : decode cX6_range 43 = .ok (.getfield 10, 3) := by decide +kernel
theorem dX6_range_46 : decode cX6_range 46 = .ok (.getfield 272, 3) := by decide +kernel
theorem dX6_range_49 : decode cX6_range 49 = .ok (.iload_n 1, 1) := by decide +kernel
theorem dX6_range_50 : decode cX6_range 50 = .ok (.iload_n 2, 1) := by decide +kernel
theorem dX6_range_51 : decode cX6_range 51 = .ok (.iastore, 1) := by decide +kernel
theorem dX6_range_52 : decode cX6_range 52 = .ok (.iload_n 3, 1) := by decide +kernel
theorem dX6_range_53 : decode cX6_range 53 = .ok (.ireturn, 1) := by decide +kernel
set_option maxRecDepth 20000 in
theorem ggX6_places_X6_requireError : GoodIn wsX6_places wsX6_requireError := goodIn_ca (goodIn_r _ [5, 6, 7] (by decide +kernel) (by decide +kernel)) (goodIn_sub (fun _ h => List.mem_cons_of_mem _ (List.mem_append_right _ h)) (by decide +kernel))
set_option maxRecDepth 20000 in
theorem gX6_places_X6_requireError : GoodIn wsX6_places (va_wsS RX6 275 yX6_requireError wsX6_requireError) := goodIn_app (goodIn_of _ (by decide +kernel)) ggX6_places_X6_requireError
set_option maxRecDepth 20000 in
theorem ggX6_places_X1_fits : GoodIn wsX6_places wsX1_fits := goodIn_r _ [12, 13, 14, 15, 16, 24, 25, 26, 27, 28] (by decide +kernel) (by decide +kernel)
set_option maxRecDepth 20000 in
theorem gX6_places_X1_fits : GoodIn wsX6_places (wsV RX6 278 RX1 yX1_fits wsX1_fits) := goodIn_app (goodIn_of _ (by decide +kernel)) ggX6_places_X1_fits
theorem dX6_places_0 : decode cX6_places 0 = .ok (.iload_n 1, 1) := by decide +kernel
theorem dX6_places_1 : decode cX6_places 1 = .ok (.invokestatic 275, 3) := by decide +kernel
theorem dX6_places_4 : decode cX6_places 4 = .ok (.iconst 0, 1) := by decide +kernel
theorem dX6_places_5 : decode cX6_places 5 = .ok (.istore_n 2, 1) := by decide +kernel
theorem dX6_places_6 : decode cX6_places 6 = .ok (.bipush (-60), 2) := by decide +kernel
theorem dX6_places_8 : decode cX6_places 8 = .ok (.istore_n 3, 1) := by decide +kernel
theorem dX6_places_9 : decode cX6_places 9 = .ok (.iload_n 3, 1) := by decide +kernel
theorem dX6_places_10 : decode cX6_places 10 = .ok (.bipush 60, 2) := by decide +kernel
theorem dX6_places_12 : decode cX6_places 12 = .ok (.if_icmp .gt 43, 3) := by decide +kernel
theorem dX6_places_15 : decode cX6_places 15 = .ok (.bipush (-60), 2) := by decide +kernel
theorem dX6_places_17 : decode cX6_places 17 = .ok (.istore 4, 2) := by decide +kernel
theorem dX6_places_19 : decode cX6_places 19 = .ok (.iload 4, 2) := by decide +kernel
theorem dX6_places_21 : decode cX6_places 21 = .ok (.bipush 60, 2) := by decide +kernel
theorem dX6_places_23 : decode cX6_places 23 = .ok (.if_icmp .gt 26, 3) := by decide +kernel
theorem dX6_places_26 : decode cX6_places 26 = .ok (.aload_n 0, 1) := by decide +kernel
theorem dX6_places_27 : decode cX6_places 27 = .ok (.getfield 10, 3) := by decide +kernel
theorem dX6_places_30 : decode cX6_places 30 = .ok (.iload_n 3, 1) := by decide +kernel
theorem dX6_places_31 : decode cX6_places 31 = .ok (.iload 4, 2) := by decide +kernel
theorem dX6_places_33 : decode cX6_places 33 = .ok (.iload_n 1, 1) := by decide +kernel
theorem dX6_places_34 : decode cX6_places 34 = .ok (.invokevirtual 278, 3) := by decide +kernel
theorem dX6_places_37 : decode cX6_places 37 = .ok (.ifCond .eq 6, 3) := by decide +kernel
theorem dX6_places_40 : decode cX6_places 40 = .ok (.iinc 2 1, 3) := by decide +kernel
theorem dX6_places_43 : decode cX6_places 43 = .ok (.iinc 4 1, 3) := by decide +kernel
theorem dX6_places_46 : decode cX6_places 46 = .ok (.goto (-27), 3) := by decide +kernel
theorem dX6_places_49 : decode cX6_places 49 = .ok (.iinc 3 1, 3) := by decide +kernel
theorem dX6_places_52 : decode cX6_places 52 = .ok (.goto (-43), 3) := by decide +kernel
theorem dX6_places_55 : decode cX6_places 55 = .ok (.iload_n 2, 1) := by decide +kernel
theorem dX6_places_56 : decode cX6_places 56 = .ok (.ireturn, 1) := by decide +kernel
set_option maxRecDepth 20000 in
theorem ggX6_place_X6_requireCount : GoodIn wsX6_place wsX6_requireCount := goodIn_ca (goodIn_r _ [5, 6, 7] (by decide +kernel) (by decide +kernel)) (goodIn_sub (fun _ h => List.mem_cons_of_mem _ (List.mem_append_left _ (List.mem_append_right _ h))) (by decide +kernel))
set_option maxRecDepth 20000 in
theorem gX6_place_X6_requireCount : GoodIn wsX6_place (va_wsS RX6 128 yX6_requireCount wsX6_requireCount) := goodIn_app (goodIn_of _ (by decide +kernel)) ggX6_place_X6_requireCount
set_option maxRecDepth 20000 in
theorem ggX6_place_X6_requireError : GoodIn wsX6_place wsX6_requireError := goodIn_ca (goodIn_r _ [10, 11, 12] (by decide +kernel) (by decide +kernel)) (goodIn_sub (fun _ h => List.mem_cons_of_mem _ (List.mem_append_right _ h)) (by decide +kernel))
set_option maxRecDepth 20000 in
theorem gX6_place_X6_requireError : GoodIn wsX6_place (va_wsS RX6 275 yX6_requireError wsX6_requireError) := goodIn_app (goodIn_of _ (by decide +kernel)) ggX6_place_X6_requireError
set_option maxRecDepth 20000 in
theorem ggX6_place_X1_fits : GoodIn wsX6_place wsX1_fits := goodIn_r _ [17, 18, 19, 20, 21, 29, 30, 31, 32, 33] (by decide +kernel) (by decide +kernel)
set_option maxRecDepth 20000 in
theorem gX6_place_X1_fits : GoodIn wsX6_place (wsV RX6 278 RX1 yX1_fits wsX1_fits) := goodIn_app (goodIn_of _ (by decide +kernel)) ggX6_place_X1_fits
theorem dX6_place_0 : decode cX6_place 0 = .ok (.iload_n 2, 1) := by decide +kernel
theorem dX6_place_1 : decode cX6_place 1 = .ok (.invokestatic 128, 3) := by decide +kernel
theorem dX6_place_4 : decode cX6_place 4 = .ok (.iload_n 1, 1) := by decide +kernel
theorem dX6_place_5 : decode cX6_place 5 = .ok (.invokestatic 275, 3) := by decide +kernel
theorem dX6_place_8 : decode cX6_place 8 = .ok (.iconst 0, 1) := by decide +kernel
theorem dX6_place_9 : decode cX6_place 9 = .ok (.istore_n 3, 1) := by decide +kernel
theorem dX6_place_10 : decode cX6_place 10 = .ok (.bipush (-60), 2) := by decide +kernel
theorem dX6_place_12 : decode cX6_place 12 = .ok (.istore 4, 2) := by decide +kernel
theorem dX6_place_14 : decode cX6_place 14 = .ok (.iload 4, 2) := by decide +kernel
theorem dX6_place_16 : decode cX6_place 16 = .ok (.bipush 60, 2) := by decide +kernel
theorem dX6_place_18 : decode cX6_place 18 = .ok (.if_icmp .gt 65, 3) := by decide +kernel
theorem dX6_place_21 : decode cX6_place 21 = .ok (.bipush (-60), 2) := by decide +kernel
theorem dX6_place_23 : decode cX6_place 23 = .ok (.istore 5, 2) := by decide +kernel
theorem dX6_place_25 : decode cX6_place 25 = .ok (.iload 5, 2) := by decide +kernel
theorem dX6_place_27 : decode cX6_place 27 = .ok (.bipush 60, 2) := by decide +kernel
theorem dX6_place_29 : decode cX6_place 29 = .ok (.if_icmp .gt 48, 3) := by decide +kernel
theorem dX6_place_32 : decode cX6_place 32 = .ok (.aload_n 0, 1) := by decide +kernel
theorem dX6_place_33 : decode cX6_place 33 = .ok (.getfield 10, 3) := by decide +kernel
theorem dX6_place_36 : decode cX6_place 36 = .ok (.iload 4, 2) := by decide +kernel
theorem dX6_place_38 : decode cX6_place 38 = .ok (.iload 5, 2) := by decide +kernel
theorem dX6_place_40 : decode cX6_place 40 = .ok (.iload_n 1, 1) := by decide +kernel
theorem dX6_place_41 : decode cX6_place 41 = .ok (.invokevirtual 278, 3) := by decide +kernel
theorem dX6_place_44 : decode cX6_place 44 = .ok (.ifCond .eq 27, 3) := by decide +kernel
theorem dX6_place_47 : decode cX6_place 47 = .ok (.iload_n 3, 1) := by decide +kernel
theorem dX6_place_48 : decode cX6_place 48 = .ok (.iload_n 2, 1) := by decide +kernel
theorem dX6_place_49 : decode cX6_place 49 = .ok (.if_icmp .ne 19, 3) := by decide +kernel
theorem dX6_place_52 : decode cX6_place 52 = .ok (.sipush 1000, 3) := by decide +kernel
theorem dX6_place_55 : decode cX6_place 55 = .ok (.iload 4, 2) := by decide +kernel
theorem dX6_place_57 : decode cX6_place 57 = .ok (.bipush 60, 2) := by decide +kernel
theorem dX6_place_59 : decode cX6_place 59 = .ok (.iadd, 1) := by decide +kernel
theorem dX6_place_60 : decode cX6_place 60 = .ok (.imul, 1) := by decide +kernel
theorem dX6_place_61 : decode cX6_place 61 = .ok (.iload 5, 2) := by decide +kernel
theorem dX6_place_63 : decode cX6_place 63 = .ok (.iadd, 1) := by decide +kernel
theorem dX6_place_64 : decode cX6_place 64 = .ok (.bipush 60, 2) := by decide +kernel
theorem dX6_place_66 : decode cX6_place 66 = .ok (.iadd, 1) := by decide +kernel
theorem dX6_place_67 : decode cX6_place 67 = .ok (.ireturn, 1) := by decide +kernel
theorem dX6_place_68 : decode cX6_place 68 = .ok (.iinc 3 1, 3) := by decide +kernel
theorem dX6_place_71 : decode cX6_place 71 = .ok (.iinc 5 1, 3) := by decide +kernel
theorem dX6_place_74 : decode cX6_place 74 = .ok (.goto (-49), 3) := by decide +kernel
theorem dX6_place_77 : decode cX6_place 77 = .ok (.iinc 4 1, 3) := by decide +kernel
theorem dX6_place_80 : decode cX6_place 80 = .ok (.goto (-66), 3) := by decide +kernel
theorem dX6_place_83 : decode cX6_place 83 = .ok (.iconst (-1), 1) := by decide +kernel
theorem dX6_place_84 : decode cX6_place 84 = .ok (.ireturn, 1) := by decide +kernel
set_option maxRecDepth 20000 in
theorem ggX6_ofJoint_X6_requireJoint : GoodIn wsX6_ofJoint wsX6_requireJoint := goodIn_ca (goodIn_r _ [11, 12, 13, 3, 14, 15, 16, 17, 18, 19, 37, 38, 39, 40, 41, 42, 43, 44, 45, 46, 47, 48] (by decide +kernel) (by decide +kernel)) (goodIn_sub (fun _ h => List.mem_cons_of_mem _ (List.mem_append_right _ h)) (by decide +kernel))
set_option maxRecDepth 20000 in
theorem gX6_ofJoint_X6_requireJoint : GoodIn wsX6_ofJoint (wsV RX6 66 RX6 yX6_requireJoint wsX6_requireJoint) := goodIn_app (goodIn_of _ (by decide +kernel)) ggX6_ofJoint_X6_requireJoint
set_option maxRecDepth 20000 in
theorem ggX6_ofJoint_X3_endingAt : GoodIn wsX6_ofJoint wsX3_endingAt := goodIn_r _ [24, 25, 26, 27, 28, 23, 29, 30, 31, 32, 33, 34, 35, 36, 49, 50, 51, 52, 53, 54] (by decide +kernel) (by decide +kernel)
set_option maxRecDepth 20000 in
theorem gX6_ofJoint_X3_endingAt : GoodIn wsX6_ofJoint (wsV RX6 282 RX3 yX3_endingAt wsX3_endingAt) := goodIn_app (goodIn_of _ (by decide +kernel)) ggX6_ofJoint_X3_endingAt
theorem dX6_ofJoint_0 : decode cX6_ofJoint 0 = .ok (.aload_n 0, 1) := by decide +kernel
theorem dX6_ofJoint_1 : decode cX6_ofJoint 1 = .ok (.iload_n 1, 1) := by decide +kernel
theorem dX6_ofJoint_2 : decode cX6_ofJoint 2 = .ok (.invokevirtual 66, 3) := by decide +kernel
theorem dX6_ofJoint_5 : decode cX6_ofJoint 5 = .ok (.iload_n 2, 1) := by decide +kernel
theorem dX6_ofJoint_6 : decode cX6_ofJoint 6 = .ok (.tableswitch 55 0 2 #[26, 36, 46], 26) := by decide +kernel
theorem dX6_ofJoint_32 : decode cX6_ofJoint 32 = .ok (.aload_n 0, 1) := by decide +kernel
theorem dX6_ofJoint_33 : decode cX6_ofJoint 33 = .ok (.getfield 10, 3) := by decide +kernel
theorem dX6_ofJoint_36 : decode cX6_ofJoint 36 = .ok (.getfield 70, 3) := by decide +kernel
theorem dX6_ofJoint_39 : decode cX6_ofJoint 39 = .ok (.iload_n 1, 1) := by decide +kernel
theorem dX6_ofJoint_40 : decode cX6_ofJoint 40 = .ok (.iaload, 1) := by decide +kernel
theorem dX6_ofJoint_41 : decode cX6_ofJoint 41 = .ok (.ireturn, 1) := by decide +kernel
theorem dX6_ofJoint_42 : decode cX6_ofJoint 42 = .ok (.aload_n 0, 1) := by decide +kernel
theorem dX6_ofJoint_43 : decode cX6_ofJoint 43 = .ok (.getfield 10, 3) := by decide +kernel
theorem dX6_ofJoint_46 : decode cX6_ofJoint 46 = .ok (.getfield 74, 3) := by decide +kernel
theorem dX6_ofJoint_49 : decode cX6_ofJoint 49 = .ok (.iload_n 1, 1) := by decide +kernel
theorem dX6_ofJoint_50 : decode cX6_ofJoint 50 = .ok (.iaload, 1) := by decide +kernel
theorem dX6_ofJoint_51 : decode cX6_ofJoint 51 = .ok (.ireturn, 1) := by decide +kernel
theorem dX6_ofJoint_52 : decode cX6_ofJoint 52 = .ok (.aload_n 0, 1) := by decide +kernel
theorem dX6_ofJoint_53 : decode cX6_ofJoint 53 = .ok (.getfield 19, 3) := by decide +kernel
theorem dX6_ofJoint_56 : decode cX6_ofJoint 56 = .ok (.iload_n 1, 1) := by decide +kernel
theorem dX6_ofJoint_57 : decode cX6_ofJoint 57 = .ok (.invokevirtual 282, 3) := by decide +kernel
theorem dX6_ofJoint_60 : decode cX6_ofJoint 60 = .ok (.ireturn, 1) := by decide +kernel
theorem dX6_ofJoint_61 : decode cX6_ofJoint 61 = .ok (.new 84, 3) := by decide +kernel
theorem dX6_ofJoint_64 : decode cX6_ofJoint 64 = .ok (.dup, 1) := by decide +kernel
theorem dX6_ofJoint_65 : decode cX6_ofJoint 65 = .ok (.ldc_w 285, 3) := by decide +kernel
theorem dX6_ofJoint_68 : decode cX6_ofJoint 68 = .ok (.invokespecial 88, 3) := by decide +kernel
theorem dX6_ofJoint_71 : decode cX6_ofJoint 71 = .ok (.athrow, 1) := by decide +kernel
set_option maxRecDepth 20000 in
theorem ggX6_requireJoint_X1_has : GoodIn wsX6_requireJoint wsX1_has := goodIn_r _ [8, 9, 17, 18, 19, 20, 21] (by decide +kernel) (by decide +kernel)
set_option maxRecDepth 20000 in
theorem gX6_requireJoint_X1_has : GoodIn wsX6_requireJoint (wsV RX6 287 RX1 yX1_has wsX1_has) := goodIn_app (goodIn_of _ (by decide +kernel)) ggX6_requireJoint_X1_has
theorem dX6_requireJoint_0 : decode cX6_requireJoint 0 = .ok (.aload_n 0, 1) := by decide +kernel
theorem dX6_requireJoint_1 : decode cX6_requireJoint 1 = .ok (.getfield 10, 3) := by decide +kernel
theorem dX6_requireJoint_4 : decode cX6_requireJoint 4 = .ok (.iload_n 1, 1) := by decide +kernel
theorem dX6_requireJoint_5 : decode cX6_requireJoint 5 = .ok (.invokevirtual 287, 3) := by decide +kernel
theorem dX6_requireJoint_8 : decode cX6_requireJoint 8 = .ok (.ifCond .ne 14, 3) := by decide +kernel
theorem dX6_requireJoint_11 : decode cX6_requireJoint 11 = .ok (.new 288, 3) := by decide +kernel
theorem dX6_requireJoint_14 : decode cX6_requireJoint 14 = .ok (.dup, 1) := by decide +kernel
theorem dX6_requireJoint_15 : decode cX6_requireJoint 15 = .ok (.ldc_w 290, 3) := by decide +kernel
theorem dX6_requireJoint_18 : decode cX6_requireJoint 18 = .ok (.invokespecial 292, 3) := by decide +kernel
theorem dX6_requireJoint_21 : decode cX6_requireJoint 21 = .ok (.athrow, 1) := by decide +kernel
theorem dX6_requireJoint_22 : decode cX6_requireJoint 22 = .ok (.return_, 1) := by decide +kernel
set_option maxRecDepth 20000 in
theorem ggX6_requireMember_X3_has : GoodIn wsX6_requireMember wsX3_has := goodIn_r _ [8, 9, 10, 18, 19, 20, 21, 22, 23] (by decide +kernel) (by decide +kernel)
set_option maxRecDepth 20000 in
theorem gX6_requireMember_X3_has : GoodIn wsX6_requireMember (wsV RX6 236 RX3 yX3_has wsX3_has) := goodIn_app (goodIn_of _ (by decide +kernel)) ggX6_requireMember_X3_has
theorem dX6_requireMember_0 : decode cX6_requireMember 0 = .ok (.aload_n 0, 1) := by decide +kernel
theorem dX6_requireMember_1 : decode cX6_requireMember 1 = .ok (.getfield 19, 3) := by decide +kernel
theorem dX6_requireMember_4 : decode cX6_requireMember 4 = .ok (.iload_n 1, 1) := by decide +kernel
theorem dX6_requireMember_5 : decode cX6_requireMember 5 = .ok (.invokevirtual 236, 3) := by decide +kernel
theorem dX6_requireMember_8 : decode cX6_requireMember 8 = .ok (.ifCond .ne 14, 3) := by decide +kernel
theorem dX6_requireMember_11 : decode cX6_requireMember 11 = .ok (.new 288, 3) := by decide +kernel
theorem dX6_requireMember_14 : decode cX6_requireMember 14 = .ok (.dup, 1) := by decide +kernel
theorem dX6_requireMember_15 : decode cX6_requireMember 15 = .ok (.ldc_w 293, 3) := by decide +kernel
theorem dX6_requireMember_18 : decode cX6_requireMember 18 = .ok (.invokespecial 292, 3) := by decide +kernel
theorem dX6_requireMember_21 : decode cX6_requireMember 21 = .ok (.athrow, 1) := by decide +kernel
theorem dX6_requireMember_22 : decode cX6_requireMember 22 = .ok (.return_, 1) := by decide +kernel
theorem dX6_requireCount_0 : decode cX6_requireCount 0 = .ok (.iload_n 0, 1) := by decide +kernel
theorem dX6_requireCount_1 : decode cX6_requireCount 1 = .ok (.ifCond .ge 14, 3) := by decide +kernel
theorem dX6_requireCount_4 : decode cX6_requireCount 4 = .ok (.new 288, 3) := by decide +kernel
theorem dX6_requireCount_7 : decode cX6_requireCount 7 = .ok (.dup, 1) := by decide +kernel
theorem dX6_requireCount_8 : decode cX6_requireCount 8 = .ok (.ldc_w 295, 3) := by decide +kernel
theorem dX6_requireCount_11 : decode cX6_requireCount 11 = .ok (.invokespecial 292, 3) := by decide +kernel
theorem dX6_requireCount_14 : decode cX6_requireCount 14 = .ok (.athrow, 1) := by decide +kernel
theorem dX6_requireCount_15 : decode cX6_requireCount 15 = .ok (.return_, 1) := by decide +kernel
theorem dX6_requireTwo_0 : decode cX6_requireTwo 0 = .ok (.iload_n 0, 1) := by decide +kernel
theorem dX6_requireTwo_1 : decode cX6_requireTwo 1 = .ok (.iload_n 1, 1) := by decide +kernel
theorem dX6_requireTwo_2 : decode cX6_requireTwo 2 = .ok (.if_icmp .ne 14, 3) := by decide +kernel
theorem dX6_requireTwo_5 : decode cX6_requireTwo 5 = .ok (.new 84, 3) := by decide +kernel
theorem dX6_requireTwo_8 : decode cX6_requireTwo 8 = .ok (.dup, 1) := by decide +kernel
theorem dX6_requireTwo_9 : decode cX6_requireTwo 9 = .ok (.ldc_w 297, 3) := by decide +kernel
theorem dX6_requireTwo_12 : decode cX6_requireTwo 12 = .ok (.invokespecial 88, 3) := by decide +kernel
theorem dX6_requireTwo_15 : decode cX6_requireTwo 15 = .ok (.athrow, 1) := by decide +kernel
theorem dX6_requireTwo_16 : decode cX6_requireTwo 16 = .ok (.return_, 1) := by decide +kernel
theorem dX6_requirePoint_0 : decode cX6_requirePoint 0 = .ok (.iload_n 0, 1) := by decide +kernel
theorem dX6_requirePoint_1 : decode cX6_requirePoint 1 = .ok (.bipush (-50), 2) := by decide +kernel
theorem dX6_requirePoint_3 : decode cX6_requirePoint 3 = .ok (.if_icmp .lt 21, 3) := by decide +kernel
theorem dX6_requirePoint_6 : decode cX6_requirePoint 6 = .ok (.iload_n 0, 1) := by decide +kernel
theorem dX6_requirePoint_7 : decode cX6_requirePoint 7 = .ok (.bipush 50, 2) := by decide +kernel
theorem dX6_requirePoint_9 : decode cX6_requirePoint 9 = .ok (.if_icmp .gt 15, 3) := by decide +kernel
theorem dX6_requirePoint_12 : decode cX6_requirePoint 12 = .ok (.iload_n 1, 1) := by decide +kernel
theorem dX6_requirePoint_13 : decode cX6_requirePoint 13 = .ok (.bipush (-50), 2) := by decide +kernel
theorem dX6_requirePoint_15 : decode cX6_requirePoint 15 = .ok (.if_icmp .lt 9, 3) := by decide +kernel
theorem dX6_requirePoint_18 : decode cX6_requirePoint 18 = .ok (.iload_n 1, 1) := by decide +kernel
theorem dX6_requirePoint_19 : decode cX6_requirePoint 19 = .ok (.bipush 50, 2) := by decide +kernel
theorem dX6_requirePoint_21 : decode cX6_requirePoint 21 = .ok (.if_icmp .le 14, 3) := by decide +kernel
theorem dX6_requirePoint_24 : decode cX6_requirePoint 24 = .ok (.new 84, 3) := by decide +kernel
theorem dX6_requirePoint_27 : decode cX6_requirePoint 27 = .ok (.dup, 1) := by decide +kernel
theorem dX6_requirePoint_28 : decode cX6_requirePoint 28 = .ok (.ldc_w 299, 3) := by decide +kernel
theorem dX6_requirePoint_31 : decode cX6_requirePoint 31 = .ok (.invokespecial 88, 3) := by decide +kernel
theorem dX6_requirePoint_34 : decode cX6_requirePoint 34 = .ok (.athrow, 1) := by decide +kernel
theorem dX6_requirePoint_35 : decode cX6_requirePoint 35 = .ok (.return_, 1) := by decide +kernel
theorem dX6_requireRoomForJoint_0 : decode cX6_requireRoomForJoint 0 = .ok (.aload_n 0, 1) := by decide +kernel
theorem dX6_requireRoomForJoint_1 : decode cX6_requireRoomForJoint 1 = .ok (.getfield 10, 3) := by decide +kernel
theorem dX6_requireRoomForJoint_4 : decode cX6_requireRoomForJoint 4 = .ok (.getfield 155, 3) := by decide +kernel
theorem dX6_requireRoomForJoint_7 : decode cX6_requireRoomForJoint 7 = .ok (.bipush 10, 2) := by decide +kernel
theorem dX6_requireRoomForJoint_9 : decode cX6_requireRoomForJoint 9 = .ok (.if_icmp .lt 14, 3) := by decide +kernel
theorem dX6_requireRoomForJoint_12 : decode cX6_requireRoomForJoint 12 = .ok (.new 95, 3) := by decide +kernel
theorem dX6_requireRoomForJoint_15 : decode cX6_requireRoomForJoint 15 = .ok (.dup, 1) := by decide +kernel
theorem dX6_requireRoomForJoint_16 : decode cX6_requireRoomForJoint 16 = .ok (.ldc_w 301, 3) := by decide +kernel
theorem dX6_requireRoomForJoint_19 : decode cX6_requireRoomForJoint 19 = .ok (.invokespecial 99, 3) := by decide +kernel
theorem dX6_requireRoomForJoint_22 : decode cX6_requireRoomForJoint 22 = .ok (.athrow, 1) := by decide +kernel
theorem dX6_requireRoomForJoint_23 : decode cX6_requireRoomForJoint 23 = .ok (.return_, 1) := by decide +kernel
theorem dX6_requireRoomForMembers_0 : decode cX6_requireRoomForMembers 0 = .ok (.aload_n 0, 1) := by decide +kernel
theorem dX6_requireRoomForMembers_1 : decode cX6_requireRoomForMembers 1 = .ok (.getfield 19, 3) := by decide +kernel
theorem dX6_requireRoomForMembers_4 : decode cX6_requireRoomForMembers 4 = .ok (.getfield 235, 3) := by decide +kernel
theorem dX6_requireRoomForMembers_7 : decode cX6_requireRoomForMembers 7 = .ok (.bipush 40, 2) := by decide +kernel
theorem dX6_requireRoomForMembers_9 : decode cX6_requireRoomForMembers 9 = .ok (.iload_n 1, 1) := by decide +kernel
theorem dX6_requireRoomForMembers_10 : decode cX6_requireRoomForMembers 10 = .ok (.isub, 1) := by decide +kernel
theorem dX6_requireRoomForMembers_11 : decode cX6_requireRoomForMembers 11 = .ok (.if_icmp .le 14, 3) := by decide +kernel
theorem dX6_requireRoomForMembers_14 : decode cX6_requireRoomForMembers 14 = .ok (.new 95, 3) := by decide +kernel
theorem dX6_requireRoomForMembers_17 : decode cX6_requireRoomForMembers 17 = .ok (.dup, 1) := by decide +kernel
theorem dX6_requireRoomForMembers_18 : decode cX6_requireRoomForMembers 18 = .ok (.ldc_w 303, 3) := by decide +kernel
theorem dX6_requireRoomForMembers_21 : decode cX6_requireRoomForMembers 21 = .ok (.invokespecial 99, 3) := by decide +kernel
theorem dX6_requireRoomForMembers_24 : decode cX6_requireRoomForMembers 24 = .ok (.athrow, 1) := by decide +kernel
theorem dX6_requireRoomForMembers_25 : decode cX6_requireRoomForMembers 25 = .ok (.return_, 1) := by decide +kernel
theorem dX6_requireLink_0 : decode cX6_requireLink 0 = .ok (.iload_n 0, 1) := by decide +kernel
theorem dX6_requireLink_1 : decode cX6_requireLink 1 = .ok (.ifCond .lt 10, 3) := by decide +kernel
theorem dX6_requireLink_4 : decode cX6_requireLink 4 = .ok (.iload_n 0, 1) := by decide +kernel
theorem dX6_requireLink_5 : decode cX6_requireLink 5 = .ok (.ldc_w 305, 3) := by decide +kernel
theorem dX6_requireLink_8 : decode cX6_requireLink 8 = .ok (.if_icmp .le 14, 3) := by decide +kernel
theorem dX6_requireLink_11 : decode cX6_requireLink 11 = .ok (.new 84, 3) := by decide +kernel
theorem dX6_requireLink_14 : decode cX6_requireLink 14 = .ok (.dup, 1) := by decide +kernel
theorem dX6_requireLink_15 : decode cX6_requireLink 15 = .ok (.ldc_w 306, 3) := by decide +kernel
theorem dX6_requireLink_18 : decode cX6_requireLink 18 = .ok (.invokespecial 88, 3) := by decide +kernel
theorem dX6_requireLink_21 : decode cX6_requireLink 21 = .ok (.athrow, 1) := by decide +kernel
theorem dX6_requireLink_22 : decode cX6_requireLink 22 = .ok (.return_, 1) := by decide +kernel
theorem dX6_requireAngle_0 : decode cX6_requireAngle 0 = .ok (.iload_n 0, 1) := by decide +kernel
theorem dX6_requireAngle_1 : decode cX6_requireAngle 1 = .ok (.iconst 1, 1) := by decide +kernel
theorem dX6_requireAngle_2 : decode cX6_requireAngle 2 = .ok (.if_icmp .lt 10, 3) := by decide +kernel
theorem dX6_requireAngle_5 : decode cX6_requireAngle 5 = .ok (.iload_n 0, 1) := by decide +kernel
theorem dX6_requireAngle_6 : decode cX6_requireAngle 6 = .ok (.sipush 360, 3) := by decide +kernel
theorem dX6_requireAngle_9 : decode cX6_requireAngle 9 = .ok (.if_icmp .lt 14, 3) := by decide +kernel
theorem dX6_requireAngle_12 : decode cX6_requireAngle 12 = .ok (.new 84, 3) := by decide +kernel
theorem dX6_requireAngle_15 : decode cX6_requireAngle 15 = .ok (.dup, 1) := by decide +kernel
theorem dX6_requireAngle_16 : decode cX6_requireAngle 16 = .ok (.ldc_w 308, 3) := by decide +kernel
theorem dX6_requireAngle_19 : decode cX6_requireAngle 19 = .ok (.invokespecial 88, 3) := by decide +kernel
theorem dX6_requireAngle_22 : decode cX6_requireAngle 22 = .ok (.athrow, 1) := by decide +kernel
theorem dX6_requireAngle_23 : decode cX6_requireAngle 23 = .ok (.return_, 1) := by decide +kernel
theorem dX6_requireError_0 : decode cX6_requireError 0 = .ok (.iload_n 0, 1) := by decide +kernel
theorem dX6_requireError_1 : decode cX6_requireError 1 = .ok (.ifCond .lt 10, 3) := by decide +kernel
theorem dX6_requireError_4 : decode cX6_requireError 4 = .ok (.iload_n 0, 1) := by decide +kernel
theorem dX6_requireError_5 : decode cX6_requireError 5 = .ok (.sipush 5000, 3) := by decide +kernel
theorem dX6_requireError_8 : decode cX6_requireError 8 = .ok (.if_icmp .le 14, 3) := by decide +kernel
theorem dX6_requireError_11 : decode cX6_requireError 11 = .ok (.new 84, 3) := by decide +kernel
theorem dX6_requireError_14 : decode cX6_requireError 14 = .ok (.dup, 1) := by decide +kernel
theorem dX6_requireError_15 : decode cX6_requireError 15 = .ok (.ldc_w 310, 3) := by decide +kernel
theorem dX6_requireError_18 : decode cX6_requireError 18 = .ok (.invokespecial 88, 3) := by decide +kernel
theorem dX6_requireError_21 : decode cX6_requireError 21 = .ok (.athrow, 1) := by decide +kernel
theorem dX6_requireError_22 : decode cX6_requireError 22 = .ok (.return_, 1) := by decide +kernel
set_option maxRecDepth 20000 in
theorem ggX6_rankWithout_X6_writeRows : GoodIn wsX6_rankWithout wsX6_writeRows := goodIn_r _ [6, 7, 1, 8, 9, 10, 11, 12, 13, 14, 15, 16, 17, 18, 19, 20, 21, 22, 23, 24, 25, 26, 27, 28, 29, 30, 31, 32, 33, 34, 35, 36, 37, 38, 39, 40, 41, 42, 43, 44, 45, 46, 5, 47, 48, 49, 50, 51, 52, 53, 54, 55, 56, 57, 58, 59, 60, 61, 62, 63, 93, 94, 95, 96, 97, 98, 99, 100, 101, 102, 103, 104, 105, 106, 107, 108, 109, 110, 111, 112, 113] (by decide +kernel) (by decide +kernel)
set_option maxRecDepth 20000 in
theorem gX6_rankWithout_X6_writeRows : GoodIn wsX6_rankWithout (wsV RX6 131 RX6 yX6_writeRows wsX6_writeRows) := goodIn_app (goodIn_of _ (by decide +kernel)) ggX6_rankWithout_X6_writeRows
set_option maxRecDepth 20000 in
theorem ggX6_rankWithout_X0_reduce : GoodIn wsX6_rankWithout wsX0_reduce := goodIn_r _ [67, 42, 68, 69, 70, 71, 32, 72, 41, 43, 73, 74, 75, 76, 77, 78, 79, 80, 59, 81, 82, 83, 84, 85, 86, 87, 88, 89, 90, 91, 92, 110, 111, 112, 113] (by decide +kernel) (by decide +kernel)
set_option maxRecDepth 20000 in
theorem gX6_rankWithout_X0_reduce : GoodIn wsX6_rankWithout (wsV RX6 134 RX0 yX0_reduce wsX0_reduce) := goodIn_app (goodIn_of _ (by decide +kernel)) ggX6_rankWithout_X0_reduce
theorem dX6_rankWithout_0 : decode cX6_rankWithout 0 = .ok (.aload_n 0, 1) := by decide +kernel
theorem dX6_rankWithout_1 : decode cX6_rankWithout 1 = .ok (.iload_n 1, 1) := by decide +kernel
theorem dX6_rankWithout_2 : decode cX6_rankWithout 2 = .ok (.invokevirtual 131, 3) := by decide +kernel
theorem dX6_rankWithout_5 : decode cX6_rankWithout 5 = .ok (.aload_n 0, 1) := by decide +kernel
theorem dX6_rankWithout_6 : decode cX6_rankWithout 6 = .ok (.getfield 40, 3) := by decide +kernel
theorem dX6_rankWithout_9 : decode cX6_rankWithout 9 = .ok (.invokevirtual 134, 3) := by decide +kernel
theorem dX6_rankWithout_12 : decode cX6_rankWithout 12 = .ok (.ireturn, 1) := by decide +kernel
set_option maxRecDepth 20000 in
theorem ggX6_writeRows_X3_present : GoodIn wsX6_writeRows wsX3_present := goodIn_r _ [12, 13, 14, 15, 16, 11, 17, 18, 19, 20, 21, 22, 71, 72, 73, 74, 75, 76] (by decide +kernel) (by decide +kernel)
set_option maxRecDepth 20000 in
theorem gX6_writeRows_X3_present : GoodIn wsX6_writeRows (wsV RX6 112 RX3 yX3_present wsX3_present) := goodIn_app (goodIn_of _ (by decide +kernel)) ggX6_writeRows_X3_present
set_option maxRecDepth 20000 in
theorem ggX6_writeRows_X3_has : GoodIn wsX6_writeRows wsX3_has := goodIn_r _ [21, 13, 22, 71, 72, 73, 74, 75, 76] (by decide +kernel) (by decide +kernel)
set_option maxRecDepth 20000 in
theorem gX6_writeRows_X3_has : GoodIn wsX6_writeRows (wsV RX6 236 RX3 yX3_has wsX3_has) := goodIn_app (goodIn_of _ (by decide +kernel)) ggX6_writeRows_X3_has
set_option maxRecDepth 20000 in
theorem ggX6_writeRows_X0_begin : GoodIn wsX6_writeRows wsX0_begin := goodIn_r _ [28, 29, 30, 31, 32, 33, 34, 35, 36, 37, 38, 77, 78, 79, 80] (by decide +kernel) (by decide +kernel)
set_option maxRecDepth 20000 in
theorem gX6_writeRows_X0_begin : GoodIn wsX6_writeRows (wsV RX6 245 RX0 yX0_begin wsX0_begin) := goodIn_app (goodIn_of _ (by decide +kernel)) ggX6_writeRows_X0_begin
set_option maxRecDepth 20000 in
theorem ggX6_writeRows_X6_writeRow : GoodIn wsX6_writeRows wsX6_writeRow := goodIn_r _ [43, 3, 44, 45, 46, 47, 48, 49, 42, 50, 2, 51, 52, 53, 27, 54, 36, 37, 38, 55, 56, 57, 58, 59, 60, 61, 62, 63, 64, 65, 66, 67, 68, 69, 70, 77, 78, 79, 80] (by decide +kernel) (by decide +kernel)
set_option maxRecDepth 20000 in
theorem gX6_writeRows_X6_writeRow : GoodIn wsX6_writeRows (wsV RX6 312 RX6 yX6_writeRow wsX6_writeRow) := goodIn_app (goodIn_of _ (by decide +kernel)) ggX6_writeRows_X6_writeRow
theorem dX6_writeRows_0 : decode cX6_writeRows 0 = .ok (.aload_n 0, 1) := by decide +kernel
theorem dX6_writeRows_1 : decode cX6_writeRows 1 = .ok (.getfield 19, 3) := by decide +kernel
theorem dX6_writeRows_4 : decode cX6_writeRows 4 = .ok (.invokevirtual 112, 3) := by decide +kernel
theorem dX6_writeRows_7 : decode cX6_writeRows 7 = .ok (.aload_n 0, 1) := by decide +kernel
theorem dX6_writeRows_8 : decode cX6_writeRows 8 = .ok (.getfield 19, 3) := by decide +kernel
theorem dX6_writeRows_11 : decode cX6_writeRows 11 = .ok (.iload_n 1, 1) := by decide +kernel
theorem dX6_writeRows_12 : decode cX6_writeRows 12 = .ok (.invokevirtual 236, 3) := by decide +kernel
theorem dX6_writeRows_15 : decode cX6_writeRows 15 = .ok (.ifCond .eq 7, 3) := by decide +kernel
theorem dX6_writeRows_18 : decode cX6_writeRows 18 = .ok (.iconst 1, 1) := by decide +kernel
theorem dX6_writeRows_19 : decode cX6_writeRows 19 = .ok (.goto 4, 3) := by decide +kernel
theorem dX6_writeRows_22 : decode cX6_writeRows 22 = .ok (.iconst 0, 1) := by decide +kernel
theorem dX6_writeRows_23 : decode cX6_writeRows 23 = .ok (.isub, 1) := by decide +kernel
theorem dX6_writeRows_24 : decode cX6_writeRows 24 = .ok (.istore_n 2, 1) := by decide +kernel
theorem dX6_writeRows_25 : decode cX6_writeRows 25 = .ok (.aload_n 0, 1) := by decide +kernel
theorem dX6_writeRows_26 : decode cX6_writeRows 26 = .ok (.getfield 40, 3) := by decide +kernel
theorem dX6_writeRows_29 : decode cX6_writeRows 29 = .ok (.iload_n 2, 1) := by decide +kernel
theorem dX6_writeRows_30 : decode cX6_writeRows 30 = .ok (.aload_n 0, 1) := by decide +kernel
theorem dX6_writeRows_31 : decode cX6_writeRows 31 = .ok (.getfield 33, 3) := by decide +kernel
theorem dX6_writeRows_34 : decode cX6_writeRows 34 = .ok (.getfield 124, 3) := by decide +kernel
theorem dX6_writeRows_37 : decode cX6_writeRows 37 = .ok (.invokevirtual 245, 3) := by decide +kernel
theorem dX6_writeRows_40 : decode cX6_writeRows 40 = .ok (.iconst 0, 1) := by decide +kernel
theorem dX6_writeRows_41 : decode cX6_writeRows 41 = .ok (.istore_n 3, 1) := by decide +kernel
theorem dX6_writeRows_42 : decode cX6_writeRows 42 = .ok (.iconst 0, 1) := by decide +kernel
theorem dX6_writeRows_43 : decode cX6_writeRows 43 = .ok (.istore 4, 2) := by decide +kernel
theorem dX6_writeRows_45 : decode cX6_writeRows 45 = .ok (.iload 4, 2) := by decide +kernel
theorem dX6_writeRows_47 : decode cX6_writeRows 47 = .ok (.aload_n 0, 1) := by decide +kernel
theorem dX6_writeRows_48 : decode cX6_writeRows 48 = .ok (.getfield 19, 3) := by decide +kernel
theorem dX6_writeRows_51 : decode cX6_writeRows 51 = .ok (.getfield 235, 3) := by decide +kernel
theorem dX6_writeRows_54 : decode cX6_writeRows 54 = .ok (.if_icmp .ge 55, 3) := by decide +kernel
theorem dX6_writeRows_57 : decode cX6_writeRows 57 = .ok (.aload_n 0, 1) := by decide +kernel
theorem dX6_writeRows_58 : decode cX6_writeRows 58 = .ok (.getfield 19, 3) := by decide +kernel
theorem dX6_writeRows_61 : decode cX6_writeRows 61 = .ok (.iload 4, 2) := by decide +kernel
theorem dX6_writeRows_63 : decode cX6_writeRows 63 = .ok (.invokevirtual 236, 3) := by decide +kernel
theorem dX6_writeRows_66 : decode cX6_writeRows 66 = .ok (.ifCond .eq 37, 3) := by decide +kernel
theorem dX6_writeRows_69 : decode cX6_writeRows 69 = .ok (.iload 4, 2) := by decide +kernel
theorem dX6_writeRows_71 : decode cX6_writeRows 71 = .ok (.iload_n 1, 1) := by decide +kernel
theorem dX6_writeRows_72 : decode cX6_writeRows 72 = .ok (.if_icmp .eq 31, 3) := by decide +kernel
theorem dX6_writeRows_75 : decode cX6_writeRows 75 = .ok (.aload_n 0, 1) := by decide +kernel
theorem dX6_writeRows_76 : decode cX6_writeRows 76 = .ok (.iload_n 3, 1) := by decide +kernel
theorem dX6_writeRows_77 : decode cX6_writeRows 77 = .ok (.aload_n 0, 1) := by decide +kernel
theorem dX6_writeRows_78 : decode cX6_writeRows 78 = .ok (.getfield 19, 3) := by decide +kernel
theorem dX6_writeRows_81 : decode cX6_writeRows 81 = .ok (.getfield 168, 3) := by decide +kernel
theorem dX6_writeRows_84 : decode cX6_writeRows 84 = .ok (.iload 4, 2) := by decide +kernel
theorem dX6_writeRows_86 : decode cX6_writeRows 86 = .ok (.iaload, 1) := by decide +kernel
theorem dX6_writeRows_87 : decode cX6_writeRows 87 = .ok (.aload_n 0, 1) := by decide +kernel
theorem dX6_writeRows_88 : decode cX6_writeRows 88 = .ok (.getfield 19, 3) := by decide +kernel
theorem dX6_writeRows_91 : decode cX6_writeRows 91 = .ok (.getfield 171, 3) := by decide +kernel
theorem dX6_writeRows_94 : decode cX6_writeRows 94 = .ok (.iload 4, 2) := by decide +kernel
theorem dX6_writeRows_96 : decode cX6_writeRows 96 = .ok (.iaload, 1) := by decide +kernel
theorem dX6_writeRows_97 : decode cX6_writeRows 97 = .ok (.invokevirtual 312, 3) := by decide +kernel
theorem dX6_writeRows_100 : decode cX6_writeRows 100 = .ok (.iinc 3 1, 3) := by decide +kernel
theorem dX6_writeRows_103 : decode cX6_writeRows 103 = .ok (.iinc 4 1, 3) := by decide +kernel
theorem dX6_writeRows_106 : decode cX6_writeRows 106 = .ok (.goto (-61), 3) := by decide +kernel
theorem dX6_writeRows_109 : decode cX6_writeRows 109 = .ok (.return_, 1) := by decide +kernel
set_option maxRecDepth 20000 in
theorem ggX6_writeRow_X6_writeEnd : GoodIn wsX6_writeRow wsX6_writeEnd := goodIn_r _ [9, 10, 11, 12, 13, 14, 15, 16, 17, 18, 19, 20, 21, 22, 23, 24, 25, 26, 27, 28, 29, 30, 35, 36, 37, 38] (by decide +kernel) (by decide +kernel)
set_option maxRecDepth 20000 in
theorem gX6_writeRow_X6_writeEnd : GoodIn wsX6_writeRow (wsV RX6 317 RX6 yX6_writeEnd wsX6_writeEnd) := goodIn_app (goodIn_of _ (by decide +kernel)) ggX6_writeRow_X6_writeEnd
theorem dX6_writeRow_0 : decode cX6_writeRow 0 = .ok (.aload_n 0, 1) := by decide +kernel
theorem dX6_writeRow_1 : decode cX6_writeRow 1 = .ok (.getfield 33, 3) := by decide +kernel
theorem dX6_writeRow_4 : decode cX6_writeRow 4 = .ok (.getfield 315, 3) := by decide +kernel
theorem dX6_writeRow_7 : decode cX6_writeRow 7 = .ok (.iload_n 2, 1) := by decide +kernel
theorem dX6_writeRow_8 : decode cX6_writeRow 8 = .ok (.iaload, 1) := by decide +kernel
theorem dX6_writeRow_9 : decode cX6_writeRow 9 = .ok (.aload_n 0, 1) := by decide +kernel
theorem dX6_writeRow_10 : decode cX6_writeRow 10 = .ok (.getfield 33, 3) := by decide +kernel
theorem dX6_writeRow_13 : decode cX6_writeRow 13 = .ok (.getfield 315, 3) := by decide +kernel
theorem dX6_writeRow_16 : decode cX6_writeRow 16 = .ok (.iload_n 3, 1) := by decide +kernel
theorem dX6_writeRow_17 : decode cX6_writeRow 17 = .ok (.iaload, 1) := by decide +kernel
theorem dX6_writeRow_18 : decode cX6_writeRow 18 = .ok (.isub, 1) := by decide +kernel
theorem dX6_writeRow_19 : decode cX6_writeRow 19 = .ok (.istore 4, 2) := by decide +kernel
theorem dX6_writeRow_21 : decode cX6_writeRow 21 = .ok (.aload_n 0, 1) := by decide +kernel
theorem dX6_writeRow_22 : decode cX6_writeRow 22 = .ok (.getfield 33, 3) := by decide +kernel
theorem dX6_writeRow_25 : decode cX6_writeRow 25 = .ok (.getfield 316, 3) := by decide +kernel
theorem dX6_writeRow_28 : decode cX6_writeRow 28 = .ok (.iload_n 2, 1) := by decide +kernel
theorem dX6_writeRow_29 : decode cX6_writeRow 29 = .ok (.iaload, 1) := by decide +kernel
theorem dX6_writeRow_30 : decode cX6_writeRow 30 = .ok (.aload_n 0, 1) := by decide +kernel
theorem dX6_writeRow_31 : decode cX6_writeRow 31 = .ok (.getfield 33, 3) := by decide +kernel
theorem dX6_writeRow_34 : decode cX6_writeRow 34 = .ok (.getfield 316, 3) := by decide +kernel
theorem dX6_writeRow_37 : decode cX6_writeRow 37 = .ok (.iload_n 3, 1) := by decide +kernel
theorem dX6_writeRow_38 : decode cX6_writeRow 38 = .ok (.iaload, 1) := by decide +kernel
theorem dX6_writeRow_39 : decode cX6_writeRow 39 = .ok (.isub, 1) := by decide +kernel
theorem dX6_writeRow_40 : decode cX6_writeRow 40 = .ok (.istore 5, 2) := by decide +kernel
theorem dX6_writeRow_42 : decode cX6_writeRow 42 = .ok (.aload_n 0, 1) := by decide +kernel
theorem dX6_writeRow_43 : decode cX6_writeRow 43 = .ok (.iload_n 1, 1) := by decide +kernel
theorem dX6_writeRow_44 : decode cX6_writeRow 44 = .ok (.aload_n 0, 1) := by decide +kernel
theorem dX6_writeRow_45 : decode cX6_writeRow 45 = .ok (.getfield 33, 3) := by decide +kernel
theorem dX6_writeRow_48 : decode cX6_writeRow 48 = .ok (.getfield 140, 3) := by decide +kernel
theorem dX6_writeRow_51 : decode cX6_writeRow 51 = .ok (.iload_n 2, 1) := by decide +kernel
theorem dX6_writeRow_52 : decode cX6_writeRow 52 = .ok (.iaload, 1) := by decide +kernel
theorem dX6_writeRow_53 : decode cX6_writeRow 53 = .ok (.iload 4, 2) := by decide +kernel
theorem dX6_writeRow_55 : decode cX6_writeRow 55 = .ok (.iload 5, 2) := by decide +kernel
theorem dX6_writeRow_57 : decode cX6_writeRow 57 = .ok (.invokevirtual 317, 3) := by decide +kernel
theorem dX6_writeRow_60 : decode cX6_writeRow 60 = .ok (.aload_n 0, 1) := by decide +kernel
theorem dX6_writeRow_61 : decode cX6_writeRow 61 = .ok (.iload_n 1, 1) := by decide +kernel
theorem dX6_writeRow_62 : decode cX6_writeRow 62 = .ok (.aload_n 0, 1) := by decide +kernel
theorem dX6_writeRow_63 : decode cX6_writeRow 63 = .ok (.getfield 33, 3) := by decide +kernel
theorem dX6_writeRow_66 : decode cX6_writeRow 66 = .ok (.getfield 140, 3) := by decide +kernel
theorem dX6_writeRow_69 : decode cX6_writeRow 69 = .ok (.iload_n 3, 1) := by decide +kernel
theorem dX6_writeRow_70 : decode cX6_writeRow 70 = .ok (.iaload, 1) := by decide +kernel
theorem dX6_writeRow_71 : decode cX6_writeRow 71 = .ok (.iload 4, 2) := by decide +kernel
theorem dX6_writeRow_73 : decode cX6_writeRow 73 = .ok (.ineg, 1) := by decide +kernel
theorem dX6_writeRow_74 : decode cX6_writeRow 74 = .ok (.iload 5, 2) := by decide +kernel
theorem dX6_writeRow_76 : decode cX6_writeRow 76 = .ok (.ineg, 1) := by decide +kernel
theorem dX6_writeRow_77 : decode cX6_writeRow 77 = .ok (.invokevirtual 317, 3) := by decide +kernel
theorem dX6_writeRow_80 : decode cX6_writeRow 80 = .ok (.return_, 1) := by decide +kernel
set_option maxRecDepth 20000 in
theorem ggX6_writeEnd_X0_add : GoodIn wsX6_writeEnd wsX0_add := goodIn_r _ [6, 7, 8, 9, 10, 11, 12, 13, 14, 22, 23, 24, 25] (by decide +kernel) (by decide +kernel)
set_option maxRecDepth 20000 in
theorem gX6_writeEnd_X0_add : GoodIn wsX6_writeEnd (wsV RX6 248 RX0 yX0_add wsX0_add) := goodIn_app (goodIn_of _ (by decide +kernel)) ggX6_writeEnd_X0_add
theorem dX6_writeEnd_0 : decode cX6_writeEnd 0 = .ok (.iload_n 2, 1) := by decide +kernel
theorem dX6_writeEnd_1 : decode cX6_writeEnd 1 = .ok (.iconst (-1), 1) := by decide +kernel
theorem dX6_writeEnd_2 : decode cX6_writeEnd 2 = .ok (.if_icmp .eq 26, 3) := by decide +kernel
theorem dX6_writeEnd_5 : decode cX6_writeEnd 5 = .ok (.aload_n 0, 1) := by decide +kernel
theorem dX6_writeEnd_6 : decode cX6_writeEnd 6 = .ok (.getfield 40, 3) := by decide +kernel
theorem dX6_writeEnd_9 : decode cX6_writeEnd 9 = .ok (.iload_n 1, 1) := by decide +kernel
theorem dX6_writeEnd_10 : decode cX6_writeEnd 10 = .ok (.iload_n 2, 1) := by decide +kernel
theorem dX6_writeEnd_11 : decode cX6_writeEnd 11 = .ok (.iload_n 3, 1) := by decide +kernel
theorem dX6_writeEnd_12 : decode cX6_writeEnd 12 = .ok (.invokevirtual 248, 3) := by decide +kernel
theorem dX6_writeEnd_15 : decode cX6_writeEnd 15 = .ok (.aload_n 0, 1) := by decide +kernel
theorem dX6_writeEnd_16 : decode cX6_writeEnd 16 = .ok (.getfield 40, 3) := by decide +kernel
theorem dX6_writeEnd_19 : decode cX6_writeEnd 19 = .ok (.iload_n 1, 1) := by decide +kernel
theorem dX6_writeEnd_20 : decode cX6_writeEnd 20 = .ok (.iload_n 2, 1) := by decide +kernel
theorem dX6_writeEnd_21 : decode cX6_writeEnd 21 = .ok (.iconst 1, 1) := by decide +kernel
theorem dX6_writeEnd_22 : decode cX6_writeEnd 22 = .ok (.iadd, 1) := by decide +kernel
theorem dX6_writeEnd_23 : decode cX6_writeEnd 23 = .ok (.iload 4, 2) := by decide +kernel
theorem dX6_writeEnd_25 : decode cX6_writeEnd 25 = .ok (.invokevirtual 248, 3) := by decide +kernel
theorem dX6_writeEnd_28 : decode cX6_writeEnd 28 = .ok (.return_, 1) := by decide +kernel
set_option maxRecDepth 20000 in
theorem ggX6_keepWithout_X4_clear : GoodIn wsX6_keepWithout wsX4_clear := goodIn_r _ [11, 12, 75, 76, 77] (by decide +kernel) (by decide +kernel)
set_option maxRecDepth 20000 in
theorem gX6_keepWithout_X4_clear : GoodIn wsX6_keepWithout (wsV RX6 321 RX4 yX4_clear wsX4_clear) := goodIn_app (goodIn_of _ (by decide +kernel)) ggX6_keepWithout_X4_clear
set_option maxRecDepth 20000 in
theorem ggX6_keepWithout_X3_has : GoodIn wsX6_keepWithout wsX3_has := goodIn_r _ [17, 18, 19, 69, 70, 71, 72, 73, 74] (by decide +kernel) (by decide +kernel)
set_option maxRecDepth 20000 in
theorem gX6_keepWithout_X3_has : GoodIn wsX6_keepWithout (wsV RX6 236 RX3 yX3_has wsX3_has) := goodIn_app (goodIn_of _ (by decide +kernel)) ggX6_keepWithout_X3_has
set_option maxRecDepth 20000 in
theorem ggX6_keepWithout_X4_canCover : GoodIn wsX6_keepWithout wsX4_canCover := goodIn_r _ [23, 24, 25, 26, 10, 27, 28, 29, 30, 31, 12, 32, 33, 34, 35, 36, 37, 38, 39, 40, 41, 42, 43, 44, 45, 46, 47, 48, 49, 50, 75, 76, 77] (by decide +kernel) (by decide +kernel)
set_option maxRecDepth 20000 in
theorem gX6_keepWithout_X4_canCover : GoodIn wsX6_keepWithout (wsV RX6 324 RX4 yX4_canCover wsX4_canCover) := goodIn_app (goodIn_of _ (by decide +kernel)) ggX6_keepWithout_X4_canCover
set_option maxRecDepth 20000 in
theorem ggX6_keepWithout_X4_cover : GoodIn wsX6_keepWithout wsX4_cover := goodIn_r _ [54, 12, 75, 76, 77] (by decide +kernel) (by decide +kernel)
set_option maxRecDepth 20000 in
theorem gX6_keepWithout_X4_cover : GoodIn wsX6_keepWithout (wsV RX6 327 RX4 yX4_cover wsX4_cover) := goodIn_app (goodIn_of _ (by decide +kernel)) ggX6_keepWithout_X4_cover
set_option maxRecDepth 20000 in
theorem ggX6_keepWithout_J13_bitCount_95d88 : GoodIn wsX6_keepWithout wsJ13_bitCount_95d88 := goodIn_r _ [58, 59, 60, 61] (by decide +kernel) (by decide +kernel)
set_option maxRecDepth 20000 in
theorem gX6_keepWithout_J13_bitCount_95d88 : GoodIn wsX6_keepWithout (va_wsS RX6 330 yJ13_bitCount_95d88 wsJ13_bitCount_95d88) := goodIn_app (goodIn_of _ (by decide +kernel)) ggX6_keepWithout_J13_bitCount_95d88
theorem dX6_keepWithout_0 : decode cX6_keepWithout 0 = .ok (.aload_n 0, 1) := by decide +kernel
theorem dX6_keepWithout_1 : decode cX6_keepWithout 1 = .ok (.getfield 47, 3) := by decide +kernel
theorem dX6_keepWithout_4 : decode cX6_keepWithout 4 = .ok (.invokevirtual 321, 3) := by decide +kernel
theorem dX6_keepWithout_7 : decode cX6_keepWithout 7 = .ok (.aload_n 0, 1) := by decide +kernel
theorem dX6_keepWithout_8 : decode cX6_keepWithout 8 = .ok (.lconst 0, 1) := by decide +kernel
theorem dX6_keepWithout_9 : decode cX6_keepWithout 9 = .ok (.putfield 51, 3) := by decide +kernel
theorem dX6_keepWithout_12 : decode cX6_keepWithout 12 = .ok (.iconst 0, 1) := by decide +kernel
theorem dX6_keepWithout_13 : decode cX6_keepWithout 13 = .ok (.istore_n 2, 1) := by decide +kernel
theorem dX6_keepWithout_14 : decode cX6_keepWithout 14 = .ok (.iload_n 2, 1) := by decide +kernel
theorem dX6_keepWithout_15 : decode cX6_keepWithout 15 = .ok (.aload_n 0, 1) := by decide +kernel
theorem dX6_keepWithout_16 : decode cX6_keepWithout 16 = .ok (.getfield 19, 3) := by decide +kernel
theorem dX6_keepWithout_19 : decode cX6_keepWithout 19 = .ok (.getfield 235, 3) := by decide +kernel
theorem dX6_keepWithout_22 : decode cX6_keepWithout 22 = .ok (.if_icmp .ge 90, 3) := by decide +kernel
theorem dX6_keepWithout_25 : decode cX6_keepWithout 25 = .ok (.aload_n 0, 1) := by decide +kernel
theorem dX6_keepWithout_26 : decode cX6_keepWithout 26 = .ok (.getfield 19, 3) := by decide +kernel
theorem dX6_keepWithout_29 : decode cX6_keepWithout 29 = .ok (.iload_n 2, 1) := by decide +kernel
theorem dX6_keepWithout_30 : decode cX6_keepWithout 30 = .ok (.invokevirtual 236, 3) := by decide +kernel
theorem dX6_keepWithout_33 : decode cX6_keepWithout 33 = .ok (.ifCond .eq 73, 3) := by decide +kernel
theorem dX6_keepWithout_36 : decode cX6_keepWithout 36 = .ok (.iload_n 2, 1) := by decide +kernel
theorem dX6_keepWithout_37 : decode cX6_keepWithout 37 = .ok (.iload_n 1, 1) := by decide +kernel
theorem dX6_keepWithout_38 : decode cX6_keepWithout 38 = .ok (.if_icmp .eq 68, 3) := by decide +kernel
theorem dX6_keepWithout_41 : decode cX6_keepWithout 41 = .ok (.aload_n 0, 1) := by decide +kernel
theorem dX6_keepWithout_42 : decode cX6_keepWithout 42 = .ok (.getfield 47, 3) := by decide +kernel
theorem dX6_keepWithout_45 : decode cX6_keepWithout 45 = .ok (.aload_n 0, 1) := by decide +kernel
theorem dX6_keepWithout_46 : decode cX6_keepWithout 46 = .ok (.getfield 19, 3) := by decide +kernel
theorem dX6_keepWithout_49 : decode cX6_keepWithout 49 = .ok (.getfield 168, 3) := by decide +kernel
theorem dX6_keepWithout_52 : decode cX6_keepWithout 52 = .ok (.iload_n 2, 1) := by decide +kernel
theorem dX6_keepWithout_53 : decode cX6_keepWithout 53 = .ok (.iaload, 1) := by decide +kernel
theorem dX6_keepWithout_54 : decode cX6_keepWithout 54 = .ok (.aload_n 0, 1) := by decide +kernel
theorem dX6_keepWithout_55 : decode cX6_keepWithout 55 = .ok (.getfield 19, 3) := by decide +kernel
theorem dX6_keepWithout_58 : decode cX6_keepWithout 58 = .ok (.getfield 171, 3) := by decide +kernel
theorem dX6_keepWithout_61 : decode cX6_keepWithout 61 = .ok (.iload_n 2, 1) := by decide +kernel
theorem dX6_keepWithout_62 : decode cX6_keepWithout 62 = .ok (.iaload, 1) := by decide +kernel
theorem dX6_keepWithout_63 : decode cX6_keepWithout 63 = .ok (.invokevirtual 324, 3) := by decide +kernel
theorem dX6_keepWithout_66 : decode cX6_keepWithout 66 = .ok (.ifCond .eq 40, 3) := by decide +kernel
theorem dX6_keepWithout_69 : decode cX6_keepWithout 69 = .ok (.aload_n 0, 1) := by decide +kernel
theorem dX6_keepWithout_70 : decode cX6_keepWithout 70 = .ok (.getfield 47, 3) := by decide +kernel
theorem dX6_keepWithout_73 : decode cX6_keepWithout 73 = .ok (.aload_n 0, 1) := by decide +kernel
theorem dX6_keepWithout_74 : decode cX6_keepWithout 74 = .ok (.getfield 19, 3) := by decide +kernel
theorem dX6_keepWithout_77 : decode cX6_keepWithout 77 = .ok (.getfield 168, 3) := by decide +kernel
theorem dX6_keepWithout_80 : decode cX6_keepWithout 80 = .ok (.iload_n 2, 1) := by decide +kernel
theorem dX6_keepWithout_81 : decode cX6_keepWithout 81 = .ok (.iaload, 1) := by decide +kernel
theorem dX6_keepWithout_82 : decode cX6_keepWithout 82 = .ok (.aload_n 0, 1) := by decide +kernel
theorem dX6_keepWithout_83 : decode cX6_keepWithout 83 = .ok (.getfield 19, 3) := by decide +kernel
theorem dX6_keepWithout_86 : decode cX6_keepWithout 86 = .ok (.getfield 171, 3) := by decide +kernel
theorem dX6_keepWithout_89 : decode cX6_keepWithout 89 = .ok (.iload_n 2, 1) := by decide +kernel
theorem dX6_keepWithout_90 : decode cX6_keepWithout 90 = .ok (.iaload, 1) := by decide +kernel
theorem dX6_keepWithout_91 : decode cX6_keepWithout 91 = .ok (.invokevirtual 327, 3) := by decide +kernel
theorem dX6_keepWithout_94 : decode cX6_keepWithout 94 = .ok (.aload_n 0, 1) := by decide +kernel
theorem dX6_keepWithout_95 : decode cX6_keepWithout 95 = .ok (.dup, 1) := by decide +kernel
theorem dX6_keepWithout_96 : decode cX6_keepWithout 96 = .ok (.getfield 51, 3) := by decide +kernel
theorem dX6_keepWithout_99 : decode cX6_keepWithout 99 = .ok (.lconst 1, 1) := by decide +kernel
theorem dX6_keepWithout_100 : decode cX6_keepWithout 100 = .ok (.iload_n 2, 1) := by decide +kernel
theorem dX6_keepWithout_101 : decode cX6_keepWithout 101 = .ok (.lshl, 1) := by decide +kernel
theorem dX6_keepWithout_102 : decode cX6_keepWithout 102 = .ok (.lor, 1) := by decide +kernel
theorem dX6_keepWithout_103 : decode cX6_keepWithout 103 = .ok (.putfield 51, 3) := by decide +kernel
theorem dX6_keepWithout_106 : decode cX6_keepWithout 106 = .ok (.iinc 2 1, 3) := by decide +kernel
theorem dX6_keepWithout_109 : decode cX6_keepWithout 109 = .ok (.goto (-95), 3) := by decide +kernel
theorem dX6_keepWithout_112 : decode cX6_keepWithout 112 = .ok (.aload_n 0, 1) := by decide +kernel
theorem dX6_keepWithout_113 : decode cX6_keepWithout 113 = .ok (.getfield 51, 3) := by decide +kernel
theorem dX6_keepWithout_116 : decode cX6_keepWithout 116 = .ok (.invokestatic 330, 3) := by decide +kernel
theorem dX6_keepWithout_119 : decode cX6_keepWithout 119 = .ok (.ireturn, 1) := by decide +kernel
set_option maxRecDepth 20000 in
theorem ggX6_isFirm_X4_canCover : GoodIn wsX6_isFirm wsX4_canCover := goodIn_r _ [6, 7, 8, 9, 5, 10, 11, 12, 13, 14, 15, 16, 17, 18, 19, 20, 21, 22, 23, 24, 25, 26, 27, 28, 29, 30, 31, 32, 33, 34, 42, 43, 44] (by decide +kernel) (by decide +kernel)
set_option maxRecDepth 20000 in
theorem gX6_isFirm_X4_canCover : GoodIn wsX6_isFirm (wsV RX6 324 RX4 yX4_canCover wsX4_canCover) := goodIn_app (goodIn_of _ (by decide +kernel)) ggX6_isFirm_X4_canCover
theorem dX6_isFirm_0 : decode cX6_isFirm 0 = .ok (.aload_n 0, 1) := by decide +kernel
theorem dX6_isFirm_1 : decode cX6_isFirm 1 = .ok (.getfield 47, 3) := by decide +kernel
theorem dX6_isFirm_4 : decode cX6_isFirm 4 = .ok (.iload_n 1, 1) := by decide +kernel
theorem dX6_isFirm_5 : decode cX6_isFirm 5 = .ok (.iload_n 2, 1) := by decide +kernel
theorem dX6_isFirm_6 : decode cX6_isFirm 6 = .ok (.invokevirtual 324, 3) := by decide +kernel
theorem dX6_isFirm_9 : decode cX6_isFirm 9 = .ok (.ifCond .ne 7, 3) := by decide +kernel
theorem dX6_isFirm_12 : decode cX6_isFirm 12 = .ok (.iconst 1, 1) := by decide +kernel
theorem dX6_isFirm_13 : decode cX6_isFirm 13 = .ok (.goto 4, 3) := by decide +kernel
theorem dX6_isFirm_16 : decode cX6_isFirm 16 = .ok (.iconst 0, 1) := by decide +kernel
theorem dX6_isFirm_17 : decode cX6_isFirm 17 = .ok (.ireturn, 1) := by decide +kernel
theorem dX6_rigidCount_0 : decode cX6_rigidCount 0 = .ok (.iconst 2, 1) := by decide +kernel
theorem dX6_rigidCount_1 : decode cX6_rigidCount 1 = .ok (.aload_n 0, 1) := by decide +kernel
theorem dX6_rigidCount_2 : decode cX6_rigidCount 2 = .ok (.getfield 10, 3) := by decide +kernel
theorem dX6_rigidCount_5 : decode cX6_rigidCount 5 = .ok (.getfield 155, 3) := by decide +kernel
theorem dX6_rigidCount_8 : decode cX6_rigidCount 8 = .ok (.imul, 1) := by decide +kernel
theorem dX6_rigidCount_9 : decode cX6_rigidCount 9 = .ok (.iconst 3, 1) := by decide +kernel
theorem dX6_rigidCount_10 : decode cX6_rigidCount 10 = .ok (.isub, 1) := by decide +kernel
theorem dX6_rigidCount_11 : decode cX6_rigidCount 11 = .ok (.ireturn, 1) := by decide +kernel
set_option maxRecDepth 20000 in
theorem ggX6_isRigidWithoutEachOf_X6_hasBit : GoodIn wsX6_isRigidWithoutEachOf wsX6_hasBit := goodIn_r _ [6] (by decide +kernel) (by decide +kernel)
set_option maxRecDepth 20000 in
theorem gX6_isRigidWithoutEachOf_X6_hasBit : GoodIn wsX6_isRigidWithoutEachOf (va_wsS RX6 164 yX6_hasBit wsX6_hasBit) := goodIn_app (goodIn_of _ (by decide +kernel)) ggX6_isRigidWithoutEachOf_X6_hasBit
set_option maxRecDepth 20000 in
theorem ggX6_isRigidWithoutEachOf_X6_keepWithout : GoodIn wsX6_isRigidWithoutEachOf wsX6_keepWithout := goodIn_r _ [10, 11, 12, 1, 2, 13, 14, 15, 16, 17, 18, 19, 20, 21, 22, 23, 24, 25, 26, 27, 28, 29, 30, 31, 32, 33, 34, 35, 36, 37, 38, 39, 40, 41, 42, 43, 44, 45, 46, 5, 47, 4, 6, 48, 49, 50, 51, 52, 53, 54, 55, 56, 57, 58, 59, 60, 61, 62, 63, 64, 65, 66, 73, 74, 75, 76, 77, 78, 79, 80, 81, 82, 83, 84, 85, 86, 87, 88] (by decide +kernel) (by decide +kernel)
set_option maxRecDepth 20000 in
theorem gX6_isRigidWithoutEachOf_X6_keepWithout : GoodIn wsX6_isRigidWithoutEachOf (wsV RX6 161 RX6 yX6_keepWithout wsX6_keepWithout) := goodIn_app (goodIn_of _ (by decide +kernel)) ggX6_isRigidWithoutEachOf_X6_keepWithout
set_option maxRecDepth 20000 in
theorem ggX6_isRigidWithoutEachOf_X6_rigidCount : GoodIn wsX6_isRigidWithoutEachOf wsX6_rigidCount := goodIn_r _ [70, 71, 72, 73, 74, 75, 76, 77, 78, 79, 89, 90, 91, 92, 93] (by decide +kernel) (by decide +kernel)
set_option maxRecDepth 20000 in
theorem gX6_isRigidWithoutEachOf_X6_rigidCount : GoodIn wsX6_isRigidWithoutEachOf (wsV RX6 180 RX6 yX6_rigidCount wsX6_rigidCount) := goodIn_app (goodIn_of _ (by decide +kernel)) ggX6_isRigidWithoutEachOf_X6_rigidCount
theorem dX6_isRigidWithoutEachOf_0 : decode cX6_isRigidWithoutEachOf 0 = .ok (.iconst 0, 1) := by decide +kernel
theorem dX6_isRigidWithoutEachOf_1 : decode cX6_isRigidWithoutEachOf 1 = .ok (.istore_n 3, 1) := by decide +kernel
theorem dX6_isRigidWithoutEachOf_2 : decode cX6_isRigidWithoutEachOf 2 = .ok (.iload_n 3, 1) := by decide +kernel
theorem dX6_isRigidWithoutEachOf_3 : decode cX6_isRigidWithoutEachOf 3 = .ok (.aload_n 0, 1) := by decide +kernel
theorem dX6_isRigidWithoutEachOf_4 : decode cX6_isRigidWithoutEachOf 4 = .ok (.getfield 19, 3) := by decide +kernel
theorem dX6_isRigidWithoutEachOf_7 : decode cX6_isRigidWithoutEachOf 7 = .ok (.getfield 235, 3) := by decide +kernel
theorem dX6_isRigidWithoutEachOf_10 : decode cX6_isRigidWithoutEachOf 10 = .ok (.if_icmp .ge 31, 3) := by decide +kernel
theorem dX6_isRigidWithoutEachOf_13 : decode cX6_isRigidWithoutEachOf 13 = .ok (.lload_n 1, 1) := by decide +kernel
theorem dX6_isRigidWithoutEachOf_14 : decode cX6_isRigidWithoutEachOf 14 = .ok (.iload_n 3, 1) := by decide +kernel
theorem dX6_isRigidWithoutEachOf_15 : decode cX6_isRigidWithoutEachOf 15 = .ok (.invokestatic 164, 3) := by decide +kernel
theorem dX6_isRigidWithoutEachOf_18 : decode cX6_isRigidWithoutEachOf 18 = .ok (.ifCond .eq 17, 3) := by decide +kernel
theorem dX6_isRigidWithoutEachOf_21 : decode cX6_isRigidWithoutEachOf 21 = .ok (.aload_n 0, 1) := by decide +kernel
theorem dX6_isRigidWithoutEachOf_22 : decode cX6_isRigidWithoutEachOf 22 = .ok (.iload_n 3, 1) := by decide +kernel
theorem dX6_isRigidWithoutEachOf_23 : decode cX6_isRigidWithoutEachOf 23 = .ok (.invokevirtual 161, 3) := by decide +kernel
theorem dX6_isRigidWithoutEachOf_26 : decode cX6_isRigidWithoutEachOf 26 = .ok (.aload_n 0, 1) := by decide +kernel
theorem dX6_isRigidWithoutEachOf_27 : decode cX6_isRigidWithoutEachOf 27 = .ok (.invokevirtual 180, 3) := by decide +kernel
theorem dX6_isRigidWithoutEachOf_30 : decode cX6_isRigidWithoutEachOf 30 = .ok (.if_icmp .ge 5, 3) := by decide +kernel
theorem dX6_isRigidWithoutEachOf_33 : decode cX6_isRigidWithoutEachOf 33 = .ok (.iconst 0, 1) := by decide +kernel
theorem dX6_isRigidWithoutEachOf_34 : decode cX6_isRigidWithoutEachOf 34 = .ok (.ireturn, 1) := by decide +kernel
theorem dX6_isRigidWithoutEachOf_35 : decode cX6_isRigidWithoutEachOf 35 = .ok (.iinc 3 1, 3) := by decide +kernel
theorem dX6_isRigidWithoutEachOf_38 : decode cX6_isRigidWithoutEachOf 38 = .ok (.goto (-36), 3) := by decide +kernel
theorem dX6_isRigidWithoutEachOf_41 : decode cX6_isRigidWithoutEachOf 41 = .ok (.iconst 1, 1) := by decide +kernel
theorem dX6_isRigidWithoutEachOf_42 : decode cX6_isRigidWithoutEachOf 42 = .ok (.ireturn, 1) := by decide +kernel
set_option maxRecDepth 20000 in
theorem ggX6_isComplete_X3_present : GoodIn wsX6_isComplete wsX3_present := goodIn_r _ [8, 9, 10, 11, 12, 7, 13, 14, 15, 16, 17, 18, 31, 32, 33, 34, 35, 36] (by decide +kernel) (by decide +kernel)
set_option maxRecDepth 20000 in
theorem gX6_isComplete_X3_present : GoodIn wsX6_isComplete (wsV RX6 112 RX3 yX3_present wsX3_present) := goodIn_app (goodIn_of _ (by decide +kernel)) ggX6_isComplete_X3_present
theorem dX6_isComplete_0 : decode cX6_isComplete 0 = .ok (.aload_n 0, 1) := by decide +kernel
theorem dX6_isComplete_1 : decode cX6_isComplete 1 = .ok (.getfield 19, 3) := by decide +kernel
theorem dX6_isComplete_4 : decode cX6_isComplete 4 = .ok (.invokevirtual 112, 3) := by decide +kernel
theorem dX6_isComplete_7 : decode cX6_isComplete 7 = .ok (.aload_n 0, 1) := by decide +kernel
theorem dX6_isComplete_8 : decode cX6_isComplete 8 = .ok (.getfield 10, 3) := by decide +kernel
theorem dX6_isComplete_11 : decode cX6_isComplete 11 = .ok (.getfield 155, 3) := by decide +kernel
theorem dX6_isComplete_14 : decode cX6_isComplete 14 = .ok (.aload_n 0, 1) := by decide +kernel
theorem dX6_isComplete_15 : decode cX6_isComplete 15 = .ok (.getfield 10, 3) := by decide +kernel
theorem dX6_isComplete_18 : decode cX6_isComplete 18 = .ok (.getfield 155, 3) := by decide +kernel
theorem dX6_isComplete_21 : decode cX6_isComplete 21 = .ok (.iconst 1, 1) := by decide +kernel
theorem dX6_isComplete_22 : decode cX6_isComplete 22 = .ok (.isub, 1) := by decide +kernel
theorem dX6_isComplete_23 : decode cX6_isComplete 23 = .ok (.imul, 1) := by decide +kernel
theorem dX6_isComplete_24 : decode cX6_isComplete 24 = .ok (.iconst 2, 1) := by decide +kernel
theorem dX6_isComplete_25 : decode cX6_isComplete 25 = .ok (.idiv, 1) := by decide +kernel
theorem dX6_isComplete_26 : decode cX6_isComplete 26 = .ok (.if_icmp .ne 7, 3) := by decide +kernel
theorem dX6_isComplete_29 : decode cX6_isComplete 29 = .ok (.iconst 1, 1) := by decide +kernel
theorem dX6_isComplete_30 : decode cX6_isComplete 30 = .ok (.goto 4, 3) := by decide +kernel
theorem dX6_isComplete_33 : decode cX6_isComplete 33 = .ok (.iconst 0, 1) := by decide +kernel
theorem dX6_isComplete_34 : decode cX6_isComplete 34 = .ok (.ireturn, 1) := by decide +kernel
set_option maxRecDepth 20000 in
theorem ggX6_hangsWithoutAnyTwo_X1_all : GoodIn wsX6_hangsWithoutAnyTwo wsX1_all := goodIn_r _ [7, 8, 38, 39, 40, 41, 42] (by decide +kernel) (by decide +kernel)
set_option maxRecDepth 20000 in
theorem gX6_hangsWithoutAnyTwo_X1_all : GoodIn wsX6_hangsWithoutAnyTwo (wsV RX6 335 RX1 yX1_all wsX1_all) := goodIn_app (goodIn_of _ (by decide +kernel)) ggX6_hangsWithoutAnyTwo_X1_all
set_option maxRecDepth 20000 in
theorem ggX6_hangsWithoutAnyTwo_X6_bit : GoodIn wsX6_hangsWithoutAnyTwo wsX6_bit := goodIn_r _ [12] (by decide +kernel) (by decide +kernel)
set_option maxRecDepth 20000 in
theorem gX6_hangsWithoutAnyTwo_X6_bit : GoodIn wsX6_hangsWithoutAnyTwo (va_wsS RX6 174 yX6_bit wsX6_bit) := goodIn_app (goodIn_of _ (by decide +kernel)) ggX6_hangsWithoutAnyTwo_X6_bit
set_option maxRecDepth 20000 in
theorem ggX6_hangsWithoutAnyTwo_X6_hangsTogether : GoodIn wsX6_hangsWithoutAnyTwo wsX6_hangsTogether := goodIn_r _ [16, 1, 2, 17, 18, 19, 20, 21, 22, 23, 24, 25, 10, 11, 12, 26, 27, 28, 29, 30, 31, 32, 33, 34, 35, 36, 37, 38, 39, 40, 41, 42, 43, 44, 45, 46, 47, 48] (by decide +kernel) (by decide +kernel)
set_option maxRecDepth 20000 in
theorem gX6_hangsWithoutAnyTwo_X6_hangsTogether : GoodIn wsX6_hangsWithoutAnyTwo (wsV RX6 338 RX6 yX6_hangsTogether wsX6_hangsTogether) := goodIn_app (goodIn_of _ (by decide +kernel)) ggX6_hangsWithoutAnyTwo_X6_hangsTogether
theorem dX6_hangsWithoutAnyTwo_0 : decode cX6_hangsWithoutAnyTwo 0 = .ok (.iconst 0, 1) := by decide +kernel
theorem dX6_hangsWithoutAnyTwo_1 : decode cX6_hangsWithoutAnyTwo 1 = .ok (.istore_n 1, 1) := by decide +kernel
theorem dX6_hangsWithoutAnyTwo_2 : decode cX6_hangsWithoutAnyTwo 2 = .ok (.iload_n 1, 1) := by decide +kernel
theorem dX6_hangsWithoutAnyTwo_3 : decode cX6_hangsWithoutAnyTwo 3 = .ok (.aload_n 0, 1) := by decide +kernel
theorem dX6_hangsWithoutAnyTwo_4 : decode cX6_hangsWithoutAnyTwo 4 = .ok (.getfield 10, 3) := by decide +kernel
theorem dX6_hangsWithoutAnyTwo_7 : decode cX6_hangsWithoutAnyTwo 7 = .ok (.getfield 155, 3) := by decide +kernel
theorem dX6_hangsWithoutAnyTwo_10 : decode cX6_hangsWithoutAnyTwo 10 = .ok (.if_icmp .ge 60, 3) := by decide +kernel
theorem dX6_hangsWithoutAnyTwo_13 : decode cX6_hangsWithoutAnyTwo 13 = .ok (.iload_n 1, 1) := by decide +kernel
theorem dX6_hangsWithoutAnyTwo_14 : decode cX6_hangsWithoutAnyTwo 14 = .ok (.iconst 1, 1) := by decide +kernel
theorem dX6_hangsWithoutAnyTwo_15 : decode cX6_hangsWithoutAnyTwo 15 = .ok (.iadd, 1) := by decide +kernel
theorem dX6_hangsWithoutAnyTwo_16 : decode cX6_hangsWithoutAnyTwo 16 = .ok (.istore_n 2, 1) := by decide +kernel
theorem dX6_hangsWithoutAnyTwo_17 : decode cX6_hangsWithoutAnyTwo 17 = .ok (.iload_n 2, 1) := by decide +kernel
theorem dX6_hangsWithoutAnyTwo_18 : decode cX6_hangsWithoutAnyTwo 18 = .ok (.aload_n 0, 1) := by decide +kernel
theorem dX6_hangsWithoutAnyTwo_19 : decode cX6_hangsWithoutAnyTwo 19 = .ok (.getfield 10, 3) := by decide +kernel
theorem dX6_hangsWithoutAnyTwo_22 : decode cX6_hangsWithoutAnyTwo 22 = .ok (.getfield 155, 3) := by decide +kernel
theorem dX6_hangsWithoutAnyTwo_25 : decode cX6_hangsWithoutAnyTwo 25 = .ok (.if_icmp .ge 39, 3) := by decide +kernel
theorem dX6_hangsWithoutAnyTwo_28 : decode cX6_hangsWithoutAnyTwo 28 = .ok (.aload_n 0, 1) := by decide +kernel
theorem dX6_hangsWithoutAnyTwo_29 : decode cX6_hangsWithoutAnyTwo 29 = .ok (.aload_n 0, 1) := by decide +kernel
theorem dX6_hangsWithoutAnyTwo_30 : decode cX6_hangsWithoutAnyTwo 30 = .ok (.getfield 10, 3) := by decide +kernel
theorem dX6_hangsWithoutAnyTwo_33 : decode cX6_hangsWithoutAnyTwo 33 = .ok (.invokevirtual 335, 3) := by decide +kernel
theorem dX6_hangsWithoutAnyTwo_36 : decode cX6_hangsWithoutAnyTwo 36 = .ok (.iload_n 1, 1) := by decide +kernel
theorem dX6_hangsWithoutAnyTwo_37 : decode cX6_hangsWithoutAnyTwo 37 = .ok (.invokestatic 174, 3) := by decide +kernel
theorem dX6_hangsWithoutAnyTwo_40 : decode cX6_hangsWithoutAnyTwo 40 = .ok (.iconst (-1), 1) := by decide +kernel
theorem dX6_hangsWithoutAnyTwo_41 : decode cX6_hangsWithoutAnyTwo 41 = .ok (.ixor, 1) := by decide +kernel
theorem dX6_hangsWithoutAnyTwo_42 : decode cX6_hangsWithoutAnyTwo 42 = .ok (.iand, 1) := by decide +kernel
theorem dX6_hangsWithoutAnyTwo_43 : decode cX6_hangsWithoutAnyTwo 43 = .ok (.iload_n 2, 1) := by decide +kernel
theorem dX6_hangsWithoutAnyTwo_44 : decode cX6_hangsWithoutAnyTwo 44 = .ok (.invokestatic 174, 3) := by decide +kernel
theorem dX6_hangsWithoutAnyTwo_47 : decode cX6_hangsWithoutAnyTwo 47 = .ok (.iconst (-1), 1) := by decide +kernel
theorem dX6_hangsWithoutAnyTwo_48 : decode cX6_hangsWithoutAnyTwo 48 = .ok (.ixor, 1) := by decide +kernel
theorem dX6_hangsWithoutAnyTwo_49 : decode cX6_hangsWithoutAnyTwo 49 = .ok (.iand, 1) := by decide +kernel
theorem dX6_hangsWithoutAnyTwo_50 : decode cX6_hangsWithoutAnyTwo 50 = .ok (.invokevirtual 338, 3) := by decide +kernel
theorem dX6_hangsWithoutAnyTwo_53 : decode cX6_hangsWithoutAnyTwo 53 = .ok (.ifCond .ne 5, 3) := by decide +kernel
theorem dX6_hangsWithoutAnyTwo_56 : decode cX6_hangsWithoutAnyTwo 56 = .ok (.iconst 0, 1) := by decide +kernel
theorem dX6_hangsWithoutAnyTwo_57 : decode cX6_hangsWithoutAnyTwo 57 = .ok (.ireturn, 1) := by decide +kernel
theorem dX6_hangsWithoutAnyTwo_58 : decode cX6_hangsWithoutAnyTwo 58 = .ok (.iinc 2 1, 3) := by decide +kernel
theorem dX6_hangsWithoutAnyTwo_61 : decode cX6_hangsWithoutAnyTwo 61 = .ok (.goto (-44), 3) := by decide +kernel
theorem dX6_hangsWithoutAnyTwo_64 : decode cX6_hangsWithoutAnyTwo 64 = .ok (.iinc 1 1, 3) := by decide +kernel
theorem dX6_hangsWithoutAnyTwo_67 : decode cX6_hangsWithoutAnyTwo 67 = .ok (.goto (-65), 3) := by decide +kernel
theorem dX6_hangsWithoutAnyTwo_70 : decode cX6_hangsWithoutAnyTwo 70 = .ok (.iconst 1, 1) := by decide +kernel
theorem dX6_hangsWithoutAnyTwo_71 : decode cX6_hangsWithoutAnyTwo 71 = .ok (.ireturn, 1) := by decide +kernel
set_option maxRecDepth 20000 in
theorem ggX6_hangsTogether_X3_spread : GoodIn wsX6_hangsTogether wsX3_spread := goodIn_r _ [8, 9, 10, 11, 12, 13, 14, 15, 16, 17, 7, 18, 19, 32, 33, 34, 35, 36, 37] (by decide +kernel) (by decide +kernel)
set_option maxRecDepth 20000 in
theorem gX6_hangsTogether_X3_spread : GoodIn wsX6_hangsTogether (wsV RX6 341 RX3 yX3_spread wsX3_spread) := goodIn_app (goodIn_of _ (by decide +kernel)) ggX6_hangsTogether_X3_spread
theorem dX6_hangsTogether_0 : decode cX6_hangsTogether 0 = .ok (.iload_n 1, 1) := by decide +kernel
theorem dX6_hangsTogether_1 : decode cX6_hangsTogether 1 = .ok (.iload_n 1, 1) := by decide +kernel
theorem dX6_hangsTogether_2 : decode cX6_hangsTogether 2 = .ok (.ineg, 1) := by decide +kernel
theorem dX6_hangsTogether_3 : decode cX6_hangsTogether 3 = .ok (.iand, 1) := by decide +kernel
theorem dX6_hangsTogether_4 : decode cX6_hangsTogether 4 = .ok (.istore_n 2, 1) := by decide +kernel
theorem dX6_hangsTogether_5 : decode cX6_hangsTogether 5 = .ok (.iconst 0, 1) := by decide +kernel
theorem dX6_hangsTogether_6 : decode cX6_hangsTogether 6 = .ok (.istore_n 3, 1) := by decide +kernel
theorem dX6_hangsTogether_7 : decode cX6_hangsTogether 7 = .ok (.iload_n 3, 1) := by decide +kernel
theorem dX6_hangsTogether_8 : decode cX6_hangsTogether 8 = .ok (.aload_n 0, 1) := by decide +kernel
theorem dX6_hangsTogether_9 : decode cX6_hangsTogether 9 = .ok (.getfield 10, 3) := by decide +kernel
theorem dX6_hangsTogether_12 : decode cX6_hangsTogether 12 = .ok (.getfield 155, 3) := by decide +kernel
theorem dX6_hangsTogether_15 : decode cX6_hangsTogether 15 = .ok (.if_icmp .ge 24, 3) := by decide +kernel
theorem dX6_hangsTogether_18 : decode cX6_hangsTogether 18 = .ok (.iload_n 2, 1) := by decide +kernel
theorem dX6_hangsTogether_19 : decode cX6_hangsTogether 19 = .ok (.iload_n 1, 1) := by decide +kernel
theorem dX6_hangsTogether_20 : decode cX6_hangsTogether 20 = .ok (.if_icmp .eq 19, 3) := by decide +kernel
theorem dX6_hangsTogether_23 : decode cX6_hangsTogether 23 = .ok (.aload_n 0, 1) := by decide +kernel
theorem dX6_hangsTogether_24 : decode cX6_hangsTogether 24 = .ok (.getfield 19, 3) := by decide +kernel
theorem dX6_hangsTogether_27 : decode cX6_hangsTogether 27 = .ok (.iload_n 2, 1) := by decide +kernel
theorem dX6_hangsTogether_28 : decode cX6_hangsTogether 28 = .ok (.iload_n 1, 1) := by decide +kernel
theorem dX6_hangsTogether_29 : decode cX6_hangsTogether 29 = .ok (.invokevirtual 341, 3) := by decide +kernel
theorem dX6_hangsTogether_32 : decode cX6_hangsTogether 32 = .ok (.istore_n 2, 1) := by decide +kernel
theorem dX6_hangsTogether_33 : decode cX6_hangsTogether 33 = .ok (.iinc 3 1, 3) := by decide +kernel
theorem dX6_hangsTogether_36 : decode cX6_hangsTogether 36 = .ok (.goto (-29), 3) := by decide +kernel
theorem dX6_hangsTogether_39 : decode cX6_hangsTogether 39 = .ok (.iload_n 2, 1) := by decide +kernel
theorem dX6_hangsTogether_40 : decode cX6_hangsTogether 40 = .ok (.iload_n 1, 1) := by decide +kernel
theorem dX6_hangsTogether_41 : decode cX6_hangsTogether 41 = .ok (.if_icmp .ne 7, 3) := by decide +kernel
theorem dX6_hangsTogether_44 : decode cX6_hangsTogether 44 = .ok (.iconst 1, 1) := by decide +kernel
theorem dX6_hangsTogether_45 : decode cX6_hangsTogether 45 = .ok (.goto 4, 3) := by decide +kernel
theorem dX6_hangsTogether_48 : decode cX6_hangsTogether 48 = .ok (.iconst 0, 1) := by decide +kernel
theorem dX6_hangsTogether_49 : decode cX6_hangsTogether 49 = .ok (.ireturn, 1) := by decide +kernel
theorem dX6_bit_0 : decode cX6_bit 0 = .ok (.iconst 1, 1) := by decide +kernel
theorem dX6_bit_1 : decode cX6_bit 1 = .ok (.iload_n 0, 1) := by decide +kernel
theorem dX6_bit_2 : decode cX6_bit 2 = .ok (.ishl, 1) := by decide +kernel
theorem dX6_bit_3 : decode cX6_bit 3 = .ok (.ireturn, 1) := by decide +kernel
theorem dX6_hasBit_0 : decode cX6_hasBit 0 = .ok (.lload_n 0, 1) := by decide +kernel
theorem dX6_hasBit_1 : decode cX6_hasBit 1 = .ok (.iload_n 2, 1) := by decide +kernel
theorem dX6_hasBit_2 : decode cX6_hasBit 2 = .ok (.lshr, 1) := by decide +kernel
theorem dX6_hasBit_3 : decode cX6_hasBit 3 = .ok (.lconst 1, 1) := by decide +kernel
theorem dX6_hasBit_4 : decode cX6_hasBit 4 = .ok (.land, 1) := by decide +kernel
theorem dX6_hasBit_5 : decode cX6_hasBit 5 = .ok (.lconst 1, 1) := by decide +kernel
theorem dX6_hasBit_6 : decode cX6_hasBit 6 = .ok (.lcmp, 1) := by decide +kernel
theorem dX6_hasBit_7 : decode cX6_hasBit 7 = .ok (.ifCond .ne 7, 3) := by decide +kernel
theorem dX6_hasBit_10 : decode cX6_hasBit 10 = .ok (.iconst 1, 1) := by decide +kernel
theorem dX6_hasBit_11 : decode cX6_hasBit 11 = .ok (.goto 4, 3) := by decide +kernel
theorem dX6_hasBit_14 : decode cX6_hasBit 14 = .ok (.iconst 0, 1) := by decide +kernel
theorem dX6_hasBit_15 : decode cX6_hasBit 15 = .ok (.ireturn, 1) := by decide +kernel
set_option maxRecDepth 20000 in
theorem ggX6_canBeUndone_X5_bars : GoodIn wsX6_canBeUndone wsX5_bars := goodIn_r _ [12, 13, 39, 40, 41, 42] (by decide +kernel) (by decide +kernel)
set_option maxRecDepth 20000 in
theorem gX6_canBeUndone_X5_bars : GoodIn wsX6_canBeUndone (wsV RX6 211 RX5 yX5_bars wsX5_bars) := goodIn_app (goodIn_of _ (by decide +kernel)) ggX6_canBeUndone_X5_bars
set_option maxRecDepth 20000 in
theorem ggX6_canBeUndone_X3_has : GoodIn wsX6_canBeUndone wsX3_has := goodIn_r _ [18, 19, 20, 48, 49, 50, 51, 52, 53] (by decide +kernel) (by decide +kernel)
set_option maxRecDepth 20000 in
theorem gX6_canBeUndone_X3_has : GoodIn wsX6_canBeUndone (wsV RX6 236 RX3 yX3_has wsX3_has) := goodIn_app (goodIn_of _ (by decide +kernel)) ggX6_canBeUndone_X3_has
set_option maxRecDepth 20000 in
theorem ggX6_canBeUndone_X3_endingAt : GoodIn wsX6_canBeUndone wsX3_endingAt := goodIn_r _ [24, 19, 25, 15, 16, 17, 18, 20, 26, 27, 28, 29, 30, 31, 48, 49, 50, 51, 52, 53] (by decide +kernel) (by decide +kernel)
set_option maxRecDepth 20000 in
theorem gX6_canBeUndone_X3_endingAt : GoodIn wsX6_canBeUndone (wsV RX6 282 RX3 yX3_endingAt wsX3_endingAt) := goodIn_app (goodIn_of _ (by decide +kernel)) ggX6_canBeUndone_X3_endingAt
theorem dX6_canBeUndone_0 : decode cX6_canBeUndone 0 = .ok (.aload_n 0, 1) := by decide +kernel
theorem dX6_canBeUndone_1 : decode cX6_canBeUndone 1 = .ok (.getfield 26, 3) := by decide +kernel
theorem dX6_canBeUndone_4 : decode cX6_canBeUndone 4 = .ok (.getfield 344, 3) := by decide +kernel
theorem dX6_canBeUndone_7 : decode cX6_canBeUndone 7 = .ok (.iload_n 1, 1) := by decide +kernel
theorem dX6_canBeUndone_8 : decode cX6_canBeUndone 8 = .ok (.iaload, 1) := by decide +kernel
theorem dX6_canBeUndone_9 : decode cX6_canBeUndone 9 = .ok (.istore_n 2, 1) := by decide +kernel
theorem dX6_canBeUndone_10 : decode cX6_canBeUndone 10 = .ok (.iload_n 2, 1) := by decide +kernel
theorem dX6_canBeUndone_11 : decode cX6_canBeUndone 11 = .ok (.aload_n 0, 1) := by decide +kernel
theorem dX6_canBeUndone_12 : decode cX6_canBeUndone 12 = .ok (.getfield 10, 3) := by decide +kernel
theorem dX6_canBeUndone_15 : decode cX6_canBeUndone 15 = .ok (.getfield 155, 3) := by decide +kernel
theorem dX6_canBeUndone_18 : decode cX6_canBeUndone 18 = .ok (.iconst 1, 1) := by decide +kernel
theorem dX6_canBeUndone_19 : decode cX6_canBeUndone 19 = .ok (.isub, 1) := by decide +kernel
theorem dX6_canBeUndone_20 : decode cX6_canBeUndone 20 = .ok (.if_icmp .ne 15, 3) := by decide +kernel
theorem dX6_canBeUndone_23 : decode cX6_canBeUndone 23 = .ok (.aload_n 0, 1) := by decide +kernel
theorem dX6_canBeUndone_24 : decode cX6_canBeUndone 24 = .ok (.getfield 10, 3) := by decide +kernel
theorem dX6_canBeUndone_27 : decode cX6_canBeUndone 27 = .ok (.getfield 77, 3) := by decide +kernel
theorem dX6_canBeUndone_30 : decode cX6_canBeUndone 30 = .ok (.iload_n 2, 1) := by decide +kernel
theorem dX6_canBeUndone_31 : decode cX6_canBeUndone 31 = .ok (.baload, 1) := by decide +kernel
theorem dX6_canBeUndone_32 : decode cX6_canBeUndone 32 = .ok (.ifCond .eq 5, 3) := by decide +kernel
theorem dX6_canBeUndone_35 : decode cX6_canBeUndone 35 = .ok (.iconst 0, 1) := by decide +kernel
theorem dX6_canBeUndone_36 : decode cX6_canBeUndone 36 = .ok (.ireturn, 1) := by decide +kernel
theorem dX6_canBeUndone_37 : decode cX6_canBeUndone 37 = .ok (.aload_n 0, 1) := by decide +kernel
theorem dX6_canBeUndone_38 : decode cX6_canBeUndone 38 = .ok (.getfield 26, 3) := by decide +kernel
theorem dX6_canBeUndone_41 : decode cX6_canBeUndone 41 = .ok (.iload_n 1, 1) := by decide +kernel
theorem dX6_canBeUndone_42 : decode cX6_canBeUndone 42 = .ok (.invokevirtual 211, 3) := by decide +kernel
theorem dX6_canBeUndone_45 : decode cX6_canBeUndone 45 = .ok (.istore_n 3, 1) := by decide +kernel
theorem dX6_canBeUndone_46 : decode cX6_canBeUndone 46 = .ok (.iconst 0, 1) := by decide +kernel
theorem dX6_canBeUndone_47 : decode cX6_canBeUndone 47 = .ok (.istore 4, 2) := by decide +kernel
theorem dX6_canBeUndone_49 : decode cX6_canBeUndone 49 = .ok (.iload 4, 2) := by decide +kernel
theorem dX6_canBeUndone_51 : decode cX6_canBeUndone 51 = .ok (.iload_n 3, 1) := by decide +kernel
theorem dX6_canBeUndone_52 : decode cX6_canBeUndone 52 = .ok (.if_icmp .ge 33, 3) := by decide +kernel
theorem dX6_canBeUndone_55 : decode cX6_canBeUndone 55 = .ok (.aload_n 0, 1) := by decide +kernel
theorem dX6_canBeUndone_56 : decode cX6_canBeUndone 56 = .ok (.getfield 19, 3) := by decide +kernel
theorem dX6_canBeUndone_59 : decode cX6_canBeUndone 59 = .ok (.aload_n 0, 1) := by decide +kernel
theorem dX6_canBeUndone_60 : decode cX6_canBeUndone 60 = .ok (.getfield 26, 3) := by decide +kernel
theorem dX6_canBeUndone_63 : decode cX6_canBeUndone 63 = .ok (.getfield 214, 3) := by decide +kernel
theorem dX6_canBeUndone_66 : decode cX6_canBeUndone 66 = .ok (.iload_n 1, 1) := by decide +kernel
theorem dX6_canBeUndone_67 : decode cX6_canBeUndone 67 = .ok (.iaload, 1) := by decide +kernel
theorem dX6_canBeUndone_68 : decode cX6_canBeUndone 68 = .ok (.iload 4, 2) := by decide +kernel
theorem dX6_canBeUndone_70 : decode cX6_canBeUndone 70 = .ok (.iadd, 1) := by decide +kernel
theorem dX6_canBeUndone_71 : decode cX6_canBeUndone 71 = .ok (.invokevirtual 236, 3) := by decide +kernel
theorem dX6_canBeUndone_74 : decode cX6_canBeUndone 74 = .ok (.ifCond .ne 5, 3) := by decide +kernel
theorem dX6_canBeUndone_77 : decode cX6_canBeUndone 77 = .ok (.iconst 0, 1) := by decide +kernel
theorem dX6_canBeUndone_78 : decode cX6_canBeUndone 78 = .ok (.ireturn, 1) := by decide +kernel
theorem dX6_canBeUndone_79 : decode cX6_canBeUndone 79 = .ok (.iinc 4 1, 3) := by decide +kernel
theorem dX6_canBeUndone_82 : decode cX6_canBeUndone 82 = .ok (.goto (-33), 3) := by decide +kernel
theorem dX6_canBeUndone_85 : decode cX6_canBeUndone 85 = .ok (.aload_n 0, 1) := by decide +kernel
theorem dX6_canBeUndone_86 : decode cX6_canBeUndone 86 = .ok (.getfield 19, 3) := by decide +kernel
theorem dX6_canBeUndone_89 : decode cX6_canBeUndone 89 = .ok (.iload_n 2, 1) := by decide +kernel
theorem dX6_canBeUndone_90 : decode cX6_canBeUndone 90 = .ok (.invokevirtual 282, 3) := by decide +kernel
theorem dX6_canBeUndone_93 : decode cX6_canBeUndone 93 = .ok (.iload_n 3, 1) := by decide +kernel
theorem dX6_canBeUndone_94 : decode cX6_canBeUndone 94 = .ok (.if_icmp .ne 7, 3) := by decide +kernel
theorem dX6_canBeUndone_97 : decode cX6_canBeUndone 97 = .ok (.iconst 1, 1) := by decide +kernel
theorem dX6_canBeUndone_98 : decode cX6_canBeUndone 98 = .ok (.goto 4, 3) := by decide +kernel
theorem dX6_canBeUndone_101 : decode cX6_canBeUndone 101 = .ok (.iconst 0, 1) := by decide +kernel
theorem dX6_canBeUndone_102 : decode cX6_canBeUndone 102 = .ok (.ireturn, 1) := by decide +kernel
set_option maxRecDepth 20000 in
theorem ggX6_bringBack_X3_join : GoodIn wsX6_bringBack wsX3_join := goodIn_r _ [9, 10, 11, 12, 13, 8, 14, 15, 16, 17, 18, 19, 20, 21, 29, 30, 31, 32, 33, 34] (by decide +kernel) (by decide +kernel)
set_option maxRecDepth 20000 in
theorem gX6_bringBack_X3_join : GoodIn wsX6_bringBack (wsV RX6 91 RX3 yX3_join wsX3_join) := goodIn_app (goodIn_of _ (by decide +kernel)) ggX6_bringBack_X3_join
theorem dX6_bringBack_0 : decode cX6_bringBack 0 = .ok (.iload_n 1, 1) := by decide +kernel
theorem dX6_bringBack_1 : decode cX6_bringBack 1 = .ok (.iconst (-1), 1) := by decide +kernel
theorem dX6_bringBack_2 : decode cX6_bringBack 2 = .ok (.if_icmp .eq 41, 3) := by decide +kernel
theorem dX6_bringBack_5 : decode cX6_bringBack 5 = .ok (.aload_n 0, 1) := by decide +kernel
theorem dX6_bringBack_6 : decode cX6_bringBack 6 = .ok (.getfield 19, 3) := by decide +kernel
theorem dX6_bringBack_9 : decode cX6_bringBack 9 = .ok (.aload_n 0, 1) := by decide +kernel
theorem dX6_bringBack_10 : decode cX6_bringBack 10 = .ok (.getfield 19, 3) := by decide +kernel
theorem dX6_bringBack_13 : decode cX6_bringBack 13 = .ok (.getfield 168, 3) := by decide +kernel
theorem dX6_bringBack_16 : decode cX6_bringBack 16 = .ok (.iload_n 1, 1) := by decide +kernel
theorem dX6_bringBack_17 : decode cX6_bringBack 17 = .ok (.iaload, 1) := by decide +kernel
theorem dX6_bringBack_18 : decode cX6_bringBack 18 = .ok (.aload_n 0, 1) := by decide +kernel
theorem dX6_bringBack_19 : decode cX6_bringBack 19 = .ok (.getfield 19, 3) := by decide +kernel
theorem dX6_bringBack_22 : decode cX6_bringBack 22 = .ok (.getfield 171, 3) := by decide +kernel
theorem dX6_bringBack_25 : decode cX6_bringBack 25 = .ok (.iload_n 1, 1) := by decide +kernel
theorem dX6_bringBack_26 : decode cX6_bringBack 26 = .ok (.iaload, 1) := by decide +kernel
theorem dX6_bringBack_27 : decode cX6_bringBack 27 = .ok (.invokevirtual 91, 3) := by decide +kernel
theorem dX6_bringBack_30 : decode cX6_bringBack 30 = .ok (.ifCond .ne 13, 3) := by decide +kernel
theorem dX6_bringBack_33 : decode cX6_bringBack 33 = .ok (.aload_n 0, 1) := by decide +kernel
theorem dX6_bringBack_34 : decode cX6_bringBack 34 = .ok (.getfield 19, 3) := by decide +kernel
theorem dX6_bringBack_37 : decode cX6_bringBack 37 = .ok (.getfield 109, 3) := by decide +kernel
theorem dX6_bringBack_40 : decode cX6_bringBack 40 = .ok (.iload_n 1, 1) := by decide +kernel
theorem dX6_bringBack_41 : decode cX6_bringBack 41 = .ok (.iconst 0, 1) := by decide +kernel
theorem dX6_bringBack_42 : decode cX6_bringBack 42 = .ok (.bastore, 1) := by decide +kernel
theorem dX6_bringBack_43 : decode cX6_bringBack 43 = .ok (.return_, 1) := by decide +kernel
set_option maxRecDepth 20000 in
theorem ggX6_isBalanced_X3_has : GoodIn wsX6_isBalanced wsX3_has := goodIn_r _ [13, 14, 15, 29, 30, 31, 32, 33, 34] (by decide +kernel) (by decide +kernel)
set_option maxRecDepth 20000 in
theorem gX6_isBalanced_X3_has : GoodIn wsX6_isBalanced (wsV RX6 236 RX3 yX3_has wsX3_has) := goodIn_app (goodIn_of _ (by decide +kernel)) ggX6_isBalanced_X3_has
set_option maxRecDepth 20000 in
theorem ggX6_isBalanced_X3_endsAt : GoodIn wsX6_isBalanced wsX3_endsAt := goodIn_r _ [19, 20, 21, 29, 30, 31, 32, 33, 34] (by decide +kernel) (by decide +kernel)
set_option maxRecDepth 20000 in
theorem gX6_isBalanced_X3_endsAt : GoodIn wsX6_isBalanced (wsV RX6 197 RX3 yX3_endsAt wsX3_endsAt) := goodIn_app (goodIn_of _ (by decide +kernel)) ggX6_isBalanced_X3_endsAt
theorem dX6_isBalanced_0 : decode cX6_isBalanced 0 = .ok (.iconst 0, 1) := by decide +kernel
theorem dX6_isBalanced_1 : decode cX6_isBalanced 1 = .ok (.istore_n 2, 1) := by decide +kernel
theorem dX6_isBalanced_2 : decode cX6_isBalanced 2 = .ok (.iconst 0, 1) := by decide +kernel
theorem dX6_isBalanced_3 : decode cX6_isBalanced 3 = .ok (.istore_n 3, 1) := by decide +kernel
theorem dX6_isBalanced_4 : decode cX6_isBalanced 4 = .ok (.iconst 0, 1) := by decide +kernel
theorem dX6_isBalanced_5 : decode cX6_isBalanced 5 = .ok (.istore 4, 2) := by decide +kernel
theorem dX6_isBalanced_7 : decode cX6_isBalanced 7 = .ok (.iload 4, 2) := by decide +kernel
theorem dX6_isBalanced_9 : decode cX6_isBalanced 9 = .ok (.aload_n 0, 1) := by decide +kernel
theorem dX6_isBalanced_10 : decode cX6_isBalanced 10 = .ok (.getfield 19, 3) := by decide +kernel
theorem dX6_isBalanced_13 : decode cX6_isBalanced 13 = .ok (.getfield 235, 3) := by decide +kernel
theorem dX6_isBalanced_16 : decode cX6_isBalanced 16 = .ok (.if_icmp .ge 141, 3) := by decide +kernel
theorem dX6_isBalanced_19 : decode cX6_isBalanced 19 = .ok (.aload_n 0, 1) := by decide +kernel
theorem dX6_isBalanced_20 : decode cX6_isBalanced 20 = .ok (.getfield 19, 3) := by decide +kernel
theorem dX6_isBalanced_23 : decode cX6_isBalanced 23 = .ok (.iload 4, 2) := by decide +kernel
theorem dX6_isBalanced_25 : decode cX6_isBalanced 25 = .ok (.invokevirtual 236, 3) := by decide +kernel
theorem dX6_isBalanced_28 : decode cX6_isBalanced 28 = .ok (.ifCond .eq 123, 3) := by decide +kernel
theorem dX6_isBalanced_31 : decode cX6_isBalanced 31 = .ok (.aload_n 0, 1) := by decide +kernel
theorem dX6_isBalanced_32 : decode cX6_isBalanced 32 = .ok (.getfield 19, 3) := by decide +kernel
theorem dX6_isBalanced_35 : decode cX6_isBalanced 35 = .ok (.iload 4, 2) := by decide +kernel
theorem dX6_isBalanced_37 : decode cX6_isBalanced 37 = .ok (.iload_n 1, 1) := by decide +kernel
theorem dX6_isBalanced_38 : decode cX6_isBalanced 38 = .ok (.invokevirtual 197, 3) := by decide +kernel
theorem dX6_isBalanced_41 : decode cX6_isBalanced 41 = .ok (.ifCond .eq 110, 3) := by decide +kernel
theorem dX6_isBalanced_44 : decode cX6_isBalanced 44 = .ok (.aload_n 0, 1) := by decide +kernel
theorem dX6_isBalanced_45 : decode cX6_isBalanced 45 = .ok (.getfield 19, 3) := by decide +kernel
theorem dX6_isBalanced_48 : decode cX6_isBalanced 48 = .ok (.getfield 168, 3) := by decide +kernel
theorem dX6_isBalanced_51 : decode cX6_isBalanced 51 = .ok (.iload 4, 2) := by decide +kernel
theorem dX6_isBalanced_53 : decode cX6_isBalanced 53 = .ok (.iaload, 1) := by decide +kernel
theorem dX6_isBalanced_54 : decode cX6_isBalanced 54 = .ok (.iload_n 1, 1) := by decide +kernel
theorem dX6_isBalanced_55 : decode cX6_isBalanced 55 = .ok (.if_icmp .ne 16, 3) := by decide +kernel
theorem dX6_isBalanced_58 : decode cX6_isBalanced 58 = .ok (.aload_n 0, 1) := by decide +kernel
theorem dX6_isBalanced_59 : decode cX6_isBalanced 59 = .ok (.getfield 19, 3) := by decide +kernel
theorem dX6_isBalanced_62 : decode cX6_isBalanced 62 = .ok (.getfield 171, 3) := by decide +kernel
theorem dX6_isBalanced_65 : decode cX6_isBalanced 65 = .ok (.iload 4, 2) := by decide +kernel
theorem dX6_isBalanced_67 : decode cX6_isBalanced 67 = .ok (.iaload, 1) := by decide +kernel
theorem dX6_isBalanced_68 : decode cX6_isBalanced 68 = .ok (.goto 13, 3) := by decide +kernel
theorem dX6_isBalanced_71 : decode cX6_isBalanced 71 = .ok (.aload_n 0, 1) := by decide +kernel
theorem dX6_isBalanced_72 : decode cX6_isBalanced 72 = .ok (.getfield 19, 3) := by decide +kernel
theorem dX6_isBalanced_75 : decode cX6_isBalanced 75 = .ok (.getfield 168, 3) := by decide +kernel
theorem dX6_isBalanced_78 : decode cX6_isBalanced 78 = .ok (.iload 4, 2) := by decide +kernel
theorem dX6_isBalanced_80 : decode cX6_isBalanced 80 = .ok (.iaload, 1) := by decide +kernel
theorem dX6_isBalanced_81 : decode cX6_isBalanced 81 = .ok (.istore 5, 2) := by decide +kernel
theorem dX6_isBalanced_83 : decode cX6_isBalanced 83 = .ok (.iload_n 2, 1) := by decide +kernel
theorem dX6_isBalanced_84 : decode cX6_isBalanced 84 = .ok (.aload_n 0, 1) := by decide +kernel
theorem dX6_isBalanced_85 : decode cX6_isBalanced 85 = .ok (.getfield 19, 3) := by decide +kernel
theorem dX6_isBalanced_88 : decode cX6_isBalanced 88 = .ok (.getfield 229, 3) := by decide +kernel
theorem dX6_isBalanced_91 : decode cX6_isBalanced 91 = .ok (.iload 4, 2) := by decide +kernel
theorem dX6_isBalanced_93 : decode cX6_isBalanced 93 = .ok (.iaload, 1) := by decide +kernel
theorem dX6_isBalanced_94 : decode cX6_isBalanced 94 = .ok (.aload_n 0, 1) := by decide +kernel
theorem dX6_isBalanced_95 : decode cX6_isBalanced 95 = .ok (.getfield 10, 3) := by decide +kernel
theorem dX6_isBalanced_98 : decode cX6_isBalanced 98 = .ok (.getfield 70, 3) := by decide +kernel
theorem dX6_isBalanced_101 : decode cX6_isBalanced 101 = .ok (.iload 5, 2) := by decide +kernel
theorem dX6_isBalanced_103 : decode cX6_isBalanced 103 = .ok (.iaload, 1) := by decide +kernel
theorem dX6_isBalanced_104 : decode cX6_isBalanced 104 = .ok (.aload_n 0, 1) := by decide +kernel
theorem dX6_isBalanced_105 : decode cX6_isBalanced 105 = .ok (.getfield 10, 3) := by decide +kernel
theorem dX6_isBalanced_108 : decode cX6_isBalanced 108 = .ok (.getfield 70, 3) := by decide +kernel
theorem dX6_isBalanced_111 : decode cX6_isBalanced 111 = .ok (.iload_n 1, 1) := by decide +kernel
theorem dX6_isBalanced_112 : decode cX6_isBalanced 112 = .ok (.iaload, 1) := by decide +kernel
theorem dX6_isBalanced_113 : decode cX6_isBalanced 113 = .ok (.isub, 1) := by decide +kernel
theorem dX6_isBalanced_114 : decode cX6_isBalanced 114 = .ok (.imul, 1) := by decide +kernel
theorem dX6_isBalanced_115 : decode cX6_isBalanced 115 = .ok (.iadd, 1) := by decide +kernel
theorem dX6_isBalanced_116 : decode cX6_isBalanced 116 = .ok (.istore_n 2, 1) := by decide +kernel
theorem dX6_isBalanced_117 : decode cX6_isBalanced 117 = .ok (.iload_n 3, 1) := by decide +kernel
theorem dX6_isBalanced_118 : decode cX6_isBalanced 118 = .ok (.aload_n 0, 1) := by decide +kernel
theorem dX6_isBalanced_119 : decode cX6_isBalanced 119 = .ok (.getfield 19, 3) := by decide +kernel
theorem dX6_isBalanced_122 : decode cX6_isBalanced 122 = .ok (.getfield 229, 3) := by decide +kernel
theorem dX6_isBalanced_125 : decode cX6_isBalanced 125 = .ok (.iload 4, 2) := by decide +kernel
theorem dX6_isBalanced_127 : decode cX6_isBalanced 127 = .ok (.iaload, 1) := by decide +kernel
theorem dX6_isBalanced_128 : decode cX6_isBalanced 128 = .ok (.aload_n 0, 1) := by decide +kernel
theorem dX6_isBalanced_129 : decode cX6_isBalanced 129 = .ok (.getfield 10, 3) := by decide +kernel
theorem dX6_isBalanced_132 : decode cX6_isBalanced 132 = .ok (.getfield 74, 3) := by decide +kernel
theorem dX6_isBalanced_135 : decode cX6_isBalanced 135 = .ok (.iload 5, 2) := by decide +kernel
theorem dX6_isBalanced_137 : decode cX6_isBalanced 137 = .ok (.iaload, 1) := by decide +kernel
theorem dX6_isBalanced_138 : decode cX6_isBalanced 138 = .ok (.aload_n 0, 1) := by decide +kernel
theorem dX6_isBalanced_139 : decode cX6_isBalanced 139 = .ok (.getfield 10, 3) := by decide +kernel
theorem dX6_isBalanced_142 : decode cX6_isBalanced 142 = .ok (.getfield 74, 3) := by decide +kernel
theorem dX6_isBalanced_145 : decode cX6_isBalanced 145 = .ok (.iload_n 1, 1) := by decide +kernel
theorem dX6_isBalanced_146 : decode cX6_isBalanced 146 = .ok (.iaload, 1) := by decide +kernel
theorem dX6_isBalanced_147 : decode cX6_isBalanced 147 = .ok (.isub, 1) := by decide +kernel
theorem dX6_isBalanced_148 : decode cX6_isBalanced 148 = .ok (.imul, 1) := by decide +kernel
theorem dX6_isBalanced_149 : decode cX6_isBalanced 149 = .ok (.iadd, 1) := by decide +kernel
theorem dX6_isBalanced_150 : decode cX6_isBalanced 150 = .ok (.istore_n 3, 1) := by decide +kernel
theorem dX6_isBalanced_151 : decode cX6_isBalanced 151 = .ok (.iinc 4 1, 3) := by decide +kernel
theorem dX6_isBalanced_154 : decode cX6_isBalanced 154 = .ok (.goto (-147), 3) := by decide +kernel
theorem dX6_isBalanced_157 : decode cX6_isBalanced 157 = .ok (.iload_n 2, 1) := by decide +kernel
theorem dX6_isBalanced_158 : decode cX6_isBalanced 158 = .ok (.ifCond .ne 11, 3) := by decide +kernel
theorem dX6_isBalanced_161 : decode cX6_isBalanced 161 = .ok (.iload_n 3, 1) := by decide +kernel
theorem dX6_isBalanced_162 : decode cX6_isBalanced 162 = .ok (.ifCond .ne 7, 3) := by decide +kernel
theorem dX6_isBalanced_165 : decode cX6_isBalanced 165 = .ok (.iconst 1, 1) := by decide +kernel
theorem dX6_isBalanced_166 : decode cX6_isBalanced 166 = .ok (.goto 4, 3) := by decide +kernel
theorem dX6_isBalanced_169 : decode cX6_isBalanced 169 = .ok (.iconst 0, 1) := by decide +kernel
theorem dX6_isBalanced_170 : decode cX6_isBalanced 170 = .ok (.ireturn, 1) := by decide +kernel
theorem dX7_init_0 : decode cX7_init 0 = .ok (.aload_n 0, 1) := by decide +kernel
theorem dX7_init_1 : decode cX7_init 1 = .ok (.invokespecial 1, 3) := by decide +kernel
theorem dX7_init_4 : decode cX7_init 4 = .ok (.aload_n 0, 1) := by decide +kernel
theorem dX7_init_5 : decode cX7_init 5 = .ok (.bipush 10, 2) := by decide +kernel
theorem dX7_init_7 : decode cX7_init 7 = .ok (.newarray .int, 2) := by decide +kernel
theorem dX7_init_9 : decode cX7_init 9 = .ok (.putfield 7, 3) := by decide +kernel
theorem dX7_init_12 : decode cX7_init 12 = .ok (.aload_n 0, 1) := by decide +kernel
theorem dX7_init_13 : decode cX7_init 13 = .ok (.bipush 10, 2) := by decide +kernel
theorem dX7_init_15 : decode cX7_init 15 = .ok (.newarray .int, 2) := by decide +kernel
theorem dX7_init_17 : decode cX7_init 17 = .ok (.putfield 13, 3) := by decide +kernel
theorem dX7_init_20 : decode cX7_init 20 = .ok (.aload_n 0, 1) := by decide +kernel
theorem dX7_init_21 : decode cX7_init 21 = .ok (.bipush 10, 2) := by decide +kernel
theorem dX7_init_23 : decode cX7_init 23 = .ok (.newarray .boolean, 2) := by decide +kernel
theorem dX7_init_25 : decode cX7_init 25 = .ok (.putfield 16, 3) := by decide +kernel
theorem dX7_init_28 : decode cX7_init 28 = .ok (.aload_n 0, 1) := by decide +kernel
theorem dX7_init_29 : decode cX7_init 29 = .ok (.bipush 10, 2) := by decide +kernel
theorem dX7_init_31 : decode cX7_init 31 = .ok (.newarray .int, 2) := by decide +kernel
theorem dX7_init_33 : decode cX7_init 33 = .ok (.putfield 20, 3) := by decide +kernel
theorem dX7_init_36 : decode cX7_init 36 = .ok (.aload_n 0, 1) := by decide +kernel
theorem dX7_init_37 : decode cX7_init 37 = .ok (.bipush 40, 2) := by decide +kernel
theorem dX7_init_39 : decode cX7_init 39 = .ok (.newarray .int, 2) := by decide +kernel
theorem dX7_init_41 : decode cX7_init 41 = .ok (.putfield 23, 3) := by decide +kernel
theorem dX7_init_44 : decode cX7_init 44 = .ok (.aload_n 0, 1) := by decide +kernel
theorem dX7_init_45 : decode cX7_init 45 = .ok (.bipush 40, 2) := by decide +kernel
theorem dX7_init_47 : decode cX7_init 47 = .ok (.newarray .int, 2) := by decide +kernel
theorem dX7_init_49 : decode cX7_init 49 = .ok (.putfield 26, 3) := by decide +kernel
theorem dX7_init_52 : decode cX7_init 52 = .ok (.aload_n 0, 1) := by decide +kernel
theorem dX7_init_53 : decode cX7_init 53 = .ok (.bipush 40, 2) := by decide +kernel
theorem dX7_init_55 : decode cX7_init 55 = .ok (.newarray .int, 2) := by decide +kernel
theorem dX7_init_57 : decode cX7_init 57 = .ok (.putfield 29, 3) := by decide +kernel
theorem dX7_init_60 : decode cX7_init 60 = .ok (.aload_n 0, 1) := by decide +kernel
theorem dX7_init_61 : decode cX7_init 61 = .ok (.bipush 40, 2) := by decide +kernel
theorem dX7_init_63 : decode cX7_init 63 = .ok (.newarray .int, 2) := by decide +kernel
theorem dX7_init_65 : decode cX7_init 65 = .ok (.putfield 32, 3) := by decide +kernel
theorem dX7_init_68 : decode cX7_init 68 = .ok (.aload_n 0, 1) := by decide +kernel
theorem dX7_init_69 : decode cX7_init 69 = .ok (.bipush 40, 2) := by decide +kernel
theorem dX7_init_71 : decode cX7_init 71 = .ok (.newarray .boolean, 2) := by decide +kernel
theorem dX7_init_73 : decode cX7_init 73 = .ok (.putfield 35, 3) := by decide +kernel
theorem dX7_init_76 : decode cX7_init 76 = .ok (.aload_n 0, 1) := by decide +kernel
theorem dX7_init_77 : decode cX7_init 77 = .ok (.bipush 10, 2) := by decide +kernel
theorem dX7_init_79 : decode cX7_init 79 = .ok (.newarray .int, 2) := by decide +kernel
theorem dX7_init_81 : decode cX7_init 81 = .ok (.putfield 38, 3) := by decide +kernel
theorem dX7_init_84 : decode cX7_init 84 = .ok (.aload_n 0, 1) := by decide +kernel
theorem dX7_init_85 : decode cX7_init 85 = .ok (.bipush 10, 2) := by decide +kernel
theorem dX7_init_87 : decode cX7_init 87 = .ok (.newarray .int, 2) := by decide +kernel
theorem dX7_init_89 : decode cX7_init 89 = .ok (.putfield 41, 3) := by decide +kernel
theorem dX7_init_92 : decode cX7_init 92 = .ok (.aload_n 0, 1) := by decide +kernel
theorem dX7_init_93 : decode cX7_init 93 = .ok (.bipush 10, 2) := by decide +kernel
theorem dX7_init_95 : decode cX7_init 95 = .ok (.newarray .int, 2) := by decide +kernel
theorem dX7_init_97 : decode cX7_init 97 = .ok (.putfield 44, 3) := by decide +kernel
theorem dX7_init_100 : decode cX7_init 100 = .ok (.aload_n 0, 1) := by decide +kernel
theorem dX7_init_101 : decode cX7_init 101 = .ok (.bipush 10, 2) := by decide +kernel
theorem dX7_init_103 : decode cX7_init 103 = .ok (.newarray .int, 2) := by decide +kernel
theorem dX7_init_105 : decode cX7_init 105 = .ok (.putfield 47, 3) := by decide +kernel
theorem dX7_init_108 : decode cX7_init 108 = .ok (.aload_n 0, 1) := by decide +kernel
theorem dX7_init_109 : decode cX7_init 109 = .ok (.bipush 10, 2) := by decide +kernel
theorem dX7_init_111 : decode cX7_init 111 = .ok (.newarray .long, 2) := by decide +kernel
theorem dX7_init_113 : decode cX7_init 113 = .ok (.putfield 50, 3) := by decide +kernel
theorem dX7_init_116 : decode cX7_init 116 = .ok (.aload_n 0, 1) := by decide +kernel
theorem dX7_init_117 : decode cX7_init 117 = .ok (.bipush 10, 2) := by decide +kernel
theorem dX7_init_119 : decode cX7_init 119 = .ok (.newarray .long, 2) := by decide +kernel
theorem dX7_init_121 : decode cX7_init 121 = .ok (.putfield 54, 3) := by decide +kernel
theorem dX7_init_124 : decode cX7_init 124 = .ok (.aload_n 0, 1) := by decide +kernel
theorem dX7_init_125 : decode cX7_init 125 = .ok (.bipush 10, 2) := by decide +kernel
theorem dX7_init_127 : decode cX7_init 127 = .ok (.newarray .int, 2) := by decide +kernel
theorem dX7_init_129 : decode cX7_init 129 = .ok (.putfield 57, 3) := by decide +kernel
theorem dX7_init_132 : decode cX7_init 132 = .ok (.aload_n 0, 1) := by decide +kernel
theorem dX7_init_133 : decode cX7_init 133 = .ok (.sipush 1600, 3) := by decide +kernel
theorem dX7_init_136 : decode cX7_init 136 = .ok (.newarray .long, 2) := by decide +kernel
theorem dX7_init_138 : decode cX7_init 138 = .ok (.putfield 60, 3) := by decide +kernel
theorem dX7_init_141 : decode cX7_init 141 = .ok (.aload_n 0, 1) := by decide +kernel
theorem dX7_init_142 : decode cX7_init 142 = .ok (.bipush 40, 2) := by decide +kernel
theorem dX7_init_144 : decode cX7_init 144 = .ok (.newarray .int, 2) := by decide +kernel
theorem dX7_init_146 : decode cX7_init 146 = .ok (.putfield 63, 3) := by decide +kernel
theorem dX7_init_149 : decode cX7_init 149 = .ok (.aload_n 0, 1) := by decide +kernel
theorem dX7_init_150 : decode cX7_init 150 = .ok (.bipush 40, 2) := by decide +kernel
theorem dX7_init_152 : decode cX7_init 152 = .ok (.newarray .boolean, 2) := by decide +kernel
theorem dX7_init_154 : decode cX7_init 154 = .ok (.putfield 66, 3) := by decide +kernel
theorem dX7_init_157 : decode cX7_init 157 = .ok (.aload_n 0, 1) := by decide +kernel
theorem dX7_init_158 : decode cX7_init 158 = .ok (.sipush 1024, 3) := by decide +kernel
theorem dX7_init_161 : decode cX7_init 161 = .ok (.newarray .int, 2) := by decide +kernel
theorem dX7_init_163 : decode cX7_init 163 = .ok (.putfield 69, 3) := by decide +kernel
theorem dX7_init_166 : decode cX7_init 166 = .ok (.return_, 1) := by decide +kernel
theorem dX7_thrown_0 : decode cX7_thrown 0 = .ok (.aload_n 0, 1) := by decide +kernel
theorem dX7_thrown_1 : decode cX7_thrown 1 = .ok (.getfield 72, 3) := by decide +kernel
theorem dX7_thrown_4 : decode cX7_thrown 4 = .ok (.ireturn, 1) := by decide +kernel
theorem dX7_holds_0 : decode cX7_holds 0 = .ok (.aload_n 0, 1) := by decide +kernel
theorem dX7_holds_1 : decode cX7_holds 1 = .ok (.iload_n 1, 1) := by decide +kernel
theorem dX7_holds_2 : decode cX7_holds 2 = .ok (.putfield 72, 3) := by decide +kernel
theorem dX7_holds_5 : decode cX7_holds 5 = .ok (.iload_n 1, 1) := by decide +kernel
theorem dX7_holds_6 : decode cX7_holds 6 = .ok (.ifCond .ne 7, 3) := by decide +kernel
theorem dX7_holds_9 : decode cX7_holds 9 = .ok (.iconst 1, 1) := by decide +kernel
theorem dX7_holds_10 : decode cX7_holds 10 = .ok (.goto 4, 3) := by decide +kernel
theorem dX7_holds_13 : decode cX7_holds 13 = .ok (.iconst 0, 1) := by decide +kernel
theorem dX7_holds_14 : decode cX7_holds 14 = .ok (.ireturn, 1) := by decide +kernel
theorem dX7_isIn_0 : decode cX7_isIn 0 = .ok (.iload_n 0, 1) := by decide +kernel
theorem dX7_isIn_1 : decode cX7_isIn 1 = .ok (.iload_n 1, 1) := by decide +kernel
theorem dX7_isIn_2 : decode cX7_isIn 2 = .ok (.if_icmp .lt 12, 3) := by decide +kernel
theorem dX7_isIn_5 : decode cX7_isIn 5 = .ok (.iload_n 0, 1) := by decide +kernel
theorem dX7_isIn_6 : decode cX7_isIn 6 = .ok (.iload_n 2, 1) := by decide +kernel
theorem dX7_isIn_7 : decode cX7_isIn 7 = .ok (.if_icmp .gt 7, 3) := by decide +kernel
theorem dX7_isIn_10 : decode cX7_isIn 10 = .ok (.iconst 1, 1) := by decide +kernel
theorem dX7_isIn_11 : decode cX7_isIn 11 = .ok (.goto 4, 3) := by decide +kernel
theorem dX7_isIn_14 : decode cX7_isIn 14 = .ok (.iconst 0, 1) := by decide +kernel
theorem dX7_isIn_15 : decode cX7_isIn 15 = .ok (.ireturn, 1) := by decide +kernel
set_option maxRecDepth 20000 in
theorem ggX7_isJoint_X7_isIn : GoodIn wsX7_isJoint wsX7_isIn := goodIn_r _ [5] (by decide +kernel) (by decide +kernel)
set_option maxRecDepth 20000 in
theorem gX7_isJoint_X7_isIn : GoodIn wsX7_isJoint (va_wsS RX7 79 yX7_isIn wsX7_isIn) := goodIn_app (goodIn_of _ (by decide +kernel)) ggX7_isJoint_X7_isIn
theorem dX7_isJoint_0 : decode cX7_isJoint 0 = .ok (.iload_n 1, 1) := by decide +kernel
theorem dX7_isJoint_1 : decode cX7_isJoint 1 = .ok (.iconst 0, 1) := by decide +kernel
theorem dX7_isJoint_2 : decode cX7_isJoint 2 = .ok (.aload_n 0, 1) := by decide +kernel
theorem dX7_isJoint_3 : decode cX7_isJoint 3 = .ok (.getfield 76, 3) := by decide +kernel
theorem dX7_isJoint_6 : decode cX7_isJoint 6 = .ok (.iconst 1, 1) := by decide +kernel
theorem dX7_isJoint_7 : decode cX7_isJoint 7 = .ok (.isub, 1) := by decide +kernel
theorem dX7_isJoint_8 : decode cX7_isJoint 8 = .ok (.invokestatic 79, 3) := by decide +kernel
theorem dX7_isJoint_11 : decode cX7_isJoint 11 = .ok (.ireturn, 1) := by decide +kernel
set_option maxRecDepth 20000 in
theorem ggX7_isMember_X7_isIn : GoodIn wsX7_isMember wsX7_isIn := goodIn_r _ [6] (by decide +kernel) (by decide +kernel)
set_option maxRecDepth 20000 in
theorem gX7_isMember_X7_isIn : GoodIn wsX7_isMember (va_wsS RX7 79 yX7_isIn wsX7_isIn) := goodIn_app (goodIn_of _ (by decide +kernel)) ggX7_isMember_X7_isIn
theorem dX7_isMember_0 : decode cX7_isMember 0 = .ok (.iload_n 1, 1) := by decide +kernel
theorem dX7_isMember_1 : decode cX7_isMember 1 = .ok (.iconst 0, 1) := by decide +kernel
theorem dX7_isMember_2 : decode cX7_isMember 2 = .ok (.aload_n 0, 1) := by decide +kernel
theorem dX7_isMember_3 : decode cX7_isMember 3 = .ok (.getfield 83, 3) := by decide +kernel
theorem dX7_isMember_6 : decode cX7_isMember 6 = .ok (.iconst 1, 1) := by decide +kernel
theorem dX7_isMember_7 : decode cX7_isMember 7 = .ok (.isub, 1) := by decide +kernel
theorem dX7_isMember_8 : decode cX7_isMember 8 = .ok (.invokestatic 79, 3) := by decide +kernel
theorem dX7_isMember_11 : decode cX7_isMember 11 = .ok (.ifCond .eq 16, 3) := by decide +kernel
theorem dX7_isMember_14 : decode cX7_isMember 14 = .ok (.aload_n 0, 1) := by decide +kernel
theorem dX7_isMember_15 : decode cX7_isMember 15 = .ok (.getfield 35, 3) := by decide +kernel
theorem dX7_isMember_18 : decode cX7_isMember 18 = .ok (.iload_n 1, 1) := by decide +kernel
theorem dX7_isMember_19 : decode cX7_isMember 19 = .ok (.baload, 1) := by decide +kernel
theorem dX7_isMember_20 : decode cX7_isMember 20 = .ok (.ifCond .ne 7, 3) := by decide +kernel
theorem dX7_isMember_23 : decode cX7_isMember 23 = .ok (.iconst 1, 1) := by decide +kernel
theorem dX7_isMember_24 : decode cX7_isMember 24 = .ok (.goto 4, 3) := by decide +kernel
theorem dX7_isMember_27 : decode cX7_isMember 27 = .ok (.iconst 0, 1) := by decide +kernel
theorem dX7_isMember_28 : decode cX7_isMember 28 = .ok (.ireturn, 1) := by decide +kernel
set_option maxRecDepth 20000 in
theorem ggX7_isPoint_X7_isIn : GoodIn wsX7_isPoint wsX7_isIn := goodIn_r _ [4] (by decide +kernel) (by decide +kernel)
set_option maxRecDepth 20000 in
theorem gX7_isPoint_X7_isIn : GoodIn wsX7_isPoint (va_wsS RX7 79 yX7_isIn wsX7_isIn) := goodIn_app (goodIn_of _ (by decide +kernel)) ggX7_isPoint_X7_isIn
theorem dX7_isPoint_0 : decode cX7_isPoint 0 = .ok (.iload_n 0, 1) := by decide +kernel
theorem dX7_isPoint_1 : decode cX7_isPoint 1 = .ok (.bipush (-50), 2) := by decide +kernel
theorem dX7_isPoint_3 : decode cX7_isPoint 3 = .ok (.bipush 50, 2) := by decide +kernel
theorem dX7_isPoint_5 : decode cX7_isPoint 5 = .ok (.invokestatic 79, 3) := by decide +kernel
theorem dX7_isPoint_8 : decode cX7_isPoint 8 = .ok (.ifCond .eq 18, 3) := by decide +kernel
theorem dX7_isPoint_11 : decode cX7_isPoint 11 = .ok (.iload_n 1, 1) := by decide +kernel
theorem dX7_isPoint_12 : decode cX7_isPoint 12 = .ok (.bipush (-50), 2) := by decide +kernel
theorem dX7_isPoint_14 : decode cX7_isPoint 14 = .ok (.bipush 50, 2) := by decide +kernel
theorem dX7_isPoint_16 : decode cX7_isPoint 16 = .ok (.invokestatic 79, 3) := by decide +kernel
theorem dX7_isPoint_19 : decode cX7_isPoint 19 = .ok (.ifCond .eq 7, 3) := by decide +kernel
theorem dX7_isPoint_22 : decode cX7_isPoint 22 = .ok (.iconst 1, 1) := by decide +kernel
theorem dX7_isPoint_23 : decode cX7_isPoint 23 = .ok (.goto 4, 3) := by decide +kernel
theorem dX7_isPoint_26 : decode cX7_isPoint 26 = .ok (.iconst 0, 1) := by decide +kernel
theorem dX7_isPoint_27 : decode cX7_isPoint 27 = .ok (.ireturn, 1) := by decide +kernel
theorem dX7_adds_0 : decode cX7_adds 0 = .ok (.aload_n 0, 1) := by decide +kernel
theorem dX7_adds_1 : decode cX7_adds 1 = .ok (.getfield 7, 3) := by decide +kernel
theorem dX7_adds_4 : decode cX7_adds 4 = .ok (.aload_n 0, 1) := by decide +kernel
theorem dX7_adds_5 : decode cX7_adds 5 = .ok (.getfield 76, 3) := by decide +kernel
theorem dX7_adds_8 : decode cX7_adds 8 = .ok (.iload_n 1, 1) := by decide +kernel
theorem dX7_adds_9 : decode cX7_adds 9 = .ok (.iastore, 1) := by decide +kernel
theorem dX7_adds_10 : decode cX7_adds 10 = .ok (.aload_n 0, 1) := by decide +kernel
theorem dX7_adds_11 : decode cX7_adds 11 = .ok (.getfield 13, 3) := by decide +kernel
theorem dX7_adds_14 : decode cX7_adds 14 = .ok (.aload_n 0, 1) := by decide +kernel
theorem dX7_adds_15 : decode cX7_adds 15 = .ok (.getfield 76, 3) := by decide +kernel
theorem dX7_adds_18 : decode cX7_adds 18 = .ok (.iload_n 2, 1) := by decide +kernel
theorem dX7_adds_19 : decode cX7_adds 19 = .ok (.iastore, 1) := by decide +kernel
theorem dX7_adds_20 : decode cX7_adds 20 = .ok (.aload_n 0, 1) := by decide +kernel
theorem dX7_adds_21 : decode cX7_adds 21 = .ok (.getfield 16, 3) := by decide +kernel
theorem dX7_adds_24 : decode cX7_adds 24 = .ok (.aload_n 0, 1) := by decide +kernel
theorem dX7_adds_25 : decode cX7_adds 25 = .ok (.getfield 76, 3) := by decide +kernel
theorem dX7_adds_28 : decode cX7_adds 28 = .ok (.iconst 0, 1) := by decide +kernel
theorem dX7_adds_29 : decode cX7_adds 29 = .ok (.bastore, 1) := by decide +kernel
theorem dX7_adds_30 : decode cX7_adds 30 = .ok (.aload_n 0, 1) := by decide +kernel
theorem dX7_adds_31 : decode cX7_adds 31 = .ok (.getfield 20, 3) := by decide +kernel
theorem dX7_adds_34 : decode cX7_adds 34 = .ok (.aload_n 0, 1) := by decide +kernel
theorem dX7_adds_35 : decode cX7_adds 35 = .ok (.getfield 76, 3) := by decide +kernel
theorem dX7_adds_38 : decode cX7_adds 38 = .ok (.iconst (-1), 1) := by decide +kernel
theorem dX7_adds_39 : decode cX7_adds 39 = .ok (.iastore, 1) := by decide +kernel
theorem dX7_adds_40 : decode cX7_adds 40 = .ok (.aload_n 0, 1) := by decide +kernel
theorem dX7_adds_41 : decode cX7_adds 41 = .ok (.dup, 1) := by decide +kernel
theorem dX7_adds_42 : decode cX7_adds 42 = .ok (.getfield 76, 3) := by decide +kernel
theorem dX7_adds_45 : decode cX7_adds 45 = .ok (.iconst 1, 1) := by decide +kernel
theorem dX7_adds_46 : decode cX7_adds 46 = .ok (.iadd, 1) := by decide +kernel
theorem dX7_adds_47 : decode cX7_adds 47 = .ok (.putfield 76, 3) := by decide +kernel
theorem dX7_adds_50 : decode cX7_adds 50 = .ok (.aload_n 0, 1) := by decide +kernel
theorem dX7_adds_51 : decode cX7_adds 51 = .ok (.getfield 76, 3) := by decide +kernel
theorem dX7_adds_54 : decode cX7_adds 54 = .ok (.iconst 1, 1) := by decide +kernel
theorem dX7_adds_55 : decode cX7_adds 55 = .ok (.isub, 1) := by decide +kernel
theorem dX7_adds_56 : decode cX7_adds 56 = .ok (.ireturn, 1) := by decide +kernel
set_option maxRecDepth 20000 in
theorem ggX7_joint_X7_isPoint : GoodIn wsX7_joint wsX7_isPoint := goodIn_r _ [5, 6, 7, 4, 8] (by decide +kernel) (by decide +kernel)
set_option maxRecDepth 20000 in
theorem gX7_joint_X7_isPoint : GoodIn wsX7_joint (va_wsS RX7 86 yX7_isPoint wsX7_isPoint) := goodIn_app (goodIn_of _ (by decide +kernel)) ggX7_joint_X7_isPoint
set_option maxRecDepth 20000 in
theorem ggX7_joint_X7_holds : GoodIn wsX7_joint wsX7_holds := goodIn_r _ [12, 13, 22, 23, 24, 25, 26, 27, 28, 29, 30, 31, 32, 33, 34, 35, 36, 37, 38, 39, 40, 41, 42, 43, 44, 45, 46] (by decide +kernel) (by decide +kernel)
set_option maxRecDepth 20000 in
theorem gX7_joint_X7_holds : GoodIn wsX7_joint (wsV RX7 90 RX7 yX7_holds wsX7_holds) := goodIn_app (goodIn_of _ (by decide +kernel)) ggX7_joint_X7_holds
set_option maxRecDepth 20000 in
theorem ggX7_joint_X7_adds : GoodIn wsX7_joint wsX7_adds := goodIn_r _ [17, 18, 1, 19, 20, 21, 22, 23, 24, 25, 26, 27, 28, 29, 30, 31, 32, 33, 34, 35, 36, 37, 38, 39, 40, 41, 42, 43, 44, 45, 46] (by decide +kernel) (by decide +kernel)
set_option maxRecDepth 20000 in
theorem gX7_joint_X7_adds : GoodIn wsX7_joint (wsV RX7 94 RX7 yX7_adds wsX7_adds) := goodIn_app (goodIn_of _ (by decide +kernel)) ggX7_joint_X7_adds
theorem dX7_joint_0 : decode cX7_joint 0 = .ok (.aload_n 0, 1) := by decide +kernel
theorem dX7_joint_1 : decode cX7_joint 1 = .ok (.iload_n 1, 1) := by decide +kernel
theorem dX7_joint_2 : decode cX7_joint 2 = .ok (.iload_n 2, 1) := by decide +kernel
theorem dX7_joint_3 : decode cX7_joint 3 = .ok (.invokestatic 86, 3) := by decide +kernel
theorem dX7_joint_6 : decode cX7_joint 6 = .ok (.ifCond .ne 7, 3) := by decide +kernel
theorem dX7_joint_9 : decode cX7_joint 9 = .ok (.iconst 1, 1) := by decide +kernel
theorem dX7_joint_10 : decode cX7_joint 10 = .ok (.goto 17, 3) := by decide +kernel
theorem dX7_joint_13 : decode cX7_joint 13 = .ok (.aload_n 0, 1) := by decide +kernel
theorem dX7_joint_14 : decode cX7_joint 14 = .ok (.getfield 76, 3) := by decide +kernel
theorem dX7_joint_17 : decode cX7_joint 17 = .ok (.bipush 10, 2) := by decide +kernel
theorem dX7_joint_19 : decode cX7_joint 19 = .ok (.if_icmp .ne 7, 3) := by decide +kernel
theorem dX7_joint_22 : decode cX7_joint 22 = .ok (.iconst 2, 1) := by decide +kernel
theorem dX7_joint_23 : decode cX7_joint 23 = .ok (.goto 4, 3) := by decide +kernel
theorem dX7_joint_26 : decode cX7_joint 26 = .ok (.iconst 0, 1) := by decide +kernel
theorem dX7_joint_27 : decode cX7_joint 27 = .ok (.invokevirtual 90, 3) := by decide +kernel
theorem dX7_joint_30 : decode cX7_joint 30 = .ok (.ifCond .eq 12, 3) := by decide +kernel
theorem dX7_joint_33 : decode cX7_joint 33 = .ok (.aload_n 0, 1) := by decide +kernel
theorem dX7_joint_34 : decode cX7_joint 34 = .ok (.iload_n 1, 1) := by decide +kernel
theorem dX7_joint_35 : decode cX7_joint 35 = .ok (.iload_n 2, 1) := by decide +kernel
theorem dX7_joint_36 : decode cX7_joint 36 = .ok (.invokevirtual 94, 3) := by decide +kernel
theorem dX7_joint_39 : decode cX7_joint 39 = .ok (.goto 4, 3) := by decide +kernel
theorem dX7_joint_42 : decode cX7_joint 42 = .ok (.iconst 0, 1) := by decide +kernel
theorem dX7_joint_43 : decode cX7_joint 43 = .ok (.ireturn, 1) := by decide +kernel
set_option maxRecDepth 20000 in
theorem ggX7_move_X7_isJoint : GoodIn wsX7_move wsX7_isJoint := goodIn_r _ [7, 8, 9, 10, 6, 11, 20, 21, 22, 23, 24, 25, 26, 27, 28, 29, 30, 31, 32, 33, 34, 35, 36, 37, 38, 39, 40, 41, 42, 43, 44] (by decide +kernel) (by decide +kernel)
set_option maxRecDepth 20000 in
theorem gX7_move_X7_isJoint : GoodIn wsX7_move (wsV RX7 98 RX7 yX7_isJoint wsX7_isJoint) := goodIn_app (goodIn_of _ (by decide +kernel)) ggX7_move_X7_isJoint
set_option maxRecDepth 20000 in
theorem ggX7_move_X7_isPoint : GoodIn wsX7_move wsX7_isPoint := goodIn_r _ [14, 9, 10, 6, 11] (by decide +kernel) (by decide +kernel)
set_option maxRecDepth 20000 in
theorem gX7_move_X7_isPoint : GoodIn wsX7_move (va_wsS RX7 86 yX7_isPoint wsX7_isPoint) := goodIn_app (goodIn_of _ (by decide +kernel)) ggX7_move_X7_isPoint
set_option maxRecDepth 20000 in
theorem ggX7_move_X7_holds : GoodIn wsX7_move wsX7_holds := goodIn_r _ [18, 19, 20, 21, 22, 23, 24, 25, 26, 27, 28, 29, 30, 31, 32, 33, 34, 35, 36, 37, 38, 39, 40, 41, 42, 43, 44] (by decide +kernel) (by decide +kernel)
set_option maxRecDepth 20000 in
theorem gX7_move_X7_holds : GoodIn wsX7_move (wsV RX7 90 RX7 yX7_holds wsX7_holds) := goodIn_app (goodIn_of _ (by decide +kernel)) ggX7_move_X7_holds
theorem dX7_move_0 : decode cX7_move 0 = .ok (.aload_n 0, 1) := by decide +kernel
theorem dX7_move_1 : decode cX7_move 1 = .ok (.aload_n 0, 1) := by decide +kernel
theorem dX7_move_2 : decode cX7_move 2 = .ok (.iload_n 1, 1) := by decide +kernel
theorem dX7_move_3 : decode cX7_move 3 = .ok (.invokevirtual 98, 3) := by decide +kernel
theorem dX7_move_6 : decode cX7_move 6 = .ok (.ifCond .ne 7, 3) := by decide +kernel
theorem dX7_move_9 : decode cX7_move 9 = .ok (.iconst 1, 1) := by decide +kernel
theorem dX7_move_10 : decode cX7_move 10 = .ok (.goto 16, 3) := by decide +kernel
theorem dX7_move_13 : decode cX7_move 13 = .ok (.iload_n 2, 1) := by decide +kernel
theorem dX7_move_14 : decode cX7_move 14 = .ok (.iload_n 3, 1) := by decide +kernel
theorem dX7_move_15 : decode cX7_move 15 = .ok (.invokestatic 86, 3) := by decide +kernel
theorem dX7_move_18 : decode cX7_move 18 = .ok (.ifCond .eq 7, 3) := by decide +kernel
theorem dX7_move_21 : decode cX7_move 21 = .ok (.iconst 0, 1) := by decide +kernel
theorem dX7_move_22 : decode cX7_move 22 = .ok (.goto 4, 3) := by decide +kernel
theorem dX7_move_25 : decode cX7_move 25 = .ok (.iconst 2, 1) := by decide +kernel
theorem dX7_move_26 : decode cX7_move 26 = .ok (.invokevirtual 90, 3) := by decide +kernel
theorem dX7_move_29 : decode cX7_move 29 = .ok (.ifCond .eq 17, 3) := by decide +kernel
theorem dX7_move_32 : decode cX7_move 32 = .ok (.aload_n 0, 1) := by decide +kernel
theorem dX7_move_33 : decode cX7_move 33 = .ok (.getfield 7, 3) := by decide +kernel
theorem dX7_move_36 : decode cX7_move 36 = .ok (.iload_n 1, 1) := by decide +kernel
theorem dX7_move_37 : decode cX7_move 37 = .ok (.iload_n 2, 1) := by decide +kernel
theorem dX7_move_38 : decode cX7_move 38 = .ok (.iastore, 1) := by decide +kernel
theorem dX7_move_39 : decode cX7_move 39 = .ok (.aload_n 0, 1) := by decide +kernel
theorem dX7_move_40 : decode cX7_move 40 = .ok (.getfield 13, 3) := by decide +kernel
theorem dX7_move_43 : decode cX7_move 43 = .ok (.iload_n 1, 1) := by decide +kernel
theorem dX7_move_44 : decode cX7_move 44 = .ok (.iload_n 3, 1) := by decide +kernel
theorem dX7_move_45 : decode cX7_move 45 = .ok (.iastore, 1) := by decide +kernel
theorem dX7_move_46 : decode cX7_move 46 = .ok (.return_, 1) := by decide +kernel
set_option maxRecDepth 20000 in
theorem ggX7_pin_X7_isJoint : GoodIn wsX7_pin wsX7_isJoint := goodIn_r _ [6, 7, 8, 9, 5, 10, 16, 17, 18, 19, 20, 21, 22, 23, 24, 25, 26, 27, 28, 29, 30, 31, 32, 33, 34, 35, 36, 37, 38, 39, 40] (by decide +kernel) (by decide +kernel)
set_option maxRecDepth 20000 in
theorem gX7_pin_X7_isJoint : GoodIn wsX7_pin (wsV RX7 98 RX7 yX7_isJoint wsX7_isJoint) := goodIn_app (goodIn_of _ (by decide +kernel)) ggX7_pin_X7_isJoint
set_option maxRecDepth 20000 in
theorem ggX7_pin_X7_holds : GoodIn wsX7_pin wsX7_holds := goodIn_r _ [14, 15, 16, 17, 18, 19, 20, 21, 22, 23, 24, 25, 26, 27, 28, 29, 30, 31, 32, 33, 34, 35, 36, 37, 38, 39, 40] (by decide +kernel) (by decide +kernel)
set_option maxRecDepth 20000 in
theorem gX7_pin_X7_holds : GoodIn wsX7_pin (wsV RX7 90 RX7 yX7_holds wsX7_holds) := goodIn_app (goodIn_of _ (by decide +kernel)) ggX7_pin_X7_holds
theorem dX7_pin_0 : decode cX7_pin 0 = .ok (.aload_n 0, 1) := by decide +kernel
theorem dX7_pin_1 : decode cX7_pin 1 = .ok (.aload_n 0, 1) := by decide +kernel
theorem dX7_pin_2 : decode cX7_pin 2 = .ok (.iload_n 1, 1) := by decide +kernel
theorem dX7_pin_3 : decode cX7_pin 3 = .ok (.invokevirtual 98, 3) := by decide +kernel
theorem dX7_pin_6 : decode cX7_pin 6 = .ok (.ifCond .eq 7, 3) := by decide +kernel
theorem dX7_pin_9 : decode cX7_pin 9 = .ok (.iconst 0, 1) := by decide +kernel
theorem dX7_pin_10 : decode cX7_pin 10 = .ok (.goto 4, 3) := by decide +kernel
theorem dX7_pin_13 : decode cX7_pin 13 = .ok (.iconst 1, 1) := by decide +kernel
theorem dX7_pin_14 : decode cX7_pin 14 = .ok (.invokevirtual 90, 3) := by decide +kernel
theorem dX7_pin_17 : decode cX7_pin 17 = .ok (.ifCond .ne 5, 3) := by decide +kernel
theorem dX7_pin_20 : decode cX7_pin 20 = .ok (.iconst 0, 1) := by decide +kernel
theorem dX7_pin_21 : decode cX7_pin 21 = .ok (.ireturn, 1) := by decide +kernel
theorem dX7_pin_22 : decode cX7_pin 22 = .ok (.aload_n 0, 1) := by decide +kernel
theorem dX7_pin_23 : decode cX7_pin 23 = .ok (.getfield 16, 3) := by decide +kernel
theorem dX7_pin_26 : decode cX7_pin 26 = .ok (.iload_n 1, 1) := by decide +kernel
theorem dX7_pin_27 : decode cX7_pin 27 = .ok (.baload, 1) := by decide +kernel
theorem dX7_pin_28 : decode cX7_pin 28 = .ok (.istore_n 3, 1) := by decide +kernel
theorem dX7_pin_29 : decode cX7_pin 29 = .ok (.aload_n 0, 1) := by decide +kernel
theorem dX7_pin_30 : decode cX7_pin 30 = .ok (.getfield 16, 3) := by decide +kernel
theorem dX7_pin_33 : decode cX7_pin 33 = .ok (.iload_n 1, 1) := by decide +kernel
theorem dX7_pin_34 : decode cX7_pin 34 = .ok (.iload_n 2, 1) := by decide +kernel
theorem dX7_pin_35 : decode cX7_pin 35 = .ok (.bastore, 1) := by decide +kernel
theorem dX7_pin_36 : decode cX7_pin 36 = .ok (.iload_n 3, 1) := by decide +kernel
theorem dX7_pin_37 : decode cX7_pin 37 = .ok (.ireturn, 1) := by decide +kernel
theorem dX7_between_0 : decode cX7_between 0 = .ok (.iconst (-1), 1) := by decide +kernel
theorem dX7_between_1 : decode cX7_between 1 = .ok (.istore_n 3, 1) := by decide +kernel
theorem dX7_between_2 : decode cX7_between 2 = .ok (.iconst 0, 1) := by decide +kernel
theorem dX7_between_3 : decode cX7_between 3 = .ok (.istore 4, 2) := by decide +kernel
theorem dX7_between_5 : decode cX7_between 5 = .ok (.iload 4, 2) := by decide +kernel
theorem dX7_between_7 : decode cX7_between 7 = .ok (.aload_n 0, 1) := by decide +kernel
theorem dX7_between_8 : decode cX7_between 8 = .ok (.getfield 83, 3) := by decide +kernel
theorem dX7_between_11 : decode cX7_between 11 = .ok (.if_icmp .ge 82, 3) := by decide +kernel
theorem dX7_between_14 : decode cX7_between 14 = .ok (.aload_n 0, 1) := by decide +kernel
theorem dX7_between_15 : decode cX7_between 15 = .ok (.getfield 23, 3) := by decide +kernel
theorem dX7_between_18 : decode cX7_between 18 = .ok (.iload 4, 2) := by decide +kernel
theorem dX7_between_20 : decode cX7_between 20 = .ok (.iaload, 1) := by decide +kernel
theorem dX7_between_21 : decode cX7_between 21 = .ok (.iload_n 1, 1) := by decide +kernel
theorem dX7_between_22 : decode cX7_between 22 = .ok (.if_icmp .ne 14, 3) := by decide +kernel
theorem dX7_between_25 : decode cX7_between 25 = .ok (.aload_n 0, 1) := by decide +kernel
theorem dX7_between_26 : decode cX7_between 26 = .ok (.getfield 26, 3) := by decide +kernel
theorem dX7_between_29 : decode cX7_between 29 = .ok (.iload 4, 2) := by decide +kernel
theorem dX7_between_31 : decode cX7_between 31 = .ok (.iaload, 1) := by decide +kernel
theorem dX7_between_32 : decode cX7_between 32 = .ok (.iload_n 2, 1) := by decide +kernel
theorem dX7_between_33 : decode cX7_between 33 = .ok (.if_icmp .eq 25, 3) := by decide +kernel
theorem dX7_between_36 : decode cX7_between 36 = .ok (.aload_n 0, 1) := by decide +kernel
theorem dX7_between_37 : decode cX7_between 37 = .ok (.getfield 23, 3) := by decide +kernel
theorem dX7_between_40 : decode cX7_between 40 = .ok (.iload 4, 2) := by decide +kernel
theorem dX7_between_42 : decode cX7_between 42 = .ok (.iaload, 1) := by decide +kernel
theorem dX7_between_43 : decode cX7_between 43 = .ok (.iload_n 2, 1) := by decide +kernel
theorem dX7_between_44 : decode cX7_between 44 = .ok (.if_icmp .ne 18, 3) := by decide +kernel
theorem dX7_between_47 : decode cX7_between 47 = .ok (.aload_n 0, 1) := by decide +kernel
theorem dX7_between_48 : decode cX7_between 48 = .ok (.getfield 26, 3) := by decide +kernel
theorem dX7_between_51 : decode cX7_between 51 = .ok (.iload 4, 2) := by decide +kernel
theorem dX7_between_53 : decode cX7_between 53 = .ok (.iaload, 1) := by decide +kernel
theorem dX7_between_54 : decode cX7_between 54 = .ok (.iload_n 1, 1) := by decide +kernel
theorem dX7_between_55 : decode cX7_between 55 = .ok (.if_icmp .ne 7, 3) := by decide +kernel
theorem dX7_between_58 : decode cX7_between 58 = .ok (.iconst 1, 1) := by decide +kernel
theorem dX7_between_59 : decode cX7_between 59 = .ok (.goto 4, 3) := by decide +kernel
theorem dX7_between_62 : decode cX7_between 62 = .ok (.iconst 0, 1) := by decide +kernel
theorem dX7_between_63 : decode cX7_between 63 = .ok (.istore 5, 2) := by decide +kernel
theorem dX7_between_65 : decode cX7_between 65 = .ok (.iload 5, 2) := by decide +kernel
theorem dX7_between_67 : decode cX7_between 67 = .ok (.ifCond .eq 18, 3) := by decide +kernel
theorem dX7_between_70 : decode cX7_between 70 = .ok (.aload_n 0, 1) := by decide +kernel
theorem dX7_between_71 : decode cX7_between 71 = .ok (.getfield 35, 3) := by decide +kernel
theorem dX7_between_74 : decode cX7_between 74 = .ok (.iload 4, 2) := by decide +kernel
theorem dX7_between_76 : decode cX7_between 76 = .ok (.baload, 1) := by decide +kernel
theorem dX7_between_77 : decode cX7_between 77 = .ok (.ifCond .ne 8, 3) := by decide +kernel
theorem dX7_between_80 : decode cX7_between 80 = .ok (.iload 4, 2) := by decide +kernel
theorem dX7_between_82 : decode cX7_between 82 = .ok (.goto 4, 3) := by decide +kernel
theorem dX7_between_85 : decode cX7_between 85 = .ok (.iload_n 3, 1) := by decide +kernel
theorem dX7_between_86 : decode cX7_between 86 = .ok (.istore_n 3, 1) := by decide +kernel
theorem dX7_between_87 : decode cX7_between 87 = .ok (.iinc 4 1, 3) := by decide +kernel
theorem dX7_between_90 : decode cX7_between 90 = .ok (.goto (-85), 3) := by decide +kernel
theorem dX7_between_93 : decode cX7_between 93 = .ok (.iload_n 3, 1) := by decide +kernel
theorem dX7_between_94 : decode cX7_between 94 = .ok (.ireturn, 1) := by decide +kernel
theorem dX7_sets_0 : decode cX7_sets 0 = .ok (.aload_n 0, 1) := by decide +kernel
theorem dX7_sets_1 : decode cX7_sets 1 = .ok (.getfield 23, 3) := by decide +kernel
theorem dX7_sets_4 : decode cX7_sets 4 = .ok (.aload_n 0, 1) := by decide +kernel
theorem dX7_sets_5 : decode cX7_sets 5 = .ok (.getfield 83, 3) := by decide +kernel
theorem dX7_sets_8 : decode cX7_sets 8 = .ok (.iload_n 1, 1) := by decide +kernel
theorem dX7_sets_9 : decode cX7_sets 9 = .ok (.iastore, 1) := by decide +kernel
theorem dX7_sets_10 : decode cX7_sets 10 = .ok (.aload_n 0, 1) := by decide +kernel
theorem dX7_sets_11 : decode cX7_sets 11 = .ok (.getfield 26, 3) := by decide +kernel
theorem dX7_sets_14 : decode cX7_sets 14 = .ok (.aload_n 0, 1) := by decide +kernel
theorem dX7_sets_15 : decode cX7_sets 15 = .ok (.getfield 83, 3) := by decide +kernel
theorem dX7_sets_18 : decode cX7_sets 18 = .ok (.iload_n 2, 1) := by decide +kernel
theorem dX7_sets_19 : decode cX7_sets 19 = .ok (.iastore, 1) := by decide +kernel
theorem dX7_sets_20 : decode cX7_sets 20 = .ok (.aload_n 0, 1) := by decide +kernel
theorem dX7_sets_21 : decode cX7_sets 21 = .ok (.getfield 29, 3) := by decide +kernel
theorem dX7_sets_24 : decode cX7_sets 24 = .ok (.aload_n 0, 1) := by decide +kernel
theorem dX7_sets_25 : decode cX7_sets 25 = .ok (.getfield 83, 3) := by decide +kernel
theorem dX7_sets_28 : decode cX7_sets 28 = .ok (.iload_n 3, 1) := by decide +kernel
theorem dX7_sets_29 : decode cX7_sets 29 = .ok (.iastore, 1) := by decide +kernel
theorem dX7_sets_30 : decode cX7_sets 30 = .ok (.aload_n 0, 1) := by decide +kernel
theorem dX7_sets_31 : decode cX7_sets 31 = .ok (.dup, 1) := by decide +kernel
theorem dX7_sets_32 : decode cX7_sets 32 = .ok (.getfield 83, 3) := by decide +kernel
theorem dX7_sets_35 : decode cX7_sets 35 = .ok (.iconst 1, 1) := by decide +kernel
theorem dX7_sets_36 : decode cX7_sets 36 = .ok (.iadd, 1) := by decide +kernel
theorem dX7_sets_37 : decode cX7_sets 37 = .ok (.putfield 83, 3) := by decide +kernel
theorem dX7_sets_40 : decode cX7_sets 40 = .ok (.aload_n 0, 1) := by decide +kernel
theorem dX7_sets_41 : decode cX7_sets 41 = .ok (.getfield 83, 3) := by decide +kernel
theorem dX7_sets_44 : decode cX7_sets 44 = .ok (.iconst 1, 1) := by decide +kernel
theorem dX7_sets_45 : decode cX7_sets 45 = .ok (.isub, 1) := by decide +kernel
theorem dX7_sets_46 : decode cX7_sets 46 = .ok (.ireturn, 1) := by decide +kernel
set_option maxRecDepth 20000 in
theorem ggX7_member_X7_isJoint : GoodIn wsX7_member wsX7_isJoint := goodIn_r _ [6, 7, 8, 9, 5, 10, 28, 29, 30, 31, 32, 33, 34, 35, 36, 37, 38, 39, 40, 41, 42, 43, 44, 45, 46, 47, 48, 49, 50, 51, 52] (by decide +kernel) (by decide +kernel)
set_option maxRecDepth 20000 in
theorem gX7_member_X7_isJoint : GoodIn wsX7_member (wsV RX7 98 RX7 yX7_isJoint wsX7_isJoint) := goodIn_app (goodIn_of _ (by decide +kernel)) ggX7_member_X7_isJoint
set_option maxRecDepth 20000 in
theorem ggX7_member_X7_isIn : GoodIn wsX7_member wsX7_isIn := goodIn_r _ [10] (by decide +kernel) (by decide +kernel)
set_option maxRecDepth 20000 in
theorem gX7_member_X7_isIn : GoodIn wsX7_member (va_wsS RX7 79 yX7_isIn wsX7_isIn) := goodIn_app (goodIn_of _ (by decide +kernel)) ggX7_member_X7_isIn
set_option maxRecDepth 20000 in
theorem ggX7_member_X7_between : GoodIn wsX7_member wsX7_between := goodIn_r _ [14, 1, 15, 16, 17, 28, 29, 30, 31, 32, 33, 34, 35, 36, 37, 38, 39, 40, 41, 42, 43, 44, 45, 46, 47, 48, 49, 50, 51, 52] (by decide +kernel) (by decide +kernel)
set_option maxRecDepth 20000 in
theorem gX7_member_X7_between : GoodIn wsX7_member (wsV RX7 101 RX7 yX7_between wsX7_between) := goodIn_app (goodIn_of _ (by decide +kernel)) ggX7_member_X7_between
set_option maxRecDepth 20000 in
theorem ggX7_member_X7_holds : GoodIn wsX7_member wsX7_holds := goodIn_r _ [21, 22, 28, 29, 30, 31, 32, 33, 34, 35, 36, 37, 38, 39, 40, 41, 42, 43, 44, 45, 46, 47, 48, 49, 50, 51, 52] (by decide +kernel) (by decide +kernel)
set_option maxRecDepth 20000 in
theorem gX7_member_X7_holds : GoodIn wsX7_member (wsV RX7 90 RX7 yX7_holds wsX7_holds) := goodIn_app (goodIn_of _ (by decide +kernel)) ggX7_member_X7_holds
set_option maxRecDepth 20000 in
theorem ggX7_member_X7_sets : GoodIn wsX7_member wsX7_sets := goodIn_r _ [26, 15, 1, 16, 27, 28, 29, 30, 31, 32, 33, 34, 35, 36, 37, 38, 39, 40, 41, 42, 43, 44, 45, 46, 47, 48, 49, 50, 51, 52] (by decide +kernel) (by decide +kernel)
set_option maxRecDepth 20000 in
theorem gX7_member_X7_sets : GoodIn wsX7_member (wsV RX7 104 RX7 yX7_sets wsX7_sets) := goodIn_app (goodIn_of _ (by decide +kernel)) ggX7_member_X7_sets
theorem dX7_member_0 : decode cX7_member 0 = .ok (.aload_n 0, 1) := by decide +kernel
theorem dX7_member_1 : decode cX7_member 1 = .ok (.iload_n 1, 1) := by decide +kernel
theorem dX7_member_2 : decode cX7_member 2 = .ok (.invokevirtual 98, 3) := by decide +kernel
theorem dX7_member_5 : decode cX7_member 5 = .ok (.ifCond .eq 15, 3) := by decide +kernel
theorem dX7_member_8 : decode cX7_member 8 = .ok (.aload_n 0, 1) := by decide +kernel
theorem dX7_member_9 : decode cX7_member 9 = .ok (.iload_n 2, 1) := by decide +kernel
theorem dX7_member_10 : decode cX7_member 10 = .ok (.invokevirtual 98, 3) := by decide +kernel
theorem dX7_member_13 : decode cX7_member 13 = .ok (.ifCond .eq 7, 3) := by decide +kernel
theorem dX7_member_16 : decode cX7_member 16 = .ok (.iconst 1, 1) := by decide +kernel
theorem dX7_member_17 : decode cX7_member 17 = .ok (.goto 4, 3) := by decide +kernel
theorem dX7_member_20 : decode cX7_member 20 = .ok (.iconst 0, 1) := by decide +kernel
theorem dX7_member_21 : decode cX7_member 21 = .ok (.istore 4, 2) := by decide +kernel
theorem dX7_member_23 : decode cX7_member 23 = .ok (.iload_n 1, 1) := by decide +kernel
theorem dX7_member_24 : decode cX7_member 24 = .ok (.iload_n 2, 1) := by decide +kernel
theorem dX7_member_25 : decode cX7_member 25 = .ok (.if_icmp .eq 16, 3) := by decide +kernel
theorem dX7_member_28 : decode cX7_member 28 = .ok (.iload_n 3, 1) := by decide +kernel
theorem dX7_member_29 : decode cX7_member 29 = .ok (.iconst 0, 1) := by decide +kernel
theorem dX7_member_30 : decode cX7_member 30 = .ok (.iconst 2, 1) := by decide +kernel
theorem dX7_member_31 : decode cX7_member 31 = .ok (.invokestatic 79, 3) := by decide +kernel
theorem dX7_member_34 : decode cX7_member 34 = .ok (.ifCond .eq 7, 3) := by decide +kernel
theorem dX7_member_37 : decode cX7_member 37 = .ok (.iconst 1, 1) := by decide +kernel
theorem dX7_member_38 : decode cX7_member 38 = .ok (.goto 4, 3) := by decide +kernel
theorem dX7_member_41 : decode cX7_member 41 = .ok (.iconst 0, 1) := by decide +kernel
theorem dX7_member_42 : decode cX7_member 42 = .ok (.istore 5, 2) := by decide +kernel
theorem dX7_member_44 : decode cX7_member 44 = .ok (.iload 4, 2) := by decide +kernel
theorem dX7_member_46 : decode cX7_member 46 = .ok (.ifCond .eq 26, 3) := by decide +kernel
theorem dX7_member_49 : decode cX7_member 49 = .ok (.aload_n 0, 1) := by decide +kernel
theorem dX7_member_50 : decode cX7_member 50 = .ok (.getfield 83, 3) := by decide +kernel
theorem dX7_member_53 : decode cX7_member 53 = .ok (.bipush 40, 2) := by decide +kernel
theorem dX7_member_55 : decode cX7_member 55 = .ok (.if_icmp .ge 17, 3) := by decide +kernel
theorem dX7_member_58 : decode cX7_member 58 = .ok (.aload_n 0, 1) := by decide +kernel
theorem dX7_member_59 : decode cX7_member 59 = .ok (.iload_n 1, 1) := by decide +kernel
theorem dX7_member_60 : decode cX7_member 60 = .ok (.iload_n 2, 1) := by decide +kernel
theorem dX7_member_61 : decode cX7_member 61 = .ok (.invokevirtual 101, 3) := by decide +kernel
theorem dX7_member_64 : decode cX7_member 64 = .ok (.iconst (-1), 1) := by decide +kernel
theorem dX7_member_65 : decode cX7_member 65 = .ok (.if_icmp .ne 7, 3) := by decide +kernel
theorem dX7_member_68 : decode cX7_member 68 = .ok (.iconst 1, 1) := by decide +kernel
theorem dX7_member_69 : decode cX7_member 69 = .ok (.goto 4, 3) := by decide +kernel
theorem dX7_member_72 : decode cX7_member 72 = .ok (.iconst 0, 1) := by decide +kernel
theorem dX7_member_73 : decode cX7_member 73 = .ok (.istore 6, 2) := by decide +kernel
theorem dX7_member_75 : decode cX7_member 75 = .ok (.aload_n 0, 1) := by decide +kernel
theorem dX7_member_76 : decode cX7_member 76 = .ok (.iload 4, 2) := by decide +kernel
theorem dX7_member_78 : decode cX7_member 78 = .ok (.ifCond .ne 7, 3) := by decide +kernel
theorem dX7_member_81 : decode cX7_member 81 = .ok (.iconst 1, 1) := by decide +kernel
theorem dX7_member_82 : decode cX7_member 82 = .ok (.goto 22, 3) := by decide +kernel
theorem dX7_member_85 : decode cX7_member 85 = .ok (.iload 5, 2) := by decide +kernel
theorem dX7_member_87 : decode cX7_member 87 = .ok (.ifCond .ne 7, 3) := by decide +kernel
theorem dX7_member_90 : decode cX7_member 90 = .ok (.iconst 2, 1) := by decide +kernel
theorem dX7_member_91 : decode cX7_member 91 = .ok (.goto 13, 3) := by decide +kernel
theorem dX7_member_94 : decode cX7_member 94 = .ok (.iload 6, 2) := by decide +kernel
theorem dX7_member_96 : decode cX7_member 96 = .ok (.ifCond .eq 7, 3) := by decide +kernel
theorem dX7_member_99 : decode cX7_member 99 = .ok (.iconst 0, 1) := by decide +kernel
theorem dX7_member_100 : decode cX7_member 100 = .ok (.goto 4, 3) := by decide +kernel
theorem dX7_member_103 : decode cX7_member 103 = .ok (.iconst 3, 1) := by decide +kernel
theorem dX7_member_104 : decode cX7_member 104 = .ok (.invokevirtual 90, 3) := by decide +kernel
theorem dX7_member_107 : decode cX7_member 107 = .ok (.ifCond .eq 13, 3) := by decide +kernel
theorem dX7_member_110 : decode cX7_member 110 = .ok (.aload_n 0, 1) := by decide +kernel
theorem dX7_member_111 : decode cX7_member 111 = .ok (.iload_n 1, 1) := by decide +kernel
theorem dX7_member_112 : decode cX7_member 112 = .ok (.iload_n 2, 1) := by decide +kernel
theorem dX7_member_113 : decode cX7_member 113 = .ok (.iload_n 3, 1) := by decide +kernel
theorem dX7_member_114 : decode cX7_member 114 = .ok (.invokevirtual 104, 3) := by decide +kernel
theorem dX7_member_117 : decode cX7_member 117 = .ok (.goto 4, 3) := by decide +kernel
theorem dX7_member_120 : decode cX7_member 120 = .ok (.iconst 0, 1) := by decide +kernel
theorem dX7_member_121 : decode cX7_member 121 = .ok (.ireturn, 1) := by decide +kernel
theorem dX7_many_0 : decode cX7_many 0 = .ok (.iconst 0, 1) := by decide +kernel
theorem dX7_many_1 : decode cX7_many 1 = .ok (.istore_n 1, 1) := by decide +kernel
theorem dX7_many_2 : decode cX7_many 2 = .ok (.iconst 0, 1) := by decide +kernel
theorem dX7_many_3 : decode cX7_many 3 = .ok (.istore_n 2, 1) := by decide +kernel
theorem dX7_many_4 : decode cX7_many 4 = .ok (.iload_n 2, 1) := by decide +kernel
theorem dX7_many_5 : decode cX7_many 5 = .ok (.aload_n 0, 1) := by decide +kernel
theorem dX7_many_6 : decode cX7_many 6 = .ok (.getfield 83, 3) := by decide +kernel
theorem dX7_many_9 : decode cX7_many 9 = .ok (.if_icmp .ge 26, 3) := by decide +kernel
theorem dX7_many_12 : decode cX7_many 12 = .ok (.iload_n 1, 1) := by decide +kernel
theorem dX7_many_13 : decode cX7_many 13 = .ok (.aload_n 0, 1) := by decide +kernel
theorem dX7_many_14 : decode cX7_many 14 = .ok (.getfield 35, 3) := by decide +kernel
theorem dX7_many_17 : decode cX7_many 17 = .ok (.iload_n 2, 1) := by decide +kernel
theorem dX7_many_18 : decode cX7_many 18 = .ok (.baload, 1) := by decide +kernel
theorem dX7_many_19 : decode cX7_many 19 = .ok (.ifCond .eq 7, 3) := by decide +kernel
theorem dX7_many_22 : decode cX7_many 22 = .ok (.iconst 0, 1) := by decide +kernel
theorem dX7_many_23 : decode cX7_many 23 = .ok (.goto 4, 3) := by decide +kernel
theorem dX7_many_26 : decode cX7_many 26 = .ok (.iconst 1, 1) := by decide +kernel
theorem dX7_many_27 : decode cX7_many 27 = .ok (.iadd, 1) := by decide +kernel
theorem dX7_many_28 : decode cX7_many 28 = .ok (.istore_n 1, 1) := by decide +kernel
theorem dX7_many_29 : decode cX7_many 29 = .ok (.iinc 2 1, 3) := by decide +kernel
theorem dX7_many_32 : decode cX7_many 32 = .ok (.goto (-28), 3) := by decide +kernel
theorem dX7_many_35 : decode cX7_many 35 = .ok (.iload_n 1, 1) := by decide +kernel
theorem dX7_many_36 : decode cX7_many 36 = .ok (.ireturn, 1) := by decide +kernel
set_option maxRecDepth 20000 in
theorem ggX7_remove_X7_isMember : GoodIn wsX7_remove wsX7_isMember := goodIn_r _ [6, 7, 1, 8, 9, 5, 10, 20, 21, 22, 23, 24, 25, 26, 27, 28, 29, 30, 31, 32, 33, 34, 35, 36, 37, 38, 39, 40, 41, 42, 43, 44] (by decide +kernel) (by decide +kernel)
set_option maxRecDepth 20000 in
theorem gX7_remove_X7_isMember : GoodIn wsX7_remove (wsV RX7 108 RX7 yX7_isMember wsX7_isMember) := goodIn_app (goodIn_of _ (by decide +kernel)) ggX7_remove_X7_isMember
set_option maxRecDepth 20000 in
theorem ggX7_remove_X7_holds : GoodIn wsX7_remove wsX7_holds := goodIn_r _ [14, 15, 20, 21, 22, 23, 24, 25, 26, 27, 28, 29, 30, 31, 32, 33, 34, 35, 36, 37, 38, 39, 40, 41, 42, 43, 44] (by decide +kernel) (by decide +kernel)
set_option maxRecDepth 20000 in
theorem gX7_remove_X7_holds : GoodIn wsX7_remove (wsV RX7 90 RX7 yX7_holds wsX7_holds) := goodIn_app (goodIn_of _ (by decide +kernel)) ggX7_remove_X7_holds
set_option maxRecDepth 20000 in
theorem ggX7_remove_X7_many : GoodIn wsX7_remove wsX7_many := goodIn_r _ [19, 7, 1, 20, 21, 22, 23, 24, 25, 26, 27, 28, 29, 30, 31, 32, 33, 34, 35, 36, 37, 38, 39, 40, 41, 42, 43, 44] (by decide +kernel) (by decide +kernel)
set_option maxRecDepth 20000 in
theorem gX7_remove_X7_many : GoodIn wsX7_remove (wsV RX7 111 RX7 yX7_many wsX7_many) := goodIn_app (goodIn_of _ (by decide +kernel)) ggX7_remove_X7_many
theorem dX7_remove_0 : decode cX7_remove 0 = .ok (.aload_n 0, 1) := by decide +kernel
theorem dX7_remove_1 : decode cX7_remove 1 = .ok (.aload_n 0, 1) := by decide +kernel
theorem dX7_remove_2 : decode cX7_remove 2 = .ok (.iload_n 1, 1) := by decide +kernel
theorem dX7_remove_3 : decode cX7_remove 3 = .ok (.invokevirtual 108, 3) := by decide +kernel
theorem dX7_remove_6 : decode cX7_remove 6 = .ok (.ifCond .eq 7, 3) := by decide +kernel
theorem dX7_remove_9 : decode cX7_remove 9 = .ok (.iconst 0, 1) := by decide +kernel
theorem dX7_remove_10 : decode cX7_remove 10 = .ok (.goto 4, 3) := by decide +kernel
theorem dX7_remove_13 : decode cX7_remove 13 = .ok (.iconst 1, 1) := by decide +kernel
theorem dX7_remove_14 : decode cX7_remove 14 = .ok (.invokevirtual 90, 3) := by decide +kernel
theorem dX7_remove_17 : decode cX7_remove 17 = .ok (.ifCond .ne 5, 3) := by decide +kernel
theorem dX7_remove_20 : decode cX7_remove 20 = .ok (.iconst 0, 1) := by decide +kernel
theorem dX7_remove_21 : decode cX7_remove 21 = .ok (.ireturn, 1) := by decide +kernel
theorem dX7_remove_22 : decode cX7_remove 22 = .ok (.aload_n 0, 1) := by decide +kernel
theorem dX7_remove_23 : decode cX7_remove 23 = .ok (.getfield 35, 3) := by decide +kernel
theorem dX7_remove_26 : decode cX7_remove 26 = .ok (.iload_n 1, 1) := by decide +kernel
theorem dX7_remove_27 : decode cX7_remove 27 = .ok (.iconst 1, 1) := by decide +kernel
theorem dX7_remove_28 : decode cX7_remove 28 = .ok (.bastore, 1) := by decide +kernel
theorem dX7_remove_29 : decode cX7_remove 29 = .ok (.aload_n 0, 1) := by decide +kernel
theorem dX7_remove_30 : decode cX7_remove 30 = .ok (.invokevirtual 111, 3) := by decide +kernel
theorem dX7_remove_33 : decode cX7_remove 33 = .ok (.ireturn, 1) := by decide +kernel
theorem dX7_within_0 : decode cX7_within 0 = .ok (.lload_n 0, 1) := by decide +kernel
theorem dX7_within_1 : decode cX7_within 1 = .ok (.ldc2_w 115, 3) := by decide +kernel
theorem dX7_within_4 : decode cX7_within 4 = .ok (.lrem, 1) := by decide +kernel
theorem dX7_within_5 : decode cX7_within 5 = .ok (.lstore_n 2, 1) := by decide +kernel
theorem dX7_within_6 : decode cX7_within 6 = .ok (.lload_n 2, 1) := by decide +kernel
theorem dX7_within_7 : decode cX7_within 7 = .ok (.lconst 0, 1) := by decide +kernel
theorem dX7_within_8 : decode cX7_within 8 = .ok (.lcmp, 1) := by decide +kernel
theorem dX7_within_9 : decode cX7_within 9 = .ok (.ifCond .ge 11, 3) := by decide +kernel
theorem dX7_within_12 : decode cX7_within 12 = .ok (.lload_n 2, 1) := by decide +kernel
theorem dX7_within_13 : decode cX7_within 13 = .ok (.ldc2_w 115, 3) := by decide +kernel
theorem dX7_within_16 : decode cX7_within 16 = .ok (.ladd, 1) := by decide +kernel
theorem dX7_within_17 : decode cX7_within 17 = .ok (.goto 4, 3) := by decide +kernel
theorem dX7_within_20 : decode cX7_within 20 = .ok (.lload_n 2, 1) := by decide +kernel
theorem dX7_within_21 : decode cX7_within 21 = .ok (.lreturn, 1) := by decide +kernel
theorem dX7_inverse_0 : decode cX7_inverse 0 = .ok (.lconst 1, 1) := by decide +kernel
theorem dX7_inverse_1 : decode cX7_inverse 1 = .ok (.lstore_n 2, 1) := by decide +kernel
theorem dX7_inverse_2 : decode cX7_inverse 2 = .ok (.lload_n 0, 1) := by decide +kernel
theorem dX7_inverse_3 : decode cX7_inverse 3 = .ok (.lstore 4, 2) := by decide +kernel
theorem dX7_inverse_5 : decode cX7_inverse 5 = .ok (.ldc2_w 117, 3) := by decide +kernel
theorem dX7_inverse_8 : decode cX7_inverse 8 = .ok (.lstore 6, 2) := by decide +kernel
theorem dX7_inverse_10 : decode cX7_inverse 10 = .ok (.lload 6, 2) := by decide +kernel
theorem dX7_inverse_12 : decode cX7_inverse 12 = .ok (.lconst 0, 1) := by decide +kernel
theorem dX7_inverse_13 : decode cX7_inverse 13 = .ok (.lcmp, 1) := by decide +kernel
theorem dX7_inverse_14 : decode cX7_inverse 14 = .ok (.ifCond .le 49, 3) := by decide +kernel
theorem dX7_inverse_17 : decode cX7_inverse 17 = .ok (.lload 6, 2) := by decide +kernel
theorem dX7_inverse_19 : decode cX7_inverse 19 = .ok (.ldc2_w 119, 3) := by decide +kernel
theorem dX7_inverse_22 : decode cX7_inverse 22 = .ok (.lrem, 1) := by decide +kernel
theorem dX7_inverse_23 : decode cX7_inverse 23 = .ok (.lconst 1, 1) := by decide +kernel
theorem dX7_inverse_24 : decode cX7_inverse 24 = .ok (.lcmp, 1) := by decide +kernel
theorem dX7_inverse_25 : decode cX7_inverse 25 = .ok (.ifCond .ne 14, 3) := by decide +kernel
theorem dX7_inverse_28 : decode cX7_inverse 28 = .ok (.lload_n 2, 1) := by decide +kernel
theorem dX7_inverse_29 : decode cX7_inverse 29 = .ok (.lload 4, 2) := by decide +kernel
theorem dX7_inverse_31 : decode cX7_inverse 31 = .ok (.lmul, 1) := by decide +kernel
theorem dX7_inverse_32 : decode cX7_inverse 32 = .ok (.ldc2_w 115, 3) := by decide +kernel
theorem dX7_inverse_35 : decode cX7_inverse 35 = .ok (.lrem, 1) := by decide +kernel
theorem dX7_inverse_36 : decode cX7_inverse 36 = .ok (.goto 4, 3) := by decide +kernel
theorem dX7_inverse_39 : decode cX7_inverse 39 = .ok (.lload_n 2, 1) := by decide +kernel
theorem dX7_inverse_40 : decode cX7_inverse 40 = .ok (.lstore_n 2, 1) := by decide +kernel
theorem dX7_inverse_41 : decode cX7_inverse 41 = .ok (.lload 4, 2) := by decide +kernel
theorem dX7_inverse_43 : decode cX7_inverse 43 = .ok (.lload 4, 2) := by decide +kernel
theorem dX7_inverse_45 : decode cX7_inverse 45 = .ok (.lmul, 1) := by decide +kernel
theorem dX7_inverse_46 : decode cX7_inverse 46 = .ok (.ldc2_w 115, 3) := by decide +kernel
theorem dX7_inverse_49 : decode cX7_inverse 49 = .ok (.lrem, 1) := by decide +kernel
theorem dX7_inverse_50 : decode cX7_inverse 50 = .ok (.lstore 4, 2) := by decide +kernel
theorem dX7_inverse_52 : decode cX7_inverse 52 = .ok (.lload 6, 2) := by decide +kernel
theorem dX7_inverse_54 : decode cX7_inverse 54 = .ok (.ldc2_w 119, 3) := by decide +kernel
theorem dX7_inverse_57 : decode cX7_inverse 57 = .ok (.ldiv, 1) := by decide +kernel
theorem dX7_inverse_58 : decode cX7_inverse 58 = .ok (.lstore 6, 2) := by decide +kernel
theorem dX7_inverse_60 : decode cX7_inverse 60 = .ok (.goto (-50), 3) := by decide +kernel
theorem dX7_inverse_63 : decode cX7_inverse 63 = .ok (.lload_n 2, 1) := by decide +kernel
theorem dX7_inverse_64 : decode cX7_inverse 64 = .ok (.lreturn, 1) := by decide +kernel
theorem dX7_laysJoints_0 : decode cX7_laysJoints 0 = .ok (.aload_n 0, 1) := by decide +kernel
theorem dX7_laysJoints_1 : decode cX7_laysJoints 1 = .ok (.iconst 0, 1) := by decide +kernel
theorem dX7_laysJoints_2 : decode cX7_laysJoints 2 = .ok (.putfield 121, 3) := by decide +kernel
theorem dX7_laysJoints_5 : decode cX7_laysJoints 5 = .ok (.iconst 0, 1) := by decide +kernel
theorem dX7_laysJoints_6 : decode cX7_laysJoints 6 = .ok (.istore_n 1, 1) := by decide +kernel
theorem dX7_laysJoints_7 : decode cX7_laysJoints 7 = .ok (.iload_n 1, 1) := by decide +kernel
theorem dX7_laysJoints_8 : decode cX7_laysJoints 8 = .ok (.aload_n 0, 1) := by decide +kernel
theorem dX7_laysJoints_9 : decode cX7_laysJoints 9 = .ok (.getfield 76, 3) := by decide +kernel
theorem dX7_laysJoints_12 : decode cX7_laysJoints 12 = .ok (.if_icmp .ge 81, 3) := by decide +kernel
theorem dX7_laysJoints_15 : decode cX7_laysJoints 15 = .ok (.aload_n 0, 1) := by decide +kernel
theorem dX7_laysJoints_16 : decode cX7_laysJoints 16 = .ok (.getfield 50, 3) := by decide +kernel
theorem dX7_laysJoints_19 : decode cX7_laysJoints 19 = .ok (.iload_n 1, 1) := by decide +kernel
theorem dX7_laysJoints_20 : decode cX7_laysJoints 20 = .ok (.aload_n 0, 1) := by decide +kernel
theorem dX7_laysJoints_21 : decode cX7_laysJoints 21 = .ok (.getfield 7, 3) := by decide +kernel
theorem dX7_laysJoints_24 : decode cX7_laysJoints 24 = .ok (.iload_n 1, 1) := by decide +kernel
theorem dX7_laysJoints_25 : decode cX7_laysJoints 25 = .ok (.iaload, 1) := by decide +kernel
theorem dX7_laysJoints_26 : decode cX7_laysJoints 26 = .ok (.i2l, 1) := by decide +kernel
theorem dX7_laysJoints_27 : decode cX7_laysJoints 27 = .ok (.lastore, 1) := by decide +kernel
theorem dX7_laysJoints_28 : decode cX7_laysJoints 28 = .ok (.aload_n 0, 1) := by decide +kernel
theorem dX7_laysJoints_29 : decode cX7_laysJoints 29 = .ok (.getfield 54, 3) := by decide +kernel
theorem dX7_laysJoints_32 : decode cX7_laysJoints 32 = .ok (.iload_n 1, 1) := by decide +kernel
theorem dX7_laysJoints_33 : decode cX7_laysJoints 33 = .ok (.aload_n 0, 1) := by decide +kernel
theorem dX7_laysJoints_34 : decode cX7_laysJoints 34 = .ok (.getfield 13, 3) := by decide +kernel
theorem dX7_laysJoints_37 : decode cX7_laysJoints 37 = .ok (.iload_n 1, 1) := by decide +kernel
theorem dX7_laysJoints_38 : decode cX7_laysJoints 38 = .ok (.iaload, 1) := by decide +kernel
theorem dX7_laysJoints_39 : decode cX7_laysJoints 39 = .ok (.i2l, 1) := by decide +kernel
theorem dX7_laysJoints_40 : decode cX7_laysJoints 40 = .ok (.lastore, 1) := by decide +kernel
theorem dX7_laysJoints_41 : decode cX7_laysJoints 41 = .ok (.aload_n 0, 1) := by decide +kernel
theorem dX7_laysJoints_42 : decode cX7_laysJoints 42 = .ok (.getfield 57, 3) := by decide +kernel
theorem dX7_laysJoints_45 : decode cX7_laysJoints 45 = .ok (.iload_n 1, 1) := by decide +kernel
theorem dX7_laysJoints_46 : decode cX7_laysJoints 46 = .ok (.aload_n 0, 1) := by decide +kernel
theorem dX7_laysJoints_47 : decode cX7_laysJoints 47 = .ok (.getfield 16, 3) := by decide +kernel
theorem dX7_laysJoints_50 : decode cX7_laysJoints 50 = .ok (.iload_n 1, 1) := by decide +kernel
theorem dX7_laysJoints_51 : decode cX7_laysJoints 51 = .ok (.baload, 1) := by decide +kernel
theorem dX7_laysJoints_52 : decode cX7_laysJoints 52 = .ok (.ifCond .eq 7, 3) := by decide +kernel
theorem dX7_laysJoints_55 : decode cX7_laysJoints 55 = .ok (.iconst (-1), 1) := by decide +kernel
theorem dX7_laysJoints_56 : decode cX7_laysJoints 56 = .ok (.goto 7, 3) := by decide +kernel
theorem dX7_laysJoints_59 : decode cX7_laysJoints 59 = .ok (.aload_n 0, 1) := by decide +kernel
theorem dX7_laysJoints_60 : decode cX7_laysJoints 60 = .ok (.getfield 121, 3) := by decide +kernel
theorem dX7_laysJoints_63 : decode cX7_laysJoints 63 = .ok (.iastore, 1) := by decide +kernel
theorem dX7_laysJoints_64 : decode cX7_laysJoints 64 = .ok (.aload_n 0, 1) := by decide +kernel
theorem dX7_laysJoints_65 : decode cX7_laysJoints 65 = .ok (.dup, 1) := by decide +kernel
theorem dX7_laysJoints_66 : decode cX7_laysJoints 66 = .ok (.getfield 121, 3) := by decide +kernel
theorem dX7_laysJoints_69 : decode cX7_laysJoints 69 = .ok (.aload_n 0, 1) := by decide +kernel
theorem dX7_laysJoints_70 : decode cX7_laysJoints 70 = .ok (.getfield 16, 3) := by decide +kernel
theorem dX7_laysJoints_73 : decode cX7_laysJoints 73 = .ok (.iload_n 1, 1) := by decide +kernel
theorem dX7_laysJoints_74 : decode cX7_laysJoints 74 = .ok (.baload, 1) := by decide +kernel
theorem dX7_laysJoints_75 : decode cX7_laysJoints 75 = .ok (.ifCond .eq 7, 3) := by decide +kernel
theorem dX7_laysJoints_78 : decode cX7_laysJoints 78 = .ok (.iconst 0, 1) := by decide +kernel
theorem dX7_laysJoints_79 : decode cX7_laysJoints 79 = .ok (.goto 4, 3) := by decide +kernel
theorem dX7_laysJoints_82 : decode cX7_laysJoints 82 = .ok (.iconst 2, 1) := by decide +kernel
theorem dX7_laysJoints_83 : decode cX7_laysJoints 83 = .ok (.iadd, 1) := by decide +kernel
theorem dX7_laysJoints_84 : decode cX7_laysJoints 84 = .ok (.putfield 121, 3) := by decide +kernel
theorem dX7_laysJoints_87 : decode cX7_laysJoints 87 = .ok (.iinc 1 1, 3) := by decide +kernel
theorem dX7_laysJoints_90 : decode cX7_laysJoints 90 = .ok (.goto (-83), 3) := by decide +kernel
theorem dX7_laysJoints_93 : decode cX7_laysJoints 93 = .ok (.return_, 1) := by decide +kernel
set_option maxRecDepth 20000 in
theorem ggX7_laysAt_X7_within : GoodIn wsX7_laysAt wsX7_within := goodIn_r _ [6, 7] (by decide +kernel) (by decide +kernel)
set_option maxRecDepth 20000 in
theorem gX7_laysAt_X7_within : GoodIn wsX7_laysAt (va_wsS RX7 124 yX7_within wsX7_within) := goodIn_app (goodIn_of _ (by decide +kernel)) ggX7_laysAt_X7_within
theorem dX7_laysAt_0 : decode cX7_laysAt 0 = .ok (.aload_n 0, 1) := by decide +kernel
theorem dX7_laysAt_1 : decode cX7_laysAt 1 = .ok (.getfield 57, 3) := by decide +kernel
theorem dX7_laysAt_4 : decode cX7_laysAt 4 = .ok (.iload_n 2, 1) := by decide +kernel
theorem dX7_laysAt_5 : decode cX7_laysAt 5 = .ok (.iaload, 1) := by decide +kernel
theorem dX7_laysAt_6 : decode cX7_laysAt 6 = .ok (.iconst (-1), 1) := by decide +kernel
theorem dX7_laysAt_7 : decode cX7_laysAt 7 = .ok (.if_icmp .eq 70, 3) := by decide +kernel
theorem dX7_laysAt_10 : decode cX7_laysAt 10 = .ok (.iload 7, 2) := by decide +kernel
theorem dX7_laysAt_12 : decode cX7_laysAt 12 = .ok (.ifCond .eq 17, 3) := by decide +kernel
theorem dX7_laysAt_15 : decode cX7_laysAt 15 = .ok (.bipush 40, 2) := by decide +kernel
theorem dX7_laysAt_17 : decode cX7_laysAt 17 = .ok (.aload_n 0, 1) := by decide +kernel
theorem dX7_laysAt_18 : decode cX7_laysAt 18 = .ok (.getfield 57, 3) := by decide +kernel
theorem dX7_laysAt_21 : decode cX7_laysAt 21 = .ok (.iload_n 2, 1) := by decide +kernel
theorem dX7_laysAt_22 : decode cX7_laysAt 22 = .ok (.iaload, 1) := by decide +kernel
theorem dX7_laysAt_23 : decode cX7_laysAt 23 = .ok (.imul, 1) := by decide +kernel
theorem dX7_laysAt_24 : decode cX7_laysAt 24 = .ok (.iload_n 1, 1) := by decide +kernel
theorem dX7_laysAt_25 : decode cX7_laysAt 25 = .ok (.iadd, 1) := by decide +kernel
theorem dX7_laysAt_26 : decode cX7_laysAt 26 = .ok (.goto 14, 3) := by decide +kernel
theorem dX7_laysAt_29 : decode cX7_laysAt 29 = .ok (.bipush 40, 2) := by decide +kernel
theorem dX7_laysAt_31 : decode cX7_laysAt 31 = .ok (.iload_n 1, 1) := by decide +kernel
theorem dX7_laysAt_32 : decode cX7_laysAt 32 = .ok (.imul, 1) := by decide +kernel
theorem dX7_laysAt_33 : decode cX7_laysAt 33 = .ok (.aload_n 0, 1) := by decide +kernel
theorem dX7_laysAt_34 : decode cX7_laysAt 34 = .ok (.getfield 57, 3) := by decide +kernel
theorem dX7_laysAt_37 : decode cX7_laysAt 37 = .ok (.iload_n 2, 1) := by decide +kernel
theorem dX7_laysAt_38 : decode cX7_laysAt 38 = .ok (.iaload, 1) := by decide +kernel
theorem dX7_laysAt_39 : decode cX7_laysAt 39 = .ok (.iadd, 1) := by decide +kernel
theorem dX7_laysAt_40 : decode cX7_laysAt 40 = .ok (.istore 8, 2) := by decide +kernel
theorem dX7_laysAt_42 : decode cX7_laysAt 42 = .ok (.aload_n 0, 1) := by decide +kernel
theorem dX7_laysAt_43 : decode cX7_laysAt 43 = .ok (.getfield 60, 3) := by decide +kernel
theorem dX7_laysAt_46 : decode cX7_laysAt 46 = .ok (.iload 8, 2) := by decide +kernel
theorem dX7_laysAt_48 : decode cX7_laysAt 48 = .ok (.lload_n 3, 1) := by decide +kernel
theorem dX7_laysAt_49 : decode cX7_laysAt 49 = .ok (.invokestatic 124, 3) := by decide +kernel
theorem dX7_laysAt_52 : decode cX7_laysAt 52 = .ok (.lastore, 1) := by decide +kernel
theorem dX7_laysAt_53 : decode cX7_laysAt 53 = .ok (.aload_n 0, 1) := by decide +kernel
theorem dX7_laysAt_54 : decode cX7_laysAt 54 = .ok (.getfield 60, 3) := by decide +kernel
theorem dX7_laysAt_57 : decode cX7_laysAt 57 = .ok (.iload 8, 2) := by decide +kernel
theorem dX7_laysAt_59 : decode cX7_laysAt 59 = .ok (.iload 7, 2) := by decide +kernel
theorem dX7_laysAt_61 : decode cX7_laysAt 61 = .ok (.ifCond .eq 8, 3) := by decide +kernel
theorem dX7_laysAt_64 : decode cX7_laysAt 64 = .ok (.bipush 40, 2) := by decide +kernel
theorem dX7_laysAt_66 : decode cX7_laysAt 66 = .ok (.goto 4, 3) := by decide +kernel
theorem dX7_laysAt_69 : decode cX7_laysAt 69 = .ok (.iconst 1, 1) := by decide +kernel
theorem dX7_laysAt_70 : decode cX7_laysAt 70 = .ok (.iadd, 1) := by decide +kernel
theorem dX7_laysAt_71 : decode cX7_laysAt 71 = .ok (.lload 5, 2) := by decide +kernel
theorem dX7_laysAt_73 : decode cX7_laysAt 73 = .ok (.invokestatic 124, 3) := by decide +kernel
theorem dX7_laysAt_76 : decode cX7_laysAt 76 = .ok (.lastore, 1) := by decide +kernel
theorem dX7_laysAt_77 : decode cX7_laysAt 77 = .ok (.return_, 1) := by decide +kernel
set_option maxRecDepth 20000 in
theorem ggX7_laysMatrix_X7_laysAt : GoodIn wsX7_laysMatrix wsX7_laysAt := goodIn_r _ [12, 13, 1, 14, 15, 11, 16, 17, 18, 19, 20, 21, 22, 23, 24, 25, 26, 27, 28, 29, 30, 31, 32, 33, 34, 35, 36, 37, 38, 39, 40, 41, 42] (by decide +kernel) (by decide +kernel)
set_option maxRecDepth 20000 in
theorem gX7_laysMatrix_X7_laysAt : GoodIn wsX7_laysMatrix (wsV RX7 128 RX7 yX7_laysAt wsX7_laysAt) := goodIn_app (goodIn_of _ (by decide +kernel)) ggX7_laysMatrix_X7_laysAt
theorem dX7_laysMatrix_0 : decode cX7_laysMatrix 0 = .ok (.iconst 0, 1) := by decide +kernel
theorem dX7_laysMatrix_1 : decode cX7_laysMatrix 1 = .ok (.istore_n 3, 1) := by decide +kernel
theorem dX7_laysMatrix_2 : decode cX7_laysMatrix 2 = .ok (.iload_n 3, 1) := by decide +kernel
theorem dX7_laysMatrix_3 : decode cX7_laysMatrix 3 = .ok (.sipush 1600, 3) := by decide +kernel
theorem dX7_laysMatrix_6 : decode cX7_laysMatrix 6 = .ok (.if_icmp .ge 16, 3) := by decide +kernel
theorem dX7_laysMatrix_9 : decode cX7_laysMatrix 9 = .ok (.aload_n 0, 1) := by decide +kernel
theorem dX7_laysMatrix_10 : decode cX7_laysMatrix 10 = .ok (.getfield 60, 3) := by decide +kernel
theorem dX7_laysMatrix_13 : decode cX7_laysMatrix 13 = .ok (.iload_n 3, 1) := by decide +kernel
theorem dX7_laysMatrix_14 : decode cX7_laysMatrix 14 = .ok (.lconst 0, 1) := by decide +kernel
theorem dX7_laysMatrix_15 : decode cX7_laysMatrix 15 = .ok (.lastore, 1) := by decide +kernel
theorem dX7_laysMatrix_16 : decode cX7_laysMatrix 16 = .ok (.iinc 3 1, 3) := by decide +kernel
theorem dX7_laysMatrix_19 : decode cX7_laysMatrix 19 = .ok (.goto (-17), 3) := by decide +kernel
theorem dX7_laysMatrix_22 : decode cX7_laysMatrix 22 = .ok (.iconst 0, 1) := by decide +kernel
theorem dX7_laysMatrix_23 : decode cX7_laysMatrix 23 = .ok (.istore_n 3, 1) := by decide +kernel
theorem dX7_laysMatrix_24 : decode cX7_laysMatrix 24 = .ok (.iconst 0, 1) := by decide +kernel
theorem dX7_laysMatrix_25 : decode cX7_laysMatrix 25 = .ok (.istore 4, 2) := by decide +kernel
theorem dX7_laysMatrix_27 : decode cX7_laysMatrix 27 = .ok (.iload 4, 2) := by decide +kernel
theorem dX7_laysMatrix_29 : decode cX7_laysMatrix 29 = .ok (.aload_n 0, 1) := by decide +kernel
theorem dX7_laysMatrix_30 : decode cX7_laysMatrix 30 = .ok (.getfield 83, 3) := by decide +kernel
theorem dX7_laysMatrix_33 : decode cX7_laysMatrix 33 = .ok (.if_icmp .ge 118, 3) := by decide +kernel
theorem dX7_laysMatrix_36 : decode cX7_laysMatrix 36 = .ok (.aload_n 0, 1) := by decide +kernel
theorem dX7_laysMatrix_37 : decode cX7_laysMatrix 37 = .ok (.getfield 35, 3) := by decide +kernel
theorem dX7_laysMatrix_40 : decode cX7_laysMatrix 40 = .ok (.iload 4, 2) := by decide +kernel
theorem dX7_laysMatrix_42 : decode cX7_laysMatrix 42 = .ok (.baload, 1) := by decide +kernel
theorem dX7_laysMatrix_43 : decode cX7_laysMatrix 43 = .ok (.ifCond .ne 102, 3) := by decide +kernel
theorem dX7_laysMatrix_46 : decode cX7_laysMatrix 46 = .ok (.iload 4, 2) := by decide +kernel
theorem dX7_laysMatrix_48 : decode cX7_laysMatrix 48 = .ok (.iload_n 1, 1) := by decide +kernel
theorem dX7_laysMatrix_49 : decode cX7_laysMatrix 49 = .ok (.if_icmp .eq 96, 3) := by decide +kernel
theorem dX7_laysMatrix_52 : decode cX7_laysMatrix 52 = .ok (.aload_n 0, 1) := by decide +kernel
theorem dX7_laysMatrix_53 : decode cX7_laysMatrix 53 = .ok (.getfield 50, 3) := by decide +kernel
theorem dX7_laysMatrix_56 : decode cX7_laysMatrix 56 = .ok (.aload_n 0, 1) := by decide +kernel
theorem dX7_laysMatrix_57 : decode cX7_laysMatrix 57 = .ok (.getfield 23, 3) := by decide +kernel
theorem dX7_laysMatrix_60 : decode cX7_laysMatrix 60 = .ok (.iload 4, 2) := by decide +kernel
theorem dX7_laysMatrix_62 : decode cX7_laysMatrix 62 = .ok (.iaload, 1) := by decide +kernel
theorem dX7_laysMatrix_63 : decode cX7_laysMatrix 63 = .ok (.laload, 1) := by decide +kernel
theorem dX7_laysMatrix_64 : decode cX7_laysMatrix 64 = .ok (.aload_n 0, 1) := by decide +kernel
theorem dX7_laysMatrix_65 : decode cX7_laysMatrix 65 = .ok (.getfield 50, 3) := by decide +kernel
theorem dX7_laysMatrix_68 : decode cX7_laysMatrix 68 = .ok (.aload_n 0, 1) := by decide +kernel
theorem dX7_laysMatrix_69 : decode cX7_laysMatrix 69 = .ok (.getfield 26, 3) := by decide +kernel
theorem dX7_laysMatrix_72 : decode cX7_laysMatrix 72 = .ok (.iload 4, 2) := by decide +kernel
theorem dX7_laysMatrix_74 : decode cX7_laysMatrix 74 = .ok (.iaload, 1) := by decide +kernel
theorem dX7_laysMatrix_75 : decode cX7_laysMatrix 75 = .ok (.laload, 1) := by decide +kernel
theorem dX7_laysMatrix_76 : decode cX7_laysMatrix 76 = .ok (.lsub, 1) := by decide +kernel
theorem dX7_laysMatrix_77 : decode cX7_laysMatrix 77 = .ok (.lstore 5, 2) := by decide +kernel
theorem dX7_laysMatrix_79 : decode cX7_laysMatrix 79 = .ok (.aload_n 0, 1) := by decide +kernel
theorem dX7_laysMatrix_80 : decode cX7_laysMatrix 80 = .ok (.getfield 54, 3) := by decide +kernel
theorem dX7_laysMatrix_83 : decode cX7_laysMatrix 83 = .ok (.aload_n 0, 1) := by decide +kernel
theorem dX7_laysMatrix_84 : decode cX7_laysMatrix 84 = .ok (.getfield 23, 3) := by decide +kernel
theorem dX7_laysMatrix_87 : decode cX7_laysMatrix 87 = .ok (.iload 4, 2) := by decide +kernel
theorem dX7_laysMatrix_89 : decode cX7_laysMatrix 89 = .ok (.iaload, 1) := by decide +kernel
theorem dX7_laysMatrix_90 : decode cX7_laysMatrix 90 = .ok (.laload, 1) := by decide +kernel
theorem dX7_laysMatrix_91 : decode cX7_laysMatrix 91 = .ok (.aload_n 0, 1) := by decide +kernel
theorem dX7_laysMatrix_92 : decode cX7_laysMatrix 92 = .ok (.getfield 54, 3) := by decide +kernel
theorem dX7_laysMatrix_95 : decode cX7_laysMatrix 95 = .ok (.aload_n 0, 1) := by decide +kernel
theorem dX7_laysMatrix_96 : decode cX7_laysMatrix 96 = .ok (.getfield 26, 3) := by decide +kernel
theorem dX7_laysMatrix_99 : decode cX7_laysMatrix 99 = .ok (.iload 4, 2) := by decide +kernel
theorem dX7_laysMatrix_101 : decode cX7_laysMatrix 101 = .ok (.iaload, 1) := by decide +kernel
theorem dX7_laysMatrix_102 : decode cX7_laysMatrix 102 = .ok (.laload, 1) := by decide +kernel
theorem dX7_laysMatrix_103 : decode cX7_laysMatrix 103 = .ok (.lsub, 1) := by decide +kernel
theorem dX7_laysMatrix_104 : decode cX7_laysMatrix 104 = .ok (.lstore 7, 2) := by decide +kernel
theorem dX7_laysMatrix_106 : decode cX7_laysMatrix 106 = .ok (.aload_n 0, 1) := by decide +kernel
theorem dX7_laysMatrix_107 : decode cX7_laysMatrix 107 = .ok (.iload_n 3, 1) := by decide +kernel
theorem dX7_laysMatrix_108 : decode cX7_laysMatrix 108 = .ok (.aload_n 0, 1) := by decide +kernel
theorem dX7_laysMatrix_109 : decode cX7_laysMatrix 109 = .ok (.getfield 23, 3) := by decide +kernel
theorem dX7_laysMatrix_112 : decode cX7_laysMatrix 112 = .ok (.iload 4, 2) := by decide +kernel
theorem dX7_laysMatrix_114 : decode cX7_laysMatrix 114 = .ok (.iaload, 1) := by decide +kernel
theorem dX7_laysMatrix_115 : decode cX7_laysMatrix 115 = .ok (.lload 5, 2) := by decide +kernel
theorem dX7_laysMatrix_117 : decode cX7_laysMatrix 117 = .ok (.lload 7, 2) := by decide +kernel
theorem dX7_laysMatrix_119 : decode cX7_laysMatrix 119 = .ok (.iload_n 2, 1) := by decide +kernel
theorem dX7_laysMatrix_120 : decode cX7_laysMatrix 120 = .ok (.invokevirtual 128, 3) := by decide +kernel
theorem dX7_laysMatrix_123 : decode cX7_laysMatrix 123 = .ok (.aload_n 0, 1) := by decide +kernel
theorem dX7_laysMatrix_124 : decode cX7_laysMatrix 124 = .ok (.iload_n 3, 1) := by decide +kernel
theorem dX7_laysMatrix_125 : decode cX7_laysMatrix 125 = .ok (.aload_n 0, 1) := by decide +kernel
theorem dX7_laysMatrix_126 : decode cX7_laysMatrix 126 = .ok (.getfield 26, 3) := by decide +kernel
theorem dX7_laysMatrix_129 : decode cX7_laysMatrix 129 = .ok (.iload 4, 2) := by decide +kernel
theorem dX7_laysMatrix_131 : decode cX7_laysMatrix 131 = .ok (.iaload, 1) := by decide +kernel
theorem dX7_laysMatrix_132 : decode cX7_laysMatrix 132 = .ok (.lload 5, 2) := by decide +kernel
theorem dX7_laysMatrix_134 : decode cX7_laysMatrix 134 = .ok (.lneg, 1) := by decide +kernel
theorem dX7_laysMatrix_135 : decode cX7_laysMatrix 135 = .ok (.lload 7, 2) := by decide +kernel
theorem dX7_laysMatrix_137 : decode cX7_laysMatrix 137 = .ok (.lneg, 1) := by decide +kernel
theorem dX7_laysMatrix_138 : decode cX7_laysMatrix 138 = .ok (.iload_n 2, 1) := by decide +kernel
theorem dX7_laysMatrix_139 : decode cX7_laysMatrix 139 = .ok (.invokevirtual 128, 3) := by decide +kernel
theorem dX7_laysMatrix_142 : decode cX7_laysMatrix 142 = .ok (.iinc 3 1, 3) := by decide +kernel
theorem dX7_laysMatrix_145 : decode cX7_laysMatrix 145 = .ok (.iinc 4 1, 3) := by decide +kernel
theorem dX7_laysMatrix_148 : decode cX7_laysMatrix 148 = .ok (.goto (-121), 3) := by decide +kernel
theorem dX7_laysMatrix_151 : decode cX7_laysMatrix 151 = .ok (.iload_n 3, 1) := by decide +kernel
theorem dX7_laysMatrix_152 : decode cX7_laysMatrix 152 = .ok (.ireturn, 1) := by decide +kernel
theorem dX7_swaps_0 : decode cX7_swaps 0 = .ok (.iconst 0, 1) := by decide +kernel
theorem dX7_swaps_1 : decode cX7_swaps 1 = .ok (.istore_n 3, 1) := by decide +kernel
theorem dX7_swaps_2 : decode cX7_swaps 2 = .ok (.iload_n 3, 1) := by decide +kernel
theorem dX7_swaps_3 : decode cX7_swaps 3 = .ok (.bipush 40, 2) := by decide +kernel
theorem dX7_swaps_5 : decode cX7_swaps 5 = .ok (.if_icmp .ge 57, 3) := by decide +kernel
theorem dX7_swaps_8 : decode cX7_swaps 8 = .ok (.aload_n 0, 1) := by decide +kernel
theorem dX7_swaps_9 : decode cX7_swaps 9 = .ok (.getfield 60, 3) := by decide +kernel
theorem dX7_swaps_12 : decode cX7_swaps 12 = .ok (.bipush 40, 2) := by decide +kernel
theorem dX7_swaps_14 : decode cX7_swaps 14 = .ok (.iload_n 1, 1) := by decide +kernel
theorem dX7_swaps_15 : decode cX7_swaps 15 = .ok (.imul, 1) := by decide +kernel
theorem dX7_swaps_16 : decode cX7_swaps 16 = .ok (.iload_n 3, 1) := by decide +kernel
theorem dX7_swaps_17 : decode cX7_swaps 17 = .ok (.iadd, 1) := by decide +kernel
theorem dX7_swaps_18 : decode cX7_swaps 18 = .ok (.laload, 1) := by decide +kernel
theorem dX7_swaps_19 : decode cX7_swaps 19 = .ok (.lstore 4, 2) := by decide +kernel
theorem dX7_swaps_21 : decode cX7_swaps 21 = .ok (.aload_n 0, 1) := by decide +kernel
theorem dX7_swaps_22 : decode cX7_swaps 22 = .ok (.getfield 60, 3) := by decide +kernel
theorem dX7_swaps_25 : decode cX7_swaps 25 = .ok (.bipush 40, 2) := by decide +kernel
theorem dX7_swaps_27 : decode cX7_swaps 27 = .ok (.iload_n 1, 1) := by decide +kernel
theorem dX7_swaps_28 : decode cX7_swaps 28 = .ok (.imul, 1) := by decide +kernel
theorem dX7_swaps_29 : decode cX7_swaps 29 = .ok (.iload_n 3, 1) := by decide +kernel
theorem dX7_swaps_30 : decode cX7_swaps 30 = .ok (.iadd, 1) := by decide +kernel
theorem dX7_swaps_31 : decode cX7_swaps 31 = .ok (.aload_n 0, 1) := by decide +kernel
theorem dX7_swaps_32 : decode cX7_swaps 32 = .ok (.getfield 60, 3) := by decide +kernel
theorem dX7_swaps_35 : decode cX7_swaps 35 = .ok (.bipush 40, 2) := by decide +kernel
theorem dX7_swaps_37 : decode cX7_swaps 37 = .ok (.iload_n 2, 1) := by decide +kernel
theorem dX7_swaps_38 : decode cX7_swaps 38 = .ok (.imul, 1) := by decide +kernel
theorem dX7_swaps_39 : decode cX7_swaps 39 = .ok (.iload_n 3, 1) := by decide +kernel
theorem dX7_swaps_40 : decode cX7_swaps 40 = .ok (.iadd, 1) := by decide +kernel
theorem dX7_swaps_41 : decode cX7_swaps 41 = .ok (.laload, 1) := by decide +kernel
theorem dX7_swaps_42 : decode cX7_swaps 42 = .ok (.lastore, 1) := by decide +kernel
theorem dX7_swaps_43 : decode cX7_swaps 43 = .ok (.aload_n 0, 1) := by decide +kernel
theorem dX7_swaps_44 : decode cX7_swaps 44 = .ok (.getfield 60, 3) := by decide +kernel
theorem dX7_swaps_47 : decode cX7_swaps 47 = .ok (.bipush 40, 2) := by decide +kernel
theorem dX7_swaps_49 : decode cX7_swaps 49 = .ok (.iload_n 2, 1) := by decide +kernel
theorem dX7_swaps_50 : decode cX7_swaps 50 = .ok (.imul, 1) := by decide +kernel
theorem dX7_swaps_51 : decode cX7_swaps 51 = .ok (.iload_n 3, 1) := by decide +kernel
theorem dX7_swaps_52 : decode cX7_swaps 52 = .ok (.iadd, 1) := by decide +kernel
theorem dX7_swaps_53 : decode cX7_swaps 53 = .ok (.lload 4, 2) := by decide +kernel
theorem dX7_swaps_55 : decode cX7_swaps 55 = .ok (.lastore, 1) := by decide +kernel
theorem dX7_swaps_56 : decode cX7_swaps 56 = .ok (.iinc 3 1, 3) := by decide +kernel
theorem dX7_swaps_59 : decode cX7_swaps 59 = .ok (.goto (-57), 3) := by decide +kernel
theorem dX7_swaps_62 : decode cX7_swaps 62 = .ok (.return_, 1) := by decide +kernel
set_option maxRecDepth 20000 in
theorem ggX7_clears_X7_inverse : GoodIn wsX7_clears wsX7_inverse := goodIn_r _ [6, 7, 8, 2] (by decide +kernel) (by decide +kernel)
set_option maxRecDepth 20000 in
theorem gX7_clears_X7_inverse : GoodIn wsX7_clears (va_wsS RX7 132 yX7_inverse wsX7_inverse) := goodIn_app (goodIn_of _ (by decide +kernel)) ggX7_clears_X7_inverse
set_option maxRecDepth 20000 in
theorem ggX7_clears_X7_within : GoodIn wsX7_clears wsX7_within := goodIn_r _ [11, 2] (by decide +kernel) (by decide +kernel)
set_option maxRecDepth 20000 in
theorem gX7_clears_X7_within : GoodIn wsX7_clears (va_wsS RX7 124 yX7_within wsX7_within) := goodIn_app (goodIn_of _ (by decide +kernel)) ggX7_clears_X7_within
theorem dX7_clears_0 : decode cX7_clears 0 = .ok (.aload_n 0, 1) := by decide +kernel
theorem dX7_clears_1 : decode cX7_clears 1 = .ok (.getfield 60, 3) := by decide +kernel
theorem dX7_clears_4 : decode cX7_clears 4 = .ok (.bipush 40, 2) := by decide +kernel
theorem dX7_clears_6 : decode cX7_clears 6 = .ok (.iload_n 1, 1) := by decide +kernel
theorem dX7_clears_7 : decode cX7_clears 7 = .ok (.imul, 1) := by decide +kernel
theorem dX7_clears_8 : decode cX7_clears 8 = .ok (.iload_n 2, 1) := by decide +kernel
theorem dX7_clears_9 : decode cX7_clears 9 = .ok (.iadd, 1) := by decide +kernel
theorem dX7_clears_10 : decode cX7_clears 10 = .ok (.laload, 1) := by decide +kernel
theorem dX7_clears_11 : decode cX7_clears 11 = .ok (.invokestatic 132, 3) := by decide +kernel
theorem dX7_clears_14 : decode cX7_clears 14 = .ok (.lstore 4, 2) := by decide +kernel
theorem dX7_clears_16 : decode cX7_clears 16 = .ok (.iconst 0, 1) := by decide +kernel
theorem dX7_clears_17 : decode cX7_clears 17 = .ok (.istore 6, 2) := by decide +kernel
theorem dX7_clears_19 : decode cX7_clears 19 = .ok (.iload 6, 2) := by decide +kernel
theorem dX7_clears_21 : decode cX7_clears 21 = .ok (.bipush 40, 2) := by decide +kernel
theorem dX7_clears_23 : decode cX7_clears 23 = .ok (.if_icmp .ge 40, 3) := by decide +kernel
theorem dX7_clears_26 : decode cX7_clears 26 = .ok (.aload_n 0, 1) := by decide +kernel
theorem dX7_clears_27 : decode cX7_clears 27 = .ok (.getfield 60, 3) := by decide +kernel
theorem dX7_clears_30 : decode cX7_clears 30 = .ok (.bipush 40, 2) := by decide +kernel
theorem dX7_clears_32 : decode cX7_clears 32 = .ok (.iload_n 1, 1) := by decide +kernel
theorem dX7_clears_33 : decode cX7_clears 33 = .ok (.imul, 1) := by decide +kernel
theorem dX7_clears_34 : decode cX7_clears 34 = .ok (.iload 6, 2) := by decide +kernel
theorem dX7_clears_36 : decode cX7_clears 36 = .ok (.iadd, 1) := by decide +kernel
theorem dX7_clears_37 : decode cX7_clears 37 = .ok (.aload_n 0, 1) := by decide +kernel
