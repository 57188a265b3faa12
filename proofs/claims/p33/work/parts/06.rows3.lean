theorem dX6_unbalanced_19 : decode cX6_unbalanced 19 = .ok (.getfield 77, 3) := by decide +kernel
theorem dX6_unbalanced_22 : decode cX6_unbalanced 22 = .ok (.iload_n 2, 1) := by decide +kernel
theorem dX6_unbalanced_23 : decode cX6_unbalanced 23 = .ok (.baload, 1) := by decide +kernel
theorem dX6_unbalanced_24 : decode cX6_unbalanced 24 = .ok (.ifCond .ne 18, 3) := by decide +kernel
theorem dX6_unbalanced_27 : decode cX6_unbalanced 27 = .ok (.aload_n 0, 1) := by decide +kernel
theorem dX6_unbalanced_28 : decode cX6_unbalanced 28 = .ok (.iload_n 2, 1) := by decide +kernel
theorem dX6_unbalanced_29 : decode cX6_unbalanced 29 = .ok (.invokevirtual 232, 3) := by decide +kernel
theorem dX6_unbalanced_32 : decode cX6_unbalanced 32 = .ok (.ifCond .ne 10, 3) := by decide +kernel
theorem dX6_unbalanced_35 : decode cX6_unbalanced 35 = .ok (.iload_n 1, 1) := by decide +kernel
theorem dX6_unbalanced_36 : decode cX6_unbalanced 36 = .ok (.iload_n 2, 1) := by decide +kernel
theorem dX6_unbalanced_37 : decode cX6_unbalanced 37 = .ok (.invokestatic 174, 3) := by decide +kernel
theorem dX6_unbalanced_40 : decode cX6_unbalanced 40 = .ok (.ior, 1) := by decide +kernel
theorem dX6_unbalanced_41 : decode cX6_unbalanced 41 = .ok (.istore_n 1, 1) := by decide +kernel
theorem dX6_unbalanced_42 : decode cX6_unbalanced 42 = .ok (.iinc 2 1, 3) := by decide +kernel
theorem dX6_unbalanced_45 : decode cX6_unbalanced 45 = .ok (.goto (-41), 3) := by decide +kernel
theorem dX6_unbalanced_48 : decode cX6_unbalanced 48 = .ok (.iload_n 1, 1) := by decide +kernel
theorem dX6_unbalanced_49 : decode cX6_unbalanced 49 = .ok (.ireturn, 1) := by decide +kernel
set_option maxRecDepth 20000 in
theorem ggX6_isProper_X3_has : GoodIn wsX6_isProper wsX3_has := goodIn_r _ [8, 9, 10, 49, 50, 51, 52, 53, 54] (by decide +kernel) (by decide +kernel)
set_option maxRecDepth 20000 in
theorem gX6_isProper_X3_has : GoodIn wsX6_isProper (wsV RX6 236 RX3 yX3_has wsX3_has) := goodIn_app (goodIn_of _ (by decide +kernel)) ggX6_isProper_X3_has
set_option maxRecDepth 20000 in
theorem ggX6_isProper_X3_isWronglyTold : GoodIn wsX6_isProper wsX3_isWronglyTold := goodIn_r _ [14, 15, 16, 49, 50, 51, 52, 53, 54] (by decide +kernel) (by decide +kernel)
set_option maxRecDepth 20000 in
theorem gX6_isProper_X3_isWronglyTold : GoodIn wsX6_isProper (wsV RX6 239 RX3 yX3_isWronglyTold wsX3_isWronglyTold) := goodIn_app (goodIn_of _ (by decide +kernel)) ggX6_isProper_X3_isWronglyTold
set_option maxRecDepth 20000 in
theorem ggX6_isProper_X6_unbalanced : GoodIn wsX6_isProper wsX6_unbalanced := goodIn_r _ [21, 22, 23, 24, 25, 26, 27, 20, 28, 1, 2, 29, 30, 3, 31, 32, 4, 5, 6, 7, 8, 9, 10, 33, 34, 35, 36, 37, 38, 39, 40, 41, 42, 43, 44, 45, 46, 47, 48, 55, 56, 57, 58, 59, 49, 50, 51, 52, 53, 54] (by decide +kernel) (by decide +kernel)
set_option maxRecDepth 20000 in
theorem gX6_isProper_X6_unbalanced : GoodIn wsX6_isProper (wsV RX6 242 RX6 yX6_unbalanced wsX6_unbalanced) := goodIn_app (goodIn_of _ (by decide +kernel)) ggX6_isProper_X6_unbalanced
theorem dX6_isProper_0 : decode cX6_isProper 0 = .ok (.iconst 0, 1) := by decide +kernel
theorem dX6_isProper_1 : decode cX6_isProper 1 = .ok (.istore_n 1, 1) := by decide +kernel
theorem dX6_isProper_2 : decode cX6_isProper 2 = .ok (.iconst 0, 1) := by decide +kernel
theorem dX6_isProper_3 : decode cX6_isProper 3 = .ok (.istore_n 2, 1) := by decide +kernel
theorem dX6_isProper_4 : decode cX6_isProper 4 = .ok (.iload_n 2, 1) := by decide +kernel
theorem dX6_isProper_5 : decode cX6_isProper 5 = .ok (.aload_n 0, 1) := by decide +kernel
theorem dX6_isProper_6 : decode cX6_isProper 6 = .ok (.getfield 19, 3) := by decide +kernel
theorem dX6_isProper_9 : decode cX6_isProper 9 = .ok (.getfield 235, 3) := by decide +kernel
theorem dX6_isProper_12 : decode cX6_isProper 12 = .ok (.if_icmp .ge 47, 3) := by decide +kernel
theorem dX6_isProper_15 : decode cX6_isProper 15 = .ok (.aload_n 0, 1) := by decide +kernel
theorem dX6_isProper_16 : decode cX6_isProper 16 = .ok (.getfield 19, 3) := by decide +kernel
theorem dX6_isProper_19 : decode cX6_isProper 19 = .ok (.iload_n 2, 1) := by decide +kernel
theorem dX6_isProper_20 : decode cX6_isProper 20 = .ok (.invokevirtual 236, 3) := by decide +kernel
theorem dX6_isProper_23 : decode cX6_isProper 23 = .ok (.ifCond .eq 30, 3) := by decide +kernel
theorem dX6_isProper_26 : decode cX6_isProper 26 = .ok (.aload_n 0, 1) := by decide +kernel
theorem dX6_isProper_27 : decode cX6_isProper 27 = .ok (.getfield 19, 3) := by decide +kernel
theorem dX6_isProper_30 : decode cX6_isProper 30 = .ok (.iload_n 2, 1) := by decide +kernel
theorem dX6_isProper_31 : decode cX6_isProper 31 = .ok (.invokevirtual 239, 3) := by decide +kernel
theorem dX6_isProper_34 : decode cX6_isProper 34 = .ok (.ifCond .eq 5, 3) := by decide +kernel
theorem dX6_isProper_37 : decode cX6_isProper 37 = .ok (.iconst 0, 1) := by decide +kernel
theorem dX6_isProper_38 : decode cX6_isProper 38 = .ok (.ireturn, 1) := by decide +kernel
theorem dX6_isProper_39 : decode cX6_isProper 39 = .ok (.aload_n 0, 1) := by decide +kernel
theorem dX6_isProper_40 : decode cX6_isProper 40 = .ok (.getfield 19, 3) := by decide +kernel
theorem dX6_isProper_43 : decode cX6_isProper 43 = .ok (.getfield 229, 3) := by decide +kernel
theorem dX6_isProper_46 : decode cX6_isProper 46 = .ok (.iload_n 2, 1) := by decide +kernel
theorem dX6_isProper_47 : decode cX6_isProper 47 = .ok (.iaload, 1) := by decide +kernel
theorem dX6_isProper_48 : decode cX6_isProper 48 = .ok (.ifCond .eq 5, 3) := by decide +kernel
theorem dX6_isProper_51 : decode cX6_isProper 51 = .ok (.iconst 1, 1) := by decide +kernel
theorem dX6_isProper_52 : decode cX6_isProper 52 = .ok (.istore_n 1, 1) := by decide +kernel
theorem dX6_isProper_53 : decode cX6_isProper 53 = .ok (.iinc 2 1, 3) := by decide +kernel
theorem dX6_isProper_56 : decode cX6_isProper 56 = .ok (.goto (-52), 3) := by decide +kernel
theorem dX6_isProper_59 : decode cX6_isProper 59 = .ok (.iload_n 1, 1) := by decide +kernel
theorem dX6_isProper_60 : decode cX6_isProper 60 = .ok (.ifCond .eq 14, 3) := by decide +kernel
theorem dX6_isProper_63 : decode cX6_isProper 63 = .ok (.aload_n 0, 1) := by decide +kernel
theorem dX6_isProper_64 : decode cX6_isProper 64 = .ok (.invokevirtual 242, 3) := by decide +kernel
theorem dX6_isProper_67 : decode cX6_isProper 67 = .ok (.ifCond .ne 7, 3) := by decide +kernel
theorem dX6_isProper_70 : decode cX6_isProper 70 = .ok (.iconst 1, 1) := by decide +kernel
theorem dX6_isProper_71 : decode cX6_isProper 71 = .ok (.goto 4, 3) := by decide +kernel
theorem dX6_isProper_74 : decode cX6_isProper 74 = .ok (.iconst 0, 1) := by decide +kernel
theorem dX6_isProper_75 : decode cX6_isProper 75 = .ok (.ireturn, 1) := by decide +kernel
set_option maxRecDepth 20000 in
theorem ggX6_matrix_X0_begin : GoodIn wsX6_matrix wsX0_begin := goodIn_r _ [13, 14, 15, 16, 17, 18, 19, 20, 21, 22, 23, 87, 88, 89, 90] (by decide +kernel) (by decide +kernel)
set_option maxRecDepth 20000 in
theorem gX6_matrix_X0_begin : GoodIn wsX6_matrix (wsV RX6 245 RX0 yX0_begin wsX0_begin) := goodIn_app (goodIn_of _ (by decide +kernel)) ggX6_matrix_X0_begin
set_option maxRecDepth 20000 in
theorem ggX6_matrix_X3_has : GoodIn wsX6_matrix wsX3_has := goodIn_r _ [28, 29, 30, 81, 82, 83, 84, 85, 86] (by decide +kernel) (by decide +kernel)
set_option maxRecDepth 20000 in
theorem gX6_matrix_X3_has : GoodIn wsX6_matrix (wsV RX6 236 RX3 yX3_has wsX3_has) := goodIn_app (goodIn_of _ (by decide +kernel)) ggX6_matrix_X3_has
set_option maxRecDepth 20000 in
theorem ggX6_matrix_X0_add : GoodIn wsX6_matrix wsX0_add := goodIn_r _ [34, 21, 22, 23, 35, 36, 37, 38, 39, 87, 88, 89, 90] (by decide +kernel) (by decide +kernel)
set_option maxRecDepth 20000 in
theorem gX6_matrix_X0_add : GoodIn wsX6_matrix (wsV RX6 248 RX0 yX0_add wsX0_add) := goodIn_app (goodIn_of _ (by decide +kernel)) ggX6_matrix_X0_add
set_option maxRecDepth 20000 in
theorem ggX6_matrix_X0_reduce : GoodIn wsX6_matrix wsX0_reduce := goodIn_r _ [43, 22, 44, 45, 46, 47, 12, 48, 21, 23, 49, 50, 51, 52, 53, 54, 55, 56, 35, 57, 58, 59, 60, 61, 62, 63, 64, 65, 66, 67, 68, 87, 88, 89, 90] (by decide +kernel) (by decide +kernel)
set_option maxRecDepth 20000 in
theorem gX6_matrix_X0_reduce : GoodIn wsX6_matrix (wsV RX6 134 RX0 yX0_reduce wsX0_reduce) := goodIn_app (goodIn_of _ (by decide +kernel)) ggX6_matrix_X0_reduce
theorem dX6_matrix_0 : decode cX6_matrix 0 = .ok (.aload_n 0, 1) := by decide +kernel
theorem dX6_matrix_1 : decode cX6_matrix 1 = .ok (.getfield 40, 3) := by decide +kernel
theorem dX6_matrix_4 : decode cX6_matrix 4 = .ok (.aload_n 0, 1) := by decide +kernel
theorem dX6_matrix_5 : decode cX6_matrix 5 = .ok (.getfield 10, 3) := by decide +kernel
theorem dX6_matrix_8 : decode cX6_matrix 8 = .ok (.getfield 155, 3) := by decide +kernel
theorem dX6_matrix_11 : decode cX6_matrix 11 = .ok (.aload_n 0, 1) := by decide +kernel
theorem dX6_matrix_12 : decode cX6_matrix 12 = .ok (.getfield 10, 3) := by decide +kernel
theorem dX6_matrix_15 : decode cX6_matrix 15 = .ok (.getfield 155, 3) := by decide +kernel
theorem dX6_matrix_18 : decode cX6_matrix 18 = .ok (.invokevirtual 245, 3) := by decide +kernel
theorem dX6_matrix_21 : decode cX6_matrix 21 = .ok (.iconst 0, 1) := by decide +kernel
theorem dX6_matrix_22 : decode cX6_matrix 22 = .ok (.istore_n 1, 1) := by decide +kernel
theorem dX6_matrix_23 : decode cX6_matrix 23 = .ok (.iload_n 1, 1) := by decide +kernel
theorem dX6_matrix_24 : decode cX6_matrix 24 = .ok (.aload_n 0, 1) := by decide +kernel
theorem dX6_matrix_25 : decode cX6_matrix 25 = .ok (.getfield 19, 3) := by decide +kernel
theorem dX6_matrix_28 : decode cX6_matrix 28 = .ok (.getfield 235, 3) := by decide +kernel
theorem dX6_matrix_31 : decode cX6_matrix 31 = .ok (.if_icmp .ge 97, 3) := by decide +kernel
theorem dX6_matrix_34 : decode cX6_matrix 34 = .ok (.aload_n 0, 1) := by decide +kernel
theorem dX6_matrix_35 : decode cX6_matrix 35 = .ok (.getfield 19, 3) := by decide +kernel
theorem dX6_matrix_38 : decode cX6_matrix 38 = .ok (.iload_n 1, 1) := by decide +kernel
theorem dX6_matrix_39 : decode cX6_matrix 39 = .ok (.invokevirtual 236, 3) := by decide +kernel
theorem dX6_matrix_42 : decode cX6_matrix 42 = .ok (.ifCond .eq 80, 3) := by decide +kernel
theorem dX6_matrix_45 : decode cX6_matrix 45 = .ok (.aload_n 0, 1) := by decide +kernel
theorem dX6_matrix_46 : decode cX6_matrix 46 = .ok (.getfield 19, 3) := by decide +kernel
theorem dX6_matrix_49 : decode cX6_matrix 49 = .ok (.getfield 168, 3) := by decide +kernel
theorem dX6_matrix_52 : decode cX6_matrix 52 = .ok (.iload_n 1, 1) := by decide +kernel
theorem dX6_matrix_53 : decode cX6_matrix 53 = .ok (.iaload, 1) := by decide +kernel
theorem dX6_matrix_54 : decode cX6_matrix 54 = .ok (.istore_n 2, 1) := by decide +kernel
theorem dX6_matrix_55 : decode cX6_matrix 55 = .ok (.aload_n 0, 1) := by decide +kernel
theorem dX6_matrix_56 : decode cX6_matrix 56 = .ok (.getfield 19, 3) := by decide +kernel
theorem dX6_matrix_59 : decode cX6_matrix 59 = .ok (.getfield 171, 3) := by decide +kernel
theorem dX6_matrix_62 : decode cX6_matrix 62 = .ok (.iload_n 1, 1) := by decide +kernel
theorem dX6_matrix_63 : decode cX6_matrix 63 = .ok (.iaload, 1) := by decide +kernel
theorem dX6_matrix_64 : decode cX6_matrix 64 = .ok (.istore_n 3, 1) := by decide +kernel
theorem dX6_matrix_65 : decode cX6_matrix 65 = .ok (.aload_n 0, 1) := by decide +kernel
theorem dX6_matrix_66 : decode cX6_matrix 66 = .ok (.getfield 19, 3) := by decide +kernel
theorem dX6_matrix_69 : decode cX6_matrix 69 = .ok (.getfield 229, 3) := by decide +kernel
theorem dX6_matrix_72 : decode cX6_matrix 72 = .ok (.iload_n 1, 1) := by decide +kernel
theorem dX6_matrix_73 : decode cX6_matrix 73 = .ok (.iaload, 1) := by decide +kernel
theorem dX6_matrix_74 : decode cX6_matrix 74 = .ok (.istore 4, 2) := by decide +kernel
theorem dX6_matrix_76 : decode cX6_matrix 76 = .ok (.aload_n 0, 1) := by decide +kernel
theorem dX6_matrix_77 : decode cX6_matrix 77 = .ok (.getfield 40, 3) := by decide +kernel
theorem dX6_matrix_80 : decode cX6_matrix 80 = .ok (.iload_n 2, 1) := by decide +kernel
theorem dX6_matrix_81 : decode cX6_matrix 81 = .ok (.iload_n 3, 1) := by decide +kernel
theorem dX6_matrix_82 : decode cX6_matrix 82 = .ok (.iload 4, 2) := by decide +kernel
theorem dX6_matrix_84 : decode cX6_matrix 84 = .ok (.ineg, 1) := by decide +kernel
theorem dX6_matrix_85 : decode cX6_matrix 85 = .ok (.invokevirtual 248, 3) := by decide +kernel
theorem dX6_matrix_88 : decode cX6_matrix 88 = .ok (.aload_n 0, 1) := by decide +kernel
theorem dX6_matrix_89 : decode cX6_matrix 89 = .ok (.getfield 40, 3) := by decide +kernel
theorem dX6_matrix_92 : decode cX6_matrix 92 = .ok (.iload_n 3, 1) := by decide +kernel
theorem dX6_matrix_93 : decode cX6_matrix 93 = .ok (.iload_n 2, 1) := by decide +kernel
theorem dX6_matrix_94 : decode cX6_matrix 94 = .ok (.iload 4, 2) := by decide +kernel
theorem dX6_matrix_96 : decode cX6_matrix 96 = .ok (.ineg, 1) := by decide +kernel
theorem dX6_matrix_97 : decode cX6_matrix 97 = .ok (.invokevirtual 248, 3) := by decide +kernel
theorem dX6_matrix_100 : decode cX6_matrix 100 = .ok (.aload_n 0, 1) := by decide +kernel
theorem dX6_matrix_101 : decode cX6_matrix 101 = .ok (.getfield 40, 3) := by decide +kernel
theorem dX6_matrix_104 : decode cX6_matrix 104 = .ok (.iload_n 2, 1) := by decide +kernel
theorem dX6_matrix_105 : decode cX6_matrix 105 = .ok (.iload_n 2, 1) := by decide +kernel
theorem dX6_matrix_106 : decode cX6_matrix 106 = .ok (.iload 4, 2) := by decide +kernel
theorem dX6_matrix_108 : decode cX6_matrix 108 = .ok (.invokevirtual 248, 3) := by decide +kernel
theorem dX6_matrix_111 : decode cX6_matrix 111 = .ok (.aload_n 0, 1) := by decide +kernel
theorem dX6_matrix_112 : decode cX6_matrix 112 = .ok (.getfield 40, 3) := by decide +kernel
theorem dX6_matrix_115 : decode cX6_matrix 115 = .ok (.iload_n 3, 1) := by decide +kernel
theorem dX6_matrix_116 : decode cX6_matrix 116 = .ok (.iload_n 3, 1) := by decide +kernel
theorem dX6_matrix_117 : decode cX6_matrix 117 = .ok (.iload 4, 2) := by decide +kernel
theorem dX6_matrix_119 : decode cX6_matrix 119 = .ok (.invokevirtual 248, 3) := by decide +kernel
theorem dX6_matrix_122 : decode cX6_matrix 122 = .ok (.iinc 1 1, 3) := by decide +kernel
theorem dX6_matrix_125 : decode cX6_matrix 125 = .ok (.goto (-102), 3) := by decide +kernel
theorem dX6_matrix_128 : decode cX6_matrix 128 = .ok (.aload_n 0, 1) := by decide +kernel
theorem dX6_matrix_129 : decode cX6_matrix 129 = .ok (.getfield 40, 3) := by decide +kernel
theorem dX6_matrix_132 : decode cX6_matrix 132 = .ok (.invokevirtual 134, 3) := by decide +kernel
theorem dX6_matrix_135 : decode cX6_matrix 135 = .ok (.ireturn, 1) := by decide +kernel
set_option maxRecDepth 20000 in
theorem ggX6_range_X6_requireJoint : GoodIn wsX6_range wsX6_requireJoint := goodIn_ca (goodIn_r _ [9, 10, 11, 3, 12, 13, 14, 15, 16, 17, 18, 19, 20, 21, 22, 23, 24, 25, 26, 27, 28, 29] (by decide +kernel) (by decide +kernel)) (goodIn_sub (fun _ h => List.mem_cons_of_mem _ (List.mem_append_right _ h)) (by decide +kernel))
set_option maxRecDepth 20000 in
theorem gX6_range_X6_requireJoint : GoodIn wsX6_range (wsV RX6 66 RX6 yX6_requireJoint wsX6_requireJoint) := goodIn_app (goodIn_of _ (by decide +kernel)) ggX6_range_X6_requireJoint
theorem dX6_range_0 : decode cX6_range 0 = .ok (.aload_n 0, 1) := by decide +kernel
theorem dX6_range_1 : decode cX6_range 1 = .ok (.iload_n 1, 1) := by decide +kernel
theorem dX6_range_2 : decode cX6_range 2 = .ok (.invokevirtual 66, 3) := by decide +kernel
theorem dX6_range_5 : decode cX6_range 5 = .ok (.iload_n 2, 1) := by decide +kernel
theorem dX6_range_6 : decode cX6_range 6 = .ok (.iconst (-1), 1) := by decide +kernel
theorem dX6_range_7 : decode cX6_range 7 = .ok (.if_icmp .eq 25, 3) := by decide +kernel
theorem dX6_range_10 : decode cX6_range 10 = .ok (.iload_n 2, 1) := by decide +kernel
theorem dX6_range_11 : decode cX6_range 11 = .ok (.ifCond .lt 10, 3) := by decide +kernel
theorem dX6_range_14 : decode cX6_range 14 = .ok (.iload_n 2, 1) := by decide +kernel
theorem dX6_range_15 : decode cX6_range 15 = .ok (.sipush 30000, 3) := by decide +kernel
theorem dX6_range_18 : decode cX6_range 18 = .ok (.if_icmp .le 14, 3) := by decide +kernel
theorem dX6_range_21 : decode cX6_range 21 = .ok (.new 84, 3) := by decide +kernel
theorem dX6_range_24 : decode cX6_range 24 = .ok (.dup, 1) := by decide +kernel
theorem dX6_range_25 : decode cX6_range 25 = .ok (.ldc_w 270, 3) := by decide +kernel
theorem dX6_range_28 : decode cX6_range 28 = .ok (.invokespecial 88, 3) := by decide +kernel
theorem dX6_range_31 : decode cX6_range 31 = .ok (.athrow, 1) := by decide +kernel
theorem dX6_range_32 : decode cX6_range 32 = .ok (.aload_n 0, 1) := by decide +kernel
theorem dX6_range_33 : decode cX6_range 33 = .ok (.getfield 10, 3) := by decide +kernel
theorem dX6_range_36 : decode cX6_range 36 = .ok (.getfield 272, 3) := by decide +kernel
theorem dX6_range_39 : decode cX6_range 39 = .ok (.iload_n 1, 1) := by decide +kernel
theorem dX6_range_40 : decode cX6_range 40 = .ok (.iaload, 1) := by decide +kernel
theorem dX6_range_41 : decode cX6_range 41 = .ok (.istore_n 3, 1) := by decide +kernel
theorem dX6_range_42 : decode cX6_range 42 = .ok (.aload_n 0, 1) := by decide +kernel
theorem dX6_range_43 : decode cX6_range 43 = .ok (.getfield 10, 3) := by decide +kernel
theorem dX6_range_46 : decode cX6_range 46 = .ok (.getfield 272, 3) := by decide +kernel
theorem dX6_range_49 : decode cX6_range 49 = .ok (.iload_n 1, 1) := by decide +kernel
theorem dX6_range_50 : decode cX6_range 50 = .ok (.iload_n 2, 1) := by decide +kernel
theorem dX6_range_51 : decode cX6_range 51 = .ok (.iastore, 1) := by decide +kernel
theorem dX6_range_52 : decode cX6_range 52 = .ok (.iload_n 3, 1) := by decide +kernel
theorem dX6_range_53 : decode cX6_range 53 = .ok (.ireturn, 1) := by decide +kernel
set_option maxRecDepth 20000 in
theorem ggX6_places_X6_requireError : GoodIn wsX6_places wsX6_requireError := goodIn_ca (goodIn_r _ [5, 6, 7] (by decide +kernel) (by decide +kernel)) (goodIn_sub (fun _ h => List.mem_cons_of_mem _ (List.mem_append_right _ h)) (by decide +kernel))
set_option maxRecDepth 20000 in
theorem gX6_places_X6_requireError : GoodIn wsX6_places (va_wsS RX6 275 yX6_requireError wsX6_requireError) := goodIn_app (goodIn_of _ (by decide +kernel)) ggX6_places_X6_requireError
set_option maxRecDepth 20000 in
theorem ggX6_places_X1_fits : GoodIn wsX6_places wsX1_fits := goodIn_r _ [12, 13, 14, 15, 16, 24, 25, 26, 27, 28] (by decide +kernel) (by decide +kernel)
set_option maxRecDepth 20000 in
theorem gX6_places_X1_fits : GoodIn wsX6_places (wsV RX6 278 RX1 yX1_fits wsX1_fits) := goodIn_app (goodIn_of _ (by decide +kernel)) ggX6_places_X1_fits
theorem dX6_places_0 : decode cX6_places 0 = .ok (.iload_n 1, 1) := by decide +kernel
theorem dX6_places_1 : decode cX6_places 1 = .ok (.invokestatic 275, 3) := by decide +kernel
theorem dX6_places_4 : decode cX6_places 4 = .ok (.iconst 0, 1) := by decide +kernel
theorem dX6_places_5 : decode cX6_places 5 = .ok (.istore_n 2, 1) := by decide +kernel
theorem dX6_places_6 : decode cX6_places 6 = .ok (.bipush (-60), 2) := by decide +kernel
theorem dX6_places_8 : decode cX6_places 8 = .ok (.istore_n 3, 1) := by decide +kernel
theorem dX6_places_9 : decode cX6_places 9 = .ok (.iload_n 3, 1) := by decide +kernel
theorem dX6_places_10 : decode cX6_places 10 = .ok (.bipush 60, 2) := by decide +kernel
theorem dX6_places_12 : decode cX6_places 12 = .ok (.if_icmp .gt 43, 3) := by decide +kernel
theorem dX6_places_15 : decode cX6_places 15 = .ok (.bipush (-60), 2) := by decide +kernel
theorem dX6_places_17 : decode cX6_places 17 = .ok (.istore 4, 2) := by decide +kernel
theorem dX6_places_19 : decode cX6_places 19 = .ok (.iload 4, 2) := by decide +kernel
theorem dX6_places_21 : decode cX6_places 21 = .ok (.bipush 60, 2) := by decide +kernel
theorem dX6_places_23 : decode cX6_places 23 = .ok (.if_icmp .gt 26, 3) := by decide +kernel
theorem dX6_places_26 : decode cX6_places 26 = .ok (.aload_n 0, 1) := by decide +kernel
theorem dX6_places_27 : decode cX6_places 27 = .ok (.getfield 10, 3) := by decide +kernel
theorem dX6_places_30 : decode cX6_places 30 = .ok (.iload_n 3, 1) := by decide +kernel
theorem dX6_places_31 : decode cX6_places 31 = .ok (.iload 4, 2) := by decide +kernel
theorem dX6_places_33 : decode cX6_places 33 = .ok (.iload_n 1, 1) := by decide +kernel
theorem dX6_places_34 : decode cX6_places 34 = .ok (.invokevirtual 278, 3) := by decide +kernel
theorem dX6_places_37 : decode cX6_places 37 = .ok (.ifCond .eq 6, 3) := by decide +kernel
theorem dX6_places_40 : decode cX6_places 40 = .ok (.iinc 2 1, 3) := by decide +kernel
theorem dX6_places_43 : decode cX6_places 43 = .ok (.iinc 4 1, 3) := by decide +kernel
theorem dX6_places_46 : decode cX6_places 46 = .ok (.goto (-27), 3) := by decide +kernel
theorem dX6_places_49 : decode cX6_places 49 = .ok (.iinc 3 1, 3) := by decide +kernel
theorem dX6_places_52 : decode cX6_places 52 = .ok (.goto (-43), 3) := by decide +kernel
theorem dX6_places_55 : decode cX6_places 55 = .ok (.iload_n 2, 1) := by decide +kernel
theorem dX6_places_56 : decode cX6_places 56 = .ok (.ireturn, 1) := by decide +kernel
set_option maxRecDepth 20000 in
theorem ggX6_place_X6_requireCount : GoodIn wsX6_place wsX6_requireCount := goodIn_ca (goodIn_r _ [5, 6, 7] (by decide +kernel) (by decide +kernel)) (goodIn_sub (fun _ h => List.mem_cons_of_mem _ (List.mem_append_left _ (List.mem_append_right _ h))) (by decide +kernel))
set_option maxRecDepth 20000 in
theorem gX6_place_X6_requireCount : GoodIn wsX6_place (va_wsS RX6 128 yX6_requireCount wsX6_requireCount) := goodIn_app (goodIn_of _ (by decide +kernel)) ggX6_place_X6_requireCount
set_option maxRecDepth 20000 in
theorem ggX6_place_X6_requireError : GoodIn wsX6_place wsX6_requireError := goodIn_ca (goodIn_r _ [10, 11, 12] (by decide +kernel) (by decide +kernel)) (goodIn_sub (fun _ h => List.mem_cons_of_mem _ (List.mem_append_right _ h)) (by decide +kernel))
set_option maxRecDepth 20000 in
theorem gX6_place_X6_requireError : GoodIn wsX6_place (va_wsS RX6 275 yX6_requireError wsX6_requireError) := goodIn_app (goodIn_of _ (by decide +kernel)) ggX6_place_X6_requireError
set_option maxRecDepth 20000 in
theorem ggX6_place_X1_fits : GoodIn wsX6_place wsX1_fits := goodIn_r _ [17, 18, 19, 20, 21, 29, 30, 31, 32, 33] (by decide +kernel) (by decide +kernel)
set_option maxRecDepth 20000 in
theorem gX6_place_X1_fits : GoodIn wsX6_place (wsV RX6 278 RX1 yX1_fits wsX1_fits) := goodIn_app (goodIn_of _ (by decide +kernel)) ggX6_place_X1_fits
theorem dX6_place_0 : decode cX6_place 0 = .ok (.iload_n 2, 1) := by decide +kernel
theorem dX6_place_1 : decode cX6_place 1 = .ok (.invokestatic 128, 3) := by decide +kernel
theorem dX6_place_4 : decode cX6_place 4 = .ok (.iload_n 1, 1) := by decide +kernel
theorem dX6_place_5 : decode cX6_place 5 = .ok (.invokestatic 275, 3) := by decide +kernel
theorem dX6_place_8 : decode cX6_place 8 = .ok (.iconst 0, 1) := by decide +kernel
theorem dX6_place_9 : decode cX6_place 9 = .ok (.istore_n 3, 1) := by decide +kernel
theorem dX6_place_10 : decode cX6_place 10 = .ok (.bipush (-60), 2) := by decide +kernel
theorem dX6_place_12 : decode cX6_place 12 = .ok (.istore 4, 2) := by decide +kernel
theorem dX6_place_14 : decode cX6_place 14 = .ok (.iload 4, 2) := by decide +kernel
theorem dX6_place_16 : decode cX6_place 16 = .ok (.bipush 60, 2) := by decide +kernel
theorem dX6_place_18 : decode cX6_place 18 = .ok (.if_icmp .gt 65, 3) := by decide +kernel
theorem dX6_place_21 : decode cX6_place 21 = .ok (.bipush (-60), 2) := by decide +kernel
theorem dX6_place_23 : decode cX6_place 23 = .ok (.istore 5, 2) := by decide +kernel
theorem dX6_place_25 : decode cX6_place 25 = .ok (.iload 5, 2) := by decide +kernel
theorem dX6_place_27 : decode cX6_place 27 = .ok (.bipush 60, 2) := by decide +kernel
theorem dX6_place_29 : decode cX6_place 29 = .ok (.if_icmp .gt 48, 3) := by decide +kernel
theorem dX6_place_32 : decode cX6_place 32 = .ok (.aload_n 0, 1) := by decide +kernel
theorem dX6_place_33 : decode cX6_place 33 = .ok (.getfield 10, 3) := by decide +kernel
theorem dX6_place_36 : decode cX6_place 36 = .ok (.iload 4, 2) := by decide +kernel
theorem dX6_place_38 : decode cX6_place 38 = .ok (.iload 5, 2) := by decide +kernel
theorem dX6_place_40 : decode cX6_place 40 = .ok (.iload_n 1, 1) := by decide +kernel
theorem dX6_place_41 : decode cX6_place 41 = .ok (.invokevirtual 278, 3) := by decide +kernel
theorem dX6_place_44 : decode cX6_place 44 = .ok (.ifCond .eq 27, 3) := by decide +kernel
theorem dX6_place_47 : decode cX6_place 47 = .ok (.iload_n 3, 1) := by decide +kernel
theorem dX6_place_48 : decode cX6_place 48 = .ok (.iload_n 2, 1) := by decide +kernel
theorem dX6_place_49 : decode cX6_place 49 = .ok (.if_icmp .ne 19, 3) := by decide +kernel
theorem dX6_place_52 : decode cX6_place 52 = .ok (.sipush 1000, 3) := by decide +kernel
theorem dX6_place_55 : decode cX6_place 55 = .ok (.iload 4, 2) := by decide +kernel
theorem dX6_place_57 : decode cX6_place 57 = .ok (.bipush 60, 2) := by decide +kernel
theorem dX6_place_59 : decode cX6_place 59 = .ok (.iadd, 1) := by decide +kernel
theorem dX6_place_60 : decode cX6_place 60 = .ok (.imul, 1) := by decide +kernel
theorem dX6_place_61 : decode cX6_place 61 = .ok (.iload 5, 2) := by decide +kernel
theorem dX6_place_63 : decode cX6_place 63 = .ok (.iadd, 1) := by decide +kernel
theorem dX6_place_64 : decode cX6_place 64 = .ok (.bipush 60, 2) := by decide +kernel
theorem dX6_place_66 : decode cX6_place 66 = .ok (.iadd, 1) := by decide +kernel
theorem dX6_place_67 : decode cX6_place 67 = .ok (.ireturn, 1) := by decide +kernel
theorem dX6_place_68 : decode cX6_place 68 = .ok (.iinc 3 1, 3) := by decide +kernel
theorem dX6_place_71 : decode cX6_place 71 = .ok (.iinc 5 1, 3) := by decide +kernel
theorem dX6_place_74 : decode cX6_place 74 = .ok (.goto (-49), 3) := by decide +kernel
theorem dX6_place_77 : decode cX6_place 77 = .ok (.iinc 4 1, 3) := by decide +kernel
theorem dX6_place_80 : decode cX6_place 80 = .ok (.goto (-66), 3) := by decide +kernel
theorem dX6_place_83 : decode cX6_place 83 = .ok (.iconst (-1), 1) := by decide +kernel
theorem dX6_place_84 : decode cX6_place 84 = .ok (.ireturn, 1) := by decide +kernel
set_option maxRecDepth 20000 in
theorem ggX6_ofJoint_X6_requireJoint : GoodIn wsX6_ofJoint wsX6_requireJoint := goodIn_ca (goodIn_r _ [11, 12, 13, 3, 14, 15, 16, 17, 18, 19, 37, 38, 39, 40, 41, 42, 43, 44, 45, 46, 47, 48] (by decide +kernel) (by decide +kernel)) (goodIn_sub (fun _ h => List.mem_cons_of_mem _ (List.mem_append_right _ h)) (by decide +kernel))
set_option maxRecDepth 20000 in
theorem gX6_ofJoint_X6_requireJoint : GoodIn wsX6_ofJoint (wsV RX6 66 RX6 yX6_requireJoint wsX6_requireJoint) := goodIn_app (goodIn_of _ (by decide +kernel)) ggX6_ofJoint_X6_requireJoint
set_option maxRecDepth 20000 in
theorem ggX6_ofJoint_X3_endingAt : GoodIn wsX6_ofJoint wsX3_endingAt := goodIn_r _ [24, 25, 26, 27, 28, 23, 29, 30, 31, 32, 33, 34, 35, 36, 49, 50, 51, 52, 53, 54] (by decide +kernel) (by decide +kernel)
set_option maxRecDepth 20000 in
theorem gX6_ofJoint_X3_endingAt : GoodIn wsX6_ofJoint (wsV RX6 282 RX3 yX3_endingAt wsX3_endingAt) := goodIn_app (goodIn_of _ (by decide +kernel)) ggX6_ofJoint_X3_endingAt
theorem dX6_ofJoint_0 : decode cX6_ofJoint 0 = .ok (.aload_n 0, 1) := by decide +kernel
theorem dX6_ofJoint_1 : decode cX6_ofJoint 1 = .ok (.iload_n 1, 1) := by decide +kernel
theorem dX6_ofJoint_2 : decode cX6_ofJoint 2 = .ok (.invokevirtual 66, 3) := by decide +kernel
theorem dX6_ofJoint_5 : decode cX6_ofJoint 5 = .ok (.iload_n 2, 1) := by decide +kernel
theorem dX6_ofJoint_6 : decode cX6_ofJoint 6 = .ok (.tableswitch 55 0 2 #[26, 36, 46], 26) := by decide +kernel
theorem dX6_ofJoint_32 : decode cX6_ofJoint 32 = .ok (.aload_n 0, 1) := by decide +kernel
theorem dX6_ofJoint_33 : decode cX6_ofJoint 33 = .ok (.getfield 10, 3) := by decide +kernel
theorem dX6_ofJoint_36 : decode cX6_ofJoint 36 = .ok (.getfield 70, 3) := by decide +kernel
theorem dX6_ofJoint_39 : decode cX6_ofJoint 39 = .ok (.iload_n 1, 1) := by decide +kernel
theorem dX6_ofJoint_40 : decode cX6_ofJoint 40 = .ok (.iaload, 1) := by decide +kernel
theorem dX6_ofJoint_41 : decode cX6_ofJoint 41 = .ok (.ireturn, 1) := by decide +kernel
theorem dX6_ofJoint_42 : decode cX6_ofJoint 42 = .ok (.aload_n 0, 1) := by decide +kernel
theorem dX6_ofJoint_43 : decode cX6_ofJoint 43 = .ok (.getfield 10, 3) := by decide +kernel
theorem dX6_ofJoint_46 : decode cX6_ofJoint 46 = .ok (.getfield 74, 3) := by decide +kernel
theorem dX6_ofJoint_49 : decode cX6_ofJoint 49 = .ok (.iload_n 1, 1) := by decide +kernel
theorem dX6_ofJoint_50 : decode cX6_ofJoint 50 = .ok (.iaload, 1) := by decide +kernel
theorem dX6_ofJoint_51 : decode cX6_ofJoint 51 = .ok (.ireturn, 1) := by decide +kernel
theorem dX6_ofJoint_52 : decode cX6_ofJoint 52 = .ok (.aload_n 0, 1) := by decide +kernel
theorem dX6_ofJoint_53 : decode cX6_ofJoint 53 = .ok (.getfield 19, 3) := by decide +kernel
theorem dX6_ofJoint_56 : decode cX6_ofJoint 56 = .ok (.iload_n 1, 1) := by decide +kernel
theorem dX6_ofJoint_57 : decode cX6_ofJoint 57 = .ok (.invokevirtual 282, 3) := by decide +kernel
theorem dX6_ofJoint_60 : decode cX6_ofJoint 60 = .ok (.ireturn, 1) := by decide +kernel
theorem dX6_ofJoint_61 : decode cX6_ofJoint 61 = .ok (.new 84, 3) := by decide +kernel
theorem dX6_ofJoint_64 : decode cX6_ofJoint 64 = .ok (.dup, 1) := by decide +kernel
theorem dX6_ofJoint_65 : decode cX6_ofJoint 65 = .ok (.ldc_w 285, 3) := by decide +kernel
theorem dX6_ofJoint_68 : decode cX6_ofJoint 68 = .ok (.invokespecial 88, 3) := by decide +kernel
theorem dX6_ofJoint_71 : decode cX6_ofJoint 71 = .ok (.athrow, 1) := by decide +kernel
set_option maxRecDepth 20000 in
theorem ggX6_requireJoint_X1_has : GoodIn wsX6_requireJoint wsX1_has := goodIn_r _ [8, 9, 17, 18, 19, 20, 21] (by decide +kernel) (by decide +kernel)
set_option maxRecDepth 20000 in
theorem gX6_requireJoint_X1_has : GoodIn wsX6_requireJoint (wsV RX6 287 RX1 yX1_has wsX1_has) := goodIn_app (goodIn_of _ (by decide +kernel)) ggX6_requireJoint_X1_has
theorem dX6_requireJoint_0 : decode cX6_requireJoint 0 = .ok (.aload_n 0, 1) := by decide +kernel
theorem dX6_requireJoint_1 : decode cX6_requireJoint 1 = .ok (.getfield 10, 3) := by decide +kernel
theorem dX6_requireJoint_4 : decode cX6_requireJoint 4 = .ok (.iload_n 1, 1) := by decide +kernel
theorem dX6_requireJoint_5 : decode cX6_requireJoint 5 = .ok (.invokevirtual 287, 3) := by decide +kernel
theorem dX6_requireJoint_8 : decode cX6_requireJoint 8 = .ok (.ifCond .ne 14, 3) := by decide +kernel
theorem dX6_requireJoint_11 : decode cX6_requireJoint 11 = .ok (.new 288, 3) := by decide +kernel
theorem dX6_requireJoint_14 : decode cX6_requireJoint 14 = .ok (.dup, 1) := by decide +kernel
theorem dX6_requireJoint_15 : decode cX6_requireJoint 15 = .ok (.ldc_w 290, 3) := by decide +kernel
theorem dX6_requireJoint_18 : decode cX6_requireJoint 18 = .ok (.invokespecial 292, 3) := by decide +kernel
theorem dX6_requireJoint_21 : decode cX6_requireJoint 21 = .ok (.athrow, 1) := by decide +kernel
theorem dX6_requireJoint_22 : decode cX6_requireJoint 22 = .ok (.return_, 1) := by decide +kernel
set_option maxRecDepth 20000 in
theorem ggX6_requireMember_X3_has : GoodIn wsX6_requireMember wsX3_has := goodIn_r _ [8, 9, 10, 18, 19, 20, 21, 22, 23] (by decide +kernel) (by decide +kernel)
set_option maxRecDepth 20000 in
theorem gX6_requireMember_X3_has : GoodIn wsX6_requireMember (wsV RX6 236 RX3 yX3_has wsX3_has) := goodIn_app (goodIn_of _ (by decide +kernel)) ggX6_requireMember_X3_has
theorem dX6_requireMember_0 : decode cX6_requireMember 0 = .ok (.aload_n 0, 1) := by decide +kernel
theorem dX6_requireMember_1 : decode cX6_requireMember 1 = .ok (.getfield 19, 3) := by decide +kernel
theorem dX6_requireMember_4 : decode cX6_requireMember 4 = .ok (.iload_n 1, 1) := by decide +kernel
theorem dX6_requireMember_5 : decode cX6_requireMember 5 = .ok (.invokevirtual 236, 3) := by decide +kernel
theorem dX6_requireMember_8 : decode cX6_requireMember 8 = .ok (.ifCond .ne 14, 3) := by decide +kernel
theorem dX6_requireMember_11 : decode cX6_requireMember 11 = .ok (.new 288, 3) := by decide +kernel
theorem dX6_requireMember_14 : decode cX6_requireMember 14 = .ok (.dup, 1) := by decide +kernel
theorem dX6_requireMember_15 : decode cX6_requireMember 15 = .ok (.ldc_w 293, 3) := by decide +kernel
theorem dX6_requireMember_18 : decode cX6_requireMember 18 = .ok (.invokespecial 292, 3) := by decide +kernel
theorem dX6_requireMember_21 : decode cX6_requireMember 21 = .ok (.athrow, 1) := by decide +kernel
theorem dX6_requireMember_22 : decode cX6_requireMember 22 = .ok (.return_, 1) := by decide +kernel
theorem dX6_requireCount_0 : decode cX6_requireCount 0 = .ok (.iload_n 0, 1) := by decide +kernel
theorem dX6_requireCount_1 : decode cX6_requireCount 1 = .ok (.ifCond .ge 14, 3) := by decide +kernel
theorem dX6_requireCount_4 : decode cX6_requireCount 4 = .ok (.new 288, 3) := by decide +kernel
theorem dX6_requireCount_7 : decode cX6_requireCount 7 = .ok (.dup, 1) := by decide +kernel
theorem dX6_requireCount_8 : decode cX6_requireCount 8 = .ok (.ldc_w 295, 3) := by decide +kernel
theorem dX6_requireCount_11 : decode cX6_requireCount 11 = .ok (.invokespecial 292, 3) := by decide +kernel
theorem dX6_requireCount_14 : decode cX6_requireCount 14 = .ok (.athrow, 1) := by decide +kernel
theorem dX6_requireCount_15 : decode cX6_requireCount 15 = .ok (.return_, 1) := by decide +kernel
theorem dX6_requireTwo_0 : decode cX6_requireTwo 0 = .ok (.iload_n 0, 1) := by decide +kernel
theorem dX6_requireTwo_1 : decode cX6_requireTwo 1 = .ok (.iload_n 1, 1) := by decide +kernel
theorem dX6_requireTwo_2 : decode cX6_requireTwo 2 = .ok (.if_icmp .ne 14, 3) := by decide +kernel
theorem dX6_requireTwo_5 : decode cX6_requireTwo 5 = .ok (.new 84, 3) := by decide +kernel
theorem dX6_requireTwo_8 : decode cX6_requireTwo 8 = .ok (.dup, 1) := by decide +kernel
theorem dX6_requireTwo_9 : decode cX6_requireTwo 9 = .ok (.ldc_w 297, 3) := by decide +kernel
theorem dX6_requireTwo_12 : decode cX6_requireTwo 12 = .ok (.invokespecial 88, 3) := by decide +kernel
theorem dX6_requireTwo_15 : decode cX6_requireTwo 15 = .ok (.athrow, 1) := by decide +kernel
theorem dX6_requireTwo_16 : decode cX6_requireTwo 16 = .ok (.return_, 1) := by decide +kernel
theorem dX6_requirePoint_0 : decode cX6_requirePoint 0 = .ok (.iload_n 0, 1) := by decide +kernel
theorem dX6_requirePoint_1 : decode cX6_requirePoint 1 = .ok (.bipush (-50), 2) := by decide +kernel
theorem dX6_requirePoint_3 : decode cX6_requirePoint 3 = .ok (.if_icmp .lt 21, 3) := by decide +kernel
theorem dX6_requirePoint_6 : decode cX6_requirePoint 6 = .ok (.iload_n 0, 1) := by decide +kernel
theorem dX6_requirePoint_7 : decode cX6_requirePoint 7 = .ok (.bipush 50, 2) := by decide +kernel
theorem dX6_requirePoint_9 : decode cX6_requirePoint 9 = .ok (.if_icmp .gt 15, 3) := by decide +kernel
theorem dX6_requirePoint_12 : decode cX6_requirePoint 12 = .ok (.iload_n 1, 1) := by decide +kernel
theorem dX6_requirePoint_13 : decode cX6_requirePoint 13 = .ok (.bipush (-50), 2) := by decide +kernel
theorem dX6_requirePoint_15 : decode cX6_requirePoint 15 = .ok (.if_icmp .lt 9, 3) := by decide +kernel
theorem dX6_requirePoint_18 : decode cX6_requirePoint 18 = .ok (.iload_n 1, 1) := by decide +kernel
theorem dX6_requirePoint_19 : decode cX6_requirePoint 19 = .ok (.bipush 50, 2) := by decide +kernel
theorem dX6_requirePoint_21 : decode cX6_requirePoint 21 = .ok (.if_icmp .le 14, 3) := by decide +kernel
theorem dX6_requirePoint_24 : decode cX6_requirePoint 24 = .ok (.new 84, 3) := by decide +kernel
theorem dX6_requirePoint_27 : decode cX6_requirePoint 27 = .ok (.dup, 1) := by decide +kernel
theorem dX6_requirePoint_28 : decode cX6_requirePoint 28 = .ok (.ldc_w 299, 3) := by decide +kernel
theorem dX6_requirePoint_31 : decode cX6_requirePoint 31 = .ok (.invokespecial 88, 3) := by decide +kernel
theorem dX6_requirePoint_34 : decode cX6_requirePoint 34 = .ok (.athrow, 1) := by decide +kernel
theorem dX6_requirePoint_35 : decode cX6_requirePoint 35 = .ok (.return_, 1) := by decide +kernel
theorem dX6_requireRoomForJoint_0 : decode cX6_requireRoomForJoint 0 = .ok (.aload_n 0, 1) := by decide +kernel
theorem dX6_requireRoomForJoint_1 : decode cX6_requireRoomForJoint 1 = .ok (.getfield 10, 3) := by decide +kernel
theorem dX6_requireRoomForJoint_4 : decode cX6_requireRoomForJoint 4 = .ok (.getfield 155, 3) := by decide +kernel
theorem dX6_requireRoomForJoint_7 : decode cX6_requireRoomForJoint 7 = .ok (.bipush 10, 2) := by decide +kernel
theorem dX6_requireRoomForJoint_9 : decode cX6_requireRoomForJoint 9 = .ok (.if_icmp .lt 14, 3) := by decide +kernel
theorem dX6_requireRoomForJoint_12 : decode cX6_requireRoomForJoint 12 = .ok (.new 95, 3) := by decide +kernel
theorem dX6_requireRoomForJoint_15 : decode cX6_requireRoomForJoint 15 = .ok (.dup, 1) := by decide +kernel
theorem dX6_requireRoomForJoint_16 : decode cX6_requireRoomForJoint 16 = .ok (.ldc_w 301, 3) := by decide +kernel
theorem dX6_requireRoomForJoint_19 : decode cX6_requireRoomForJoint 19 = .ok (.invokespecial 99, 3) := by decide +kernel
theorem dX6_requireRoomForJoint_22 : decode cX6_requireRoomForJoint 22 = .ok (.athrow, 1) := by decide +kernel
theorem dX6_requireRoomForJoint_23 : decode cX6_requireRoomForJoint 23 = .ok (.return_, 1) := by decide +kernel
theorem dX6_requireRoomForMembers_0 : decode cX6_requireRoomForMembers 0 = .ok (.aload_n 0, 1) := by decide +kernel
theorem dX6_requireRoomForMembers_1 : decode cX6_requireRoomForMembers 1 = .ok (.getfield 19, 3) := by decide +kernel
theorem dX6_requireRoomForMembers_4 : decode cX6_requireRoomForMembers 4 = .ok (.getfield 235, 3) := by decide +kernel
theorem dX6_requireRoomForMembers_7 : decode cX6_requireRoomForMembers 7 = .ok (.bipush 40, 2) := by decide +kernel
theorem dX6_requireRoomForMembers_9 : decode cX6_requireRoomForMembers 9 = .ok (.iload_n 1, 1) := by decide +kernel
theorem dX6_requireRoomForMembers_10 : decode cX6_requireRoomForMembers 10 = .ok (.isub, 1) := by decide +kernel
theorem dX6_requireRoomForMembers_11 : decode cX6_requireRoomForMembers 11 = .ok (.if_icmp .le 14, 3) := by decide +kernel
theorem dX6_requireRoomForMembers_14 : decode cX6_requireRoomForMembers 14 = .ok (.new 95, 3) := by decide +kernel
theorem dX6_requireRoomForMembers_17 : decode cX6_requireRoomForMembers 17 = .ok (.dup, 1) := by decide +kernel
theorem dX6_requireRoomForMembers_18 : decode cX6_requireRoomForMembers 18 = .ok (.ldc_w 303, 3) := by decide +kernel
theorem dX6_requireRoomForMembers_21 : decode cX6_requireRoomForMembers 21 = .ok (.invokespecial 99, 3) := by decide +kernel
theorem dX6_requireRoomForMembers_24 : decode cX6_requireRoomForMembers 24 = .ok (.athrow, 1) := by decide +kernel
theorem dX6_requireRoomForMembers_25 : decode cX6_requireRoomForMembers 25 = .ok (.return_, 1) := by decide +kernel
theorem dX6_requireError_0 : decode cX6_requireError 0 = .ok (.iload_n 0, 1) := by decide +kernel
theorem dX6_requireError_1 : decode cX6_requireError 1 = .ok (.ifCond .lt 10, 3) := by decide +kernel
theorem dX6_requireError_4 : decode cX6_requireError 4 = .ok (.iload_n 0, 1) := by decide +kernel
theorem dX6_requireError_5 : decode cX6_requireError 5 = .ok (.sipush 5000, 3) := by decide +kernel
theorem dX6_requireError_8 : decode cX6_requireError 8 = .ok (.if_icmp .le 14, 3) := by decide +kernel
theorem dX6_requireError_11 : decode cX6_requireError 11 = .ok (.new 84, 3) := by decide +kernel
theorem dX6_requireError_14 : decode cX6_requireError 14 = .ok (.dup, 1) := by decide +kernel
theorem dX6_requireError_15 : decode cX6_requireError 15 = .ok (.ldc_w 310, 3) := by decide +kernel
theorem dX6_requireError_18 : decode cX6_requireError 18 = .ok (.invokespecial 88, 3) := by decide +kernel
theorem dX6_requireError_21 : decode cX6_requireError 21 = .ok (.athrow, 1) := by decide +kernel
theorem dX6_requireError_22 : decode cX6_requireError 22 = .ok (.return_, 1) := by decide +kernel
set_option maxRecDepth 20000 in
theorem ggX6_rankWithout_X6_writeRows : GoodIn wsX6_rankWithout wsX6_writeRows := goodIn_r _ [6, 7, 1, 8, 9, 10, 11, 12, 13, 14, 15, 16, 17, 18, 19, 20, 21, 22, 23, 24, 25, 26, 27, 28, 29, 30, 31, 32, 33, 34, 35, 36, 37, 38, 39, 40, 41, 42, 43, 44, 45, 46, 5, 47, 48, 49, 50, 51, 52, 53, 54, 55, 56, 57, 58, 59, 60, 61, 62, 63, 93, 94, 95, 96, 97, 98, 99, 100, 101, 102, 103, 104, 105, 106, 107, 108, 109, 110, 111, 112, 113] (by decide +kernel) (by decide +kernel)
set_option maxRecDepth 20000 in
theorem gX6_rankWithout_X6_writeRows : GoodIn wsX6_rankWithout (wsV RX6 131 RX6 yX6_writeRows wsX6_writeRows) := goodIn_app (goodIn_of _ (by decide +kernel)) ggX6_rankWithout_X6_writeRows
set_option maxRecDepth 20000 in
theorem ggX6_rankWithout_X0_reduce : GoodIn wsX6_rankWithout wsX0_reduce := goodIn_r _ [67, 42, 68, 69, 70, 71, 32, 72, 41, 43, 73, 74, 75, 76, 77, 78, 79, 80, 59, 81, 82, 83, 84, 85, 86, 87, 88, 89, 90, 91, 92, 110, 111, 112, 113] (by decide +kernel) (by decide +kernel)
set_option maxRecDepth 20000 in
theorem gX6_rankWithout_X0_reduce : GoodIn wsX6_rankWithout (wsV RX6 134 RX0 yX0_reduce wsX0_reduce) := goodIn_app (goodIn_of _ (by decide +kernel)) ggX6_rankWithout_X0_reduce
theorem dX6_rankWithout_0 : decode cX6_rankWithout 0 = .ok (.aload_n 0, 1) := by decide +kernel
theorem dX6_rankWithout_1 : decode cX6_rankWithout 1 = .ok (.iload_n 1, 1) := by decide +kernel
theorem dX6_rankWithout_2 : decode cX6_rankWithout 2 = .ok (.invokevirtual 131, 3) := by decide +kernel
theorem dX6_rankWithout_5 : decode cX6_rankWithout 5 = .ok (.aload_n 0, 1) := by decide +kernel
theorem dX6_rankWithout_6 : decode cX6_rankWithout 6 = .ok (.getfield 40, 3) := by decide +kernel
theorem dX6_rankWithout_9 : decode cX6_rankWithout 9 = .ok (.invokevirtual 134, 3) := by decide +kernel
theorem dX6_rankWithout_12 : decode cX6_rankWithout 12 = .ok (.ireturn, 1) := by decide +kernel
set_option maxRecDepth 20000 in
theorem ggX6_writeRows_X3_present : GoodIn wsX6_writeRows wsX3_present := goodIn_r _ [12, 13, 14, 15, 16, 11, 17, 18, 19, 20, 21, 22, 71, 72, 73, 74, 75, 76] (by decide +kernel) (by decide +kernel)
set_option maxRecDepth 20000 in
theorem gX6_writeRows_X3_present : GoodIn wsX6_writeRows (wsV RX6 112 RX3 yX3_present wsX3_present) := goodIn_app (goodIn_of _ (by decide +kernel)) ggX6_writeRows_X3_present
set_option maxRecDepth 20000 in
theorem ggX6_writeRows_X3_has : GoodIn wsX6_writeRows wsX3_has := goodIn_r _ [21, 13, 22, 71, 72, 73, 74, 75, 76] (by decide +kernel) (by decide +kernel)
set_option maxRecDepth 20000 in
theorem gX6_writeRows_X3_has : GoodIn wsX6_writeRows (wsV RX6 236 RX3 yX3_has wsX3_has) := goodIn_app (goodIn_of _ (by decide +kernel)) ggX6_writeRows_X3_has
set_option maxRecDepth 20000 in
theorem ggX6_writeRows_X0_begin : GoodIn wsX6_writeRows wsX0_begin := goodIn_r _ [28, 29, 30, 31, 32, 33, 34, 35, 36, 37, 38, 77, 78, 79, 80] (by decide +kernel) (by decide +kernel)
set_option maxRecDepth 20000 in
theorem gX6_writeRows_X0_begin : GoodIn wsX6_writeRows (wsV RX6 245 RX0 yX0_begin wsX0_begin) := goodIn_app (goodIn_of _ (by decide +kernel)) ggX6_writeRows_X0_begin
set_option maxRecDepth 20000 in
theorem ggX6_writeRows_X6_writeRow : GoodIn wsX6_writeRows wsX6_writeRow := goodIn_r _ [43, 3, 44, 45, 46, 47, 48, 49, 42, 50, 2, 51, 52, 53, 27, 54, 36, 37, 38, 55, 56, 57, 58, 59, 60, 61, 62, 63, 64, 65, 66, 67, 68, 69, 70, 77, 78, 79, 80] (by decide +kernel) (by decide +kernel)
set_option maxRecDepth 20000 in
theorem gX6_writeRows_X6_writeRow : GoodIn wsX6_writeRows (wsV RX6 312 RX6 yX6_writeRow wsX6_writeRow) := goodIn_app (goodIn_of _ (by decide +kernel)) ggX6_writeRows_X6_writeRow
theorem dX6_writeRows_0 : decode cX6_writeRows 0 = .ok (.aload_n 0, 1) := by decide +kernel
theorem dX6_writeRows_1 : decode cX6_writeRows 1 = .ok (.getfield 19, 3) := by decide +kernel
theorem dX6_writeRows_4 : decode cX6_writeRows 4 = .ok (.invokevirtual 112, 3) := by decide +kernel
theorem dX6_writeRows_7 : decode cX6_writeRows 7 = .ok (.aload_n 0, 1) := by decide +kernel
theorem dX6_writeRows_8 : decode cX6_writeRows 8 = .ok (.getfield 19, 3) := by decide +kernel
theorem dX6_writeRows_11 : decode cX6_writeRows 11 = .ok (.iload_n 1, 1) := by decide +kernel
theorem dX6_writeRows_12 : decode cX6_writeRows 12 = .ok (.invokevirtual 236, 3) := by decide +kernel
theorem dX6_writeRows_15 : decode cX6_writeRows 15 = .ok (.ifCond .eq 7, 3) := by decide +kernel
theorem dX6_writeRows_18 : decode cX6_writeRows 18 = .ok (.iconst 1, 1) := by decide +kernel
theorem dX6_writeRows_19 : decode cX6_writeRows 19 = .ok (.goto 4, 3) := by decide +kernel
theorem dX6_writeRows_22 : decode cX6_writeRows 22 = .ok (.iconst 0, 1) := by decide +kernel
theorem dX6_writeRows_23 : decode cX6_writeRows 23 = .ok (.isub, 1) := by decide +kernel
theorem dX6_writeRows_24 : decode cX6_writeRows 24 = .ok (.istore_n 2, 1) := by decide +kernel
theorem dX6_writeRows_25 : decode cX6_writeRows 25 = .ok (.aload_n 0, 1) := by decide +kernel
theorem dX6_writeRows_26 : decode cX6_writeRows 26 = .ok (.getfield 40, 3) := by decide +kernel
theorem dX6_writeRows_29 : decode cX6_writeRows 29 = .ok (.iload_n 2, 1) := by decide +kernel
theorem dX6_writeRows_30 : decode cX6_writeRows 30 = .ok (.aload_n 0, 1) := by decide +kernel
theorem dX6_writeRows_31 : decode cX6_writeRows 31 = .ok (.getfield 33, 3) := by decide +kernel
theorem dX6_writeRows_34 : decode cX6_writeRows 34 = .ok (.getfield 124, 3) := by decide +kernel
theorem dX6_writeRows_37 : decode cX6_writeRows 37 = .ok (.invokevirtual 245, 3) := by decide +kernel
theorem dX6_writeRows_40 : decode cX6_writeRows 40 = .ok (.iconst 0, 1) := by decide +kernel
theorem dX6_writeRows_41 : decode cX6_writeRows 41 = .ok (.istore_n 3, 1) := by decide +kernel
theorem dX6_writeRows_42 : decode cX6_writeRows 42 = .ok (.iconst 0, 1) := by decide +kernel
theorem dX6_writeRows_43 : decode cX6_writeRows 43 = .ok (.istore 4, 2) := by decide +kernel
theorem dX6_writeRows_45 : decode cX6_writeRows 45 = .ok (.iload 4, 2) := by decide +kernel
theorem dX6_writeRows_47 : decode cX6_writeRows 47 = .ok (.aload_n 0, 1) := by decide +kernel
theorem dX6_writeRows_48 : decode cX6_writeRows 48 = .ok (.getfield 19, 3) := by decide +kernel
theorem dX6_writeRows_51 : decode cX6_writeRows 51 = .ok (.getfield 235, 3) := by decide +kernel
theorem dX6_writeRows_54 : decode cX6_writeRows 54 = .ok (.if_icmp .ge 55, 3) := by decide +kernel
theorem dX6_writeRows_57 : decode cX6_writeRows 57 = .ok (.aload_n 0, 1) := by decide +kernel
theorem dX6_writeRows_58 : decode cX6_writeRows 58 = .ok (.getfield 19, 3) := by decide +kernel
theorem dX6_writeRows_61 : decode cX6_writeRows 61 = .ok (.iload 4, 2) := by decide +kernel
theorem dX6_writeRows_63 : decode cX6_writeRows 63 = .ok (.invokevirtual 236, 3) := by decide +kernel
theorem dX6_writeRows_66 : decode cX6_writeRows 66 = .ok (.ifCond .eq 37, 3) := by decide +kernel
theorem dX6_writeRows_69 : decode cX6_writeRows 69 = .ok (.iload 4, 2) := by decide +kernel
theorem dX6_writeRows_71 : decode cX6_writeRows 71 = .ok (.iload_n 1, 1) := by decide +kernel
theorem dX6_writeRows_72 : decode cX6_writeRows 72 = .ok (.if_icmp .eq 31, 3) := by decide +kernel
theorem dX6_writeRows_75 : decode cX6_writeRows 75 = .ok (.aload_n 0, 1) := by decide +kernel
theorem dX6_writeRows_76 : decode cX6_writeRows 76 = .ok (.iload_n 3, 1) := by decide +kernel
theorem dX6_writeRows_77 : decode cX6_writeRows 77 = .ok (.aload_n 0, 1) := by decide +kernel
theorem dX6_writeRows_78 : decode cX6_writeRows 78 = .ok (.getfield 19, 3) := by decide +kernel
theorem dX6_writeRows_81 : decode cX6_writeRows 81 = .ok (.getfield 168, 3) := by decide +kernel
theorem dX6_writeRows_84 : decode cX6_writeRows 84 = .ok (.iload 4, 2) := by decide +kernel
theorem dX6_writeRows_86 : decode cX6_writeRows 86 = .ok (.iaload, 1) := by decide +kernel
theorem dX6_writeRows_87 : decode cX6_writeRows 87 = .ok (.aload_n 0, 1) := by decide +kernel
theorem dX6_writeRows_88 : decode cX6_writeRows 88 = .ok (.getfield 19, 3) := by decide +kernel
theorem dX6_writeRows_91 : decode cX6_writeRows 91 = .ok (.getfield 171, 3) := by decide +kernel
theorem dX6_writeRows_94 : decode cX6_writeRows 94 = .ok (.iload 4, 2) := by decide +kernel
theorem dX6_writeRows_96 : decode cX6_writeRows 96 = .ok (.iaload, 1) := by decide +kernel
theorem dX6_writeRows_97 : decode cX6_writeRows 97 = .ok (.invokevirtual 312, 3) := by decide +kernel
theorem dX6_writeRows_100 : decode cX6_writeRows 100 = .ok (.iinc 3 1, 3) := by decide +kernel
theorem dX6_writeRows_103 : decode cX6_writeRows 103 = .ok (.iinc 4 1, 3) := by decide +kernel
theorem dX6_writeRows_106 : decode cX6_writeRows 106 = .ok (.goto (-61), 3) := by decide +kernel
theorem dX6_writeRows_109 : decode cX6_writeRows 109 = .ok (.return_, 1) := by decide +kernel
set_option maxRecDepth 20000 in
theorem ggX6_writeRow_X6_writeEnd : GoodIn wsX6_writeRow wsX6_writeEnd := goodIn_r _ [9, 10, 11, 12, 13, 14, 15, 16, 17, 18, 19, 20, 21, 22, 23, 24, 25, 26, 27, 28, 29, 30, 35, 36, 37, 38] (by decide +kernel) (by decide +kernel)
set_option maxRecDepth 20000 in
theorem gX6_writeRow_X6_writeEnd : GoodIn wsX6_writeRow (wsV RX6 317 RX6 yX6_writeEnd wsX6_writeEnd) := goodIn_app (goodIn_of _ (by decide +kernel)) ggX6_writeRow_X6_writeEnd
theorem dX6_writeRow_0 : decode cX6_writeRow 0 = .ok (.aload_n 0, 1) := by decide +kernel
theorem dX6_writeRow_1 : decode cX6_writeRow 1 = .ok (.getfield 33, 3) := by decide +kernel
theorem dX6_writeRow_4 : decode cX6_writeRow 4 = .ok (.getfield 315, 3) := by decide +kernel
theorem dX6_writeRow_7 : decode cX6_writeRow 7 = .ok (.iload_n 2, 1) := by decide +kernel
theorem dX6_writeRow_8 : decode cX6_writeRow 8 = .ok (.iaload, 1) := by decide +kernel
theorem dX6_writeRow_9 : decode cX6_writeRow 9 = .ok (.aload_n 0, 1) := by decide +kernel
theorem dX6_writeRow_10 : decode cX6_writeRow 10 = .ok (.getfield 33, 3) := by decide +kernel
theorem dX6_writeRow_13 : decode cX6_writeRow 13 = .ok (.getfield 315, 3) := by decide +kernel
theorem dX6_writeRow_16 : decode cX6_writeRow 16 = .ok (.iload_n 3, 1) := by decide +kernel
theorem dX6_writeRow_17 : decode cX6_writeRow 17 = .ok (.iaload, 1) := by decide +kernel
theorem dX6_writeRow_18 : decode cX6_writeRow 18 = .ok (.isub, 1) := by decide +kernel
theorem dX6_writeRow_19 : decode cX6_writeRow 19 = .ok (.istore 4, 2) := by decide +kernel
theorem dX6_writeRow_21 : decode cX6_writeRow 21 = .ok (.aload_n 0, 1) := by decide +kernel
theorem dX6_writeRow_22 : decode cX6_writeRow 22 = .ok (.getfield 33, 3) := by decide +kernel
theorem dX6_writeRow_25 : decode cX6_writeRow 25 = .ok (.getfield 316, 3) := by decide +kernel
theorem dX6_writeRow_28 : decode cX6_writeRow 28 = .ok (.iload_n 2, 1) := by decide +kernel
theorem dX6_writeRow_29 : decode cX6_writeRow 29 = .ok (.iaload, 1) := by decide +kernel
theorem dX6_writeRow_30 : decode cX6_writeRow 30 = .ok (.aload_n 0, 1) := by decide +kernel
theorem dX6_writeRow_31 : decode cX6_writeRow 31 = .ok (.getfield 33, 3) := by decide +kernel
theorem dX6_writeRow_34 : decode cX6_writeRow 34 = .ok (.getfield 316, 3) := by decide +kernel
theorem dX6_writeRow_37 : decode cX6_writeRow 37 = .ok (.iload_n 3, 1) := by decide +kernel
theorem dX6_writeRow_38 : decode cX6_writeRow 38 = .ok (.iaload, 1) := by decide +kernel
theorem dX6_writeRow_39 : decode cX6_writeRow 39 = .ok (.isub, 1) := by decide +kernel
theorem dX6_writeRow_40 : decode cX6_writeRow 40 = .ok (.istore 5, 2) := by decide +kernel
theorem dX6_writeRow_42 : decode cX6_writeRow 42 = .ok (.aload_n 0, 1) := by decide +kernel
theorem dX6_writeRow_43 : decode cX6_writeRow 43 = .ok (.iload_n 1, 1) := by decide +kernel
theorem dX6_writeRow_44 : decode cX6_writeRow 44 = .ok (.aload_n 0, 1) := by decide +kernel
theorem dX6_writeRow_45 : decode cX6_writeRow 45 = .ok (.getfield 33, 3) := by decide +kernel
theorem dX6_writeRow_48 : decode cX6_writeRow 48 = .ok (.getfield 140, 3) := by decide +kernel
theorem dX6_writeRow_51 : decode cX6_writeRow 51 = .ok (.iload_n 2, 1) := by decide +kernel
theorem dX6_writeRow_52 : decode cX6_writeRow 52 = .ok (.iaload, 1) := by decide +kernel
theorem dX6_writeRow_53 : decode cX6_writeRow 53 = .ok (.iload 4, 2) := by decide +kernel
theorem dX6_writeRow_55 : decode cX6_writeRow 55 = .ok (.iload 5, 2) := by decide +kernel
theorem dX6_writeRow_57 : decode cX6_writeRow 57 = .ok (.invokevirtual 317, 3) := by decide +kernel
theorem dX6_writeRow_60 : decode cX6_writeRow 60 = .ok (.aload_n 0, 1) := by decide +kernel
theorem dX6_writeRow_61 : decode cX6_writeRow 61 = .ok (.iload_n 1, 1) := by decide +kernel
theorem dX6_writeRow_62 : decode cX6_writeRow 62 = .ok (.aload_n 0, 1) := by decide +kernel
theorem dX6_writeRow_63 : decode cX6_writeRow 63 = .ok (.getfield 33, 3) := by decide +kernel
theorem dX6_writeRow_66 : decode cX6_writeRow 66 = .ok (.getfield 140, 3) := by decide +kernel
theorem dX6_writeRow_69 : decode cX6_writeRow 69 = .ok (.iload_n 3, 1) := by decide +kernel
theorem dX6_writeRow_70 : decode cX6_writeRow 70 = .ok (.iaload, 1) := by decide +kernel
theorem dX6_writeRow_71 : decode cX6_writeRow 71 = .ok (.iload 4, 2) := by decide +kernel
theorem dX6_writeRow_73 : decode cX6_writeRow 73 = .ok (.ineg, 1) := by decide +kernel
theorem dX6_writeRow_74 : decode cX6_writeRow 74 = .ok (.iload 5, 2) := by decide +kernel
theorem dX6_writeRow_76 : decode cX6_writeRow 76 = .ok (.ineg, 1) := by decide +kernel
theorem dX6_writeRow_77 : decode cX6_writeRow 77 = .ok (.invokevirtual 317, 3) := by decide +kernel
theorem dX6_writeRow_80 : decode cX6_writeRow 80 = .ok (.return_, 1) := by decide +kernel
set_option maxRecDepth 20000 in
theorem ggX6_writeEnd_X0_add : GoodIn wsX6_writeEnd wsX0_add := goodIn_r _ [6, 7, 8, 9, 10, 11, 12, 13, 14, 22, 23, 24, 25] (by decide +kernel) (by decide +kernel)
set_option maxRecDepth 20000 in
theorem gX6_writeEnd_X0_add : GoodIn wsX6_writeEnd (wsV RX6 248 RX0 yX0_add wsX0_add) := goodIn_app (goodIn_of _ (by decide +kernel)) ggX6_writeEnd_X0_add
theorem dX6_writeEnd_0 : decode cX6_writeEnd 0 = .ok (.iload_n 2, 1) := by decide +kernel
theorem dX6_writeEnd_1 : decode cX6_writeEnd 1 = .ok (.iconst (-1), 1) := by decide +kernel
theorem dX6_writeEnd_2 : decode cX6_writeEnd 2 = .ok (.if_icmp .eq 26, 3) := by decide +kernel
theorem dX6_writeEnd_5 : decode cX6_writeEnd 5 = .ok (.aload_n 0, 1) := by decide +kernel
theorem dX6_writeEnd_6 : decode cX6_writeEnd 6 = .ok (.getfield 40, 3) := by decide +kernel
theorem dX6_writeEnd_9 : decode cX6_writeEnd 9 = .ok (.iload_n 1, 1) := by decide +kernel
theorem dX6_writeEnd_10 : decode cX6_writeEnd 10 = .ok (.iload_n 2, 1) := by decide +kernel
theorem dX6_writeEnd_11 : decode cX6_writeEnd 11 = .ok (.iload_n 3, 1) := by decide +kernel
theorem dX6_writeEnd_12 : decode cX6_writeEnd 12 = .ok (.invokevirtual 248, 3) := by decide +kernel
theorem dX6_writeEnd_15 : decode cX6_writeEnd 15 = .ok (.aload_n 0, 1) := by decide +kernel
theorem dX6_writeEnd_16 : decode cX6_writeEnd 16 = .ok (.getfield 40, 3) := by decide +kernel
theorem dX6_writeEnd_19 : decode cX6_writeEnd 19 = .ok (.iload_n 1, 1) := by decide +kernel
theorem dX6_writeEnd_20 : decode cX6_writeEnd 20 = .ok (.iload_n 2, 1) := by decide +kernel
theorem dX6_writeEnd_21 : decode cX6_writeEnd 21 = .ok (.iconst 1, 1) := by decide +kernel
theorem dX6_writeEnd_22 : decode cX6_writeEnd 22 = .ok (.iadd, 1) := by decide +kernel
theorem dX6_writeEnd_23 : decode cX6_writeEnd 23 = .ok (.iload 4, 2) := by decide +kernel
theorem dX6_writeEnd_25 : decode cX6_writeEnd 25 = .ok (.invokevirtual 248, 3) := by decide +kernel
theorem dX6_writeEnd_28 : decode cX6_writeEnd 28 = .ok (.return_, 1) := by decide +kernel
set_option maxRecDepth 20000 in
theorem ggX6_keepWithout_X4_clear : GoodIn wsX6_keepWithout wsX4_clear := goodIn_r _ [11, 12, 75, 76, 77] (by decide +kernel) (by decide +kernel)
set_option maxRecDepth 20000 in
theorem gX6_keepWithout_X4_clear : GoodIn wsX6_keepWithout (wsV RX6 321 RX4 yX4_clear wsX4_clear) := goodIn_app (goodIn_of _ (by decide +kernel)) ggX6_keepWithout_X4_clear
set_option maxRecDepth 20000 in
theorem ggX6_keepWithout_X3_has : GoodIn wsX6_keepWithout wsX3_has := goodIn_r _ [17, 18, 19, 69, 70, 71, 72, 73, 74] (by decide +kernel) (by decide +kernel)
set_option maxRecDepth 20000 in
theorem gX6_keepWithout_X3_has : GoodIn wsX6_keepWithout (wsV RX6 236 RX3 yX3_has wsX3_has) := goodIn_app (goodIn_of _ (by decide +kernel)) ggX6_keepWithout_X3_has
set_option maxRecDepth 20000 in
theorem ggX6_keepWithout_X4_canCover : GoodIn wsX6_keepWithout wsX4_canCover := goodIn_r _ [23, 24, 25, 26, 10, 27, 28, 29, 30, 31, 12, 32, 33, 34, 35, 36, 37, 38, 39, 40, 41, 42, 43, 44, 45, 46, 47, 48, 49, 50, 75, 76, 77] (by decide +kernel) (by decide +kernel)
set_option maxRecDepth 20000 in
theorem gX6_keepWithout_X4_canCover : GoodIn wsX6_keepWithout (wsV RX6 324 RX4 yX4_canCover wsX4_canCover) := goodIn_app (goodIn_of _ (by decide +kernel)) ggX6_keepWithout_X4_canCover
set_option maxRecDepth 20000 in
theorem ggX6_keepWithout_X4_cover : GoodIn wsX6_keepWithout wsX4_cover := goodIn_r _ [54, 12, 75, 76, 77] (by decide +kernel) (by decide +kernel)
set_option maxRecDepth 20000 in
theorem gX6_keepWithout_X4_cover : GoodIn wsX6_keepWithout (wsV RX6 327 RX4 yX4_cover wsX4_cover) := goodIn_app (goodIn_of _ (by decide +kernel)) ggX6_keepWithout_X4_cover
set_option maxRecDepth 20000 in
theorem ggX6_keepWithout_J13_bitCount_95d88 : GoodIn wsX6_keepWithout wsJ13_bitCount_95d88 := goodIn_r _ [58, 59, 60, 61] (by decide +kernel) (by decide +kernel)
set_option maxRecDepth 20000 in
theorem gX6_keepWithout_J13_bitCount_95d88 : GoodIn wsX6_keepWithout (va_wsS RX6 330 yJ13_bitCount_95d88 wsJ13_bitCount_95d88) := goodIn_app (goodIn_of _ (by decide +kernel)) ggX6_keepWithout_J13_bitCount_95d88
theorem dX6_keepWithout_0 : decode cX6_keepWithout 0 = .ok (.aload_n 0, 1) := by decide +kernel
theorem dX6_keepWithout_1 : decode cX6_keepWithout 1 = .ok (.getfield 47, 3) := by decide +kernel
theorem dX6_keepWithout_4 : decode cX6_keepWithout 4 = .ok (.invokevirtual 321, 3) := by decide +kernel
theorem dX6_keepWithout_7 : decode cX6_keepWithout 7 = .ok (.aload_n 0, 1) := by decide +kernel
theorem dX6_keepWithout_8 : decode cX6_keepWithout 8 = .ok (.lconst 0, 1) := by decide +kernel
theorem dX6_keepWithout_9 : decode cX6_keepWithout 9 = .ok (.putfield 51, 3) := by decide +kernel
theorem dX6_keepWithout_12 : decode cX6_keepWithout 12 = .ok (.iconst 0, 1) := by decide +kernel
theorem dX6_keepWithout_13 : decode cX6_keepWithout 13 = .ok (.istore_n 2, 1) := by decide +kernel
theorem dX6_keepWithout_14 : decode cX6_keepWithout 14 = .ok (.iload_n 2, 1) := by decide +kernel
theorem dX6_keepWithout_15 : decode cX6_keepWithout 15 = .ok (.aload_n 0, 1) := by decide +kernel
theorem dX6_keepWithout_16 : decode cX6_keepWithout 16 = .ok (.getfield 19, 3) := by decide +kernel
theorem dX6_keepWithout_19 : decode cX6_keepWithout 19 = .ok (.getfield 235, 3) := by decide +kernel
theorem dX6_keepWithout_22 : decode cX6_keepWithout 22 = .ok (.if_icmp .ge 90, 3) := by decide +kernel
theorem dX6_keepWithout_25 : decode cX6_keepWithout 25 = .ok (.aload_n 0, 1) := by decide +kernel
theorem dX6_keepWithout_26 : decode cX6_keepWithout 26 = .ok (.getfield 19, 3) := by decide +kernel
theorem dX6_keepWithout_29 : decode cX6_keepWithout 29 = .ok (.iload_n 2, 1) := by decide +kernel
theorem dX6_keepWithout_30 : decode cX6_keepWithout 30 = .ok (.invokevirtual 236, 3) := by decide +kernel
theorem dX6_keepWithout_33 : decode cX6_keepWithout 33 = .ok (.ifCond .eq 73, 3) := by decide +kernel
theorem dX6_keepWithout_36 : decode cX6_keepWithout 36 = .ok (.iload_n 2, 1) := by decide +kernel
theorem dX6_keepWithout_37 : decode cX6_keepWithout 37 = .ok (.iload_n 1, 1) := by decide +kernel
theorem dX6_keepWithout_38 : decode cX6_keepWithout 38 = .ok (.if_icmp .eq 68, 3) := by decide +kernel
theorem dX6_keepWithout_41 : decode cX6_keepWithout 41 = .ok (.aload_n 0, 1) := by decide +kernel
theorem dX6_keepWithout_42 : decode cX6_keepWithout 42 = .ok (.getfield 47, 3) := by decide +kernel
theorem dX6_keepWithout_45 : decode cX6_keepWithout 45 = .ok (.aload_n 0, 1) := by decide +kernel
theorem dX6_keepWithout_46 : decode cX6_keepWithout 46 = .ok (.getfield 19, 3) := by decide +kernel
theorem dX6_keepWithout_49 : decode cX6_keepWithout 49 = .ok (.getfield 168, 3) := by decide +kernel
theorem dX6_keepWithout_52 : decode cX6_keepWithout 52 = .ok (.iload_n 2, 1) := by decide +kernel
theorem dX6_keepWithout_53 : decode cX6_keepWithout 53 = .ok (.iaload, 1) := by decide +kernel
theorem dX6_keepWithout_54 : decode cX6_keepWithout 54 = .ok (.aload_n 0, 1) := by decide +kernel
theorem dX6_keepWithout_55 : decode cX6_keepWithout 55 = .ok (.getfield 19, 3) := by decide +kernel
theorem dX6_keepWithout_58 : decode cX6_keepWithout 58 = .ok (.getfield 171, 3) := by decide +kernel
theorem dX6_keepWithout_61 : decode cX6_keepWithout 61 = .ok (.iload_n 2, 1) := by decide +kernel
theorem dX6_keepWithout_62 : decode cX6_keepWithout 62 = .ok (.iaload, 1) := by decide +kernel
theorem dX6_keepWithout_63 : decode cX6_keepWithout 63 = .ok (.invokevirtual 324, 3) := by decide +kernel
theorem dX6_keepWithout_66 : decode cX6_keepWithout 66 = .ok (.ifCond .eq 40, 3) := by decide +kernel
theorem dX6_keepWithout_69 : decode cX6_keepWithout 69 = .ok (.aload_n 0, 1) := by decide +kernel
theorem dX6_keepWithout_70 : decode cX6_keepWithout 70 = .ok (.getfield 47, 3) := by decide +kernel
theorem dX6_keepWithout_73 : decode cX6_keepWithout 73 = .ok (.aload_n 0, 1) := by decide +kernel
theorem dX6_keepWithout_74 : decode cX6_keepWithout 74 = .ok (.getfield 19, 3) := by decide +kernel
theorem dX6_keepWithout_77 : decode cX6_keepWithout 77 = .ok (.getfield 168, 3) := by decide +kernel
theorem dX6_keepWithout_80 : decode cX6_keepWithout 80 = .ok (.iload_n 2, 1) := by decide +kernel
theorem dX6_keepWithout_81 : decode cX6_keepWithout 81 = .ok (.iaload, 1) := by decide +kernel
theorem dX6_keepWithout_82 : decode cX6_keepWithout 82 = .ok (.aload_n 0, 1) := by decide +kernel
theorem dX6_keepWithout_83 : decode cX6_keepWithout 83 = .ok (.getfield 19, 3) := by decide +kernel
theorem dX6_keepWithout_86 : decode cX6_keepWithout 86 = .ok (.getfield 171, 3) := by decide +kernel
theorem dX6_keepWithout_89 : decode cX6_keepWithout 89 = .ok (.iload_n 2, 1) := by decide +kernel
theorem dX6_keepWithout_90 : decode cX6_keepWithout 90 = .ok (.iaload, 1) := by decide +kernel
theorem dX6_keepWithout_91 : decode cX6_keepWithout 91 = .ok (.invokevirtual 327, 3) := by decide +kernel
theorem dX6_keepWithout_94 : decode cX6_keepWithout 94 = .ok (.aload_n 0, 1) := by decide +kernel
theorem dX6_keepWithout_95 : decode cX6_keepWithout 95 = .ok (.dup, 1) := by decide +kernel
theorem dX6_keepWithout_96 : decode cX6_keepWithout 96 = .ok (.getfield 51, 3) := by decide +kernel
theorem dX6_keepWithout_99 : decode cX6_keepWithout 99 = .ok (.lconst 1, 1) := by decide +kernel
theorem dX6_keepWithout_100 : decode cX6_keepWithout 100 = .ok (.iload_n 2, 1) := by decide +kernel
theorem dX6_keepWithout_101 : decode cX6_keepWithout 101 = .ok (.lshl, 1) := by decide +kernel
theorem dX6_keepWithout_102 : decode cX6_keepWithout 102 = .ok (.lor, 1) := by decide +kernel
theorem dX6_keepWithout_103 : decode cX6_keepWithout 103 = .ok (.putfield 51, 3) := by decide +kernel
theorem dX6_keepWithout_106 : decode cX6_keepWithout 106 = .ok (.iinc 2 1, 3) := by decide +kernel
theorem dX6_keepWithout_109 : decode cX6_keepWithout 109 = .ok (.goto (-95), 3) := by decide +kernel
theorem dX6_keepWithout_112 : decode cX6_keepWithout 112 = .ok (.aload_n 0, 1) := by decide +kernel
theorem dX6_keepWithout_113 : decode cX6_keepWithout 113 = .ok (.getfield 51, 3) := by decide +kernel
theorem dX6_keepWithout_116 : decode cX6_keepWithout 116 = .ok (.invokestatic 330, 3) := by decide +kernel
theorem dX6_keepWithout_119 : decode cX6_keepWithout 119 = .ok (.ireturn, 1) := by decide +kernel
theorem dX6_rigidCount_0 : decode cX6_rigidCount 0 = .ok (.iconst 2, 1) := by decide +kernel
theorem dX6_rigidCount_1 : decode cX6_rigidCount 1 = .ok (.aload_n 0, 1) := by decide +kernel
theorem dX6_rigidCount_2 : decode cX6_rigidCount 2 = .ok (.getfield 10, 3) := by decide +kernel
theorem dX6_rigidCount_5 : decode cX6_rigidCount 5 = .ok (.getfield 155, 3) := by decide +kernel
theorem dX6_rigidCount_8 : decode cX6_rigidCount 8 = .ok (.imul, 1) := by decide +kernel
theorem dX6_rigidCount_9 : decode cX6_rigidCount 9 = .ok (.iconst 3, 1) := by decide +kernel
theorem dX6_rigidCount_10 : decode cX6_rigidCount 10 = .ok (.isub, 1) := by decide +kernel
theorem dX6_rigidCount_11 : decode cX6_rigidCount 11 = .ok (.ireturn, 1) := by decide +kernel
set_option maxRecDepth 20000 in
theorem ggX6_isRigidWithoutEachOf_X6_hasBit : GoodIn wsX6_isRigidWithoutEachOf wsX6_hasBit := goodIn_r _ [6] (by decide +kernel) (by decide +kernel)
set_option maxRecDepth 20000 in
theorem gX6_isRigidWithoutEachOf_X6_hasBit : GoodIn wsX6_isRigidWithoutEachOf (va_wsS RX6 164 yX6_hasBit wsX6_hasBit) := goodIn_app (goodIn_of _ (by decide +kernel)) ggX6_isRigidWithoutEachOf_X6_hasBit
set_option maxRecDepth 20000 in
theorem ggX6_isRigidWithoutEachOf_X6_keepWithout : GoodIn wsX6_isRigidWithoutEachOf wsX6_keepWithout := goodIn_r _ [10, 11, 12, 1, 2, 13, 14, 15, 16, 17, 18, 19, 20, 21, 22, 23, 24, 25, 26, 27, 28, 29, 30, 31, 32, 33, 34, 35, 36, 37, 38, 39, 40, 41, 42, 43, 44, 45, 46, 5, 47, 4, 6, 48, 49, 50, 51, 52, 53, 54, 55, 56, 57, 58, 59, 60, 61, 62, 63, 64, 65, 66, 73, 74, 75, 76, 77, 78, 79, 80, 81, 82, 83, 84, 85, 86, 87, 88] (by decide +kernel) (by decide +kernel)
set_option maxRecDepth 20000 in
theorem gX6_isRigidWithoutEachOf_X6_keepWithout : GoodIn wsX6_isRigidWithoutEachOf (wsV RX6 161 RX6 yX6_keepWithout wsX6_keepWithout) := goodIn_app (goodIn_of _ (by decide +kernel)) ggX6_isRigidWithoutEachOf_X6_keepWithout
set_option maxRecDepth 20000 in
theorem ggX6_isRigidWithoutEachOf_X6_rigidCount : GoodIn wsX6_isRigidWithoutEachOf wsX6_rigidCount := goodIn_r _ [70, 71, 72, 73, 74, 75, 76, 77, 78, 79, 89, 90, 91, 92, 93] (by decide +kernel) (by decide +kernel)
set_option maxRecDepth 20000 in
theorem gX6_isRigidWithoutEachOf_X6_rigidCount : GoodIn wsX6_isRigidWithoutEachOf (wsV RX6 180 RX6 yX6_rigidCount wsX6_rigidCount) := goodIn_app (goodIn_of _ (by decide +kernel)) ggX6_isRigidWithoutEachOf_X6_rigidCount
theorem dX6_isRigidWithoutEachOf_0 : decode cX6_isRigidWithoutEachOf 0 = .ok (.iconst 0, 1) := by decide +kernel
theorem dX6_isRigidWithoutEachOf_1 : decode cX6_isRigidWithoutEachOf 1 = .ok (.istore_n 3, 1) := by decide +kernel
theorem dX6_isRigidWithoutEachOf_2 : decode cX6_isRigidWithoutEachOf 2 = .ok (.iload_n 3, 1) := by decide +kernel
theorem dX6_isRigidWithoutEachOf_3 : decode cX6_isRigidWithoutEachOf 3 = .ok (.aload_n 0, 1) := by decide +kernel
theorem dX6_isRigidWithoutEachOf_4 : decode cX6_isRigidWithoutEachOf 4 = .ok (.getfield 19, 3) := by decide +kernel
theorem dX6_isRigidWithoutEachOf_7 : decode cX6_isRigidWithoutEachOf 7 = .ok (.getfield 235, 3) := by decide +kernel
theorem dX6_isRigidWithoutEachOf_10 : decode cX6_isRigidWithoutEachOf 10 = .ok (.if_icmp .ge 31, 3) := by decide +kernel
theorem dX6_isRigidWithoutEachOf_13 : decode cX6_isRigidWithoutEachOf 13 = .ok (.lload_n 1, 1) := by decide +kernel
theorem dX6_isRigidWithoutEachOf_14 : decode cX6_isRigidWithoutEachOf 14 = .ok (.iload_n 3, 1) := by decide +kernel
theorem dX6_isRigidWithoutEachOf_15 : decode cX6_isRigidWithoutEachOf 15 = .ok (.invokestatic 164, 3) := by decide +kernel
theorem dX6_isRigidWithoutEachOf_18 : decode cX6_isRigidWithoutEachOf 18 = .ok (.ifCond .eq 17, 3) := by decide +kernel
theorem dX6_isRigidWithoutEachOf_21 : decode cX6_isRigidWithoutEachOf 21 = .ok (.aload_n 0, 1) := by decide +kernel
theorem dX6_isRigidWithoutEachOf_22 : decode cX6_isRigidWithoutEachOf 22 = .ok (.iload_n 3, 1) := by decide +kernel
theorem dX6_isRigidWithoutEachOf_23 : decode cX6_isRigidWithoutEachOf 23 = .ok (.invokevirtual 161, 3) := by decide +kernel
theorem dX6_isRigidWithoutEachOf_26 : decode cX6_isRigidWithoutEachOf 26 = .ok (.aload_n 0, 1) := by decide +kernel
theorem dX6_isRigidWithoutEachOf_27 : decode cX6_isRigidWithoutEachOf 27 = .ok (.invokevirtual 180, 3) := by decide +kernel
theorem dX6_isRigidWithoutEachOf_30 : decode cX6_isRigidWithoutEachOf 30 = .ok (.if_icmp .ge 5, 3) := by decide +kernel
theorem dX6_isRigidWithoutEachOf_33 : decode cX6_isRigidWithoutEachOf 33 = .ok (.iconst 0, 1) := by decide +kernel
theorem dX6_isRigidWithoutEachOf_34 : decode cX6_isRigidWithoutEachOf 34 = .ok (.ireturn, 1) := by decide +kernel
theorem dX6_isRigidWithoutEachOf_35 : decode cX6_isRigidWithoutEachOf 35 = .ok (.iinc 3 1, 3) := by decide +kernel
theorem dX6_isRigidWithoutEachOf_38 : decode cX6_isRigidWithoutEachOf 38 = .ok (.goto (-36), 3) := by decide +kernel
theorem dX6_isRigidWithoutEachOf_41 : decode cX6_isRigidWithoutEachOf 41 = .ok (.iconst 1, 1) := by decide +kernel
theorem dX6_isRigidWithoutEachOf_42 : decode cX6_isRigidWithoutEachOf 42 = .ok (.ireturn, 1) := by decide +kernel
set_option maxRecDepth 20000 in
theorem ggX6_isComplete_X3_present : GoodIn wsX6_isComplete wsX3_present := goodIn_r _ [8, 9, 10, 11, 12, 7, 13, 14, 15, 16, 17, 18, 31, 32, 33, 34, 35, 36] (by decide +kernel) (by decide +kernel)
set_option maxRecDepth 20000 in
theorem gX6_isComplete_X3_present : GoodIn wsX6_isComplete (wsV RX6 112 RX3 yX3_present wsX3_present) := goodIn_app (goodIn_of _ (by decide +kernel)) ggX6_isComplete_X3_present
theorem dX6_isComplete_0 : decode cX6_isComplete 0 = .ok (.aload_n 0, 1) := by decide +kernel
theorem dX6_isComplete_1 : decode cX6_isComplete 1 = .ok (.getfield 19, 3) := by decide +kernel
theorem dX6_isComplete_4 : decode cX6_isComplete 4 = .ok (.invokevirtual 112, 3) := by decide +kernel
theorem dX6_isComplete_7 : decode cX6_isComplete 7 = .ok (.aload_n 0, 1) := by decide +kernel
theorem dX6_isComplete_8 : decode cX6_isComplete 8 = .ok (.getfield 10, 3) := by decide +kernel
theorem dX6_isComplete_11 : decode cX6_isComplete 11 = .ok (.getfield 155, 3) := by decide +kernel
theorem dX6_isComplete_14 : decode cX6_isComplete 14 = .ok (.aload_n 0, 1) := by decide +kernel
theorem dX6_isComplete_15 : decode cX6_isComplete 15 = .ok (.getfield 10, 3) := by decide +kernel
theorem dX6_isComplete_18 : decode cX6_isComplete 18 = .ok (.getfield 155, 3) := by decide +kernel
theorem dX6_isComplete_21 : decode cX6_isComplete 21 = .ok (.iconst 1, 1) := by decide +kernel
theorem dX6_isComplete_22 : decode cX6_isComplete 22 = .ok (.isub, 1) := by decide +kernel
theorem dX6_isComplete_23 : decode cX6_isComplete 23 = .ok (.imul, 1) := by decide +kernel
theorem dX6_isComplete_24 : decode cX6_isComplete 24 = .ok (.iconst 2, 1) := by decide +kernel
theorem dX6_isComplete_25 : decode cX6_isComplete 25 = .ok (.idiv, 1) := by decide +kernel
theorem dX6_isComplete_26 : decode cX6_isComplete 26 = .ok (.if_icmp .ne 7, 3) := by decide +kernel
theorem dX6_isComplete_29 : decode cX6_isComplete 29 = .ok (.iconst 1, 1) := by decide +kernel
theorem dX6_isComplete_30 : decode cX6_isComplete 30 = .ok (.goto 4, 3) := by decide +kernel
theorem dX6_isComplete_33 : decode cX6_isComplete 33 = .ok (.iconst 0, 1) := by decide +kernel
theorem dX6_isComplete_34 : decode cX6_isComplete 34 = .ok (.ireturn, 1) := by decide +kernel
set_option maxRecDepth 20000 in
theorem ggX6_hangsWithoutAnyTwo_X1_all : GoodIn wsX6_hangsWithoutAnyTwo wsX1_all := goodIn_r _ [7, 8, 38, 39, 40, 41, 42] (by decide +kernel) (by decide +kernel)
set_option maxRecDepth 20000 in
theorem gX6_hangsWithoutAnyTwo_X1_all : GoodIn wsX6_hangsWithoutAnyTwo (wsV RX6 335 RX1 yX1_all wsX1_all) := goodIn_app (goodIn_of _ (by decide +kernel)) ggX6_hangsWithoutAnyTwo_X1_all
set_option maxRecDepth 20000 in
theorem ggX6_hangsWithoutAnyTwo_X6_bit : GoodIn wsX6_hangsWithoutAnyTwo wsX6_bit := goodIn_r _ [12] (by decide +kernel) (by decide +kernel)
set_option maxRecDepth 20000 in
theorem gX6_hangsWithoutAnyTwo_X6_bit : GoodIn wsX6_hangsWithoutAnyTwo (va_wsS RX6 174 yX6_bit wsX6_bit) := goodIn_app (goodIn_of _ (by decide +kernel)) ggX6_hangsWithoutAnyTwo_X6_bit
set_option maxRecDepth 20000 in
theorem ggX6_hangsWithoutAnyTwo_X6_hangsTogether : GoodIn wsX6_hangsWithoutAnyTwo wsX6_hangsTogether := goodIn_r _ [16, 1, 2, 17, 18, 19, 20, 21, 22, 23, 24, 25, 10, 11, 12, 26, 27, 28, 29, 30, 31, 32, 33, 34, 35, 36, 37, 38, 39, 40, 41, 42, 43, 44, 45, 46, 47, 48] (by decide +kernel) (by decide +kernel)
set_option maxRecDepth 20000 in
theorem gX6_hangsWithoutAnyTwo_X6_hangsTogether : GoodIn wsX6_hangsWithoutAnyTwo (wsV RX6 338 RX6 yX6_hangsTogether wsX6_hangsTogether) := goodIn_app (goodIn_of _ (by decide +kernel)) ggX6_hangsWithoutAnyTwo_X6_hangsTogether
theorem dX6_hangsWithoutAnyTwo_0 : decode cX6_hangsWithoutAnyTwo 0 = .ok (.iconst 0, 1) := by decide +kernel
theorem dX6_hangsWithoutAnyTwo_1 : decode cX6_hangsWithoutAnyTwo 1 = .ok (.istore_n 1, 1) := by decide +kernel
theorem dX6_hangsWithoutAnyTwo_2 : decode cX6_hangsWithoutAnyTwo 2 = .ok (.iload_n 1, 1) := by decide +kernel
theorem dX6_hangsWithoutAnyTwo_3 : decode cX6_hangsWithoutAnyTwo 3 = .ok (.aload_n 0, 1) := by decide +kernel
theorem dX6_hangsWithoutAnyTwo_4 : decode cX6_hangsWithoutAnyTwo 4 = .ok (.getfield 10, 3) := by decide +kernel
theorem dX6_hangsWithoutAnyTwo_7 : decode cX6_hangsWithoutAnyTwo 7 = .ok (.getfield 155, 3) := by decide +kernel
theorem dX6_hangsWithoutAnyTwo_10 : decode cX6_hangsWithoutAnyTwo 10 = .ok (.if_icmp .ge 60, 3) := by decide +kernel
theorem dX6_hangsWithoutAnyTwo_13 : decode cX6_hangsWithoutAnyTwo 13 = .ok (.iload_n 1, 1) := by decide +kernel
theorem dX6_hangsWithoutAnyTwo_14 : decode cX6_hangsWithoutAnyTwo 14 = .ok (.iconst 1, 1) := by decide +kernel
theorem dX6_hangsWithoutAnyTwo_15 : decode cX6_hangsWithoutAnyTwo 15 = .ok (.iadd, 1) := by decide +kernel
theorem dX6_hangsWithoutAnyTwo_16 : decode cX6_hangsWithoutAnyTwo 16 = .ok (.istore_n 2, 1) := by decide +kernel
theorem dX6_hangsWithoutAnyTwo_17 : decode cX6_hangsWithoutAnyTwo 17 = .ok (.iload_n 2, 1) := by decide +kernel
theorem dX6_hangsWithoutAnyTwo_18 : decode cX6_hangsWithoutAnyTwo 18 = .ok (.aload_n 0, 1) := by decide +kernel
theorem dX6_hangsWithoutAnyTwo_19 : decode cX6_hangsWithoutAnyTwo 19 = .ok (.getfield 10, 3) := by decide +kernel
theorem dX6_hangsWithoutAnyTwo_22 : decode cX6_hangsWithoutAnyTwo 22 = .ok (.getfield 155, 3) := by decide +kernel
theorem dX6_hangsWithoutAnyTwo_25 : decode cX6_hangsWithoutAnyTwo 25 = .ok (.if_icmp .ge 39, 3) := by decide +kernel
theorem dX6_hangsWithoutAnyTwo_28 : decode cX6_hangsWithoutAnyTwo 28 = .ok (.aload_n 0, 1) := by decide +kernel
theorem dX6_hangsWithoutAnyTwo_29 : decode cX6_hangsWithoutAnyTwo 29 = .ok (.aload_n 0, 1) := by decide +kernel
theorem dX6_hangsWithoutAnyTwo_30 : decode cX6_hangsWithoutAnyTwo 30 = .ok (.getfield 10, 3) := by decide +kernel
theorem dX6_hangsWithoutAnyTwo_33 : decode cX6_hangsWithoutAnyTwo 33 = .ok (.invokevirtual 335, 3) := by decide +kernel
theorem dX6_hangsWithoutAnyTwo_36 : decode cX6_hangsWithoutAnyTwo 36 = .ok (.iload_n 1, 1) := by decide +kernel
theorem dX6_hangsWithoutAnyTwo_37 : decode cX6_hangsWithoutAnyTwo 37 = .ok (.invokestatic 174, 3) := by decide +kernel
theorem dX6_hangsWithoutAnyTwo_40 : decode cX6_hangsWithoutAnyTwo 40 = .ok (.iconst (-1), 1) := by decide +kernel
theorem dX6_hangsWithoutAnyTwo_41 : decode cX6_hangsWithoutAnyTwo 41 = .ok (.ixor, 1) := by decide +kernel
theorem dX6_hangsWithoutAnyTwo_42 : decode cX6_hangsWithoutAnyTwo 42 = .ok (.iand, 1) := by decide +kernel
theorem dX6_hangsWithoutAnyTwo_43 : decode cX6_hangsWithoutAnyTwo 43 = .ok (.iload_n 2, 1) := by decide +kernel
theorem dX6_hangsWithoutAnyTwo_44 : decode cX6_hangsWithoutAnyTwo 44 = .ok (.invokestatic 174, 3) := by decide +kernel
theorem dX6_hangsWithoutAnyTwo_47 : decode cX6_hangsWithoutAnyTwo 47 = .ok (.iconst (-1), 1) := by decide +kernel
theorem dX6_hangsWithoutAnyTwo_48 : decode cX6_hangsWithoutAnyTwo 48 = .ok (.ixor, 1) := by decide +kernel
theorem dX6_hangsWithoutAnyTwo_49 : decode cX6_hangsWithoutAnyTwo 49 = .ok (.iand, 1) := by decide +kernel
theorem dX6_hangsWithoutAnyTwo_50 : decode cX6_hangsWithoutAnyTwo 50 = .ok (.invokevirtual 338, 3) := by decide +kernel
theorem dX6_hangsWithoutAnyTwo_53 : decode cX6_hangsWithoutAnyTwo 53 = .ok (.ifCond .ne 5, 3) := by decide +kernel
theorem dX6_hangsWithoutAnyTwo_56 : decode cX6_hangsWithoutAnyTwo 56 = .ok (.iconst 0, 1) := by decide +kernel
theorem dX6_hangsWithoutAnyTwo_57 : decode cX6_hangsWithoutAnyTwo 57 = .ok (.ireturn, 1) := by decide +kernel
theorem dX6_hangsWithoutAnyTwo_58 : decode cX6_hangsWithoutAnyTwo 58 = .ok (.iinc 2 1, 3) := by decide +kernel
theorem dX6_hangsWithoutAnyTwo_61 : decode cX6_hangsWithoutAnyTwo 61 = .ok (.goto (-44), 3) := by decide +kernel
theorem dX6_hangsWithoutAnyTwo_64 : decode cX6_hangsWithoutAnyTwo 64 = .ok (.iinc 1 1, 3) := by decide +kernel
theorem dX6_hangsWithoutAnyTwo_67 : decode cX6_hangsWithoutAnyTwo 67 = .ok (.goto (-65), 3) := by decide +kernel
theorem dX6_hangsWithoutAnyTwo_70 : decode cX6_hangsWithoutAnyTwo 70 = .ok (.iconst 1, 1) := by decide +kernel
theorem dX6_hangsWithoutAnyTwo_71 : decode cX6_hangsWithoutAnyTwo 71 = .ok (.ireturn, 1) := by decide +kernel
set_option maxRecDepth 20000 in
theorem ggX6_hangsTogether_X3_spread : GoodIn wsX6_hangsTogether wsX3_spread := goodIn_r _ [8, 9, 10, 11, 12, 13, 14, 15, 16, 17, 7, 18, 19, 32, 33, 34, 35, 36, 37] (by decide +kernel) (by decide +kernel)
set_option maxRecDepth 20000 in
theorem gX6_hangsTogether_X3_spread : GoodIn wsX6_hangsTogether (wsV RX6 341 RX3 yX3_spread wsX3_spread) := goodIn_app (goodIn_of _ (by decide +kernel)) ggX6_hangsTogether_X3_spread
theorem dX6_hangsTogether_0 : decode cX6_hangsTogether 0 = .ok (.iload_n 1, 1) := by decide +kernel
theorem dX6_hangsTogether_1 : decode cX6_hangsTogether 1 = .ok (.iload_n 1, 1) := by decide +kernel
theorem dX6_hangsTogether_2 : decode cX6_hangsTogether 2 = .ok (.ineg, 1) := by decide +kernel
theorem dX6_hangsTogether_3 : decode cX6_hangsTogether 3 = .ok (.iand, 1) := by decide +kernel
theorem dX6_hangsTogether_4 : decode cX6_hangsTogether 4 = .ok (.istore_n 2, 1) := by decide +kernel
theorem dX6_hangsTogether_5 : decode cX6_hangsTogether 5 = .ok (.iconst 0, 1) := by decide +kernel
theorem dX6_hangsTogether_6 : decode cX6_hangsTogether 6 = .ok (.istore_n 3, 1) := by decide +kernel
theorem dX6_hangsTogether_7 : decode cX6_hangsTogether 7 = .ok (.iload_n 3, 1) := by decide +kernel
theorem dX6_hangsTogether_8 : decode cX6_hangsTogether 8 = .ok (.aload_n 0, 1) := by decide +kernel
theorem dX6_hangsTogether_9 : decode cX6_hangsTogether 9 = .ok (.getfield 10, 3) := by decide +kernel
theorem dX6_hangsTogether_12 : decode cX6_hangsTogether 12 = .ok (.getfield 155, 3) := by decide +kernel
theorem dX6_hangsTogether_15 : decode cX6_hangsTogether 15 = .ok (.if_icmp .ge 24, 3) := by decide +kernel
theorem dX6_hangsTogether_18 : decode cX6_hangsTogether 18 = .ok (.iload_n 2, 1) := by decide +kernel
theorem dX6_hangsTogether_19 : decode cX6_hangsTogether 19 = .ok (.iload_n 1, 1) := by decide +kernel
theorem dX6_hangsTogether_20 : decode cX6_hangsTogether 20 = .ok (.if_icmp .eq 19, 3) := by decide +kernel
theorem dX6_hangsTogether_23 : decode cX6_hangsTogether 23 = .ok (.aload_n 0, 1) := by decide +kernel
theorem dX6_hangsTogether_24 : decode cX6_hangsTogether 24 = .ok (.getfield 19, 3) := by decide +kernel
theorem dX6_hangsTogether_27 : decode cX6_hangsTogether 27 = .ok (.iload_n 2, 1) := by decide +kernel
theorem dX6_hangsTogether_28 : decode cX6_hangsTogether 28 = .ok (.iload_n 1, 1) := by decide +kernel
theorem dX6_hangsTogether_29 : decode cX6_hangsTogether 29 = .ok (.invokevirtual 341, 3) := by decide +kernel
theorem dX6_hangsTogether_32 : decode cX6_hangsTogether 32 = .ok (.istore_n 2, 1) := by decide +kernel
theorem dX6_hangsTogether_33 : decode cX6_hangsTogether 33 = .ok (.iinc 3 1, 3) := by decide +kernel
theorem dX6_hangsTogether_36 : decode cX6_hangsTogether 36 = .ok (.goto (-29), 3) := by decide +kernel
theorem dX6_hangsTogether_39 : decode cX6_hangsTogether 39 = .ok (.iload_n 2, 1) := by decide +kernel
theorem dX6_hangsTogether_40 : decode cX6_hangsTogether 40 = .ok (.iload_n 1, 1) := by decide +kernel
theorem dX6_hangsTogether_41 : decode cX6_hangsTogether 41 = .ok (.if_icmp .ne 7, 3) := by decide +kernel
theorem dX6_hangsTogether_44 : decode cX6_hangsTogether 44 = .ok (.iconst 1, 1) := by decide +kernel
theorem dX6_hangsTogether_45 : decode cX6_hangsTogether 45 = .ok (.goto 4, 3) := by decide +kernel
theorem dX6_hangsTogether_48 : decode cX6_hangsTogether 48 = .ok (.iconst 0, 1) := by decide +kernel
theorem dX6_hangsTogether_49 : decode cX6_hangsTogether 49 = .ok (.ireturn, 1) := by decide +kernel
theorem dX6_bit_0 : decode cX6_bit 0 = .ok (.iconst 1, 1) := by decide +kernel
theorem dX6_bit_1 : decode cX6_bit 1 = .ok (.iload_n 0, 1) := by decide +kernel
theorem dX6_bit_2 : decode cX6_bit 2 = .ok (.ishl, 1) := by decide +kernel
theorem dX6_bit_3 : decode cX6_bit 3 = .ok (.ireturn, 1) := by decide +kernel
theorem dX6_hasBit_0 : decode cX6_hasBit 0 = .ok (.lload_n 0, 1) := by decide +kernel
theorem dX6_hasBit_1 : decode cX6_hasBit 1 = .ok (.iload_n 2, 1) := by decide +kernel
theorem dX6_hasBit_2 : decode cX6_hasBit 2 = .ok (.lshr, 1) := by decide +kernel
theorem dX6_hasBit_3 : decode cX6_hasBit 3 = .ok (.lconst 1, 1) := by decide +kernel
theorem dX6_hasBit_4 : decode cX6_hasBit 4 = .ok (.land, 1) := by decide +kernel
theorem dX6_hasBit_5 : decode cX6_hasBit 5 = .ok (.lconst 1, 1) := by decide +kernel
theorem dX6_hasBit_6 : decode cX6_hasBit 6 = .ok (.lcmp, 1) := by decide +kernel
theorem dX6_hasBit_7 : decode cX6_hasBit 7 = .ok (.ifCond .ne 7, 3) := by decide +kernel
theorem dX6_hasBit_10 : decode cX6_hasBit 10 = .ok (.iconst 1, 1) := by decide +kernel
theorem dX6_hasBit_11 : decode cX6_hasBit 11 = .ok (.goto 4, 3) := by decide +kernel
theorem dX6_hasBit_14 : decode cX6_hasBit 14 = .ok (.iconst 0, 1) := by decide +kernel
theorem dX6_hasBit_15 : decode cX6_hasBit 15 = .ok (.ireturn, 1) := by decide +kernel
set_option maxRecDepth 20000 in
theorem ggX6_canBeUndone_X5_bars : GoodIn wsX6_canBeUndone wsX5_bars := goodIn_r _ [12, 13, 39, 40, 41, 42] (by decide +kernel) (by decide +kernel)
set_option maxRecDepth 20000 in
theorem gX6_canBeUndone_X5_bars : GoodIn wsX6_canBeUndone (wsV RX6 211 RX5 yX5_bars wsX5_bars) := goodIn_app (goodIn_of _ (by decide +kernel)) ggX6_canBeUndone_X5_bars
set_option maxRecDepth 20000 in
theorem ggX6_canBeUndone_X3_has : GoodIn wsX6_canBeUndone wsX3_has := goodIn_r _ [18, 19, 20, 48, 49, 50, 51, 52, 53] (by decide +kernel) (by decide +kernel)
set_option maxRecDepth 20000 in
theorem gX6_canBeUndone_X3_has : GoodIn wsX6_canBeUndone (wsV RX6 236 RX3 yX3_has wsX3_has) := goodIn_app (goodIn_of _ (by decide +kernel)) ggX6_canBeUndone_X3_has
set_option maxRecDepth 20000 in
theorem ggX6_canBeUndone_X3_endingAt : GoodIn wsX6_canBeUndone wsX3_endingAt := goodIn_r _ [24, 19, 25, 15, 16, 17, 18, 20, 26, 27, 28, 29, 30, 31, 48, 49, 50, 51, 52, 53] (by decide +kernel) (by decide +kernel)
set_option maxRecDepth 20000 in
theorem gX6_canBeUndone_X3_endingAt : GoodIn wsX6_canBeUndone (wsV RX6 282 RX3 yX3_endingAt wsX3_endingAt) := goodIn_app (goodIn_of _ (by decide +kernel)) ggX6_canBeUndone_X3_endingAt
theorem dX6_canBeUndone_0 : decode cX6_canBeUndone 0 = .ok (.aload_n 0, 1) := by decide +kernel
theorem dX6_canBeUndone_1 : decode cX6_canBeUndone 1 = .ok (.getfield 26, 3) := by decide +kernel
theorem dX6_canBeUndone_4 : decode cX6_canBeUndone 4 = .ok (.getfield 344, 3) := by decide +kernel
theorem dX6_canBeUndone_7 : decode cX6_canBeUndone 7 = .ok (.iload_n 1, 1) := by decide +kernel
theorem dX6_canBeUndone_8 : decode cX6_canBeUndone 8 = .ok (.iaload, 1) := by decide +kernel
theorem dX6_canBeUndone_9 : decode cX6_canBeUndone 9 = .ok (.istore_n 2, 1) := by decide +kernel
theorem dX6_canBeUndone_10 : decode cX6_canBeUndone 10 = .ok (.iload_n 2, 1) := by decide +kernel
theorem dX6_canBeUndone_11 : decode cX6_canBeUndone 11 = .ok (.aload_n 0, 1) := by decide +kernel
theorem dX6_canBeUndone_12 : decode cX6_canBeUndone 12 = .ok (.getfield 10, 3) := by decide +kernel
theorem dX6_canBeUndone_15 : decode cX6_canBeUndone 15 = .ok (.getfield 155, 3) := by decide +kernel
theorem dX6_canBeUndone_18 : decode cX6_canBeUndone 18 = .ok (.iconst 1, 1) := by decide +kernel
theorem dX6_canBeUndone_19 : decode cX6_canBeUndone 19 = .ok (.isub, 1) := by decide +kernel
theorem dX6_canBeUndone_20 : decode cX6_canBeUndone 20 = .ok (.if_icmp .ne 15, 3) := by decide +kernel
theorem dX6_canBeUndone_23 : decode cX6_canBeUndone 23 = .ok (.aload_n 0, 1) := by decide +kernel
theorem dX6_canBeUndone_24 : decode cX6_canBeUndone 24 = .ok (.getfield 10, 3) := by decide +kernel
theorem dX6_canBeUndone_27 : decode cX6_canBeUndone 27 = .ok (.getfield 77, 3) := by decide +kernel
theorem dX6_canBeUndone_30 : decode cX6_canBeUndone 30 = .ok (.iload_n 2, 1) := by decide +kernel
theorem dX6_canBeUndone_31 : decode cX6_canBeUndone 31 = .ok (.baload, 1) := by decide +kernel
theorem dX6_canBeUndone_32 : decode cX6_canBeUndone 32 = .ok (.ifCond .eq 5, 3) := by decide +kernel
theorem dX6_canBeUndone_35 : decode cX6_canBeUndone 35 = .ok (.iconst 0, 1) := by decide +kernel
theorem dX6_canBeUndone_36 : decode cX6_canBeUndone 36 = .ok (.ireturn, 1) := by decide +kernel
theorem dX6_canBeUndone_37 : decode cX6_canBeUndone 37 = .ok (.aload_n 0, 1) := by decide +kernel
theorem dX6_canBeUndone_38 : decode cX6_canBeUndone 38 = .ok (.getfield 26, 3) := by decide +kernel
theorem dX6_canBeUndone_41 : decode cX6_canBeUndone 41 = .ok (.iload_n 1, 1) := by decide +kernel
theorem dX6_canBeUndone_42 : decode cX6_canBeUndone 42 = .ok (.invokevirtual 211, 3) := by decide +kernel
theorem dX6_canBeUndone_45 : decode cX6_canBeUndone 45 = .ok (.istore_n 3, 1) := by decide +kernel
theorem dX6_canBeUndone_46 : decode cX6_canBeUndone 46 = .ok (.iconst 0, 1) := by decide +kernel
theorem dX6_canBeUndone_47 : decode cX6_canBeUndone 47 = .ok (.istore 4, 2) := by decide +kernel
theorem dX6_canBeUndone_49 : decode cX6_canBeUndone 49 = .ok (.iload 4, 2) := by decide +kernel
theorem dX6_canBeUndone_51 : decode cX6_canBeUndone 51 = .ok (.iload_n 3, 1) := by decide +kernel
theorem dX6_canBeUndone_52 : decode cX6_canBeUndone 52 = .ok (.if_icmp .ge 33, 3) := by decide +kernel
theorem dX6_canBeUndone_55 : decode cX6_canBeUndone 55 = .ok (.aload_n 0, 1) := by decide +kernel
theorem dX6_canBeUndone_56 : decode cX6_canBeUndone 56 = .ok (.getfield 19, 3) := by decide +kernel
theorem dX6_canBeUndone_59 : decode cX6_canBeUndone 59 = .ok (.aload_n 0, 1) := by decide +kernel
theorem dX6_canBeUndone_60 : decode cX6_canBeUndone 60 = .ok (.getfield 26, 3) := by decide +kernel
theorem dX6_canBeUndone_63 : decode cX6_canBeUndone 63 = .ok (.getfield 214, 3) := by decide +kernel
theorem dX6_canBeUndone_66 : decode cX6_canBeUndone 66 = .ok (.iload_n 1, 1) := by decide +kernel
theorem dX6_canBeUndone_67 : decode cX6_canBeUndone 67 = .ok (.iaload, 1) := by decide +kernel
theorem dX6_canBeUndone_68 : decode cX6_canBeUndone 68 = .ok (.iload 4, 2) := by decide +kernel
theorem dX6_canBeUndone_70 : decode cX6_canBeUndone 70 = .ok (.iadd, 1) := by decide +kernel
theorem dX6_canBeUndone_71 : decode cX6_canBeUndone 71 = .ok (.invokevirtual 236, 3) := by decide +kernel
theorem dX6_canBeUndone_74 : decode cX6_canBeUndone 74 = .ok (.ifCond .ne 5, 3) := by decide +kernel
theorem dX6_canBeUndone_77 : decode cX6_canBeUndone 77 = .ok (.iconst 0, 1) := by decide +kernel
theorem dX6_canBeUndone_78 : decode cX6_canBeUndone 78 = .ok (.ireturn, 1) := by decide +kernel
theorem dX6_canBeUndone_79 : decode cX6_canBeUndone 79 = .ok (.iinc 4 1, 3) := by decide +kernel
theorem dX6_canBeUndone_82 : decode cX6_canBeUndone 82 = .ok (.goto (-33), 3) := by decide +kernel
theorem dX6_canBeUndone_85 : decode cX6_canBeUndone 85 = .ok (.aload_n 0, 1) := by decide +kernel
theorem dX6_canBeUndone_86 : decode cX6_canBeUndone 86 = .ok (.getfield 19, 3) := by decide +kernel
theorem dX6_canBeUndone_89 : decode cX6_canBeUndone 89 = .ok (.iload_n 2, 1) := by decide +kernel
theorem dX6_canBeUndone_90 : decode cX6_canBeUndone 90 = .ok (.invokevirtual 282, 3) := by decide +kernel
theorem dX6_canBeUndone_93 : decode cX6_canBeUndone 93 = .ok (.iload_n 3, 1) := by decide +kernel
theorem dX6_canBeUndone_94 : decode cX6_canBeUndone 94 = .ok (.if_icmp .ne 7, 3) := by decide +kernel
theorem dX6_canBeUndone_97 : decode cX6_canBeUndone 97 = .ok (.iconst 1, 1) := by decide +kernel
theorem dX6_canBeUndone_98 : decode cX6_canBeUndone 98 = .ok (.goto 4, 3) := by decide +kernel
theorem dX6_canBeUndone_101 : decode cX6_canBeUndone 101 = .ok (.iconst 0, 1) := by decide +kernel
theorem dX6_canBeUndone_102 : decode cX6_canBeUndone 102 = .ok (.ireturn, 1) := by decide +kernel
set_option maxRecDepth 20000 in
theorem ggX6_bringBack_X3_join : GoodIn wsX6_bringBack wsX3_join := goodIn_r _ [9, 10, 11, 12, 13, 8, 14, 15, 16, 17, 18, 19, 20, 21, 29, 30, 31, 32, 33, 34] (by decide +kernel) (by decide +kernel)
set_option maxRecDepth 20000 in
theorem gX6_bringBack_X3_join : GoodIn wsX6_bringBack (wsV RX6 91 RX3 yX3_join wsX3_join) := goodIn_app (goodIn_of _ (by decide +kernel)) ggX6_bringBack_X3_join
theorem dX6_bringBack_0 : decode cX6_bringBack 0 = .ok (.iload_n 1, 1) := by decide +kernel
theorem dX6_bringBack_1 : decode cX6_bringBack 1 = .ok (.iconst (-1), 1) := by decide +kernel
theorem dX6_bringBack_2 : decode cX6_bringBack 2 = .ok (.if_icmp .eq 41, 3) := by decide +kernel
theorem dX6_bringBack_5 : decode cX6_bringBack 5 = .ok (.aload_n 0, 1) := by decide +kernel
theorem dX6_bringBack_6 : decode cX6_bringBack 6 = .ok (.getfield 19, 3) := by decide +kernel
theorem dX6_bringBack_9 : decode cX6_bringBack 9 = .ok (.aload_n 0, 1) := by decide +kernel
theorem dX6_bringBack_10 : decode cX6_bringBack 10 = .ok (.getfield 19, 3) := by decide +kernel
theorem dX6_bringBack_13 : decode cX6_bringBack 13 = .ok (.getfield 168, 3) := by decide +kernel
theorem dX6_bringBack_16 : decode cX6_bringBack 16 = .ok (.iload_n 1, 1) := by decide +kernel
theorem dX6_bringBack_17 : decode cX6_bringBack 17 = .ok (.iaload, 1) := by decide +kernel
theorem dX6_bringBack_18 : decode cX6_bringBack 18 = .ok (.aload_n 0, 1) := by decide +kernel
theorem dX6_bringBack_19 : decode cX6_bringBack 19 = .ok (.getfield 19, 3) := by decide +kernel
theorem dX6_bringBack_22 : decode cX6_bringBack 22 = .ok (.getfield 171, 3) := by decide +kernel
theorem dX6_bringBack_25 : decode cX6_bringBack 25 = .ok (.iload_n 1, 1) := by decide +kernel
theorem dX6_bringBack_26 : decode cX6_bringBack 26 = .ok (.iaload, 1) := by decide +kernel
theorem dX6_bringBack_27 : decode cX6_bringBack 27 = .ok (.invokevirtual 91, 3) := by decide +kernel
theorem dX6_bringBack_30 : decode cX6_bringBack 30 = .ok (.ifCond .ne 13, 3) := by decide +kernel
theorem dX6_bringBack_33 : decode cX6_bringBack 33 = .ok (.aload_n 0, 1) := by decide +kernel
theorem dX6_bringBack_34 : decode cX6_bringBack 34 = .ok (.getfield 19, 3) := by decide +kernel
theorem dX6_bringBack_37 : decode cX6_bringBack 37 = .ok (.getfield 109, 3) := by decide +kernel
theorem dX6_bringBack_40 : decode cX6_bringBack 40 = .ok (.iload_n 1, 1) := by decide +kernel
theorem dX6_bringBack_41 : decode cX6_bringBack 41 = .ok (.iconst 0, 1) := by decide +kernel
theorem dX6_bringBack_42 : decode cX6_bringBack 42 = .ok (.bastore, 1) := by decide +kernel
theorem dX6_bringBack_43 : decode cX6_bringBack 43 = .ok (.return_, 1) := by decide +kernel
set_option maxRecDepth 20000 in
theorem ggX6_isBalanced_X3_has : GoodIn wsX6_isBalanced wsX3_has := goodIn_r _ [13, 14, 15, 29, 30, 31, 32, 33, 34] (by decide +kernel) (by decide +kernel)
set_option maxRecDepth 20000 in
theorem gX6_isBalanced_X3_has : GoodIn wsX6_isBalanced (wsV RX6 236 RX3 yX3_has wsX3_has) := goodIn_app (goodIn_of _ (by decide +kernel)) ggX6_isBalanced_X3_has
set_option maxRecDepth 20000 in
theorem ggX6_isBalanced_X3_endsAt : GoodIn wsX6_isBalanced wsX3_endsAt := goodIn_r _ [19, 20, 21, 29, 30, 31, 32, 33, 34] (by decide +kernel) (by decide +kernel)
set_option maxRecDepth 20000 in
theorem gX6_isBalanced_X3_endsAt : GoodIn wsX6_isBalanced (wsV RX6 197 RX3 yX3_endsAt wsX3_endsAt) := goodIn_app (goodIn_of _ (by decide +kernel)) ggX6_isBalanced_X3_endsAt
theorem dX6_isBalanced_0 : decode cX6_isBalanced 0 = .ok (.iconst 0, 1) := by decide +kernel
theorem dX6_isBalanced_1 : decode cX6_isBalanced 1 = .ok (.istore_n 2, 1) := by decide +kernel
theorem dX6_isBalanced_2 : decode cX6_isBalanced 2 = .ok (.iconst 0, 1) := by decide +kernel
theorem dX6_isBalanced_3 : decode cX6_isBalanced 3 = .ok (.istore_n 3, 1) := by decide +kernel
theorem dX6_isBalanced_4 : decode cX6_isBalanced 4 = .ok (.iconst 0, 1) := by decide +kernel
theorem dX6_isBalanced_5 : decode cX6_isBalanced 5 = .ok (.istore 4, 2) := by decide +kernel
theorem dX6_isBalanced_7 : decode cX6_isBalanced 7 = .ok (.iload 4, 2) := by decide +kernel
theorem dX6_isBalanced_9 : decode cX6_isBalanced 9 = .ok (.aload_n 0, 1) := by decide +kernel
theorem dX6_isBalanced_10 : decode cX6_isBalanced 10 = .ok (.getfield 19, 3) := by decide +kernel
theorem dX6_isBalanced_13 : decode cX6_isBalanced 13 = .ok (.getfield 235, 3) := by decide +kernel
theorem dX6_isBalanced_16 : decode cX6_isBalanced 16 = .ok (.if_icmp .ge 141, 3) := by decide +kernel
theorem dX6_isBalanced_19 : decode cX6_isBalanced 19 = .ok (.aload_n 0, 1) := by decide +kernel
theorem dX6_isBalanced_20 : decode cX6_isBalanced 20 = .ok (.getfield 19, 3) := by decide +kernel
theorem dX6_isBalanced_23 : decode cX6_isBalanced 23 = .ok (.iload 4, 2) := by decide +kernel
theorem dX6_isBalanced_25 : decode cX6_isBalanced 25 = .ok (.invokevirtual 236, 3) := by decide +kernel
theorem dX6_isBalanced_28 : decode cX6_isBalanced 28 = .ok (.ifCond .eq 123, 3) := by decide +kernel
theorem dX6_isBalanced_31 : decode cX6_isBalanced 31 = .ok (.aload_n 0, 1) := by decide +kernel
theorem dX6_isBalanced_32 : decode cX6_isBalanced 32 = .ok (.getfield 19, 3) := by decide +kernel
theorem dX6_isBalanced_35 : decode cX6_isBalanced 35 = .ok (.iload 4, 2) := by decide +kernel
theorem dX6_isBalanced_37 : decode cX6_isBalanced 37 = .ok (.iload_n 1, 1) := by decide +kernel
theorem dX6_isBalanced_38 : decode cX6_isBalanced 38 = .ok (.invokevirtual 197, 3) := by decide +kernel
theorem dX6_isBalanced_41 : decode cX6_isBalanced 41 = .ok (.ifCond .eq 110, 3) := by decide +kernel
theorem dX6_isBalanced_44 : decode cX6_isBalanced 44 = .ok (.aload_n 0, 1) := by decide +kernel
theorem dX6_isBalanced_45 : decode cX6_isBalanced 45 = .ok (.getfield 19, 3) := by decide +kernel
theorem dX6_isBalanced_48 : decode cX6_isBalanced 48 = .ok (.getfield 168, 3) := by decide +kernel
theorem dX6_isBalanced_51 : decode cX6_isBalanced 51 = .ok (.iload 4, 2) := by decide +kernel
theorem dX6_isBalanced_53 : decode cX6_isBalanced 53 = .ok (.iaload, 1) := by decide +kernel
theorem dX6_isBalanced_54 : decode cX6_isBalanced 54 = .ok (.iload_n 1, 1) := by decide +kernel
theorem dX6_isBalanced_55 : decode cX6_isBalanced 55 = .ok (.if_icmp .ne 16, 3) := by decide +kernel
theorem dX6_isBalanced_58 : decode cX6_isBalanced 58 = .ok (.aload_n 0, 1) := by decide +kernel
theorem dX6_isBalanced_59 : decode cX6_isBalanced 59 = .ok (.getfield 19, 3) := by decide +kernel
theorem dX6_isBalanced_62 : decode cX6_isBalanced 62 = .ok (.getfield 171, 3) := by decide +kernel
theorem dX6_isBalanced_65 : decode cX6_isBalanced 65 = .ok (.iload 4, 2) := by decide +kernel
theorem dX6_isBalanced_67 : decode cX6_isBalanced 67 = .ok (.iaload, 1) := by decide +kernel
theorem dX6_isBalanced_68 : decode cX6_isBalanced 68 = .ok (.goto 13, 3) := by decide +kernel
theorem dX6_isBalanced_71 : decode cX6_isBalanced 71 = .ok (.aload_n 0, 1) := by decide +kernel
theorem dX6_isBalanced_72 : decode cX6_isBalanced 72 = .ok (.getfield 19, 3) := by decide +kernel
theorem dX6_isBalanced_75 : decode cX6_isBalanced 75 = .ok (.getfield 168, 3) := by decide +kernel
theorem dX6_isBalanced_78 : decode cX6_isBalanced 78 = .ok (.iload 4, 2) := by decide +kernel
theorem dX6_isBalanced_80 : decode cX6_isBalanced 80 = .ok (.iaload, 1) := by decide +kernel
theorem dX6_isBalanced_81 : decode cX6_isBalanced 81 = .ok (.istore 5, 2) := by decide +kernel
theorem dX6_isBalanced_83 : decode cX6_isBalanced 83 = .ok (.iload_n 2, 1) := by decide +kernel
theorem dX6_isBalanced_84 : decode cX6_isBalanced 84 = .ok (.aload_n 0, 1) := by decide +kernel
theorem dX6_isBalanced_85 : decode cX6_isBalanced 85 = .ok (.getfield 19, 3) := by decide +kernel
theorem dX6_isBalanced_88 : decode cX6_isBalanced 88 = .ok (.getfield 229, 3) := by decide +kernel
theorem dX6_isBalanced_91 : decode cX6_isBalanced 91 = .ok (.iload 4, 2) := by decide +kernel
theorem dX6_isBalanced_93 : decode cX6_isBalanced 93 = .ok (.iaload, 1) := by decide +kernel
theorem dX6_isBalanced_94 : decode cX6_isBalanced 94 = .ok (.aload_n 0, 1) := by decide +kernel
theorem dX6_isBalanced_95 : decode cX6_isBalanced 95 = .ok (.getfield 10, 3) := by decide +kernel
theorem dX6_isBalanced_98 : decode cX6_isBalanced 98 = .ok (.getfield 70, 3) := by decide +kernel
theorem dX6_isBalanced_101 : decode cX6_isBalanced 101 = .ok (.iload 5, 2) := by decide +kernel
theorem dX6_isBalanced_103 : decode cX6_isBalanced 103 = .ok (.iaload, 1) := by decide +kernel
theorem dX6_isBalanced_104 : decode cX6_isBalanced 104 = .ok (.aload_n 0, 1) := by decide +kernel
theorem dX6_isBalanced_105 : decode cX6_isBalanced 105 = .ok (.getfield 10, 3) := by decide +kernel
theorem dX6_isBalanced_108 : decode cX6_isBalanced 108 = .ok (.getfield 70, 3) := by decide +kernel
theorem dX6_isBalanced_111 : decode cX6_isBalanced 111 = .ok (.iload_n 1, 1) := by decide +kernel
theorem dX6_isBalanced_112 : decode cX6_isBalanced 112 = .ok (.iaload, 1) := by decide +kernel
theorem dX6_isBalanced_113 : decode cX6_isBalanced 113 = .ok (.isub, 1) := by decide +kernel
theorem dX6_isBalanced_114 : decode cX6_isBalanced 114 = .ok (.imul, 1) := by decide +kernel
theorem dX6_isBalanced_115 : decode cX6_isBalanced 115 = .ok (.iadd, 1) := by decide +kernel
theorem dX6_isBalanced_116 : decode cX6_isBalanced 116 = .ok (.istore_n 2, 1) := by decide +kernel
theorem dX6_isBalanced_117 : decode cX6_isBalanced 117 = .ok (.iload_n 3, 1) := by decide +kernel
theorem dX6_isBalanced_118 : decode cX6_isBalanced 118 = .ok (.aload_n 0, 1) := by decide +kernel
theorem dX6_isBalanced_119 : decode cX6_isBalanced 119 = .ok (.getfield 19, 3) := by decide +kernel
theorem dX6_isBalanced_122 : decode cX6_isBalanced 122 = .ok (.getfield 229, 3) := by decide +kernel
theorem dX6_isBalanced_125 : decode cX6_isBalanced 125 = .ok (.iload 4, 2) := by decide +kernel
theorem dX6_isBalanced_127 : decode cX6_isBalanced 127 = .ok (.iaload, 1) := by decide +kernel
theorem dX6_isBalanced_128 : decode cX6_isBalanced 128 = .ok (.aload_n 0, 1) := by decide +kernel
theorem dX6_isBalanced_129 : decode cX6_isBalanced 129 = .ok (.getfield 10, 3) := by decide +kernel
theorem dX6_isBalanced_132 : decode cX6_isBalanced 132 = .ok (.getfield 74, 3) := by decide +kernel
theorem dX6_isBalanced_135 : decode cX6_isBalanced 135 = .ok (.iload 5, 2) := by decide +kernel
theorem dX6_isBalanced_137 : decode cX6_isBalanced 137 = .ok (.iaload, 1) := by decide +kernel
theorem dX6_isBalanced_138 : decode cX6_isBalanced 138 = .ok (.aload_n 0, 1) := by decide +kernel
theorem dX6_isBalanced_139 : decode cX6_isBalanced 139 = .ok (.getfield 10, 3) := by decide +kernel
theorem dX6_isBalanced_142 : decode cX6_isBalanced 142 = .ok (.getfield 74, 3) := by decide +kernel
theorem dX6_isBalanced_145 : decode cX6_isBalanced 145 = .ok (.iload_n 1, 1) := by decide +kernel
theorem dX6_isBalanced_146 : decode cX6_isBalanced 146 = .ok (.iaload, 1) := by decide +kernel
theorem dX6_isBalanced_147 : decode cX6_isBalanced 147 = .ok (.isub, 1) := by decide +kernel
theorem dX6_isBalanced_148 : decode cX6_isBalanced 148 = .ok (.imul, 1) := by decide +kernel
theorem dX6_isBalanced_149 : decode cX6_isBalanced 149 = .ok (.iadd, 1) := by decide +kernel
theorem dX6_isBalanced_150 : decode cX6_isBalanced 150 = .ok (.istore_n 3, 1) := by decide +kernel
theorem dX6_isBalanced_151 : decode cX6_isBalanced 151 = .ok (.iinc 4 1, 3) := by decide +kernel
theorem dX6_isBalanced_154 : decode cX6_isBalanced 154 = .ok (.goto (-147), 3) := by decide +kernel
theorem dX6_isBalanced_157 : decode cX6_isBalanced 157 = .ok (.iload_n 2, 1) := by decide +kernel
theorem dX6_isBalanced_158 : decode cX6_isBalanced 158 = .ok (.ifCond .ne 11, 3) := by decide +kernel
theorem dX6_isBalanced_161 : decode cX6_isBalanced 161 = .ok (.iload_n 3, 1) := by decide +kernel
theorem dX6_isBalanced_162 : decode cX6_isBalanced 162 = .ok (.ifCond .ne 7, 3) := by decide +kernel
theorem dX6_isBalanced_165 : decode cX6_isBalanced 165 = .ok (.iconst 1, 1) := by decide +kernel
theorem dX6_isBalanced_166 : decode cX6_isBalanced 166 = .ok (.goto 4, 3) := by decide +kernel
theorem dX6_isBalanced_169 : decode cX6_isBalanced 169 = .ok (.iconst 0, 1) := by decide +kernel
theorem dX6_isBalanced_170 : decode cX6_isBalanced 170 = .ok (.ireturn, 1) := by decide +kernel
theorem dJ13_bitCount_95d88_0 : decode cJ13_bitCount_95d88 0 = .ok (.lload_n 0, 1) := by decide +kernel
theorem dJ13_bitCount_95d88_1 : decode cJ13_bitCount_95d88 1 = .ok (.lload_n 0, 1) := by decide +kernel
theorem dJ13_bitCount_95d88_2 : decode cJ13_bitCount_95d88 2 = .ok (.iconst 1, 1) := by decide +kernel
theorem dJ13_bitCount_95d88_3 : decode cJ13_bitCount_95d88 3 = .ok (.lushr, 1) := by decide +kernel
theorem dJ13_bitCount_95d88_4 : decode cJ13_bitCount_95d88 4 = .ok (.ldc2_w 314, 3) := by decide +kernel
theorem dJ13_bitCount_95d88_7 : decode cJ13_bitCount_95d88 7 = .ok (.land, 1) := by decide +kernel
theorem dJ13_bitCount_95d88_8 : decode cJ13_bitCount_95d88 8 = .ok (.lsub, 1) := by decide +kernel
theorem dJ13_bitCount_95d88_9 : decode cJ13_bitCount_95d88 9 = .ok (.lstore_n 0, 1) := by decide +kernel
theorem dJ13_bitCount_95d88_10 : decode cJ13_bitCount_95d88 10 = .ok (.lload_n 0, 1) := by decide +kernel
theorem dJ13_bitCount_95d88_11 : decode cJ13_bitCount_95d88 11 = .ok (.ldc2_w 316, 3) := by decide +kernel
theorem dJ13_bitCount_95d88_14 : decode cJ13_bitCount_95d88 14 = .ok (.land, 1) := by decide +kernel
theorem dJ13_bitCount_95d88_15 : decode cJ13_bitCount_95d88 15 = .ok (.lload_n 0, 1) := by decide +kernel
theorem dJ13_bitCount_95d88_16 : decode cJ13_bitCount_95d88 16 = .ok (.iconst 2, 1) := by decide +kernel
theorem dJ13_bitCount_95d88_17 : decode cJ13_bitCount_95d88 17 = .ok (.lushr, 1) := by decide +kernel
theorem dJ13_bitCount_95d88_18 : decode cJ13_bitCount_95d88 18 = .ok (.ldc2_w 316, 3) := by decide +kernel
theorem dJ13_bitCount_95d88_21 : decode cJ13_bitCount_95d88 21 = .ok (.land, 1) := by decide +kernel
theorem dJ13_bitCount_95d88_22 : decode cJ13_bitCount_95d88 22 = .ok (.ladd, 1) := by decide +kernel
theorem dJ13_bitCount_95d88_23 : decode cJ13_bitCount_95d88 23 = .ok (.lstore_n 0, 1) := by decide +kernel
theorem dJ13_bitCount_95d88_24 : decode cJ13_bitCount_95d88 24 = .ok (.lload_n 0, 1) := by decide +kernel
theorem dJ13_bitCount_95d88_25 : decode cJ13_bitCount_95d88 25 = .ok (.lload_n 0, 1) := by decide +kernel
theorem dJ13_bitCount_95d88_26 : decode cJ13_bitCount_95d88 26 = .ok (.iconst 4, 1) := by decide +kernel
theorem dJ13_bitCount_95d88_27 : decode cJ13_bitCount_95d88 27 = .ok (.lushr, 1) := by decide +kernel
theorem dJ13_bitCount_95d88_28 : decode cJ13_bitCount_95d88 28 = .ok (.ladd, 1) := by decide +kernel
theorem dJ13_bitCount_95d88_29 : decode cJ13_bitCount_95d88 29 = .ok (.ldc2_w 318, 3) := by decide +kernel
theorem dJ13_bitCount_95d88_32 : decode cJ13_bitCount_95d88 32 = .ok (.land, 1) := by decide +kernel
theorem dJ13_bitCount_95d88_33 : decode cJ13_bitCount_95d88 33 = .ok (.lstore_n 0, 1) := by decide +kernel
theorem dJ13_bitCount_95d88_34 : decode cJ13_bitCount_95d88 34 = .ok (.lload_n 0, 1) := by decide +kernel
theorem dJ13_bitCount_95d88_35 : decode cJ13_bitCount_95d88 35 = .ok (.lload_n 0, 1) := by decide +kernel
theorem dJ13_bitCount_95d88_36 : decode cJ13_bitCount_95d88 36 = .ok (.bipush 8, 2) := by decide +kernel
theorem dJ13_bitCount_95d88_38 : decode cJ13_bitCount_95d88 38 = .ok (.lushr, 1) := by decide +kernel
theorem dJ13_bitCount_95d88_39 : decode cJ13_bitCount_95d88 39 = .ok (.ladd, 1) := by decide +kernel
theorem dJ13_bitCount_95d88_40 : decode cJ13_bitCount_95d88 40 = .ok (.lstore_n 0, 1) := by decide +kernel
theorem dJ13_bitCount_95d88_41 : decode cJ13_bitCount_95d88 41 = .ok (.lload_n 0, 1) := by decide +kernel
theorem dJ13_bitCount_95d88_42 : decode cJ13_bitCount_95d88 42 = .ok (.lload_n 0, 1) := by decide +kernel
theorem dJ13_bitCount_95d88_43 : decode cJ13_bitCount_95d88 43 = .ok (.bipush 16, 2) := by decide +kernel
theorem dJ13_bitCount_95d88_45 : decode cJ13_bitCount_95d88 45 = .ok (.lushr, 1) := by decide +kernel
theorem dJ13_bitCount_95d88_46 : decode cJ13_bitCount_95d88 46 = .ok (.ladd, 1) := by decide +kernel
theorem dJ13_bitCount_95d88_47 : decode cJ13_bitCount_95d88 47 = .ok (.lstore_n 0, 1) := by decide +kernel
theorem dJ13_bitCount_95d88_48 : decode cJ13_bitCount_95d88 48 = .ok (.lload_n 0, 1) := by decide +kernel
theorem dJ13_bitCount_95d88_49 : decode cJ13_bitCount_95d88 49 = .ok (.lload_n 0, 1) := by decide +kernel
theorem dJ13_bitCount_95d88_50 : decode cJ13_bitCount_95d88 50 = .ok (.bipush 32, 2) := by decide +kernel
theorem dJ13_bitCount_95d88_52 : decode cJ13_bitCount_95d88 52 = .ok (.lushr, 1) := by decide +kernel
theorem dJ13_bitCount_95d88_53 : decode cJ13_bitCount_95d88 53 = .ok (.ladd, 1) := by decide +kernel
theorem dJ13_bitCount_95d88_54 : decode cJ13_bitCount_95d88 54 = .ok (.lstore_n 0, 1) := by decide +kernel
theorem dJ13_bitCount_95d88_55 : decode cJ13_bitCount_95d88 55 = .ok (.lload_n 0, 1) := by decide +kernel
theorem dJ13_bitCount_95d88_56 : decode cJ13_bitCount_95d88 56 = .ok (.l2i, 1) := by decide +kernel
theorem dJ13_bitCount_95d88_57 : decode cJ13_bitCount_95d88 57 = .ok (.bipush 127, 2) := by decide +kernel
theorem dJ13_bitCount_95d88_59 : decode cJ13_bitCount_95d88 59 = .ok (.iand, 1) := by decide +kernel
theorem dJ13_bitCount_95d88_60 : decode cJ13_bitCount_95d88 60 = .ok (.ireturn, 1) := by decide +kernel
theorem dJ9_floorMod_f86c9_0 : decode cJ9_floorMod_f86c9 0 = .ok (.lload_n 0, 1) := by decide +kernel
theorem dJ9_floorMod_f86c9_1 : decode cJ9_floorMod_f86c9 1 = .ok (.lload_n 2, 1) := by decide +kernel
theorem dJ9_floorMod_f86c9_2 : decode cJ9_floorMod_f86c9 2 = .ok (.lrem, 1) := by decide +kernel
theorem dJ9_floorMod_f86c9_3 : decode cJ9_floorMod_f86c9 3 = .ok (.lstore 4, 2) := by decide +kernel
theorem dJ9_floorMod_f86c9_5 : decode cJ9_floorMod_f86c9 5 = .ok (.lload_n 0, 1) := by decide +kernel
theorem dJ9_floorMod_f86c9_6 : decode cJ9_floorMod_f86c9 6 = .ok (.lload_n 2, 1) := by decide +kernel
theorem dJ9_floorMod_f86c9_7 : decode cJ9_floorMod_f86c9 7 = .ok (.lxor, 1) := by decide +kernel
theorem dJ9_floorMod_f86c9_8 : decode cJ9_floorMod_f86c9 8 = .ok (.lconst 0, 1) := by decide +kernel
theorem dJ9_floorMod_f86c9_9 : decode cJ9_floorMod_f86c9 9 = .ok (.lcmp, 1) := by decide +kernel
theorem dJ9_floorMod_f86c9_10 : decode cJ9_floorMod_f86c9 10 = .ok (.ifCond .ge 15, 3) := by decide +kernel
theorem dJ9_floorMod_f86c9_13 : decode cJ9_floorMod_f86c9 13 = .ok (.lload 4, 2) := by decide +kernel
theorem dJ9_floorMod_f86c9_15 : decode cJ9_floorMod_f86c9 15 = .ok (.lconst 0, 1) := by decide +kernel
theorem dJ9_floorMod_f86c9_16 : decode cJ9_floorMod_f86c9 16 = .ok (.lcmp, 1) := by decide +kernel
theorem dJ9_floorMod_f86c9_17 : decode cJ9_floorMod_f86c9 17 = .ok (.ifCond .eq 8, 3) := by decide +kernel
theorem dJ9_floorMod_f86c9_20 : decode cJ9_floorMod_f86c9 20 = .ok (.lload 4, 2) := by decide +kernel
theorem dJ9_floorMod_f86c9_22 : decode cJ9_floorMod_f86c9 22 = .ok (.lload_n 2, 1) := by decide +kernel
theorem dJ9_floorMod_f86c9_23 : decode cJ9_floorMod_f86c9 23 = .ok (.ladd, 1) := by decide +kernel
theorem dJ9_floorMod_f86c9_24 : decode cJ9_floorMod_f86c9 24 = .ok (.lreturn, 1) := by decide +kernel
theorem dJ9_floorMod_f86c9_25 : decode cJ9_floorMod_f86c9 25 = .ok (.lload 4, 2) := by decide +kernel
theorem dJ9_floorMod_f86c9_27 : decode cJ9_floorMod_f86c9 27 = .ok (.lreturn, 1) := by decide +kernel
theorem dJ9_max_7cf53_0 : decode cJ9_max_7cf53 0 = .ok (.iload_n 0, 1) := by decide +kernel
theorem dJ9_max_7cf53_1 : decode cJ9_max_7cf53 1 = .ok (.iload_n 1, 1) := by decide +kernel
theorem dJ9_max_7cf53_2 : decode cJ9_max_7cf53 2 = .ok (.if_icmp .lt 7, 3) := by decide +kernel
theorem dJ9_max_7cf53_5 : decode cJ9_max_7cf53 5 = .ok (.iload_n 0, 1) := by decide +kernel
theorem dJ9_max_7cf53_6 : decode cJ9_max_7cf53 6 = .ok (.goto 4, 3) := by decide +kernel
theorem dJ9_max_7cf53_9 : decode cJ9_max_7cf53 9 = .ok (.iload_n 1, 1) := by decide +kernel
theorem dJ9_max_7cf53_10 : decode cJ9_max_7cf53 10 = .ok (.ireturn, 1) := by decide +kernel
theorem dJ9_min_7cf53_0 : decode cJ9_min_7cf53 0 = .ok (.iload_n 0, 1) := by decide +kernel
theorem dJ9_min_7cf53_1 : decode cJ9_min_7cf53 1 = .ok (.iload_n 1, 1) := by decide +kernel
theorem dJ9_min_7cf53_2 : decode cJ9_min_7cf53 2 = .ok (.if_icmp .gt 7, 3) := by decide +kernel
theorem dJ9_min_7cf53_5 : decode cJ9_min_7cf53 5 = .ok (.iload_n 0, 1) := by decide +kernel
theorem dJ9_min_7cf53_6 : decode cJ9_min_7cf53 6 = .ok (.goto 4, 3) := by decide +kernel
theorem dJ9_min_7cf53_9 : decode cJ9_min_7cf53 9 = .ok (.iload_n 1, 1) := by decide +kernel
theorem dJ9_min_7cf53_10 : decode cJ9_min_7cf53 10 = .ok (.ireturn, 1) := by decide +kernel
