theorem dL_isMoved_1 : decode cL_isMoved 1 = .ok (.iconst 2, 1) := by decide +kernel
theorem dL_isMoved_2 : decode cL_isMoved 2 = .ok (.iload_n 2, 1) := by decide +kernel
theorem dL_isMoved_3 : decode cL_isMoved 3 = .ok (.imul, 1) := by decide +kernel
theorem dL_isMoved_4 : decode cL_isMoved 4 = .ok (.iaload, 1) := by decide +kernel
theorem dL_isMoved_5 : decode cL_isMoved 5 = .ok (.istore_n 3, 1) := by decide +kernel
theorem dL_isMoved_6 : decode cL_isMoved 6 = .ok (.aload_n 1, 1) := by decide +kernel
theorem dL_isMoved_7 : decode cL_isMoved 7 = .ok (.iconst 2, 1) := by decide +kernel
theorem dL_isMoved_8 : decode cL_isMoved 8 = .ok (.iload_n 2, 1) := by decide +kernel
theorem dL_isMoved_9 : decode cL_isMoved 9 = .ok (.imul, 1) := by decide +kernel
theorem dL_isMoved_10 : decode cL_isMoved 10 = .ok (.iconst 1, 1) := by decide +kernel
theorem dL_isMoved_11 : decode cL_isMoved 11 = .ok (.iadd, 1) := by decide +kernel
theorem dL_isMoved_12 : decode cL_isMoved 12 = .ok (.iaload, 1) := by decide +kernel
theorem dL_isMoved_13 : decode cL_isMoved 13 = .ok (.istore 4, 2) := by decide +kernel
theorem dL_isMoved_15 : decode cL_isMoved 15 = .ok (.aload_n 0, 1) := by decide +kernel
theorem dL_isMoved_16 : decode cL_isMoved 16 = .ok (.iload_n 2, 1) := by decide +kernel
theorem dL_isMoved_17 : decode cL_isMoved 17 = .ok (.iconst 0, 1) := by decide +kernel
theorem dL_isMoved_18 : decode cL_isMoved 18 = .ok (.iconst 3, 1) := by decide +kernel
theorem dL_isMoved_19 : decode cL_isMoved 19 = .ok (.invokestatic 71, 3) := by decide +kernel
theorem dL_isMoved_22 : decode cL_isMoved 22 = .ok (.ifCond .ge 5, 3) := by decide +kernel
theorem dL_isMoved_25 : decode cL_isMoved 25 = .ok (.iconst 1, 1) := by decide +kernel
theorem dL_isMoved_26 : decode cL_isMoved 26 = .ok (.ireturn, 1) := by decide +kernel
theorem dL_isMoved_27 : decode cL_isMoved 27 = .ok (.aload_n 0, 1) := by decide +kernel
theorem dL_isMoved_28 : decode cL_isMoved 28 = .ok (.iload_n 3, 1) := by decide +kernel
theorem dL_isMoved_29 : decode cL_isMoved 29 = .ok (.iconst 0, 1) := by decide +kernel
theorem dL_isMoved_30 : decode cL_isMoved 30 = .ok (.invokevirtual 57, 3) := by decide +kernel
theorem dL_isMoved_33 : decode cL_isMoved 33 = .ok (.aload_n 0, 1) := by decide +kernel
theorem dL_isMoved_34 : decode cL_isMoved 34 = .ok (.iload 4, 2) := by decide +kernel
theorem dL_isMoved_36 : decode cL_isMoved 36 = .ok (.iconst 0, 1) := by decide +kernel
theorem dL_isMoved_37 : decode cL_isMoved 37 = .ok (.invokevirtual 57, 3) := by decide +kernel
theorem dL_isMoved_40 : decode cL_isMoved 40 = .ok (.isub, 1) := by decide +kernel
theorem dL_isMoved_41 : decode cL_isMoved 41 = .ok (.i2l, 1) := by decide +kernel
theorem dL_isMoved_42 : decode cL_isMoved 42 = .ok (.lstore 5, 2) := by decide +kernel
theorem dL_isMoved_44 : decode cL_isMoved 44 = .ok (.aload_n 0, 1) := by decide +kernel
theorem dL_isMoved_45 : decode cL_isMoved 45 = .ok (.iload_n 3, 1) := by decide +kernel
theorem dL_isMoved_46 : decode cL_isMoved 46 = .ok (.iconst 1, 1) := by decide +kernel
theorem dL_isMoved_47 : decode cL_isMoved 47 = .ok (.invokevirtual 57, 3) := by decide +kernel
theorem dL_isMoved_50 : decode cL_isMoved 50 = .ok (.aload_n 0, 1) := by decide +kernel
theorem dL_isMoved_51 : decode cL_isMoved 51 = .ok (.iload 4, 2) := by decide +kernel
theorem dL_isMoved_53 : decode cL_isMoved 53 = .ok (.iconst 1, 1) := by decide +kernel
theorem dL_isMoved_54 : decode cL_isMoved 54 = .ok (.invokevirtual 57, 3) := by decide +kernel
theorem dL_isMoved_57 : decode cL_isMoved 57 = .ok (.isub, 1) := by decide +kernel
theorem dL_isMoved_58 : decode cL_isMoved 58 = .ok (.i2l, 1) := by decide +kernel
theorem dL_isMoved_59 : decode cL_isMoved 59 = .ok (.lstore 7, 2) := by decide +kernel
theorem dL_isMoved_61 : decode cL_isMoved 61 = .ok (.aload_n 0, 1) := by decide +kernel
theorem dL_isMoved_62 : decode cL_isMoved 62 = .ok (.iconst 0, 1) := by decide +kernel
theorem dL_isMoved_63 : decode cL_isMoved 63 = .ok (.iload_n 3, 1) := by decide +kernel
theorem dL_isMoved_64 : decode cL_isMoved 64 = .ok (.iconst 0, 1) := by decide +kernel
theorem dL_isMoved_65 : decode cL_isMoved 65 = .ok (.invokevirtual 130, 3) := by decide +kernel
theorem dL_isMoved_68 : decode cL_isMoved 68 = .ok (.i2l, 1) := by decide +kernel
theorem dL_isMoved_69 : decode cL_isMoved 69 = .ok (.lload 5, 2) := by decide +kernel
theorem dL_isMoved_71 : decode cL_isMoved 71 = .ok (.lmul, 1) := by decide +kernel
theorem dL_isMoved_72 : decode cL_isMoved 72 = .ok (.aload_n 0, 1) := by decide +kernel
theorem dL_isMoved_73 : decode cL_isMoved 73 = .ok (.iconst 0, 1) := by decide +kernel
theorem dL_isMoved_74 : decode cL_isMoved 74 = .ok (.iload_n 3, 1) := by decide +kernel
theorem dL_isMoved_75 : decode cL_isMoved 75 = .ok (.iconst 1, 1) := by decide +kernel
theorem dL_isMoved_76 : decode cL_isMoved 76 = .ok (.invokevirtual 130, 3) := by decide +kernel
theorem dL_isMoved_79 : decode cL_isMoved 79 = .ok (.i2l, 1) := by decide +kernel
theorem dL_isMoved_80 : decode cL_isMoved 80 = .ok (.lload 7, 2) := by decide +kernel
theorem dL_isMoved_82 : decode cL_isMoved 82 = .ok (.lmul, 1) := by decide +kernel
theorem dL_isMoved_83 : decode cL_isMoved 83 = .ok (.ladd, 1) := by decide +kernel
theorem dL_isMoved_84 : decode cL_isMoved 84 = .ok (.lstore 9, 2) := by decide +kernel
theorem dL_isMoved_86 : decode cL_isMoved 86 = .ok (.aload_n 0, 1) := by decide +kernel
theorem dL_isMoved_87 : decode cL_isMoved 87 = .ok (.iconst 0, 1) := by decide +kernel
theorem dL_isMoved_88 : decode cL_isMoved 88 = .ok (.iload 4, 2) := by decide +kernel
theorem dL_isMoved_90 : decode cL_isMoved 90 = .ok (.iconst 0, 1) := by decide +kernel
theorem dL_isMoved_91 : decode cL_isMoved 91 = .ok (.invokevirtual 130, 3) := by decide +kernel
theorem dL_isMoved_94 : decode cL_isMoved 94 = .ok (.i2l, 1) := by decide +kernel
theorem dL_isMoved_95 : decode cL_isMoved 95 = .ok (.lload 5, 2) := by decide +kernel
theorem dL_isMoved_97 : decode cL_isMoved 97 = .ok (.lmul, 1) := by decide +kernel
theorem dL_isMoved_98 : decode cL_isMoved 98 = .ok (.aload_n 0, 1) := by decide +kernel
theorem dL_isMoved_99 : decode cL_isMoved 99 = .ok (.iconst 0, 1) := by decide +kernel
theorem dL_isMoved_100 : decode cL_isMoved 100 = .ok (.iload 4, 2) := by decide +kernel
theorem dL_isMoved_102 : decode cL_isMoved 102 = .ok (.iconst 1, 1) := by decide +kernel
theorem dL_isMoved_103 : decode cL_isMoved 103 = .ok (.invokevirtual 130, 3) := by decide +kernel
theorem dL_isMoved_106 : decode cL_isMoved 106 = .ok (.i2l, 1) := by decide +kernel
theorem dL_isMoved_107 : decode cL_isMoved 107 = .ok (.lload 7, 2) := by decide +kernel
theorem dL_isMoved_109 : decode cL_isMoved 109 = .ok (.lmul, 1) := by decide +kernel
theorem dL_isMoved_110 : decode cL_isMoved 110 = .ok (.ladd, 1) := by decide +kernel
theorem dL_isMoved_111 : decode cL_isMoved 111 = .ok (.lstore 11, 2) := by decide +kernel
theorem dL_isMoved_113 : decode cL_isMoved 113 = .ok (.lload 9, 2) := by decide +kernel
theorem dL_isMoved_115 : decode cL_isMoved 115 = .ok (.lload 11, 2) := by decide +kernel
theorem dL_isMoved_117 : decode cL_isMoved 117 = .ok (.lsub, 1) := by decide +kernel
theorem dL_isMoved_118 : decode cL_isMoved 118 = .ok (.ldc2_w 148, 3) := by decide +kernel
theorem dL_isMoved_121 : decode cL_isMoved 121 = .ok (.lrem, 1) := by decide +kernel
theorem dL_isMoved_122 : decode cL_isMoved 122 = .ok (.lconst 0, 1) := by decide +kernel
theorem dL_isMoved_123 : decode cL_isMoved 123 = .ok (.lcmp, 1) := by decide +kernel
theorem dL_isMoved_124 : decode cL_isMoved 124 = .ok (.ifCond .ne 7, 3) := by decide +kernel
theorem dL_isMoved_127 : decode cL_isMoved 127 = .ok (.iconst 1, 1) := by decide +kernel
theorem dL_isMoved_128 : decode cL_isMoved 128 = .ok (.goto 4, 3) := by decide +kernel
theorem dL_isMoved_131 : decode cL_isMoved 131 = .ok (.iconst 0, 1) := by decide +kernel
theorem dL_isMoved_132 : decode cL_isMoved 132 = .ok (.ireturn, 1) := by decide +kernel
set_option maxRecDepth 20000 in
theorem ggL_isNothing_L_asks : GoodIn wsL_isNothing wsL_asks := goodIn_ca (goodIn_ca (goodIn_r _ [5, 6, 7, 8, 9, 10, 11, 12, 13, 14, 15, 16, 17, 18, 19, 20, 21, 22, 23, 24, 25, 26, 27, 28, 29, 30, 31, 32, 33, 34, 35, 36, 37, 38, 39, 40, 41, 42, 43, 44, 45, 46, 47, 48, 49, 50, 51, 52, 53, 54, 55, 56, 57, 58, 59, 60, 61, 62, 63, 64, 65, 66, 67, 68, 69, 70, 71, 72, 73, 74, 75, 76, 77, 78, 79, 80, 81, 82, 83, 84, 85, 86, 87, 88, 89, 90, 91, 92, 93, 94, 95, 96, 97, 98, 99, 100, 101, 102, 103, 104, 105, 106, 107, 108, 109, 110, 111, 112, 113, 114, 115, 116, 117, 118, 119, 120, 121, 122, 123, 124, 125, 126, 127, 128, 129, 130, 131, 132, 133, 134, 135, 136, 137, 138, 139, 140, 141, 142, 143, 144, 145, 146, 147, 148, 149, 150, 151, 152, 153, 154, 155, 156, 157, 158, 190, 191, 192, 193, 194, 195, 196, 197, 198, 199, 200, 201, 202, 203, 204, 205, 206, 207, 208, 209, 210, 211, 212, 213, 214, 215] (by decide +kernel) (by decide +kernel)) (goodIn_sub (fun _ h => List.mem_cons_of_mem _ (List.mem_append_left _ (List.mem_append_right _ h))) (by decide +kernel))) (goodIn_sub (fun _ h => List.mem_cons_of_mem _ (List.mem_append_right _ h)) (by decide +kernel))
set_option maxRecDepth 20000 in
theorem gL_isNothing_L_asks : GoodIn wsL_isNothing (va_wsS RL 71 yL_asks wsL_asks) := goodIn_app (goodIn_of _ (by decide +kernel)) ggL_isNothing_L_asks
set_option maxRecDepth 20000 in
theorem ggL_isNothing_X6_ofJoint : GoodIn wsL_isNothing wsX6_ofJoint := goodIn_ca (goodIn_ca (goodIn_r _ [162, 40, 41, 48, 163, 164, 12, 165, 166, 167, 10, 168, 18, 19, 169, 170, 171, 172, 173, 174, 175, 176, 177, 23, 178, 25, 35, 21, 22, 24, 26, 179, 180, 181, 182, 183, 184, 190, 191, 192, 193, 194, 195, 196, 207, 208, 209, 210, 211, 197, 198, 199, 200, 201, 202] (by decide +kernel) (by decide +kernel)) (goodIn_sub (fun _ h => List.mem_cons_of_mem _ (List.mem_append_right _ h)) (by decide +kernel))) (goodIn_sub (fun _ h => List.mem_cons_of_mem _ (List.mem_append_left _ (List.mem_append_right _ h))) (by decide +kernel))
set_option maxRecDepth 20000 in
theorem gL_isNothing_X6_ofJoint : GoodIn wsL_isNothing (wsV RL 57 RX6 yX6_ofJoint wsX6_ofJoint) := goodIn_app (goodIn_of _ (by decide +kernel)) ggL_isNothing_X6_ofJoint
set_option maxRecDepth 20000 in
theorem ggL_isNothing_X6_pin : GoodIn wsL_isNothing wsX6_pin := goodIn_ca (goodIn_r _ [188, 48, 189, 165, 166, 167, 10, 168, 18, 19, 169, 170, 171, 172, 173, 174, 190, 191, 192, 193, 194, 195, 196, 207, 208, 209, 210, 211] (by decide +kernel) (by decide +kernel)) (goodIn_sub (fun _ h => List.mem_cons_of_mem _ (List.mem_append_left _ (List.mem_append_right _ h))) (by decide +kernel))
set_option maxRecDepth 20000 in
theorem gL_isNothing_X6_pin : GoodIn wsL_isNothing (wsV RL 75 RX6 yX6_pin wsX6_pin) := goodIn_app (goodIn_of _ (by decide +kernel)) ggL_isNothing_X6_pin
theorem dL_isNothing_0 : decode cL_isNothing 0 = .ok (.lconst 0, 1) := by decide +kernel
theorem dL_isNothing_1 : decode cL_isNothing 1 = .ok (.lstore 4, 2) := by decide +kernel
theorem dL_isNothing_3 : decode cL_isNothing 3 = .ok (.lconst 0, 1) := by decide +kernel
theorem dL_isNothing_4 : decode cL_isNothing 4 = .ok (.lstore 6, 2) := by decide +kernel
theorem dL_isNothing_6 : decode cL_isNothing 6 = .ok (.iconst 0, 1) := by decide +kernel
theorem dL_isNothing_7 : decode cL_isNothing 7 = .ok (.istore 8, 2) := by decide +kernel
theorem dL_isNothing_9 : decode cL_isNothing 9 = .ok (.iconst 0, 1) := by decide +kernel
theorem dL_isNothing_10 : decode cL_isNothing 10 = .ok (.istore 9, 2) := by decide +kernel
theorem dL_isNothing_12 : decode cL_isNothing 12 = .ok (.iload 9, 2) := by decide +kernel
theorem dL_isNothing_14 : decode cL_isNothing 14 = .ok (.aload_n 1, 1) := by decide +kernel
theorem dL_isNothing_15 : decode cL_isNothing 15 = .ok (.iconst 1, 1) := by decide +kernel
theorem dL_isNothing_16 : decode cL_isNothing 16 = .ok (.iaload, 1) := by decide +kernel
theorem dL_isNothing_17 : decode cL_isNothing 17 = .ok (.if_icmp .ge 164, 3) := by decide +kernel
theorem dL_isNothing_20 : decode cL_isNothing 20 = .ok (.aload_n 0, 1) := by decide +kernel
theorem dL_isNothing_21 : decode cL_isNothing 21 = .ok (.iload 9, 2) := by decide +kernel
theorem dL_isNothing_23 : decode cL_isNothing 23 = .ok (.iconst 0, 1) := by decide +kernel
theorem dL_isNothing_24 : decode cL_isNothing 24 = .ok (.iconst 2, 1) := by decide +kernel
theorem dL_isNothing_25 : decode cL_isNothing 25 = .ok (.invokestatic 71, 3) := by decide +kernel
theorem dL_isNothing_28 : decode cL_isNothing 28 = .ok (.istore 10, 2) := by decide +kernel
theorem dL_isNothing_30 : decode cL_isNothing 30 = .ok (.iload 10, 2) := by decide +kernel
theorem dL_isNothing_32 : decode cL_isNothing 32 = .ok (.ifCond .lt 29, 3) := by decide +kernel
theorem dL_isNothing_35 : decode cL_isNothing 35 = .ok (.aload_n 2, 1) := by decide +kernel
theorem dL_isNothing_36 : decode cL_isNothing 36 = .ok (.iconst 2, 1) := by decide +kernel
theorem dL_isNothing_37 : decode cL_isNothing 37 = .ok (.iload 9, 2) := by decide +kernel
theorem dL_isNothing_39 : decode cL_isNothing 39 = .ok (.imul, 1) := by decide +kernel
theorem dL_isNothing_40 : decode cL_isNothing 40 = .ok (.iaload, 1) := by decide +kernel
theorem dL_isNothing_41 : decode cL_isNothing 41 = .ok (.iload_n 3, 1) := by decide +kernel
theorem dL_isNothing_42 : decode cL_isNothing 42 = .ok (.if_icmp .eq 15, 3) := by decide +kernel
theorem dL_isNothing_45 : decode cL_isNothing 45 = .ok (.aload_n 2, 1) := by decide +kernel
theorem dL_isNothing_46 : decode cL_isNothing 46 = .ok (.iconst 2, 1) := by decide +kernel
theorem dL_isNothing_47 : decode cL_isNothing 47 = .ok (.iload 9, 2) := by decide +kernel
theorem dL_isNothing_49 : decode cL_isNothing 49 = .ok (.imul, 1) := by decide +kernel
theorem dL_isNothing_50 : decode cL_isNothing 50 = .ok (.iconst 1, 1) := by decide +kernel
theorem dL_isNothing_51 : decode cL_isNothing 51 = .ok (.iadd, 1) := by decide +kernel
theorem dL_isNothing_52 : decode cL_isNothing 52 = .ok (.iaload, 1) := by decide +kernel
theorem dL_isNothing_53 : decode cL_isNothing 53 = .ok (.iload_n 3, 1) := by decide +kernel
theorem dL_isNothing_54 : decode cL_isNothing 54 = .ok (.if_icmp .ne 7, 3) := by decide +kernel
theorem dL_isNothing_57 : decode cL_isNothing 57 = .ok (.iconst 1, 1) := by decide +kernel
theorem dL_isNothing_58 : decode cL_isNothing 58 = .ok (.goto 4, 3) := by decide +kernel
theorem dL_isNothing_61 : decode cL_isNothing 61 = .ok (.iconst 0, 1) := by decide +kernel
theorem dL_isNothing_62 : decode cL_isNothing 62 = .ok (.istore 11, 2) := by decide +kernel
theorem dL_isNothing_64 : decode cL_isNothing 64 = .ok (.aload_n 2, 1) := by decide +kernel
theorem dL_isNothing_65 : decode cL_isNothing 65 = .ok (.iconst 2, 1) := by decide +kernel
theorem dL_isNothing_66 : decode cL_isNothing 66 = .ok (.iload 9, 2) := by decide +kernel
theorem dL_isNothing_68 : decode cL_isNothing 68 = .ok (.imul, 1) := by decide +kernel
theorem dL_isNothing_69 : decode cL_isNothing 69 = .ok (.iaload, 1) := by decide +kernel
theorem dL_isNothing_70 : decode cL_isNothing 70 = .ok (.iload_n 3, 1) := by decide +kernel
theorem dL_isNothing_71 : decode cL_isNothing 71 = .ok (.if_icmp .ne 14, 3) := by decide +kernel
theorem dL_isNothing_74 : decode cL_isNothing 74 = .ok (.aload_n 2, 1) := by decide +kernel
theorem dL_isNothing_75 : decode cL_isNothing 75 = .ok (.iconst 2, 1) := by decide +kernel
theorem dL_isNothing_76 : decode cL_isNothing 76 = .ok (.iload 9, 2) := by decide +kernel
theorem dL_isNothing_78 : decode cL_isNothing 78 = .ok (.imul, 1) := by decide +kernel
theorem dL_isNothing_79 : decode cL_isNothing 79 = .ok (.iconst 1, 1) := by decide +kernel
theorem dL_isNothing_80 : decode cL_isNothing 80 = .ok (.iadd, 1) := by decide +kernel
theorem dL_isNothing_81 : decode cL_isNothing 81 = .ok (.iaload, 1) := by decide +kernel
theorem dL_isNothing_82 : decode cL_isNothing 82 = .ok (.goto 9, 3) := by decide +kernel
theorem dL_isNothing_85 : decode cL_isNothing 85 = .ok (.aload_n 2, 1) := by decide +kernel
theorem dL_isNothing_86 : decode cL_isNothing 86 = .ok (.iconst 2, 1) := by decide +kernel
theorem dL_isNothing_87 : decode cL_isNothing 87 = .ok (.iload 9, 2) := by decide +kernel
theorem dL_isNothing_89 : decode cL_isNothing 89 = .ok (.imul, 1) := by decide +kernel
theorem dL_isNothing_90 : decode cL_isNothing 90 = .ok (.iaload, 1) := by decide +kernel
theorem dL_isNothing_91 : decode cL_isNothing 91 = .ok (.istore 12, 2) := by decide +kernel
theorem dL_isNothing_93 : decode cL_isNothing 93 = .ok (.lload 4, 2) := by decide +kernel
theorem dL_isNothing_95 : decode cL_isNothing 95 = .ok (.iload 11, 2) := by decide +kernel
theorem dL_isNothing_97 : decode cL_isNothing 97 = .ok (.ifCond .eq 25, 3) := by decide +kernel
theorem dL_isNothing_100 : decode cL_isNothing 100 = .ok (.iload 10, 2) := by decide +kernel
theorem dL_isNothing_102 : decode cL_isNothing 102 = .ok (.i2l, 1) := by decide +kernel
theorem dL_isNothing_103 : decode cL_isNothing 103 = .ok (.aload_n 0, 1) := by decide +kernel
theorem dL_isNothing_104 : decode cL_isNothing 104 = .ok (.iload_n 3, 1) := by decide +kernel
theorem dL_isNothing_105 : decode cL_isNothing 105 = .ok (.iconst 0, 1) := by decide +kernel
theorem dL_isNothing_106 : decode cL_isNothing 106 = .ok (.invokevirtual 57, 3) := by decide +kernel
theorem dL_isNothing_109 : decode cL_isNothing 109 = .ok (.aload_n 0, 1) := by decide +kernel
theorem dL_isNothing_110 : decode cL_isNothing 110 = .ok (.iload 12, 2) := by decide +kernel
theorem dL_isNothing_112 : decode cL_isNothing 112 = .ok (.iconst 0, 1) := by decide +kernel
theorem dL_isNothing_113 : decode cL_isNothing 113 = .ok (.invokevirtual 57, 3) := by decide +kernel
theorem dL_isNothing_116 : decode cL_isNothing 116 = .ok (.isub, 1) := by decide +kernel
theorem dL_isNothing_117 : decode cL_isNothing 117 = .ok (.i2l, 1) := by decide +kernel
theorem dL_isNothing_118 : decode cL_isNothing 118 = .ok (.lmul, 1) := by decide +kernel
theorem dL_isNothing_119 : decode cL_isNothing 119 = .ok (.goto 4, 3) := by decide +kernel
theorem dL_isNothing_122 : decode cL_isNothing 122 = .ok (.lconst 0, 1) := by decide +kernel
theorem dL_isNothing_123 : decode cL_isNothing 123 = .ok (.ladd, 1) := by decide +kernel
theorem dL_isNothing_124 : decode cL_isNothing 124 = .ok (.lstore 4, 2) := by decide +kernel
theorem dL_isNothing_126 : decode cL_isNothing 126 = .ok (.lload 6, 2) := by decide +kernel
theorem dL_isNothing_128 : decode cL_isNothing 128 = .ok (.iload 11, 2) := by decide +kernel
theorem dL_isNothing_130 : decode cL_isNothing 130 = .ok (.ifCond .eq 25, 3) := by decide +kernel
theorem dL_isNothing_133 : decode cL_isNothing 133 = .ok (.iload 10, 2) := by decide +kernel
theorem dL_isNothing_135 : decode cL_isNothing 135 = .ok (.i2l, 1) := by decide +kernel
theorem dL_isNothing_136 : decode cL_isNothing 136 = .ok (.aload_n 0, 1) := by decide +kernel
theorem dL_isNothing_137 : decode cL_isNothing 137 = .ok (.iload_n 3, 1) := by decide +kernel
theorem dL_isNothing_138 : decode cL_isNothing 138 = .ok (.iconst 1, 1) := by decide +kernel
theorem dL_isNothing_139 : decode cL_isNothing 139 = .ok (.invokevirtual 57, 3) := by decide +kernel
theorem dL_isNothing_142 : decode cL_isNothing 142 = .ok (.aload_n 0, 1) := by decide +kernel
theorem dL_isNothing_143 : decode cL_isNothing 143 = .ok (.iload 12, 2) := by decide +kernel
theorem dL_isNothing_145 : decode cL_isNothing 145 = .ok (.iconst 1, 1) := by decide +kernel
theorem dL_isNothing_146 : decode cL_isNothing 146 = .ok (.invokevirtual 57, 3) := by decide +kernel
theorem dL_isNothing_149 : decode cL_isNothing 149 = .ok (.isub, 1) := by decide +kernel
theorem dL_isNothing_150 : decode cL_isNothing 150 = .ok (.i2l, 1) := by decide +kernel
theorem dL_isNothing_151 : decode cL_isNothing 151 = .ok (.lmul, 1) := by decide +kernel
theorem dL_isNothing_152 : decode cL_isNothing 152 = .ok (.goto 4, 3) := by decide +kernel
theorem dL_isNothing_155 : decode cL_isNothing 155 = .ok (.lconst 0, 1) := by decide +kernel
theorem dL_isNothing_156 : decode cL_isNothing 156 = .ok (.ladd, 1) := by decide +kernel
theorem dL_isNothing_157 : decode cL_isNothing 157 = .ok (.lstore 6, 2) := by decide +kernel
theorem dL_isNothing_159 : decode cL_isNothing 159 = .ok (.iload 8, 2) := by decide +kernel
theorem dL_isNothing_161 : decode cL_isNothing 161 = .ok (.iload 10, 2) := by decide +kernel
theorem dL_isNothing_163 : decode cL_isNothing 163 = .ok (.iconst 1, 1) := by decide +kernel
theorem dL_isNothing_164 : decode cL_isNothing 164 = .ok (.if_icmp .ne 7, 3) := by decide +kernel
theorem dL_isNothing_167 : decode cL_isNothing 167 = .ok (.iconst 1, 1) := by decide +kernel
theorem dL_isNothing_168 : decode cL_isNothing 168 = .ok (.goto 4, 3) := by decide +kernel
theorem dL_isNothing_171 : decode cL_isNothing 171 = .ok (.iconst 0, 1) := by decide +kernel
theorem dL_isNothing_172 : decode cL_isNothing 172 = .ok (.iadd, 1) := by decide +kernel
theorem dL_isNothing_173 : decode cL_isNothing 173 = .ok (.istore 8, 2) := by decide +kernel
theorem dL_isNothing_175 : decode cL_isNothing 175 = .ok (.iinc 9 1, 3) := by decide +kernel
theorem dL_isNothing_178 : decode cL_isNothing 178 = .ok (.goto (-166), 3) := by decide +kernel
theorem dL_isNothing_181 : decode cL_isNothing 181 = .ok (.aload_n 0, 1) := by decide +kernel
theorem dL_isNothing_182 : decode cL_isNothing 182 = .ok (.iload_n 3, 1) := by decide +kernel
theorem dL_isNothing_183 : decode cL_isNothing 183 = .ok (.iconst 1, 1) := by decide +kernel
theorem dL_isNothing_184 : decode cL_isNothing 184 = .ok (.invokevirtual 75, 3) := by decide +kernel
theorem dL_isNothing_187 : decode cL_isNothing 187 = .ok (.istore 9, 2) := by decide +kernel
theorem dL_isNothing_189 : decode cL_isNothing 189 = .ok (.aload_n 0, 1) := by decide +kernel
theorem dL_isNothing_190 : decode cL_isNothing 190 = .ok (.iload_n 3, 1) := by decide +kernel
theorem dL_isNothing_191 : decode cL_isNothing 191 = .ok (.iload 9, 2) := by decide +kernel
theorem dL_isNothing_193 : decode cL_isNothing 193 = .ok (.invokevirtual 75, 3) := by decide +kernel
theorem dL_isNothing_196 : decode cL_isNothing 196 = .ok (.ifCond .eq 39, 3) := by decide +kernel
theorem dL_isNothing_199 : decode cL_isNothing 199 = .ok (.iload 9, 2) := by decide +kernel
theorem dL_isNothing_201 : decode cL_isNothing 201 = .ok (.ifCond .ne 25, 3) := by decide +kernel
theorem dL_isNothing_204 : decode cL_isNothing 204 = .ok (.lload 4, 2) := by decide +kernel
theorem dL_isNothing_206 : decode cL_isNothing 206 = .ok (.ldc2_w 148, 3) := by decide +kernel
theorem dL_isNothing_209 : decode cL_isNothing 209 = .ok (.lrem, 1) := by decide +kernel
theorem dL_isNothing_210 : decode cL_isNothing 210 = .ok (.lconst 0, 1) := by decide +kernel
theorem dL_isNothing_211 : decode cL_isNothing 211 = .ok (.lcmp, 1) := by decide +kernel
theorem dL_isNothing_212 : decode cL_isNothing 212 = .ok (.ifCond .ne 23, 3) := by decide +kernel
theorem dL_isNothing_215 : decode cL_isNothing 215 = .ok (.lload 6, 2) := by decide +kernel
theorem dL_isNothing_217 : decode cL_isNothing 217 = .ok (.ldc2_w 148, 3) := by decide +kernel
theorem dL_isNothing_220 : decode cL_isNothing 220 = .ok (.lrem, 1) := by decide +kernel
theorem dL_isNothing_221 : decode cL_isNothing 221 = .ok (.lconst 0, 1) := by decide +kernel
theorem dL_isNothing_222 : decode cL_isNothing 222 = .ok (.lcmp, 1) := by decide +kernel
theorem dL_isNothing_223 : decode cL_isNothing 223 = .ok (.ifCond .ne 12, 3) := by decide +kernel
theorem dL_isNothing_226 : decode cL_isNothing 226 = .ok (.iload 8, 2) := by decide +kernel
theorem dL_isNothing_228 : decode cL_isNothing 228 = .ok (.ifCond .le 7, 3) := by decide +kernel
theorem dL_isNothing_231 : decode cL_isNothing 231 = .ok (.iconst 1, 1) := by decide +kernel
theorem dL_isNothing_232 : decode cL_isNothing 232 = .ok (.goto 4, 3) := by decide +kernel
theorem dL_isNothing_235 : decode cL_isNothing 235 = .ok (.iconst 0, 1) := by decide +kernel
theorem dL_isNothing_236 : decode cL_isNothing 236 = .ok (.ireturn, 1) := by decide +kernel
set_option maxRecDepth 20000 in
theorem ggL_law_X6_init : GoodIn wsL_law wsX6_init := goodIn_r _ [6, 7, 8, 9, 10, 11, 12, 13, 14, 15, 16, 17, 18, 19, 20, 21, 22, 23, 24, 25, 26, 27, 28, 29, 30, 31, 32, 33, 34, 35, 36, 37, 3, 38, 39, 40, 41, 42, 43, 44, 45, 46, 47, 48, 49, 50, 51, 52, 53, 54, 55, 56, 57, 58, 59, 60, 61, 62, 63, 64, 65, 66, 67, 68, 69, 70, 71, 72, 73, 74, 75, 76, 77, 78, 79, 80, 81, 544, 545, 546, 547, 548, 537, 538, 539, 540, 541, 542, 543, 549, 550, 551, 552, 553, 554, 555, 556, 557, 558, 559, 560, 561, 562, 563, 564, 565, 566, 567, 568, 569] (by decide +kernel) (by decide +kernel)
set_option maxRecDepth 20000 in
theorem gL_law_X6_init : GoodIn wsL_law (wsX6_init) := ggL_law_X6_init
set_option maxRecDepth 20000 in
theorem ggL_law_X6_lacks : GoodIn wsL_law wsX6_lacks := goodIn_r _ [85, 13, 86, 87, 88, 89, 2, 90, 91, 92, 93, 94, 33, 34, 17, 95, 96, 97, 98, 99, 100, 32, 101, 79, 102, 103, 104, 16, 105, 52, 51, 106, 107, 108, 109, 110, 111, 112, 113, 114, 115, 116, 117, 118, 119, 120, 121, 80, 81, 122, 123, 124, 125, 126, 127, 128, 129, 130, 131, 132, 133, 134, 135, 136, 137, 138, 139, 140, 141, 142, 143, 144, 537, 538, 539, 540, 541, 542, 543, 544, 545, 546, 547, 548, 549, 550, 551, 552, 553, 554, 567, 568, 569] (by decide +kernel) (by decide +kernel)
set_option maxRecDepth 20000 in
theorem gL_law_X6_lacks : GoodIn wsL_law (wsV RL 115 RX6 yX6_lacks wsX6_lacks) := goodIn_app (goodIn_of _ (by decide +kernel)) ggL_law_X6_lacks
set_option maxRecDepth 20000 in
theorem ggL_law_X6_rank : GoodIn wsL_law wsX6_rank := goodIn_r _ [148, 25, 13, 149, 150, 151, 24, 152, 66, 153, 63, 154, 64, 155, 156, 65, 157, 158, 159, 2, 160, 29, 161, 162, 163, 164, 17, 165, 95, 96, 97, 166, 167, 168, 16, 169, 52, 170, 171, 172, 173, 174, 103, 104, 105, 51, 102, 175, 176, 177, 28, 178, 179, 180, 181, 182, 183, 184, 185, 74, 75, 72, 186, 187, 188, 189, 190, 191, 192, 193, 194, 195, 196, 197, 198, 199, 200, 201, 202, 203, 204, 205, 206, 207, 208, 209, 73, 210, 211, 212, 213, 214, 215, 216, 217, 218, 219, 220, 221, 222, 223, 224, 225, 226, 227, 228, 229, 230, 231, 232, 233, 537, 538, 539, 540, 541, 542, 543, 559, 560, 561, 562, 544, 545, 546, 547, 548, 549, 550, 551, 552, 553, 554, 563, 564, 565, 566] (by decide +kernel) (by decide +kernel)
set_option maxRecDepth 20000 in
theorem gL_law_X6_rank : GoodIn wsL_law (wsV RL 79 RX6 yX6_rank wsX6_rank) := goodIn_app (goodIn_of _ (by decide +kernel)) ggL_law_X6_rank
set_option maxRecDepth 20000 in
theorem ggL_law_X6_isProper : GoodIn wsL_law wsX6_isProper := goodIn_r _ [237, 17, 95, 238, 102, 103, 104, 16, 105, 52, 51, 239, 240, 241, 242, 49, 50, 243, 244, 245, 2, 246, 13, 86, 247, 248, 249, 250, 251, 96, 97, 252, 253, 254, 255, 256, 257, 47, 48, 258, 122, 123, 537, 538, 539, 540, 541, 542, 543, 549, 550, 551, 552, 553, 554, 544, 545, 546, 547, 548] (by decide +kernel) (by decide +kernel)
set_option maxRecDepth 20000 in
theorem gL_law_X6_isProper : GoodIn wsL_law (wsV RL 137 RX6 yX6_isProper wsX6_isProper) := goodIn_app (goodIn_of _ (by decide +kernel)) ggL_law_X6_isProper
set_option maxRecDepth 20000 in
theorem ggL_law_X6_places : GoodIn wsL_law wsX6_places := goodIn_ca (goodIn_r _ [262, 13, 263, 264, 2, 265, 266, 267, 268, 269, 270, 12, 271, 43, 42, 38, 39, 537, 538, 539, 540, 541, 542, 543, 544, 545, 546, 547, 548] (by decide +kernel) (by decide +kernel)) (goodIn_sub (fun _ h => List.mem_append_left _ (List.mem_append_left _ (List.mem_append_right _ h))) (by decide +kernel))
set_option maxRecDepth 20000 in
theorem gL_law_X6_places : GoodIn wsL_law (wsV RL 118 RX6 yX6_places wsX6_places) := goodIn_app (goodIn_of _ (by decide +kernel)) ggL_law_X6_places
set_option maxRecDepth 20000 in
theorem ggL_law_L_draw : GoodIn wsL_law wsL_draw := goodIn_r _ [275, 276, 277, 278] (by decide +kernel) (by decide +kernel)
set_option maxRecDepth 20000 in
theorem gL_law_L_draw : GoodIn wsL_law (va_wsS RL 151 yL_draw wsL_draw) := goodIn_app (goodIn_of _ (by decide +kernel)) ggL_law_L_draw
theorem dL_law_0 : decode cL_law 0 = .ok (.new 11, 3) := by decide +kernel
theorem dL_law_3 : decode cL_law 3 = .ok (.dup, 1) := by decide +kernel
theorem dL_law_4 : decode cL_law 4 = .ok (.invokespecial 150, 3) := by decide +kernel
theorem dL_law_7 : decode cL_law 7 = .ok (.astore_n 1, 1) := by decide +kernel
theorem dL_law_8 : decode cL_law 8 = .ok (.iconst 3, 1) := by decide +kernel
theorem dL_law_9 : decode cL_law 9 = .ok (.newarray .int, 2) := by decide +kernel
theorem dL_law_11 : decode cL_law 11 = .ok (.astore_n 2, 1) := by decide +kernel
theorem dL_law_12 : decode cL_law 12 = .ok (.bipush 64, 2) := by decide +kernel
theorem dL_law_14 : decode cL_law 14 = .ok (.newarray .int, 2) := by decide +kernel
theorem dL_law_16 : decode cL_law 16 = .ok (.astore_n 3, 1) := by decide +kernel
theorem dL_law_17 : decode cL_law 17 = .ok (.aload_n 1, 1) := by decide +kernel
theorem dL_law_18 : decode cL_law 18 = .ok (.invokevirtual 115, 3) := by decide +kernel
theorem dL_law_21 : decode cL_law 21 = .ok (.iconst (-1), 1) := by decide +kernel
theorem dL_law_22 : decode cL_law 22 = .ok (.if_icmp .ne 32, 3) := by decide +kernel
theorem dL_law_25 : decode cL_law 25 = .ok (.aload_n 1, 1) := by decide +kernel
theorem dL_law_26 : decode cL_law 26 = .ok (.invokevirtual 79, 3) := by decide +kernel
theorem dL_law_29 : decode cL_law 29 = .ok (.ifCond .ne 25, 3) := by decide +kernel
theorem dL_law_32 : decode cL_law 32 = .ok (.aload_n 1, 1) := by decide +kernel
theorem dL_law_33 : decode cL_law 33 = .ok (.invokevirtual 137, 3) := by decide +kernel
theorem dL_law_36 : decode cL_law 36 = .ok (.ifCond .ne 18, 3) := by decide +kernel
theorem dL_law_39 : decode cL_law 39 = .ok (.aload_n 1, 1) := by decide +kernel
theorem dL_law_40 : decode cL_law 40 = .ok (.iconst 0, 1) := by decide +kernel
theorem dL_law_41 : decode cL_law 41 = .ok (.invokevirtual 118, 3) := by decide +kernel
theorem dL_law_44 : decode cL_law 44 = .ok (.sipush 14641, 3) := by decide +kernel
theorem dL_law_47 : decode cL_law 47 = .ok (.if_icmp .ne 7, 3) := by decide +kernel
theorem dL_law_50 : decode cL_law 50 = .ok (.iconst 1, 1) := by decide +kernel
theorem dL_law_51 : decode cL_law 51 = .ok (.goto 4, 3) := by decide +kernel
theorem dL_law_54 : decode cL_law 54 = .ok (.iconst 0, 1) := by decide +kernel
theorem dL_law_55 : decode cL_law 55 = .ok (.istore 4, 2) := by decide +kernel
theorem dL_law_57 : decode cL_law 57 = .ok (.aload_n 0, 1) := by decide +kernel
theorem dL_law_58 : decode cL_law 58 = .ok (.arraylength, 1) := by decide +kernel
theorem dL_law_59 : decode cL_law 59 = .ok (.iconst 3, 1) := by decide +kernel
theorem dL_law_60 : decode cL_law 60 = .ok (.idiv, 1) := by decide +kernel
theorem dL_law_61 : decode cL_law 61 = .ok (.bipush 36, 2) := by decide +kernel
theorem dL_law_63 : decode cL_law 63 = .ok (.if_icmp .le 8, 3) := by decide +kernel
theorem dL_law_66 : decode cL_law 66 = .ok (.bipush 36, 2) := by decide +kernel
theorem dL_law_68 : decode cL_law 68 = .ok (.goto 7, 3) := by decide +kernel
theorem dL_law_71 : decode cL_law 71 = .ok (.aload_n 0, 1) := by decide +kernel
theorem dL_law_72 : decode cL_law 72 = .ok (.arraylength, 1) := by decide +kernel
theorem dL_law_73 : decode cL_law 73 = .ok (.iconst 3, 1) := by decide +kernel
theorem dL_law_74 : decode cL_law 74 = .ok (.idiv, 1) := by decide +kernel
theorem dL_law_75 : decode cL_law 75 = .ok (.istore 5, 2) := by decide +kernel
theorem dL_law_77 : decode cL_law 77 = .ok (.iconst 0, 1) := by decide +kernel
theorem dL_law_78 : decode cL_law 78 = .ok (.istore 6, 2) := by decide +kernel
theorem dL_law_80 : decode cL_law 80 = .ok (.iload 6, 2) := by decide +kernel
theorem dL_law_82 : decode cL_law 82 = .ok (.iload 5, 2) := by decide +kernel
theorem dL_law_84 : decode cL_law 84 = .ok (.if_icmp .ge 76, 3) := by decide +kernel
theorem dL_law_87 : decode cL_law 87 = .ok (.iload 4, 2) := by decide +kernel
theorem dL_law_89 : decode cL_law 89 = .ok (.ifCond .eq 71, 3) := by decide +kernel
theorem dL_law_92 : decode cL_law 92 = .ok (.aload_n 1, 1) := by decide +kernel
theorem dL_law_93 : decode cL_law 93 = .ok (.aload_n 2, 1) := by decide +kernel
theorem dL_law_94 : decode cL_law 94 = .ok (.aload_n 3, 1) := by decide +kernel
theorem dL_law_95 : decode cL_law 95 = .ok (.aload_n 0, 1) := by decide +kernel
theorem dL_law_96 : decode cL_law 96 = .ok (.iconst 3, 1) := by decide +kernel
theorem dL_law_97 : decode cL_law 97 = .ok (.iload 6, 2) := by decide +kernel
theorem dL_law_99 : decode cL_law 99 = .ok (.imul, 1) := by decide +kernel
theorem dL_law_100 : decode cL_law 100 = .ok (.invokestatic 151, 3) := by decide +kernel
theorem dL_law_103 : decode cL_law 103 = .ok (.aload_n 0, 1) := by decide +kernel
theorem dL_law_104 : decode cL_law 104 = .ok (.iconst 3, 1) := by decide +kernel
theorem dL_law_105 : decode cL_law 105 = .ok (.iload 6, 2) := by decide +kernel
theorem dL_law_107 : decode cL_law 107 = .ok (.imul, 1) := by decide +kernel
theorem dL_law_108 : decode cL_law 108 = .ok (.iconst 1, 1) := by decide +kernel
theorem dL_law_109 : decode cL_law 109 = .ok (.iadd, 1) := by decide +kernel
theorem dL_law_110 : decode cL_law 110 = .ok (.invokestatic 151, 3) := by decide +kernel
theorem dL_law_113 : decode cL_law 113 = .ok (.aload_n 0, 1) := by decide +kernel
theorem dL_law_114 : decode cL_law 114 = .ok (.iconst 3, 1) := by decide +kernel
theorem dL_law_115 : decode cL_law 115 = .ok (.iload 6, 2) := by decide +kernel
theorem dL_law_117 : decode cL_law 117 = .ok (.imul, 1) := by decide +kernel
theorem dL_law_118 : decode cL_law 118 = .ok (.iconst 2, 1) := by decide +kernel
theorem dL_law_119 : decode cL_law 119 = .ok (.iadd, 1) := by decide +kernel
theorem dL_law_120 : decode cL_law 120 = .ok (.invokestatic 151, 3) := by decide +kernel
theorem dL_law_123 : decode cL_law 123 = .ok (.invokestatic 155, 3) := by decide +kernel
theorem dL_law_126 : decode cL_law 126 = .ok (.ifCond .eq 25, 3) := by decide +kernel
theorem dL_law_129 : decode cL_law 129 = .ok (.aload_n 2, 1) := by decide +kernel
theorem dL_law_130 : decode cL_law 130 = .ok (.iconst 0, 1) := by decide +kernel
theorem dL_law_131 : decode cL_law 131 = .ok (.iaload, 1) := by decide +kernel
theorem dL_law_132 : decode cL_law 132 = .ok (.iconst 3, 1) := by decide +kernel
theorem dL_law_133 : decode cL_law 133 = .ok (.if_icmp .lt 14, 3) := by decide +kernel
theorem dL_law_136 : decode cL_law 136 = .ok (.aload_n 1, 1) := by decide +kernel
theorem dL_law_137 : decode cL_law 137 = .ok (.aload_n 2, 1) := by decide +kernel
theorem dL_law_138 : decode cL_law 138 = .ok (.aload_n 3, 1) := by decide +kernel
theorem dL_law_139 : decode cL_law 139 = .ok (.iload 6, 2) := by decide +kernel
theorem dL_law_141 : decode cL_law 141 = .ok (.invokestatic 158, 3) := by decide +kernel
theorem dL_law_144 : decode cL_law 144 = .ok (.ifCond .eq 7, 3) := by decide +kernel
theorem dL_law_147 : decode cL_law 147 = .ok (.iconst 1, 1) := by decide +kernel
theorem dL_law_148 : decode cL_law 148 = .ok (.goto 4, 3) := by decide +kernel
theorem dL_law_151 : decode cL_law 151 = .ok (.iconst 0, 1) := by decide +kernel
theorem dL_law_152 : decode cL_law 152 = .ok (.istore 4, 2) := by decide +kernel
theorem dL_law_154 : decode cL_law 154 = .ok (.iinc 6 1, 3) := by decide +kernel
theorem dL_law_157 : decode cL_law 157 = .ok (.goto (-77), 3) := by decide +kernel
theorem dL_law_160 : decode cL_law 160 = .ok (.iload 4, 2) := by decide +kernel
theorem dL_law_162 : decode cL_law 162 = .ok (.ireturn, 1) := by decide +kernel
