theorem dL_draw_0 : decode cL_draw 0 = .ok (.iload_n 1, 1) := by decide +kernel
theorem dL_draw_1 : decode cL_draw 1 = .ok (.aload_n 0, 1) := by decide +kernel
theorem dL_draw_2 : decode cL_draw 2 = .ok (.arraylength, 1) := by decide +kernel
theorem dL_draw_3 : decode cL_draw 3 = .ok (.if_icmp .ge 12, 3) := by decide +kernel
theorem dL_draw_6 : decode cL_draw 6 = .ok (.aload_n 0, 1) := by decide +kernel
theorem dL_draw_7 : decode cL_draw 7 = .ok (.iload_n 1, 1) := by decide +kernel
theorem dL_draw_8 : decode cL_draw 8 = .ok (.iaload, 1) := by decide +kernel
theorem dL_draw_9 : decode cL_draw 9 = .ok (.ldc 7, 2) := by decide +kernel
theorem dL_draw_11 : decode cL_draw 11 = .ok (.iand, 1) := by decide +kernel
theorem dL_draw_12 : decode cL_draw 12 = .ok (.goto 12, 3) := by decide +kernel
theorem dL_draw_15 : decode cL_draw 15 = .ok (.ldc 8, 2) := by decide +kernel
theorem dL_draw_17 : decode cL_draw 17 = .ok (.iload_n 1, 1) := by decide +kernel
theorem dL_draw_18 : decode cL_draw 18 = .ok (.iconst 2, 1) := by decide +kernel
theorem dL_draw_19 : decode cL_draw 19 = .ok (.iadd, 1) := by decide +kernel
theorem dL_draw_20 : decode cL_draw 20 = .ok (.imul, 1) := by decide +kernel
theorem dL_draw_21 : decode cL_draw 21 = .ok (.ldc 9, 2) := by decide +kernel
theorem dL_draw_23 : decode cL_draw 23 = .ok (.irem, 1) := by decide +kernel
theorem dL_draw_24 : decode cL_draw 24 = .ok (.ireturn, 1) := by decide +kernel
set_option maxRecDepth 20000 in
theorem ggL_joints_X6_joint : GoodIn wsL_joints wsX6_joint := goodIn_ca (goodIn_ca (goodIn_r _ [6, 7, 8, 9, 5, 10, 11, 12, 13, 14, 15, 16, 17, 18, 19, 20, 21, 22, 23, 24, 25, 26, 27, 28, 29, 30, 31, 32, 33, 34, 35, 36, 37, 38, 39, 40, 41] (by decide +kernel) (by decide +kernel)) (goodIn_sub (fun _ h => List.mem_cons_of_mem _ (List.mem_append_left _ (List.mem_append_right _ h))) (by decide +kernel))) (goodIn_sub (fun _ h => List.mem_cons_of_mem _ (List.mem_append_right _ h)) (by decide +kernel))
set_option maxRecDepth 20000 in
theorem gL_joints_X6_joint : GoodIn wsL_joints (wsV RL 10 RX6 yX6_joint wsX6_joint) := goodIn_app (goodIn_of _ (by decide +kernel)) ggL_joints_X6_joint
theorem dL_joints_0 : decode cL_joints 0 = .ok (.aload_n 0, 1) := by decide +kernel
theorem dL_joints_1 : decode cL_joints 1 = .ok (.iload_n 1, 1) := by decide +kernel
theorem dL_joints_2 : decode cL_joints 2 = .ok (.iload_n 2, 1) := by decide +kernel
theorem dL_joints_3 : decode cL_joints 3 = .ok (.invokevirtual 10, 3) := by decide +kernel
theorem dL_joints_6 : decode cL_joints 6 = .ok (.ireturn, 1) := by decide +kernel
theorem dL_joints_7 : decode cL_joints 7 = .ok (.astore_n 3, 1) := by decide +kernel
theorem dL_joints_8 : decode cL_joints 8 = .ok (.bipush (-2), 2) := by decide +kernel
theorem dL_joints_10 : decode cL_joints 10 = .ok (.ireturn, 1) := by decide +kernel
set_option maxRecDepth 20000 in
theorem ggL_sets_X6_member : GoodIn wsL_sets wsX6_member := goodIn_ca (goodIn_ca (goodIn_ca (goodIn_r _ [8, 9, 10, 11, 12, 13, 14, 15, 16, 7, 17, 18, 19, 20, 21, 22, 23, 24, 25, 26, 27, 28, 29, 30, 31, 32, 33, 34, 35, 36, 37, 38, 39, 40, 41, 42, 43, 44, 45, 46, 47, 48, 49, 50, 51, 52, 53, 54, 55, 56, 100, 101, 102, 103, 104, 105, 106, 107, 108, 109, 110, 111, 112, 113, 114, 115, 116, 117] (by decide +kernel) (by decide +kernel)) (goodIn_sub (fun _ h => List.mem_cons_of_mem _ (List.mem_append_left _ (List.mem_append_left _ (List.mem_append_right _ h)))) (by decide +kernel))) (goodIn_sub (fun _ h => List.mem_cons_of_mem _ (List.mem_append_left _ (List.mem_append_right _ h))) (by decide +kernel))) (goodIn_sub (fun _ h => List.mem_cons_of_mem _ (List.mem_append_right _ h)) (by decide +kernel))
set_option maxRecDepth 20000 in
theorem gL_sets_X6_member : GoodIn wsL_sets (wsV RL 18 RX6 yX6_member wsX6_member) := goodIn_app (goodIn_of _ (by decide +kernel)) ggL_sets_X6_member
set_option maxRecDepth 20000 in
theorem ggL_sets_X6_grow : GoodIn wsL_sets wsX6_grow := goodIn_ca (goodIn_ca (goodIn_ca (goodIn_r _ [60, 20, 13, 61, 14, 15, 16, 7, 17, 18, 19, 21, 22, 23, 24, 25, 26, 27, 28, 29, 9, 10, 62, 63, 64, 65, 66, 67, 68, 11, 12, 69, 47, 48, 49, 50, 51, 70, 71, 72, 73, 74, 75, 76, 77, 52, 53, 54, 33, 55, 35, 45, 46, 56, 78, 79, 80, 81, 82, 83, 84, 85, 86, 100, 101, 102, 103, 104, 105, 106, 107, 108, 109, 110, 111, 112, 113, 114, 115, 116, 117, 118, 119, 120, 121] (by decide +kernel) (by decide +kernel)) (goodIn_sub (fun _ h => List.mem_cons_of_mem _ (List.mem_append_right _ h)) (by decide +kernel))) (goodIn_sub (fun _ h => List.mem_cons_of_mem _ (List.mem_append_left _ (List.mem_append_left _ (List.mem_append_right _ h)))) (by decide +kernel))) (goodIn_sub (fun _ h => List.mem_cons_of_mem _ (List.mem_append_left _ (List.mem_append_right _ h))) (by decide +kernel))
set_option maxRecDepth 20000 in
theorem gL_sets_X6_grow : GoodIn wsL_sets (wsV RL 22 RX6 yX6_grow wsX6_grow) := goodIn_app (goodIn_of _ (by decide +kernel)) ggL_sets_X6_grow
set_option maxRecDepth 20000 in
theorem ggL_sets_X6_split : GoodIn wsL_sets wsX6_split := goodIn_ca (goodIn_ca (goodIn_ca (goodIn_r _ [90, 9, 10, 13, 20, 91, 92, 93, 61, 94, 95, 96, 7, 97, 18, 19, 98, 37, 38, 33, 39, 35, 40, 14, 15, 16, 17, 21, 22, 23, 24, 25, 26, 99, 42, 43, 44, 45, 46, 62, 63, 64, 65, 66, 67, 68, 11, 12, 69, 47, 48, 49, 50, 51, 70, 71, 72, 73, 74, 75, 76, 77, 52, 53, 54, 55, 56, 78, 79, 80, 81, 82, 83, 84, 85, 86, 100, 101, 102, 103, 104, 105, 106, 112, 113, 114, 115, 116, 117, 107, 108, 109, 110, 111, 118, 119, 120, 121] (by decide +kernel) (by decide +kernel)) (goodIn_sub (fun _ h => List.mem_cons_of_mem _ (List.mem_append_left _ (List.mem_append_left _ (List.mem_append_right _ h)))) (by decide +kernel))) (goodIn_sub (fun _ h => List.mem_cons_of_mem _ (List.mem_append_right _ h)) (by decide +kernel))) (goodIn_sub (fun _ h => List.mem_cons_of_mem _ (List.mem_append_left _ (List.mem_append_right _ h))) (by decide +kernel))
set_option maxRecDepth 20000 in
theorem gL_sets_X6_split : GoodIn wsL_sets (wsV RL 26 RX6 yX6_split wsX6_split) := goodIn_app (goodIn_of _ (by decide +kernel)) ggL_sets_X6_split
theorem dL_sets_0 : decode cL_sets 0 = .ok (.iload 5, 2) := by decide +kernel
theorem dL_sets_2 : decode cL_sets 2 = .ok (.ifCond .ne 13, 3) := by decide +kernel
theorem dL_sets_5 : decode cL_sets 5 = .ok (.aload_n 0, 1) := by decide +kernel
theorem dL_sets_6 : decode cL_sets 6 = .ok (.iload_n 1, 1) := by decide +kernel
theorem dL_sets_7 : decode cL_sets 7 = .ok (.iload_n 2, 1) := by decide +kernel
theorem dL_sets_8 : decode cL_sets 8 = .ok (.iload_n 3, 1) := by decide +kernel
theorem dL_sets_9 : decode cL_sets 9 = .ok (.invokevirtual 18, 3) := by decide +kernel
theorem dL_sets_12 : decode cL_sets 12 = .ok (.goto 30, 3) := by decide +kernel
theorem dL_sets_15 : decode cL_sets 15 = .ok (.iload 5, 2) := by decide +kernel
theorem dL_sets_17 : decode cL_sets 17 = .ok (.iconst 1, 1) := by decide +kernel
theorem dL_sets_18 : decode cL_sets 18 = .ok (.if_icmp .ne 15, 3) := by decide +kernel
theorem dL_sets_21 : decode cL_sets 21 = .ok (.aload_n 0, 1) := by decide +kernel
theorem dL_sets_22 : decode cL_sets 22 = .ok (.iload_n 1, 1) := by decide +kernel
theorem dL_sets_23 : decode cL_sets 23 = .ok (.iload_n 2, 1) := by decide +kernel
theorem dL_sets_24 : decode cL_sets 24 = .ok (.iload_n 3, 1) := by decide +kernel
theorem dL_sets_25 : decode cL_sets 25 = .ok (.iload 4, 2) := by decide +kernel
theorem dL_sets_27 : decode cL_sets 27 = .ok (.invokevirtual 22, 3) := by decide +kernel
theorem dL_sets_30 : decode cL_sets 30 = .ok (.goto 12, 3) := by decide +kernel
theorem dL_sets_33 : decode cL_sets 33 = .ok (.aload_n 0, 1) := by decide +kernel
theorem dL_sets_34 : decode cL_sets 34 = .ok (.iload_n 1, 1) := by decide +kernel
theorem dL_sets_35 : decode cL_sets 35 = .ok (.iload_n 2, 1) := by decide +kernel
theorem dL_sets_36 : decode cL_sets 36 = .ok (.iload_n 3, 1) := by decide +kernel
theorem dL_sets_37 : decode cL_sets 37 = .ok (.iload 4, 2) := by decide +kernel
theorem dL_sets_39 : decode cL_sets 39 = .ok (.invokevirtual 26, 3) := by decide +kernel
theorem dL_sets_42 : decode cL_sets 42 = .ok (.ireturn, 1) := by decide +kernel
theorem dL_sets_43 : decode cL_sets 43 = .ok (.astore 6, 2) := by decide +kernel
theorem dL_sets_45 : decode cL_sets 45 = .ok (.bipush (-2), 2) := by decide +kernel
theorem dL_sets_47 : decode cL_sets 47 = .ok (.ireturn, 1) := by decide +kernel
theorem dL_sets_48 : decode cL_sets 48 = .ok (.astore 6, 2) := by decide +kernel
theorem dL_sets_50 : decode cL_sets 50 = .ok (.bipush (-3), 2) := by decide +kernel
theorem dL_sets_52 : decode cL_sets 52 = .ok (.ireturn, 1) := by decide +kernel
theorem dL_sets_53 : decode cL_sets 53 = .ok (.astore 6, 2) := by decide +kernel
theorem dL_sets_55 : decode cL_sets 55 = .ok (.bipush (-4), 2) := by decide +kernel
theorem dL_sets_57 : decode cL_sets 57 = .ok (.ireturn, 1) := by decide +kernel
set_option maxRecDepth 20000 in
theorem ggL_undoes_X6_undo : GoodIn wsL_undoes wsX6_undo := goodIn_ca (goodIn_r _ [6, 7, 8, 9, 10, 11, 12, 13, 14, 15, 16, 17, 18, 5, 19, 20, 21, 22, 23, 24, 25, 26, 27, 28, 29, 30, 31, 32, 33, 34, 35, 36, 37, 38, 39, 40, 41, 42, 43, 44, 45, 46, 47, 48, 49, 50, 51, 52, 53, 54, 55, 56, 57, 58, 59, 60, 61, 62, 63, 64, 65, 66, 67, 68, 69, 70, 71, 72, 73, 74, 75, 76, 77, 78, 79, 80, 81, 82, 83, 84, 85, 86, 87, 88, 89] (by decide +kernel) (by decide +kernel)) (goodIn_sub (fun _ h => List.mem_cons_of_mem _ (List.mem_append_right _ h)) (by decide +kernel))
set_option maxRecDepth 20000 in
theorem gL_undoes_X6_undo : GoodIn wsL_undoes (wsV RL 33 RX6 yX6_undo wsX6_undo) := goodIn_app (goodIn_of _ (by decide +kernel)) ggL_undoes_X6_undo
theorem dL_undoes_0 : decode cL_undoes 0 = .ok (.aload_n 0, 1) := by decide +kernel
theorem dL_undoes_1 : decode cL_undoes 1 = .ok (.invokevirtual 33, 3) := by decide +kernel
theorem dL_undoes_4 : decode cL_undoes 4 = .ok (.ireturn, 1) := by decide +kernel
theorem dL_undoes_5 : decode cL_undoes 5 = .ok (.astore_n 1, 1) := by decide +kernel
theorem dL_undoes_6 : decode cL_undoes 6 = .ok (.bipush (-2), 2) := by decide +kernel
theorem dL_undoes_8 : decode cL_undoes 8 = .ok (.ireturn, 1) := by decide +kernel
set_option maxRecDepth 20000 in
theorem ggL_asks_X6_remove : GoodIn wsL_asks wsX6_remove := goodIn_ca (goodIn_r _ [6, 7, 8, 9, 10, 11, 5, 12, 13, 14, 15, 16, 17, 18, 19, 20, 21, 22, 23, 24, 25, 26, 27, 28, 29, 30, 154, 155, 156, 157, 158, 159, 160, 161, 162, 163, 164, 165, 166] (by decide +kernel) (by decide +kernel)) (goodIn_sub (fun _ h => List.mem_cons_of_mem _ (List.mem_append_left _ (List.mem_append_right _ h))) (by decide +kernel))
set_option maxRecDepth 20000 in
theorem gL_asks_X6_remove : GoodIn wsL_asks (wsV RL 37 RX6 yX6_remove wsX6_remove) := goodIn_app (goodIn_of _ (by decide +kernel)) ggL_asks_X6_remove
set_option maxRecDepth 20000 in
theorem ggL_asks_X6_stress : GoodIn wsL_asks wsX6_stress := goodIn_ca (goodIn_ca (goodIn_r _ [34, 35, 36, 7, 37, 9, 10, 11, 5, 12, 13, 14, 15, 16, 17, 18, 19, 20, 21, 154, 155, 156, 157, 158, 159, 160, 161, 162, 163, 164, 165, 166] (by decide +kernel) (by decide +kernel)) (goodIn_sub (fun _ h => List.mem_cons_of_mem _ (List.mem_append_right _ h)) (by decide +kernel))) (goodIn_sub (fun _ h => List.mem_cons_of_mem _ (List.mem_append_left _ (List.mem_append_right _ h))) (by decide +kernel))
set_option maxRecDepth 20000 in
theorem gL_asks_X6_stress : GoodIn wsL_asks (wsV RL 41 RX6 yX6_stress wsX6_stress) := goodIn_app (goodIn_of _ (by decide +kernel)) ggL_asks_X6_stress
set_option maxRecDepth 20000 in
theorem ggL_asks_X6_balance : GoodIn wsL_asks wsX6_balance := goodIn_ca (goodIn_r _ [41, 42, 43, 44, 7, 9, 10, 11, 5, 12, 13, 14, 15, 16, 17, 18, 19, 20, 21, 45, 46, 47, 48, 49, 50, 51, 52, 53, 54, 55, 56, 57, 58, 59, 60, 61, 62, 63, 64, 65, 66, 67, 68, 22, 23, 24, 25, 26, 27, 28, 29, 30, 69, 70, 71, 72, 73, 74, 75, 76, 77, 78, 79, 80, 81, 82, 83, 84, 85, 86, 87, 88, 89, 90, 91, 92, 93, 94, 95, 96, 97, 98, 99, 100, 101, 102, 103, 104, 105, 106, 107, 108, 109, 110, 111, 112, 113, 114, 115, 116, 117, 118, 119, 120, 121, 122, 123, 124, 125, 126, 127, 128, 129, 130, 131, 132, 133, 134, 135, 136, 137, 138, 139, 140, 141, 142, 143, 144, 145, 154, 155, 156, 157, 158, 159, 160, 161, 162, 163, 164, 165, 166, 167, 168, 169, 170, 171, 172, 173, 174, 175, 176, 177, 178, 179] (by decide +kernel) (by decide +kernel)) (goodIn_sub (fun _ h => List.mem_cons_of_mem _ (List.mem_append_left _ (List.mem_append_right _ h))) (by decide +kernel))
set_option maxRecDepth 20000 in
theorem gL_asks_X6_balance : GoodIn wsL_asks (wsV RL 44 RX6 yX6_balance wsX6_balance) := goodIn_app (goodIn_of _ (by decide +kernel)) ggL_asks_X6_balance
set_option maxRecDepth 20000 in
theorem ggL_asks_X6_isRedundant : GoodIn wsL_asks wsX6_isRedundant := goodIn_ca (goodIn_r _ [149, 42, 43, 9, 10, 11, 5, 12, 13, 14, 7, 15, 16, 17, 18, 19, 20, 21, 48, 49, 50, 51, 52, 53, 54, 55, 56, 57, 58, 59, 60, 150, 151, 152, 153, 44, 61, 62, 63, 64, 65, 66, 67, 68, 22, 23, 24, 25, 26, 27, 28, 29, 30, 69, 70, 71, 72, 73, 74, 75, 76, 77, 78, 79, 80, 81, 82, 83, 84, 85, 86, 87, 88, 89, 90, 91, 92, 93, 94, 95, 96, 97, 98, 99, 100, 101, 102, 103, 108, 109, 110, 111, 112, 113, 114, 115, 116, 117, 118, 119, 120, 121, 122, 123, 124, 125, 126, 127, 128, 129, 130, 131, 132, 133, 134, 135, 136, 154, 155, 156, 157, 158, 159, 160, 161, 162, 163, 164, 165, 166, 167, 168, 169, 170, 171, 172, 173, 174, 175, 176, 177, 178, 179] (by decide +kernel) (by decide +kernel)) (goodIn_sub (fun _ h => List.mem_cons_of_mem _ (List.mem_append_left _ (List.mem_append_right _ h))) (by decide +kernel))
set_option maxRecDepth 20000 in
theorem gL_asks_X6_isRedundant : GoodIn wsL_asks (wsV RL 47 RX6 yX6_isRedundant wsX6_isRedundant) := goodIn_app (goodIn_of _ (by decide +kernel)) ggL_asks_X6_isRedundant
theorem dL_asks_0 : decode cL_asks 0 = .ok (.iload_n 3, 1) := by decide +kernel
theorem dL_asks_1 : decode cL_asks 1 = .ok (.ifCond .ne 11, 3) := by decide +kernel
theorem dL_asks_4 : decode cL_asks 4 = .ok (.aload_n 0, 1) := by decide +kernel
theorem dL_asks_5 : decode cL_asks 5 = .ok (.iload_n 1, 1) := by decide +kernel
theorem dL_asks_6 : decode cL_asks 6 = .ok (.invokevirtual 37, 3) := by decide +kernel
theorem dL_asks_9 : decode cL_asks 9 = .ok (.goto 44, 3) := by decide +kernel
theorem dL_asks_12 : decode cL_asks 12 = .ok (.iload_n 3, 1) := by decide +kernel
theorem dL_asks_13 : decode cL_asks 13 = .ok (.iconst 1, 1) := by decide +kernel
theorem dL_asks_14 : decode cL_asks 14 = .ok (.if_icmp .ne 12, 3) := by decide +kernel
theorem dL_asks_17 : decode cL_asks 17 = .ok (.aload_n 0, 1) := by decide +kernel
theorem dL_asks_18 : decode cL_asks 18 = .ok (.iload_n 1, 1) := by decide +kernel
theorem dL_asks_19 : decode cL_asks 19 = .ok (.iload_n 2, 1) := by decide +kernel
theorem dL_asks_20 : decode cL_asks 20 = .ok (.invokevirtual 41, 3) := by decide +kernel
theorem dL_asks_23 : decode cL_asks 23 = .ok (.goto 30, 3) := by decide +kernel
theorem dL_asks_26 : decode cL_asks 26 = .ok (.iload_n 3, 1) := by decide +kernel
theorem dL_asks_27 : decode cL_asks 27 = .ok (.iconst 2, 1) := by decide +kernel
theorem dL_asks_28 : decode cL_asks 28 = .ok (.if_icmp .ne 12, 3) := by decide +kernel
theorem dL_asks_31 : decode cL_asks 31 = .ok (.aload_n 0, 1) := by decide +kernel
theorem dL_asks_32 : decode cL_asks 32 = .ok (.iload_n 2, 1) := by decide +kernel
theorem dL_asks_33 : decode cL_asks 33 = .ok (.iload_n 1, 1) := by decide +kernel
theorem dL_asks_34 : decode cL_asks 34 = .ok (.invokevirtual 44, 3) := by decide +kernel
theorem dL_asks_37 : decode cL_asks 37 = .ok (.goto 16, 3) := by decide +kernel
theorem dL_asks_40 : decode cL_asks 40 = .ok (.aload_n 0, 1) := by decide +kernel
theorem dL_asks_41 : decode cL_asks 41 = .ok (.iload_n 1, 1) := by decide +kernel
theorem dL_asks_42 : decode cL_asks 42 = .ok (.invokevirtual 47, 3) := by decide +kernel
theorem dL_asks_45 : decode cL_asks 45 = .ok (.ifCond .eq 7, 3) := by decide +kernel
theorem dL_asks_48 : decode cL_asks 48 = .ok (.iconst 1, 1) := by decide +kernel
theorem dL_asks_49 : decode cL_asks 49 = .ok (.goto 4, 3) := by decide +kernel
theorem dL_asks_52 : decode cL_asks 52 = .ok (.iconst 0, 1) := by decide +kernel
theorem dL_asks_53 : decode cL_asks 53 = .ok (.ireturn, 1) := by decide +kernel
theorem dL_asks_54 : decode cL_asks 54 = .ok (.astore 4, 2) := by decide +kernel
theorem dL_asks_56 : decode cL_asks 56 = .ok (.sipush (-200), 3) := by decide +kernel
theorem dL_asks_59 : decode cL_asks 59 = .ok (.ireturn, 1) := by decide +kernel
set_option maxRecDepth 20000 in
theorem ggL_step_L_joints : GoodIn wsL_step wsL_joints := goodIn_ca (goodIn_ca (goodIn_r _ [5, 6, 7, 8, 9, 10, 11, 12, 13, 14, 15, 16, 17, 18, 19, 20, 21, 22, 23, 24, 25, 26, 27, 28, 29, 30, 31, 32, 33, 34, 447, 448, 449, 450, 451, 452, 453, 454, 455, 456, 457, 458] (by decide +kernel) (by decide +kernel)) (goodIn_sub (fun _ h => List.mem_cons_of_mem _ (List.mem_append_left _ (List.mem_append_left _ (List.mem_append_right _ h)))) (by decide +kernel))) (goodIn_sub (fun _ h => List.mem_cons_of_mem _ (List.mem_append_left _ (List.mem_append_right _ h))) (by decide +kernel))
set_option maxRecDepth 20000 in
theorem gL_step_L_joints : GoodIn wsL_step (va_wsS RL 51 yL_joints wsL_joints) := goodIn_app (goodIn_of _ (by decide +kernel)) ggL_step_L_joints
set_option maxRecDepth 20000 in
theorem ggL_step_X6_ofJoint : GoodIn wsL_step wsX6_ofJoint := goodIn_ca (goodIn_ca (goodIn_r _ [38, 16, 17, 12, 39, 40, 41, 42, 43, 44, 10, 45, 46, 47, 48, 49, 50, 28, 51, 30, 52, 53, 54, 55, 56, 57, 58, 59, 60, 61, 62, 63, 64, 65, 66, 67, 68, 447, 448, 449, 450, 451, 452, 453, 454, 455, 456, 457, 458, 459, 460, 461, 462, 463, 464] (by decide +kernel) (by decide +kernel)) (goodIn_sub (fun _ h => List.mem_cons_of_mem _ (List.mem_append_left _ (List.mem_append_left _ (List.mem_append_right _ h)))) (by decide +kernel))) (goodIn_sub (fun _ h => List.mem_cons_of_mem _ (List.mem_append_right _ h)) (by decide +kernel))
set_option maxRecDepth 20000 in
theorem gL_step_X6_ofJoint : GoodIn wsL_step (wsV RL 57 RX6 yX6_ofJoint wsX6_ofJoint) := goodIn_app (goodIn_of _ (by decide +kernel)) ggL_step_X6_ofJoint
set_option maxRecDepth 20000 in
theorem ggL_step_X6_kept : GoodIn wsL_step wsX6_kept := goodIn_r _ [72, 73, 74, 75, 10, 76, 77, 78, 41, 79, 80, 81, 82, 83, 84, 85, 86, 87, 88, 59, 60, 55, 61, 57, 62, 89, 90, 91, 92, 93, 94, 95, 96, 97, 98, 99, 100, 101, 102, 103, 104, 105, 106, 107, 108, 109, 110, 111, 112, 113, 114, 115, 116, 117, 118, 119, 120, 121, 122, 123, 124, 125, 126, 127, 128, 129, 447, 448, 449, 450, 451, 452, 453, 459, 460, 461, 462, 463, 464, 465, 466, 467] (by decide +kernel) (by decide +kernel)
set_option maxRecDepth 20000 in
theorem gL_step_X6_kept : GoodIn wsL_step (wsV RL 60 RX6 yX6_kept wsX6_kept) := goodIn_app (goodIn_of _ (by decide +kernel)) ggL_step_X6_kept
set_option maxRecDepth 20000 in
theorem ggL_step_L_sets : GoodIn wsL_step wsL_sets := goodIn_ca (goodIn_ca (goodIn_ca (goodIn_r _ [132, 6, 133, 134, 135, 136, 137, 10, 138, 16, 17, 22, 23, 41, 42, 43, 44, 45, 46, 47, 12, 48, 49, 50, 28, 51, 30, 139, 140, 141, 142, 143, 144, 55, 145, 57, 58, 59, 60, 61, 62, 63, 64, 65, 66, 67, 68, 146, 147, 148, 149, 79, 150, 151, 152, 153, 154, 155, 156, 157, 158, 159, 13, 14, 15, 18, 19, 20, 21, 24, 25, 26, 27, 29, 31, 32, 33, 34, 160, 161, 162, 163, 164, 165, 166, 167, 168, 169, 170, 171, 172, 173, 80, 81, 174, 175, 176, 177, 88, 178, 447, 448, 449, 450, 451, 452, 453, 454, 455, 456, 457, 458, 459, 460, 461, 462, 463, 464, 468, 469, 470, 471] (by decide +kernel) (by decide +kernel)) (goodIn_sub (fun _ h => List.mem_cons_of_mem _ (List.mem_append_left _ (List.mem_append_left _ (List.mem_append_right _ h)))) (by decide +kernel))) (goodIn_sub (fun _ h => List.mem_cons_of_mem _ (List.mem_append_left _ (List.mem_append_right _ h))) (by decide +kernel))) (goodIn_sub (fun _ h => List.mem_cons_of_mem _ (List.mem_append_right _ h)) (by decide +kernel))
set_option maxRecDepth 20000 in
theorem gL_step_L_sets : GoodIn wsL_step (va_wsS RL 63 yL_sets wsL_sets) := goodIn_app (goodIn_of _ (by decide +kernel)) ggL_step_L_sets
set_option maxRecDepth 20000 in
theorem ggL_step_L_isSet : GoodIn wsL_step wsL_isSet := goodIn_ca (goodIn_ca (goodIn_r _ [181, 182, 183, 4, 184, 134, 185, 186, 187, 10, 188, 41, 173, 174, 175, 176, 177, 46, 47, 88, 59, 60, 55, 61, 57, 62, 189, 190, 191, 192, 193, 194, 195, 196, 58, 197, 198, 199, 200, 16, 17, 201, 202, 203, 204, 205, 206, 12, 207, 208, 209, 210, 211, 212, 213, 214, 215, 216, 217, 218, 219, 220, 221, 222, 223, 224, 225, 226, 227, 228, 79, 80, 81, 229, 230, 231, 232, 233, 234, 235, 236, 237, 238, 239, 240, 241, 242, 243, 244, 245, 246, 247, 248, 249, 250, 251, 252, 253, 254, 255, 256, 257, 258, 259, 260, 261, 262, 263, 264, 265, 266, 267, 268, 269, 270, 271, 272, 273, 274, 275, 276, 277, 278, 279, 280, 281, 282, 283, 284, 285, 286, 287, 288, 289, 290, 291, 292, 293, 294, 295, 296, 297, 298, 299, 300, 301, 302, 303, 304, 305, 306, 307, 308, 309, 310, 311, 312, 313, 447, 448, 449, 450, 451, 452, 453, 459, 460, 461, 462, 463, 464, 472, 473, 474, 475, 454, 455, 456, 457, 458, 476, 477, 478, 479] (by decide +kernel) (by decide +kernel)) (goodIn_sub (fun _ h => List.mem_cons_of_mem _ (List.mem_append_right _ h)) (by decide +kernel))) (goodIn_sub (fun _ h => List.mem_cons_of_mem _ (List.mem_append_left _ (List.mem_append_left _ (List.mem_append_right _ h)))) (by decide +kernel))
set_option maxRecDepth 20000 in
theorem gL_step_L_isSet : GoodIn wsL_step (va_wsS RL 67 yL_isSet wsL_isSet) := goodIn_app (goodIn_of _ (by decide +kernel)) ggL_step_L_isSet
set_option maxRecDepth 20000 in
theorem ggL_step_L_asks : GoodIn wsL_step wsL_asks := goodIn_ca (goodIn_ca (goodIn_r _ [184, 134, 185, 186, 187, 10, 188, 41, 173, 174, 175, 176, 177, 46, 47, 88, 59, 60, 55, 61, 57, 62, 189, 190, 191, 192, 193, 194, 195, 196, 58, 197, 198, 199, 200, 16, 17, 201, 202, 203, 204, 205, 206, 12, 207, 208, 209, 210, 211, 212, 213, 214, 215, 216, 217, 218, 219, 220, 221, 222, 223, 224, 225, 226, 227, 228, 79, 80, 81, 229, 230, 231, 232, 233, 234, 235, 236, 237, 238, 239, 240, 241, 242, 243, 244, 245, 246, 247, 248, 249, 250, 251, 252, 253, 254, 255, 256, 257, 258, 259, 260, 261, 262, 263, 264, 265, 266, 267, 268, 269, 270, 271, 272, 273, 274, 275, 276, 277, 278, 279, 280, 281, 282, 283, 284, 285, 286, 287, 288, 289, 290, 291, 292, 293, 294, 295, 296, 297, 298, 299, 300, 301, 302, 303, 304, 305, 306, 307, 308, 309, 310, 311, 312, 313, 447, 448, 449, 450, 451, 452, 453, 459, 460, 461, 462, 463, 464, 472, 473, 474, 475, 454, 455, 456, 457, 458, 476, 477, 478, 479] (by decide +kernel) (by decide +kernel)) (goodIn_sub (fun _ h => List.mem_cons_of_mem _ (List.mem_append_right _ h)) (by decide +kernel))) (goodIn_sub (fun _ h => List.mem_cons_of_mem _ (List.mem_append_left _ (List.mem_append_left _ (List.mem_append_right _ h)))) (by decide +kernel))
set_option maxRecDepth 20000 in
theorem gL_step_L_asks : GoodIn wsL_step (va_wsS RL 71 yL_asks wsL_asks) := goodIn_app (goodIn_of _ (by decide +kernel)) ggL_step_L_asks
set_option maxRecDepth 20000 in
theorem ggL_step_X6_pin : GoodIn wsL_step wsX6_pin := goodIn_ca (goodIn_r _ [317, 12, 318, 42, 43, 44, 10, 45, 46, 47, 48, 49, 50, 28, 51, 30, 447, 448, 449, 450, 451, 452, 453, 454, 455, 456, 457, 458] (by decide +kernel) (by decide +kernel)) (goodIn_sub (fun _ h => List.mem_cons_of_mem _ (List.mem_append_right _ h)) (by decide +kernel))
set_option maxRecDepth 20000 in
theorem gL_step_X6_pin : GoodIn wsL_step (wsV RL 75 RX6 yX6_pin wsX6_pin) := goodIn_app (goodIn_of _ (by decide +kernel)) ggL_step_X6_pin
set_option maxRecDepth 20000 in
theorem ggL_step_X6_rank : GoodIn wsL_step wsX6_rank := goodIn_r _ [322, 206, 12, 211, 212, 213, 214, 215, 216, 217, 218, 219, 220, 221, 222, 223, 310, 311, 312, 10, 313, 207, 224, 225, 226, 227, 41, 228, 79, 80, 81, 189, 190, 191, 55, 192, 57, 193, 194, 195, 196, 58, 59, 60, 61, 62, 88, 229, 230, 231, 232, 233, 234, 235, 236, 237, 238, 239, 240, 241, 242, 243, 244, 245, 246, 247, 248, 249, 250, 251, 252, 253, 254, 255, 256, 257, 258, 259, 260, 261, 262, 263, 268, 269, 270, 271, 272, 273, 274, 275, 276, 277, 278, 279, 280, 281, 282, 283, 284, 285, 286, 287, 288, 289, 290, 291, 292, 293, 294, 295, 296, 447, 448, 449, 450, 451, 452, 453, 472, 473, 474, 475, 454, 455, 456, 457, 458, 459, 460, 461, 462, 463, 464, 476, 477, 478, 479] (by decide +kernel) (by decide +kernel)
set_option maxRecDepth 20000 in
theorem gL_step_X6_rank : GoodIn wsL_step (wsV RL 79 RX6 yX6_rank wsX6_rank) := goodIn_app (goodIn_of _ (by decide +kernel)) ggL_step_X6_rank
set_option maxRecDepth 20000 in
theorem ggL_step_X6_move : GoodIn wsL_step wsX6_move := goodIn_ca (goodIn_ca (goodIn_r _ [326, 12, 39, 40, 42, 43, 44, 10, 45, 46, 47, 48, 49, 50, 28, 51, 30, 13, 14, 15, 16, 17, 447, 448, 449, 450, 451, 452, 453, 454, 455, 456, 457, 458] (by decide +kernel) (by decide +kernel)) (goodIn_sub (fun _ h => List.mem_cons_of_mem _ (List.mem_append_right _ h)) (by decide +kernel))) (goodIn_sub (fun _ h => List.mem_cons_of_mem _ (List.mem_append_left _ (List.mem_append_left _ (List.mem_append_right _ h)))) (by decide +kernel))
set_option maxRecDepth 20000 in
theorem gL_step_X6_move : GoodIn wsL_step (wsV RL 82 RX6 yX6_move wsX6_move) := goodIn_app (goodIn_of _ (by decide +kernel)) ggL_step_X6_move
set_option maxRecDepth 20000 in
theorem ggL_step_L_isGrown : GoodIn wsL_step wsL_isGrown := goodIn_ca (goodIn_ca (goodIn_ca (goodIn_r _ [329, 69, 70, 71, 10, 72, 73, 74, 75, 76, 77, 78, 41, 79, 80, 81, 82, 83, 84, 85, 86, 87, 88, 59, 60, 55, 61, 57, 62, 89, 90, 91, 92, 93, 94, 95, 96, 97, 98, 99, 100, 101, 102, 103, 104, 105, 106, 107, 108, 109, 110, 111, 112, 113, 114, 115, 116, 117, 118, 119, 120, 121, 122, 123, 124, 125, 126, 127, 128, 129, 130, 131, 4, 132, 6, 133, 134, 135, 136, 137, 138, 16, 17, 22, 23, 42, 43, 44, 45, 46, 47, 12, 48, 49, 50, 28, 51, 30, 139, 140, 141, 142, 143, 144, 145, 58, 63, 64, 65, 66, 67, 68, 146, 147, 148, 149, 150, 151, 152, 153, 154, 155, 156, 157, 158, 159, 13, 14, 15, 18, 19, 20, 21, 24, 25, 26, 27, 29, 31, 32, 33, 34, 160, 161, 162, 163, 164, 165, 166, 167, 168, 169, 170, 171, 172, 173, 174, 175, 176, 177, 178, 35, 36, 37, 38, 39, 40, 52, 53, 54, 56, 179, 180, 181, 182, 183, 184, 185, 186, 187, 188, 189, 190, 191, 192, 193, 194, 195, 196, 197, 198, 199, 200, 201, 202, 203, 204, 205, 206, 207, 208, 209, 210, 211, 212, 213, 214, 215, 216, 217, 218, 219, 220, 221, 222, 223, 224, 225, 226, 227, 228, 229, 230, 231, 232, 233, 234, 235, 236, 237, 238, 239, 240, 241, 242, 243, 244, 245, 246, 247, 248, 249, 250, 251, 252, 253, 254, 255, 256, 257, 258, 259, 260, 261, 262, 263, 264, 265, 266, 267, 268, 269, 270, 271, 272, 273, 274, 275, 276, 277, 278, 279, 280, 281, 282, 283, 284, 285, 286, 287, 288, 289, 290, 291, 292, 293, 294, 295, 296, 297, 298, 299, 300, 301, 302, 303, 304, 305, 306, 307, 308, 309, 310, 311, 312, 313, 447, 448, 449, 450, 451, 452, 453, 459, 460, 461, 462, 463, 464, 465, 466, 467, 454, 455, 456, 457, 458, 468, 469, 470, 471, 472, 473, 474, 475, 476, 477, 478, 479] (by decide +kernel) (by decide +kernel)) (goodIn_sub (fun _ h => List.mem_cons_of_mem _ (List.mem_append_left _ (List.mem_append_left _ (List.mem_append_right _ h)))) (by decide +kernel))) (goodIn_sub (fun _ h => List.mem_cons_of_mem _ (List.mem_append_left _ (List.mem_append_right _ h))) (by decide +kernel))) (goodIn_sub (fun _ h => List.mem_cons_of_mem _ (List.mem_append_right _ h)) (by decide +kernel))
set_option maxRecDepth 20000 in
theorem gL_step_L_isGrown : GoodIn wsL_step (va_wsS RL 86 yL_isGrown wsL_isGrown) := goodIn_app (goodIn_of _ (by decide +kernel)) ggL_step_L_isGrown
set_option maxRecDepth 20000 in
theorem ggL_step_L_isSplit : GoodIn wsL_step wsL_isSplit := goodIn_ca (goodIn_ca (goodIn_ca (goodIn_r _ [332, 130, 131, 4, 132, 6, 133, 134, 135, 136, 137, 10, 138, 16, 17, 22, 23, 41, 42, 43, 44, 45, 46, 47, 12, 48, 49, 50, 28, 51, 30, 139, 140, 141, 142, 143, 144, 55, 145, 57, 58, 59, 60, 61, 62, 63, 64, 65, 66, 67, 68, 146, 147, 148, 149, 79, 150, 151, 152, 153, 154, 155, 156, 157, 158, 159, 13, 14, 15, 18, 19, 20, 21, 24, 25, 26, 27, 29, 31, 32, 33, 34, 160, 161, 162, 163, 164, 165, 166, 167, 168, 169, 170, 171, 172, 173, 80, 81, 174, 175, 176, 177, 88, 178, 69, 70, 71, 72, 73, 74, 75, 76, 77, 78, 82, 83, 84, 85, 86, 87, 89, 90, 91, 92, 93, 94, 95, 96, 97, 98, 99, 100, 101, 102, 103, 104, 105, 106, 107, 108, 109, 110, 111, 112, 113, 114, 115, 116, 117, 118, 119, 120, 121, 122, 123, 124, 125, 126, 127, 128, 129, 35, 36, 37, 38, 39, 40, 52, 53, 54, 56, 182, 183, 184, 185, 186, 187, 188, 189, 190, 191, 192, 193, 194, 195, 196, 197, 198, 199, 200, 201, 202, 203, 204, 205, 206, 207, 208, 209, 210, 211, 212, 213, 214, 215, 216, 217, 218, 219, 220, 221, 222, 223, 224, 225, 226, 227, 228, 229, 230, 231, 232, 233, 234, 235, 236, 237, 238, 239, 240, 241, 242, 243, 244, 245, 246, 247, 248, 249, 250, 251, 252, 253, 254, 255, 256, 257, 258, 259, 260, 261, 262, 263, 264, 265, 266, 267, 268, 269, 270, 271, 272, 273, 274, 275, 276, 277, 278, 279, 280, 281, 282, 283, 284, 285, 286, 287, 288, 289, 290, 291, 292, 293, 294, 295, 296, 297, 298, 299, 300, 301, 302, 303, 304, 305, 306, 307, 308, 309, 310, 311, 312, 313, 179, 180, 181, 447, 448, 449, 450, 451, 452, 453, 454, 455, 456, 457, 458, 459, 460, 461, 462, 463, 464, 468, 469, 470, 471, 465, 466, 467, 472, 473, 474, 475, 476, 477, 478, 479] (by decide +kernel) (by decide +kernel)) (goodIn_sub (fun _ h => List.mem_cons_of_mem _ (List.mem_append_left _ (List.mem_append_left _ (List.mem_append_right _ h)))) (by decide +kernel))) (goodIn_sub (fun _ h => List.mem_cons_of_mem _ (List.mem_append_left _ (List.mem_append_right _ h))) (by decide +kernel))) (goodIn_sub (fun _ h => List.mem_cons_of_mem _ (List.mem_append_right _ h)) (by decide +kernel))
set_option maxRecDepth 20000 in
theorem gL_step_L_isSplit : GoodIn wsL_step (va_wsS RL 90 yL_isSplit wsL_isSplit) := goodIn_app (goodIn_of _ (by decide +kernel)) ggL_step_L_isSplit
set_option maxRecDepth 20000 in
theorem ggL_step_L_undoes : GoodIn wsL_step wsL_undoes := goodIn_ca (goodIn_r _ [335, 6, 336, 337, 338, 10, 339, 22, 23, 159, 340, 41, 173, 341, 12, 342, 343, 344, 345, 346, 347, 24, 318, 348, 349, 350, 163, 351, 168, 88, 59, 60, 55, 61, 57, 62, 52, 53, 54, 56, 58, 63, 64, 65, 66, 67, 68, 352, 353, 354, 28, 355, 30, 356, 357, 358, 359, 80, 81, 142, 143, 144, 145, 360, 361, 362, 363, 165, 447, 448, 449, 450, 451, 452, 453, 468, 469, 470, 471, 459, 460, 461, 462, 463, 464, 454, 455, 456, 457, 458] (by decide +kernel) (by decide +kernel)) (goodIn_sub (fun _ h => List.mem_cons_of_mem _ (List.mem_append_left _ (List.mem_append_right _ h))) (by decide +kernel))
set_option maxRecDepth 20000 in
theorem gL_step_L_undoes : GoodIn wsL_step (va_wsS RL 93 yL_undoes wsL_undoes) := goodIn_app (goodIn_of _ (by decide +kernel)) ggL_step_L_undoes
set_option maxRecDepth 20000 in
theorem ggL_step_X6_range : GoodIn wsL_step wsX6_range := goodIn_ca (goodIn_ca (goodIn_r _ [367, 16, 17, 12, 368, 42, 43, 44, 10, 45, 46, 47, 48, 49, 50, 28, 51, 30, 447, 448, 449, 450, 451, 452, 453, 454, 455, 456, 457, 458] (by decide +kernel) (by decide +kernel)) (goodIn_sub (fun _ h => List.mem_cons_of_mem _ (List.mem_append_left _ (List.mem_append_left _ (List.mem_append_right _ h)))) (by decide +kernel))) (goodIn_sub (fun _ h => List.mem_cons_of_mem _ (List.mem_append_right _ h)) (by decide +kernel))
set_option maxRecDepth 20000 in
theorem gL_step_X6_range : GoodIn wsL_step (wsV RL 97 RX6 yX6_range wsX6_range) := goodIn_app (goodIn_of _ (by decide +kernel)) ggL_step_X6_range
set_option maxRecDepth 20000 in
theorem ggL_step_L_arePlaces : GoodIn wsL_step wsL_arePlaces := goodIn_ca (goodIn_ca (goodIn_r _ [371, 372, 373, 374, 10, 375, 12, 376, 377, 378, 16, 17, 379, 380, 381, 28, 382, 30, 34, 31, 32, 383, 384, 385, 386, 208, 209, 210, 46, 47, 447, 448, 449, 450, 451, 452, 453, 454, 455, 456, 457, 458] (by decide +kernel) (by decide +kernel)) (goodIn_sub (fun _ h => List.mem_cons_of_mem _ (List.mem_append_left _ (List.mem_append_left _ (List.mem_append_right _ h)))) (by decide +kernel))) (goodIn_sub (fun _ h => List.mem_cons_of_mem _ (List.mem_append_right _ h)) (by decide +kernel))
set_option maxRecDepth 20000 in
theorem gL_step_L_arePlaces : GoodIn wsL_step (va_wsS RL 100 yL_arePlaces wsL_arePlaces) := goodIn_app (goodIn_of _ (by decide +kernel)) ggL_step_L_arePlaces
set_option maxRecDepth 20000 in
theorem ggL_step_X6_rankAt : GoodIn wsL_step wsX6_rankAt := goodIn_ca (goodIn_r _ [390, 16, 17, 391, 206, 12, 24, 392, 393, 394, 214, 395, 218, 220, 223, 216, 396, 397, 398, 399, 400, 401, 402, 403, 404, 310, 311, 312, 10, 313, 207, 224, 225, 226, 227, 41, 228, 79, 80, 81, 189, 190, 191, 55, 192, 57, 193, 194, 195, 196, 58, 59, 60, 61, 62, 88, 229, 230, 231, 232, 233, 234, 235, 236, 237, 238, 239, 240, 241, 242, 243, 244, 245, 246, 247, 248, 249, 250, 251, 252, 253, 254, 255, 256, 257, 258, 259, 260, 261, 262, 263, 268, 269, 270, 271, 272, 273, 274, 275, 276, 277, 278, 279, 280, 281, 282, 283, 284, 285, 286, 287, 288, 289, 290, 291, 292, 293, 294, 295, 296, 447, 448, 449, 450, 451, 452, 453, 454, 455, 456, 457, 458, 472, 473, 474, 475, 459, 460, 461, 462, 463, 464, 476, 477, 478, 479] (by decide +kernel) (by decide +kernel)) (goodIn_sub (fun _ h => List.mem_cons_of_mem _ (List.mem_append_left _ (List.mem_append_left _ (List.mem_append_right _ h)))) (by decide +kernel))
set_option maxRecDepth 20000 in
theorem gL_step_X6_rankAt : GoodIn wsL_step (wsV RL 105 RX6 yX6_rankAt wsX6_rankAt) := goodIn_app (goodIn_of _ (by decide +kernel)) ggL_step_X6_rankAt
set_option maxRecDepth 20000 in
theorem ggL_step_X6_matrix : GoodIn wsL_step wsX6_matrix := goodIn_r _ [408, 207, 12, 24, 41, 79, 80, 81, 201, 229, 230, 231, 232, 233, 234, 235, 236, 237, 238, 239, 240, 241, 242, 243, 88, 59, 60, 55, 61, 57, 62, 255, 256, 257, 258, 259, 260, 261, 262, 263, 268, 269, 270, 271, 272, 273, 274, 275, 276, 277, 278, 279, 280, 281, 282, 283, 284, 285, 286, 287, 288, 289, 290, 291, 292, 293, 294, 295, 296, 447, 448, 449, 450, 451, 452, 453, 454, 455, 456, 457, 458, 459, 460, 461, 462, 463, 464, 476, 477, 478, 479] (by decide +kernel) (by decide +kernel)
set_option maxRecDepth 20000 in
theorem gL_step_X6_matrix : GoodIn wsL_step (wsV RL 108 RX6 yX6_matrix wsX6_matrix) := goodIn_app (goodIn_of _ (by decide +kernel)) ggL_step_X6_matrix
set_option maxRecDepth 20000 in
theorem ggL_step_X6_isGlobal : GoodIn wsL_step wsX6_isGlobal := goodIn_r _ [412, 12, 24, 78, 413, 414, 415, 10, 416, 41, 189, 190, 191, 55, 192, 57, 193, 194, 195, 196, 58, 59, 60, 61, 62, 73, 74, 75, 76, 77, 79, 80, 81, 82, 83, 84, 85, 86, 87, 88, 89, 90, 91, 92, 93, 94, 95, 96, 97, 98, 99, 100, 101, 102, 103, 104, 105, 106, 107, 108, 109, 110, 111, 112, 113, 114, 115, 116, 117, 118, 119, 120, 121, 122, 123, 124, 125, 126, 127, 128, 129, 417, 418, 419, 420, 421, 422, 423, 424, 425, 426, 427, 28, 428, 30, 429, 430, 431, 432, 433, 434, 435, 436, 437, 67, 68, 438, 439, 440, 441, 442, 447, 448, 449, 450, 451, 452, 453, 454, 455, 456, 457, 458, 459, 460, 461, 462, 463, 464, 465, 466, 467] (by decide +kernel) (by decide +kernel)
set_option maxRecDepth 20000 in
theorem gL_step_X6_isGlobal : GoodIn wsL_step (wsV RL 111 RX6 yX6_isGlobal wsX6_isGlobal) := goodIn_app (goodIn_of _ (by decide +kernel)) ggL_step_X6_isGlobal
set_option maxRecDepth 20000 in
theorem ggL_step_X6_lacks : GoodIn wsL_step wsX6_lacks := goodIn_r _ [446, 12, 24, 417, 418, 419, 10, 420, 73, 74, 75, 76, 77, 78, 41, 79, 80, 81, 82, 83, 84, 85, 86, 87, 88, 59, 60, 55, 61, 57, 62, 89, 90, 91, 92, 93, 94, 95, 96, 97, 98, 99, 100, 101, 102, 103, 104, 105, 106, 107, 108, 109, 110, 111, 112, 113, 114, 115, 116, 117, 118, 119, 120, 121, 122, 123, 124, 125, 126, 127, 128, 129, 447, 448, 449, 450, 451, 452, 453, 454, 455, 456, 457, 458, 459, 460, 461, 462, 463, 464, 465, 466, 467] (by decide +kernel) (by decide +kernel)
set_option maxRecDepth 20000 in
theorem gL_step_X6_lacks : GoodIn wsL_step (wsV RL 115 RX6 yX6_lacks wsX6_lacks) := goodIn_app (goodIn_of _ (by decide +kernel)) ggL_step_X6_lacks
theorem dL_step_0 : decode cL_step 0 = .ok (.aload_n 1, 1) := by decide +kernel
theorem dL_step_1 : decode cL_step 1 = .ok (.iconst 0, 1) := by decide +kernel
theorem dL_step_2 : decode cL_step 2 = .ok (.iaload, 1) := by decide +kernel
theorem dL_step_3 : decode cL_step 3 = .ok (.ifCond .ne 7, 3) := by decide +kernel
theorem dL_step_6 : decode cL_step 6 = .ok (.iconst 0, 1) := by decide +kernel
theorem dL_step_7 : decode cL_step 7 = .ok (.goto 9, 3) := by decide +kernel
theorem dL_step_10 : decode cL_step 10 = .ok (.iload 4, 2) := by decide +kernel
theorem dL_step_12 : decode cL_step 12 = .ok (.aload_n 1, 1) := by decide +kernel
theorem dL_step_13 : decode cL_step 13 = .ok (.iconst 0, 1) := by decide +kernel
theorem dL_step_14 : decode cL_step 14 = .ok (.iaload, 1) := by decide +kernel
theorem dL_step_15 : decode cL_step 15 = .ok (.irem, 1) := by decide +kernel
theorem dL_step_16 : decode cL_step 16 = .ok (.istore 6, 2) := by decide +kernel
theorem dL_step_18 : decode cL_step 18 = .ok (.aload_n 1, 1) := by decide +kernel
theorem dL_step_19 : decode cL_step 19 = .ok (.iconst 0, 1) := by decide +kernel
theorem dL_step_20 : decode cL_step 20 = .ok (.iaload, 1) := by decide +kernel
theorem dL_step_21 : decode cL_step 21 = .ok (.ifCond .ne 7, 3) := by decide +kernel
theorem dL_step_24 : decode cL_step 24 = .ok (.iconst 0, 1) := by decide +kernel
theorem dL_step_25 : decode cL_step 25 = .ok (.goto 12, 3) := by decide +kernel
theorem dL_step_28 : decode cL_step 28 = .ok (.iload 4, 2) := by decide +kernel
theorem dL_step_30 : decode cL_step 30 = .ok (.bipush 16, 2) := by decide +kernel
theorem dL_step_32 : decode cL_step 32 = .ok (.idiv, 1) := by decide +kernel
theorem dL_step_33 : decode cL_step 33 = .ok (.aload_n 1, 1) := by decide +kernel
theorem dL_step_34 : decode cL_step 34 = .ok (.iconst 0, 1) := by decide +kernel
theorem dL_step_35 : decode cL_step 35 = .ok (.iaload, 1) := by decide +kernel
theorem dL_step_36 : decode cL_step 36 = .ok (.irem, 1) := by decide +kernel
theorem dL_step_37 : decode cL_step 37 = .ok (.istore 7, 2) := by decide +kernel
theorem dL_step_39 : decode cL_step 39 = .ok (.aload_n 1, 1) := by decide +kernel
theorem dL_step_40 : decode cL_step 40 = .ok (.iconst 1, 1) := by decide +kernel
theorem dL_step_41 : decode cL_step 41 = .ok (.iaload, 1) := by decide +kernel
theorem dL_step_42 : decode cL_step 42 = .ok (.ifCond .ne 7, 3) := by decide +kernel
theorem dL_step_45 : decode cL_step 45 = .ok (.iconst 0, 1) := by decide +kernel
theorem dL_step_46 : decode cL_step 46 = .ok (.goto 9, 3) := by decide +kernel
theorem dL_step_49 : decode cL_step 49 = .ok (.iload 5, 2) := by decide +kernel
theorem dL_step_51 : decode cL_step 51 = .ok (.aload_n 1, 1) := by decide +kernel
theorem dL_step_52 : decode cL_step 52 = .ok (.iconst 1, 1) := by decide +kernel
theorem dL_step_53 : decode cL_step 53 = .ok (.iaload, 1) := by decide +kernel
theorem dL_step_54 : decode cL_step 54 = .ok (.irem, 1) := by decide +kernel
theorem dL_step_55 : decode cL_step 55 = .ok (.istore 8, 2) := by decide +kernel
theorem dL_step_57 : decode cL_step 57 = .ok (.iload 5, 2) := by decide +kernel
theorem dL_step_59 : decode cL_step 59 = .ok (.bipush 101, 2) := by decide +kernel
theorem dL_step_61 : decode cL_step 61 = .ok (.irem, 1) := by decide +kernel
theorem dL_step_62 : decode cL_step 62 = .ok (.bipush 50, 2) := by decide +kernel
theorem dL_step_64 : decode cL_step 64 = .ok (.isub, 1) := by decide +kernel
theorem dL_step_65 : decode cL_step 65 = .ok (.istore 9, 2) := by decide +kernel
theorem dL_step_67 : decode cL_step 67 = .ok (.iload 5, 2) := by decide +kernel
theorem dL_step_69 : decode cL_step 69 = .ok (.bipush 101, 2) := by decide +kernel
theorem dL_step_71 : decode cL_step 71 = .ok (.idiv, 1) := by decide +kernel
theorem dL_step_72 : decode cL_step 72 = .ok (.bipush 101, 2) := by decide +kernel
theorem dL_step_74 : decode cL_step 74 = .ok (.irem, 1) := by decide +kernel
theorem dL_step_75 : decode cL_step 75 = .ok (.bipush 50, 2) := by decide +kernel
theorem dL_step_77 : decode cL_step 77 = .ok (.isub, 1) := by decide +kernel
theorem dL_step_78 : decode cL_step 78 = .ok (.istore 10, 2) := by decide +kernel
theorem dL_step_80 : decode cL_step 80 = .ok (.aload_n 1, 1) := by decide +kernel
theorem dL_step_81 : decode cL_step 81 = .ok (.iconst 0, 1) := by decide +kernel
theorem dL_step_82 : decode cL_step 82 = .ok (.iaload, 1) := by decide +kernel
theorem dL_step_83 : decode cL_step 83 = .ok (.iconst 3, 1) := by decide +kernel
theorem dL_step_84 : decode cL_step 84 = .ok (.if_icmp .ge 7, 3) := by decide +kernel
theorem dL_step_87 : decode cL_step 87 = .ok (.iconst 0, 1) := by decide +kernel
theorem dL_step_88 : decode cL_step 88 = .ok (.goto 7, 3) := by decide +kernel
theorem dL_step_91 : decode cL_step 91 = .ok (.iload_n 3, 1) := by decide +kernel
theorem dL_step_92 : decode cL_step 92 = .ok (.bipush 16, 2) := by decide +kernel
theorem dL_step_94 : decode cL_step 94 = .ok (.irem, 1) := by decide +kernel
theorem dL_step_95 : decode cL_step 95 = .ok (.tableswitch 756 0 14 #[73, 73, 174, 174, 174, 174, 261, 347, 418, 458, 489, 520, 583, 659, 745], 73) := by decide +kernel
theorem dL_step_168 : decode cL_step 168 = .ok (.aload_n 0, 1) := by decide +kernel
theorem dL_step_169 : decode cL_step 169 = .ok (.iload 9, 2) := by decide +kernel
theorem dL_step_171 : decode cL_step 171 = .ok (.iload 10, 2) := by decide +kernel
theorem dL_step_173 : decode cL_step 173 = .ok (.invokestatic 51, 3) := by decide +kernel
theorem dL_step_176 : decode cL_step 176 = .ok (.istore 11, 2) := by decide +kernel
theorem dL_step_178 : decode cL_step 178 = .ok (.aload_n 1, 1) := by decide +kernel
theorem dL_step_179 : decode cL_step 179 = .ok (.iconst 0, 1) := by decide +kernel
theorem dL_step_180 : decode cL_step 180 = .ok (.dup2, 1) := by decide +kernel
theorem dL_step_181 : decode cL_step 181 = .ok (.iaload, 1) := by decide +kernel
theorem dL_step_182 : decode cL_step 182 = .ok (.iload 11, 2) := by decide +kernel
theorem dL_step_184 : decode cL_step 184 = .ok (.bipush (-2), 2) := by decide +kernel
theorem dL_step_186 : decode cL_step 186 = .ok (.if_icmp .ne 7, 3) := by decide +kernel
theorem dL_step_189 : decode cL_step 189 = .ok (.iconst 0, 1) := by decide +kernel
theorem dL_step_190 : decode cL_step 190 = .ok (.goto 4, 3) := by decide +kernel
theorem dL_step_193 : decode cL_step 193 = .ok (.iconst 1, 1) := by decide +kernel
theorem dL_step_194 : decode cL_step 194 = .ok (.iadd, 1) := by decide +kernel
theorem dL_step_195 : decode cL_step 195 = .ok (.iastore, 1) := by decide +kernel
theorem dL_step_196 : decode cL_step 196 = .ok (.iload 11, 2) := by decide +kernel
theorem dL_step_198 : decode cL_step 198 = .ok (.bipush (-2), 2) := by decide +kernel
theorem dL_step_200 : decode cL_step 200 = .ok (.if_icmp .ne 19, 3) := by decide +kernel
theorem dL_step_203 : decode cL_step 203 = .ok (.aload_n 1, 1) := by decide +kernel
theorem dL_step_204 : decode cL_step 204 = .ok (.iconst 0, 1) := by decide +kernel
theorem dL_step_205 : decode cL_step 205 = .ok (.iaload, 1) := by decide +kernel
theorem dL_step_206 : decode cL_step 206 = .ok (.bipush 10, 2) := by decide +kernel
theorem dL_step_208 : decode cL_step 208 = .ok (.if_icmp .ne 7, 3) := by decide +kernel
theorem dL_step_211 : decode cL_step 211 = .ok (.iconst 1, 1) := by decide +kernel
theorem dL_step_212 : decode cL_step 212 = .ok (.goto 56, 3) := by decide +kernel
theorem dL_step_215 : decode cL_step 215 = .ok (.iconst 0, 1) := by decide +kernel
theorem dL_step_216 : decode cL_step 216 = .ok (.goto 52, 3) := by decide +kernel
theorem dL_step_219 : decode cL_step 219 = .ok (.iload 11, 2) := by decide +kernel
theorem dL_step_221 : decode cL_step 221 = .ok (.aload_n 1, 1) := by decide +kernel
theorem dL_step_222 : decode cL_step 222 = .ok (.iconst 0, 1) := by decide +kernel
theorem dL_step_223 : decode cL_step 223 = .ok (.iaload, 1) := by decide +kernel
theorem dL_step_224 : decode cL_step 224 = .ok (.iconst 1, 1) := by decide +kernel
theorem dL_step_225 : decode cL_step 225 = .ok (.isub, 1) := by decide +kernel
theorem dL_step_226 : decode cL_step 226 = .ok (.if_icmp .ne 41, 3) := by decide +kernel
theorem dL_step_229 : decode cL_step 229 = .ok (.aload_n 0, 1) := by decide +kernel
theorem dL_step_230 : decode cL_step 230 = .ok (.iload 11, 2) := by decide +kernel
theorem dL_step_232 : decode cL_step 232 = .ok (.iconst 0, 1) := by decide +kernel
theorem dL_step_233 : decode cL_step 233 = .ok (.invokevirtual 57, 3) := by decide +kernel
theorem dL_step_236 : decode cL_step 236 = .ok (.iload 9, 2) := by decide +kernel
theorem dL_step_238 : decode cL_step 238 = .ok (.if_icmp .ne 29, 3) := by decide +kernel
theorem dL_step_241 : decode cL_step 241 = .ok (.aload_n 0, 1) := by decide +kernel
theorem dL_step_242 : decode cL_step 242 = .ok (.iload 11, 2) := by decide +kernel
theorem dL_step_244 : decode cL_step 244 = .ok (.iconst 1, 1) := by decide +kernel
theorem dL_step_245 : decode cL_step 245 = .ok (.invokevirtual 57, 3) := by decide +kernel
theorem dL_step_248 : decode cL_step 248 = .ok (.iload 10, 2) := by decide +kernel
theorem dL_step_250 : decode cL_step 250 = .ok (.if_icmp .ne 17, 3) := by decide +kernel
theorem dL_step_253 : decode cL_step 253 = .ok (.aload_n 0, 1) := by decide +kernel
theorem dL_step_254 : decode cL_step 254 = .ok (.iload 11, 2) := by decide +kernel
theorem dL_step_256 : decode cL_step 256 = .ok (.iconst 2, 1) := by decide +kernel
theorem dL_step_257 : decode cL_step 257 = .ok (.invokevirtual 57, 3) := by decide +kernel
theorem dL_step_260 : decode cL_step 260 = .ok (.ifCond .ne 7, 3) := by decide +kernel
theorem dL_step_263 : decode cL_step 263 = .ok (.iconst 1, 1) := by decide +kernel
theorem dL_step_264 : decode cL_step 264 = .ok (.goto 4, 3) := by decide +kernel
theorem dL_step_267 : decode cL_step 267 = .ok (.iconst 0, 1) := by decide +kernel
theorem dL_step_268 : decode cL_step 268 = .ok (.ireturn, 1) := by decide +kernel
theorem dL_step_269 : decode cL_step 269 = .ok (.aload_n 1, 1) := by decide +kernel
theorem dL_step_270 : decode cL_step 270 = .ok (.iconst 1, 1) := by decide +kernel
theorem dL_step_271 : decode cL_step 271 = .ok (.iaload, 1) := by decide +kernel
theorem dL_step_272 : decode cL_step 272 = .ok (.bipush 32, 2) := by decide +kernel
theorem dL_step_274 : decode cL_step 274 = .ok (.if_icmp .ne 23, 3) := by decide +kernel
theorem dL_step_277 : decode cL_step 277 = .ok (.aload_n 0, 1) := by decide +kernel
theorem dL_step_278 : decode cL_step 278 = .ok (.invokevirtual 60, 3) := by decide +kernel
theorem dL_step_281 : decode cL_step 281 = .ok (.iconst 2, 1) := by decide +kernel
theorem dL_step_282 : decode cL_step 282 = .ok (.aload_n 1, 1) := by decide +kernel
theorem dL_step_283 : decode cL_step 283 = .ok (.iconst 0, 1) := by decide +kernel
theorem dL_step_284 : decode cL_step 284 = .ok (.iaload, 1) := by decide +kernel
theorem dL_step_285 : decode cL_step 285 = .ok (.imul, 1) := by decide +kernel
theorem dL_step_286 : decode cL_step 286 = .ok (.iconst 3, 1) := by decide +kernel
theorem dL_step_287 : decode cL_step 287 = .ok (.isub, 1) := by decide +kernel
theorem dL_step_288 : decode cL_step 288 = .ok (.if_icmp .gt 7, 3) := by decide +kernel
theorem dL_step_291 : decode cL_step 291 = .ok (.iconst 1, 1) := by decide +kernel
theorem dL_step_292 : decode cL_step 292 = .ok (.goto 4, 3) := by decide +kernel
theorem dL_step_295 : decode cL_step 295 = .ok (.iconst 0, 1) := by decide +kernel
theorem dL_step_296 : decode cL_step 296 = .ok (.ireturn, 1) := by decide +kernel
theorem dL_step_297 : decode cL_step 297 = .ok (.aload_n 0, 1) := by decide +kernel
theorem dL_step_298 : decode cL_step 298 = .ok (.iload 6, 2) := by decide +kernel
theorem dL_step_300 : decode cL_step 300 = .ok (.iload 7, 2) := by decide +kernel
theorem dL_step_302 : decode cL_step 302 = .ok (.iload 5, 2) := by decide +kernel
theorem dL_step_304 : decode cL_step 304 = .ok (.iconst 3, 1) := by decide +kernel
theorem dL_step_305 : decode cL_step 305 = .ok (.irem, 1) := by decide +kernel
theorem dL_step_306 : decode cL_step 306 = .ok (.iconst 0, 1) := by decide +kernel
theorem dL_step_307 : decode cL_step 307 = .ok (.iconst 0, 1) := by decide +kernel
theorem dL_step_308 : decode cL_step 308 = .ok (.invokestatic 63, 3) := by decide +kernel
theorem dL_step_311 : decode cL_step 311 = .ok (.istore 12, 2) := by decide +kernel
theorem dL_step_313 : decode cL_step 313 = .ok (.iload 12, 2) := by decide +kernel
theorem dL_step_315 : decode cL_step 315 = .ok (.ifCond .ge 28, 3) := by decide +kernel
theorem dL_step_318 : decode cL_step 318 = .ok (.iload 6, 2) := by decide +kernel
theorem dL_step_320 : decode cL_step 320 = .ok (.iload 7, 2) := by decide +kernel
theorem dL_step_322 : decode cL_step 322 = .ok (.if_icmp .eq 13, 3) := by decide +kernel
theorem dL_step_325 : decode cL_step 325 = .ok (.aload_n 0, 1) := by decide +kernel
theorem dL_step_326 : decode cL_step 326 = .ok (.iload 6, 2) := by decide +kernel
theorem dL_step_328 : decode cL_step 328 = .ok (.iconst 2, 1) := by decide +kernel
theorem dL_step_329 : decode cL_step 329 = .ok (.invokevirtual 57, 3) := by decide +kernel
theorem dL_step_332 : decode cL_step 332 = .ok (.ifCond .le 7, 3) := by decide +kernel
theorem dL_step_335 : decode cL_step 335 = .ok (.iconst 1, 1) := by decide +kernel
theorem dL_step_336 : decode cL_step 336 = .ok (.goto 19, 3) := by decide +kernel
theorem dL_step_339 : decode cL_step 339 = .ok (.iconst 0, 1) := by decide +kernel
theorem dL_step_340 : decode cL_step 340 = .ok (.goto 15, 3) := by decide +kernel
theorem dL_step_343 : decode cL_step 343 = .ok (.aload_n 0, 1) := by decide +kernel
theorem dL_step_344 : decode cL_step 344 = .ok (.aload_n 1, 1) := by decide +kernel
theorem dL_step_345 : decode cL_step 345 = .ok (.aload_n 2, 1) := by decide +kernel
theorem dL_step_346 : decode cL_step 346 = .ok (.iload 12, 2) := by decide +kernel
theorem dL_step_348 : decode cL_step 348 = .ok (.iload 6, 2) := by decide +kernel
theorem dL_step_350 : decode cL_step 350 = .ok (.iload 7, 2) := by decide +kernel
theorem dL_step_352 : decode cL_step 352 = .ok (.invokestatic 67, 3) := by decide +kernel
theorem dL_step_355 : decode cL_step 355 = .ok (.ireturn, 1) := by decide +kernel
theorem dL_step_356 : decode cL_step 356 = .ok (.aload_n 0, 1) := by decide +kernel
theorem dL_step_357 : decode cL_step 357 = .ok (.invokevirtual 60, 3) := by decide +kernel
theorem dL_step_360 : decode cL_step 360 = .ok (.istore 13, 2) := by decide +kernel
theorem dL_step_362 : decode cL_step 362 = .ok (.aload_n 0, 1) := by decide +kernel
theorem dL_step_363 : decode cL_step 363 = .ok (.iload 8, 2) := by decide +kernel
theorem dL_step_365 : decode cL_step 365 = .ok (.iconst 0, 1) := by decide +kernel
theorem dL_step_366 : decode cL_step 366 = .ok (.iconst 0, 1) := by decide +kernel
theorem dL_step_367 : decode cL_step 367 = .ok (.invokestatic 71, 3) := by decide +kernel
theorem dL_step_370 : decode cL_step 370 = .ok (.istore 14, 2) := by decide +kernel
theorem dL_step_372 : decode cL_step 372 = .ok (.iload 14, 2) := by decide +kernel
theorem dL_step_374 : decode cL_step 374 = .ok (.sipush (-200), 3) := by decide +kernel
theorem dL_step_377 : decode cL_step 377 = .ok (.if_icmp .ne 20, 3) := by decide +kernel
theorem dL_step_380 : decode cL_step 380 = .ok (.aload_n 0, 1) := by decide +kernel
theorem dL_step_381 : decode cL_step 381 = .ok (.invokevirtual 60, 3) := by decide +kernel
theorem dL_step_384 : decode cL_step 384 = .ok (.iload 13, 2) := by decide +kernel
theorem dL_step_386 : decode cL_step 386 = .ok (.if_icmp .ne 7, 3) := by decide +kernel
theorem dL_step_389 : decode cL_step 389 = .ok (.iconst 1, 1) := by decide +kernel
theorem dL_step_390 : decode cL_step 390 = .ok (.goto 51, 3) := by decide +kernel
theorem dL_step_393 : decode cL_step 393 = .ok (.iconst 0, 1) := by decide +kernel
theorem dL_step_394 : decode cL_step 394 = .ok (.goto 47, 3) := by decide +kernel
theorem dL_step_397 : decode cL_step 397 = .ok (.iload 14, 2) := by decide +kernel
theorem dL_step_399 : decode cL_step 399 = .ok (.ifCond .lt 41, 3) := by decide +kernel
theorem dL_step_402 : decode cL_step 402 = .ok (.aload_n 0, 1) := by decide +kernel
theorem dL_step_403 : decode cL_step 403 = .ok (.invokevirtual 60, 3) := by decide +kernel
theorem dL_step_406 : decode cL_step 406 = .ok (.iload 13, 2) := by decide +kernel
theorem dL_step_408 : decode cL_step 408 = .ok (.if_icmp .gt 32, 3) := by decide +kernel
theorem dL_step_411 : decode cL_step 411 = .ok (.aload_n 0, 1) := by decide +kernel
theorem dL_step_412 : decode cL_step 412 = .ok (.invokevirtual 60, 3) := by decide +kernel
theorem dL_step_415 : decode cL_step 415 = .ok (.iload 13, 2) := by decide +kernel
theorem dL_step_417 : decode cL_step 417 = .ok (.iconst 1, 1) := by decide +kernel
theorem dL_step_418 : decode cL_step 418 = .ok (.isub, 1) := by decide +kernel
theorem dL_step_419 : decode cL_step 419 = .ok (.if_icmp .lt 21, 3) := by decide +kernel
