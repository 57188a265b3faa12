theorem dX0_init_0 : decode cX0_init 0 = .ok (.aload_n 0, 1) := by decide +kernel
theorem dX0_init_1 : decode cX0_init 1 = .ok (.invokespecial 3, 3) := by decide +kernel
theorem dX0_init_4 : decode cX0_init 4 = .ok (.aload_n 0, 1) := by decide +kernel
theorem dX0_init_5 : decode cX0_init 5 = .ok (.bipush 40, 2) := by decide +kernel
theorem dX0_init_7 : decode cX0_init 7 = .ok (.bipush 40, 2) := by decide +kernel
theorem dX0_init_9 : decode cX0_init 9 = .ok (.multianewarray 11 2, 4) := by decide +kernel
theorem dX0_init_13 : decode cX0_init 13 = .ok (.putfield 13, 3) := by decide +kernel
theorem dX0_init_16 : decode cX0_init 16 = .ok (.aload_n 0, 1) := by decide +kernel
theorem dX0_init_17 : decode cX0_init 17 = .ok (.bipush 40, 2) := by decide +kernel
theorem dX0_init_19 : decode cX0_init 19 = .ok (.newarray .int, 2) := by decide +kernel
theorem dX0_init_21 : decode cX0_init 21 = .ok (.putfield 16, 3) := by decide +kernel
theorem dX0_init_24 : decode cX0_init 24 = .ok (.aload_n 0, 1) := by decide +kernel
theorem dX0_init_25 : decode cX0_init 25 = .ok (.iconst 0, 1) := by decide +kernel
theorem dX0_init_26 : decode cX0_init 26 = .ok (.putfield 20, 3) := by decide +kernel
theorem dX0_init_29 : decode cX0_init 29 = .ok (.aload_n 0, 1) := by decide +kernel
theorem dX0_init_30 : decode cX0_init 30 = .ok (.iconst 0, 1) := by decide +kernel
theorem dX0_init_31 : decode cX0_init 31 = .ok (.putfield 24, 3) := by decide +kernel
theorem dX0_init_34 : decode cX0_init 34 = .ok (.return_, 1) := by decide +kernel
theorem dX0_begin_0 : decode cX0_begin 0 = .ok (.aload_n 0, 1) := by decide +kernel
theorem dX0_begin_1 : decode cX0_begin 1 = .ok (.iload_n 1, 1) := by decide +kernel
theorem dX0_begin_2 : decode cX0_begin 2 = .ok (.iconst 0, 1) := by decide +kernel
theorem dX0_begin_3 : decode cX0_begin 3 = .ok (.invokestatic 27, 3) := by decide +kernel
theorem dX0_begin_6 : decode cX0_begin 6 = .ok (.bipush 40, 2) := by decide +kernel
theorem dX0_begin_8 : decode cX0_begin 8 = .ok (.invokestatic 33, 3) := by decide +kernel
theorem dX0_begin_11 : decode cX0_begin 11 = .ok (.putfield 20, 3) := by decide +kernel
theorem dX0_begin_14 : decode cX0_begin 14 = .ok (.aload_n 0, 1) := by decide +kernel
theorem dX0_begin_15 : decode cX0_begin 15 = .ok (.iload_n 2, 1) := by decide +kernel
theorem dX0_begin_16 : decode cX0_begin 16 = .ok (.iconst 0, 1) := by decide +kernel
theorem dX0_begin_17 : decode cX0_begin 17 = .ok (.invokestatic 27, 3) := by decide +kernel
theorem dX0_begin_20 : decode cX0_begin 20 = .ok (.bipush 40, 2) := by decide +kernel
theorem dX0_begin_22 : decode cX0_begin 22 = .ok (.invokestatic 33, 3) := by decide +kernel
theorem dX0_begin_25 : decode cX0_begin 25 = .ok (.putfield 24, 3) := by decide +kernel
theorem dX0_begin_28 : decode cX0_begin 28 = .ok (.aload_n 0, 1) := by decide +kernel
theorem dX0_begin_29 : decode cX0_begin 29 = .ok (.getfield 20, 3) := by decide +kernel
theorem dX0_begin_32 : decode cX0_begin 32 = .ok (.aload_n 0, 1) := by decide +kernel
theorem dX0_begin_33 : decode cX0_begin 33 = .ok (.getfield 24, 3) := by decide +kernel
theorem dX0_begin_36 : decode cX0_begin 36 = .ok (.invokestatic 27, 3) := by decide +kernel
theorem dX0_begin_39 : decode cX0_begin 39 = .ok (.istore_n 3, 1) := by decide +kernel
theorem dX0_begin_40 : decode cX0_begin 40 = .ok (.iconst 0, 1) := by decide +kernel
theorem dX0_begin_41 : decode cX0_begin 41 = .ok (.istore 4, 2) := by decide +kernel
theorem dX0_begin_43 : decode cX0_begin 43 = .ok (.iload 4, 2) := by decide +kernel
theorem dX0_begin_45 : decode cX0_begin 45 = .ok (.iload_n 3, 1) := by decide +kernel
theorem dX0_begin_46 : decode cX0_begin 46 = .ok (.if_icmp .ge 35, 3) := by decide +kernel
theorem dX0_begin_49 : decode cX0_begin 49 = .ok (.iconst 0, 1) := by decide +kernel
theorem dX0_begin_50 : decode cX0_begin 50 = .ok (.istore 5, 2) := by decide +kernel
theorem dX0_begin_52 : decode cX0_begin 52 = .ok (.iload 5, 2) := by decide +kernel
theorem dX0_begin_54 : decode cX0_begin 54 = .ok (.iload_n 3, 1) := by decide +kernel
theorem dX0_begin_55 : decode cX0_begin 55 = .ok (.if_icmp .ge 20, 3) := by decide +kernel
theorem dX0_begin_58 : decode cX0_begin 58 = .ok (.aload_n 0, 1) := by decide +kernel
theorem dX0_begin_59 : decode cX0_begin 59 = .ok (.getfield 13, 3) := by decide +kernel
theorem dX0_begin_62 : decode cX0_begin 62 = .ok (.iload 4, 2) := by decide +kernel
theorem dX0_begin_64 : decode cX0_begin 64 = .ok (.aaload, 1) := by decide +kernel
theorem dX0_begin_65 : decode cX0_begin 65 = .ok (.iload 5, 2) := by decide +kernel
theorem dX0_begin_67 : decode cX0_begin 67 = .ok (.lconst 0, 1) := by decide +kernel
theorem dX0_begin_68 : decode cX0_begin 68 = .ok (.lastore, 1) := by decide +kernel
theorem dX0_begin_69 : decode cX0_begin 69 = .ok (.iinc 5 1, 3) := by decide +kernel
theorem dX0_begin_72 : decode cX0_begin 72 = .ok (.goto (-20), 3) := by decide +kernel
theorem dX0_begin_75 : decode cX0_begin 75 = .ok (.iinc 4 1, 3) := by decide +kernel
theorem dX0_begin_78 : decode cX0_begin 78 = .ok (.goto (-35), 3) := by decide +kernel
theorem dX0_begin_81 : decode cX0_begin 81 = .ok (.return_, 1) := by decide +kernel
set_option maxRecDepth 20000 in
theorem ggX0_add_J9_floorMod_f86c9 : GoodIn wsX0_add wsJ9_floorMod_f86c9 := goodIn_r _ [8] (by decide +kernel) (by decide +kernel)
set_option maxRecDepth 20000 in
theorem gX0_add_J9_floorMod_f86c9 : GoodIn wsX0_add (va_wsS RX0 38 yJ9_floorMod_f86c9 wsJ9_floorMod_f86c9) := goodIn_app (goodIn_of _ (by decide +kernel)) ggX0_add_J9_floorMod_f86c9
theorem dX0_add_0 : decode cX0_add 0 = .ok (.iload_n 1, 1) := by decide +kernel
theorem dX0_add_1 : decode cX0_add 1 = .ok (.ifCond .lt 48, 3) := by decide +kernel
theorem dX0_add_4 : decode cX0_add 4 = .ok (.iload_n 1, 1) := by decide +kernel
theorem dX0_add_5 : decode cX0_add 5 = .ok (.aload_n 0, 1) := by decide +kernel
theorem dX0_add_6 : decode cX0_add 6 = .ok (.getfield 20, 3) := by decide +kernel
theorem dX0_add_9 : decode cX0_add 9 = .ok (.if_icmp .ge 40, 3) := by decide +kernel
theorem dX0_add_12 : decode cX0_add 12 = .ok (.iload_n 2, 1) := by decide +kernel
theorem dX0_add_13 : decode cX0_add 13 = .ok (.ifCond .lt 36, 3) := by decide +kernel
theorem dX0_add_16 : decode cX0_add 16 = .ok (.iload_n 2, 1) := by decide +kernel
theorem dX0_add_17 : decode cX0_add 17 = .ok (.aload_n 0, 1) := by decide +kernel
theorem dX0_add_18 : decode cX0_add 18 = .ok (.getfield 24, 3) := by decide +kernel
theorem dX0_add_21 : decode cX0_add 21 = .ok (.if_icmp .ge 28, 3) := by decide +kernel
theorem dX0_add_24 : decode cX0_add 24 = .ok (.aload_n 0, 1) := by decide +kernel
theorem dX0_add_25 : decode cX0_add 25 = .ok (.getfield 13, 3) := by decide +kernel
theorem dX0_add_28 : decode cX0_add 28 = .ok (.iload_n 1, 1) := by decide +kernel
theorem dX0_add_29 : decode cX0_add 29 = .ok (.aaload, 1) := by decide +kernel
theorem dX0_add_30 : decode cX0_add 30 = .ok (.iload_n 2, 1) := by decide +kernel
theorem dX0_add_31 : decode cX0_add 31 = .ok (.aload_n 0, 1) := by decide +kernel
theorem dX0_add_32 : decode cX0_add 32 = .ok (.getfield 13, 3) := by decide +kernel
theorem dX0_add_35 : decode cX0_add 35 = .ok (.iload_n 1, 1) := by decide +kernel
theorem dX0_add_36 : decode cX0_add 36 = .ok (.aaload, 1) := by decide +kernel
theorem dX0_add_37 : decode cX0_add 37 = .ok (.iload_n 2, 1) := by decide +kernel
theorem dX0_add_38 : decode cX0_add 38 = .ok (.laload, 1) := by decide +kernel
theorem dX0_add_39 : decode cX0_add 39 = .ok (.iload_n 3, 1) := by decide +kernel
theorem dX0_add_40 : decode cX0_add 40 = .ok (.i2l, 1) := by decide +kernel
theorem dX0_add_41 : decode cX0_add 41 = .ok (.ladd, 1) := by decide +kernel
theorem dX0_add_42 : decode cX0_add 42 = .ok (.ldc2_w 36, 3) := by decide +kernel
theorem dX0_add_45 : decode cX0_add 45 = .ok (.invokestatic 38, 3) := by decide +kernel
theorem dX0_add_48 : decode cX0_add 48 = .ok (.lastore, 1) := by decide +kernel
theorem dX0_add_49 : decode cX0_add 49 = .ok (.return_, 1) := by decide +kernel
theorem dX0_turn_0 : decode cX0_turn 0 = .ok (.aload_n 0, 1) := by decide +kernel
theorem dX0_turn_1 : decode cX0_turn 1 = .ok (.getfield 20, 3) := by decide +kernel
theorem dX0_turn_4 : decode cX0_turn 4 = .ok (.aload_n 0, 1) := by decide +kernel
theorem dX0_turn_5 : decode cX0_turn 5 = .ok (.getfield 24, 3) := by decide +kernel
theorem dX0_turn_8 : decode cX0_turn 8 = .ok (.invokestatic 27, 3) := by decide +kernel
theorem dX0_turn_11 : decode cX0_turn 11 = .ok (.istore_n 1, 1) := by decide +kernel
theorem dX0_turn_12 : decode cX0_turn 12 = .ok (.iconst 0, 1) := by decide +kernel
theorem dX0_turn_13 : decode cX0_turn 13 = .ok (.istore_n 2, 1) := by decide +kernel
theorem dX0_turn_14 : decode cX0_turn 14 = .ok (.iload_n 2, 1) := by decide +kernel
theorem dX0_turn_15 : decode cX0_turn 15 = .ok (.iload_n 1, 1) := by decide +kernel
theorem dX0_turn_16 : decode cX0_turn 16 = .ok (.if_icmp .ge 58, 3) := by decide +kernel
theorem dX0_turn_19 : decode cX0_turn 19 = .ok (.iconst 0, 1) := by decide +kernel
theorem dX0_turn_20 : decode cX0_turn 20 = .ok (.istore_n 3, 1) := by decide +kernel
theorem dX0_turn_21 : decode cX0_turn 21 = .ok (.iload_n 3, 1) := by decide +kernel
theorem dX0_turn_22 : decode cX0_turn 22 = .ok (.iload_n 2, 1) := by decide +kernel
theorem dX0_turn_23 : decode cX0_turn 23 = .ok (.if_icmp .ge 45, 3) := by decide +kernel
theorem dX0_turn_26 : decode cX0_turn 26 = .ok (.aload_n 0, 1) := by decide +kernel
theorem dX0_turn_27 : decode cX0_turn 27 = .ok (.getfield 13, 3) := by decide +kernel
theorem dX0_turn_30 : decode cX0_turn 30 = .ok (.iload_n 2, 1) := by decide +kernel
theorem dX0_turn_31 : decode cX0_turn 31 = .ok (.aaload, 1) := by decide +kernel
theorem dX0_turn_32 : decode cX0_turn 32 = .ok (.iload_n 3, 1) := by decide +kernel
theorem dX0_turn_33 : decode cX0_turn 33 = .ok (.laload, 1) := by decide +kernel
theorem dX0_turn_34 : decode cX0_turn 34 = .ok (.lstore 4, 2) := by decide +kernel
theorem dX0_turn_36 : decode cX0_turn 36 = .ok (.aload_n 0, 1) := by decide +kernel
theorem dX0_turn_37 : decode cX0_turn 37 = .ok (.getfield 13, 3) := by decide +kernel
theorem dX0_turn_40 : decode cX0_turn 40 = .ok (.iload_n 2, 1) := by decide +kernel
theorem dX0_turn_41 : decode cX0_turn 41 = .ok (.aaload, 1) := by decide +kernel
theorem dX0_turn_42 : decode cX0_turn 42 = .ok (.iload_n 3, 1) := by decide +kernel
theorem dX0_turn_43 : decode cX0_turn 43 = .ok (.aload_n 0, 1) := by decide +kernel
theorem dX0_turn_44 : decode cX0_turn 44 = .ok (.getfield 13, 3) := by decide +kernel
theorem dX0_turn_47 : decode cX0_turn 47 = .ok (.iload_n 3, 1) := by decide +kernel
theorem dX0_turn_48 : decode cX0_turn 48 = .ok (.aaload, 1) := by decide +kernel
theorem dX0_turn_49 : decode cX0_turn 49 = .ok (.iload_n 2, 1) := by decide +kernel
theorem dX0_turn_50 : decode cX0_turn 50 = .ok (.laload, 1) := by decide +kernel
theorem dX0_turn_51 : decode cX0_turn 51 = .ok (.lastore, 1) := by decide +kernel
theorem dX0_turn_52 : decode cX0_turn 52 = .ok (.aload_n 0, 1) := by decide +kernel
theorem dX0_turn_53 : decode cX0_turn 53 = .ok (.getfield 13, 3) := by decide +kernel
theorem dX0_turn_56 : decode cX0_turn 56 = .ok (.iload_n 3, 1) := by decide +kernel
theorem dX0_turn_57 : decode cX0_turn 57 = .ok (.aaload, 1) := by decide +kernel
theorem dX0_turn_58 : decode cX0_turn 58 = .ok (.iload_n 2, 1) := by decide +kernel
theorem dX0_turn_59 : decode cX0_turn 59 = .ok (.lload 4, 2) := by decide +kernel
theorem dX0_turn_61 : decode cX0_turn 61 = .ok (.lastore, 1) := by decide +kernel
theorem dX0_turn_62 : decode cX0_turn 62 = .ok (.iinc 3 1, 3) := by decide +kernel
theorem dX0_turn_65 : decode cX0_turn 65 = .ok (.goto (-44), 3) := by decide +kernel
theorem dX0_turn_68 : decode cX0_turn 68 = .ok (.iinc 2 1, 3) := by decide +kernel
theorem dX0_turn_71 : decode cX0_turn 71 = .ok (.goto (-57), 3) := by decide +kernel
theorem dX0_turn_74 : decode cX0_turn 74 = .ok (.aload_n 0, 1) := by decide +kernel
theorem dX0_turn_75 : decode cX0_turn 75 = .ok (.getfield 20, 3) := by decide +kernel
theorem dX0_turn_78 : decode cX0_turn 78 = .ok (.istore_n 2, 1) := by decide +kernel
theorem dX0_turn_79 : decode cX0_turn 79 = .ok (.aload_n 0, 1) := by decide +kernel
theorem dX0_turn_80 : decode cX0_turn 80 = .ok (.aload_n 0, 1) := by decide +kernel
theorem dX0_turn_81 : decode cX0_turn 81 = .ok (.getfield 24, 3) := by decide +kernel
theorem dX0_turn_84 : decode cX0_turn 84 = .ok (.putfield 20, 3) := by decide +kernel
theorem dX0_turn_87 : decode cX0_turn 87 = .ok (.aload_n 0, 1) := by decide +kernel
theorem dX0_turn_88 : decode cX0_turn 88 = .ok (.iload_n 2, 1) := by decide +kernel
theorem dX0_turn_89 : decode cX0_turn 89 = .ok (.putfield 24, 3) := by decide +kernel
theorem dX0_turn_92 : decode cX0_turn 92 = .ok (.return_, 1) := by decide +kernel
set_option maxRecDepth 20000 in
theorem ggX0_reduce_X0_rowWith : GoodIn wsX0_reduce wsX0_rowWith := goodIn_r _ [7, 8, 9, 31, 32, 33, 34] (by decide +kernel) (by decide +kernel)
set_option maxRecDepth 20000 in
theorem gX0_reduce_X0_rowWith : GoodIn wsX0_reduce (wsV RX0 42 RX0 yX0_rowWith wsX0_rowWith) := goodIn_app (goodIn_of _ (by decide +kernel)) ggX0_reduce_X0_rowWith
set_option maxRecDepth 20000 in
theorem ggX0_reduce_X0_swapRows : GoodIn wsX0_reduce wsX0_swapRows := goodIn_r _ [13, 1, 9, 31, 32, 33, 34] (by decide +kernel) (by decide +kernel)
set_option maxRecDepth 20000 in
theorem gX0_reduce_X0_swapRows : GoodIn wsX0_reduce (wsV RX0 45 RX0 yX0_swapRows wsX0_swapRows) := goodIn_app (goodIn_of _ (by decide +kernel)) ggX0_reduce_X0_swapRows
set_option maxRecDepth 20000 in
theorem ggX0_reduce_X0_scaleRow : GoodIn wsX0_reduce wsX0_scaleRow := goodIn_r _ [17, 9, 1, 18, 19, 20, 6, 21, 22, 31, 32, 33, 34] (by decide +kernel) (by decide +kernel)
set_option maxRecDepth 20000 in
theorem gX0_reduce_X0_scaleRow : GoodIn wsX0_reduce (wsV RX0 49 RX0 yX0_scaleRow wsX0_scaleRow) := goodIn_app (goodIn_of _ (by decide +kernel)) ggX0_reduce_X0_scaleRow
set_option maxRecDepth 20000 in
theorem ggX0_reduce_X0_clearColumn : GoodIn wsX0_reduce wsX0_clearColumn := goodIn_r _ [26, 8, 9, 18, 27, 28, 29, 6, 30, 1, 31, 32, 33, 34] (by decide +kernel) (by decide +kernel)
set_option maxRecDepth 20000 in
theorem gX0_reduce_X0_clearColumn : GoodIn wsX0_reduce (wsV RX0 52 RX0 yX0_clearColumn wsX0_clearColumn) := goodIn_app (goodIn_of _ (by decide +kernel)) ggX0_reduce_X0_clearColumn
theorem dX0_reduce_0 : decode cX0_reduce 0 = .ok (.iconst 0, 1) := by decide +kernel
theorem dX0_reduce_1 : decode cX0_reduce 1 = .ok (.istore_n 1, 1) := by decide +kernel
theorem dX0_reduce_2 : decode cX0_reduce 2 = .ok (.iconst 0, 1) := by decide +kernel
theorem dX0_reduce_3 : decode cX0_reduce 3 = .ok (.istore_n 2, 1) := by decide +kernel
theorem dX0_reduce_4 : decode cX0_reduce 4 = .ok (.iload_n 2, 1) := by decide +kernel
theorem dX0_reduce_5 : decode cX0_reduce 5 = .ok (.aload_n 0, 1) := by decide +kernel
theorem dX0_reduce_6 : decode cX0_reduce 6 = .ok (.getfield 24, 3) := by decide +kernel
theorem dX0_reduce_9 : decode cX0_reduce 9 = .ok (.if_icmp .ge 56, 3) := by decide +kernel
theorem dX0_reduce_12 : decode cX0_reduce 12 = .ok (.aload_n 0, 1) := by decide +kernel
theorem dX0_reduce_13 : decode cX0_reduce 13 = .ok (.iload_n 2, 1) := by decide +kernel
theorem dX0_reduce_14 : decode cX0_reduce 14 = .ok (.iload_n 1, 1) := by decide +kernel
theorem dX0_reduce_15 : decode cX0_reduce 15 = .ok (.invokevirtual 42, 3) := by decide +kernel
theorem dX0_reduce_18 : decode cX0_reduce 18 = .ok (.istore_n 3, 1) := by decide +kernel
theorem dX0_reduce_19 : decode cX0_reduce 19 = .ok (.aload_n 0, 1) := by decide +kernel
theorem dX0_reduce_20 : decode cX0_reduce 20 = .ok (.getfield 16, 3) := by decide +kernel
theorem dX0_reduce_23 : decode cX0_reduce 23 = .ok (.iload_n 2, 1) := by decide +kernel
theorem dX0_reduce_24 : decode cX0_reduce 24 = .ok (.iconst (-1), 1) := by decide +kernel
theorem dX0_reduce_25 : decode cX0_reduce 25 = .ok (.iastore, 1) := by decide +kernel
theorem dX0_reduce_26 : decode cX0_reduce 26 = .ok (.iload_n 3, 1) := by decide +kernel
theorem dX0_reduce_27 : decode cX0_reduce 27 = .ok (.iconst (-1), 1) := by decide +kernel
theorem dX0_reduce_28 : decode cX0_reduce 28 = .ok (.if_icmp .eq 31, 3) := by decide +kernel
theorem dX0_reduce_31 : decode cX0_reduce 31 = .ok (.aload_n 0, 1) := by decide +kernel
theorem dX0_reduce_32 : decode cX0_reduce 32 = .ok (.iload_n 3, 1) := by decide +kernel
theorem dX0_reduce_33 : decode cX0_reduce 33 = .ok (.iload_n 1, 1) := by decide +kernel
theorem dX0_reduce_34 : decode cX0_reduce 34 = .ok (.invokevirtual 45, 3) := by decide +kernel
theorem dX0_reduce_37 : decode cX0_reduce 37 = .ok (.aload_n 0, 1) := by decide +kernel
theorem dX0_reduce_38 : decode cX0_reduce 38 = .ok (.iload_n 1, 1) := by decide +kernel
theorem dX0_reduce_39 : decode cX0_reduce 39 = .ok (.iload_n 2, 1) := by decide +kernel
theorem dX0_reduce_40 : decode cX0_reduce 40 = .ok (.invokevirtual 49, 3) := by decide +kernel
theorem dX0_reduce_43 : decode cX0_reduce 43 = .ok (.aload_n 0, 1) := by decide +kernel
theorem dX0_reduce_44 : decode cX0_reduce 44 = .ok (.iload_n 1, 1) := by decide +kernel
theorem dX0_reduce_45 : decode cX0_reduce 45 = .ok (.iload_n 2, 1) := by decide +kernel
theorem dX0_reduce_46 : decode cX0_reduce 46 = .ok (.invokevirtual 52, 3) := by decide +kernel
theorem dX0_reduce_49 : decode cX0_reduce 49 = .ok (.aload_n 0, 1) := by decide +kernel
theorem dX0_reduce_50 : decode cX0_reduce 50 = .ok (.getfield 16, 3) := by decide +kernel
theorem dX0_reduce_53 : decode cX0_reduce 53 = .ok (.iload_n 2, 1) := by decide +kernel
theorem dX0_reduce_54 : decode cX0_reduce 54 = .ok (.iload_n 1, 1) := by decide +kernel
theorem dX0_reduce_55 : decode cX0_reduce 55 = .ok (.iastore, 1) := by decide +kernel
theorem dX0_reduce_56 : decode cX0_reduce 56 = .ok (.iinc 1 1, 3) := by decide +kernel
theorem dX0_reduce_59 : decode cX0_reduce 59 = .ok (.iinc 2 1, 3) := by decide +kernel
theorem dX0_reduce_62 : decode cX0_reduce 62 = .ok (.goto (-58), 3) := by decide +kernel
theorem dX0_reduce_65 : decode cX0_reduce 65 = .ok (.iload_n 1, 1) := by decide +kernel
theorem dX0_reduce_66 : decode cX0_reduce 66 = .ok (.ireturn, 1) := by decide +kernel
theorem dX0_freeColumn_0 : decode cX0_freeColumn 0 = .ok (.iconst 0, 1) := by decide +kernel
theorem dX0_freeColumn_1 : decode cX0_freeColumn 1 = .ok (.istore_n 2, 1) := by decide +kernel
theorem dX0_freeColumn_2 : decode cX0_freeColumn 2 = .ok (.iconst 0, 1) := by decide +kernel
theorem dX0_freeColumn_3 : decode cX0_freeColumn 3 = .ok (.istore_n 3, 1) := by decide +kernel
theorem dX0_freeColumn_4 : decode cX0_freeColumn 4 = .ok (.iload_n 3, 1) := by decide +kernel
theorem dX0_freeColumn_5 : decode cX0_freeColumn 5 = .ok (.aload_n 0, 1) := by decide +kernel
theorem dX0_freeColumn_6 : decode cX0_freeColumn 6 = .ok (.getfield 24, 3) := by decide +kernel
theorem dX0_freeColumn_9 : decode cX0_freeColumn 9 = .ok (.if_icmp .ge 29, 3) := by decide +kernel
theorem dX0_freeColumn_12 : decode cX0_freeColumn 12 = .ok (.aload_n 0, 1) := by decide +kernel
theorem dX0_freeColumn_13 : decode cX0_freeColumn 13 = .ok (.getfield 16, 3) := by decide +kernel
theorem dX0_freeColumn_16 : decode cX0_freeColumn 16 = .ok (.iload_n 3, 1) := by decide +kernel
theorem dX0_freeColumn_17 : decode cX0_freeColumn 17 = .ok (.iaload, 1) := by decide +kernel
theorem dX0_freeColumn_18 : decode cX0_freeColumn 18 = .ok (.iconst (-1), 1) := by decide +kernel
theorem dX0_freeColumn_19 : decode cX0_freeColumn 19 = .ok (.if_icmp .ne 13, 3) := by decide +kernel
theorem dX0_freeColumn_22 : decode cX0_freeColumn 22 = .ok (.iload_n 2, 1) := by decide +kernel
theorem dX0_freeColumn_23 : decode cX0_freeColumn 23 = .ok (.iload_n 1, 1) := by decide +kernel
theorem dX0_freeColumn_24 : decode cX0_freeColumn 24 = .ok (.if_icmp .ne 5, 3) := by decide +kernel
theorem dX0_freeColumn_27 : decode cX0_freeColumn 27 = .ok (.iload_n 3, 1) := by decide +kernel
theorem dX0_freeColumn_28 : decode cX0_freeColumn 28 = .ok (.ireturn, 1) := by decide +kernel
theorem dX0_freeColumn_29 : decode cX0_freeColumn 29 = .ok (.iinc 2 1, 3) := by decide +kernel
theorem dX0_freeColumn_32 : decode cX0_freeColumn 32 = .ok (.iinc 3 1, 3) := by decide +kernel
theorem dX0_freeColumn_35 : decode cX0_freeColumn 35 = .ok (.goto (-31), 3) := by decide +kernel
theorem dX0_freeColumn_38 : decode cX0_freeColumn 38 = .ok (.iconst (-1), 1) := by decide +kernel
theorem dX0_freeColumn_39 : decode cX0_freeColumn 39 = .ok (.ireturn, 1) := by decide +kernel
theorem dX0_solution_0 : decode cX0_solution 0 = .ok (.iload_n 2, 1) := by decide +kernel
theorem dX0_solution_1 : decode cX0_solution 1 = .ok (.iload_n 1, 1) := by decide +kernel
theorem dX0_solution_2 : decode cX0_solution 2 = .ok (.if_icmp .ne 5, 3) := by decide +kernel
theorem dX0_solution_5 : decode cX0_solution 5 = .ok (.iconst 1, 1) := by decide +kernel
theorem dX0_solution_6 : decode cX0_solution 6 = .ok (.ireturn, 1) := by decide +kernel
theorem dX0_solution_7 : decode cX0_solution 7 = .ok (.iload_n 1, 1) := by decide +kernel
theorem dX0_solution_8 : decode cX0_solution 8 = .ok (.ifCond .lt 23, 3) := by decide +kernel
theorem dX0_solution_11 : decode cX0_solution 11 = .ok (.iload_n 1, 1) := by decide +kernel
theorem dX0_solution_12 : decode cX0_solution 12 = .ok (.aload_n 0, 1) := by decide +kernel
theorem dX0_solution_13 : decode cX0_solution 13 = .ok (.getfield 24, 3) := by decide +kernel
theorem dX0_solution_16 : decode cX0_solution 16 = .ok (.if_icmp .ge 15, 3) := by decide +kernel
theorem dX0_solution_19 : decode cX0_solution 19 = .ok (.iload_n 2, 1) := by decide +kernel
theorem dX0_solution_20 : decode cX0_solution 20 = .ok (.ifCond .lt 11, 3) := by decide +kernel
theorem dX0_solution_23 : decode cX0_solution 23 = .ok (.iload_n 2, 1) := by decide +kernel
theorem dX0_solution_24 : decode cX0_solution 24 = .ok (.aload_n 0, 1) := by decide +kernel
theorem dX0_solution_25 : decode cX0_solution 25 = .ok (.getfield 24, 3) := by decide +kernel
theorem dX0_solution_28 : decode cX0_solution 28 = .ok (.if_icmp .lt 5, 3) := by decide +kernel
theorem dX0_solution_31 : decode cX0_solution 31 = .ok (.iconst 0, 1) := by decide +kernel
theorem dX0_solution_32 : decode cX0_solution 32 = .ok (.ireturn, 1) := by decide +kernel
theorem dX0_solution_33 : decode cX0_solution 33 = .ok (.aload_n 0, 1) := by decide +kernel
theorem dX0_solution_34 : decode cX0_solution 34 = .ok (.getfield 16, 3) := by decide +kernel
theorem dX0_solution_37 : decode cX0_solution 37 = .ok (.iload_n 2, 1) := by decide +kernel
theorem dX0_solution_38 : decode cX0_solution 38 = .ok (.iaload, 1) := by decide +kernel
theorem dX0_solution_39 : decode cX0_solution 39 = .ok (.istore_n 3, 1) := by decide +kernel
theorem dX0_solution_40 : decode cX0_solution 40 = .ok (.iload_n 3, 1) := by decide +kernel
theorem dX0_solution_41 : decode cX0_solution 41 = .ok (.iconst (-1), 1) := by decide +kernel
theorem dX0_solution_42 : decode cX0_solution 42 = .ok (.if_icmp .ne 7, 3) := by decide +kernel
theorem dX0_solution_45 : decode cX0_solution 45 = .ok (.iconst 0, 1) := by decide +kernel
theorem dX0_solution_46 : decode cX0_solution 46 = .ok (.goto 20, 3) := by decide +kernel
theorem dX0_solution_49 : decode cX0_solution 49 = .ok (.ldc2_w 36, 3) := by decide +kernel
theorem dX0_solution_52 : decode cX0_solution 52 = .ok (.aload_n 0, 1) := by decide +kernel
theorem dX0_solution_53 : decode cX0_solution 53 = .ok (.getfield 13, 3) := by decide +kernel
theorem dX0_solution_56 : decode cX0_solution 56 = .ok (.iload_n 3, 1) := by decide +kernel
theorem dX0_solution_57 : decode cX0_solution 57 = .ok (.aaload, 1) := by decide +kernel
theorem dX0_solution_58 : decode cX0_solution 58 = .ok (.iload_n 1, 1) := by decide +kernel
theorem dX0_solution_59 : decode cX0_solution 59 = .ok (.laload, 1) := by decide +kernel
theorem dX0_solution_60 : decode cX0_solution 60 = .ok (.lsub, 1) := by decide +kernel
theorem dX0_solution_61 : decode cX0_solution 61 = .ok (.ldc2_w 36, 3) := by decide +kernel
theorem dX0_solution_64 : decode cX0_solution 64 = .ok (.lrem, 1) := by decide +kernel
theorem dX0_solution_65 : decode cX0_solution 65 = .ok (.l2i, 1) := by decide +kernel
theorem dX0_solution_66 : decode cX0_solution 66 = .ok (.ireturn, 1) := by decide +kernel
theorem dX0_rowWith_0 : decode cX0_rowWith 0 = .ok (.iload_n 2, 1) := by decide +kernel
theorem dX0_rowWith_1 : decode cX0_rowWith 1 = .ok (.istore_n 3, 1) := by decide +kernel
theorem dX0_rowWith_2 : decode cX0_rowWith 2 = .ok (.iload_n 3, 1) := by decide +kernel
theorem dX0_rowWith_3 : decode cX0_rowWith 3 = .ok (.aload_n 0, 1) := by decide +kernel
theorem dX0_rowWith_4 : decode cX0_rowWith 4 = .ok (.getfield 20, 3) := by decide +kernel
theorem dX0_rowWith_7 : decode cX0_rowWith 7 = .ok (.if_icmp .ge 24, 3) := by decide +kernel
theorem dX0_rowWith_10 : decode cX0_rowWith 10 = .ok (.aload_n 0, 1) := by decide +kernel
theorem dX0_rowWith_11 : decode cX0_rowWith 11 = .ok (.getfield 13, 3) := by decide +kernel
theorem dX0_rowWith_14 : decode cX0_rowWith 14 = .ok (.iload_n 3, 1) := by decide +kernel
theorem dX0_rowWith_15 : decode cX0_rowWith 15 = .ok (.aaload, 1) := by decide +kernel
theorem dX0_rowWith_16 : decode cX0_rowWith 16 = .ok (.iload_n 1, 1) := by decide +kernel
theorem dX0_rowWith_17 : decode cX0_rowWith 17 = .ok (.laload, 1) := by decide +kernel
theorem dX0_rowWith_18 : decode cX0_rowWith 18 = .ok (.lconst 0, 1) := by decide +kernel
theorem dX0_rowWith_19 : decode cX0_rowWith 19 = .ok (.lcmp, 1) := by decide +kernel
theorem dX0_rowWith_20 : decode cX0_rowWith 20 = .ok (.ifCond .eq 5, 3) := by decide +kernel
theorem dX0_rowWith_23 : decode cX0_rowWith 23 = .ok (.iload_n 3, 1) := by decide +kernel
theorem dX0_rowWith_24 : decode cX0_rowWith 24 = .ok (.ireturn, 1) := by decide +kernel
theorem dX0_rowWith_25 : decode cX0_rowWith 25 = .ok (.iinc 3 1, 3) := by decide +kernel
theorem dX0_rowWith_28 : decode cX0_rowWith 28 = .ok (.goto (-26), 3) := by decide +kernel
theorem dX0_rowWith_31 : decode cX0_rowWith 31 = .ok (.iconst (-1), 1) := by decide +kernel
theorem dX0_rowWith_32 : decode cX0_rowWith 32 = .ok (.ireturn, 1) := by decide +kernel
theorem dX0_swapRows_0 : decode cX0_swapRows 0 = .ok (.iconst 0, 1) := by decide +kernel
theorem dX0_swapRows_1 : decode cX0_swapRows 1 = .ok (.istore_n 3, 1) := by decide +kernel
theorem dX0_swapRows_2 : decode cX0_swapRows 2 = .ok (.iload_n 3, 1) := by decide +kernel
theorem dX0_swapRows_3 : decode cX0_swapRows 3 = .ok (.aload_n 0, 1) := by decide +kernel
theorem dX0_swapRows_4 : decode cX0_swapRows 4 = .ok (.getfield 24, 3) := by decide +kernel
theorem dX0_swapRows_7 : decode cX0_swapRows 7 = .ok (.if_icmp .ge 45, 3) := by decide +kernel
theorem dX0_swapRows_10 : decode cX0_swapRows 10 = .ok (.aload_n 0, 1) := by decide +kernel
theorem dX0_swapRows_11 : decode cX0_swapRows 11 = .ok (.getfield 13, 3) := by decide +kernel
theorem dX0_swapRows_14 : decode cX0_swapRows 14 = .ok (.iload_n 1, 1) := by decide +kernel
theorem dX0_swapRows_15 : decode cX0_swapRows 15 = .ok (.aaload, 1) := by decide +kernel
theorem dX0_swapRows_16 : decode cX0_swapRows 16 = .ok (.iload_n 3, 1) := by decide +kernel
theorem dX0_swapRows_17 : decode cX0_swapRows 17 = .ok (.laload, 1) := by decide +kernel
theorem dX0_swapRows_18 : decode cX0_swapRows 18 = .ok (.lstore 4, 2) := by decide +kernel
theorem dX0_swapRows_20 : decode cX0_swapRows 20 = .ok (.aload_n 0, 1) := by decide +kernel
theorem dX0_swapRows_21 : decode cX0_swapRows 21 = .ok (.getfield 13, 3) := by decide +kernel
theorem dX0_swapRows_24 : decode cX0_swapRows 24 = .ok (.iload_n 1, 1) := by decide +kernel
theorem dX0_swapRows_25 : decode cX0_swapRows 25 = .ok (.aaload, 1) := by decide +kernel
theorem dX0_swapRows_26 : decode cX0_swapRows 26 = .ok (.iload_n 3, 1) := by decide +kernel
theorem dX0_swapRows_27 : decode cX0_swapRows 27 = .ok (.aload_n 0, 1) := by decide +kernel
theorem dX0_swapRows_28 : decode cX0_swapRows 28 = .ok (.getfield 13, 3) := by decide +kernel
theorem dX0_swapRows_31 : decode cX0_swapRows 31 = .ok (.iload_n 2, 1) := by decide +kernel
theorem dX0_swapRows_32 : decode cX0_swapRows 32 = .ok (.aaload, 1) := by decide +kernel
theorem dX0_swapRows_33 : decode cX0_swapRows 33 = .ok (.iload_n 3, 1) := by decide +kernel
theorem dX0_swapRows_34 : decode cX0_swapRows 34 = .ok (.laload, 1) := by decide +kernel
theorem dX0_swapRows_35 : decode cX0_swapRows 35 = .ok (.lastore, 1) := by decide +kernel
theorem dX0_swapRows_36 : decode cX0_swapRows 36 = .ok (.aload_n 0, 1) := by decide +kernel
theorem dX0_swapRows_37 : decode cX0_swapRows 37 = .ok (.getfield 13, 3) := by decide +kernel
theorem dX0_swapRows_40 : decode cX0_swapRows 40 = .ok (.iload_n 2, 1) := by decide +kernel
theorem dX0_swapRows_41 : decode cX0_swapRows 41 = .ok (.aaload, 1) := by decide +kernel
theorem dX0_swapRows_42 : decode cX0_swapRows 42 = .ok (.iload_n 3, 1) := by decide +kernel
theorem dX0_swapRows_43 : decode cX0_swapRows 43 = .ok (.lload 4, 2) := by decide +kernel
theorem dX0_swapRows_45 : decode cX0_swapRows 45 = .ok (.lastore, 1) := by decide +kernel
theorem dX0_swapRows_46 : decode cX0_swapRows 46 = .ok (.iinc 3 1, 3) := by decide +kernel
theorem dX0_swapRows_49 : decode cX0_swapRows 49 = .ok (.goto (-47), 3) := by decide +kernel
theorem dX0_swapRows_52 : decode cX0_swapRows 52 = .ok (.return_, 1) := by decide +kernel
set_option maxRecDepth 20000 in
theorem ggX0_scaleRow_X0_inverse : GoodIn wsX0_scaleRow wsX0_inverse := goodIn_r _ [7, 8, 3] (by decide +kernel) (by decide +kernel)
set_option maxRecDepth 20000 in
theorem gX0_scaleRow_X0_inverse : GoodIn wsX0_scaleRow (va_wsS RX0 55 yX0_inverse wsX0_inverse) := goodIn_app (goodIn_of _ (by decide +kernel)) ggX0_scaleRow_X0_inverse
theorem dX0_scaleRow_0 : decode cX0_scaleRow 0 = .ok (.aload_n 0, 1) := by decide +kernel
theorem dX0_scaleRow_1 : decode cX0_scaleRow 1 = .ok (.getfield 13, 3) := by decide +kernel
theorem dX0_scaleRow_4 : decode cX0_scaleRow 4 = .ok (.iload_n 1, 1) := by decide +kernel
theorem dX0_scaleRow_5 : decode cX0_scaleRow 5 = .ok (.aaload, 1) := by decide +kernel
theorem dX0_scaleRow_6 : decode cX0_scaleRow 6 = .ok (.iload_n 2, 1) := by decide +kernel
theorem dX0_scaleRow_7 : decode cX0_scaleRow 7 = .ok (.laload, 1) := by decide +kernel
theorem dX0_scaleRow_8 : decode cX0_scaleRow 8 = .ok (.invokestatic 55, 3) := by decide +kernel
theorem dX0_scaleRow_11 : decode cX0_scaleRow 11 = .ok (.lstore_n 3, 1) := by decide +kernel
theorem dX0_scaleRow_12 : decode cX0_scaleRow 12 = .ok (.iload_n 2, 1) := by decide +kernel
theorem dX0_scaleRow_13 : decode cX0_scaleRow 13 = .ok (.istore 5, 2) := by decide +kernel
theorem dX0_scaleRow_15 : decode cX0_scaleRow 15 = .ok (.iload 5, 2) := by decide +kernel
theorem dX0_scaleRow_17 : decode cX0_scaleRow 17 = .ok (.aload_n 0, 1) := by decide +kernel
theorem dX0_scaleRow_18 : decode cX0_scaleRow 18 = .ok (.getfield 24, 3) := by decide +kernel
theorem dX0_scaleRow_21 : decode cX0_scaleRow 21 = .ok (.if_icmp .ge 33, 3) := by decide +kernel
theorem dX0_scaleRow_24 : decode cX0_scaleRow 24 = .ok (.aload_n 0, 1) := by decide +kernel
theorem dX0_scaleRow_25 : decode cX0_scaleRow 25 = .ok (.getfield 13, 3) := by decide +kernel
theorem dX0_scaleRow_28 : decode cX0_scaleRow 28 = .ok (.iload_n 1, 1) := by decide +kernel
theorem dX0_scaleRow_29 : decode cX0_scaleRow 29 = .ok (.aaload, 1) := by decide +kernel
theorem dX0_scaleRow_30 : decode cX0_scaleRow 30 = .ok (.iload 5, 2) := by decide +kernel
theorem dX0_scaleRow_32 : decode cX0_scaleRow 32 = .ok (.aload_n 0, 1) := by decide +kernel
theorem dX0_scaleRow_33 : decode cX0_scaleRow 33 = .ok (.getfield 13, 3) := by decide +kernel
theorem dX0_scaleRow_36 : decode cX0_scaleRow 36 = .ok (.iload_n 1, 1) := by decide +kernel
theorem dX0_scaleRow_37 : decode cX0_scaleRow 37 = .ok (.aaload, 1) := by decide +kernel
theorem dX0_scaleRow_38 : decode cX0_scaleRow 38 = .ok (.iload 5, 2) := by decide +kernel
theorem dX0_scaleRow_40 : decode cX0_scaleRow 40 = .ok (.laload, 1) := by decide +kernel
theorem dX0_scaleRow_41 : decode cX0_scaleRow 41 = .ok (.lload_n 3, 1) := by decide +kernel
theorem dX0_scaleRow_42 : decode cX0_scaleRow 42 = .ok (.lmul, 1) := by decide +kernel
theorem dX0_scaleRow_43 : decode cX0_scaleRow 43 = .ok (.ldc2_w 36, 3) := by decide +kernel
theorem dX0_scaleRow_46 : decode cX0_scaleRow 46 = .ok (.lrem, 1) := by decide +kernel
theorem dX0_scaleRow_47 : decode cX0_scaleRow 47 = .ok (.lastore, 1) := by decide +kernel
theorem dX0_scaleRow_48 : decode cX0_scaleRow 48 = .ok (.iinc 5 1, 3) := by decide +kernel
theorem dX0_scaleRow_51 : decode cX0_scaleRow 51 = .ok (.goto (-36), 3) := by decide +kernel
theorem dX0_scaleRow_54 : decode cX0_scaleRow 54 = .ok (.return_, 1) := by decide +kernel
set_option maxRecDepth 20000 in
theorem ggX0_clearColumn_X0_takeOff : GoodIn wsX0_clearColumn wsX0_takeOff := goodIn_r _ [8, 9, 2, 3, 10, 11, 12, 13] (by decide +kernel) (by decide +kernel)
set_option maxRecDepth 20000 in
theorem gX0_clearColumn_X0_takeOff : GoodIn wsX0_clearColumn (wsV RX0 59 RX0 yX0_takeOff wsX0_takeOff) := goodIn_app (goodIn_of _ (by decide +kernel)) ggX0_clearColumn_X0_takeOff
theorem dX0_clearColumn_0 : decode cX0_clearColumn 0 = .ok (.iconst 0, 1) := by decide +kernel
theorem dX0_clearColumn_1 : decode cX0_clearColumn 1 = .ok (.istore_n 3, 1) := by decide +kernel
theorem dX0_clearColumn_2 : decode cX0_clearColumn 2 = .ok (.iload_n 3, 1) := by decide +kernel
theorem dX0_clearColumn_3 : decode cX0_clearColumn 3 = .ok (.aload_n 0, 1) := by decide +kernel
theorem dX0_clearColumn_4 : decode cX0_clearColumn 4 = .ok (.getfield 20, 3) := by decide +kernel
theorem dX0_clearColumn_7 : decode cX0_clearColumn 7 = .ok (.if_icmp .ge 43, 3) := by decide +kernel
theorem dX0_clearColumn_10 : decode cX0_clearColumn 10 = .ok (.aload_n 0, 1) := by decide +kernel
theorem dX0_clearColumn_11 : decode cX0_clearColumn 11 = .ok (.getfield 13, 3) := by decide +kernel
theorem dX0_clearColumn_14 : decode cX0_clearColumn 14 = .ok (.iload_n 3, 1) := by decide +kernel
theorem dX0_clearColumn_15 : decode cX0_clearColumn 15 = .ok (.aaload, 1) := by decide +kernel
theorem dX0_clearColumn_16 : decode cX0_clearColumn 16 = .ok (.iload_n 2, 1) := by decide +kernel
theorem dX0_clearColumn_17 : decode cX0_clearColumn 17 = .ok (.laload, 1) := by decide +kernel
theorem dX0_clearColumn_18 : decode cX0_clearColumn 18 = .ok (.lstore 4, 2) := by decide +kernel
theorem dX0_clearColumn_20 : decode cX0_clearColumn 20 = .ok (.iload_n 3, 1) := by decide +kernel
theorem dX0_clearColumn_21 : decode cX0_clearColumn 21 = .ok (.iload_n 1, 1) := by decide +kernel
theorem dX0_clearColumn_22 : decode cX0_clearColumn 22 = .ok (.if_icmp .eq 22, 3) := by decide +kernel
theorem dX0_clearColumn_25 : decode cX0_clearColumn 25 = .ok (.lload 4, 2) := by decide +kernel
theorem dX0_clearColumn_27 : decode cX0_clearColumn 27 = .ok (.lconst 0, 1) := by decide +kernel
theorem dX0_clearColumn_28 : decode cX0_clearColumn 28 = .ok (.lcmp, 1) := by decide +kernel
theorem dX0_clearColumn_29 : decode cX0_clearColumn 29 = .ok (.ifCond .eq 15, 3) := by decide +kernel
theorem dX0_clearColumn_32 : decode cX0_clearColumn 32 = .ok (.aload_n 0, 1) := by decide +kernel
theorem dX0_clearColumn_33 : decode cX0_clearColumn 33 = .ok (.iload_n 3, 1) := by decide +kernel
theorem dX0_clearColumn_34 : decode cX0_clearColumn 34 = .ok (.iload_n 1, 1) := by decide +kernel
theorem dX0_clearColumn_35 : decode cX0_clearColumn 35 = .ok (.ldc2_w 36, 3) := by decide +kernel
theorem dX0_clearColumn_38 : decode cX0_clearColumn 38 = .ok (.lload 4, 2) := by decide +kernel
theorem dX0_clearColumn_40 : decode cX0_clearColumn 40 = .ok (.lsub, 1) := by decide +kernel
theorem dX0_clearColumn_41 : decode cX0_clearColumn 41 = .ok (.invokevirtual 59, 3) := by decide +kernel
theorem dX0_clearColumn_44 : decode cX0_clearColumn 44 = .ok (.iinc 3 1, 3) := by decide +kernel
theorem dX0_clearColumn_47 : decode cX0_clearColumn 47 = .ok (.goto (-45), 3) := by decide +kernel
theorem dX0_clearColumn_50 : decode cX0_clearColumn 50 = .ok (.return_, 1) := by decide +kernel
theorem dX0_takeOff_0 : decode cX0_takeOff 0 = .ok (.iconst 0, 1) := by decide +kernel
theorem dX0_takeOff_1 : decode cX0_takeOff 1 = .ok (.istore 5, 2) := by decide +kernel
theorem dX0_takeOff_3 : decode cX0_takeOff 3 = .ok (.iload 5, 2) := by decide +kernel
theorem dX0_takeOff_5 : decode cX0_takeOff 5 = .ok (.aload_n 0, 1) := by decide +kernel
theorem dX0_takeOff_6 : decode cX0_takeOff 6 = .ok (.getfield 24, 3) := by decide +kernel
theorem dX0_takeOff_9 : decode cX0_takeOff 9 = .ok (.if_icmp .ge 43, 3) := by decide +kernel
theorem dX0_takeOff_12 : decode cX0_takeOff 12 = .ok (.aload_n 0, 1) := by decide +kernel
theorem dX0_takeOff_13 : decode cX0_takeOff 13 = .ok (.getfield 13, 3) := by decide +kernel
theorem dX0_takeOff_16 : decode cX0_takeOff 16 = .ok (.iload_n 1, 1) := by decide +kernel
theorem dX0_takeOff_17 : decode cX0_takeOff 17 = .ok (.aaload, 1) := by decide +kernel
theorem dX0_takeOff_18 : decode cX0_takeOff 18 = .ok (.iload 5, 2) := by decide +kernel
theorem dX0_takeOff_20 : decode cX0_takeOff 20 = .ok (.aload_n 0, 1) := by decide +kernel
theorem dX0_takeOff_21 : decode cX0_takeOff 21 = .ok (.getfield 13, 3) := by decide +kernel
theorem dX0_takeOff_24 : decode cX0_takeOff 24 = .ok (.iload_n 1, 1) := by decide +kernel
theorem dX0_takeOff_25 : decode cX0_takeOff 25 = .ok (.aaload, 1) := by decide +kernel
theorem dX0_takeOff_26 : decode cX0_takeOff 26 = .ok (.iload 5, 2) := by decide +kernel
theorem dX0_takeOff_28 : decode cX0_takeOff 28 = .ok (.laload, 1) := by decide +kernel
theorem dX0_takeOff_29 : decode cX0_takeOff 29 = .ok (.lload_n 3, 1) := by decide +kernel
theorem dX0_takeOff_30 : decode cX0_takeOff 30 = .ok (.aload_n 0, 1) := by decide +kernel
theorem dX0_takeOff_31 : decode cX0_takeOff 31 = .ok (.getfield 13, 3) := by decide +kernel
theorem dX0_takeOff_34 : decode cX0_takeOff 34 = .ok (.iload_n 2, 1) := by decide +kernel
theorem dX0_takeOff_35 : decode cX0_takeOff 35 = .ok (.aaload, 1) := by decide +kernel
theorem dX0_takeOff_36 : decode cX0_takeOff 36 = .ok (.iload 5, 2) := by decide +kernel
theorem dX0_takeOff_38 : decode cX0_takeOff 38 = .ok (.laload, 1) := by decide +kernel
theorem dX0_takeOff_39 : decode cX0_takeOff 39 = .ok (.lmul, 1) := by decide +kernel
theorem dX0_takeOff_40 : decode cX0_takeOff 40 = .ok (.ladd, 1) := by decide +kernel
theorem dX0_takeOff_41 : decode cX0_takeOff 41 = .ok (.ldc2_w 36, 3) := by decide +kernel
theorem dX0_takeOff_44 : decode cX0_takeOff 44 = .ok (.lrem, 1) := by decide +kernel
theorem dX0_takeOff_45 : decode cX0_takeOff 45 = .ok (.lastore, 1) := by decide +kernel
theorem dX0_takeOff_46 : decode cX0_takeOff 46 = .ok (.iinc 5 1, 3) := by decide +kernel
theorem dX0_takeOff_49 : decode cX0_takeOff 49 = .ok (.goto (-46), 3) := by decide +kernel
theorem dX0_takeOff_52 : decode cX0_takeOff 52 = .ok (.return_, 1) := by decide +kernel
theorem dX0_inverse_0 : decode cX0_inverse 0 = .ok (.lconst 1, 1) := by decide +kernel
theorem dX0_inverse_1 : decode cX0_inverse 1 = .ok (.lstore_n 2, 1) := by decide +kernel
theorem dX0_inverse_2 : decode cX0_inverse 2 = .ok (.lload_n 0, 1) := by decide +kernel
theorem dX0_inverse_3 : decode cX0_inverse 3 = .ok (.lstore 4, 2) := by decide +kernel
theorem dX0_inverse_5 : decode cX0_inverse 5 = .ok (.ldc 63, 2) := by decide +kernel
theorem dX0_inverse_7 : decode cX0_inverse 7 = .ok (.istore 6, 2) := by decide +kernel
theorem dX0_inverse_9 : decode cX0_inverse 9 = .ok (.iload 6, 2) := by decide +kernel
theorem dX0_inverse_11 : decode cX0_inverse 11 = .ok (.ifCond .le 40, 3) := by decide +kernel
theorem dX0_inverse_14 : decode cX0_inverse 14 = .ok (.iload 6, 2) := by decide +kernel
theorem dX0_inverse_16 : decode cX0_inverse 16 = .ok (.iconst 1, 1) := by decide +kernel
theorem dX0_inverse_17 : decode cX0_inverse 17 = .ok (.iand, 1) := by decide +kernel
theorem dX0_inverse_18 : decode cX0_inverse 18 = .ok (.iconst 1, 1) := by decide +kernel
theorem dX0_inverse_19 : decode cX0_inverse 19 = .ok (.if_icmp .ne 12, 3) := by decide +kernel
theorem dX0_inverse_22 : decode cX0_inverse 22 = .ok (.lload_n 2, 1) := by decide +kernel
theorem dX0_inverse_23 : decode cX0_inverse 23 = .ok (.lload 4, 2) := by decide +kernel
theorem dX0_inverse_25 : decode cX0_inverse 25 = .ok (.lmul, 1) := by decide +kernel
theorem dX0_inverse_26 : decode cX0_inverse 26 = .ok (.ldc2_w 36, 3) := by decide +kernel
theorem dX0_inverse_29 : decode cX0_inverse 29 = .ok (.lrem, 1) := by decide +kernel
theorem dX0_inverse_30 : decode cX0_inverse 30 = .ok (.lstore_n 2, 1) := by decide +kernel
theorem dX0_inverse_31 : decode cX0_inverse 31 = .ok (.lload 4, 2) := by decide +kernel
theorem dX0_inverse_33 : decode cX0_inverse 33 = .ok (.lload 4, 2) := by decide +kernel
theorem dX0_inverse_35 : decode cX0_inverse 35 = .ok (.lmul, 1) := by decide +kernel
theorem dX0_inverse_36 : decode cX0_inverse 36 = .ok (.ldc2_w 36, 3) := by decide +kernel
theorem dX0_inverse_39 : decode cX0_inverse 39 = .ok (.lrem, 1) := by decide +kernel
theorem dX0_inverse_40 : decode cX0_inverse 40 = .ok (.lstore 4, 2) := by decide +kernel
theorem dX0_inverse_42 : decode cX0_inverse 42 = .ok (.iload 6, 2) := by decide +kernel
theorem dX0_inverse_44 : decode cX0_inverse 44 = .ok (.iconst 1, 1) := by decide +kernel
theorem dX0_inverse_45 : decode cX0_inverse 45 = .ok (.ishr, 1) := by decide +kernel
theorem dX0_inverse_46 : decode cX0_inverse 46 = .ok (.istore 6, 2) := by decide +kernel
theorem dX0_inverse_48 : decode cX0_inverse 48 = .ok (.goto (-39), 3) := by decide +kernel
theorem dX0_inverse_51 : decode cX0_inverse 51 = .ok (.lload_n 2, 1) := by decide +kernel
theorem dX0_inverse_52 : decode cX0_inverse 52 = .ok (.lreturn, 1) := by decide +kernel
theorem dX1_init_0 : decode cX1_init 0 = .ok (.aload_n 0, 1) := by decide +kernel
theorem dX1_init_1 : decode cX1_init 1 = .ok (.invokespecial 3, 3) := by decide +kernel
theorem dX1_init_4 : decode cX1_init 4 = .ok (.aload_n 0, 1) := by decide +kernel
theorem dX1_init_5 : decode cX1_init 5 = .ok (.bipush 10, 2) := by decide +kernel
theorem dX1_init_7 : decode cX1_init 7 = .ok (.newarray .int, 2) := by decide +kernel
theorem dX1_init_9 : decode cX1_init 9 = .ok (.putfield 9, 3) := by decide +kernel
theorem dX1_init_12 : decode cX1_init 12 = .ok (.aload_n 0, 1) := by decide +kernel
theorem dX1_init_13 : decode cX1_init 13 = .ok (.bipush 10, 2) := by decide +kernel
theorem dX1_init_15 : decode cX1_init 15 = .ok (.newarray .int, 2) := by decide +kernel
theorem dX1_init_17 : decode cX1_init 17 = .ok (.putfield 15, 3) := by decide +kernel
theorem dX1_init_20 : decode cX1_init 20 = .ok (.aload_n 0, 1) := by decide +kernel
theorem dX1_init_21 : decode cX1_init 21 = .ok (.bipush 10, 2) := by decide +kernel
theorem dX1_init_23 : decode cX1_init 23 = .ok (.newarray .boolean, 2) := by decide +kernel
theorem dX1_init_25 : decode cX1_init 25 = .ok (.putfield 18, 3) := by decide +kernel
theorem dX1_init_28 : decode cX1_init 28 = .ok (.aload_n 0, 1) := by decide +kernel
theorem dX1_init_29 : decode cX1_init 29 = .ok (.bipush 10, 2) := by decide +kernel
theorem dX1_init_31 : decode cX1_init 31 = .ok (.newarray .int, 2) := by decide +kernel
theorem dX1_init_33 : decode cX1_init 33 = .ok (.putfield 22, 3) := by decide +kernel
theorem dX1_init_36 : decode cX1_init 36 = .ok (.aload_n 0, 1) := by decide +kernel
theorem dX1_init_37 : decode cX1_init 37 = .ok (.iconst 0, 1) := by decide +kernel
theorem dX1_init_38 : decode cX1_init 38 = .ok (.putfield 25, 3) := by decide +kernel
theorem dX1_init_41 : decode cX1_init 41 = .ok (.return_, 1) := by decide +kernel
theorem dX1_has_0 : decode cX1_has 0 = .ok (.iload_n 1, 1) := by decide +kernel
theorem dX1_has_1 : decode cX1_has 1 = .ok (.ifCond .lt 15, 3) := by decide +kernel
theorem dX1_has_4 : decode cX1_has 4 = .ok (.iload_n 1, 1) := by decide +kernel
theorem dX1_has_5 : decode cX1_has 5 = .ok (.aload_n 0, 1) := by decide +kernel
theorem dX1_has_6 : decode cX1_has 6 = .ok (.getfield 25, 3) := by decide +kernel
theorem dX1_has_9 : decode cX1_has 9 = .ok (.if_icmp .ge 7, 3) := by decide +kernel
theorem dX1_has_12 : decode cX1_has 12 = .ok (.iconst 1, 1) := by decide +kernel
theorem dX1_has_13 : decode cX1_has 13 = .ok (.goto 4, 3) := by decide +kernel
theorem dX1_has_16 : decode cX1_has 16 = .ok (.iconst 0, 1) := by decide +kernel
theorem dX1_has_17 : decode cX1_has 17 = .ok (.ireturn, 1) := by decide +kernel
theorem dX1_add_0 : decode cX1_add 0 = .ok (.aload_n 0, 1) := by decide +kernel
theorem dX1_add_1 : decode cX1_add 1 = .ok (.getfield 25, 3) := by decide +kernel
theorem dX1_add_4 : decode cX1_add 4 = .ok (.bipush 10, 2) := by decide +kernel
theorem dX1_add_6 : decode cX1_add 6 = .ok (.if_icmp .lt 5, 3) := by decide +kernel
theorem dX1_add_9 : decode cX1_add 9 = .ok (.iconst (-1), 1) := by decide +kernel
theorem dX1_add_10 : decode cX1_add 10 = .ok (.ireturn, 1) := by decide +kernel
theorem dX1_add_11 : decode cX1_add 11 = .ok (.aload_n 0, 1) := by decide +kernel
theorem dX1_add_12 : decode cX1_add 12 = .ok (.getfield 9, 3) := by decide +kernel
theorem dX1_add_15 : decode cX1_add 15 = .ok (.aload_n 0, 1) := by decide +kernel
theorem dX1_add_16 : decode cX1_add 16 = .ok (.getfield 25, 3) := by decide +kernel
theorem dX1_add_19 : decode cX1_add 19 = .ok (.iload_n 1, 1) := by decide +kernel
theorem dX1_add_20 : decode cX1_add 20 = .ok (.iastore, 1) := by decide +kernel
theorem dX1_add_21 : decode cX1_add 21 = .ok (.aload_n 0, 1) := by decide +kernel
theorem dX1_add_22 : decode cX1_add 22 = .ok (.getfield 15, 3) := by decide +kernel
theorem dX1_add_25 : decode cX1_add 25 = .ok (.aload_n 0, 1) := by decide +kernel
theorem dX1_add_26 : decode cX1_add 26 = .ok (.getfield 25, 3) := by decide +kernel
theorem dX1_add_29 : decode cX1_add 29 = .ok (.iload_n 2, 1) := by decide +kernel
theorem dX1_add_30 : decode cX1_add 30 = .ok (.iastore, 1) := by decide +kernel
theorem dX1_add_31 : decode cX1_add 31 = .ok (.aload_n 0, 1) := by decide +kernel
theorem dX1_add_32 : decode cX1_add 32 = .ok (.getfield 18, 3) := by decide +kernel
theorem dX1_add_35 : decode cX1_add 35 = .ok (.aload_n 0, 1) := by decide +kernel
theorem dX1_add_36 : decode cX1_add 36 = .ok (.getfield 25, 3) := by decide +kernel
theorem dX1_add_39 : decode cX1_add 39 = .ok (.iconst 0, 1) := by decide +kernel
theorem dX1_add_40 : decode cX1_add 40 = .ok (.bastore, 1) := by decide +kernel
theorem dX1_add_41 : decode cX1_add 41 = .ok (.aload_n 0, 1) := by decide +kernel
theorem dX1_add_42 : decode cX1_add 42 = .ok (.getfield 22, 3) := by decide +kernel
theorem dX1_add_45 : decode cX1_add 45 = .ok (.aload_n 0, 1) := by decide +kernel
theorem dX1_add_46 : decode cX1_add 46 = .ok (.getfield 25, 3) := by decide +kernel
theorem dX1_add_49 : decode cX1_add 49 = .ok (.iconst (-1), 1) := by decide +kernel
theorem dX1_add_50 : decode cX1_add 50 = .ok (.iastore, 1) := by decide +kernel
theorem dX1_add_51 : decode cX1_add 51 = .ok (.aload_n 0, 1) := by decide +kernel
theorem dX1_add_52 : decode cX1_add 52 = .ok (.dup, 1) := by decide +kernel
theorem dX1_add_53 : decode cX1_add 53 = .ok (.getfield 25, 3) := by decide +kernel
theorem dX1_add_56 : decode cX1_add 56 = .ok (.iconst 1, 1) := by decide +kernel
theorem dX1_add_57 : decode cX1_add 57 = .ok (.iadd, 1) := by decide +kernel
theorem dX1_add_58 : decode cX1_add 58 = .ok (.putfield 25, 3) := by decide +kernel
theorem dX1_add_61 : decode cX1_add 61 = .ok (.aload_n 0, 1) := by decide +kernel
theorem dX1_add_62 : decode cX1_add 62 = .ok (.getfield 25, 3) := by decide +kernel
theorem dX1_add_65 : decode cX1_add 65 = .ok (.iconst 1, 1) := by decide +kernel
theorem dX1_add_66 : decode cX1_add 66 = .ok (.isub, 1) := by decide +kernel
theorem dX1_add_67 : decode cX1_add 67 = .ok (.ireturn, 1) := by decide +kernel
theorem dX1_dropLast_0 : decode cX1_dropLast 0 = .ok (.aload_n 0, 1) := by decide +kernel
theorem dX1_dropLast_1 : decode cX1_dropLast 1 = .ok (.getfield 25, 3) := by decide +kernel
theorem dX1_dropLast_4 : decode cX1_dropLast 4 = .ok (.ifCond .le 13, 3) := by decide +kernel
theorem dX1_dropLast_7 : decode cX1_dropLast 7 = .ok (.aload_n 0, 1) := by decide +kernel
theorem dX1_dropLast_8 : decode cX1_dropLast 8 = .ok (.dup, 1) := by decide +kernel
theorem dX1_dropLast_9 : decode cX1_dropLast 9 = .ok (.getfield 25, 3) := by decide +kernel
theorem dX1_dropLast_12 : decode cX1_dropLast 12 = .ok (.iconst 1, 1) := by decide +kernel
theorem dX1_dropLast_13 : decode cX1_dropLast 13 = .ok (.isub, 1) := by decide +kernel
theorem dX1_dropLast_14 : decode cX1_dropLast 14 = .ok (.putfield 25, 3) := by decide +kernel
theorem dX1_dropLast_17 : decode cX1_dropLast 17 = .ok (.return_, 1) := by decide +kernel
theorem dX1_all_0 : decode cX1_all 0 = .ok (.iconst 1, 1) := by decide +kernel
theorem dX1_all_1 : decode cX1_all 1 = .ok (.aload_n 0, 1) := by decide +kernel
theorem dX1_all_2 : decode cX1_all 2 = .ok (.getfield 25, 3) := by decide +kernel
theorem dX1_all_5 : decode cX1_all 5 = .ok (.ishl, 1) := by decide +kernel
theorem dX1_all_6 : decode cX1_all 6 = .ok (.iconst 1, 1) := by decide +kernel
theorem dX1_all_7 : decode cX1_all 7 = .ok (.isub, 1) := by decide +kernel
theorem dX1_all_8 : decode cX1_all 8 = .ok (.ireturn, 1) := by decide +kernel
theorem dX1_fits_0 : decode cX1_fits 0 = .ok (.iconst 0, 1) := by decide +kernel
theorem dX1_fits_1 : decode cX1_fits 1 = .ok (.istore 4, 2) := by decide +kernel
theorem dX1_fits_3 : decode cX1_fits 3 = .ok (.iload 4, 2) := by decide +kernel
theorem dX1_fits_5 : decode cX1_fits 5 = .ok (.aload_n 0, 1) := by decide +kernel
theorem dX1_fits_6 : decode cX1_fits 6 = .ok (.getfield 25, 3) := by decide +kernel
theorem dX1_fits_9 : decode cX1_fits 9 = .ok (.if_icmp .ge 78, 3) := by decide +kernel
theorem dX1_fits_12 : decode cX1_fits 12 = .ok (.aload_n 0, 1) := by decide +kernel
theorem dX1_fits_13 : decode cX1_fits 13 = .ok (.getfield 22, 3) := by decide +kernel
theorem dX1_fits_16 : decode cX1_fits 16 = .ok (.iload 4, 2) := by decide +kernel
theorem dX1_fits_18 : decode cX1_fits 18 = .ok (.iaload, 1) := by decide +kernel
theorem dX1_fits_19 : decode cX1_fits 19 = .ok (.iconst (-1), 1) := by decide +kernel
theorem dX1_fits_20 : decode cX1_fits 20 = .ok (.if_icmp .eq 61, 3) := by decide +kernel
theorem dX1_fits_23 : decode cX1_fits 23 = .ok (.iload_n 1, 1) := by decide +kernel
theorem dX1_fits_24 : decode cX1_fits 24 = .ok (.aload_n 0, 1) := by decide +kernel
theorem dX1_fits_25 : decode cX1_fits 25 = .ok (.getfield 9, 3) := by decide +kernel
theorem dX1_fits_28 : decode cX1_fits 28 = .ok (.iload 4, 2) := by decide +kernel
theorem dX1_fits_30 : decode cX1_fits 30 = .ok (.iaload, 1) := by decide +kernel
theorem dX1_fits_31 : decode cX1_fits 31 = .ok (.isub, 1) := by decide +kernel
theorem dX1_fits_32 : decode cX1_fits 32 = .ok (.istore 5, 2) := by decide +kernel
theorem dX1_fits_34 : decode cX1_fits 34 = .ok (.iload_n 2, 1) := by decide +kernel
theorem dX1_fits_35 : decode cX1_fits 35 = .ok (.aload_n 0, 1) := by decide +kernel
theorem dX1_fits_36 : decode cX1_fits 36 = .ok (.getfield 15, 3) := by decide +kernel
theorem dX1_fits_39 : decode cX1_fits 39 = .ok (.iload 4, 2) := by decide +kernel
theorem dX1_fits_41 : decode cX1_fits 41 = .ok (.iaload, 1) := by decide +kernel
theorem dX1_fits_42 : decode cX1_fits 42 = .ok (.isub, 1) := by decide +kernel
theorem dX1_fits_43 : decode cX1_fits 43 = .ok (.istore 6, 2) := by decide +kernel
theorem dX1_fits_45 : decode cX1_fits 45 = .ok (.iload 5, 2) := by decide +kernel
theorem dX1_fits_47 : decode cX1_fits 47 = .ok (.iload 5, 2) := by decide +kernel
theorem dX1_fits_49 : decode cX1_fits 49 = .ok (.imul, 1) := by decide +kernel
theorem dX1_fits_50 : decode cX1_fits 50 = .ok (.iload 6, 2) := by decide +kernel
theorem dX1_fits_52 : decode cX1_fits 52 = .ok (.iload 6, 2) := by decide +kernel
theorem dX1_fits_54 : decode cX1_fits 54 = .ok (.imul, 1) := by decide +kernel
theorem dX1_fits_55 : decode cX1_fits 55 = .ok (.iadd, 1) := by decide +kernel
theorem dX1_fits_56 : decode cX1_fits 56 = .ok (.aload_n 0, 1) := by decide +kernel
theorem dX1_fits_57 : decode cX1_fits 57 = .ok (.getfield 22, 3) := by decide +kernel
theorem dX1_fits_60 : decode cX1_fits 60 = .ok (.iload 4, 2) := by decide +kernel
theorem dX1_fits_62 : decode cX1_fits 62 = .ok (.iaload, 1) := by decide +kernel
theorem dX1_fits_63 : decode cX1_fits 63 = .ok (.isub, 1) := by decide +kernel
theorem dX1_fits_64 : decode cX1_fits 64 = .ok (.istore 7, 2) := by decide +kernel
theorem dX1_fits_66 : decode cX1_fits 66 = .ok (.iload 7, 2) := by decide +kernel
theorem dX1_fits_68 : decode cX1_fits 68 = .ok (.iload_n 3, 1) := by decide +kernel
theorem dX1_fits_69 : decode cX1_fits 69 = .ok (.if_icmp .gt 10, 3) := by decide +kernel
theorem dX1_fits_72 : decode cX1_fits 72 = .ok (.iload 7, 2) := by decide +kernel
theorem dX1_fits_74 : decode cX1_fits 74 = .ok (.iload_n 3, 1) := by decide +kernel
theorem dX1_fits_75 : decode cX1_fits 75 = .ok (.ineg, 1) := by decide +kernel
theorem dX1_fits_76 : decode cX1_fits 76 = .ok (.if_icmp .ge 5, 3) := by decide +kernel
theorem dX1_fits_79 : decode cX1_fits 79 = .ok (.iconst 0, 1) := by decide +kernel
theorem dX1_fits_80 : decode cX1_fits 80 = .ok (.ireturn, 1) := by decide +kernel
theorem dX1_fits_81 : decode cX1_fits 81 = .ok (.iinc 4 1, 3) := by decide +kernel
theorem dX1_fits_84 : decode cX1_fits 84 = .ok (.goto (-81), 3) := by decide +kernel
theorem dX1_fits_87 : decode cX1_fits 87 = .ok (.iconst 1, 1) := by decide +kernel
theorem dX1_fits_88 : decode cX1_fits 88 = .ok (.ireturn, 1) := by decide +kernel
theorem dX2_init_0 : decode cX2_init 0 = .ok (.aload_n 0, 1) := by decide +kernel
theorem dX2_init_1 : decode cX2_init 1 = .ok (.invokespecial 3, 3) := by decide +kernel
theorem dX2_init_4 : decode cX2_init 4 = .ok (.aload_n 0, 1) := by decide +kernel
theorem dX2_init_5 : decode cX2_init 5 = .ok (.bipush 10, 2) := by decide +kernel
theorem dX2_init_7 : decode cX2_init 7 = .ok (.newarray .int, 2) := by decide +kernel
theorem dX2_init_9 : decode cX2_init 9 = .ok (.putfield 9, 3) := by decide +kernel
theorem dX2_init_12 : decode cX2_init 12 = .ok (.aload_n 0, 1) := by decide +kernel
theorem dX2_init_13 : decode cX2_init 13 = .ok (.bipush 10, 2) := by decide +kernel
theorem dX2_init_15 : decode cX2_init 15 = .ok (.newarray .int, 2) := by decide +kernel
theorem dX2_init_17 : decode cX2_init 17 = .ok (.putfield 15, 3) := by decide +kernel
theorem dX2_init_20 : decode cX2_init 20 = .ok (.aload_n 0, 1) := by decide +kernel
theorem dX2_init_21 : decode cX2_init 21 = .ok (.bipush 10, 2) := by decide +kernel
theorem dX2_init_23 : decode cX2_init 23 = .ok (.newarray .int, 2) := by decide +kernel
theorem dX2_init_25 : decode cX2_init 25 = .ok (.putfield 18, 3) := by decide +kernel
theorem dX2_init_28 : decode cX2_init 28 = .ok (.aload_n 0, 1) := by decide +kernel
theorem dX2_init_29 : decode cX2_init 29 = .ok (.iconst 0, 1) := by decide +kernel
theorem dX2_init_30 : decode cX2_init 30 = .ok (.putfield 21, 3) := by decide +kernel
theorem dX2_init_33 : decode cX2_init 33 = .ok (.return_, 1) := by decide +kernel
theorem dX2_takeJoints_0 : decode cX2_takeJoints 0 = .ok (.aload_n 0, 1) := by decide +kernel
theorem dX2_takeJoints_1 : decode cX2_takeJoints 1 = .ok (.iconst 0, 1) := by decide +kernel
theorem dX2_takeJoints_2 : decode cX2_takeJoints 2 = .ok (.putfield 21, 3) := by decide +kernel
theorem dX2_takeJoints_5 : decode cX2_takeJoints 5 = .ok (.iconst 0, 1) := by decide +kernel
theorem dX2_takeJoints_6 : decode cX2_takeJoints 6 = .ok (.istore_n 2, 1) := by decide +kernel
theorem dX2_takeJoints_7 : decode cX2_takeJoints 7 = .ok (.iload_n 2, 1) := by decide +kernel
theorem dX2_takeJoints_8 : decode cX2_takeJoints 8 = .ok (.aload_n 1, 1) := by decide +kernel
theorem dX2_takeJoints_9 : decode cX2_takeJoints 9 = .ok (.getfield 25, 3) := by decide +kernel
theorem dX2_takeJoints_12 : decode cX2_takeJoints 12 = .ok (.if_icmp .ge 72, 3) := by decide +kernel
theorem dX2_takeJoints_15 : decode cX2_takeJoints 15 = .ok (.aload_n 0, 1) := by decide +kernel
theorem dX2_takeJoints_16 : decode cX2_takeJoints 16 = .ok (.getfield 9, 3) := by decide +kernel
theorem dX2_takeJoints_19 : decode cX2_takeJoints 19 = .ok (.iload_n 2, 1) := by decide +kernel
theorem dX2_takeJoints_20 : decode cX2_takeJoints 20 = .ok (.aload_n 1, 1) := by decide +kernel
theorem dX2_takeJoints_21 : decode cX2_takeJoints 21 = .ok (.getfield 30, 3) := by decide +kernel
theorem dX2_takeJoints_24 : decode cX2_takeJoints 24 = .ok (.iload_n 2, 1) := by decide +kernel
theorem dX2_takeJoints_25 : decode cX2_takeJoints 25 = .ok (.iaload, 1) := by decide +kernel
theorem dX2_takeJoints_26 : decode cX2_takeJoints 26 = .ok (.iastore, 1) := by decide +kernel
theorem dX2_takeJoints_27 : decode cX2_takeJoints 27 = .ok (.aload_n 0, 1) := by decide +kernel
theorem dX2_takeJoints_28 : decode cX2_takeJoints 28 = .ok (.getfield 15, 3) := by decide +kernel
theorem dX2_takeJoints_31 : decode cX2_takeJoints 31 = .ok (.iload_n 2, 1) := by decide +kernel
theorem dX2_takeJoints_32 : decode cX2_takeJoints 32 = .ok (.aload_n 1, 1) := by decide +kernel
theorem dX2_takeJoints_33 : decode cX2_takeJoints 33 = .ok (.getfield 31, 3) := by decide +kernel
theorem dX2_takeJoints_36 : decode cX2_takeJoints 36 = .ok (.iload_n 2, 1) := by decide +kernel
theorem dX2_takeJoints_37 : decode cX2_takeJoints 37 = .ok (.iaload, 1) := by decide +kernel
theorem dX2_takeJoints_38 : decode cX2_takeJoints 38 = .ok (.iastore, 1) := by decide +kernel
theorem dX2_takeJoints_39 : decode cX2_takeJoints 39 = .ok (.aload_n 1, 1) := by decide +kernel
theorem dX2_takeJoints_40 : decode cX2_takeJoints 40 = .ok (.getfield 32, 3) := by decide +kernel
theorem dX2_takeJoints_43 : decode cX2_takeJoints 43 = .ok (.iload_n 2, 1) := by decide +kernel
theorem dX2_takeJoints_44 : decode cX2_takeJoints 44 = .ok (.baload, 1) := by decide +kernel
theorem dX2_takeJoints_45 : decode cX2_takeJoints 45 = .ok (.ifCond .eq 13, 3) := by decide +kernel
theorem dX2_takeJoints_48 : decode cX2_takeJoints 48 = .ok (.aload_n 0, 1) := by decide +kernel
theorem dX2_takeJoints_49 : decode cX2_takeJoints 49 = .ok (.getfield 18, 3) := by decide +kernel
theorem dX2_takeJoints_52 : decode cX2_takeJoints 52 = .ok (.iload_n 2, 1) := by decide +kernel
theorem dX2_takeJoints_53 : decode cX2_takeJoints 53 = .ok (.iconst (-1), 1) := by decide +kernel
theorem dX2_takeJoints_54 : decode cX2_takeJoints 54 = .ok (.iastore, 1) := by decide +kernel
theorem dX2_takeJoints_55 : decode cX2_takeJoints 55 = .ok (.goto 23, 3) := by decide +kernel
theorem dX2_takeJoints_58 : decode cX2_takeJoints 58 = .ok (.aload_n 0, 1) := by decide +kernel
theorem dX2_takeJoints_59 : decode cX2_takeJoints 59 = .ok (.getfield 18, 3) := by decide +kernel
theorem dX2_takeJoints_62 : decode cX2_takeJoints 62 = .ok (.iload_n 2, 1) := by decide +kernel
theorem dX2_takeJoints_63 : decode cX2_takeJoints 63 = .ok (.aload_n 0, 1) := by decide +kernel
theorem dX2_takeJoints_64 : decode cX2_takeJoints 64 = .ok (.getfield 21, 3) := by decide +kernel
theorem dX2_takeJoints_67 : decode cX2_takeJoints 67 = .ok (.iastore, 1) := by decide +kernel
theorem dX2_takeJoints_68 : decode cX2_takeJoints 68 = .ok (.aload_n 0, 1) := by decide +kernel
theorem dX2_takeJoints_69 : decode cX2_takeJoints 69 = .ok (.dup, 1) := by decide +kernel
theorem dX2_takeJoints_70 : decode cX2_takeJoints 70 = .ok (.getfield 21, 3) := by decide +kernel
theorem dX2_takeJoints_73 : decode cX2_takeJoints 73 = .ok (.iconst 2, 1) := by decide +kernel
theorem dX2_takeJoints_74 : decode cX2_takeJoints 74 = .ok (.iadd, 1) := by decide +kernel
theorem dX2_takeJoints_75 : decode cX2_takeJoints 75 = .ok (.putfield 21, 3) := by decide +kernel
theorem dX2_takeJoints_78 : decode cX2_takeJoints 78 = .ok (.iinc 2 1, 3) := by decide +kernel
theorem dX2_takeJoints_81 : decode cX2_takeJoints 81 = .ok (.goto (-74), 3) := by decide +kernel
theorem dX2_takeJoints_84 : decode cX2_takeJoints 84 = .ok (.return_, 1) := by decide +kernel
set_option maxRecDepth 20000 in
theorem ggX2_drawPoints_X2_nextSeed : GoodIn wsX2_drawPoints wsX2_nextSeed := goodIn_r _ [8, 9, 10, 11] (by decide +kernel) (by decide +kernel)
set_option maxRecDepth 20000 in
theorem gX2_drawPoints_X2_nextSeed : GoodIn wsX2_drawPoints (va_wsS RX2 36 yX2_nextSeed wsX2_nextSeed) := goodIn_app (goodIn_of _ (by decide +kernel)) ggX2_drawPoints_X2_nextSeed
set_option maxRecDepth 20000 in
theorem ggX2_drawPoints_X2_cube : GoodIn wsX2_drawPoints wsX2_cube := goodIn_r _ [14, 11] (by decide +kernel) (by decide +kernel)
set_option maxRecDepth 20000 in
theorem gX2_drawPoints_X2_cube : GoodIn wsX2_drawPoints (va_wsS RX2 40 yX2_cube wsX2_cube) := goodIn_app (goodIn_of _ (by decide +kernel)) ggX2_drawPoints_X2_cube
theorem dX2_drawPoints_0 : decode cX2_drawPoints 0 = .ok (.iload_n 2, 1) := by decide +kernel
theorem dX2_drawPoints_1 : decode cX2_drawPoints 1 = .ok (.istore_n 3, 1) := by decide +kernel
theorem dX2_drawPoints_2 : decode cX2_drawPoints 2 = .ok (.iconst 0, 1) := by decide +kernel
theorem dX2_drawPoints_3 : decode cX2_drawPoints 3 = .ok (.istore 4, 2) := by decide +kernel
theorem dX2_drawPoints_5 : decode cX2_drawPoints 5 = .ok (.iload 4, 2) := by decide +kernel
theorem dX2_drawPoints_7 : decode cX2_drawPoints 7 = .ok (.iload_n 1, 1) := by decide +kernel
theorem dX2_drawPoints_8 : decode cX2_drawPoints 8 = .ok (.if_icmp .ge 59, 3) := by decide +kernel
theorem dX2_drawPoints_11 : decode cX2_drawPoints 11 = .ok (.iload 4, 2) := by decide +kernel
theorem dX2_drawPoints_13 : decode cX2_drawPoints 13 = .ok (.bipush 10, 2) := by decide +kernel
theorem dX2_drawPoints_15 : decode cX2_drawPoints 15 = .ok (.if_icmp .ge 52, 3) := by decide +kernel
theorem dX2_drawPoints_18 : decode cX2_drawPoints 18 = .ok (.iload_n 3, 1) := by decide +kernel
theorem dX2_drawPoints_19 : decode cX2_drawPoints 19 = .ok (.invokestatic 36, 3) := by decide +kernel
theorem dX2_drawPoints_22 : decode cX2_drawPoints 22 = .ok (.istore_n 3, 1) := by decide +kernel
theorem dX2_drawPoints_23 : decode cX2_drawPoints 23 = .ok (.aload_n 0, 1) := by decide +kernel
theorem dX2_drawPoints_24 : decode cX2_drawPoints 24 = .ok (.getfield 9, 3) := by decide +kernel
theorem dX2_drawPoints_27 : decode cX2_drawPoints 27 = .ok (.iload 4, 2) := by decide +kernel
theorem dX2_drawPoints_29 : decode cX2_drawPoints 29 = .ok (.iload_n 3, 1) := by decide +kernel
theorem dX2_drawPoints_30 : decode cX2_drawPoints 30 = .ok (.invokestatic 40, 3) := by decide +kernel
theorem dX2_drawPoints_33 : decode cX2_drawPoints 33 = .ok (.iastore, 1) := by decide +kernel
theorem dX2_drawPoints_34 : decode cX2_drawPoints 34 = .ok (.iload_n 3, 1) := by decide +kernel
theorem dX2_drawPoints_35 : decode cX2_drawPoints 35 = .ok (.invokestatic 36, 3) := by decide +kernel
theorem dX2_drawPoints_38 : decode cX2_drawPoints 38 = .ok (.istore_n 3, 1) := by decide +kernel
theorem dX2_drawPoints_39 : decode cX2_drawPoints 39 = .ok (.aload_n 0, 1) := by decide +kernel
theorem dX2_drawPoints_40 : decode cX2_drawPoints 40 = .ok (.getfield 15, 3) := by decide +kernel
theorem dX2_drawPoints_43 : decode cX2_drawPoints 43 = .ok (.iload 4, 2) := by decide +kernel
theorem dX2_drawPoints_45 : decode cX2_drawPoints 45 = .ok (.iload_n 3, 1) := by decide +kernel
theorem dX2_drawPoints_46 : decode cX2_drawPoints 46 = .ok (.invokestatic 40, 3) := by decide +kernel
theorem dX2_drawPoints_49 : decode cX2_drawPoints 49 = .ok (.iastore, 1) := by decide +kernel
theorem dX2_drawPoints_50 : decode cX2_drawPoints 50 = .ok (.aload_n 0, 1) := by decide +kernel
theorem dX2_drawPoints_51 : decode cX2_drawPoints 51 = .ok (.getfield 18, 3) := by decide +kernel
theorem dX2_drawPoints_54 : decode cX2_drawPoints 54 = .ok (.iload 4, 2) := by decide +kernel
theorem dX2_drawPoints_56 : decode cX2_drawPoints 56 = .ok (.iconst 2, 1) := by decide +kernel
theorem dX2_drawPoints_57 : decode cX2_drawPoints 57 = .ok (.iload 4, 2) := by decide +kernel
theorem dX2_drawPoints_59 : decode cX2_drawPoints 59 = .ok (.imul, 1) := by decide +kernel
theorem dX2_drawPoints_60 : decode cX2_drawPoints 60 = .ok (.iastore, 1) := by decide +kernel
theorem dX2_drawPoints_61 : decode cX2_drawPoints 61 = .ok (.iinc 4 1, 3) := by decide +kernel
theorem dX2_drawPoints_64 : decode cX2_drawPoints 64 = .ok (.goto (-59), 3) := by decide +kernel
theorem dX2_drawPoints_67 : decode cX2_drawPoints 67 = .ok (.aload_n 0, 1) := by decide +kernel
theorem dX2_drawPoints_68 : decode cX2_drawPoints 68 = .ok (.iconst 2, 1) := by decide +kernel
theorem dX2_drawPoints_69 : decode cX2_drawPoints 69 = .ok (.iload_n 1, 1) := by decide +kernel
theorem dX2_drawPoints_70 : decode cX2_drawPoints 70 = .ok (.imul, 1) := by decide +kernel
theorem dX2_drawPoints_71 : decode cX2_drawPoints 71 = .ok (.putfield 21, 3) := by decide +kernel
theorem dX2_drawPoints_74 : decode cX2_drawPoints 74 = .ok (.return_, 1) := by decide +kernel
theorem dX2_nextSeed_0 : decode cX2_nextSeed 0 = .ok (.ldc2_w 43, 3) := by decide +kernel
theorem dX2_nextSeed_3 : decode cX2_nextSeed 3 = .ok (.iload_n 0, 1) := by decide +kernel
theorem dX2_nextSeed_4 : decode cX2_nextSeed 4 = .ok (.i2l, 1) := by decide +kernel
theorem dX2_nextSeed_5 : decode cX2_nextSeed 5 = .ok (.lmul, 1) := by decide +kernel
theorem dX2_nextSeed_6 : decode cX2_nextSeed 6 = .ok (.ldc2_w 45, 3) := by decide +kernel
theorem dX2_nextSeed_9 : decode cX2_nextSeed 9 = .ok (.ladd, 1) := by decide +kernel
theorem dX2_nextSeed_10 : decode cX2_nextSeed 10 = .ok (.ldc2_w 47, 3) := by decide +kernel
theorem dX2_nextSeed_13 : decode cX2_nextSeed 13 = .ok (.lrem, 1) := by decide +kernel
theorem dX2_nextSeed_14 : decode cX2_nextSeed 14 = .ok (.l2i, 1) := by decide +kernel
theorem dX2_nextSeed_15 : decode cX2_nextSeed 15 = .ok (.ireturn, 1) := by decide +kernel
theorem dX2_cube_0 : decode cX2_cube 0 = .ok (.iload_n 0, 1) := by decide +kernel
theorem dX2_cube_1 : decode cX2_cube 1 = .ok (.i2l, 1) := by decide +kernel
theorem dX2_cube_2 : decode cX2_cube 2 = .ok (.iload_n 0, 1) := by decide +kernel
theorem dX2_cube_3 : decode cX2_cube 3 = .ok (.i2l, 1) := by decide +kernel
theorem dX2_cube_4 : decode cX2_cube 4 = .ok (.lmul, 1) := by decide +kernel
theorem dX2_cube_5 : decode cX2_cube 5 = .ok (.ldc2_w 47, 3) := by decide +kernel
theorem dX2_cube_8 : decode cX2_cube 8 = .ok (.lrem, 1) := by decide +kernel
theorem dX2_cube_9 : decode cX2_cube 9 = .ok (.lstore_n 1, 1) := by decide +kernel
theorem dX2_cube_10 : decode cX2_cube 10 = .ok (.lload_n 1, 1) := by decide +kernel
theorem dX2_cube_11 : decode cX2_cube 11 = .ok (.iload_n 0, 1) := by decide +kernel
theorem dX2_cube_12 : decode cX2_cube 12 = .ok (.i2l, 1) := by decide +kernel
theorem dX2_cube_13 : decode cX2_cube 13 = .ok (.lmul, 1) := by decide +kernel
theorem dX2_cube_14 : decode cX2_cube 14 = .ok (.ldc2_w 47, 3) := by decide +kernel
theorem dX2_cube_17 : decode cX2_cube 17 = .ok (.lrem, 1) := by decide +kernel
theorem dX2_cube_18 : decode cX2_cube 18 = .ok (.l2i, 1) := by decide +kernel
theorem dX2_cube_19 : decode cX2_cube 19 = .ok (.ireturn, 1) := by decide +kernel
theorem dX3_init_0 : decode cX3_init 0 = .ok (.aload_n 0, 1) := by decide +kernel
theorem dX3_init_1 : decode cX3_init 1 = .ok (.invokespecial 3, 3) := by decide +kernel
theorem dX3_init_4 : decode cX3_init 4 = .ok (.aload_n 0, 1) := by decide +kernel
theorem dX3_init_5 : decode cX3_init 5 = .ok (.bipush 40, 2) := by decide +kernel
theorem dX3_init_7 : decode cX3_init 7 = .ok (.newarray .int, 2) := by decide +kernel
theorem dX3_init_9 : decode cX3_init 9 = .ok (.putfield 9, 3) := by decide +kernel
theorem dX3_init_12 : decode cX3_init 12 = .ok (.aload_n 0, 1) := by decide +kernel
theorem dX3_init_13 : decode cX3_init 13 = .ok (.bipush 40, 2) := by decide +kernel
theorem dX3_init_15 : decode cX3_init 15 = .ok (.newarray .int, 2) := by decide +kernel
theorem dX3_init_17 : decode cX3_init 17 = .ok (.putfield 15, 3) := by decide +kernel
theorem dX3_init_20 : decode cX3_init 20 = .ok (.aload_n 0, 1) := by decide +kernel
theorem dX3_init_21 : decode cX3_init 21 = .ok (.bipush 40, 2) := by decide +kernel
theorem dX3_init_23 : decode cX3_init 23 = .ok (.newarray .int, 2) := by decide +kernel
theorem dX3_init_25 : decode cX3_init 25 = .ok (.putfield 18, 3) := by decide +kernel
theorem dX3_init_28 : decode cX3_init 28 = .ok (.aload_n 0, 1) := by decide +kernel
theorem dX3_init_29 : decode cX3_init 29 = .ok (.bipush 40, 2) := by decide +kernel
theorem dX3_init_31 : decode cX3_init 31 = .ok (.newarray .int, 2) := by decide +kernel
theorem dX3_init_33 : decode cX3_init 33 = .ok (.putfield 21, 3) := by decide +kernel
theorem dX3_init_36 : decode cX3_init 36 = .ok (.aload_n 0, 1) := by decide +kernel
theorem dX3_init_37 : decode cX3_init 37 = .ok (.bipush 40, 2) := by decide +kernel
theorem dX3_init_39 : decode cX3_init 39 = .ok (.newarray .boolean, 2) := by decide +kernel
theorem dX3_init_41 : decode cX3_init 41 = .ok (.putfield 24, 3) := by decide +kernel
theorem dX3_init_44 : decode cX3_init 44 = .ok (.aload_n 0, 1) := by decide +kernel
theorem dX3_init_45 : decode cX3_init 45 = .ok (.iconst 0, 1) := by decide +kernel
theorem dX3_init_46 : decode cX3_init 46 = .ok (.putfield 28, 3) := by decide +kernel
theorem dX3_init_49 : decode cX3_init 49 = .ok (.return_, 1) := by decide +kernel
theorem dX3_has_0 : decode cX3_has 0 = .ok (.iload_n 1, 1) := by decide +kernel
theorem dX3_has_1 : decode cX3_has 1 = .ok (.ifCond .lt 24, 3) := by decide +kernel
theorem dX3_has_4 : decode cX3_has 4 = .ok (.iload_n 1, 1) := by decide +kernel
theorem dX3_has_5 : decode cX3_has 5 = .ok (.aload_n 0, 1) := by decide +kernel
theorem dX3_has_6 : decode cX3_has 6 = .ok (.getfield 28, 3) := by decide +kernel
theorem dX3_has_9 : decode cX3_has 9 = .ok (.if_icmp .ge 16, 3) := by decide +kernel
theorem dX3_has_12 : decode cX3_has 12 = .ok (.aload_n 0, 1) := by decide +kernel
theorem dX3_has_13 : decode cX3_has 13 = .ok (.getfield 24, 3) := by decide +kernel
theorem dX3_has_16 : decode cX3_has 16 = .ok (.iload_n 1, 1) := by decide +kernel
theorem dX3_has_17 : decode cX3_has 17 = .ok (.baload, 1) := by decide +kernel
theorem dX3_has_18 : decode cX3_has 18 = .ok (.ifCond .ne 7, 3) := by decide +kernel
theorem dX3_has_21 : decode cX3_has 21 = .ok (.iconst 1, 1) := by decide +kernel
theorem dX3_has_22 : decode cX3_has 22 = .ok (.goto 4, 3) := by decide +kernel
theorem dX3_has_25 : decode cX3_has 25 = .ok (.iconst 0, 1) := by decide +kernel
theorem dX3_has_26 : decode cX3_has 26 = .ok (.ireturn, 1) := by decide +kernel
theorem dX3_add_0 : decode cX3_add 0 = .ok (.aload_n 0, 1) := by decide +kernel
theorem dX3_add_1 : decode cX3_add 1 = .ok (.getfield 28, 3) := by decide +kernel
theorem dX3_add_4 : decode cX3_add 4 = .ok (.bipush 40, 2) := by decide +kernel
theorem dX3_add_6 : decode cX3_add 6 = .ok (.if_icmp .lt 5, 3) := by decide +kernel
theorem dX3_add_9 : decode cX3_add 9 = .ok (.iconst (-1), 1) := by decide +kernel
theorem dX3_add_10 : decode cX3_add 10 = .ok (.ireturn, 1) := by decide +kernel
theorem dX3_add_11 : decode cX3_add 11 = .ok (.aload_n 0, 1) := by decide +kernel
theorem dX3_add_12 : decode cX3_add 12 = .ok (.getfield 9, 3) := by decide +kernel
theorem dX3_add_15 : decode cX3_add 15 = .ok (.aload_n 0, 1) := by decide +kernel
theorem dX3_add_16 : decode cX3_add 16 = .ok (.getfield 28, 3) := by decide +kernel
theorem dX3_add_19 : decode cX3_add 19 = .ok (.iload_n 1, 1) := by decide +kernel
theorem dX3_add_20 : decode cX3_add 20 = .ok (.iastore, 1) := by decide +kernel
theorem dX3_add_21 : decode cX3_add 21 = .ok (.aload_n 0, 1) := by decide +kernel
theorem dX3_add_22 : decode cX3_add 22 = .ok (.getfield 15, 3) := by decide +kernel
theorem dX3_add_25 : decode cX3_add 25 = .ok (.aload_n 0, 1) := by decide +kernel
theorem dX3_add_26 : decode cX3_add 26 = .ok (.getfield 28, 3) := by decide +kernel
theorem dX3_add_29 : decode cX3_add 29 = .ok (.iload_n 2, 1) := by decide +kernel
theorem dX3_add_30 : decode cX3_add 30 = .ok (.iastore, 1) := by decide +kernel
theorem dX3_add_31 : decode cX3_add 31 = .ok (.aload_n 0, 1) := by decide +kernel
theorem dX3_add_32 : decode cX3_add 32 = .ok (.getfield 18, 3) := by decide +kernel
theorem dX3_add_35 : decode cX3_add 35 = .ok (.aload_n 0, 1) := by decide +kernel
theorem dX3_add_36 : decode cX3_add 36 = .ok (.getfield 28, 3) := by decide +kernel
theorem dX3_add_39 : decode cX3_add 39 = .ok (.iload_n 3, 1) := by decide +kernel
theorem dX3_add_40 : decode cX3_add 40 = .ok (.iastore, 1) := by decide +kernel
theorem dX3_add_41 : decode cX3_add 41 = .ok (.aload_n 0, 1) := by decide +kernel
theorem dX3_add_42 : decode cX3_add 42 = .ok (.dup, 1) := by decide +kernel
theorem dX3_add_43 : decode cX3_add 43 = .ok (.getfield 28, 3) := by decide +kernel
theorem dX3_add_46 : decode cX3_add 46 = .ok (.iconst 1, 1) := by decide +kernel
theorem dX3_add_47 : decode cX3_add 47 = .ok (.iadd, 1) := by decide +kernel
theorem dX3_add_48 : decode cX3_add 48 = .ok (.putfield 28, 3) := by decide +kernel
theorem dX3_add_51 : decode cX3_add 51 = .ok (.aload_n 0, 1) := by decide +kernel
theorem dX3_add_52 : decode cX3_add 52 = .ok (.getfield 28, 3) := by decide +kernel
theorem dX3_add_55 : decode cX3_add 55 = .ok (.iconst 1, 1) := by decide +kernel
theorem dX3_add_56 : decode cX3_add 56 = .ok (.isub, 1) := by decide +kernel
theorem dX3_add_57 : decode cX3_add 57 = .ok (.ireturn, 1) := by decide +kernel
set_option maxRecDepth 20000 in
theorem ggX3_present_X3_presentAhead : GoodIn wsX3_present wsX3_presentAhead := goodIn_r _ [6, 7, 8, 9, 5, 10, 1, 11, 12, 13, 14, 15, 16, 17] (by decide +kernel) (by decide +kernel)
set_option maxRecDepth 20000 in
theorem gX3_present_X3_presentAhead : GoodIn wsX3_present (wsV RX3 32 RX3 yX3_presentAhead wsX3_presentAhead) := goodIn_app (goodIn_of _ (by decide +kernel)) ggX3_present_X3_presentAhead
theorem dX3_present_0 : decode cX3_present 0 = .ok (.aload_n 0, 1) := by decide +kernel
theorem dX3_present_1 : decode cX3_present 1 = .ok (.aload_n 0, 1) := by decide +kernel
theorem dX3_present_2 : decode cX3_present 2 = .ok (.getfield 28, 3) := by decide +kernel
theorem dX3_present_5 : decode cX3_present 5 = .ok (.invokevirtual 32, 3) := by decide +kernel
theorem dX3_present_8 : decode cX3_present 8 = .ok (.ireturn, 1) := by decide +kernel
set_option maxRecDepth 20000 in
theorem ggX3_presentAhead_X3_has : GoodIn wsX3_presentAhead wsX3_has := goodIn_r _ [5, 6, 7, 8, 9, 10, 11, 12, 13] (by decide +kernel) (by decide +kernel)
set_option maxRecDepth 20000 in
theorem gX3_presentAhead_X3_has : GoodIn wsX3_presentAhead (wsV RX3 36 RX3 yX3_has wsX3_has) := goodIn_app (goodIn_of _ (by decide +kernel)) ggX3_presentAhead_X3_has
theorem dX3_presentAhead_0 : decode cX3_presentAhead 0 = .ok (.iconst 0, 1) := by decide +kernel
theorem dX3_presentAhead_1 : decode cX3_presentAhead 1 = .ok (.istore_n 2, 1) := by decide +kernel
theorem dX3_presentAhead_2 : decode cX3_presentAhead 2 = .ok (.iconst 0, 1) := by decide +kernel
theorem dX3_presentAhead_3 : decode cX3_presentAhead 3 = .ok (.istore_n 3, 1) := by decide +kernel
theorem dX3_presentAhead_4 : decode cX3_presentAhead 4 = .ok (.iload_n 3, 1) := by decide +kernel
theorem dX3_presentAhead_5 : decode cX3_presentAhead 5 = .ok (.iload_n 1, 1) := by decide +kernel
theorem dX3_presentAhead_6 : decode cX3_presentAhead 6 = .ok (.if_icmp .ge 20, 3) := by decide +kernel
theorem dX3_presentAhead_9 : decode cX3_presentAhead 9 = .ok (.aload_n 0, 1) := by decide +kernel
theorem dX3_presentAhead_10 : decode cX3_presentAhead 10 = .ok (.iload_n 3, 1) := by decide +kernel
theorem dX3_presentAhead_11 : decode cX3_presentAhead 11 = .ok (.invokevirtual 36, 3) := by decide +kernel
theorem dX3_presentAhead_14 : decode cX3_presentAhead 14 = .ok (.ifCond .eq 6, 3) := by decide +kernel
theorem dX3_presentAhead_17 : decode cX3_presentAhead 17 = .ok (.iinc 2 1, 3) := by decide +kernel
theorem dX3_presentAhead_20 : decode cX3_presentAhead 20 = .ok (.iinc 3 1, 3) := by decide +kernel
theorem dX3_presentAhead_23 : decode cX3_presentAhead 23 = .ok (.goto (-19), 3) := by decide +kernel
theorem dX3_presentAhead_26 : decode cX3_presentAhead 26 = .ok (.iload_n 2, 1) := by decide +kernel
theorem dX3_presentAhead_27 : decode cX3_presentAhead 27 = .ok (.ireturn, 1) := by decide +kernel
theorem dX3_endsAt_0 : decode cX3_endsAt 0 = .ok (.aload_n 0, 1) := by decide +kernel
theorem dX3_endsAt_1 : decode cX3_endsAt 1 = .ok (.getfield 9, 3) := by decide +kernel
theorem dX3_endsAt_4 : decode cX3_endsAt 4 = .ok (.iload_n 1, 1) := by decide +kernel
theorem dX3_endsAt_5 : decode cX3_endsAt 5 = .ok (.iaload, 1) := by decide +kernel
theorem dX3_endsAt_6 : decode cX3_endsAt 6 = .ok (.iload_n 2, 1) := by decide +kernel
theorem dX3_endsAt_7 : decode cX3_endsAt 7 = .ok (.if_icmp .eq 13, 3) := by decide +kernel
theorem dX3_endsAt_10 : decode cX3_endsAt 10 = .ok (.aload_n 0, 1) := by decide +kernel
theorem dX3_endsAt_11 : decode cX3_endsAt 11 = .ok (.getfield 15, 3) := by decide +kernel
theorem dX3_endsAt_14 : decode cX3_endsAt 14 = .ok (.iload_n 1, 1) := by decide +kernel
theorem dX3_endsAt_15 : decode cX3_endsAt 15 = .ok (.iaload, 1) := by decide +kernel
theorem dX3_endsAt_16 : decode cX3_endsAt 16 = .ok (.iload_n 2, 1) := by decide +kernel
theorem dX3_endsAt_17 : decode cX3_endsAt 17 = .ok (.if_icmp .ne 7, 3) := by decide +kernel
theorem dX3_endsAt_20 : decode cX3_endsAt 20 = .ok (.iconst 1, 1) := by decide +kernel
theorem dX3_endsAt_21 : decode cX3_endsAt 21 = .ok (.goto 4, 3) := by decide +kernel
theorem dX3_endsAt_24 : decode cX3_endsAt 24 = .ok (.iconst 0, 1) := by decide +kernel
theorem dX3_endsAt_25 : decode cX3_endsAt 25 = .ok (.ireturn, 1) := by decide +kernel
set_option maxRecDepth 20000 in
theorem ggX3_endingAt_X3_has : GoodIn wsX3_endingAt wsX3_has := goodIn_r _ [6, 1, 7, 14, 15, 16, 17, 18, 19] (by decide +kernel) (by decide +kernel)
set_option maxRecDepth 20000 in
theorem gX3_endingAt_X3_has : GoodIn wsX3_endingAt (wsV RX3 36 RX3 yX3_has wsX3_has) := goodIn_app (goodIn_of _ (by decide +kernel)) ggX3_endingAt_X3_has
set_option maxRecDepth 20000 in
theorem ggX3_endingAt_X3_endsAt : GoodIn wsX3_endingAt wsX3_endsAt := goodIn_r _ [11, 12, 13, 14, 15, 16, 17, 18, 19] (by decide +kernel) (by decide +kernel)
set_option maxRecDepth 20000 in
theorem gX3_endingAt_X3_endsAt : GoodIn wsX3_endingAt (wsV RX3 40 RX3 yX3_endsAt wsX3_endsAt) := goodIn_app (goodIn_of _ (by decide +kernel)) ggX3_endingAt_X3_endsAt
theorem dX3_endingAt_0 : decode cX3_endingAt 0 = .ok (.iconst 0, 1) := by decide +kernel
theorem dX3_endingAt_1 : decode cX3_endingAt 1 = .ok (.istore_n 2, 1) := by decide +kernel
theorem dX3_endingAt_2 : decode cX3_endingAt 2 = .ok (.iconst 0, 1) := by decide +kernel
theorem dX3_endingAt_3 : decode cX3_endingAt 3 = .ok (.istore_n 3, 1) := by decide +kernel
theorem dX3_endingAt_4 : decode cX3_endingAt 4 = .ok (.iload_n 3, 1) := by decide +kernel
theorem dX3_endingAt_5 : decode cX3_endingAt 5 = .ok (.aload_n 0, 1) := by decide +kernel
theorem dX3_endingAt_6 : decode cX3_endingAt 6 = .ok (.getfield 28, 3) := by decide +kernel
theorem dX3_endingAt_9 : decode cX3_endingAt 9 = .ok (.if_icmp .ge 29, 3) := by decide +kernel
theorem dX3_endingAt_12 : decode cX3_endingAt 12 = .ok (.aload_n 0, 1) := by decide +kernel
theorem dX3_endingAt_13 : decode cX3_endingAt 13 = .ok (.iload_n 3, 1) := by decide +kernel
theorem dX3_endingAt_14 : decode cX3_endingAt 14 = .ok (.invokevirtual 36, 3) := by decide +kernel
theorem dX3_endingAt_17 : decode cX3_endingAt 17 = .ok (.ifCond .eq 15, 3) := by decide +kernel
theorem dX3_endingAt_20 : decode cX3_endingAt 20 = .ok (.aload_n 0, 1) := by decide +kernel
theorem dX3_endingAt_21 : decode cX3_endingAt 21 = .ok (.iload_n 3, 1) := by decide +kernel
theorem dX3_endingAt_22 : decode cX3_endingAt 22 = .ok (.iload_n 1, 1) := by decide +kernel
theorem dX3_endingAt_23 : decode cX3_endingAt 23 = .ok (.invokevirtual 40, 3) := by decide +kernel
theorem dX3_endingAt_26 : decode cX3_endingAt 26 = .ok (.ifCond .eq 6, 3) := by decide +kernel
theorem dX3_endingAt_29 : decode cX3_endingAt 29 = .ok (.iinc 2 1, 3) := by decide +kernel
theorem dX3_endingAt_32 : decode cX3_endingAt 32 = .ok (.iinc 3 1, 3) := by decide +kernel
theorem dX3_endingAt_35 : decode cX3_endingAt 35 = .ok (.goto (-31), 3) := by decide +kernel
theorem dX3_endingAt_38 : decode cX3_endingAt 38 = .ok (.iload_n 2, 1) := by decide +kernel
theorem dX3_endingAt_39 : decode cX3_endingAt 39 = .ok (.ireturn, 1) := by decide +kernel
set_option maxRecDepth 20000 in
theorem ggX3_join_X3_has : GoodIn wsX3_join wsX3_has := goodIn_r _ [6, 1, 7, 14, 15, 16, 17, 18, 19] (by decide +kernel) (by decide +kernel)
set_option maxRecDepth 20000 in
theorem gX3_join_X3_has : GoodIn wsX3_join (wsV RX3 36 RX3 yX3_has wsX3_has) := goodIn_app (goodIn_of _ (by decide +kernel)) ggX3_join_X3_has
set_option maxRecDepth 20000 in
theorem ggX3_join_X3_endsAt : GoodIn wsX3_join wsX3_endsAt := goodIn_r _ [11, 12, 13, 14, 15, 16, 17, 18, 19] (by decide +kernel) (by decide +kernel)
set_option maxRecDepth 20000 in
theorem gX3_join_X3_endsAt : GoodIn wsX3_join (wsV RX3 40 RX3 yX3_endsAt wsX3_endsAt) := goodIn_app (goodIn_of _ (by decide +kernel)) ggX3_join_X3_endsAt
theorem dX3_join_0 : decode cX3_join 0 = .ok (.iconst 0, 1) := by decide +kernel
theorem dX3_join_1 : decode cX3_join 1 = .ok (.istore_n 3, 1) := by decide +kernel
theorem dX3_join_2 : decode cX3_join 2 = .ok (.iload_n 3, 1) := by decide +kernel
theorem dX3_join_3 : decode cX3_join 3 = .ok (.aload_n 0, 1) := by decide +kernel
theorem dX3_join_4 : decode cX3_join 4 = .ok (.getfield 28, 3) := by decide +kernel
theorem dX3_join_7 : decode cX3_join 7 = .ok (.if_icmp .ge 37, 3) := by decide +kernel
theorem dX3_join_10 : decode cX3_join 10 = .ok (.aload_n 0, 1) := by decide +kernel
theorem dX3_join_11 : decode cX3_join 11 = .ok (.iload_n 3, 1) := by decide +kernel
theorem dX3_join_12 : decode cX3_join 12 = .ok (.invokevirtual 36, 3) := by decide +kernel
theorem dX3_join_15 : decode cX3_join 15 = .ok (.ifCond .eq 23, 3) := by decide +kernel
theorem dX3_join_18 : decode cX3_join 18 = .ok (.aload_n 0, 1) := by decide +kernel
theorem dX3_join_19 : decode cX3_join 19 = .ok (.iload_n 3, 1) := by decide +kernel
theorem dX3_join_20 : decode cX3_join 20 = .ok (.iload_n 1, 1) := by decide +kernel
theorem dX3_join_21 : decode cX3_join 21 = .ok (.invokevirtual 40, 3) := by decide +kernel
theorem dX3_join_24 : decode cX3_join 24 = .ok (.ifCond .eq 14, 3) := by decide +kernel
theorem dX3_join_27 : decode cX3_join 27 = .ok (.aload_n 0, 1) := by decide +kernel
theorem dX3_join_28 : decode cX3_join 28 = .ok (.iload_n 3, 1) := by decide +kernel
theorem dX3_join_29 : decode cX3_join 29 = .ok (.iload_n 2, 1) := by decide +kernel
theorem dX3_join_30 : decode cX3_join 30 = .ok (.invokevirtual 40, 3) := by decide +kernel
theorem dX3_join_33 : decode cX3_join 33 = .ok (.ifCond .eq 5, 3) := by decide +kernel
theorem dX3_join_36 : decode cX3_join 36 = .ok (.iconst 1, 1) := by decide +kernel
theorem dX3_join_37 : decode cX3_join 37 = .ok (.ireturn, 1) := by decide +kernel
theorem dX3_join_38 : decode cX3_join 38 = .ok (.iinc 3 1, 3) := by decide +kernel
theorem dX3_join_41 : decode cX3_join 41 = .ok (.goto (-39), 3) := by decide +kernel
theorem dX3_join_44 : decode cX3_join 44 = .ok (.iconst 0, 1) := by decide +kernel
theorem dX3_join_45 : decode cX3_join 45 = .ok (.ireturn, 1) := by decide +kernel
theorem dX3_isWronglyTold_0 : decode cX3_isWronglyTold 0 = .ok (.aload_n 0, 1) := by decide +kernel
theorem dX3_isWronglyTold_1 : decode cX3_isWronglyTold 1 = .ok (.getfield 18, 3) := by decide +kernel
theorem dX3_isWronglyTold_4 : decode cX3_isWronglyTold 4 = .ok (.iload_n 1, 1) := by decide +kernel
theorem dX3_isWronglyTold_5 : decode cX3_isWronglyTold 5 = .ok (.iaload, 1) := by decide +kernel
theorem dX3_isWronglyTold_6 : decode cX3_isWronglyTold 6 = .ok (.iconst 1, 1) := by decide +kernel
theorem dX3_isWronglyTold_7 : decode cX3_isWronglyTold 7 = .ok (.if_icmp .ne 12, 3) := by decide +kernel
theorem dX3_isWronglyTold_10 : decode cX3_isWronglyTold 10 = .ok (.aload_n 0, 1) := by decide +kernel
theorem dX3_isWronglyTold_11 : decode cX3_isWronglyTold 11 = .ok (.getfield 21, 3) := by decide +kernel
theorem dX3_isWronglyTold_14 : decode cX3_isWronglyTold 14 = .ok (.iload_n 1, 1) := by decide +kernel
theorem dX3_isWronglyTold_15 : decode cX3_isWronglyTold 15 = .ok (.iaload, 1) := by decide +kernel
theorem dX3_isWronglyTold_16 : decode cX3_isWronglyTold 16 = .ok (.ifCond .lt 22, 3) := by decide +kernel
theorem dX3_isWronglyTold_19 : decode cX3_isWronglyTold 19 = .ok (.aload_n 0, 1) := by decide +kernel
theorem dX3_isWronglyTold_20 : decode cX3_isWronglyTold 20 = .ok (.getfield 18, 3) := by decide +kernel
theorem dX3_isWronglyTold_23 : decode cX3_isWronglyTold 23 = .ok (.iload_n 1, 1) := by decide +kernel
theorem dX3_isWronglyTold_24 : decode cX3_isWronglyTold 24 = .ok (.iaload, 1) := by decide +kernel
theorem dX3_isWronglyTold_25 : decode cX3_isWronglyTold 25 = .ok (.iconst 2, 1) := by decide +kernel
theorem dX3_isWronglyTold_26 : decode cX3_isWronglyTold 26 = .ok (.if_icmp .ne 16, 3) := by decide +kernel
theorem dX3_isWronglyTold_29 : decode cX3_isWronglyTold 29 = .ok (.aload_n 0, 1) := by decide +kernel
theorem dX3_isWronglyTold_30 : decode cX3_isWronglyTold 30 = .ok (.getfield 21, 3) := by decide +kernel
theorem dX3_isWronglyTold_33 : decode cX3_isWronglyTold 33 = .ok (.iload_n 1, 1) := by decide +kernel
theorem dX3_isWronglyTold_34 : decode cX3_isWronglyTold 34 = .ok (.iaload, 1) := by decide +kernel
theorem dX3_isWronglyTold_35 : decode cX3_isWronglyTold 35 = .ok (.ifCond .le 7, 3) := by decide +kernel
theorem dX3_isWronglyTold_38 : decode cX3_isWronglyTold 38 = .ok (.iconst 1, 1) := by decide +kernel
theorem dX3_isWronglyTold_39 : decode cX3_isWronglyTold 39 = .ok (.goto 4, 3) := by decide +kernel
theorem dX3_isWronglyTold_42 : decode cX3_isWronglyTold 42 = .ok (.iconst 0, 1) := by decide +kernel
theorem dX3_isWronglyTold_43 : decode cX3_isWronglyTold 43 = .ok (.ireturn, 1) := by decide +kernel
set_option maxRecDepth 20000 in
theorem ggX3_spread_X6_bit : GoodIn wsX3_spread wsX6_bit := goodIn_r _ [6] (by decide +kernel) (by decide +kernel)
set_option maxRecDepth 20000 in
theorem gX3_spread_X6_bit_n44 : GoodIn wsX3_spread (wsX6_bit) := ggX3_spread_X6_bit
set_option maxRecDepth 20000 in
theorem ggX3_spread_X3_has : GoodIn wsX3_spread wsX3_has := goodIn_r _ [11, 1, 12, 13, 14, 15, 16, 17, 18] (by decide +kernel) (by decide +kernel)
set_option maxRecDepth 20000 in
theorem gX3_spread_X3_has : GoodIn wsX3_spread (wsV RX3 36 RX3 yX3_has wsX3_has) := goodIn_app (goodIn_of _ (by decide +kernel)) ggX3_spread_X3_has
theorem dX3_spread_0 : decode cX3_spread 0 = .ok (.iload_n 1, 1) := by decide +kernel
theorem dX3_spread_1 : decode cX3_spread 1 = .ok (.istore_n 3, 1) := by decide +kernel
theorem dX3_spread_2 : decode cX3_spread 2 = .ok (.iconst 0, 1) := by decide +kernel
theorem dX3_spread_3 : decode cX3_spread 3 = .ok (.istore 4, 2) := by decide +kernel
theorem dX3_spread_5 : decode cX3_spread 5 = .ok (.iload 4, 2) := by decide +kernel
theorem dX3_spread_7 : decode cX3_spread 7 = .ok (.aload_n 0, 1) := by decide +kernel
theorem dX3_spread_8 : decode cX3_spread 8 = .ok (.getfield 28, 3) := by decide +kernel
theorem dX3_spread_11 : decode cX3_spread 11 = .ok (.if_icmp .ge 62, 3) := by decide +kernel
theorem dX3_spread_14 : decode cX3_spread 14 = .ok (.aload_n 0, 1) := by decide +kernel
theorem dX3_spread_15 : decode cX3_spread 15 = .ok (.getfield 9, 3) := by decide +kernel
theorem dX3_spread_18 : decode cX3_spread 18 = .ok (.iload 4, 2) := by decide +kernel
theorem dX3_spread_20 : decode cX3_spread 20 = .ok (.iaload, 1) := by decide +kernel
theorem dX3_spread_21 : decode cX3_spread 21 = .ok (.invokestatic 44, 3) := by decide +kernel
theorem dX3_spread_24 : decode cX3_spread 24 = .ok (.aload_n 0, 1) := by decide +kernel
theorem dX3_spread_25 : decode cX3_spread 25 = .ok (.getfield 15, 3) := by decide +kernel
theorem dX3_spread_28 : decode cX3_spread 28 = .ok (.iload 4, 2) := by decide +kernel
theorem dX3_spread_30 : decode cX3_spread 30 = .ok (.iaload, 1) := by decide +kernel
theorem dX3_spread_31 : decode cX3_spread 31 = .ok (.invokestatic 44, 3) := by decide +kernel
theorem dX3_spread_34 : decode cX3_spread 34 = .ok (.ior, 1) := by decide +kernel
theorem dX3_spread_35 : decode cX3_spread 35 = .ok (.istore 5, 2) := by decide +kernel
theorem dX3_spread_37 : decode cX3_spread 37 = .ok (.aload_n 0, 1) := by decide +kernel
theorem dX3_spread_38 : decode cX3_spread 38 = .ok (.iload 4, 2) := by decide +kernel
theorem dX3_spread_40 : decode cX3_spread 40 = .ok (.invokevirtual 36, 3) := by decide +kernel
theorem dX3_spread_43 : decode cX3_spread 43 = .ok (.ifCond .eq 24, 3) := by decide +kernel
theorem dX3_spread_46 : decode cX3_spread 46 = .ok (.iload 5, 2) := by decide +kernel
theorem dX3_spread_48 : decode cX3_spread 48 = .ok (.iload_n 2, 1) := by decide +kernel
theorem dX3_spread_49 : decode cX3_spread 49 = .ok (.iand, 1) := by decide +kernel
theorem dX3_spread_50 : decode cX3_spread 50 = .ok (.iload 5, 2) := by decide +kernel
theorem dX3_spread_52 : decode cX3_spread 52 = .ok (.if_icmp .ne 15, 3) := by decide +kernel
theorem dX3_spread_55 : decode cX3_spread 55 = .ok (.iload 5, 2) := by decide +kernel
theorem dX3_spread_57 : decode cX3_spread 57 = .ok (.iload_n 3, 1) := by decide +kernel
theorem dX3_spread_58 : decode cX3_spread 58 = .ok (.iand, 1) := by decide +kernel
theorem dX3_spread_59 : decode cX3_spread 59 = .ok (.ifCond .eq 8, 3) := by decide +kernel
theorem dX3_spread_62 : decode cX3_spread 62 = .ok (.iload_n 3, 1) := by decide +kernel
theorem dX3_spread_63 : decode cX3_spread 63 = .ok (.iload 5, 2) := by decide +kernel
theorem dX3_spread_65 : decode cX3_spread 65 = .ok (.ior, 1) := by decide +kernel
theorem dX3_spread_66 : decode cX3_spread 66 = .ok (.istore_n 3, 1) := by decide +kernel
theorem dX3_spread_67 : decode cX3_spread 67 = .ok (.iinc 4 1, 3) := by decide +kernel
theorem dX3_spread_70 : decode cX3_spread 70 = .ok (.goto (-65), 3) := by decide +kernel
theorem dX3_spread_73 : decode cX3_spread 73 = .ok (.iload_n 3, 1) := by decide +kernel
theorem dX3_spread_74 : decode cX3_spread 74 = .ok (.ireturn, 1) := by decide +kernel
theorem dX4_init_0 : decode cX4_init 0 = .ok (.aload_n 0, 1) := by decide +kernel
theorem dX4_init_1 : decode cX4_init 1 = .ok (.invokespecial 3, 3) := by decide +kernel
theorem dX4_init_4 : decode cX4_init 4 = .ok (.aload_n 0, 1) := by decide +kernel
theorem dX4_init_5 : decode cX4_init 5 = .ok (.bipush 20, 2) := by decide +kernel
theorem dX4_init_7 : decode cX4_init 7 = .ok (.newarray .int, 2) := by decide +kernel
theorem dX4_init_9 : decode cX4_init 9 = .ok (.putfield 9, 3) := by decide +kernel
theorem dX4_init_12 : decode cX4_init 12 = .ok (.aload_n 0, 1) := by decide +kernel
theorem dX4_init_13 : decode cX4_init 13 = .ok (.bipush 10, 2) := by decide +kernel
theorem dX4_init_15 : decode cX4_init 15 = .ok (.newarray .int, 2) := by decide +kernel
theorem dX4_init_17 : decode cX4_init 17 = .ok (.putfield 15, 3) := by decide +kernel
theorem dX4_init_20 : decode cX4_init 20 = .ok (.aload_n 0, 1) := by decide +kernel
theorem dX4_init_21 : decode cX4_init 21 = .ok (.bipush 10, 2) := by decide +kernel
theorem dX4_init_23 : decode cX4_init 23 = .ok (.newarray .int, 2) := by decide +kernel
theorem dX4_init_25 : decode cX4_init 25 = .ok (.putfield 18, 3) := by decide +kernel
theorem dX4_init_28 : decode cX4_init 28 = .ok (.return_, 1) := by decide +kernel
theorem dX4_clear_0 : decode cX4_clear 0 = .ok (.iconst 0, 1) := by decide +kernel
theorem dX4_clear_1 : decode cX4_clear 1 = .ok (.istore_n 1, 1) := by decide +kernel
theorem dX4_clear_2 : decode cX4_clear 2 = .ok (.iload_n 1, 1) := by decide +kernel
theorem dX4_clear_3 : decode cX4_clear 3 = .ok (.aload_n 0, 1) := by decide +kernel
theorem dX4_clear_4 : decode cX4_clear 4 = .ok (.getfield 9, 3) := by decide +kernel
theorem dX4_clear_7 : decode cX4_clear 7 = .ok (.arraylength, 1) := by decide +kernel
theorem dX4_clear_8 : decode cX4_clear 8 = .ok (.if_icmp .ge 16, 3) := by decide +kernel
theorem dX4_clear_11 : decode cX4_clear 11 = .ok (.aload_n 0, 1) := by decide +kernel
theorem dX4_clear_12 : decode cX4_clear 12 = .ok (.getfield 9, 3) := by decide +kernel
theorem dX4_clear_15 : decode cX4_clear 15 = .ok (.iload_n 1, 1) := by decide +kernel
theorem dX4_clear_16 : decode cX4_clear 16 = .ok (.iconst (-1), 1) := by decide +kernel
theorem dX4_clear_17 : decode cX4_clear 17 = .ok (.iastore, 1) := by decide +kernel
theorem dX4_clear_18 : decode cX4_clear 18 = .ok (.iinc 1 1, 3) := by decide +kernel
theorem dX4_clear_21 : decode cX4_clear 21 = .ok (.goto (-19), 3) := by decide +kernel
theorem dX4_clear_24 : decode cX4_clear 24 = .ok (.return_, 1) := by decide +kernel
set_option maxRecDepth 20000 in
theorem ggX4_canCover_X4_freeBoth : GoodIn wsX4_canCover wsX4_freeBoth := goodIn_r _ [5, 6, 7, 8, 4, 9, 10, 11, 12, 13, 14, 15, 16, 17, 18, 19, 20, 21, 22, 23, 24, 25, 26, 27, 28, 29, 30, 31, 32] (by decide +kernel) (by decide +kernel)
set_option maxRecDepth 20000 in
theorem gX4_canCover_X4_freeBoth : GoodIn wsX4_canCover (wsV RX4 21 RX4 yX4_freeBoth wsX4_freeBoth) := goodIn_app (goodIn_of _ (by decide +kernel)) ggX4_canCover_X4_freeBoth
theorem dX4_canCover_0 : decode cX4_canCover 0 = .ok (.aload_n 0, 1) := by decide +kernel
theorem dX4_canCover_1 : decode cX4_canCover 1 = .ok (.iload_n 1, 1) := by decide +kernel
theorem dX4_canCover_2 : decode cX4_canCover 2 = .ok (.iload_n 2, 1) := by decide +kernel
theorem dX4_canCover_3 : decode cX4_canCover 3 = .ok (.invokevirtual 21, 3) := by decide +kernel
theorem dX4_canCover_6 : decode cX4_canCover 6 = .ok (.ifCond .eq 16, 3) := by decide +kernel
theorem dX4_canCover_9 : decode cX4_canCover 9 = .ok (.aload_n 0, 1) := by decide +kernel
theorem dX4_canCover_10 : decode cX4_canCover 10 = .ok (.iload_n 2, 1) := by decide +kernel
theorem dX4_canCover_11 : decode cX4_canCover 11 = .ok (.iload_n 1, 1) := by decide +kernel
theorem dX4_canCover_12 : decode cX4_canCover 12 = .ok (.invokevirtual 21, 3) := by decide +kernel
theorem dX4_canCover_15 : decode cX4_canCover 15 = .ok (.ifCond .eq 7, 3) := by decide +kernel
theorem dX4_canCover_18 : decode cX4_canCover 18 = .ok (.iconst 1, 1) := by decide +kernel
theorem dX4_canCover_19 : decode cX4_canCover 19 = .ok (.goto 4, 3) := by decide +kernel
theorem dX4_canCover_22 : decode cX4_canCover 22 = .ok (.iconst 0, 1) := by decide +kernel
theorem dX4_canCover_23 : decode cX4_canCover 23 = .ok (.ireturn, 1) := by decide +kernel
theorem dX4_cover_0 : decode cX4_cover 0 = .ok (.aload_n 0, 1) := by decide +kernel
theorem dX4_cover_1 : decode cX4_cover 1 = .ok (.getfield 9, 3) := by decide +kernel
theorem dX4_cover_4 : decode cX4_cover 4 = .ok (.iconst 2, 1) := by decide +kernel
theorem dX4_cover_5 : decode cX4_cover 5 = .ok (.iload_n 1, 1) := by decide +kernel
theorem dX4_cover_6 : decode cX4_cover 6 = .ok (.imul, 1) := by decide +kernel
theorem dX4_cover_7 : decode cX4_cover 7 = .ok (.iload_n 2, 1) := by decide +kernel
theorem dX4_cover_8 : decode cX4_cover 8 = .ok (.iastore, 1) := by decide +kernel
theorem dX4_cover_9 : decode cX4_cover 9 = .ok (.return_, 1) := by decide +kernel
set_option maxRecDepth 20000 in
theorem ggX4_freeBoth_X4_hasBoth : GoodIn wsX4_freeBoth wsX4_hasBoth := goodIn_r _ [5, 6, 26, 27, 28] (by decide +kernel) (by decide +kernel)
set_option maxRecDepth 20000 in
theorem gX4_freeBoth_X4_hasBoth : GoodIn wsX4_freeBoth (wsV RX4 25 RX4 yX4_hasBoth wsX4_hasBoth) := goodIn_app (goodIn_of _ (by decide +kernel)) ggX4_freeBoth_X4_hasBoth
set_option maxRecDepth 20000 in
theorem ggX4_freeBoth_X4_fetch : GoodIn wsX4_freeBoth wsX4_fetch := goodIn_r _ [10, 11, 12, 6, 13, 14, 15, 16, 17, 18, 19, 20, 4, 21, 22, 23, 24, 25, 26, 27, 28] (by decide +kernel) (by decide +kernel)
set_option maxRecDepth 20000 in
theorem gX4_freeBoth_X4_fetch : GoodIn wsX4_freeBoth (wsV RX4 29 RX4 yX4_fetch wsX4_fetch) := goodIn_app (goodIn_of _ (by decide +kernel)) ggX4_freeBoth_X4_fetch
theorem dX4_freeBoth_0 : decode cX4_freeBoth 0 = .ok (.iconst 0, 1) := by decide +kernel
theorem dX4_freeBoth_1 : decode cX4_freeBoth 1 = .ok (.istore_n 3, 1) := by decide +kernel
theorem dX4_freeBoth_2 : decode cX4_freeBoth 2 = .ok (.iload_n 3, 1) := by decide +kernel
theorem dX4_freeBoth_3 : decode cX4_freeBoth 3 = .ok (.iconst 2, 1) := by decide +kernel
theorem dX4_freeBoth_4 : decode cX4_freeBoth 4 = .ok (.if_icmp .ge 28, 3) := by decide +kernel
theorem dX4_freeBoth_7 : decode cX4_freeBoth 7 = .ok (.aload_n 0, 1) := by decide +kernel
theorem dX4_freeBoth_8 : decode cX4_freeBoth 8 = .ok (.iload_n 1, 1) := by decide +kernel
theorem dX4_freeBoth_9 : decode cX4_freeBoth 9 = .ok (.invokevirtual 25, 3) := by decide +kernel
theorem dX4_freeBoth_12 : decode cX4_freeBoth 12 = .ok (.ifCond .ne 20, 3) := by decide +kernel
theorem dX4_freeBoth_15 : decode cX4_freeBoth 15 = .ok (.aload_n 0, 1) := by decide +kernel
theorem dX4_freeBoth_16 : decode cX4_freeBoth 16 = .ok (.iload_n 1, 1) := by decide +kernel
theorem dX4_freeBoth_17 : decode cX4_freeBoth 17 = .ok (.iload_n 2, 1) := by decide +kernel
theorem dX4_freeBoth_18 : decode cX4_freeBoth 18 = .ok (.invokevirtual 29, 3) := by decide +kernel
theorem dX4_freeBoth_21 : decode cX4_freeBoth 21 = .ok (.ifCond .ne 5, 3) := by decide +kernel
theorem dX4_freeBoth_24 : decode cX4_freeBoth 24 = .ok (.iconst 0, 1) := by decide +kernel
theorem dX4_freeBoth_25 : decode cX4_freeBoth 25 = .ok (.ireturn, 1) := by decide +kernel
theorem dX4_freeBoth_26 : decode cX4_freeBoth 26 = .ok (.iinc 3 1, 3) := by decide +kernel
theorem dX4_freeBoth_29 : decode cX4_freeBoth 29 = .ok (.goto (-27), 3) := by decide +kernel
theorem dX4_freeBoth_32 : decode cX4_freeBoth 32 = .ok (.aload_n 0, 1) := by decide +kernel
theorem dX4_freeBoth_33 : decode cX4_freeBoth 33 = .ok (.iload_n 1, 1) := by decide +kernel
theorem dX4_freeBoth_34 : decode cX4_freeBoth 34 = .ok (.invokevirtual 25, 3) := by decide +kernel
theorem dX4_freeBoth_37 : decode cX4_freeBoth 37 = .ok (.ireturn, 1) := by decide +kernel
theorem dX4_hasBoth_0 : decode cX4_hasBoth 0 = .ok (.aload_n 0, 1) := by decide +kernel
theorem dX4_hasBoth_1 : decode cX4_hasBoth 1 = .ok (.getfield 9, 3) := by decide +kernel
theorem dX4_hasBoth_4 : decode cX4_hasBoth 4 = .ok (.iconst 2, 1) := by decide +kernel
theorem dX4_hasBoth_5 : decode cX4_hasBoth 5 = .ok (.iload_n 1, 1) := by decide +kernel
theorem dX4_hasBoth_6 : decode cX4_hasBoth 6 = .ok (.imul, 1) := by decide +kernel
theorem dX4_hasBoth_7 : decode cX4_hasBoth 7 = .ok (.iaload, 1) := by decide +kernel
theorem dX4_hasBoth_8 : decode cX4_hasBoth 8 = .ok (.iconst (-1), 1) := by decide +kernel
theorem dX4_hasBoth_9 : decode cX4_hasBoth 9 = .ok (.if_icmp .ne 21, 3) := by decide +kernel
theorem dX4_hasBoth_12 : decode cX4_hasBoth 12 = .ok (.aload_n 0, 1) := by decide +kernel
theorem dX4_hasBoth_13 : decode cX4_hasBoth 13 = .ok (.getfield 9, 3) := by decide +kernel
theorem dX4_hasBoth_16 : decode cX4_hasBoth 16 = .ok (.iconst 2, 1) := by decide +kernel
theorem dX4_hasBoth_17 : decode cX4_hasBoth 17 = .ok (.iload_n 1, 1) := by decide +kernel
theorem dX4_hasBoth_18 : decode cX4_hasBoth 18 = .ok (.imul, 1) := by decide +kernel
theorem dX4_hasBoth_19 : decode cX4_hasBoth 19 = .ok (.iconst 1, 1) := by decide +kernel
theorem dX4_hasBoth_20 : decode cX4_hasBoth 20 = .ok (.iadd, 1) := by decide +kernel
theorem dX4_hasBoth_21 : decode cX4_hasBoth 21 = .ok (.iaload, 1) := by decide +kernel
theorem dX4_hasBoth_22 : decode cX4_hasBoth 22 = .ok (.iconst (-1), 1) := by decide +kernel
theorem dX4_hasBoth_23 : decode cX4_hasBoth 23 = .ok (.if_icmp .ne 7, 3) := by decide +kernel
theorem dX4_hasBoth_26 : decode cX4_hasBoth 26 = .ok (.iconst 1, 1) := by decide +kernel
theorem dX4_hasBoth_27 : decode cX4_hasBoth 27 = .ok (.goto 4, 3) := by decide +kernel
theorem dX4_hasBoth_30 : decode cX4_hasBoth 30 = .ok (.iconst 0, 1) := by decide +kernel
theorem dX4_hasBoth_31 : decode cX4_hasBoth 31 = .ok (.ireturn, 1) := by decide +kernel
set_option maxRecDepth 20000 in
theorem ggX4_fetch_X6_bit : GoodIn wsX4_fetch wsX6_bit := goodIn_r _ [6] (by decide +kernel) (by decide +kernel)
set_option maxRecDepth 20000 in
theorem gX4_fetch_X6_bit_n32 : GoodIn wsX4_fetch (wsX6_bit) := ggX4_fetch_X6_bit
set_option maxRecDepth 20000 in
theorem ggX4_fetch_X6_hasBit : GoodIn wsX4_fetch wsX6_hasBit := goodIn_r _ [8] (by decide +kernel) (by decide +kernel)
set_option maxRecDepth 20000 in
theorem gX4_fetch_X6_hasBit_n36 : GoodIn wsX4_fetch (wsX6_hasBit) := ggX4_fetch_X6_hasBit
set_option maxRecDepth 20000 in
theorem ggX4_fetch_X4_freePebble : GoodIn wsX4_fetch wsX4_freePebble := goodIn_r _ [13, 3, 18, 19, 20] (by decide +kernel) (by decide +kernel)
set_option maxRecDepth 20000 in
theorem gX4_fetch_X4_freePebble : GoodIn wsX4_fetch (wsV RX4 40 RX4 yX4_freePebble wsX4_freePebble) := goodIn_app (goodIn_of _ (by decide +kernel)) ggX4_fetch_X4_freePebble
set_option maxRecDepth 20000 in
theorem ggX4_fetch_X4_passBack : GoodIn wsX4_fetch wsX4_passBack := goodIn_r _ [17, 1, 3, 18, 19, 20] (by decide +kernel) (by decide +kernel)
set_option maxRecDepth 20000 in
theorem gX4_fetch_X4_passBack : GoodIn wsX4_fetch (wsV RX4 43 RX4 yX4_passBack wsX4_passBack) := goodIn_app (goodIn_of _ (by decide +kernel)) ggX4_fetch_X4_passBack
