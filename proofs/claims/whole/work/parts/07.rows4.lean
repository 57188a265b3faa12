theorem dX7_range_0 : decode cX7_range 0 = .ok (.aload_n 0, 1) := by decide +kernel
theorem dX7_range_1 : decode cX7_range 1 = .ok (.aload_n 0, 1) := by decide +kernel
theorem dX7_range_2 : decode cX7_range 2 = .ok (.iload_n 1, 1) := by decide +kernel
theorem dX7_range_3 : decode cX7_range 3 = .ok (.invokevirtual 98, 3) := by decide +kernel
theorem dX7_range_6 : decode cX7_range 6 = .ok (.ifCond .ne 7, 3) := by decide +kernel
theorem dX7_range_9 : decode cX7_range 9 = .ok (.iconst 1, 1) := by decide +kernel
theorem dX7_range_10 : decode cX7_range 10 = .ok (.goto 19, 3) := by decide +kernel
theorem dX7_range_13 : decode cX7_range 13 = .ok (.iload_n 2, 1) := by decide +kernel
theorem dX7_range_14 : decode cX7_range 14 = .ok (.iconst (-1), 1) := by decide +kernel
theorem dX7_range_15 : decode cX7_range 15 = .ok (.sipush 30000, 3) := by decide +kernel
theorem dX7_range_18 : decode cX7_range 18 = .ok (.invokestatic 79, 3) := by decide +kernel
theorem dX7_range_21 : decode cX7_range 21 = .ok (.ifCond .eq 7, 3) := by decide +kernel
theorem dX7_range_24 : decode cX7_range 24 = .ok (.iconst 0, 1) := by decide +kernel
theorem dX7_range_25 : decode cX7_range 25 = .ok (.goto 4, 3) := by decide +kernel
theorem dX7_range_28 : decode cX7_range 28 = .ok (.iconst 2, 1) := by decide +kernel
theorem dX7_range_29 : decode cX7_range 29 = .ok (.invokevirtual 90, 3) := by decide +kernel
theorem dX7_range_32 : decode cX7_range 32 = .ok (.ifCond .ne 5, 3) := by decide +kernel
theorem dX7_range_35 : decode cX7_range 35 = .ok (.iconst 0, 1) := by decide +kernel
theorem dX7_range_36 : decode cX7_range 36 = .ok (.ireturn, 1) := by decide +kernel
theorem dX7_range_37 : decode cX7_range 37 = .ok (.aload_n 0, 1) := by decide +kernel
theorem dX7_range_38 : decode cX7_range 38 = .ok (.getfield 20, 3) := by decide +kernel
theorem dX7_range_41 : decode cX7_range 41 = .ok (.iload_n 1, 1) := by decide +kernel
theorem dX7_range_42 : decode cX7_range 42 = .ok (.iaload, 1) := by decide +kernel
theorem dX7_range_43 : decode cX7_range 43 = .ok (.istore_n 3, 1) := by decide +kernel
theorem dX7_range_44 : decode cX7_range 44 = .ok (.aload_n 0, 1) := by decide +kernel
theorem dX7_range_45 : decode cX7_range 45 = .ok (.getfield 20, 3) := by decide +kernel
theorem dX7_range_48 : decode cX7_range 48 = .ok (.iload_n 1, 1) := by decide +kernel
theorem dX7_range_49 : decode cX7_range 49 = .ok (.iload_n 2, 1) := by decide +kernel
theorem dX7_range_50 : decode cX7_range 50 = .ok (.iastore, 1) := by decide +kernel
theorem dX7_range_51 : decode cX7_range 51 = .ok (.iload_n 3, 1) := by decide +kernel
theorem dX7_range_52 : decode cX7_range 52 = .ok (.ireturn, 1) := by decide +kernel
set_option maxRecDepth 20000 in
theorem ggX7_fits_X7_isIn : GoodIn wsX7_fits wsX7_isIn := goodIn_r _ [8] (by decide +kernel) (by decide +kernel)
set_option maxRecDepth 20000 in
theorem gX7_fits_X7_isIn : GoodIn wsX7_fits (va_wsS RX7 79 yX7_isIn wsX7_isIn) := goodIn_app (goodIn_of _ (by decide +kernel)) ggX7_fits_X7_isIn
theorem dX7_fits_0 : decode cX7_fits 0 = .ok (.iconst 1, 1) := by decide +kernel
theorem dX7_fits_1 : decode cX7_fits 1 = .ok (.istore 4, 2) := by decide +kernel
theorem dX7_fits_3 : decode cX7_fits 3 = .ok (.iconst 0, 1) := by decide +kernel
theorem dX7_fits_4 : decode cX7_fits 4 = .ok (.istore 5, 2) := by decide +kernel
theorem dX7_fits_6 : decode cX7_fits 6 = .ok (.iload 5, 2) := by decide +kernel
theorem dX7_fits_8 : decode cX7_fits 8 = .ok (.aload_n 0, 1) := by decide +kernel
theorem dX7_fits_9 : decode cX7_fits 9 = .ok (.getfield 76, 3) := by decide +kernel
theorem dX7_fits_12 : decode cX7_fits 12 = .ok (.if_icmp .ge 92, 3) := by decide +kernel
theorem dX7_fits_15 : decode cX7_fits 15 = .ok (.iload 4, 2) := by decide +kernel
theorem dX7_fits_17 : decode cX7_fits 17 = .ok (.ifCond .eq 87, 3) := by decide +kernel
theorem dX7_fits_20 : decode cX7_fits 20 = .ok (.iload_n 1, 1) := by decide +kernel
theorem dX7_fits_21 : decode cX7_fits 21 = .ok (.aload_n 0, 1) := by decide +kernel
theorem dX7_fits_22 : decode cX7_fits 22 = .ok (.getfield 7, 3) := by decide +kernel
theorem dX7_fits_25 : decode cX7_fits 25 = .ok (.iload 5, 2) := by decide +kernel
theorem dX7_fits_27 : decode cX7_fits 27 = .ok (.iaload, 1) := by decide +kernel
theorem dX7_fits_28 : decode cX7_fits 28 = .ok (.isub, 1) := by decide +kernel
theorem dX7_fits_29 : decode cX7_fits 29 = .ok (.iload_n 1, 1) := by decide +kernel
theorem dX7_fits_30 : decode cX7_fits 30 = .ok (.aload_n 0, 1) := by decide +kernel
theorem dX7_fits_31 : decode cX7_fits 31 = .ok (.getfield 7, 3) := by decide +kernel
theorem dX7_fits_34 : decode cX7_fits 34 = .ok (.iload 5, 2) := by decide +kernel
theorem dX7_fits_36 : decode cX7_fits 36 = .ok (.iaload, 1) := by decide +kernel
theorem dX7_fits_37 : decode cX7_fits 37 = .ok (.isub, 1) := by decide +kernel
theorem dX7_fits_38 : decode cX7_fits 38 = .ok (.imul, 1) := by decide +kernel
theorem dX7_fits_39 : decode cX7_fits 39 = .ok (.iload_n 2, 1) := by decide +kernel
theorem dX7_fits_40 : decode cX7_fits 40 = .ok (.aload_n 0, 1) := by decide +kernel
theorem dX7_fits_41 : decode cX7_fits 41 = .ok (.getfield 13, 3) := by decide +kernel
theorem dX7_fits_44 : decode cX7_fits 44 = .ok (.iload 5, 2) := by decide +kernel
theorem dX7_fits_46 : decode cX7_fits 46 = .ok (.iaload, 1) := by decide +kernel
theorem dX7_fits_47 : decode cX7_fits 47 = .ok (.isub, 1) := by decide +kernel
theorem dX7_fits_48 : decode cX7_fits 48 = .ok (.iload_n 2, 1) := by decide +kernel
theorem dX7_fits_49 : decode cX7_fits 49 = .ok (.aload_n 0, 1) := by decide +kernel
theorem dX7_fits_50 : decode cX7_fits 50 = .ok (.getfield 13, 3) := by decide +kernel
theorem dX7_fits_53 : decode cX7_fits 53 = .ok (.iload 5, 2) := by decide +kernel
theorem dX7_fits_55 : decode cX7_fits 55 = .ok (.iaload, 1) := by decide +kernel
theorem dX7_fits_56 : decode cX7_fits 56 = .ok (.isub, 1) := by decide +kernel
theorem dX7_fits_57 : decode cX7_fits 57 = .ok (.imul, 1) := by decide +kernel
theorem dX7_fits_58 : decode cX7_fits 58 = .ok (.iadd, 1) := by decide +kernel
theorem dX7_fits_59 : decode cX7_fits 59 = .ok (.aload_n 0, 1) := by decide +kernel
theorem dX7_fits_60 : decode cX7_fits 60 = .ok (.getfield 20, 3) := by decide +kernel
theorem dX7_fits_63 : decode cX7_fits 63 = .ok (.iload 5, 2) := by decide +kernel
theorem dX7_fits_65 : decode cX7_fits 65 = .ok (.iaload, 1) := by decide +kernel
theorem dX7_fits_66 : decode cX7_fits 66 = .ok (.isub, 1) := by decide +kernel
theorem dX7_fits_67 : decode cX7_fits 67 = .ok (.istore 6, 2) := by decide +kernel
theorem dX7_fits_69 : decode cX7_fits 69 = .ok (.aload_n 0, 1) := by decide +kernel
theorem dX7_fits_70 : decode cX7_fits 70 = .ok (.getfield 20, 3) := by decide +kernel
theorem dX7_fits_73 : decode cX7_fits 73 = .ok (.iload 5, 2) := by decide +kernel
theorem dX7_fits_75 : decode cX7_fits 75 = .ok (.iaload, 1) := by decide +kernel
theorem dX7_fits_76 : decode cX7_fits 76 = .ok (.iconst (-1), 1) := by decide +kernel
theorem dX7_fits_77 : decode cX7_fits 77 = .ok (.if_icmp .eq 14, 3) := by decide +kernel
theorem dX7_fits_80 : decode cX7_fits 80 = .ok (.iload 6, 2) := by decide +kernel
theorem dX7_fits_82 : decode cX7_fits 82 = .ok (.iload_n 3, 1) := by decide +kernel
theorem dX7_fits_83 : decode cX7_fits 83 = .ok (.ineg, 1) := by decide +kernel
theorem dX7_fits_84 : decode cX7_fits 84 = .ok (.iload_n 3, 1) := by decide +kernel
theorem dX7_fits_85 : decode cX7_fits 85 = .ok (.invokestatic 79, 3) := by decide +kernel
theorem dX7_fits_88 : decode cX7_fits 88 = .ok (.ifCond .eq 7, 3) := by decide +kernel
theorem dX7_fits_91 : decode cX7_fits 91 = .ok (.iconst 1, 1) := by decide +kernel
theorem dX7_fits_92 : decode cX7_fits 92 = .ok (.goto 4, 3) := by decide +kernel
theorem dX7_fits_95 : decode cX7_fits 95 = .ok (.iconst 0, 1) := by decide +kernel
theorem dX7_fits_96 : decode cX7_fits 96 = .ok (.istore 4, 2) := by decide +kernel
theorem dX7_fits_98 : decode cX7_fits 98 = .ok (.iinc 5 1, 3) := by decide +kernel
theorem dX7_fits_101 : decode cX7_fits 101 = .ok (.goto (-95), 3) := by decide +kernel
theorem dX7_fits_104 : decode cX7_fits 104 = .ok (.iload 4, 2) := by decide +kernel
theorem dX7_fits_106 : decode cX7_fits 106 = .ok (.ireturn, 1) := by decide +kernel
set_option maxRecDepth 20000 in
theorem ggX7_places_X7_isIn : GoodIn wsX7_places wsX7_isIn := goodIn_r _ [4] (by decide +kernel) (by decide +kernel)
set_option maxRecDepth 20000 in
theorem gX7_places_X7_isIn : GoodIn wsX7_places (va_wsS RX7 79 yX7_isIn wsX7_isIn) := goodIn_app (goodIn_of _ (by decide +kernel)) ggX7_places_X7_isIn
set_option maxRecDepth 20000 in
theorem ggX7_places_X7_holds : GoodIn wsX7_places wsX7_holds := goodIn_r _ [8, 9, 18, 19, 20, 21, 22, 23, 24, 25, 26, 27, 28, 29, 30, 31, 32, 33, 34, 35, 36, 37, 38, 39, 40, 41, 42] (by decide +kernel) (by decide +kernel)
set_option maxRecDepth 20000 in
theorem gX7_places_X7_holds : GoodIn wsX7_places (wsV RX7 90 RX7 yX7_holds wsX7_holds) := goodIn_app (goodIn_of _ (by decide +kernel)) ggX7_places_X7_holds
set_option maxRecDepth 20000 in
theorem ggX7_places_X7_fits : GoodIn wsX7_places wsX7_fits := goodIn_r _ [13, 14, 15, 16, 17, 1, 2, 3, 4, 18, 19, 20, 21, 22, 23, 24, 25, 26, 27, 28, 29, 30, 31, 32, 33, 34, 35, 36, 37, 38, 39, 40, 41, 42] (by decide +kernel) (by decide +kernel)
set_option maxRecDepth 20000 in
theorem gX7_places_X7_fits : GoodIn wsX7_places (wsV RX7 210 RX7 yX7_fits wsX7_fits) := goodIn_app (goodIn_of _ (by decide +kernel)) ggX7_places_X7_fits
theorem dX7_places_0 : decode cX7_places 0 = .ok (.aload_n 0, 1) := by decide +kernel
theorem dX7_places_1 : decode cX7_places 1 = .ok (.iload_n 1, 1) := by decide +kernel
theorem dX7_places_2 : decode cX7_places 2 = .ok (.iconst 0, 1) := by decide +kernel
theorem dX7_places_3 : decode cX7_places 3 = .ok (.sipush 5000, 3) := by decide +kernel
theorem dX7_places_6 : decode cX7_places 6 = .ok (.invokestatic 79, 3) := by decide +kernel
theorem dX7_places_9 : decode cX7_places 9 = .ok (.ifCond .eq 7, 3) := by decide +kernel
theorem dX7_places_12 : decode cX7_places 12 = .ok (.iconst 0, 1) := by decide +kernel
theorem dX7_places_13 : decode cX7_places 13 = .ok (.goto 4, 3) := by decide +kernel
theorem dX7_places_16 : decode cX7_places 16 = .ok (.iconst 1, 1) := by decide +kernel
theorem dX7_places_17 : decode cX7_places 17 = .ok (.invokevirtual 90, 3) := by decide +kernel
theorem dX7_places_20 : decode cX7_places 20 = .ok (.ifCond .ne 5, 3) := by decide +kernel
theorem dX7_places_23 : decode cX7_places 23 = .ok (.iconst 0, 1) := by decide +kernel
theorem dX7_places_24 : decode cX7_places 24 = .ok (.ireturn, 1) := by decide +kernel
theorem dX7_places_25 : decode cX7_places 25 = .ok (.iconst 0, 1) := by decide +kernel
theorem dX7_places_26 : decode cX7_places 26 = .ok (.istore_n 2, 1) := by decide +kernel
theorem dX7_places_27 : decode cX7_places 27 = .ok (.bipush (-60), 2) := by decide +kernel
theorem dX7_places_29 : decode cX7_places 29 = .ok (.istore_n 3, 1) := by decide +kernel
theorem dX7_places_30 : decode cX7_places 30 = .ok (.iload_n 3, 1) := by decide +kernel
theorem dX7_places_31 : decode cX7_places 31 = .ok (.bipush 60, 2) := by decide +kernel
theorem dX7_places_33 : decode cX7_places 33 = .ok (.if_icmp .gt 45, 3) := by decide +kernel
theorem dX7_places_36 : decode cX7_places 36 = .ok (.bipush (-60), 2) := by decide +kernel
theorem dX7_places_38 : decode cX7_places 38 = .ok (.istore 4, 2) := by decide +kernel
theorem dX7_places_40 : decode cX7_places 40 = .ok (.iload 4, 2) := by decide +kernel
theorem dX7_places_42 : decode cX7_places 42 = .ok (.bipush 60, 2) := by decide +kernel
theorem dX7_places_44 : decode cX7_places 44 = .ok (.if_icmp .gt 28, 3) := by decide +kernel
theorem dX7_places_47 : decode cX7_places 47 = .ok (.iload_n 2, 1) := by decide +kernel
theorem dX7_places_48 : decode cX7_places 48 = .ok (.aload_n 0, 1) := by decide +kernel
theorem dX7_places_49 : decode cX7_places 49 = .ok (.iload_n 3, 1) := by decide +kernel
theorem dX7_places_50 : decode cX7_places 50 = .ok (.iload 4, 2) := by decide +kernel
theorem dX7_places_52 : decode cX7_places 52 = .ok (.iload_n 1, 1) := by decide +kernel
theorem dX7_places_53 : decode cX7_places 53 = .ok (.invokevirtual 210, 3) := by decide +kernel
theorem dX7_places_56 : decode cX7_places 56 = .ok (.ifCond .eq 7, 3) := by decide +kernel
theorem dX7_places_59 : decode cX7_places 59 = .ok (.iconst 1, 1) := by decide +kernel
theorem dX7_places_60 : decode cX7_places 60 = .ok (.goto 4, 3) := by decide +kernel
theorem dX7_places_63 : decode cX7_places 63 = .ok (.iconst 0, 1) := by decide +kernel
theorem dX7_places_64 : decode cX7_places 64 = .ok (.iadd, 1) := by decide +kernel
theorem dX7_places_65 : decode cX7_places 65 = .ok (.istore_n 2, 1) := by decide +kernel
theorem dX7_places_66 : decode cX7_places 66 = .ok (.iinc 4 1, 3) := by decide +kernel
theorem dX7_places_69 : decode cX7_places 69 = .ok (.goto (-29), 3) := by decide +kernel
theorem dX7_places_72 : decode cX7_places 72 = .ok (.iinc 3 1, 3) := by decide +kernel
theorem dX7_places_75 : decode cX7_places 75 = .ok (.goto (-45), 3) := by decide +kernel
theorem dX7_places_78 : decode cX7_places 78 = .ok (.iload_n 2, 1) := by decide +kernel
theorem dX7_places_79 : decode cX7_places 79 = .ok (.ireturn, 1) := by decide +kernel
set_option maxRecDepth 20000 in
theorem ggX7_place_X7_isIn : GoodIn wsX7_place wsX7_isIn := goodIn_r _ [4] (by decide +kernel) (by decide +kernel)
set_option maxRecDepth 20000 in
theorem gX7_place_X7_isIn : GoodIn wsX7_place (va_wsS RX7 79 yX7_isIn wsX7_isIn) := goodIn_app (goodIn_of _ (by decide +kernel)) ggX7_place_X7_isIn
set_option maxRecDepth 20000 in
theorem ggX7_place_X7_holds : GoodIn wsX7_place wsX7_holds := goodIn_r _ [8, 9, 18, 19, 20, 21, 22, 23, 24, 25, 26, 27, 28, 29, 30, 31, 32, 33, 34, 35, 36, 37, 38, 39, 40, 41, 42] (by decide +kernel) (by decide +kernel)
set_option maxRecDepth 20000 in
theorem gX7_place_X7_holds : GoodIn wsX7_place (wsV RX7 90 RX7 yX7_holds wsX7_holds) := goodIn_app (goodIn_of _ (by decide +kernel)) ggX7_place_X7_holds
set_option maxRecDepth 20000 in
theorem ggX7_place_X7_fits : GoodIn wsX7_place wsX7_fits := goodIn_r _ [13, 14, 15, 16, 17, 1, 2, 3, 4, 18, 19, 20, 21, 22, 23, 24, 25, 26, 27, 28, 29, 30, 31, 32, 33, 34, 35, 36, 37, 38, 39, 40, 41, 42] (by decide +kernel) (by decide +kernel)
set_option maxRecDepth 20000 in
theorem gX7_place_X7_fits : GoodIn wsX7_place (wsV RX7 210 RX7 yX7_fits wsX7_fits) := goodIn_app (goodIn_of _ (by decide +kernel)) ggX7_place_X7_fits
theorem dX7_place_0 : decode cX7_place 0 = .ok (.aload_n 0, 1) := by decide +kernel
theorem dX7_place_1 : decode cX7_place 1 = .ok (.iload_n 2, 1) := by decide +kernel
theorem dX7_place_2 : decode cX7_place 2 = .ok (.ifCond .ge 7, 3) := by decide +kernel
theorem dX7_place_5 : decode cX7_place 5 = .ok (.iconst 1, 1) := by decide +kernel
theorem dX7_place_6 : decode cX7_place 6 = .ok (.goto 19, 3) := by decide +kernel
theorem dX7_place_9 : decode cX7_place 9 = .ok (.iload_n 1, 1) := by decide +kernel
theorem dX7_place_10 : decode cX7_place 10 = .ok (.iconst 0, 1) := by decide +kernel
theorem dX7_place_11 : decode cX7_place 11 = .ok (.sipush 5000, 3) := by decide +kernel
theorem dX7_place_14 : decode cX7_place 14 = .ok (.invokestatic 79, 3) := by decide +kernel
theorem dX7_place_17 : decode cX7_place 17 = .ok (.ifCond .eq 7, 3) := by decide +kernel
theorem dX7_place_20 : decode cX7_place 20 = .ok (.iconst 0, 1) := by decide +kernel
theorem dX7_place_21 : decode cX7_place 21 = .ok (.goto 4, 3) := by decide +kernel
theorem dX7_place_24 : decode cX7_place 24 = .ok (.iconst 2, 1) := by decide +kernel
theorem dX7_place_25 : decode cX7_place 25 = .ok (.invokevirtual 90, 3) := by decide +kernel
theorem dX7_place_28 : decode cX7_place 28 = .ok (.ifCond .ne 5, 3) := by decide +kernel
theorem dX7_place_31 : decode cX7_place 31 = .ok (.iconst 0, 1) := by decide +kernel
theorem dX7_place_32 : decode cX7_place 32 = .ok (.ireturn, 1) := by decide +kernel
theorem dX7_place_33 : decode cX7_place 33 = .ok (.iload_n 2, 1) := by decide +kernel
theorem dX7_place_34 : decode cX7_place 34 = .ok (.istore_n 3, 1) := by decide +kernel
theorem dX7_place_35 : decode cX7_place 35 = .ok (.bipush (-60), 2) := by decide +kernel
theorem dX7_place_37 : decode cX7_place 37 = .ok (.istore 4, 2) := by decide +kernel
theorem dX7_place_39 : decode cX7_place 39 = .ok (.iload 4, 2) := by decide +kernel
theorem dX7_place_41 : decode cX7_place 41 = .ok (.bipush 60, 2) := by decide +kernel
theorem dX7_place_43 : decode cX7_place 43 = .ok (.if_icmp .gt 61, 3) := by decide +kernel
theorem dX7_place_46 : decode cX7_place 46 = .ok (.bipush (-60), 2) := by decide +kernel
theorem dX7_place_48 : decode cX7_place 48 = .ok (.istore 5, 2) := by decide +kernel
theorem dX7_place_50 : decode cX7_place 50 = .ok (.iload 5, 2) := by decide +kernel
theorem dX7_place_52 : decode cX7_place 52 = .ok (.bipush 60, 2) := by decide +kernel
theorem dX7_place_54 : decode cX7_place 54 = .ok (.if_icmp .gt 44, 3) := by decide +kernel
theorem dX7_place_57 : decode cX7_place 57 = .ok (.aload_n 0, 1) := by decide +kernel
theorem dX7_place_58 : decode cX7_place 58 = .ok (.iload 4, 2) := by decide +kernel
theorem dX7_place_60 : decode cX7_place 60 = .ok (.iload 5, 2) := by decide +kernel
theorem dX7_place_62 : decode cX7_place 62 = .ok (.iload_n 1, 1) := by decide +kernel
theorem dX7_place_63 : decode cX7_place 63 = .ok (.invokevirtual 210, 3) := by decide +kernel
theorem dX7_place_66 : decode cX7_place 66 = .ok (.ifCond .eq 26, 3) := by decide +kernel
theorem dX7_place_69 : decode cX7_place 69 = .ok (.iload_n 3, 1) := by decide +kernel
theorem dX7_place_70 : decode cX7_place 70 = .ok (.ifCond .ne 19, 3) := by decide +kernel
theorem dX7_place_73 : decode cX7_place 73 = .ok (.sipush 1000, 3) := by decide +kernel
theorem dX7_place_76 : decode cX7_place 76 = .ok (.iload 4, 2) := by decide +kernel
theorem dX7_place_78 : decode cX7_place 78 = .ok (.bipush 60, 2) := by decide +kernel
theorem dX7_place_80 : decode cX7_place 80 = .ok (.iadd, 1) := by decide +kernel
theorem dX7_place_81 : decode cX7_place 81 = .ok (.imul, 1) := by decide +kernel
theorem dX7_place_82 : decode cX7_place 82 = .ok (.iload 5, 2) := by decide +kernel
theorem dX7_place_84 : decode cX7_place 84 = .ok (.iadd, 1) := by decide +kernel
theorem dX7_place_85 : decode cX7_place 85 = .ok (.bipush 60, 2) := by decide +kernel
theorem dX7_place_87 : decode cX7_place 87 = .ok (.iadd, 1) := by decide +kernel
theorem dX7_place_88 : decode cX7_place 88 = .ok (.ireturn, 1) := by decide +kernel
theorem dX7_place_89 : decode cX7_place 89 = .ok (.iinc 3 (-1), 3) := by decide +kernel
theorem dX7_place_92 : decode cX7_place 92 = .ok (.iinc 5 1, 3) := by decide +kernel
theorem dX7_place_95 : decode cX7_place 95 = .ok (.goto (-45), 3) := by decide +kernel
theorem dX7_place_98 : decode cX7_place 98 = .ok (.iinc 4 1, 3) := by decide +kernel
theorem dX7_place_101 : decode cX7_place 101 = .ok (.goto (-62), 3) := by decide +kernel
theorem dX7_place_104 : decode cX7_place 104 = .ok (.iconst (-1), 1) := by decide +kernel
theorem dX7_place_105 : decode cX7_place 105 = .ok (.ireturn, 1) := by decide +kernel
set_option maxRecDepth 20000 in
theorem ggX7_ofJoint_X7_isJoint : GoodIn wsX7_ofJoint wsX7_isJoint := goodIn_r _ [7, 8, 9, 10, 6, 11, 28, 29, 30, 31, 32, 33, 34, 35, 36, 37, 38, 39, 40, 41, 42, 43, 44, 45, 46, 47, 48, 49, 50, 51, 52] (by decide +kernel) (by decide +kernel)
set_option maxRecDepth 20000 in
theorem gX7_ofJoint_X7_isJoint : GoodIn wsX7_ofJoint (wsV RX7 98 RX7 yX7_isJoint wsX7_isJoint) := goodIn_app (goodIn_of _ (by decide +kernel)) ggX7_ofJoint_X7_isJoint
set_option maxRecDepth 20000 in
theorem ggX7_ofJoint_X7_isIn : GoodIn wsX7_ofJoint wsX7_isIn := goodIn_r _ [11] (by decide +kernel) (by decide +kernel)
set_option maxRecDepth 20000 in
theorem gX7_ofJoint_X7_isIn : GoodIn wsX7_ofJoint (va_wsS RX7 79 yX7_isIn wsX7_isIn) := goodIn_app (goodIn_of _ (by decide +kernel)) ggX7_ofJoint_X7_isIn
set_option maxRecDepth 20000 in
theorem ggX7_ofJoint_X7_holds : GoodIn wsX7_ofJoint wsX7_holds := goodIn_r _ [15, 16, 28, 29, 30, 31, 32, 33, 34, 35, 36, 37, 38, 39, 40, 41, 42, 43, 44, 45, 46, 47, 48, 49, 50, 51, 52] (by decide +kernel) (by decide +kernel)
set_option maxRecDepth 20000 in
theorem gX7_ofJoint_X7_holds : GoodIn wsX7_ofJoint (wsV RX7 90 RX7 yX7_holds wsX7_holds) := goodIn_app (goodIn_of _ (by decide +kernel)) ggX7_ofJoint_X7_holds
set_option maxRecDepth 20000 in
theorem ggX7_ofJoint_X7_near : GoodIn wsX7_ofJoint wsX7_near := goodIn_r _ [20, 21, 22, 23, 24, 28, 29, 30, 31, 32, 33, 34, 35, 36, 37, 38, 39, 40, 41, 42, 43, 44, 45, 46, 47, 48, 49, 50, 51, 52] (by decide +kernel) (by decide +kernel)
set_option maxRecDepth 20000 in
theorem gX7_ofJoint_X7_near : GoodIn wsX7_ofJoint (wsV RX7 183 RX7 yX7_near wsX7_near) := goodIn_app (goodIn_of _ (by decide +kernel)) ggX7_ofJoint_X7_near
set_option maxRecDepth 20000 in
theorem ggX7_ofJoint_X7_bits : GoodIn wsX7_ofJoint wsX7_bits := goodIn_r _ [27] (by decide +kernel) (by decide +kernel)
set_option maxRecDepth 20000 in
theorem gX7_ofJoint_X7_bits : GoodIn wsX7_ofJoint (va_wsS RX7 168 yX7_bits wsX7_bits) := goodIn_app (goodIn_of _ (by decide +kernel)) ggX7_ofJoint_X7_bits
theorem dX7_ofJoint_0 : decode cX7_ofJoint 0 = .ok (.aload_n 0, 1) := by decide +kernel
theorem dX7_ofJoint_1 : decode cX7_ofJoint 1 = .ok (.aload_n 0, 1) := by decide +kernel
theorem dX7_ofJoint_2 : decode cX7_ofJoint 2 = .ok (.iload_n 1, 1) := by decide +kernel
theorem dX7_ofJoint_3 : decode cX7_ofJoint 3 = .ok (.invokevirtual 98, 3) := by decide +kernel
theorem dX7_ofJoint_6 : decode cX7_ofJoint 6 = .ok (.ifCond .ne 7, 3) := by decide +kernel
theorem dX7_ofJoint_9 : decode cX7_ofJoint 9 = .ok (.iconst 1, 1) := by decide +kernel
theorem dX7_ofJoint_10 : decode cX7_ofJoint 10 = .ok (.goto 17, 3) := by decide +kernel
theorem dX7_ofJoint_13 : decode cX7_ofJoint 13 = .ok (.iload_n 2, 1) := by decide +kernel
theorem dX7_ofJoint_14 : decode cX7_ofJoint 14 = .ok (.iconst 0, 1) := by decide +kernel
theorem dX7_ofJoint_15 : decode cX7_ofJoint 15 = .ok (.iconst 2, 1) := by decide +kernel
theorem dX7_ofJoint_16 : decode cX7_ofJoint 16 = .ok (.invokestatic 79, 3) := by decide +kernel
theorem dX7_ofJoint_19 : decode cX7_ofJoint 19 = .ok (.ifCond .eq 7, 3) := by decide +kernel
theorem dX7_ofJoint_22 : decode cX7_ofJoint 22 = .ok (.iconst 0, 1) := by decide +kernel
theorem dX7_ofJoint_23 : decode cX7_ofJoint 23 = .ok (.goto 4, 3) := by decide +kernel
theorem dX7_ofJoint_26 : decode cX7_ofJoint 26 = .ok (.iconst 2, 1) := by decide +kernel
theorem dX7_ofJoint_27 : decode cX7_ofJoint 27 = .ok (.invokevirtual 90, 3) := by decide +kernel
theorem dX7_ofJoint_30 : decode cX7_ofJoint 30 = .ok (.ifCond .ne 5, 3) := by decide +kernel
theorem dX7_ofJoint_33 : decode cX7_ofJoint 33 = .ok (.iconst 0, 1) := by decide +kernel
theorem dX7_ofJoint_34 : decode cX7_ofJoint 34 = .ok (.ireturn, 1) := by decide +kernel
theorem dX7_ofJoint_35 : decode cX7_ofJoint 35 = .ok (.iload_n 2, 1) := by decide +kernel
theorem dX7_ofJoint_36 : decode cX7_ofJoint 36 = .ok (.ifCond .ne 12, 3) := by decide +kernel
theorem dX7_ofJoint_39 : decode cX7_ofJoint 39 = .ok (.aload_n 0, 1) := by decide +kernel
theorem dX7_ofJoint_40 : decode cX7_ofJoint 40 = .ok (.getfield 7, 3) := by decide +kernel
theorem dX7_ofJoint_43 : decode cX7_ofJoint 43 = .ok (.iload_n 1, 1) := by decide +kernel
theorem dX7_ofJoint_44 : decode cX7_ofJoint 44 = .ok (.iaload, 1) := by decide +kernel
theorem dX7_ofJoint_45 : decode cX7_ofJoint 45 = .ok (.goto 25, 3) := by decide +kernel
theorem dX7_ofJoint_48 : decode cX7_ofJoint 48 = .ok (.iload_n 2, 1) := by decide +kernel
theorem dX7_ofJoint_49 : decode cX7_ofJoint 49 = .ok (.iconst 1, 1) := by decide +kernel
theorem dX7_ofJoint_50 : decode cX7_ofJoint 50 = .ok (.if_icmp .ne 12, 3) := by decide +kernel
theorem dX7_ofJoint_53 : decode cX7_ofJoint 53 = .ok (.aload_n 0, 1) := by decide +kernel
theorem dX7_ofJoint_54 : decode cX7_ofJoint 54 = .ok (.getfield 13, 3) := by decide +kernel
theorem dX7_ofJoint_57 : decode cX7_ofJoint 57 = .ok (.iload_n 1, 1) := by decide +kernel
theorem dX7_ofJoint_58 : decode cX7_ofJoint 58 = .ok (.iaload, 1) := by decide +kernel
theorem dX7_ofJoint_59 : decode cX7_ofJoint 59 = .ok (.goto 11, 3) := by decide +kernel
theorem dX7_ofJoint_62 : decode cX7_ofJoint 62 = .ok (.aload_n 0, 1) := by decide +kernel
theorem dX7_ofJoint_63 : decode cX7_ofJoint 63 = .ok (.iload_n 1, 1) := by decide +kernel
theorem dX7_ofJoint_64 : decode cX7_ofJoint 64 = .ok (.invokevirtual 183, 3) := by decide +kernel
theorem dX7_ofJoint_67 : decode cX7_ofJoint 67 = .ok (.invokestatic 168, 3) := by decide +kernel
theorem dX7_ofJoint_70 : decode cX7_ofJoint 70 = .ok (.ireturn, 1) := by decide +kernel
theorem dJ6_bitCount_0f7a4_0 : decode cJ6_bitCount_0f7a4 0 = .ok (.iload_n 0, 1) := by decide +kernel
theorem dJ6_bitCount_0f7a4_1 : decode cJ6_bitCount_0f7a4 1 = .ok (.iload_n 0, 1) := by decide +kernel
theorem dJ6_bitCount_0f7a4_2 : decode cJ6_bitCount_0f7a4 2 = .ok (.iconst 1, 1) := by decide +kernel
theorem dJ6_bitCount_0f7a4_3 : decode cJ6_bitCount_0f7a4 3 = .ok (.iushr, 1) := by decide +kernel
theorem dJ6_bitCount_0f7a4_4 : decode cJ6_bitCount_0f7a4 4 = .ok (.ldc_w 265, 3) := by decide +kernel
theorem dJ6_bitCount_0f7a4_7 : decode cJ6_bitCount_0f7a4 7 = .ok (.iand, 1) := by decide +kernel
theorem dJ6_bitCount_0f7a4_8 : decode cJ6_bitCount_0f7a4 8 = .ok (.isub, 1) := by decide +kernel
theorem dJ6_bitCount_0f7a4_9 : decode cJ6_bitCount_0f7a4 9 = .ok (.istore_n 0, 1) := by decide +kernel
theorem dJ6_bitCount_0f7a4_10 : decode cJ6_bitCount_0f7a4 10 = .ok (.iload_n 0, 1) := by decide +kernel
theorem dJ6_bitCount_0f7a4_11 : decode cJ6_bitCount_0f7a4 11 = .ok (.ldc_w 266, 3) := by decide +kernel
theorem dJ6_bitCount_0f7a4_14 : decode cJ6_bitCount_0f7a4 14 = .ok (.iand, 1) := by decide +kernel
theorem dJ6_bitCount_0f7a4_15 : decode cJ6_bitCount_0f7a4 15 = .ok (.iload_n 0, 1) := by decide +kernel
theorem dJ6_bitCount_0f7a4_16 : decode cJ6_bitCount_0f7a4 16 = .ok (.iconst 2, 1) := by decide +kernel
theorem dJ6_bitCount_0f7a4_17 : decode cJ6_bitCount_0f7a4 17 = .ok (.iushr, 1) := by decide +kernel
theorem dJ6_bitCount_0f7a4_18 : decode cJ6_bitCount_0f7a4 18 = .ok (.ldc_w 266, 3) := by decide +kernel
theorem dJ6_bitCount_0f7a4_21 : decode cJ6_bitCount_0f7a4 21 = .ok (.iand, 1) := by decide +kernel
theorem dJ6_bitCount_0f7a4_22 : decode cJ6_bitCount_0f7a4 22 = .ok (.iadd, 1) := by decide +kernel
theorem dJ6_bitCount_0f7a4_23 : decode cJ6_bitCount_0f7a4 23 = .ok (.istore_n 0, 1) := by decide +kernel
theorem dJ6_bitCount_0f7a4_24 : decode cJ6_bitCount_0f7a4 24 = .ok (.iload_n 0, 1) := by decide +kernel
theorem dJ6_bitCount_0f7a4_25 : decode cJ6_bitCount_0f7a4 25 = .ok (.iload_n 0, 1) := by decide +kernel
theorem dJ6_bitCount_0f7a4_26 : decode cJ6_bitCount_0f7a4 26 = .ok (.iconst 4, 1) := by decide +kernel
theorem dJ6_bitCount_0f7a4_27 : decode cJ6_bitCount_0f7a4 27 = .ok (.iushr, 1) := by decide +kernel
theorem dJ6_bitCount_0f7a4_28 : decode cJ6_bitCount_0f7a4 28 = .ok (.iadd, 1) := by decide +kernel
theorem dJ6_bitCount_0f7a4_29 : decode cJ6_bitCount_0f7a4 29 = .ok (.ldc_w 267, 3) := by decide +kernel
theorem dJ6_bitCount_0f7a4_32 : decode cJ6_bitCount_0f7a4 32 = .ok (.iand, 1) := by decide +kernel
theorem dJ6_bitCount_0f7a4_33 : decode cJ6_bitCount_0f7a4 33 = .ok (.istore_n 0, 1) := by decide +kernel
theorem dJ6_bitCount_0f7a4_34 : decode cJ6_bitCount_0f7a4 34 = .ok (.iload_n 0, 1) := by decide +kernel
theorem dJ6_bitCount_0f7a4_35 : decode cJ6_bitCount_0f7a4 35 = .ok (.iload_n 0, 1) := by decide +kernel
theorem dJ6_bitCount_0f7a4_36 : decode cJ6_bitCount_0f7a4 36 = .ok (.bipush 8, 2) := by decide +kernel
theorem dJ6_bitCount_0f7a4_38 : decode cJ6_bitCount_0f7a4 38 = .ok (.iushr, 1) := by decide +kernel
theorem dJ6_bitCount_0f7a4_39 : decode cJ6_bitCount_0f7a4 39 = .ok (.iadd, 1) := by decide +kernel
theorem dJ6_bitCount_0f7a4_40 : decode cJ6_bitCount_0f7a4 40 = .ok (.istore_n 0, 1) := by decide +kernel
theorem dJ6_bitCount_0f7a4_41 : decode cJ6_bitCount_0f7a4 41 = .ok (.iload_n 0, 1) := by decide +kernel
theorem dJ6_bitCount_0f7a4_42 : decode cJ6_bitCount_0f7a4 42 = .ok (.iload_n 0, 1) := by decide +kernel
theorem dJ6_bitCount_0f7a4_43 : decode cJ6_bitCount_0f7a4 43 = .ok (.bipush 16, 2) := by decide +kernel
theorem dJ6_bitCount_0f7a4_45 : decode cJ6_bitCount_0f7a4 45 = .ok (.iushr, 1) := by decide +kernel
theorem dJ6_bitCount_0f7a4_46 : decode cJ6_bitCount_0f7a4 46 = .ok (.iadd, 1) := by decide +kernel
theorem dJ6_bitCount_0f7a4_47 : decode cJ6_bitCount_0f7a4 47 = .ok (.istore_n 0, 1) := by decide +kernel
theorem dJ6_bitCount_0f7a4_48 : decode cJ6_bitCount_0f7a4 48 = .ok (.iload_n 0, 1) := by decide +kernel
theorem dJ6_bitCount_0f7a4_49 : decode cJ6_bitCount_0f7a4 49 = .ok (.bipush 63, 2) := by decide +kernel
theorem dJ6_bitCount_0f7a4_51 : decode cJ6_bitCount_0f7a4 51 = .ok (.iand, 1) := by decide +kernel
theorem dJ6_bitCount_0f7a4_52 : decode cJ6_bitCount_0f7a4 52 = .ok (.ireturn, 1) := by decide +kernel
theorem dJ13_bitCount_95d88_0 : decode cJ13_bitCount_95d88 0 = .ok (.lload_n 0, 1) := by decide +kernel
theorem dJ13_bitCount_95d88_1 : decode cJ13_bitCount_95d88 1 = .ok (.lload_n 0, 1) := by decide +kernel
theorem dJ13_bitCount_95d88_2 : decode cJ13_bitCount_95d88 2 = .ok (.iconst 1, 1) := by decide +kernel
theorem dJ13_bitCount_95d88_3 : decode cJ13_bitCount_95d88 3 = .ok (.lushr, 1) := by decide +kernel
theorem dJ13_bitCount_95d88_4 : decode cJ13_bitCount_95d88 4 = .ok (.ldc2_w 314, 3) := by decide +kernel
theorem dJ13_bitCount_95d88_7 : decode cJ13_bitCount_95d88 7 = .ok (.land, 1) := by decide +kernel
theorem dJ13_bitCount_95d88_8 : decode cJ13_bitCount_95d88 8 = .ok (.lsub, 1) := by decide +kernel
theorem dJ13_bitCount_95d88_9 : decode cJ13_bitCount_95d88 9 = .ok (.lstore_n 0, 1) := by decide +kernel
theorem dJ13_bitCount_95d88_10 : decode cJ13_bitCount_95d88 10 = .ok (.lload_n 0, 1) := by decide +kernel
theorem dJ13_bitCount_95d88_11 : decode cJ13_bitCount_95d88 11 = .ok (.ldc2_w 316, 3) := by decide +kernel
theorem dJ13_bitCount_95d88_14 : decode cJ13_bitCount_95d88 14 = .ok (.land, 1) := by decide +kernel
theorem dJ13_bitCount_95d88_15 : decode cJ13_bitCount_95d88 15 = .ok (.lload_n 0, 1) := by decide +kernel
theorem dJ13_bitCount_95d88_16 : decode cJ13_bitCount_95d88 16 = .ok (.iconst 2, 1) := by decide +kernel
theorem dJ13_bitCount_95d88_17 : decode cJ13_bitCount_95d88 17 = .ok (.lushr, 1) := by decide +kernel
theorem dJ13_bitCount_95d88_18 : decode cJ13_bitCount_95d88 18 = .ok (.ldc2_w 316, 3) := by decide +kernel
theorem dJ13_bitCount_95d88_21 : decode cJ13_bitCount_95d88 21 = .ok (.land, 1) := by decide +kernel
theorem dJ13_bitCount_95d88_22 : decode cJ13_bitCount_95d88 22 = .ok (.ladd, 1) := by decide +kernel
theorem dJ13_bitCount_95d88_23 : decode cJ13_bitCount_95d88 23 = .ok (.lstore_n 0, 1) := by decide +kernel
theorem dJ13_bitCount_95d88_24 : decode cJ13_bitCount_95d88 24 = .ok (.lload_n 0, 1) := by decide +kernel
theorem dJ13_bitCount_95d88_25 : decode cJ13_bitCount_95d88 25 = .ok (.lload_n 0, 1) := by decide +kernel
theorem dJ13_bitCount_95d88_26 : decode cJ13_bitCount_95d88 26 = .ok (.iconst 4, 1) := by decide +kernel
theorem dJ13_bitCount_95d88_27 : decode cJ13_bitCount_95d88 27 = .ok (.lushr, 1) := by decide +kernel
theorem dJ13_bitCount_95d88_28 : decode cJ13_bitCount_95d88 28 = .ok (.ladd, 1) := by decide +kernel
theorem dJ13_bitCount_95d88_29 : decode cJ13_bitCount_95d88 29 = .ok (.ldc2_w 318, 3) := by decide +kernel
theorem dJ13_bitCount_95d88_32 : decode cJ13_bitCount_95d88 32 = .ok (.land, 1) := by decide +kernel
theorem dJ13_bitCount_95d88_33 : decode cJ13_bitCount_95d88 33 = .ok (.lstore_n 0, 1) := by decide +kernel
theorem dJ13_bitCount_95d88_34 : decode cJ13_bitCount_95d88 34 = .ok (.lload_n 0, 1) := by decide +kernel
theorem dJ13_bitCount_95d88_35 : decode cJ13_bitCount_95d88 35 = .ok (.lload_n 0, 1) := by decide +kernel
theorem dJ13_bitCount_95d88_36 : decode cJ13_bitCount_95d88 36 = .ok (.bipush 8, 2) := by decide +kernel
theorem dJ13_bitCount_95d88_38 : decode cJ13_bitCount_95d88 38 = .ok (.lushr, 1) := by decide +kernel
theorem dJ13_bitCount_95d88_39 : decode cJ13_bitCount_95d88 39 = .ok (.ladd, 1) := by decide +kernel
theorem dJ13_bitCount_95d88_40 : decode cJ13_bitCount_95d88 40 = .ok (.lstore_n 0, 1) := by decide +kernel
theorem dJ13_bitCount_95d88_41 : decode cJ13_bitCount_95d88 41 = .ok (.lload_n 0, 1) := by decide +kernel
theorem dJ13_bitCount_95d88_42 : decode cJ13_bitCount_95d88 42 = .ok (.lload_n 0, 1) := by decide +kernel
theorem dJ13_bitCount_95d88_43 : decode cJ13_bitCount_95d88 43 = .ok (.bipush 16, 2) := by decide +kernel
theorem dJ13_bitCount_95d88_45 : decode cJ13_bitCount_95d88 45 = .ok (.lushr, 1) := by decide +kernel
theorem dJ13_bitCount_95d88_46 : decode cJ13_bitCount_95d88 46 = .ok (.ladd, 1) := by decide +kernel
theorem dJ13_bitCount_95d88_47 : decode cJ13_bitCount_95d88 47 = .ok (.lstore_n 0, 1) := by decide +kernel
theorem dJ13_bitCount_95d88_48 : decode cJ13_bitCount_95d88 48 = .ok (.lload_n 0, 1) := by decide +kernel
theorem dJ13_bitCount_95d88_49 : decode cJ13_bitCount_95d88 49 = .ok (.lload_n 0, 1) := by decide +kernel
theorem dJ13_bitCount_95d88_50 : decode cJ13_bitCount_95d88 50 = .ok (.bipush 32, 2) := by decide +kernel
theorem dJ13_bitCount_95d88_52 : decode cJ13_bitCount_95d88 52 = .ok (.lushr, 1) := by decide +kernel
theorem dJ13_bitCount_95d88_53 : decode cJ13_bitCount_95d88 53 = .ok (.ladd, 1) := by decide +kernel
theorem dJ13_bitCount_95d88_54 : decode cJ13_bitCount_95d88 54 = .ok (.lstore_n 0, 1) := by decide +kernel
theorem dJ13_bitCount_95d88_55 : decode cJ13_bitCount_95d88 55 = .ok (.lload_n 0, 1) := by decide +kernel
theorem dJ13_bitCount_95d88_56 : decode cJ13_bitCount_95d88 56 = .ok (.l2i, 1) := by decide +kernel
theorem dJ13_bitCount_95d88_57 : decode cJ13_bitCount_95d88 57 = .ok (.bipush 127, 2) := by decide +kernel
theorem dJ13_bitCount_95d88_59 : decode cJ13_bitCount_95d88 59 = .ok (.iand, 1) := by decide +kernel
theorem dJ13_bitCount_95d88_60 : decode cJ13_bitCount_95d88 60 = .ok (.ireturn, 1) := by decide +kernel
theorem dJ9_floorMod_f86c9_0 : decode cJ9_floorMod_f86c9 0 = .ok (.lload_n 0, 1) := by decide +kernel
theorem dJ9_floorMod_f86c9_1 : decode cJ9_floorMod_f86c9 1 = .ok (.lload_n 2, 1) := by decide +kernel
theorem dJ9_floorMod_f86c9_2 : decode cJ9_floorMod_f86c9 2 = .ok (.lrem, 1) := by decide +kernel
theorem dJ9_floorMod_f86c9_3 : decode cJ9_floorMod_f86c9 3 = .ok (.lstore 4, 2) := by decide +kernel
theorem dJ9_floorMod_f86c9_5 : decode cJ9_floorMod_f86c9 5 = .ok (.lload_n 0, 1) := by decide +kernel
theorem dJ9_floorMod_f86c9_6 : decode cJ9_floorMod_f86c9 6 = .ok (.lload_n 2, 1) := by decide +kernel
theorem dJ9_floorMod_f86c9_7 : decode cJ9_floorMod_f86c9 7 = .ok (.lxor, 1) := by decide +kernel
theorem dJ9_floorMod_f86c9_8 : decode cJ9_floorMod_f86c9 8 = .ok (.lconst 0, 1) := by decide +kernel
theorem dJ9_floorMod_f86c9_9 : decode cJ9_floorMod_f86c9 9 = .ok (.lcmp, 1) := by decide +kernel
theorem dJ9_floorMod_f86c9_10 : decode cJ9_floorMod_f86c9 10 = .ok (.ifCond .ge 15, 3) := by decide +kernel
theorem dJ9_floorMod_f86c9_13 : decode cJ9_floorMod_f86c9 13 = .ok (.lload 4, 2) := by decide +kernel
theorem dJ9_floorMod_f86c9_15 : decode cJ9_floorMod_f86c9 15 = .ok (.lconst 0, 1) := by decide +kernel
theorem dJ9_floorMod_f86c9_16 : decode cJ9_floorMod_f86c9 16 = .ok (.lcmp, 1) := by decide +kernel
theorem dJ9_floorMod_f86c9_17 : decode cJ9_floorMod_f86c9 17 = .ok (.ifCond .eq 8, 3) := by decide +kernel
theorem dJ9_floorMod_f86c9_20 : decode cJ9_floorMod_f86c9 20 = .ok (.lload 4, 2) := by decide +kernel
theorem dJ9_floorMod_f86c9_22 : decode cJ9_floorMod_f86c9 22 = .ok (.lload_n 2, 1) := by decide +kernel
theorem dJ9_floorMod_f86c9_23 : decode cJ9_floorMod_f86c9 23 = .ok (.ladd, 1) := by decide +kernel
theorem dJ9_floorMod_f86c9_24 : decode cJ9_floorMod_f86c9 24 = .ok (.lreturn, 1) := by decide +kernel
theorem dJ9_floorMod_f86c9_25 : decode cJ9_floorMod_f86c9 25 = .ok (.lload 4, 2) := by decide +kernel
theorem dJ9_floorMod_f86c9_27 : decode cJ9_floorMod_f86c9 27 = .ok (.lreturn, 1) := by decide +kernel
theorem dJ9_max_7cf53_0 : decode cJ9_max_7cf53 0 = .ok (.iload_n 0, 1) := by decide +kernel
theorem dJ9_max_7cf53_1 : decode cJ9_max_7cf53 1 = .ok (.iload_n 1, 1) := by decide +kernel
theorem dJ9_max_7cf53_2 : decode cJ9_max_7cf53 2 = .ok (.if_icmp .lt 7, 3) := by decide +kernel
theorem dJ9_max_7cf53_5 : decode cJ9_max_7cf53 5 = .ok (.iload_n 0, 1) := by decide +kernel
theorem dJ9_max_7cf53_6 : decode cJ9_max_7cf53 6 = .ok (.goto 4, 3) := by decide +kernel
theorem dJ9_max_7cf53_9 : decode cJ9_max_7cf53 9 = .ok (.iload_n 1, 1) := by decide +kernel
theorem dJ9_max_7cf53_10 : decode cJ9_max_7cf53 10 = .ok (.ireturn, 1) := by decide +kernel
theorem dJ9_min_7cf53_0 : decode cJ9_min_7cf53 0 = .ok (.iload_n 0, 1) := by decide +kernel
theorem dJ9_min_7cf53_1 : decode cJ9_min_7cf53 1 = .ok (.iload_n 1, 1) := by decide +kernel
theorem dJ9_min_7cf53_2 : decode cJ9_min_7cf53 2 = .ok (.if_icmp .gt 7, 3) := by decide +kernel
theorem dJ9_min_7cf53_5 : decode cJ9_min_7cf53 5 = .ok (.iload_n 0, 1) := by decide +kernel
theorem dJ9_min_7cf53_6 : decode cJ9_min_7cf53 6 = .ok (.goto 4, 3) := by decide +kernel
theorem dJ9_min_7cf53_9 : decode cJ9_min_7cf53 9 = .ok (.iload_n 1, 1) := by decide +kernel
theorem dJ9_min_7cf53_10 : decode cJ9_min_7cf53 10 = .ok (.ireturn, 1) := by decide +kernel
set_option maxRecDepth 20000 in
theorem ggL_joint_X6_joint : GoodIn wsL_joint wsX6_joint := goodIn_ca (goodIn_ca (goodIn_r _ [7, 8, 9, 10, 6, 11, 12, 13, 14, 15, 16, 17, 18, 19, 20, 21, 22, 23, 24, 25, 26, 27, 28, 29, 30, 31, 32, 33, 34, 35, 36, 37, 38, 39, 40, 41, 42] (by decide +kernel) (by decide +kernel)) (goodIn_sub (fun _ h => List.mem_cons_of_mem _ (List.mem_append_left _ (List.mem_append_right _ h))) (by decide +kernel))) (goodIn_sub (fun _ h => List.mem_cons_of_mem _ (List.mem_append_right _ h)) (by decide +kernel))
set_option maxRecDepth 20000 in
theorem gL_joint_X6_joint : GoodIn wsL_joint (wsV RL 7 RX6 yX6_joint wsX6_joint) := goodIn_app (goodIn_of _ (by decide +kernel)) ggL_joint_X6_joint
theorem dL_joint_0 : decode cL_joint 0 = .ok (.aload_n 3, 1) := by decide +kernel
theorem dL_joint_1 : decode cL_joint 1 = .ok (.iconst 0, 1) := by decide +kernel
theorem dL_joint_2 : decode cL_joint 2 = .ok (.aload_n 0, 1) := by decide +kernel
theorem dL_joint_3 : decode cL_joint 3 = .ok (.iload_n 1, 1) := by decide +kernel
theorem dL_joint_4 : decode cL_joint 4 = .ok (.iload_n 2, 1) := by decide +kernel
theorem dL_joint_5 : decode cL_joint 5 = .ok (.invokevirtual 7, 3) := by decide +kernel
theorem dL_joint_8 : decode cL_joint 8 = .ok (.i2l, 1) := by decide +kernel
theorem dL_joint_9 : decode cL_joint 9 = .ok (.lastore, 1) := by decide +kernel
theorem dL_joint_10 : decode cL_joint 10 = .ok (.goto 11, 3) := by decide +kernel
theorem dL_joint_13 : decode cL_joint 13 = .ok (.astore 4, 2) := by decide +kernel
theorem dL_joint_15 : decode cL_joint 15 = .ok (.iconst 1, 1) := by decide +kernel
theorem dL_joint_16 : decode cL_joint 16 = .ok (.ireturn, 1) := by decide +kernel
theorem dL_joint_17 : decode cL_joint 17 = .ok (.astore 4, 2) := by decide +kernel
theorem dL_joint_19 : decode cL_joint 19 = .ok (.iconst 2, 1) := by decide +kernel
theorem dL_joint_20 : decode cL_joint 20 = .ok (.ireturn, 1) := by decide +kernel
theorem dL_joint_21 : decode cL_joint 21 = .ok (.iconst 0, 1) := by decide +kernel
theorem dL_joint_22 : decode cL_joint 22 = .ok (.ireturn, 1) := by decide +kernel
set_option maxRecDepth 20000 in
theorem ggL_move_X6_move : GoodIn wsL_move wsX6_move := goodIn_ca (goodIn_ca (goodIn_r _ [7, 8, 9, 10, 11, 12, 13, 6, 14, 15, 16, 17, 18, 19, 20, 21, 22, 23, 24, 25, 26, 27, 28, 29, 30, 31, 32, 33, 34, 35, 36, 37, 38, 39] (by decide +kernel) (by decide +kernel)) (goodIn_sub (fun _ h => List.mem_cons_of_mem _ (List.mem_append_left _ (List.mem_append_right _ h))) (by decide +kernel))) (goodIn_sub (fun _ h => List.mem_cons_of_mem _ (List.mem_append_right _ h)) (by decide +kernel))
set_option maxRecDepth 20000 in
theorem gL_move_X6_move : GoodIn wsL_move (wsV RL 17 RX6 yX6_move wsX6_move) := goodIn_app (goodIn_of _ (by decide +kernel)) ggL_move_X6_move
theorem dL_move_0 : decode cL_move 0 = .ok (.aload_n 0, 1) := by decide +kernel
theorem dL_move_1 : decode cL_move 1 = .ok (.iload_n 1, 1) := by decide +kernel
theorem dL_move_2 : decode cL_move 2 = .ok (.iload_n 2, 1) := by decide +kernel
theorem dL_move_3 : decode cL_move 3 = .ok (.iload_n 3, 1) := by decide +kernel
theorem dL_move_4 : decode cL_move 4 = .ok (.invokevirtual 17, 3) := by decide +kernel
theorem dL_move_7 : decode cL_move 7 = .ok (.goto 11, 3) := by decide +kernel
theorem dL_move_10 : decode cL_move 10 = .ok (.astore 4, 2) := by decide +kernel
theorem dL_move_12 : decode cL_move 12 = .ok (.iconst 1, 1) := by decide +kernel
theorem dL_move_13 : decode cL_move 13 = .ok (.ireturn, 1) := by decide +kernel
theorem dL_move_14 : decode cL_move 14 = .ok (.astore 4, 2) := by decide +kernel
theorem dL_move_16 : decode cL_move 16 = .ok (.iconst 2, 1) := by decide +kernel
theorem dL_move_17 : decode cL_move 17 = .ok (.ireturn, 1) := by decide +kernel
theorem dL_move_18 : decode cL_move 18 = .ok (.iconst 0, 1) := by decide +kernel
theorem dL_move_19 : decode cL_move 19 = .ok (.ireturn, 1) := by decide +kernel
set_option maxRecDepth 20000 in
theorem ggL_pin_X6_pin : GoodIn wsL_pin wsX6_pin := goodIn_ca (goodIn_r _ [6, 7, 8, 9, 10, 11, 5, 12, 13, 14, 15, 16, 17, 18, 19, 20, 21, 22, 23, 24, 25, 26, 27, 28, 29, 30, 31, 32] (by decide +kernel) (by decide +kernel)) (goodIn_sub (fun _ h => List.mem_cons_of_mem _ (List.mem_append_right _ h)) (by decide +kernel))
set_option maxRecDepth 20000 in
theorem gL_pin_X6_pin : GoodIn wsL_pin (wsV RL 23 RX6 yX6_pin wsX6_pin) := goodIn_app (goodIn_of _ (by decide +kernel)) ggL_pin_X6_pin
theorem dL_pin_0 : decode cL_pin 0 = .ok (.aload_n 3, 1) := by decide +kernel
theorem dL_pin_1 : decode cL_pin 1 = .ok (.iconst 0, 1) := by decide +kernel
theorem dL_pin_2 : decode cL_pin 2 = .ok (.aload_n 0, 1) := by decide +kernel
theorem dL_pin_3 : decode cL_pin 3 = .ok (.iload_n 1, 1) := by decide +kernel
theorem dL_pin_4 : decode cL_pin 4 = .ok (.iload_n 2, 1) := by decide +kernel
theorem dL_pin_5 : decode cL_pin 5 = .ok (.invokevirtual 23, 3) := by decide +kernel
theorem dL_pin_8 : decode cL_pin 8 = .ok (.ifCond .eq 7, 3) := by decide +kernel
theorem dL_pin_11 : decode cL_pin 11 = .ok (.lconst 1, 1) := by decide +kernel
theorem dL_pin_12 : decode cL_pin 12 = .ok (.goto 4, 3) := by decide +kernel
theorem dL_pin_15 : decode cL_pin 15 = .ok (.lconst 0, 1) := by decide +kernel
theorem dL_pin_16 : decode cL_pin 16 = .ok (.lastore, 1) := by decide +kernel
theorem dL_pin_17 : decode cL_pin 17 = .ok (.goto 7, 3) := by decide +kernel
theorem dL_pin_20 : decode cL_pin 20 = .ok (.astore 4, 2) := by decide +kernel
theorem dL_pin_22 : decode cL_pin 22 = .ok (.iconst 1, 1) := by decide +kernel
theorem dL_pin_23 : decode cL_pin 23 = .ok (.ireturn, 1) := by decide +kernel
theorem dL_pin_24 : decode cL_pin 24 = .ok (.iconst 0, 1) := by decide +kernel
theorem dL_pin_25 : decode cL_pin 25 = .ok (.ireturn, 1) := by decide +kernel
set_option maxRecDepth 20000 in
theorem ggL_member_X6_member : GoodIn wsL_member wsX6_member := goodIn_ca (goodIn_ca (goodIn_ca (goodIn_r _ [8, 9, 10, 11, 12, 13, 14, 15, 16, 7, 17, 18, 19, 20, 21, 22, 23, 24, 25, 26, 27, 28, 29, 30, 31, 32, 33, 34, 35, 36, 37, 38, 39, 40, 41, 42, 43, 44, 45, 46, 47, 48, 49, 50, 51, 52, 53, 54, 55, 56, 57, 58, 59, 60, 61, 62, 63, 64, 65, 66, 67, 68, 69, 70, 71, 72, 73, 74] (by decide +kernel) (by decide +kernel)) (goodIn_sub (fun _ h => List.mem_cons_of_mem _ (List.mem_append_left _ (List.mem_append_left _ (List.mem_append_right _ h)))) (by decide +kernel))) (goodIn_sub (fun _ h => List.mem_cons_of_mem _ (List.mem_append_left _ (List.mem_append_right _ h))) (by decide +kernel))) (goodIn_sub (fun _ h => List.mem_cons_of_mem _ (List.mem_append_right _ h)) (by decide +kernel))
set_option maxRecDepth 20000 in
theorem gL_member_X6_member : GoodIn wsL_member (wsV RL 27 RX6 yX6_member wsX6_member) := goodIn_app (goodIn_of _ (by decide +kernel)) ggL_member_X6_member
theorem dL_member_0 : decode cL_member 0 = .ok (.aload 4, 2) := by decide +kernel
theorem dL_member_2 : decode cL_member 2 = .ok (.iconst 0, 1) := by decide +kernel
theorem dL_member_3 : decode cL_member 3 = .ok (.aload_n 0, 1) := by decide +kernel
theorem dL_member_4 : decode cL_member 4 = .ok (.iload_n 1, 1) := by decide +kernel
theorem dL_member_5 : decode cL_member 5 = .ok (.iload_n 2, 1) := by decide +kernel
theorem dL_member_6 : decode cL_member 6 = .ok (.iload_n 3, 1) := by decide +kernel
theorem dL_member_7 : decode cL_member 7 = .ok (.invokevirtual 27, 3) := by decide +kernel
theorem dL_member_10 : decode cL_member 10 = .ok (.i2l, 1) := by decide +kernel
theorem dL_member_11 : decode cL_member 11 = .ok (.lastore, 1) := by decide +kernel
theorem dL_member_12 : decode cL_member 12 = .ok (.goto 15, 3) := by decide +kernel
theorem dL_member_15 : decode cL_member 15 = .ok (.astore 5, 2) := by decide +kernel
theorem dL_member_17 : decode cL_member 17 = .ok (.iconst 1, 1) := by decide +kernel
theorem dL_member_18 : decode cL_member 18 = .ok (.ireturn, 1) := by decide +kernel
theorem dL_member_19 : decode cL_member 19 = .ok (.astore 5, 2) := by decide +kernel
theorem dL_member_21 : decode cL_member 21 = .ok (.iconst 2, 1) := by decide +kernel
theorem dL_member_22 : decode cL_member 22 = .ok (.ireturn, 1) := by decide +kernel
theorem dL_member_23 : decode cL_member 23 = .ok (.astore 5, 2) := by decide +kernel
theorem dL_member_25 : decode cL_member 25 = .ok (.iconst 3, 1) := by decide +kernel
theorem dL_member_26 : decode cL_member 26 = .ok (.ireturn, 1) := by decide +kernel
theorem dL_member_27 : decode cL_member 27 = .ok (.iconst 0, 1) := by decide +kernel
theorem dL_member_28 : decode cL_member 28 = .ok (.ireturn, 1) := by decide +kernel
set_option maxRecDepth 20000 in
theorem ggL_remove_X6_remove : GoodIn wsL_remove wsX6_remove := goodIn_ca (goodIn_r _ [6, 7, 8, 9, 10, 11, 5, 12, 13, 14, 15, 16, 17, 18, 19, 20, 21, 22, 23, 24, 25, 26, 27, 28, 29, 30, 31, 32, 33, 34, 35, 36, 37, 38, 39, 40, 41, 42, 43] (by decide +kernel) (by decide +kernel)) (goodIn_sub (fun _ h => List.mem_cons_of_mem _ (List.mem_append_right _ h)) (by decide +kernel))
set_option maxRecDepth 20000 in
theorem gL_remove_X6_remove : GoodIn wsL_remove (wsV RL 31 RX6 yX6_remove wsX6_remove) := goodIn_app (goodIn_of _ (by decide +kernel)) ggL_remove_X6_remove
theorem dL_remove_0 : decode cL_remove 0 = .ok (.aload_n 2, 1) := by decide +kernel
theorem dL_remove_1 : decode cL_remove 1 = .ok (.iconst 0, 1) := by decide +kernel
theorem dL_remove_2 : decode cL_remove 2 = .ok (.aload_n 0, 1) := by decide +kernel
theorem dL_remove_3 : decode cL_remove 3 = .ok (.iload_n 1, 1) := by decide +kernel
theorem dL_remove_4 : decode cL_remove 4 = .ok (.invokevirtual 31, 3) := by decide +kernel
theorem dL_remove_7 : decode cL_remove 7 = .ok (.i2l, 1) := by decide +kernel
theorem dL_remove_8 : decode cL_remove 8 = .ok (.lastore, 1) := by decide +kernel
theorem dL_remove_9 : decode cL_remove 9 = .ok (.goto 6, 3) := by decide +kernel
theorem dL_remove_12 : decode cL_remove 12 = .ok (.astore_n 3, 1) := by decide +kernel
theorem dL_remove_13 : decode cL_remove 13 = .ok (.iconst 1, 1) := by decide +kernel
theorem dL_remove_14 : decode cL_remove 14 = .ok (.ireturn, 1) := by decide +kernel
theorem dL_remove_15 : decode cL_remove 15 = .ok (.iconst 0, 1) := by decide +kernel
theorem dL_remove_16 : decode cL_remove 16 = .ok (.ireturn, 1) := by decide +kernel
set_option maxRecDepth 20000 in
theorem ggL_isRedundant_X6_isRedundant : GoodIn wsL_isRedundant wsX6_isRedundant := goodIn_ca (goodIn_r _ [6, 7, 8, 9, 10, 11, 5, 12, 13, 14, 15, 16, 17, 18, 19, 20, 21, 22, 23, 24, 25, 26, 27, 28, 29, 30, 31, 32, 33, 34, 35, 36, 37, 38, 39, 40, 41, 42, 43, 44, 45, 46, 47, 48, 49, 50, 51, 52, 53, 54, 55, 56, 57, 58, 59, 60, 61, 62, 63, 64, 65, 66, 67, 68, 69, 70, 71, 72, 73, 74, 75, 76, 77, 78, 79, 80, 81, 82, 83, 84, 85, 86, 87, 88, 89, 90, 91, 92, 93, 94, 95, 96, 97, 98, 99, 100, 101, 102, 103, 104, 105, 106, 107, 108, 109, 110, 111, 112, 113, 114, 115, 116, 117, 118, 119, 120, 121, 122, 123, 124, 125, 126, 127, 128, 129, 130, 131, 132, 133, 134, 135, 136, 137, 138, 139, 140, 141, 142, 143, 144, 145, 146, 147] (by decide +kernel) (by decide +kernel)) (goodIn_sub (fun _ h => List.mem_cons_of_mem _ (List.mem_append_right _ h)) (by decide +kernel))
set_option maxRecDepth 20000 in
theorem gL_isRedundant_X6_isRedundant : GoodIn wsL_isRedundant (wsV RL 35 RX6 yX6_isRedundant wsX6_isRedundant) := goodIn_app (goodIn_of _ (by decide +kernel)) ggL_isRedundant_X6_isRedundant
theorem dL_isRedundant_0 : decode cL_isRedundant 0 = .ok (.aload_n 2, 1) := by decide +kernel
theorem dL_isRedundant_1 : decode cL_isRedundant 1 = .ok (.iconst 0, 1) := by decide +kernel
theorem dL_isRedundant_2 : decode cL_isRedundant 2 = .ok (.aload_n 0, 1) := by decide +kernel
theorem dL_isRedundant_3 : decode cL_isRedundant 3 = .ok (.iload_n 1, 1) := by decide +kernel
theorem dL_isRedundant_4 : decode cL_isRedundant 4 = .ok (.invokevirtual 35, 3) := by decide +kernel
theorem dL_isRedundant_7 : decode cL_isRedundant 7 = .ok (.ifCond .eq 7, 3) := by decide +kernel
theorem dL_isRedundant_10 : decode cL_isRedundant 10 = .ok (.lconst 1, 1) := by decide +kernel
theorem dL_isRedundant_11 : decode cL_isRedundant 11 = .ok (.goto 4, 3) := by decide +kernel
theorem dL_isRedundant_14 : decode cL_isRedundant 14 = .ok (.lconst 0, 1) := by decide +kernel
theorem dL_isRedundant_15 : decode cL_isRedundant 15 = .ok (.lastore, 1) := by decide +kernel
theorem dL_isRedundant_16 : decode cL_isRedundant 16 = .ok (.goto 6, 3) := by decide +kernel
theorem dL_isRedundant_19 : decode cL_isRedundant 19 = .ok (.astore_n 3, 1) := by decide +kernel
theorem dL_isRedundant_20 : decode cL_isRedundant 20 = .ok (.iconst 1, 1) := by decide +kernel
theorem dL_isRedundant_21 : decode cL_isRedundant 21 = .ok (.ireturn, 1) := by decide +kernel
theorem dL_isRedundant_22 : decode cL_isRedundant 22 = .ok (.iconst 0, 1) := by decide +kernel
theorem dL_isRedundant_23 : decode cL_isRedundant 23 = .ok (.ireturn, 1) := by decide +kernel
set_option maxRecDepth 20000 in
theorem ggL_flex_X6_flex : GoodIn wsL_flex wsX6_flex := goodIn_ca (goodIn_r _ [6, 7, 8, 9, 10, 11, 12, 13, 5, 14, 15, 16, 17, 18, 19, 20, 21, 22, 23, 24, 25, 26, 27, 28, 29, 30, 31, 32, 33, 34, 35, 36, 37, 38, 39, 40, 41, 42, 43, 44, 45, 46, 47, 48, 49, 50, 51, 52, 53, 54, 55, 56, 57, 58, 59, 60, 61, 62, 63, 64, 65, 66, 67, 68, 69, 70, 71, 72, 73, 74, 75, 76, 77, 78, 79, 80, 81, 82, 83, 84, 85, 86, 87, 88, 89, 90, 91, 92, 93, 94, 95, 96, 97, 98, 99, 100, 101, 102, 103, 104, 105, 106, 107, 108, 109, 110, 111, 112, 113, 114, 115, 116, 117, 118, 119, 120, 121, 122, 123, 124, 125, 126, 127, 128, 129, 130, 131, 132, 133, 134, 135, 136, 137, 138, 139, 140, 141, 142, 143, 144, 145, 146, 147, 148, 149, 150, 151, 152, 153, 154, 155, 156, 157, 158, 159, 160] (by decide +kernel) (by decide +kernel)) (goodIn_sub (fun _ h => List.mem_cons_of_mem _ (List.mem_append_right _ h)) (by decide +kernel))
set_option maxRecDepth 20000 in
theorem gL_flex_X6_flex : GoodIn wsL_flex (wsV RL 39 RX6 yX6_flex wsX6_flex) := goodIn_app (goodIn_of _ (by decide +kernel)) ggL_flex_X6_flex
theorem dL_flex_0 : decode cL_flex 0 = .ok (.aload 4, 2) := by decide +kernel
theorem dL_flex_2 : decode cL_flex 2 = .ok (.iconst 0, 1) := by decide +kernel
theorem dL_flex_3 : decode cL_flex 3 = .ok (.aload_n 0, 1) := by decide +kernel
theorem dL_flex_4 : decode cL_flex 4 = .ok (.iload_n 1, 1) := by decide +kernel
theorem dL_flex_5 : decode cL_flex 5 = .ok (.iload_n 2, 1) := by decide +kernel
theorem dL_flex_6 : decode cL_flex 6 = .ok (.iload_n 3, 1) := by decide +kernel
theorem dL_flex_7 : decode cL_flex 7 = .ok (.invokevirtual 39, 3) := by decide +kernel
theorem dL_flex_10 : decode cL_flex 10 = .ok (.i2l, 1) := by decide +kernel
theorem dL_flex_11 : decode cL_flex 11 = .ok (.lastore, 1) := by decide +kernel
theorem dL_flex_12 : decode cL_flex 12 = .ok (.goto 7, 3) := by decide +kernel
theorem dL_flex_15 : decode cL_flex 15 = .ok (.astore 5, 2) := by decide +kernel
theorem dL_flex_17 : decode cL_flex 17 = .ok (.iconst 1, 1) := by decide +kernel
theorem dL_flex_18 : decode cL_flex 18 = .ok (.ireturn, 1) := by decide +kernel
theorem dL_flex_19 : decode cL_flex 19 = .ok (.iconst 0, 1) := by decide +kernel
theorem dL_flex_20 : decode cL_flex 20 = .ok (.ireturn, 1) := by decide +kernel
set_option maxRecDepth 20000 in
theorem ggL_balance_X6_balance : GoodIn wsL_balance wsX6_balance := goodIn_ca (goodIn_r _ [6, 7, 8, 9, 10, 11, 12, 13, 5, 14, 15, 16, 17, 18, 19, 20, 21, 22, 23, 24, 25, 26, 27, 28, 29, 30, 31, 32, 33, 34, 35, 36, 37, 38, 39, 40, 41, 42, 43, 44, 45, 46, 47, 48, 49, 50, 51, 52, 53, 54, 55, 56, 57, 58, 59, 60, 61, 62, 63, 64, 65, 66, 67, 68, 69, 70, 71, 72, 73, 74, 75, 76, 77, 78, 79, 80, 81, 82, 83, 84, 85, 86, 87, 88, 89, 90, 91, 92, 93, 94, 95, 96, 97, 98, 99, 100, 101, 102, 103, 104, 105, 106, 107, 108, 109, 110, 111, 112, 113, 114, 115, 116, 117, 118, 119, 120, 121, 122, 123, 124, 125, 126, 127, 128, 129, 130, 131, 132, 133, 134, 135, 136, 137, 138, 139, 140, 141, 142, 143, 144, 145, 146, 147, 148, 149, 150, 151, 152, 153, 154, 155, 156, 157, 158, 159] (by decide +kernel) (by decide +kernel)) (goodIn_sub (fun _ h => List.mem_cons_of_mem _ (List.mem_append_right _ h)) (by decide +kernel))
set_option maxRecDepth 20000 in
theorem gL_balance_X6_balance : GoodIn wsL_balance (wsV RL 43 RX6 yX6_balance wsX6_balance) := goodIn_app (goodIn_of _ (by decide +kernel)) ggL_balance_X6_balance
theorem dL_balance_0 : decode cL_balance 0 = .ok (.aload_n 3, 1) := by decide +kernel
theorem dL_balance_1 : decode cL_balance 1 = .ok (.iconst 0, 1) := by decide +kernel
theorem dL_balance_2 : decode cL_balance 2 = .ok (.aload_n 0, 1) := by decide +kernel
theorem dL_balance_3 : decode cL_balance 3 = .ok (.iload_n 1, 1) := by decide +kernel
theorem dL_balance_4 : decode cL_balance 4 = .ok (.iload_n 2, 1) := by decide +kernel
theorem dL_balance_5 : decode cL_balance 5 = .ok (.invokevirtual 43, 3) := by decide +kernel
theorem dL_balance_8 : decode cL_balance 8 = .ok (.i2l, 1) := by decide +kernel
theorem dL_balance_9 : decode cL_balance 9 = .ok (.lastore, 1) := by decide +kernel
theorem dL_balance_10 : decode cL_balance 10 = .ok (.goto 7, 3) := by decide +kernel
theorem dL_balance_13 : decode cL_balance 13 = .ok (.astore 4, 2) := by decide +kernel
theorem dL_balance_15 : decode cL_balance 15 = .ok (.iconst 1, 1) := by decide +kernel
theorem dL_balance_16 : decode cL_balance 16 = .ok (.ireturn, 1) := by decide +kernel
theorem dL_balance_17 : decode cL_balance 17 = .ok (.iconst 0, 1) := by decide +kernel
theorem dL_balance_18 : decode cL_balance 18 = .ok (.ireturn, 1) := by decide +kernel
set_option maxRecDepth 20000 in
theorem ggL_rankAt_X6_rankAt : GoodIn wsL_rankAt wsX6_rankAt := goodIn_ca (goodIn_r _ [6, 7, 8, 9, 10, 11, 12, 13, 14, 15, 16, 17, 18, 19, 20, 21, 22, 23, 24, 25, 26, 27, 28, 29, 30, 31, 32, 33, 5, 34, 35, 36, 37, 38, 39, 40, 41, 42, 43, 44, 45, 46, 47, 48, 49, 50, 51, 52, 53, 54, 55, 56, 57, 58, 59, 60, 61, 62, 63, 64, 65, 66, 67, 68, 69, 70, 71, 72, 73, 74, 75, 76, 77, 78, 79, 80, 81, 82, 83, 84, 85, 86, 87, 88, 89, 90, 91, 92, 93, 94, 95, 96, 97, 98, 99, 100, 101, 102, 103, 104, 105, 106, 107, 108, 109, 110, 111, 112, 113, 114, 115, 116, 117, 118, 119, 120, 121, 122, 123, 124, 125, 126, 127, 128, 129, 130, 131, 132, 133, 134, 135, 136, 137, 138, 139, 140, 141, 142, 143, 144, 145, 146, 147, 148, 149, 150] (by decide +kernel) (by decide +kernel)) (goodIn_sub (fun _ h => List.mem_cons_of_mem _ (List.mem_append_right _ h)) (by decide +kernel))
set_option maxRecDepth 20000 in
theorem gL_rankAt_X6_rankAt : GoodIn wsL_rankAt (wsV RL 46 RX6 yX6_rankAt wsX6_rankAt) := goodIn_app (goodIn_of _ (by decide +kernel)) ggL_rankAt_X6_rankAt
theorem dL_rankAt_0 : decode cL_rankAt 0 = .ok (.aload_n 2, 1) := by decide +kernel
theorem dL_rankAt_1 : decode cL_rankAt 1 = .ok (.iconst 0, 1) := by decide +kernel
theorem dL_rankAt_2 : decode cL_rankAt 2 = .ok (.aload_n 0, 1) := by decide +kernel
theorem dL_rankAt_3 : decode cL_rankAt 3 = .ok (.iload_n 1, 1) := by decide +kernel
theorem dL_rankAt_4 : decode cL_rankAt 4 = .ok (.invokevirtual 46, 3) := by decide +kernel
theorem dL_rankAt_7 : decode cL_rankAt 7 = .ok (.i2l, 1) := by decide +kernel
theorem dL_rankAt_8 : decode cL_rankAt 8 = .ok (.lastore, 1) := by decide +kernel
theorem dL_rankAt_9 : decode cL_rankAt 9 = .ok (.goto 6, 3) := by decide +kernel
theorem dL_rankAt_12 : decode cL_rankAt 12 = .ok (.astore_n 3, 1) := by decide +kernel
theorem dL_rankAt_13 : decode cL_rankAt 13 = .ok (.iconst 1, 1) := by decide +kernel
theorem dL_rankAt_14 : decode cL_rankAt 14 = .ok (.ireturn, 1) := by decide +kernel
theorem dL_rankAt_15 : decode cL_rankAt 15 = .ok (.iconst 0, 1) := by decide +kernel
theorem dL_rankAt_16 : decode cL_rankAt 16 = .ok (.ireturn, 1) := by decide +kernel
set_option maxRecDepth 20000 in
theorem ggL_isKept_X6_isKept : GoodIn wsL_isKept wsX6_isKept := goodIn_ca (goodIn_r _ [6, 7, 8, 9, 10, 5, 11, 12, 13, 14, 15, 16, 17, 18, 19, 20, 21, 22, 23, 24, 25, 26, 27, 28, 29, 30, 31, 32, 33, 34, 35, 36, 37, 38, 39, 40, 41, 42, 43, 44, 45, 46, 47, 48, 49, 50, 51, 52, 53, 54, 55, 56, 57, 58, 59, 60, 61, 62, 63, 64, 65, 66, 67, 68, 69, 70, 71, 72, 73, 74, 75, 76, 77, 78, 79, 80, 81, 82, 83, 84, 85, 86, 87, 88, 89, 90, 91, 92, 93] (by decide +kernel) (by decide +kernel)) (goodIn_sub (fun _ h => List.mem_cons_of_mem _ (List.mem_append_right _ h)) (by decide +kernel))
set_option maxRecDepth 20000 in
theorem gL_isKept_X6_isKept : GoodIn wsL_isKept (wsV RL 49 RX6 yX6_isKept wsX6_isKept) := goodIn_app (goodIn_of _ (by decide +kernel)) ggL_isKept_X6_isKept
theorem dL_isKept_0 : decode cL_isKept 0 = .ok (.aload_n 2, 1) := by decide +kernel
theorem dL_isKept_1 : decode cL_isKept 1 = .ok (.iconst 0, 1) := by decide +kernel
theorem dL_isKept_2 : decode cL_isKept 2 = .ok (.aload_n 0, 1) := by decide +kernel
theorem dL_isKept_3 : decode cL_isKept 3 = .ok (.iload_n 1, 1) := by decide +kernel
theorem dL_isKept_4 : decode cL_isKept 4 = .ok (.invokevirtual 49, 3) := by decide +kernel
theorem dL_isKept_7 : decode cL_isKept 7 = .ok (.ifCond .eq 7, 3) := by decide +kernel
theorem dL_isKept_10 : decode cL_isKept 10 = .ok (.lconst 1, 1) := by decide +kernel
theorem dL_isKept_11 : decode cL_isKept 11 = .ok (.goto 4, 3) := by decide +kernel
theorem dL_isKept_14 : decode cL_isKept 14 = .ok (.lconst 0, 1) := by decide +kernel
theorem dL_isKept_15 : decode cL_isKept 15 = .ok (.lastore, 1) := by decide +kernel
theorem dL_isKept_16 : decode cL_isKept 16 = .ok (.goto 6, 3) := by decide +kernel
theorem dL_isKept_19 : decode cL_isKept 19 = .ok (.astore_n 3, 1) := by decide +kernel
theorem dL_isKept_20 : decode cL_isKept 20 = .ok (.iconst 1, 1) := by decide +kernel
theorem dL_isKept_21 : decode cL_isKept 21 = .ok (.ireturn, 1) := by decide +kernel
theorem dL_isKept_22 : decode cL_isKept 22 = .ok (.iconst 0, 1) := by decide +kernel
theorem dL_isKept_23 : decode cL_isKept 23 = .ok (.ireturn, 1) := by decide +kernel
set_option maxRecDepth 20000 in
theorem ggL_block_X6_block : GoodIn wsL_block wsX6_block := goodIn_ca (goodIn_r _ [6, 7, 8, 9, 10, 11, 12, 13, 14, 5, 15, 16, 17, 18, 19, 20, 21, 22, 23, 24, 25, 26, 27, 28, 29, 30, 31, 32, 33, 34, 35, 36, 37, 38, 39, 40, 41, 42, 43, 44, 45, 46, 47, 48, 49, 50, 51, 52, 53, 54, 55, 56, 57, 58, 59, 60, 61, 62, 63, 64, 65, 66, 67, 68, 69, 70, 71, 72, 73, 74, 75, 76, 77, 78, 79, 80, 81, 82, 83, 84, 85, 86, 87, 88, 89, 90, 91, 92, 93, 94, 95, 96, 97, 98, 99, 100, 101, 102, 103, 104] (by decide +kernel) (by decide +kernel)) (goodIn_sub (fun _ h => List.mem_cons_of_mem _ (List.mem_append_right _ h)) (by decide +kernel))
set_option maxRecDepth 20000 in
theorem gL_block_X6_block : GoodIn wsL_block (wsV RL 52 RX6 yX6_block wsX6_block) := goodIn_app (goodIn_of _ (by decide +kernel)) ggL_block_X6_block
theorem dL_block_0 : decode cL_block 0 = .ok (.aload_n 2, 1) := by decide +kernel
theorem dL_block_1 : decode cL_block 1 = .ok (.iconst 0, 1) := by decide +kernel
theorem dL_block_2 : decode cL_block 2 = .ok (.aload_n 0, 1) := by decide +kernel
theorem dL_block_3 : decode cL_block 3 = .ok (.iload_n 1, 1) := by decide +kernel
theorem dL_block_4 : decode cL_block 4 = .ok (.invokevirtual 52, 3) := by decide +kernel
theorem dL_block_7 : decode cL_block 7 = .ok (.i2l, 1) := by decide +kernel
theorem dL_block_8 : decode cL_block 8 = .ok (.lastore, 1) := by decide +kernel
theorem dL_block_9 : decode cL_block 9 = .ok (.goto 6, 3) := by decide +kernel
theorem dL_block_12 : decode cL_block 12 = .ok (.astore_n 3, 1) := by decide +kernel
theorem dL_block_13 : decode cL_block 13 = .ok (.iconst 1, 1) := by decide +kernel
theorem dL_block_14 : decode cL_block 14 = .ok (.ireturn, 1) := by decide +kernel
theorem dL_block_15 : decode cL_block 15 = .ok (.iconst 0, 1) := by decide +kernel
theorem dL_block_16 : decode cL_block 16 = .ok (.ireturn, 1) := by decide +kernel
set_option maxRecDepth 20000 in
theorem ggL_grow_X6_grow : GoodIn wsL_grow wsX6_grow := goodIn_ca (goodIn_ca (goodIn_ca (goodIn_r _ [8, 9, 10, 11, 12, 13, 14, 7, 15, 16, 17, 18, 19, 20, 21, 22, 23, 24, 25, 26, 27, 28, 29, 30, 31, 32, 33, 34, 35, 36, 37, 38, 39, 40, 41, 42, 43, 44, 45, 46, 47, 48, 49, 50, 51, 52, 53, 54, 55, 56, 57, 58, 59, 60, 61, 62, 63, 64, 65, 66, 67, 68, 69, 70, 71, 72, 73, 74, 75, 76, 77, 78, 79, 80, 81, 82, 83, 84, 85, 86, 87, 88, 89, 90, 91] (by decide +kernel) (by decide +kernel)) (goodIn_sub (fun _ h => List.mem_cons_of_mem _ (List.mem_append_left _ (List.mem_append_left _ (List.mem_append_right _ h)))) (by decide +kernel))) (goodIn_sub (fun _ h => List.mem_cons_of_mem _ (List.mem_append_left _ (List.mem_append_right _ h))) (by decide +kernel))) (goodIn_sub (fun _ h => List.mem_cons_of_mem _ (List.mem_append_right _ h)) (by decide +kernel))
set_option maxRecDepth 20000 in
theorem gL_grow_X6_grow : GoodIn wsL_grow (wsV RL 55 RX6 yX6_grow wsX6_grow) := goodIn_app (goodIn_of _ (by decide +kernel)) ggL_grow_X6_grow
theorem dL_grow_0 : decode cL_grow 0 = .ok (.aload 5, 2) := by decide +kernel
theorem dL_grow_2 : decode cL_grow 2 = .ok (.iconst 0, 1) := by decide +kernel
theorem dL_grow_3 : decode cL_grow 3 = .ok (.aload_n 0, 1) := by decide +kernel
theorem dL_grow_4 : decode cL_grow 4 = .ok (.iload_n 1, 1) := by decide +kernel
theorem dL_grow_5 : decode cL_grow 5 = .ok (.iload_n 2, 1) := by decide +kernel
theorem dL_grow_6 : decode cL_grow 6 = .ok (.iload_n 3, 1) := by decide +kernel
theorem dL_grow_7 : decode cL_grow 7 = .ok (.iload 4, 2) := by decide +kernel
theorem dL_grow_9 : decode cL_grow 9 = .ok (.invokevirtual 55, 3) := by decide +kernel
theorem dL_grow_12 : decode cL_grow 12 = .ok (.i2l, 1) := by decide +kernel
theorem dL_grow_13 : decode cL_grow 13 = .ok (.lastore, 1) := by decide +kernel
theorem dL_grow_14 : decode cL_grow 14 = .ok (.goto 15, 3) := by decide +kernel
theorem dL_grow_17 : decode cL_grow 17 = .ok (.astore 6, 2) := by decide +kernel
theorem dL_grow_19 : decode cL_grow 19 = .ok (.iconst 1, 1) := by decide +kernel
theorem dL_grow_20 : decode cL_grow 20 = .ok (.ireturn, 1) := by decide +kernel
theorem dL_grow_21 : decode cL_grow 21 = .ok (.astore 6, 2) := by decide +kernel
theorem dL_grow_23 : decode cL_grow 23 = .ok (.iconst 2, 1) := by decide +kernel
theorem dL_grow_24 : decode cL_grow 24 = .ok (.ireturn, 1) := by decide +kernel
theorem dL_grow_25 : decode cL_grow 25 = .ok (.astore 6, 2) := by decide +kernel
theorem dL_grow_27 : decode cL_grow 27 = .ok (.iconst 3, 1) := by decide +kernel
theorem dL_grow_28 : decode cL_grow 28 = .ok (.ireturn, 1) := by decide +kernel
theorem dL_grow_29 : decode cL_grow 29 = .ok (.iconst 0, 1) := by decide +kernel
theorem dL_grow_30 : decode cL_grow 30 = .ok (.ireturn, 1) := by decide +kernel
set_option maxRecDepth 20000 in
theorem ggL_split_X6_split : GoodIn wsL_split wsX6_split := goodIn_ca (goodIn_ca (goodIn_ca (goodIn_r _ [8, 9, 10, 11, 12, 13, 14, 15, 16, 17, 18, 19, 7, 20, 21, 22, 23, 24, 25, 26, 27, 28, 29, 30, 31, 32, 33, 34, 35, 36, 37, 38, 39, 40, 41, 42, 43, 44, 45, 46, 47, 48, 49, 50, 51, 52, 53, 54, 55, 56, 57, 58, 59, 60, 61, 62, 63, 64, 65, 66, 67, 68, 69, 70, 71, 72, 73, 74, 75, 76, 77, 78, 79, 80, 81, 82, 83, 84, 85, 86, 87, 88, 89, 90, 91, 92, 93, 94, 95, 96, 97, 98, 99, 100, 101, 102, 103, 104] (by decide +kernel) (by decide +kernel)) (goodIn_sub (fun _ h => List.mem_cons_of_mem _ (List.mem_append_left _ (List.mem_append_left _ (List.mem_append_right _ h)))) (by decide +kernel))) (goodIn_sub (fun _ h => List.mem_cons_of_mem _ (List.mem_append_left _ (List.mem_append_right _ h))) (by decide +kernel))) (goodIn_sub (fun _ h => List.mem_cons_of_mem _ (List.mem_append_right _ h)) (by decide +kernel))
set_option maxRecDepth 20000 in
theorem gL_split_X6_split : GoodIn wsL_split (wsV RL 59 RX6 yX6_split wsX6_split) := goodIn_app (goodIn_of _ (by decide +kernel)) ggL_split_X6_split
theorem dL_split_0 : decode cL_split 0 = .ok (.aload 5, 2) := by decide +kernel
theorem dL_split_2 : decode cL_split 2 = .ok (.iconst 0, 1) := by decide +kernel
theorem dL_split_3 : decode cL_split 3 = .ok (.aload_n 0, 1) := by decide +kernel
theorem dL_split_4 : decode cL_split 4 = .ok (.iload_n 1, 1) := by decide +kernel
theorem dL_split_5 : decode cL_split 5 = .ok (.iload_n 2, 1) := by decide +kernel
theorem dL_split_6 : decode cL_split 6 = .ok (.iload_n 3, 1) := by decide +kernel
theorem dL_split_7 : decode cL_split 7 = .ok (.iload 4, 2) := by decide +kernel
theorem dL_split_9 : decode cL_split 9 = .ok (.invokevirtual 59, 3) := by decide +kernel
theorem dL_split_12 : decode cL_split 12 = .ok (.i2l, 1) := by decide +kernel
theorem dL_split_13 : decode cL_split 13 = .ok (.lastore, 1) := by decide +kernel
theorem dL_split_14 : decode cL_split 14 = .ok (.goto 15, 3) := by decide +kernel
theorem dL_split_17 : decode cL_split 17 = .ok (.astore 6, 2) := by decide +kernel
theorem dL_split_19 : decode cL_split 19 = .ok (.iconst 1, 1) := by decide +kernel
theorem dL_split_20 : decode cL_split 20 = .ok (.ireturn, 1) := by decide +kernel
theorem dL_split_21 : decode cL_split 21 = .ok (.astore 6, 2) := by decide +kernel
theorem dL_split_23 : decode cL_split 23 = .ok (.iconst 2, 1) := by decide +kernel
theorem dL_split_24 : decode cL_split 24 = .ok (.ireturn, 1) := by decide +kernel
theorem dL_split_25 : decode cL_split 25 = .ok (.astore 6, 2) := by decide +kernel
theorem dL_split_27 : decode cL_split 27 = .ok (.iconst 3, 1) := by decide +kernel
theorem dL_split_28 : decode cL_split 28 = .ok (.ireturn, 1) := by decide +kernel
theorem dL_split_29 : decode cL_split 29 = .ok (.iconst 0, 1) := by decide +kernel
theorem dL_split_30 : decode cL_split 30 = .ok (.ireturn, 1) := by decide +kernel
set_option maxRecDepth 20000 in
theorem ggL_undo_X6_undo : GoodIn wsL_undo wsX6_undo := goodIn_ca (goodIn_r _ [6, 7, 8, 9, 10, 11, 12, 13, 14, 15, 16, 17, 18, 5, 19, 20, 21, 22, 23, 24, 25, 26, 27, 28, 29, 30, 31, 32, 33, 34, 35, 36, 37, 38, 39, 40, 41, 42, 43, 44, 45, 46, 47, 48, 49, 50, 51, 52, 53, 54, 55, 56, 57, 58, 59, 60, 61, 62, 63, 64, 65, 66, 67, 68, 69, 70, 71, 72, 73, 74, 75, 76, 77, 78, 79, 80, 81, 82, 83, 84, 85, 86, 87, 88, 89] (by decide +kernel) (by decide +kernel)) (goodIn_sub (fun _ h => List.mem_cons_of_mem _ (List.mem_append_right _ h)) (by decide +kernel))
set_option maxRecDepth 20000 in
theorem gL_undo_X6_undo : GoodIn wsL_undo (wsV RL 62 RX6 yX6_undo wsX6_undo) := goodIn_app (goodIn_of _ (by decide +kernel)) ggL_undo_X6_undo
theorem dL_undo_0 : decode cL_undo 0 = .ok (.aload_n 1, 1) := by decide +kernel
theorem dL_undo_1 : decode cL_undo 1 = .ok (.iconst 0, 1) := by decide +kernel
theorem dL_undo_2 : decode cL_undo 2 = .ok (.aload_n 0, 1) := by decide +kernel
theorem dL_undo_3 : decode cL_undo 3 = .ok (.invokevirtual 62, 3) := by decide +kernel
theorem dL_undo_6 : decode cL_undo 6 = .ok (.i2l, 1) := by decide +kernel
theorem dL_undo_7 : decode cL_undo 7 = .ok (.lastore, 1) := by decide +kernel
theorem dL_undo_8 : decode cL_undo 8 = .ok (.goto 6, 3) := by decide +kernel
theorem dL_undo_11 : decode cL_undo 11 = .ok (.astore_n 2, 1) := by decide +kernel
theorem dL_undo_12 : decode cL_undo 12 = .ok (.iconst 1, 1) := by decide +kernel
theorem dL_undo_13 : decode cL_undo 13 = .ok (.ireturn, 1) := by decide +kernel
theorem dL_undo_14 : decode cL_undo 14 = .ok (.iconst 0, 1) := by decide +kernel
theorem dL_undo_15 : decode cL_undo 15 = .ok (.ireturn, 1) := by decide +kernel
set_option maxRecDepth 20000 in
theorem ggL_stress_X6_stress : GoodIn wsL_stress wsX6_stress := goodIn_ca (goodIn_ca (goodIn_r _ [7, 8, 9, 10, 11, 12, 13, 14, 6, 15, 16, 17, 18, 19, 20, 21, 22, 23, 24, 25, 26, 27, 28, 29, 30, 31, 32, 33, 34, 35, 36, 37] (by decide +kernel) (by decide +kernel)) (goodIn_sub (fun _ h => List.mem_cons_of_mem _ (List.mem_append_left _ (List.mem_append_right _ h))) (by decide +kernel))) (goodIn_sub (fun _ h => List.mem_cons_of_mem _ (List.mem_append_right _ h)) (by decide +kernel))
set_option maxRecDepth 20000 in
theorem gL_stress_X6_stress : GoodIn wsL_stress (wsV RL 66 RX6 yX6_stress wsX6_stress) := goodIn_app (goodIn_of _ (by decide +kernel)) ggL_stress_X6_stress
theorem dL_stress_0 : decode cL_stress 0 = .ok (.aload_n 3, 1) := by decide +kernel
theorem dL_stress_1 : decode cL_stress 1 = .ok (.iconst 0, 1) := by decide +kernel
theorem dL_stress_2 : decode cL_stress 2 = .ok (.aload_n 0, 1) := by decide +kernel
theorem dL_stress_3 : decode cL_stress 3 = .ok (.iload_n 1, 1) := by decide +kernel
theorem dL_stress_4 : decode cL_stress 4 = .ok (.iload_n 2, 1) := by decide +kernel
theorem dL_stress_5 : decode cL_stress 5 = .ok (.invokevirtual 66, 3) := by decide +kernel
theorem dL_stress_8 : decode cL_stress 8 = .ok (.i2l, 1) := by decide +kernel
theorem dL_stress_9 : decode cL_stress 9 = .ok (.lastore, 1) := by decide +kernel
theorem dL_stress_10 : decode cL_stress 10 = .ok (.goto 11, 3) := by decide +kernel
theorem dL_stress_13 : decode cL_stress 13 = .ok (.astore 4, 2) := by decide +kernel
theorem dL_stress_15 : decode cL_stress 15 = .ok (.iconst 1, 1) := by decide +kernel
theorem dL_stress_16 : decode cL_stress 16 = .ok (.ireturn, 1) := by decide +kernel
theorem dL_stress_17 : decode cL_stress 17 = .ok (.astore 4, 2) := by decide +kernel
theorem dL_stress_19 : decode cL_stress 19 = .ok (.iconst 2, 1) := by decide +kernel
theorem dL_stress_20 : decode cL_stress 20 = .ok (.ireturn, 1) := by decide +kernel
theorem dL_stress_21 : decode cL_stress 21 = .ok (.iconst 0, 1) := by decide +kernel
theorem dL_stress_22 : decode cL_stress 22 = .ok (.ireturn, 1) := by decide +kernel
set_option maxRecDepth 20000 in
theorem ggL_reaches_X6_reaches : GoodIn wsL_reaches wsX6_reaches := goodIn_ca (goodIn_r _ [6, 7, 8, 9, 10, 11, 12, 13, 14, 15, 5, 16, 17] (by decide +kernel) (by decide +kernel)) (goodIn_sub (fun _ h => List.mem_cons_of_mem _ (List.mem_append_right _ h)) (by decide +kernel))
set_option maxRecDepth 20000 in
theorem gL_reaches_X6_reaches : GoodIn wsL_reaches (wsV RL 69 RX6 yX6_reaches wsX6_reaches) := goodIn_app (goodIn_of _ (by decide +kernel)) ggL_reaches_X6_reaches
theorem dL_reaches_0 : decode cL_reaches 0 = .ok (.aload 5, 2) := by decide +kernel
theorem dL_reaches_2 : decode cL_reaches 2 = .ok (.iconst 0, 1) := by decide +kernel
theorem dL_reaches_3 : decode cL_reaches 3 = .ok (.aload_n 0, 1) := by decide +kernel
theorem dL_reaches_4 : decode cL_reaches 4 = .ok (.iload_n 1, 1) := by decide +kernel
theorem dL_reaches_5 : decode cL_reaches 5 = .ok (.iload_n 2, 1) := by decide +kernel
theorem dL_reaches_6 : decode cL_reaches 6 = .ok (.iload_n 3, 1) := by decide +kernel
theorem dL_reaches_7 : decode cL_reaches 7 = .ok (.iload 4, 2) := by decide +kernel
theorem dL_reaches_9 : decode cL_reaches 9 = .ok (.invokevirtual 69, 3) := by decide +kernel
theorem dL_reaches_12 : decode cL_reaches 12 = .ok (.ifCond .eq 7, 3) := by decide +kernel
theorem dL_reaches_15 : decode cL_reaches 15 = .ok (.lconst 1, 1) := by decide +kernel
theorem dL_reaches_16 : decode cL_reaches 16 = .ok (.goto 4, 3) := by decide +kernel
theorem dL_reaches_19 : decode cL_reaches 19 = .ok (.lconst 0, 1) := by decide +kernel
theorem dL_reaches_20 : decode cL_reaches 20 = .ok (.lastore, 1) := by decide +kernel
theorem dL_reaches_21 : decode cL_reaches 21 = .ok (.goto 7, 3) := by decide +kernel
theorem dL_reaches_24 : decode cL_reaches 24 = .ok (.astore 6, 2) := by decide +kernel
theorem dL_reaches_26 : decode cL_reaches 26 = .ok (.iconst 1, 1) := by decide +kernel
theorem dL_reaches_27 : decode cL_reaches 27 = .ok (.ireturn, 1) := by decide +kernel
theorem dL_reaches_28 : decode cL_reaches 28 = .ok (.iconst 0, 1) := by decide +kernel
theorem dL_reaches_29 : decode cL_reaches 29 = .ok (.ireturn, 1) := by decide +kernel
set_option maxRecDepth 20000 in
theorem ggL_folds_X6_folds : GoodIn wsL_folds wsX6_folds := goodIn_ca (goodIn_r _ [6, 7, 8, 9, 10, 5, 11, 12, 13, 14, 15, 16, 17, 18] (by decide +kernel) (by decide +kernel)) (goodIn_sub (fun _ h => List.mem_cons_of_mem _ (List.mem_append_right _ h)) (by decide +kernel))
set_option maxRecDepth 20000 in
theorem gL_folds_X6_folds : GoodIn wsL_folds (wsV RL 73 RX6 yX6_folds wsX6_folds) := goodIn_app (goodIn_of _ (by decide +kernel)) ggL_folds_X6_folds
theorem dL_folds_0 : decode cL_folds 0 = .ok (.aload 6, 2) := by decide +kernel
theorem dL_folds_2 : decode cL_folds 2 = .ok (.iconst 0, 1) := by decide +kernel
theorem dL_folds_3 : decode cL_folds 3 = .ok (.aload_n 0, 1) := by decide +kernel
theorem dL_folds_4 : decode cL_folds 4 = .ok (.iload_n 1, 1) := by decide +kernel
theorem dL_folds_5 : decode cL_folds 5 = .ok (.iload_n 2, 1) := by decide +kernel
theorem dL_folds_6 : decode cL_folds 6 = .ok (.iload_n 3, 1) := by decide +kernel
theorem dL_folds_7 : decode cL_folds 7 = .ok (.iload 4, 2) := by decide +kernel
theorem dL_folds_9 : decode cL_folds 9 = .ok (.iload 5, 2) := by decide +kernel
theorem dL_folds_11 : decode cL_folds 11 = .ok (.invokevirtual 73, 3) := by decide +kernel
theorem dL_folds_14 : decode cL_folds 14 = .ok (.i2l, 1) := by decide +kernel
theorem dL_folds_15 : decode cL_folds 15 = .ok (.lastore, 1) := by decide +kernel
theorem dL_folds_16 : decode cL_folds 16 = .ok (.goto 7, 3) := by decide +kernel
theorem dL_folds_19 : decode cL_folds 19 = .ok (.astore 7, 2) := by decide +kernel
theorem dL_folds_21 : decode cL_folds 21 = .ok (.iconst 1, 1) := by decide +kernel
theorem dL_folds_22 : decode cL_folds 22 = .ok (.ireturn, 1) := by decide +kernel
theorem dL_folds_23 : decode cL_folds 23 = .ok (.iconst 0, 1) := by decide +kernel
theorem dL_folds_24 : decode cL_folds 24 = .ok (.ireturn, 1) := by decide +kernel
set_option maxRecDepth 20000 in
theorem ggL_range_X6_range : GoodIn wsL_range wsX6_range := goodIn_ca (goodIn_ca (goodIn_r _ [7, 8, 9, 10, 11, 12, 13, 14, 6, 15, 16, 17, 18, 19, 20, 21, 22, 23, 24, 25, 26, 27, 28, 29, 30, 31, 32, 33, 34, 35] (by decide +kernel) (by decide +kernel)) (goodIn_sub (fun _ h => List.mem_cons_of_mem _ (List.mem_append_left _ (List.mem_append_right _ h))) (by decide +kernel))) (goodIn_sub (fun _ h => List.mem_cons_of_mem _ (List.mem_append_right _ h)) (by decide +kernel))
set_option maxRecDepth 20000 in
theorem gL_range_X6_range : GoodIn wsL_range (wsV RL 77 RX6 yX6_range wsX6_range) := goodIn_app (goodIn_of _ (by decide +kernel)) ggL_range_X6_range
theorem dL_range_0 : decode cL_range 0 = .ok (.aload_n 3, 1) := by decide +kernel
theorem dL_range_1 : decode cL_range 1 = .ok (.iconst 0, 1) := by decide +kernel
theorem dL_range_2 : decode cL_range 2 = .ok (.aload_n 0, 1) := by decide +kernel
theorem dL_range_3 : decode cL_range 3 = .ok (.iload_n 1, 1) := by decide +kernel
theorem dL_range_4 : decode cL_range 4 = .ok (.iload_n 2, 1) := by decide +kernel
theorem dL_range_5 : decode cL_range 5 = .ok (.invokevirtual 77, 3) := by decide +kernel
theorem dL_range_8 : decode cL_range 8 = .ok (.i2l, 1) := by decide +kernel
theorem dL_range_9 : decode cL_range 9 = .ok (.lastore, 1) := by decide +kernel
theorem dL_range_10 : decode cL_range 10 = .ok (.goto 11, 3) := by decide +kernel
theorem dL_range_13 : decode cL_range 13 = .ok (.astore 4, 2) := by decide +kernel
theorem dL_range_15 : decode cL_range 15 = .ok (.iconst 1, 1) := by decide +kernel
theorem dL_range_16 : decode cL_range 16 = .ok (.ireturn, 1) := by decide +kernel
theorem dL_range_17 : decode cL_range 17 = .ok (.astore 4, 2) := by decide +kernel
theorem dL_range_19 : decode cL_range 19 = .ok (.iconst 2, 1) := by decide +kernel
theorem dL_range_20 : decode cL_range 20 = .ok (.ireturn, 1) := by decide +kernel
theorem dL_range_21 : decode cL_range 21 = .ok (.iconst 0, 1) := by decide +kernel
theorem dL_range_22 : decode cL_range 22 = .ok (.ireturn, 1) := by decide +kernel
set_option maxRecDepth 20000 in
theorem ggL_places_X6_places : GoodIn wsL_places wsX6_places := goodIn_ca (goodIn_r _ [6, 7, 8, 9, 5, 10, 11, 12, 13, 14, 15, 16, 17, 18, 19, 20, 21, 22, 23, 24, 25, 26, 27, 28, 29, 30, 31, 32, 33] (by decide +kernel) (by decide +kernel)) (goodIn_sub (fun _ h => List.mem_cons_of_mem _ (List.mem_append_right _ h)) (by decide +kernel))
set_option maxRecDepth 20000 in
theorem gL_places_X6_places : GoodIn wsL_places (wsV RL 80 RX6 yX6_places wsX6_places) := goodIn_app (goodIn_of _ (by decide +kernel)) ggL_places_X6_places
theorem dL_places_0 : decode cL_places 0 = .ok (.aload_n 2, 1) := by decide +kernel
theorem dL_places_1 : decode cL_places 1 = .ok (.iconst 0, 1) := by decide +kernel
theorem dL_places_2 : decode cL_places 2 = .ok (.aload_n 0, 1) := by decide +kernel
theorem dL_places_3 : decode cL_places 3 = .ok (.iload_n 1, 1) := by decide +kernel
theorem dL_places_4 : decode cL_places 4 = .ok (.invokevirtual 80, 3) := by decide +kernel
theorem dL_places_7 : decode cL_places 7 = .ok (.i2l, 1) := by decide +kernel
theorem dL_places_8 : decode cL_places 8 = .ok (.lastore, 1) := by decide +kernel
theorem dL_places_9 : decode cL_places 9 = .ok (.goto 6, 3) := by decide +kernel
theorem dL_places_12 : decode cL_places 12 = .ok (.astore_n 3, 1) := by decide +kernel
theorem dL_places_13 : decode cL_places 13 = .ok (.iconst 1, 1) := by decide +kernel
theorem dL_places_14 : decode cL_places 14 = .ok (.ireturn, 1) := by decide +kernel
theorem dL_places_15 : decode cL_places 15 = .ok (.iconst 0, 1) := by decide +kernel
theorem dL_places_16 : decode cL_places 16 = .ok (.ireturn, 1) := by decide +kernel
set_option maxRecDepth 20000 in
theorem ggL_place_X6_place : GoodIn wsL_place wsX6_place := goodIn_ca (goodIn_ca (goodIn_r _ [7, 8, 9, 10, 6, 11, 12, 13, 14, 15, 16, 17, 18, 19, 20, 21, 22, 23, 24, 25, 26, 27, 28, 29, 30, 31, 32, 33, 34, 35, 36, 37, 38, 39] (by decide +kernel) (by decide +kernel)) (goodIn_sub (fun _ h => List.mem_cons_of_mem _ (List.mem_append_left _ (List.mem_append_right _ h))) (by decide +kernel))) (goodIn_sub (fun _ h => List.mem_cons_of_mem _ (List.mem_append_right _ h)) (by decide +kernel))
set_option maxRecDepth 20000 in
theorem gL_place_X6_place : GoodIn wsL_place (wsV RL 83 RX6 yX6_place wsX6_place) := goodIn_app (goodIn_of _ (by decide +kernel)) ggL_place_X6_place
theorem dL_place_0 : decode cL_place 0 = .ok (.aload_n 3, 1) := by decide +kernel
theorem dL_place_1 : decode cL_place 1 = .ok (.iconst 0, 1) := by decide +kernel
theorem dL_place_2 : decode cL_place 2 = .ok (.aload_n 0, 1) := by decide +kernel
theorem dL_place_3 : decode cL_place 3 = .ok (.iload_n 1, 1) := by decide +kernel
theorem dL_place_4 : decode cL_place 4 = .ok (.iload_n 2, 1) := by decide +kernel
theorem dL_place_5 : decode cL_place 5 = .ok (.invokevirtual 83, 3) := by decide +kernel
theorem dL_place_8 : decode cL_place 8 = .ok (.i2l, 1) := by decide +kernel
theorem dL_place_9 : decode cL_place 9 = .ok (.lastore, 1) := by decide +kernel
theorem dL_place_10 : decode cL_place 10 = .ok (.goto 11, 3) := by decide +kernel
theorem dL_place_13 : decode cL_place 13 = .ok (.astore 4, 2) := by decide +kernel
theorem dL_place_15 : decode cL_place 15 = .ok (.iconst 1, 1) := by decide +kernel
theorem dL_place_16 : decode cL_place 16 = .ok (.ireturn, 1) := by decide +kernel
theorem dL_place_17 : decode cL_place 17 = .ok (.astore 4, 2) := by decide +kernel
theorem dL_place_19 : decode cL_place 19 = .ok (.iconst 2, 1) := by decide +kernel
theorem dL_place_20 : decode cL_place 20 = .ok (.ireturn, 1) := by decide +kernel
theorem dL_place_21 : decode cL_place 21 = .ok (.iconst 0, 1) := by decide +kernel
theorem dL_place_22 : decode cL_place 22 = .ok (.ireturn, 1) := by decide +kernel
set_option maxRecDepth 20000 in
theorem ggL_ofJoint_X6_ofJoint : GoodIn wsL_ofJoint wsX6_ofJoint := goodIn_ca (goodIn_ca (goodIn_r _ [7, 8, 9, 10, 11, 12, 13, 14, 15, 16, 6, 17, 18, 19, 20, 21, 22, 23, 24, 25, 26, 27, 28, 29, 30, 31, 32, 33, 34, 35, 36, 37, 38, 39, 40, 41, 42, 43, 44, 45, 46, 47, 48, 49, 50, 51, 52, 53, 54, 55, 56, 57, 58, 59, 60] (by decide +kernel) (by decide +kernel)) (goodIn_sub (fun _ h => List.mem_cons_of_mem _ (List.mem_append_left _ (List.mem_append_right _ h))) (by decide +kernel))) (goodIn_sub (fun _ h => List.mem_cons_of_mem _ (List.mem_append_right _ h)) (by decide +kernel))
set_option maxRecDepth 20000 in
theorem gL_ofJoint_X6_ofJoint : GoodIn wsL_ofJoint (wsV RL 86 RX6 yX6_ofJoint wsX6_ofJoint) := goodIn_app (goodIn_of _ (by decide +kernel)) ggL_ofJoint_X6_ofJoint
theorem dL_ofJoint_0 : decode cL_ofJoint 0 = .ok (.aload_n 3, 1) := by decide +kernel
theorem dL_ofJoint_1 : decode cL_ofJoint 1 = .ok (.iconst 0, 1) := by decide +kernel
theorem dL_ofJoint_2 : decode cL_ofJoint 2 = .ok (.aload_n 0, 1) := by decide +kernel
theorem dL_ofJoint_3 : decode cL_ofJoint 3 = .ok (.iload_n 1, 1) := by decide +kernel
theorem dL_ofJoint_4 : decode cL_ofJoint 4 = .ok (.iload_n 2, 1) := by decide +kernel
theorem dL_ofJoint_5 : decode cL_ofJoint 5 = .ok (.invokevirtual 86, 3) := by decide +kernel
theorem dL_ofJoint_8 : decode cL_ofJoint 8 = .ok (.i2l, 1) := by decide +kernel
theorem dL_ofJoint_9 : decode cL_ofJoint 9 = .ok (.lastore, 1) := by decide +kernel
theorem dL_ofJoint_10 : decode cL_ofJoint 10 = .ok (.goto 11, 3) := by decide +kernel
theorem dL_ofJoint_13 : decode cL_ofJoint 13 = .ok (.astore 4, 2) := by decide +kernel
theorem dL_ofJoint_15 : decode cL_ofJoint 15 = .ok (.iconst 1, 1) := by decide +kernel
theorem dL_ofJoint_16 : decode cL_ofJoint 16 = .ok (.ireturn, 1) := by decide +kernel
theorem dL_ofJoint_17 : decode cL_ofJoint 17 = .ok (.astore 4, 2) := by decide +kernel
theorem dL_ofJoint_19 : decode cL_ofJoint 19 = .ok (.iconst 2, 1) := by decide +kernel
theorem dL_ofJoint_20 : decode cL_ofJoint 20 = .ok (.ireturn, 1) := by decide +kernel
theorem dL_ofJoint_21 : decode cL_ofJoint 21 = .ok (.iconst 0, 1) := by decide +kernel
theorem dL_ofJoint_22 : decode cL_ofJoint 22 = .ok (.ireturn, 1) := by decide +kernel
