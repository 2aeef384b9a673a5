theorem dX10_sell_28 : decode cX10_sell 28 = .ok (.if_icmp .lt 5, 3) := by decide +kernel
theorem dX10_sell_31 : decode cX10_sell 31 = .ok (.iconst (-1), 1) := by decide +kernel
theorem dX10_sell_32 : decode cX10_sell 32 = .ok (.ireturn, 1) := by decide +kernel
theorem dX10_sell_33 : decode cX10_sell 33 = .ok (.aload_n 0, 1) := by decide +kernel
theorem dX10_sell_34 : decode cX10_sell 34 = .ok (.getfield 80, 3) := by decide +kernel
theorem dX10_sell_37 : decode cX10_sell 37 = .ok (.getfield 246, 3) := by decide +kernel
theorem dX10_sell_40 : decode cX10_sell 40 = .ok (.aload_n 0, 1) := by decide +kernel
theorem dX10_sell_41 : decode cX10_sell 41 = .ok (.getfield 19, 3) := by decide +kernel
theorem dX10_sell_44 : decode cX10_sell 44 = .ok (.iload_n 1, 1) := by decide +kernel
theorem dX10_sell_45 : decode cX10_sell 45 = .ok (.aload_n 0, 1) := by decide +kernel
theorem dX10_sell_46 : decode cX10_sell 46 = .ok (.getfield 80, 3) := by decide +kernel
theorem dX10_sell_49 : decode cX10_sell 49 = .ok (.invokevirtual 154, 3) := by decide +kernel
theorem dX10_sell_52 : decode cX10_sell 52 = .ok (.imul, 1) := by decide +kernel
theorem dX10_sell_53 : decode cX10_sell 53 = .ok (.istore_n 3, 1) := by decide +kernel
theorem dX10_sell_54 : decode cX10_sell 54 = .ok (.aload_n 0, 1) := by decide +kernel
theorem dX10_sell_55 : decode cX10_sell 55 = .ok (.getfield 73, 3) := by decide +kernel
theorem dX10_sell_58 : decode cX10_sell 58 = .ok (.aload_n 0, 1) := by decide +kernel
theorem dX10_sell_59 : decode cX10_sell 59 = .ok (.getfield 243, 3) := by decide +kernel
theorem dX10_sell_62 : decode cX10_sell 62 = .ok (.new 71, 3) := by decide +kernel
theorem dX10_sell_65 : decode cX10_sell 65 = .ok (.dup, 1) := by decide +kernel
theorem dX10_sell_66 : decode cX10_sell 66 = .ok (.iload_n 1, 1) := by decide +kernel
theorem dX10_sell_67 : decode cX10_sell 67 = .ok (.iload_n 2, 1) := by decide +kernel
theorem dX10_sell_68 : decode cX10_sell 68 = .ok (.iload_n 3, 1) := by decide +kernel
theorem dX10_sell_69 : decode cX10_sell 69 = .ok (.aload_n 0, 1) := by decide +kernel
theorem dX10_sell_70 : decode cX10_sell 70 = .ok (.getfield 80, 3) := by decide +kernel
theorem dX10_sell_73 : decode cX10_sell 73 = .ok (.getfield 249, 3) := by decide +kernel
theorem dX10_sell_76 : decode cX10_sell 76 = .ok (.invokespecial 252, 3) := by decide +kernel
theorem dX10_sell_79 : decode cX10_sell 79 = .ok (.aastore, 1) := by decide +kernel
theorem dX10_sell_80 : decode cX10_sell 80 = .ok (.aload_n 0, 1) := by decide +kernel
theorem dX10_sell_81 : decode cX10_sell 81 = .ok (.dup, 1) := by decide +kernel
theorem dX10_sell_82 : decode cX10_sell 82 = .ok (.getfield 243, 3) := by decide +kernel
theorem dX10_sell_85 : decode cX10_sell 85 = .ok (.iconst 1, 1) := by decide +kernel
theorem dX10_sell_86 : decode cX10_sell 86 = .ok (.iadd, 1) := by decide +kernel
theorem dX10_sell_87 : decode cX10_sell 87 = .ok (.putfield 243, 3) := by decide +kernel
theorem dX10_sell_90 : decode cX10_sell 90 = .ok (.aload_n 0, 1) := by decide +kernel
theorem dX10_sell_91 : decode cX10_sell 91 = .ok (.getfield 243, 3) := by decide +kernel
theorem dX10_sell_94 : decode cX10_sell 94 = .ok (.iconst 1, 1) := by decide +kernel
theorem dX10_sell_95 : decode cX10_sell 95 = .ok (.isub, 1) := by decide +kernel
theorem dX10_sell_96 : decode cX10_sell 96 = .ok (.ireturn, 1) := by decide +kernel
set_option maxRecDepth 20000 in
theorem ggX10_year_X10_saleNumbered : GoodIn wsX10_year wsX10_saleNumbered := goodIn_r _ [5, 6, 7, 8, 9, 4, 10, 22, 23, 24, 25, 26, 27, 28, 29, 30, 31, 32, 33] (by decide +kernel) (by decide +kernel)
set_option maxRecDepth 20000 in
theorem gX10_year_X10_saleNumbered : GoodIn wsX10_year (wsV RX10 255 RX10 yX10_saleNumbered wsX10_saleNumbered) := goodIn_app (goodIn_of _ (by decide +kernel)) ggX10_year_X10_saleNumbered
set_option maxRecDepth 20000 in
theorem ggX10_year_X7_pass : GoodIn wsX10_year wsX7_pass := goodIn_r _ [15, 16, 17, 18, 19, 20, 21, 34, 35, 36, 37, 38, 39, 40, 41, 42] (by decide +kernel) (by decide +kernel)
set_option maxRecDepth 20000 in
theorem gX10_year_X7_pass : GoodIn wsX10_year (wsV RX10 259 RX7 yX7_pass wsX7_pass) := goodIn_app (goodIn_of _ (by decide +kernel)) ggX10_year_X7_pass
theorem dX10_year_0 : decode cX10_year 0 = .ok (.aload_n 0, 1) := by decide +kernel
theorem dX10_year_1 : decode cX10_year 1 = .ok (.iload_n 1, 1) := by decide +kernel
theorem dX10_year_2 : decode cX10_year 2 = .ok (.invokevirtual 255, 3) := by decide +kernel
theorem dX10_year_5 : decode cX10_year 5 = .ok (.astore_n 3, 1) := by decide +kernel
theorem dX10_year_6 : decode cX10_year 6 = .ok (.aload_n 3, 1) := by decide +kernel
theorem dX10_year_7 : decode cX10_year 7 = .ok (.ifnonnull 7, 3) := by decide +kernel
theorem dX10_year_10 : decode cX10_year 10 = .ok (.iconst (-1), 1) := by decide +kernel
theorem dX10_year_11 : decode cX10_year 11 = .ok (.goto 8, 3) := by decide +kernel
theorem dX10_year_14 : decode cX10_year 14 = .ok (.aload_n 3, 1) := by decide +kernel
theorem dX10_year_15 : decode cX10_year 15 = .ok (.iload_n 2, 1) := by decide +kernel
theorem dX10_year_16 : decode cX10_year 16 = .ok (.invokevirtual 259, 3) := by decide +kernel
theorem dX10_year_19 : decode cX10_year 19 = .ok (.ireturn, 1) := by decide +kernel
set_option maxRecDepth 20000 in
theorem ggX10_sale_X10_saleNumbered : GoodIn wsX10_sale wsX10_saleNumbered := goodIn_r _ [5, 6, 7, 8, 9, 4, 10, 20, 21, 22, 23, 24, 25, 26, 27, 28, 29, 30, 31] (by decide +kernel) (by decide +kernel)
set_option maxRecDepth 20000 in
theorem gX10_sale_X10_saleNumbered : GoodIn wsX10_sale (wsV RX10 255 RX10 yX10_saleNumbered wsX10_saleNumbered) := goodIn_app (goodIn_of _ (by decide +kernel)) ggX10_sale_X10_saleNumbered
theorem dX10_sale_0 : decode cX10_sale 0 = .ok (.aload_n 0, 1) := by decide +kernel
theorem dX10_sale_1 : decode cX10_sale 1 = .ok (.iload_n 1, 1) := by decide +kernel
theorem dX10_sale_2 : decode cX10_sale 2 = .ok (.invokevirtual 255, 3) := by decide +kernel
theorem dX10_sale_5 : decode cX10_sale 5 = .ok (.astore_n 3, 1) := by decide +kernel
theorem dX10_sale_6 : decode cX10_sale 6 = .ok (.aload_n 3, 1) := by decide +kernel
theorem dX10_sale_7 : decode cX10_sale 7 = .ok (.ifnonnull 5, 3) := by decide +kernel
theorem dX10_sale_10 : decode cX10_sale 10 = .ok (.iconst (-1), 1) := by decide +kernel
theorem dX10_sale_11 : decode cX10_sale 11 = .ok (.ireturn, 1) := by decide +kernel
theorem dX10_sale_12 : decode cX10_sale 12 = .ok (.iload_n 2, 1) := by decide +kernel
theorem dX10_sale_13 : decode cX10_sale 13 = .ok (.tableswitch 69 0 5 #[39, 44, 49, 54, 59, 64], 39) := by decide +kernel
theorem dX10_sale_52 : decode cX10_sale 52 = .ok (.aload_n 3, 1) := by decide +kernel
theorem dX10_sale_53 : decode cX10_sale 53 = .ok (.getfield 263, 3) := by decide +kernel
theorem dX10_sale_56 : decode cX10_sale 56 = .ok (.ireturn, 1) := by decide +kernel
theorem dX10_sale_57 : decode cX10_sale 57 = .ok (.aload_n 3, 1) := by decide +kernel
theorem dX10_sale_58 : decode cX10_sale 58 = .ok (.getfield 266, 3) := by decide +kernel
theorem dX10_sale_61 : decode cX10_sale 61 = .ok (.ireturn, 1) := by decide +kernel
theorem dX10_sale_62 : decode cX10_sale 62 = .ok (.aload_n 3, 1) := by decide +kernel
theorem dX10_sale_63 : decode cX10_sale 63 = .ok (.getfield 269, 3) := by decide +kernel
theorem dX10_sale_66 : decode cX10_sale 66 = .ok (.ireturn, 1) := by decide +kernel
theorem dX10_sale_67 : decode cX10_sale 67 = .ok (.aload_n 3, 1) := by decide +kernel
theorem dX10_sale_68 : decode cX10_sale 68 = .ok (.getfield 272, 3) := by decide +kernel
theorem dX10_sale_71 : decode cX10_sale 71 = .ok (.ireturn, 1) := by decide +kernel
theorem dX10_sale_72 : decode cX10_sale 72 = .ok (.aload_n 3, 1) := by decide +kernel
theorem dX10_sale_73 : decode cX10_sale 73 = .ok (.getfield 275, 3) := by decide +kernel
theorem dX10_sale_76 : decode cX10_sale 76 = .ok (.ireturn, 1) := by decide +kernel
theorem dX10_sale_77 : decode cX10_sale 77 = .ok (.aload_n 3, 1) := by decide +kernel
theorem dX10_sale_78 : decode cX10_sale 78 = .ok (.getfield 278, 3) := by decide +kernel
theorem dX10_sale_81 : decode cX10_sale 81 = .ok (.ireturn, 1) := by decide +kernel
theorem dX10_sale_82 : decode cX10_sale 82 = .ok (.iconst (-1), 1) := by decide +kernel
theorem dX10_sale_83 : decode cX10_sale 83 = .ok (.ireturn, 1) := by decide +kernel
theorem dX10_count_0 : decode cX10_count 0 = .ok (.iload_n 1, 1) := by decide +kernel
theorem dX10_count_1 : decode cX10_count 1 = .ok (.tableswitch 108 0 7 #[47, 55, 63, 71, 79, 87, 92, 100], 47) := by decide +kernel
theorem dX10_count_48 : decode cX10_count 48 = .ok (.aload_n 0, 1) := by decide +kernel
theorem dX10_count_49 : decode cX10_count 49 = .ok (.getfield 19, 3) := by decide +kernel
theorem dX10_count_52 : decode cX10_count 52 = .ok (.getfield 105, 3) := by decide +kernel
theorem dX10_count_55 : decode cX10_count 55 = .ok (.ireturn, 1) := by decide +kernel
theorem dX10_count_56 : decode cX10_count 56 = .ok (.aload_n 0, 1) := by decide +kernel
theorem dX10_count_57 : decode cX10_count 57 = .ok (.getfield 10, 3) := by decide +kernel
theorem dX10_count_60 : decode cX10_count 60 = .ok (.getfield 281, 3) := by decide +kernel
theorem dX10_count_63 : decode cX10_count 63 = .ok (.ireturn, 1) := by decide +kernel
theorem dX10_count_64 : decode cX10_count 64 = .ok (.aload_n 0, 1) := by decide +kernel
theorem dX10_count_65 : decode cX10_count 65 = .ok (.getfield 19, 3) := by decide +kernel
theorem dX10_count_68 : decode cX10_count 68 = .ok (.getfield 239, 3) := by decide +kernel
theorem dX10_count_71 : decode cX10_count 71 = .ok (.ireturn, 1) := by decide +kernel
theorem dX10_count_72 : decode cX10_count 72 = .ok (.aload_n 0, 1) := by decide +kernel
theorem dX10_count_73 : decode cX10_count 73 = .ok (.getfield 19, 3) := by decide +kernel
theorem dX10_count_76 : decode cX10_count 76 = .ok (.getfield 282, 3) := by decide +kernel
theorem dX10_count_79 : decode cX10_count 79 = .ok (.ireturn, 1) := by decide +kernel
theorem dX10_count_80 : decode cX10_count 80 = .ok (.aload_n 0, 1) := by decide +kernel
theorem dX10_count_81 : decode cX10_count 81 = .ok (.getfield 80, 3) := by decide +kernel
theorem dX10_count_84 : decode cX10_count 84 = .ok (.getfield 136, 3) := by decide +kernel
theorem dX10_count_87 : decode cX10_count 87 = .ok (.ireturn, 1) := by decide +kernel
theorem dX10_count_88 : decode cX10_count 88 = .ok (.aload_n 0, 1) := by decide +kernel
theorem dX10_count_89 : decode cX10_count 89 = .ok (.getfield 243, 3) := by decide +kernel
theorem dX10_count_92 : decode cX10_count 92 = .ok (.ireturn, 1) := by decide +kernel
theorem dX10_count_93 : decode cX10_count 93 = .ok (.aload_n 0, 1) := by decide +kernel
theorem dX10_count_94 : decode cX10_count 94 = .ok (.getfield 26, 3) := by decide +kernel
theorem dX10_count_97 : decode cX10_count 97 = .ok (.getfield 129, 3) := by decide +kernel
theorem dX10_count_100 : decode cX10_count 100 = .ok (.ireturn, 1) := by decide +kernel
theorem dX10_count_101 : decode cX10_count 101 = .ok (.aload_n 0, 1) := by decide +kernel
theorem dX10_count_102 : decode cX10_count 102 = .ok (.getfield 10, 3) := by decide +kernel
theorem dX10_count_105 : decode cX10_count 105 = .ok (.getfield 285, 3) := by decide +kernel
theorem dX10_count_108 : decode cX10_count 108 = .ok (.ireturn, 1) := by decide +kernel
theorem dX10_count_109 : decode cX10_count 109 = .ok (.iconst (-1), 1) := by decide +kernel
theorem dX10_count_110 : decode cX10_count 110 = .ok (.ireturn, 1) := by decide +kernel
set_option maxRecDepth 20000 in
theorem ggX10_ringsClose_X4_hasRow : GoodIn wsX10_ringsClose wsX4_hasRow := goodIn_r _ [8, 9, 10, 11, 12, 7, 13, 14, 15, 16, 88, 89, 90, 91, 92] (by decide +kernel) (by decide +kernel)
set_option maxRecDepth 20000 in
theorem gX10_ringsClose_X4_hasRow : GoodIn wsX10_ringsClose (wsV RX10 216 RX4 yX4_hasRow wsX4_hasRow) := goodIn_app (goodIn_of _ (by decide +kernel)) ggX10_ringsClose_X4_hasRow
set_option maxRecDepth 20000 in
theorem ggX10_ringsClose_X6_close : GoodIn wsX10_ringsClose wsX6_close := goodIn_r _ [21, 22, 23, 24, 25, 26, 27, 28, 29, 30, 31, 32, 33, 34, 35, 36, 37, 38, 7, 39, 40, 10, 11, 12, 13, 9, 14, 15, 16, 41, 42, 43, 44, 45, 46, 47, 48, 49, 50, 51, 52, 53, 54, 55, 56, 57, 58, 59, 20, 60, 61, 62, 63, 64, 65, 66, 67, 68, 69, 70, 71, 72, 73, 74, 75, 93, 94, 95, 96, 97, 98, 99, 88, 89, 90, 91, 92, 100, 101, 102, 103, 104, 105, 106, 107, 108, 109, 110, 111] (by decide +kernel) (by decide +kernel)
set_option maxRecDepth 20000 in
theorem gX10_ringsClose_X6_close : GoodIn wsX10_ringsClose (wsV RX10 288 RX6 yX6_close wsX6_close) := goodIn_app (goodIn_of _ (by decide +kernel)) ggX10_ringsClose_X6_close
theorem dX10_ringsClose_0 : decode cX10_ringsClose 0 = .ok (.iload_n 2, 1) := by decide +kernel
theorem dX10_ringsClose_1 : decode cX10_ringsClose 1 = .ok (.iconst 2, 1) := by decide +kernel
theorem dX10_ringsClose_2 : decode cX10_ringsClose 2 = .ok (.if_icmp .lt 21, 3) := by decide +kernel
theorem dX10_ringsClose_5 : decode cX10_ringsClose 5 = .ok (.iload_n 2, 1) := by decide +kernel
theorem dX10_ringsClose_6 : decode cX10_ringsClose 6 = .ok (.bipush 8, 2) := by decide +kernel
theorem dX10_ringsClose_8 : decode cX10_ringsClose 8 = .ok (.if_icmp .gt 15, 3) := by decide +kernel
theorem dX10_ringsClose_11 : decode cX10_ringsClose 11 = .ok (.aload_n 0, 1) := by decide +kernel
theorem dX10_ringsClose_12 : decode cX10_ringsClose 12 = .ok (.getfield 10, 3) := by decide +kernel
theorem dX10_ringsClose_15 : decode cX10_ringsClose 15 = .ok (.iload_n 1, 1) := by decide +kernel
theorem dX10_ringsClose_16 : decode cX10_ringsClose 16 = .ok (.iload_n 2, 1) := by decide +kernel
theorem dX10_ringsClose_17 : decode cX10_ringsClose 17 = .ok (.invokevirtual 216, 3) := by decide +kernel
theorem dX10_ringsClose_20 : decode cX10_ringsClose 20 = .ok (.ifCond .ne 5, 3) := by decide +kernel
theorem dX10_ringsClose_23 : decode cX10_ringsClose 23 = .ok (.iconst 0, 1) := by decide +kernel
theorem dX10_ringsClose_24 : decode cX10_ringsClose 24 = .ok (.ireturn, 1) := by decide +kernel
theorem dX10_ringsClose_25 : decode cX10_ringsClose 25 = .ok (.aload_n 0, 1) := by decide +kernel
theorem dX10_ringsClose_26 : decode cX10_ringsClose 26 = .ok (.getfield 67, 3) := by decide +kernel
theorem dX10_ringsClose_29 : decode cX10_ringsClose 29 = .ok (.iload_n 1, 1) := by decide +kernel
theorem dX10_ringsClose_30 : decode cX10_ringsClose 30 = .ok (.iload_n 2, 1) := by decide +kernel
theorem dX10_ringsClose_31 : decode cX10_ringsClose 31 = .ok (.aload_n 0, 1) := by decide +kernel
theorem dX10_ringsClose_32 : decode cX10_ringsClose 32 = .ok (.getfield 19, 3) := by decide +kernel
theorem dX10_ringsClose_35 : decode cX10_ringsClose 35 = .ok (.aload_n 0, 1) := by decide +kernel
theorem dX10_ringsClose_36 : decode cX10_ringsClose 36 = .ok (.getfield 10, 3) := by decide +kernel
theorem dX10_ringsClose_39 : decode cX10_ringsClose 39 = .ok (.invokevirtual 288, 3) := by decide +kernel
theorem dX10_ringsClose_42 : decode cX10_ringsClose 42 = .ok (.ireturn, 1) := by decide +kernel
set_option maxRecDepth 20000 in
theorem ggX10_saleNumbered_X10_isBelow : GoodIn wsX10_saleNumbered wsX10_isBelow := goodIn_r _ [6] (by decide +kernel) (by decide +kernel)
set_option maxRecDepth 20000 in
theorem gX10_saleNumbered_X10_isBelow : GoodIn wsX10_saleNumbered (va_wsS RX10 87 yX10_isBelow wsX10_isBelow) := goodIn_app (goodIn_of _ (by decide +kernel)) ggX10_saleNumbered_X10_isBelow
theorem dX10_saleNumbered_0 : decode cX10_saleNumbered 0 = .ok (.iload_n 1, 1) := by decide +kernel
theorem dX10_saleNumbered_1 : decode cX10_saleNumbered 1 = .ok (.aload_n 0, 1) := by decide +kernel
theorem dX10_saleNumbered_2 : decode cX10_saleNumbered 2 = .ok (.getfield 243, 3) := by decide +kernel
theorem dX10_saleNumbered_5 : decode cX10_saleNumbered 5 = .ok (.invokestatic 87, 3) := by decide +kernel
theorem dX10_saleNumbered_8 : decode cX10_saleNumbered 8 = .ok (.ifCond .eq 12, 3) := by decide +kernel
theorem dX10_saleNumbered_11 : decode cX10_saleNumbered 11 = .ok (.aload_n 0, 1) := by decide +kernel
theorem dX10_saleNumbered_12 : decode cX10_saleNumbered 12 = .ok (.getfield 73, 3) := by decide +kernel
theorem dX10_saleNumbered_15 : decode cX10_saleNumbered 15 = .ok (.iload_n 1, 1) := by decide +kernel
theorem dX10_saleNumbered_16 : decode cX10_saleNumbered 16 = .ok (.aaload, 1) := by decide +kernel
theorem dX10_saleNumbered_17 : decode cX10_saleNumbered 17 = .ok (.goto 4, 3) := by decide +kernel
theorem dX10_saleNumbered_20 : decode cX10_saleNumbered 20 = .ok (.aconst_null, 1) := by decide +kernel
theorem dX10_saleNumbered_21 : decode cX10_saleNumbered 21 = .ok (.areturn, 1) := by decide +kernel
theorem dX10_isBelow_0 : decode cX10_isBelow 0 = .ok (.iload_n 0, 1) := by decide +kernel
theorem dX10_isBelow_1 : decode cX10_isBelow 1 = .ok (.ifCond .lt 12, 3) := by decide +kernel
theorem dX10_isBelow_4 : decode cX10_isBelow 4 = .ok (.iload_n 0, 1) := by decide +kernel
theorem dX10_isBelow_5 : decode cX10_isBelow 5 = .ok (.iload_n 1, 1) := by decide +kernel
theorem dX10_isBelow_6 : decode cX10_isBelow 6 = .ok (.if_icmp .ge 7, 3) := by decide +kernel
theorem dX10_isBelow_9 : decode cX10_isBelow 9 = .ok (.iconst 1, 1) := by decide +kernel
theorem dX10_isBelow_10 : decode cX10_isBelow 10 = .ok (.goto 4, 3) := by decide +kernel
theorem dX10_isBelow_13 : decode cX10_isBelow 13 = .ok (.iconst 0, 1) := by decide +kernel
theorem dX10_isBelow_14 : decode cX10_isBelow 14 = .ok (.ireturn, 1) := by decide +kernel
set_option maxRecDepth 20000 in
theorem ggX11_init_X11_begins : GoodIn wsX11_init wsX11_begins := goodIn_r _ [43, 17, 44, 45, 42, 46, 47, 48, 49, 50, 51, 52, 53, 54, 55, 56, 57, 58, 59, 60, 61, 62, 63, 64, 65, 66, 67, 68, 69, 70, 71, 72, 73, 74, 75, 76, 77, 78, 79, 80, 81, 82, 83, 84, 85, 86, 87, 88, 89, 90, 91, 92, 93] (by decide +kernel) (by decide +kernel)
set_option maxRecDepth 20000 in
theorem gX11_init_X11_begins : GoodIn wsX11_init (wsV RX11 109 RX11 yX11_begins wsX11_begins) := goodIn_app (goodIn_of _ (by decide +kernel)) ggX11_init_X11_begins
theorem dX11_init_0 : decode cX11_init 0 = .ok (.aload_n 0, 1) := by decide +kernel
theorem dX11_init_1 : decode cX11_init 1 = .ok (.invokespecial 1, 3) := by decide +kernel
theorem dX11_init_4 : decode cX11_init 4 = .ok (.aload_n 0, 1) := by decide +kernel
theorem dX11_init_5 : decode cX11_init 5 = .ok (.bipush 40, 2) := by decide +kernel
theorem dX11_init_7 : decode cX11_init 7 = .ok (.newarray .int, 2) := by decide +kernel
theorem dX11_init_9 : decode cX11_init 9 = .ok (.putfield 7, 3) := by decide +kernel
theorem dX11_init_12 : decode cX11_init 12 = .ok (.aload_n 0, 1) := by decide +kernel
theorem dX11_init_13 : decode cX11_init 13 = .ok (.bipush 40, 2) := by decide +kernel
theorem dX11_init_15 : decode cX11_init 15 = .ok (.newarray .int, 2) := by decide +kernel
theorem dX11_init_17 : decode cX11_init 17 = .ok (.putfield 13, 3) := by decide +kernel
theorem dX11_init_20 : decode cX11_init 20 = .ok (.aload_n 0, 1) := by decide +kernel
theorem dX11_init_21 : decode cX11_init 21 = .ok (.sipush 1600, 3) := by decide +kernel
theorem dX11_init_24 : decode cX11_init 24 = .ok (.newarray .boolean, 2) := by decide +kernel
theorem dX11_init_26 : decode cX11_init 26 = .ok (.putfield 16, 3) := by decide +kernel
theorem dX11_init_29 : decode cX11_init 29 = .ok (.aload_n 0, 1) := by decide +kernel
theorem dX11_init_30 : decode cX11_init 30 = .ok (.bipush 60, 2) := by decide +kernel
theorem dX11_init_32 : decode cX11_init 32 = .ok (.newarray .int, 2) := by decide +kernel
theorem dX11_init_34 : decode cX11_init 34 = .ok (.putfield 20, 3) := by decide +kernel
theorem dX11_init_37 : decode cX11_init 37 = .ok (.aload_n 0, 1) := by decide +kernel
theorem dX11_init_38 : decode cX11_init 38 = .ok (.bipush 60, 2) := by decide +kernel
theorem dX11_init_40 : decode cX11_init 40 = .ok (.newarray .int, 2) := by decide +kernel
theorem dX11_init_42 : decode cX11_init 42 = .ok (.putfield 23, 3) := by decide +kernel
theorem dX11_init_45 : decode cX11_init 45 = .ok (.aload_n 0, 1) := by decide +kernel
theorem dX11_init_46 : decode cX11_init 46 = .ok (.bipush 60, 2) := by decide +kernel
theorem dX11_init_48 : decode cX11_init 48 = .ok (.newarray .int, 2) := by decide +kernel
theorem dX11_init_50 : decode cX11_init 50 = .ok (.putfield 26, 3) := by decide +kernel
theorem dX11_init_53 : decode cX11_init 53 = .ok (.aload_n 0, 1) := by decide +kernel
theorem dX11_init_54 : decode cX11_init 54 = .ok (.bipush 60, 2) := by decide +kernel
theorem dX11_init_56 : decode cX11_init 56 = .ok (.newarray .int, 2) := by decide +kernel
theorem dX11_init_58 : decode cX11_init 58 = .ok (.putfield 29, 3) := by decide +kernel
theorem dX11_init_61 : decode cX11_init 61 = .ok (.aload_n 0, 1) := by decide +kernel
theorem dX11_init_62 : decode cX11_init 62 = .ok (.bipush 60, 2) := by decide +kernel
theorem dX11_init_64 : decode cX11_init 64 = .ok (.newarray .int, 2) := by decide +kernel
theorem dX11_init_66 : decode cX11_init 66 = .ok (.putfield 32, 3) := by decide +kernel
theorem dX11_init_69 : decode cX11_init 69 = .ok (.aload_n 0, 1) := by decide +kernel
theorem dX11_init_70 : decode cX11_init 70 = .ok (.sipush 200, 3) := by decide +kernel
theorem dX11_init_73 : decode cX11_init 73 = .ok (.newarray .int, 2) := by decide +kernel
theorem dX11_init_75 : decode cX11_init 75 = .ok (.putfield 35, 3) := by decide +kernel
theorem dX11_init_78 : decode cX11_init 78 = .ok (.aload_n 0, 1) := by decide +kernel
theorem dX11_init_79 : decode cX11_init 79 = .ok (.sipush 200, 3) := by decide +kernel
theorem dX11_init_82 : decode cX11_init 82 = .ok (.newarray .int, 2) := by decide +kernel
theorem dX11_init_84 : decode cX11_init 84 = .ok (.putfield 38, 3) := by decide +kernel
theorem dX11_init_87 : decode cX11_init 87 = .ok (.aload_n 0, 1) := by decide +kernel
theorem dX11_init_88 : decode cX11_init 88 = .ok (.sipush 200, 3) := by decide +kernel
theorem dX11_init_91 : decode cX11_init 91 = .ok (.newarray .int, 2) := by decide +kernel
theorem dX11_init_93 : decode cX11_init 93 = .ok (.putfield 41, 3) := by decide +kernel
theorem dX11_init_96 : decode cX11_init 96 = .ok (.aload_n 0, 1) := by decide +kernel
theorem dX11_init_97 : decode cX11_init 97 = .ok (.bipush 40, 2) := by decide +kernel
theorem dX11_init_99 : decode cX11_init 99 = .ok (.newarray .int, 2) := by decide +kernel
theorem dX11_init_101 : decode cX11_init 101 = .ok (.putfield 44, 3) := by decide +kernel
theorem dX11_init_104 : decode cX11_init 104 = .ok (.aload_n 0, 1) := by decide +kernel
theorem dX11_init_105 : decode cX11_init 105 = .ok (.sipush 400, 3) := by decide +kernel
theorem dX11_init_108 : decode cX11_init 108 = .ok (.newarray .byte, 2) := by decide +kernel
theorem dX11_init_110 : decode cX11_init 110 = .ok (.putfield 47, 3) := by decide +kernel
theorem dX11_init_113 : decode cX11_init 113 = .ok (.aload_n 0, 1) := by decide +kernel
theorem dX11_init_114 : decode cX11_init 114 = .ok (.sipush 400, 3) := by decide +kernel
theorem dX11_init_117 : decode cX11_init 117 = .ok (.newarray .byte, 2) := by decide +kernel
theorem dX11_init_119 : decode cX11_init 119 = .ok (.putfield 51, 3) := by decide +kernel
theorem dX11_init_122 : decode cX11_init 122 = .ok (.aload_n 0, 1) := by decide +kernel
theorem dX11_init_123 : decode cX11_init 123 = .ok (.iconst (-1), 1) := by decide +kernel
theorem dX11_init_124 : decode cX11_init 124 = .ok (.putfield 54, 3) := by decide +kernel
theorem dX11_init_127 : decode cX11_init 127 = .ok (.aload_n 0, 1) := by decide +kernel
theorem dX11_init_128 : decode cX11_init 128 = .ok (.bipush 60, 2) := by decide +kernel
theorem dX11_init_130 : decode cX11_init 130 = .ok (.newarray .int, 2) := by decide +kernel
theorem dX11_init_132 : decode cX11_init 132 = .ok (.putfield 58, 3) := by decide +kernel
theorem dX11_init_135 : decode cX11_init 135 = .ok (.aload_n 0, 1) := by decide +kernel
theorem dX11_init_136 : decode cX11_init 136 = .ok (.bipush 60, 2) := by decide +kernel
theorem dX11_init_138 : decode cX11_init 138 = .ok (.newarray .int, 2) := by decide +kernel
theorem dX11_init_140 : decode cX11_init 140 = .ok (.putfield 61, 3) := by decide +kernel
theorem dX11_init_143 : decode cX11_init 143 = .ok (.aload_n 0, 1) := by decide +kernel
theorem dX11_init_144 : decode cX11_init 144 = .ok (.bipush 60, 2) := by decide +kernel
theorem dX11_init_146 : decode cX11_init 146 = .ok (.newarray .int, 2) := by decide +kernel
theorem dX11_init_148 : decode cX11_init 148 = .ok (.putfield 64, 3) := by decide +kernel
theorem dX11_init_151 : decode cX11_init 151 = .ok (.aload_n 0, 1) := by decide +kernel
theorem dX11_init_152 : decode cX11_init 152 = .ok (.bipush 60, 2) := by decide +kernel
theorem dX11_init_154 : decode cX11_init 154 = .ok (.newarray .int, 2) := by decide +kernel
theorem dX11_init_156 : decode cX11_init 156 = .ok (.putfield 67, 3) := by decide +kernel
theorem dX11_init_159 : decode cX11_init 159 = .ok (.aload_n 0, 1) := by decide +kernel
theorem dX11_init_160 : decode cX11_init 160 = .ok (.iconst 5, 1) := by decide +kernel
theorem dX11_init_161 : decode cX11_init 161 = .ok (.newarray .int, 2) := by decide +kernel
theorem dX11_init_163 : decode cX11_init 163 = .ok (.putfield 70, 3) := by decide +kernel
theorem dX11_init_166 : decode cX11_init 166 = .ok (.aload_n 0, 1) := by decide +kernel
theorem dX11_init_167 : decode cX11_init 167 = .ok (.iconst 5, 1) := by decide +kernel
theorem dX11_init_168 : decode cX11_init 168 = .ok (.newarray .int, 2) := by decide +kernel
theorem dX11_init_170 : decode cX11_init 170 = .ok (.putfield 73, 3) := by decide +kernel
theorem dX11_init_173 : decode cX11_init 173 = .ok (.aload_n 0, 1) := by decide +kernel
theorem dX11_init_174 : decode cX11_init 174 = .ok (.bipush 8, 2) := by decide +kernel
theorem dX11_init_176 : decode cX11_init 176 = .ok (.newarray .int, 2) := by decide +kernel
theorem dX11_init_178 : decode cX11_init 178 = .ok (.putfield 76, 3) := by decide +kernel
theorem dX11_init_181 : decode cX11_init 181 = .ok (.aload_n 0, 1) := by decide +kernel
theorem dX11_init_182 : decode cX11_init 182 = .ok (.bipush 8, 2) := by decide +kernel
theorem dX11_init_184 : decode cX11_init 184 = .ok (.newarray .int, 2) := by decide +kernel
theorem dX11_init_186 : decode cX11_init 186 = .ok (.putfield 79, 3) := by decide +kernel
theorem dX11_init_189 : decode cX11_init 189 = .ok (.aload_n 0, 1) := by decide +kernel
theorem dX11_init_190 : decode cX11_init 190 = .ok (.bipush 8, 2) := by decide +kernel
theorem dX11_init_192 : decode cX11_init 192 = .ok (.newarray .int, 2) := by decide +kernel
theorem dX11_init_194 : decode cX11_init 194 = .ok (.putfield 82, 3) := by decide +kernel
theorem dX11_init_197 : decode cX11_init 197 = .ok (.aload_n 0, 1) := by decide +kernel
theorem dX11_init_198 : decode cX11_init 198 = .ok (.bipush 20, 2) := by decide +kernel
theorem dX11_init_200 : decode cX11_init 200 = .ok (.newarray .int, 2) := by decide +kernel
theorem dX11_init_202 : decode cX11_init 202 = .ok (.putfield 85, 3) := by decide +kernel
theorem dX11_init_205 : decode cX11_init 205 = .ok (.aload_n 0, 1) := by decide +kernel
theorem dX11_init_206 : decode cX11_init 206 = .ok (.bipush 20, 2) := by decide +kernel
theorem dX11_init_208 : decode cX11_init 208 = .ok (.newarray .int, 2) := by decide +kernel
theorem dX11_init_210 : decode cX11_init 210 = .ok (.putfield 88, 3) := by decide +kernel
theorem dX11_init_213 : decode cX11_init 213 = .ok (.aload_n 0, 1) := by decide +kernel
theorem dX11_init_214 : decode cX11_init 214 = .ok (.bipush 20, 2) := by decide +kernel
theorem dX11_init_216 : decode cX11_init 216 = .ok (.newarray .int, 2) := by decide +kernel
theorem dX11_init_218 : decode cX11_init 218 = .ok (.putfield 91, 3) := by decide +kernel
theorem dX11_init_221 : decode cX11_init 221 = .ok (.aload_n 0, 1) := by decide +kernel
theorem dX11_init_222 : decode cX11_init 222 = .ok (.bipush 20, 2) := by decide +kernel
theorem dX11_init_224 : decode cX11_init 224 = .ok (.newarray .int, 2) := by decide +kernel
theorem dX11_init_226 : decode cX11_init 226 = .ok (.putfield 94, 3) := by decide +kernel
theorem dX11_init_229 : decode cX11_init 229 = .ok (.aload_n 0, 1) := by decide +kernel
theorem dX11_init_230 : decode cX11_init 230 = .ok (.bipush 20, 2) := by decide +kernel
theorem dX11_init_232 : decode cX11_init 232 = .ok (.newarray .int, 2) := by decide +kernel
theorem dX11_init_234 : decode cX11_init 234 = .ok (.putfield 97, 3) := by decide +kernel
theorem dX11_init_237 : decode cX11_init 237 = .ok (.aload_n 0, 1) := by decide +kernel
theorem dX11_init_238 : decode cX11_init 238 = .ok (.bipush 20, 2) := by decide +kernel
theorem dX11_init_240 : decode cX11_init 240 = .ok (.newarray .int, 2) := by decide +kernel
theorem dX11_init_242 : decode cX11_init 242 = .ok (.putfield 100, 3) := by decide +kernel
theorem dX11_init_245 : decode cX11_init 245 = .ok (.aload_n 0, 1) := by decide +kernel
theorem dX11_init_246 : decode cX11_init 246 = .ok (.bipush 20, 2) := by decide +kernel
theorem dX11_init_248 : decode cX11_init 248 = .ok (.newarray .int, 2) := by decide +kernel
theorem dX11_init_250 : decode cX11_init 250 = .ok (.putfield 103, 3) := by decide +kernel
theorem dX11_init_253 : decode cX11_init 253 = .ok (.aload_n 0, 1) := by decide +kernel
theorem dX11_init_254 : decode cX11_init 254 = .ok (.bipush 20, 2) := by decide +kernel
theorem dX11_init_256 : decode cX11_init 256 = .ok (.newarray .int, 2) := by decide +kernel
theorem dX11_init_258 : decode cX11_init 258 = .ok (.putfield 106, 3) := by decide +kernel
theorem dX11_init_261 : decode cX11_init 261 = .ok (.aload_n 0, 1) := by decide +kernel
theorem dX11_init_262 : decode cX11_init 262 = .ok (.iconst 0, 1) := by decide +kernel
theorem dX11_init_263 : decode cX11_init 263 = .ok (.invokevirtual 109, 3) := by decide +kernel
theorem dX11_init_266 : decode cX11_init 266 = .ok (.return_, 1) := by decide +kernel
theorem dX11_isIn_0 : decode cX11_isIn 0 = .ok (.iload_n 0, 1) := by decide +kernel
theorem dX11_isIn_1 : decode cX11_isIn 1 = .ok (.iload_n 1, 1) := by decide +kernel
theorem dX11_isIn_2 : decode cX11_isIn 2 = .ok (.if_icmp .lt 12, 3) := by decide +kernel
theorem dX11_isIn_5 : decode cX11_isIn 5 = .ok (.iload_n 0, 1) := by decide +kernel
theorem dX11_isIn_6 : decode cX11_isIn 6 = .ok (.iload_n 2, 1) := by decide +kernel
theorem dX11_isIn_7 : decode cX11_isIn 7 = .ok (.if_icmp .gt 7, 3) := by decide +kernel
theorem dX11_isIn_10 : decode cX11_isIn 10 = .ok (.iconst 1, 1) := by decide +kernel
theorem dX11_isIn_11 : decode cX11_isIn 11 = .ok (.goto 4, 3) := by decide +kernel
theorem dX11_isIn_14 : decode cX11_isIn 14 = .ok (.iconst 0, 1) := by decide +kernel
theorem dX11_isIn_15 : decode cX11_isIn 15 = .ok (.ireturn, 1) := by decide +kernel
theorem dX11_one_0 : decode cX11_one 0 = .ok (.iload_n 0, 1) := by decide +kernel
theorem dX11_one_1 : decode cX11_one 1 = .ok (.ifCond .eq 7, 3) := by decide +kernel
theorem dX11_one_4 : decode cX11_one 4 = .ok (.iconst 1, 1) := by decide +kernel
theorem dX11_one_5 : decode cX11_one 5 = .ok (.goto 4, 3) := by decide +kernel
theorem dX11_one_8 : decode cX11_one 8 = .ok (.iconst 0, 1) := by decide +kernel
theorem dX11_one_9 : decode cX11_one 9 = .ok (.ireturn, 1) := by decide +kernel
set_option maxRecDepth 20000 in
theorem ggX11_isPerson_X11_isIn : GoodIn wsX11_isPerson wsX11_isIn := goodIn_r _ [5] (by decide +kernel) (by decide +kernel)
set_option maxRecDepth 20000 in
theorem gX11_isPerson_X11_isIn : GoodIn wsX11_isPerson (va_wsS RX11 116 yX11_isIn wsX11_isIn) := goodIn_app (goodIn_of _ (by decide +kernel)) ggX11_isPerson_X11_isIn
theorem dX11_isPerson_0 : decode cX11_isPerson 0 = .ok (.iload_n 1, 1) := by decide +kernel
theorem dX11_isPerson_1 : decode cX11_isPerson 1 = .ok (.iconst 0, 1) := by decide +kernel
theorem dX11_isPerson_2 : decode cX11_isPerson 2 = .ok (.aload_n 0, 1) := by decide +kernel
theorem dX11_isPerson_3 : decode cX11_isPerson 3 = .ok (.getfield 113, 3) := by decide +kernel
theorem dX11_isPerson_6 : decode cX11_isPerson 6 = .ok (.iconst 1, 1) := by decide +kernel
theorem dX11_isPerson_7 : decode cX11_isPerson 7 = .ok (.isub, 1) := by decide +kernel
theorem dX11_isPerson_8 : decode cX11_isPerson 8 = .ok (.invokestatic 116, 3) := by decide +kernel
theorem dX11_isPerson_11 : decode cX11_isPerson 11 = .ok (.ireturn, 1) := by decide +kernel
set_option maxRecDepth 20000 in
theorem ggX11_isField_X11_isIn : GoodIn wsX11_isField wsX11_isIn := goodIn_r _ [5] (by decide +kernel) (by decide +kernel)
set_option maxRecDepth 20000 in
theorem gX11_isField_X11_isIn : GoodIn wsX11_isField (va_wsS RX11 116 yX11_isIn wsX11_isIn) := goodIn_app (goodIn_of _ (by decide +kernel)) ggX11_isField_X11_isIn
theorem dX11_isField_0 : decode cX11_isField 0 = .ok (.iload_n 1, 1) := by decide +kernel
theorem dX11_isField_1 : decode cX11_isField 1 = .ok (.iconst 0, 1) := by decide +kernel
theorem dX11_isField_2 : decode cX11_isField 2 = .ok (.aload_n 0, 1) := by decide +kernel
theorem dX11_isField_3 : decode cX11_isField 3 = .ok (.getfield 120, 3) := by decide +kernel
theorem dX11_isField_6 : decode cX11_isField 6 = .ok (.iconst 1, 1) := by decide +kernel
theorem dX11_isField_7 : decode cX11_isField 7 = .ok (.isub, 1) := by decide +kernel
theorem dX11_isField_8 : decode cX11_isField 8 = .ok (.invokestatic 116, 3) := by decide +kernel
theorem dX11_isField_11 : decode cX11_isField 11 = .ok (.ireturn, 1) := by decide +kernel
set_option maxRecDepth 20000 in
theorem ggX11_person_X11_isIn : GoodIn wsX11_person wsX11_isIn := goodIn_r _ [7] (by decide +kernel) (by decide +kernel)
set_option maxRecDepth 20000 in
theorem gX11_person_X11_isIn : GoodIn wsX11_person (va_wsS RX11 116 yX11_isIn wsX11_isIn) := goodIn_app (goodIn_of _ (by decide +kernel)) ggX11_person_X11_isIn
theorem dX11_person_0 : decode cX11_person 0 = .ok (.iload_n 1, 1) := by decide +kernel
theorem dX11_person_1 : decode cX11_person 1 = .ok (.iconst 0, 1) := by decide +kernel
theorem dX11_person_2 : decode cX11_person 2 = .ok (.bipush 19, 2) := by decide +kernel
theorem dX11_person_4 : decode cX11_person 4 = .ok (.invokestatic 116, 3) := by decide +kernel
theorem dX11_person_7 : decode cX11_person 7 = .ok (.ifCond .eq 22, 3) := by decide +kernel
theorem dX11_person_10 : decode cX11_person 10 = .ok (.iload_n 2, 1) := by decide +kernel
theorem dX11_person_11 : decode cX11_person 11 = .ok (.iconst 0, 1) := by decide +kernel
theorem dX11_person_12 : decode cX11_person 12 = .ok (.bipush 99, 2) := by decide +kernel
theorem dX11_person_14 : decode cX11_person 14 = .ok (.invokestatic 116, 3) := by decide +kernel
theorem dX11_person_17 : decode cX11_person 17 = .ok (.ifCond .eq 12, 3) := by decide +kernel
theorem dX11_person_20 : decode cX11_person 20 = .ok (.aload_n 0, 1) := by decide +kernel
theorem dX11_person_21 : decode cX11_person 21 = .ok (.getfield 113, 3) := by decide +kernel
theorem dX11_person_24 : decode cX11_person 24 = .ok (.bipush 40, 2) := by decide +kernel
theorem dX11_person_26 : decode cX11_person 26 = .ok (.if_icmp .ne 5, 3) := by decide +kernel
theorem dX11_person_29 : decode cX11_person 29 = .ok (.iconst (-1), 1) := by decide +kernel
theorem dX11_person_30 : decode cX11_person 30 = .ok (.ireturn, 1) := by decide +kernel
theorem dX11_person_31 : decode cX11_person 31 = .ok (.aload_n 0, 1) := by decide +kernel
theorem dX11_person_32 : decode cX11_person 32 = .ok (.getfield 7, 3) := by decide +kernel
theorem dX11_person_35 : decode cX11_person 35 = .ok (.aload_n 0, 1) := by decide +kernel
theorem dX11_person_36 : decode cX11_person 36 = .ok (.getfield 113, 3) := by decide +kernel
theorem dX11_person_39 : decode cX11_person 39 = .ok (.iload_n 1, 1) := by decide +kernel
theorem dX11_person_40 : decode cX11_person 40 = .ok (.iastore, 1) := by decide +kernel
theorem dX11_person_41 : decode cX11_person 41 = .ok (.aload_n 0, 1) := by decide +kernel
theorem dX11_person_42 : decode cX11_person 42 = .ok (.getfield 13, 3) := by decide +kernel
theorem dX11_person_45 : decode cX11_person 45 = .ok (.aload_n 0, 1) := by decide +kernel
theorem dX11_person_46 : decode cX11_person 46 = .ok (.getfield 113, 3) := by decide +kernel
theorem dX11_person_49 : decode cX11_person 49 = .ok (.iload_n 2, 1) := by decide +kernel
theorem dX11_person_50 : decode cX11_person 50 = .ok (.iastore, 1) := by decide +kernel
theorem dX11_person_51 : decode cX11_person 51 = .ok (.aload_n 0, 1) := by decide +kernel
theorem dX11_person_52 : decode cX11_person 52 = .ok (.dup, 1) := by decide +kernel
theorem dX11_person_53 : decode cX11_person 53 = .ok (.getfield 113, 3) := by decide +kernel
theorem dX11_person_56 : decode cX11_person 56 = .ok (.iconst 1, 1) := by decide +kernel
theorem dX11_person_57 : decode cX11_person 57 = .ok (.iadd, 1) := by decide +kernel
theorem dX11_person_58 : decode cX11_person 58 = .ok (.putfield 113, 3) := by decide +kernel
theorem dX11_person_61 : decode cX11_person 61 = .ok (.aload_n 0, 1) := by decide +kernel
theorem dX11_person_62 : decode cX11_person 62 = .ok (.getfield 113, 3) := by decide +kernel
theorem dX11_person_65 : decode cX11_person 65 = .ok (.iconst 1, 1) := by decide +kernel
theorem dX11_person_66 : decode cX11_person 66 = .ok (.isub, 1) := by decide +kernel
theorem dX11_person_67 : decode cX11_person 67 = .ok (.ireturn, 1) := by decide +kernel
set_option maxRecDepth 20000 in
theorem ggX11_akin_X11_isPerson : GoodIn wsX11_akin wsX11_isPerson := goodIn_r _ [7, 8, 9, 10, 6, 11, 12, 13, 14, 15, 16, 17, 18, 19, 20, 21, 22, 23, 24, 25, 26, 27, 28, 29, 30, 31, 32, 33, 34, 35, 36, 37, 38, 39, 40, 41, 42, 43, 44, 45, 46, 47, 48, 49, 50, 51, 52, 53, 54, 55, 56, 57, 58] (by decide +kernel) (by decide +kernel)
set_option maxRecDepth 20000 in
theorem gX11_akin_X11_isPerson : GoodIn wsX11_akin (wsV RX11 123 RX11 yX11_isPerson wsX11_isPerson) := goodIn_app (goodIn_of _ (by decide +kernel)) ggX11_akin_X11_isPerson
theorem dX11_akin_0 : decode cX11_akin 0 = .ok (.aload_n 0, 1) := by decide +kernel
theorem dX11_akin_1 : decode cX11_akin 1 = .ok (.iload_n 1, 1) := by decide +kernel
theorem dX11_akin_2 : decode cX11_akin 2 = .ok (.invokevirtual 123, 3) := by decide +kernel
theorem dX11_akin_5 : decode cX11_akin 5 = .ok (.ifCond .eq 30, 3) := by decide +kernel
theorem dX11_akin_8 : decode cX11_akin 8 = .ok (.aload_n 0, 1) := by decide +kernel
theorem dX11_akin_9 : decode cX11_akin 9 = .ok (.iload_n 2, 1) := by decide +kernel
theorem dX11_akin_10 : decode cX11_akin 10 = .ok (.invokevirtual 123, 3) := by decide +kernel
theorem dX11_akin_13 : decode cX11_akin 13 = .ok (.ifCond .eq 22, 3) := by decide +kernel
theorem dX11_akin_16 : decode cX11_akin 16 = .ok (.iload_n 1, 1) := by decide +kernel
theorem dX11_akin_17 : decode cX11_akin 17 = .ok (.iload_n 2, 1) := by decide +kernel
theorem dX11_akin_18 : decode cX11_akin 18 = .ok (.if_icmp .eq 17, 3) := by decide +kernel
theorem dX11_akin_21 : decode cX11_akin 21 = .ok (.aload_n 0, 1) := by decide +kernel
theorem dX11_akin_22 : decode cX11_akin 22 = .ok (.getfield 16, 3) := by decide +kernel
theorem dX11_akin_25 : decode cX11_akin 25 = .ok (.bipush 40, 2) := by decide +kernel
theorem dX11_akin_27 : decode cX11_akin 27 = .ok (.iload_n 1, 1) := by decide +kernel
theorem dX11_akin_28 : decode cX11_akin 28 = .ok (.imul, 1) := by decide +kernel
theorem dX11_akin_29 : decode cX11_akin 29 = .ok (.iload_n 2, 1) := by decide +kernel
theorem dX11_akin_30 : decode cX11_akin 30 = .ok (.iadd, 1) := by decide +kernel
theorem dX11_akin_31 : decode cX11_akin 31 = .ok (.baload, 1) := by decide +kernel
theorem dX11_akin_32 : decode cX11_akin 32 = .ok (.ifCond .eq 5, 3) := by decide +kernel
theorem dX11_akin_35 : decode cX11_akin 35 = .ok (.iconst 0, 1) := by decide +kernel
theorem dX11_akin_36 : decode cX11_akin 36 = .ok (.ireturn, 1) := by decide +kernel
theorem dX11_akin_37 : decode cX11_akin 37 = .ok (.aload_n 0, 1) := by decide +kernel
theorem dX11_akin_38 : decode cX11_akin 38 = .ok (.getfield 16, 3) := by decide +kernel
theorem dX11_akin_41 : decode cX11_akin 41 = .ok (.bipush 40, 2) := by decide +kernel
theorem dX11_akin_43 : decode cX11_akin 43 = .ok (.iload_n 1, 1) := by decide +kernel
theorem dX11_akin_44 : decode cX11_akin 44 = .ok (.imul, 1) := by decide +kernel
theorem dX11_akin_45 : decode cX11_akin 45 = .ok (.iload_n 2, 1) := by decide +kernel
theorem dX11_akin_46 : decode cX11_akin 46 = .ok (.iadd, 1) := by decide +kernel
theorem dX11_akin_47 : decode cX11_akin 47 = .ok (.iconst 1, 1) := by decide +kernel
theorem dX11_akin_48 : decode cX11_akin 48 = .ok (.bastore, 1) := by decide +kernel
theorem dX11_akin_49 : decode cX11_akin 49 = .ok (.aload_n 0, 1) := by decide +kernel
theorem dX11_akin_50 : decode cX11_akin 50 = .ok (.getfield 16, 3) := by decide +kernel
theorem dX11_akin_53 : decode cX11_akin 53 = .ok (.bipush 40, 2) := by decide +kernel
theorem dX11_akin_55 : decode cX11_akin 55 = .ok (.iload_n 2, 1) := by decide +kernel
theorem dX11_akin_56 : decode cX11_akin 56 = .ok (.imul, 1) := by decide +kernel
theorem dX11_akin_57 : decode cX11_akin 57 = .ok (.iload_n 1, 1) := by decide +kernel
theorem dX11_akin_58 : decode cX11_akin 58 = .ok (.iadd, 1) := by decide +kernel
theorem dX11_akin_59 : decode cX11_akin 59 = .ok (.iconst 1, 1) := by decide +kernel
theorem dX11_akin_60 : decode cX11_akin 60 = .ok (.bastore, 1) := by decide +kernel
theorem dX11_akin_61 : decode cX11_akin 61 = .ok (.aload_n 0, 1) := by decide +kernel
theorem dX11_akin_62 : decode cX11_akin 62 = .ok (.dup, 1) := by decide +kernel
theorem dX11_akin_63 : decode cX11_akin 63 = .ok (.getfield 127, 3) := by decide +kernel
theorem dX11_akin_66 : decode cX11_akin 66 = .ok (.iconst 1, 1) := by decide +kernel
theorem dX11_akin_67 : decode cX11_akin 67 = .ok (.iadd, 1) := by decide +kernel
theorem dX11_akin_68 : decode cX11_akin 68 = .ok (.putfield 127, 3) := by decide +kernel
theorem dX11_akin_71 : decode cX11_akin 71 = .ok (.iconst 1, 1) := by decide +kernel
theorem dX11_akin_72 : decode cX11_akin 72 = .ok (.ireturn, 1) := by decide +kernel
set_option maxRecDepth 20000 in
theorem ggX11_field_X11_isIn : GoodIn wsX11_field wsX11_isIn := goodIn_r _ [10] (by decide +kernel) (by decide +kernel)
set_option maxRecDepth 20000 in
theorem gX11_field_X11_isIn : GoodIn wsX11_field (va_wsS RX11 116 yX11_isIn wsX11_isIn) := goodIn_app (goodIn_of _ (by decide +kernel)) ggX11_field_X11_isIn
set_option maxRecDepth 20000 in
theorem ggX11_field_X11_isPerson : GoodIn wsX11_field wsX11_isPerson := goodIn_r _ [14, 15, 7, 8, 9, 10, 16, 17, 18, 19, 20, 21, 22, 23, 24, 25, 26, 27, 28, 29, 30, 31, 32, 33, 34, 35, 36, 37, 38, 39, 40, 41, 42, 43, 44, 45, 46, 47, 48, 49, 50, 51, 52, 53, 54, 55, 56, 57, 58, 59, 60, 61, 62] (by decide +kernel) (by decide +kernel)
set_option maxRecDepth 20000 in
theorem gX11_field_X11_isPerson : GoodIn wsX11_field (wsV RX11 123 RX11 yX11_isPerson wsX11_isPerson) := goodIn_app (goodIn_of _ (by decide +kernel)) ggX11_field_X11_isPerson
theorem dX11_field_0 : decode cX11_field 0 = .ok (.iload_n 1, 1) := by decide +kernel
theorem dX11_field_1 : decode cX11_field 1 = .ok (.iconst 0, 1) := by decide +kernel
theorem dX11_field_2 : decode cX11_field 2 = .ok (.bipush 99, 2) := by decide +kernel
theorem dX11_field_4 : decode cX11_field 4 = .ok (.invokestatic 116, 3) := by decide +kernel
theorem dX11_field_7 : decode cX11_field 7 = .ok (.ifCond .eq 51, 3) := by decide +kernel
theorem dX11_field_10 : decode cX11_field 10 = .ok (.iload_n 2, 1) := by decide +kernel
theorem dX11_field_11 : decode cX11_field 11 = .ok (.iconst 1, 1) := by decide +kernel
theorem dX11_field_12 : decode cX11_field 12 = .ok (.bipush 100, 2) := by decide +kernel
theorem dX11_field_14 : decode cX11_field 14 = .ok (.invokestatic 116, 3) := by decide +kernel
theorem dX11_field_17 : decode cX11_field 17 = .ok (.ifCond .eq 41, 3) := by decide +kernel
theorem dX11_field_20 : decode cX11_field 20 = .ok (.iload_n 3, 1) := by decide +kernel
theorem dX11_field_21 : decode cX11_field 21 = .ok (.iconst 0, 1) := by decide +kernel
theorem dX11_field_22 : decode cX11_field 22 = .ok (.iconst 3, 1) := by decide +kernel
theorem dX11_field_23 : decode cX11_field 23 = .ok (.invokestatic 116, 3) := by decide +kernel
theorem dX11_field_26 : decode cX11_field 26 = .ok (.ifCond .eq 32, 3) := by decide +kernel
theorem dX11_field_29 : decode cX11_field 29 = .ok (.iload 4, 2) := by decide +kernel
theorem dX11_field_31 : decode cX11_field 31 = .ok (.iconst 0, 1) := by decide +kernel
theorem dX11_field_32 : decode cX11_field 32 = .ok (.bipush 9, 2) := by decide +kernel
theorem dX11_field_34 : decode cX11_field 34 = .ok (.invokestatic 116, 3) := by decide +kernel
theorem dX11_field_37 : decode cX11_field 37 = .ok (.ifCond .eq 21, 3) := by decide +kernel
theorem dX11_field_40 : decode cX11_field 40 = .ok (.aload_n 0, 1) := by decide +kernel
theorem dX11_field_41 : decode cX11_field 41 = .ok (.iload 5, 2) := by decide +kernel
theorem dX11_field_43 : decode cX11_field 43 = .ok (.invokevirtual 123, 3) := by decide +kernel
theorem dX11_field_46 : decode cX11_field 46 = .ok (.ifCond .eq 12, 3) := by decide +kernel
theorem dX11_field_49 : decode cX11_field 49 = .ok (.aload_n 0, 1) := by decide +kernel
theorem dX11_field_50 : decode cX11_field 50 = .ok (.getfield 120, 3) := by decide +kernel
theorem dX11_field_53 : decode cX11_field 53 = .ok (.bipush 60, 2) := by decide +kernel
theorem dX11_field_55 : decode cX11_field 55 = .ok (.if_icmp .ne 5, 3) := by decide +kernel
theorem dX11_field_58 : decode cX11_field 58 = .ok (.iconst (-1), 1) := by decide +kernel
theorem dX11_field_59 : decode cX11_field 59 = .ok (.ireturn, 1) := by decide +kernel
theorem dX11_field_60 : decode cX11_field 60 = .ok (.aload_n 0, 1) := by decide +kernel
theorem dX11_field_61 : decode cX11_field 61 = .ok (.getfield 20, 3) := by decide +kernel
theorem dX11_field_64 : decode cX11_field 64 = .ok (.aload_n 0, 1) := by decide +kernel
theorem dX11_field_65 : decode cX11_field 65 = .ok (.getfield 120, 3) := by decide +kernel
theorem dX11_field_68 : decode cX11_field 68 = .ok (.iload_n 1, 1) := by decide +kernel
theorem dX11_field_69 : decode cX11_field 69 = .ok (.iastore, 1) := by decide +kernel
theorem dX11_field_70 : decode cX11_field 70 = .ok (.aload_n 0, 1) := by decide +kernel
theorem dX11_field_71 : decode cX11_field 71 = .ok (.getfield 23, 3) := by decide +kernel
theorem dX11_field_74 : decode cX11_field 74 = .ok (.aload_n 0, 1) := by decide +kernel
theorem dX11_field_75 : decode cX11_field 75 = .ok (.getfield 120, 3) := by decide +kernel
theorem dX11_field_78 : decode cX11_field 78 = .ok (.iload_n 2, 1) := by decide +kernel
theorem dX11_field_79 : decode cX11_field 79 = .ok (.iastore, 1) := by decide +kernel
theorem dX11_field_80 : decode cX11_field 80 = .ok (.aload_n 0, 1) := by decide +kernel
theorem dX11_field_81 : decode cX11_field 81 = .ok (.getfield 26, 3) := by decide +kernel
theorem dX11_field_84 : decode cX11_field 84 = .ok (.aload_n 0, 1) := by decide +kernel
theorem dX11_field_85 : decode cX11_field 85 = .ok (.getfield 120, 3) := by decide +kernel
theorem dX11_field_88 : decode cX11_field 88 = .ok (.iload_n 3, 1) := by decide +kernel
theorem dX11_field_89 : decode cX11_field 89 = .ok (.iastore, 1) := by decide +kernel
theorem dX11_field_90 : decode cX11_field 90 = .ok (.aload_n 0, 1) := by decide +kernel
theorem dX11_field_91 : decode cX11_field 91 = .ok (.getfield 29, 3) := by decide +kernel
theorem dX11_field_94 : decode cX11_field 94 = .ok (.aload_n 0, 1) := by decide +kernel
theorem dX11_field_95 : decode cX11_field 95 = .ok (.getfield 120, 3) := by decide +kernel
theorem dX11_field_98 : decode cX11_field 98 = .ok (.iload 4, 2) := by decide +kernel
theorem dX11_field_100 : decode cX11_field 100 = .ok (.iastore, 1) := by decide +kernel
theorem dX11_field_101 : decode cX11_field 101 = .ok (.aload_n 0, 1) := by decide +kernel
theorem dX11_field_102 : decode cX11_field 102 = .ok (.getfield 32, 3) := by decide +kernel
theorem dX11_field_105 : decode cX11_field 105 = .ok (.aload_n 0, 1) := by decide +kernel
theorem dX11_field_106 : decode cX11_field 106 = .ok (.getfield 120, 3) := by decide +kernel
theorem dX11_field_109 : decode cX11_field 109 = .ok (.iload 5, 2) := by decide +kernel
theorem dX11_field_111 : decode cX11_field 111 = .ok (.iastore, 1) := by decide +kernel
theorem dX11_field_112 : decode cX11_field 112 = .ok (.aload_n 0, 1) := by decide +kernel
theorem dX11_field_113 : decode cX11_field 113 = .ok (.dup, 1) := by decide +kernel
theorem dX11_field_114 : decode cX11_field 114 = .ok (.getfield 120, 3) := by decide +kernel
theorem dX11_field_117 : decode cX11_field 117 = .ok (.iconst 1, 1) := by decide +kernel
theorem dX11_field_118 : decode cX11_field 118 = .ok (.iadd, 1) := by decide +kernel
theorem dX11_field_119 : decode cX11_field 119 = .ok (.putfield 120, 3) := by decide +kernel
theorem dX11_field_122 : decode cX11_field 122 = .ok (.aload_n 0, 1) := by decide +kernel
theorem dX11_field_123 : decode cX11_field 123 = .ok (.getfield 120, 3) := by decide +kernel
theorem dX11_field_126 : decode cX11_field 126 = .ok (.iconst 1, 1) := by decide +kernel
theorem dX11_field_127 : decode cX11_field 127 = .ok (.isub, 1) := by decide +kernel
theorem dX11_field_128 : decode cX11_field 128 = .ok (.ireturn, 1) := by decide +kernel
theorem dX11_day_0 : decode cX11_day 0 = .ok (.iload_n 1, 1) := by decide +kernel
theorem dX11_day_1 : decode cX11_day 1 = .ok (.aload_n 0, 1) := by decide +kernel
theorem dX11_day_2 : decode cX11_day 2 = .ok (.getfield 130, 3) := by decide +kernel
theorem dX11_day_5 : decode cX11_day 5 = .ok (.if_icmp .le 10, 3) := by decide +kernel
theorem dX11_day_8 : decode cX11_day 8 = .ok (.iload_n 1, 1) := by decide +kernel
theorem dX11_day_9 : decode cX11_day 9 = .ok (.sipush 1000, 3) := by decide +kernel
theorem dX11_day_12 : decode cX11_day 12 = .ok (.if_icmp .le 5, 3) := by decide +kernel
theorem dX11_day_15 : decode cX11_day 15 = .ok (.iconst 0, 1) := by decide +kernel
theorem dX11_day_16 : decode cX11_day 16 = .ok (.ireturn, 1) := by decide +kernel
theorem dX11_day_17 : decode cX11_day 17 = .ok (.aload_n 0, 1) := by decide +kernel
theorem dX11_day_18 : decode cX11_day 18 = .ok (.iload_n 1, 1) := by decide +kernel
theorem dX11_day_19 : decode cX11_day 19 = .ok (.putfield 130, 3) := by decide +kernel
theorem dX11_day_22 : decode cX11_day 22 = .ok (.iconst 1, 1) := by decide +kernel
theorem dX11_day_23 : decode cX11_day 23 = .ok (.ireturn, 1) := by decide +kernel
theorem dX11_ownerOn_0 : decode cX11_ownerOn 0 = .ok (.aload_n 0, 1) := by decide +kernel
theorem dX11_ownerOn_1 : decode cX11_ownerOn 1 = .ok (.getfield 32, 3) := by decide +kernel
theorem dX11_ownerOn_4 : decode cX11_ownerOn 4 = .ok (.iload_n 1, 1) := by decide +kernel
theorem dX11_ownerOn_5 : decode cX11_ownerOn 5 = .ok (.iaload, 1) := by decide +kernel
theorem dX11_ownerOn_6 : decode cX11_ownerOn 6 = .ok (.istore_n 3, 1) := by decide +kernel
theorem dX11_ownerOn_7 : decode cX11_ownerOn 7 = .ok (.iconst 0, 1) := by decide +kernel
theorem dX11_ownerOn_8 : decode cX11_ownerOn 8 = .ok (.istore 4, 2) := by decide +kernel
theorem dX11_ownerOn_10 : decode cX11_ownerOn 10 = .ok (.iload 4, 2) := by decide +kernel
theorem dX11_ownerOn_12 : decode cX11_ownerOn 12 = .ok (.aload_n 0, 1) := by decide +kernel
theorem dX11_ownerOn_13 : decode cX11_ownerOn 13 = .ok (.getfield 133, 3) := by decide +kernel
theorem dX11_ownerOn_16 : decode cX11_ownerOn 16 = .ok (.if_icmp .ge 39, 3) := by decide +kernel
theorem dX11_ownerOn_19 : decode cX11_ownerOn 19 = .ok (.aload_n 0, 1) := by decide +kernel
theorem dX11_ownerOn_20 : decode cX11_ownerOn 20 = .ok (.getfield 35, 3) := by decide +kernel
theorem dX11_ownerOn_23 : decode cX11_ownerOn 23 = .ok (.iload 4, 2) := by decide +kernel
theorem dX11_ownerOn_25 : decode cX11_ownerOn 25 = .ok (.iaload, 1) := by decide +kernel
theorem dX11_ownerOn_26 : decode cX11_ownerOn 26 = .ok (.iload_n 1, 1) := by decide +kernel
theorem dX11_ownerOn_27 : decode cX11_ownerOn 27 = .ok (.if_icmp .ne 22, 3) := by decide +kernel
theorem dX11_ownerOn_30 : decode cX11_ownerOn 30 = .ok (.aload_n 0, 1) := by decide +kernel
theorem dX11_ownerOn_31 : decode cX11_ownerOn 31 = .ok (.getfield 41, 3) := by decide +kernel
theorem dX11_ownerOn_34 : decode cX11_ownerOn 34 = .ok (.iload 4, 2) := by decide +kernel
theorem dX11_ownerOn_36 : decode cX11_ownerOn 36 = .ok (.iaload, 1) := by decide +kernel
theorem dX11_ownerOn_37 : decode cX11_ownerOn 37 = .ok (.iload_n 2, 1) := by decide +kernel
theorem dX11_ownerOn_38 : decode cX11_ownerOn 38 = .ok (.if_icmp .gt 11, 3) := by decide +kernel
theorem dX11_ownerOn_41 : decode cX11_ownerOn 41 = .ok (.aload_n 0, 1) := by decide +kernel
theorem dX11_ownerOn_42 : decode cX11_ownerOn 42 = .ok (.getfield 38, 3) := by decide +kernel
theorem dX11_ownerOn_45 : decode cX11_ownerOn 45 = .ok (.iload 4, 2) := by decide +kernel
theorem dX11_ownerOn_47 : decode cX11_ownerOn 47 = .ok (.iaload, 1) := by decide +kernel
theorem dX11_ownerOn_48 : decode cX11_ownerOn 48 = .ok (.istore_n 3, 1) := by decide +kernel
theorem dX11_ownerOn_49 : decode cX11_ownerOn 49 = .ok (.iinc 4 1, 3) := by decide +kernel
theorem dX11_ownerOn_52 : decode cX11_ownerOn 52 = .ok (.goto (-42), 3) := by decide +kernel
theorem dX11_ownerOn_55 : decode cX11_ownerOn 55 = .ok (.iload_n 3, 1) := by decide +kernel
theorem dX11_ownerOn_56 : decode cX11_ownerOn 56 = .ok (.ireturn, 1) := by decide +kernel
set_option maxRecDepth 20000 in
theorem ggX11_owner_X11_ownerOn : GoodIn wsX11_owner wsX11_ownerOn := goodIn_r _ [6, 7, 8, 9, 10, 11, 12, 13, 14, 15, 16, 17, 18, 19, 20, 21, 22, 23, 24, 25, 26, 27, 28, 29, 30, 31, 32, 33, 34, 35, 36, 37, 38, 39, 40, 41, 42, 43, 44, 45, 46, 47, 48, 49, 50, 51, 52, 53, 54, 55, 56, 57, 58] (by decide +kernel) (by decide +kernel)
set_option maxRecDepth 20000 in
theorem gX11_owner_X11_ownerOn : GoodIn wsX11_owner (wsV RX11 136 RX11 yX11_ownerOn wsX11_ownerOn) := goodIn_app (goodIn_of _ (by decide +kernel)) ggX11_owner_X11_ownerOn
theorem dX11_owner_0 : decode cX11_owner 0 = .ok (.aload_n 0, 1) := by decide +kernel
theorem dX11_owner_1 : decode cX11_owner 1 = .ok (.iload_n 1, 1) := by decide +kernel
theorem dX11_owner_2 : decode cX11_owner 2 = .ok (.aload_n 0, 1) := by decide +kernel
theorem dX11_owner_3 : decode cX11_owner 3 = .ok (.getfield 130, 3) := by decide +kernel
theorem dX11_owner_6 : decode cX11_owner 6 = .ok (.invokevirtual 136, 3) := by decide +kernel
theorem dX11_owner_9 : decode cX11_owner 9 = .ok (.ireturn, 1) := by decide +kernel
theorem dX11_goes_0 : decode cX11_goes 0 = .ok (.aload_n 0, 1) := by decide +kernel
theorem dX11_goes_1 : decode cX11_goes 1 = .ok (.getfield 35, 3) := by decide +kernel
theorem dX11_goes_4 : decode cX11_goes 4 = .ok (.aload_n 0, 1) := by decide +kernel
theorem dX11_goes_5 : decode cX11_goes 5 = .ok (.getfield 133, 3) := by decide +kernel
theorem dX11_goes_8 : decode cX11_goes 8 = .ok (.iload_n 1, 1) := by decide +kernel
theorem dX11_goes_9 : decode cX11_goes 9 = .ok (.iastore, 1) := by decide +kernel
theorem dX11_goes_10 : decode cX11_goes 10 = .ok (.aload_n 0, 1) := by decide +kernel
theorem dX11_goes_11 : decode cX11_goes 11 = .ok (.getfield 38, 3) := by decide +kernel
theorem dX11_goes_14 : decode cX11_goes 14 = .ok (.aload_n 0, 1) := by decide +kernel
theorem dX11_goes_15 : decode cX11_goes 15 = .ok (.getfield 133, 3) := by decide +kernel
theorem dX11_goes_18 : decode cX11_goes 18 = .ok (.iload_n 2, 1) := by decide +kernel
theorem dX11_goes_19 : decode cX11_goes 19 = .ok (.iastore, 1) := by decide +kernel
theorem dX11_goes_20 : decode cX11_goes 20 = .ok (.aload_n 0, 1) := by decide +kernel
theorem dX11_goes_21 : decode cX11_goes 21 = .ok (.getfield 41, 3) := by decide +kernel
theorem dX11_goes_24 : decode cX11_goes 24 = .ok (.aload_n 0, 1) := by decide +kernel
theorem dX11_goes_25 : decode cX11_goes 25 = .ok (.getfield 133, 3) := by decide +kernel
theorem dX11_goes_28 : decode cX11_goes 28 = .ok (.aload_n 0, 1) := by decide +kernel
theorem dX11_goes_29 : decode cX11_goes 29 = .ok (.getfield 130, 3) := by decide +kernel
theorem dX11_goes_32 : decode cX11_goes 32 = .ok (.iastore, 1) := by decide +kernel
theorem dX11_goes_33 : decode cX11_goes 33 = .ok (.aload_n 0, 1) := by decide +kernel
theorem dX11_goes_34 : decode cX11_goes 34 = .ok (.dup, 1) := by decide +kernel
theorem dX11_goes_35 : decode cX11_goes 35 = .ok (.getfield 133, 3) := by decide +kernel
theorem dX11_goes_38 : decode cX11_goes 38 = .ok (.iconst 1, 1) := by decide +kernel
theorem dX11_goes_39 : decode cX11_goes 39 = .ok (.iadd, 1) := by decide +kernel
theorem dX11_goes_40 : decode cX11_goes 40 = .ok (.putfield 133, 3) := by decide +kernel
theorem dX11_goes_43 : decode cX11_goes 43 = .ok (.return_, 1) := by decide +kernel
set_option maxRecDepth 20000 in
theorem ggX11_transfer_X11_isField : GoodIn wsX11_transfer wsX11_isField := goodIn_r _ [6, 7, 8, 9, 5, 10, 33, 34, 35, 36, 37, 38, 39, 40, 41, 42, 43, 44, 45, 46, 47, 48, 49, 50, 51, 52, 53, 54, 55, 56, 57, 58, 59, 60, 61, 62, 63, 64, 65, 66, 67, 68, 69, 70, 71, 72, 73, 74, 75, 76, 77, 78, 79] (by decide +kernel) (by decide +kernel)
set_option maxRecDepth 20000 in
theorem gX11_transfer_X11_isField : GoodIn wsX11_transfer (wsV RX11 140 RX11 yX11_isField wsX11_isField) := goodIn_app (goodIn_of _ (by decide +kernel)) ggX11_transfer_X11_isField
set_option maxRecDepth 20000 in
theorem ggX11_transfer_X11_isPerson : GoodIn wsX11_transfer wsX11_isPerson := goodIn_r _ [14, 15, 8, 9, 5, 10, 33, 34, 35, 36, 37, 38, 39, 40, 41, 42, 43, 44, 45, 46, 47, 48, 49, 50, 51, 52, 53, 54, 55, 56, 57, 58, 59, 60, 61, 62, 63, 64, 65, 66, 67, 68, 69, 70, 71, 72, 73, 74, 75, 76, 77, 78, 79] (by decide +kernel) (by decide +kernel)
set_option maxRecDepth 20000 in
theorem gX11_transfer_X11_isPerson : GoodIn wsX11_transfer (wsV RX11 123 RX11 yX11_isPerson wsX11_isPerson) := goodIn_app (goodIn_of _ (by decide +kernel)) ggX11_transfer_X11_isPerson
set_option maxRecDepth 20000 in
theorem ggX11_transfer_X11_owner : GoodIn wsX11_transfer wsX11_owner := goodIn_r _ [19, 20, 21, 22, 23, 5, 24, 25, 1, 26, 27, 28, 33, 34, 35, 36, 37, 38, 39, 40, 41, 42, 43, 44, 45, 46, 47, 48, 49, 50, 51, 52, 53, 54, 55, 56, 57, 58, 59, 60, 61, 62, 63, 64, 65, 66, 67, 68, 69, 70, 71, 72, 73, 74, 75, 76, 77, 78, 79] (by decide +kernel) (by decide +kernel)
set_option maxRecDepth 20000 in
theorem gX11_transfer_X11_owner : GoodIn wsX11_transfer (wsV RX11 143 RX11 yX11_owner wsX11_owner) := goodIn_app (goodIn_of _ (by decide +kernel)) ggX11_transfer_X11_owner
set_option maxRecDepth 20000 in
theorem ggX11_transfer_X11_goes : GoodIn wsX11_transfer wsX11_goes := goodIn_r _ [32, 26, 1, 28, 27, 20, 33, 34, 35, 36, 37, 38, 39, 40, 41, 42, 43, 44, 45, 46, 47, 48, 49, 50, 51, 52, 53, 54, 55, 56, 57, 58, 59, 60, 61, 62, 63, 64, 65, 66, 67, 68, 69, 70, 71, 72, 73, 74, 75, 76, 77, 78, 79] (by decide +kernel) (by decide +kernel)
set_option maxRecDepth 20000 in
theorem gX11_transfer_X11_goes : GoodIn wsX11_transfer (wsV RX11 147 RX11 yX11_goes wsX11_goes) := goodIn_app (goodIn_of _ (by decide +kernel)) ggX11_transfer_X11_goes
theorem dX11_transfer_0 : decode cX11_transfer 0 = .ok (.aload_n 0, 1) := by decide +kernel
theorem dX11_transfer_1 : decode cX11_transfer 1 = .ok (.iload_n 1, 1) := by decide +kernel
theorem dX11_transfer_2 : decode cX11_transfer 2 = .ok (.invokevirtual 140, 3) := by decide +kernel
theorem dX11_transfer_5 : decode cX11_transfer 5 = .ok (.ifCond .eq 30, 3) := by decide +kernel
theorem dX11_transfer_8 : decode cX11_transfer 8 = .ok (.aload_n 0, 1) := by decide +kernel
theorem dX11_transfer_9 : decode cX11_transfer 9 = .ok (.iload_n 2, 1) := by decide +kernel
theorem dX11_transfer_10 : decode cX11_transfer 10 = .ok (.invokevirtual 123, 3) := by decide +kernel
theorem dX11_transfer_13 : decode cX11_transfer 13 = .ok (.ifCond .eq 22, 3) := by decide +kernel
theorem dX11_transfer_16 : decode cX11_transfer 16 = .ok (.aload_n 0, 1) := by decide +kernel
theorem dX11_transfer_17 : decode cX11_transfer 17 = .ok (.iload_n 1, 1) := by decide +kernel
theorem dX11_transfer_18 : decode cX11_transfer 18 = .ok (.invokevirtual 143, 3) := by decide +kernel
theorem dX11_transfer_21 : decode cX11_transfer 21 = .ok (.iload_n 2, 1) := by decide +kernel
theorem dX11_transfer_22 : decode cX11_transfer 22 = .ok (.if_icmp .eq 13, 3) := by decide +kernel
theorem dX11_transfer_25 : decode cX11_transfer 25 = .ok (.aload_n 0, 1) := by decide +kernel
theorem dX11_transfer_26 : decode cX11_transfer 26 = .ok (.getfield 133, 3) := by decide +kernel
theorem dX11_transfer_29 : decode cX11_transfer 29 = .ok (.sipush 200, 3) := by decide +kernel
theorem dX11_transfer_32 : decode cX11_transfer 32 = .ok (.if_icmp .ne 5, 3) := by decide +kernel
theorem dX11_transfer_35 : decode cX11_transfer 35 = .ok (.iconst 0, 1) := by decide +kernel
theorem dX11_transfer_36 : decode cX11_transfer 36 = .ok (.ireturn, 1) := by decide +kernel
theorem dX11_transfer_37 : decode cX11_transfer 37 = .ok (.aload_n 0, 1) := by decide +kernel
theorem dX11_transfer_38 : decode cX11_transfer 38 = .ok (.iload_n 1, 1) := by decide +kernel
theorem dX11_transfer_39 : decode cX11_transfer 39 = .ok (.iload_n 2, 1) := by decide +kernel
theorem dX11_transfer_40 : decode cX11_transfer 40 = .ok (.invokevirtual 147, 3) := by decide +kernel
theorem dX11_transfer_43 : decode cX11_transfer 43 = .ok (.iconst 1, 1) := by decide +kernel
theorem dX11_transfer_44 : decode cX11_transfer 44 = .ok (.ireturn, 1) := by decide +kernel
set_option maxRecDepth 20000 in
theorem ggX11_owned_X11_isField : GoodIn wsX11_owned wsX11_isField := goodIn_r _ [5, 6, 7, 8, 4, 9, 19, 20, 21, 22, 23, 24, 25, 26, 27, 28, 29, 30, 31, 32, 33, 34, 35, 36, 37, 38, 39, 40, 41, 42, 43, 44, 45, 46, 47, 48, 49, 50, 51, 52, 53, 54, 55, 56, 57, 58, 59, 60, 61, 62, 63, 64, 65] (by decide +kernel) (by decide +kernel)
set_option maxRecDepth 20000 in
theorem gX11_owned_X11_isField : GoodIn wsX11_owned (wsV RX11 140 RX11 yX11_isField wsX11_isField) := goodIn_app (goodIn_of _ (by decide +kernel)) ggX11_owned_X11_isField
set_option maxRecDepth 20000 in
theorem ggX11_owned_X11_isIn : GoodIn wsX11_owned wsX11_isIn := goodIn_r _ [9] (by decide +kernel) (by decide +kernel)
set_option maxRecDepth 20000 in
theorem gX11_owned_X11_isIn : GoodIn wsX11_owned (va_wsS RX11 116 yX11_isIn wsX11_isIn) := goodIn_app (goodIn_of _ (by decide +kernel)) ggX11_owned_X11_isIn
set_option maxRecDepth 20000 in
theorem ggX11_owned_X11_ownerOn : GoodIn wsX11_owned wsX11_ownerOn := goodIn_r _ [13, 14, 15, 16, 17, 18, 19, 20, 21, 22, 23, 24, 25, 26, 27, 28, 29, 30, 31, 32, 33, 34, 35, 36, 37, 38, 39, 40, 41, 42, 43, 44, 45, 46, 47, 48, 49, 50, 51, 52, 53, 54, 55, 56, 57, 58, 59, 60, 61, 62, 63, 64, 65] (by decide +kernel) (by decide +kernel)
set_option maxRecDepth 20000 in
theorem gX11_owned_X11_ownerOn : GoodIn wsX11_owned (wsV RX11 136 RX11 yX11_ownerOn wsX11_ownerOn) := goodIn_app (goodIn_of _ (by decide +kernel)) ggX11_owned_X11_ownerOn
theorem dX11_owned_0 : decode cX11_owned 0 = .ok (.aload_n 0, 1) := by decide +kernel
theorem dX11_owned_1 : decode cX11_owned 1 = .ok (.iload_n 1, 1) := by decide +kernel
theorem dX11_owned_2 : decode cX11_owned 2 = .ok (.invokevirtual 140, 3) := by decide +kernel
theorem dX11_owned_5 : decode cX11_owned 5 = .ok (.ifCond .eq 23, 3) := by decide +kernel
theorem dX11_owned_8 : decode cX11_owned 8 = .ok (.iload_n 2, 1) := by decide +kernel
theorem dX11_owned_9 : decode cX11_owned 9 = .ok (.iconst 0, 1) := by decide +kernel
theorem dX11_owned_10 : decode cX11_owned 10 = .ok (.sipush 1000, 3) := by decide +kernel
theorem dX11_owned_13 : decode cX11_owned 13 = .ok (.invokestatic 116, 3) := by decide +kernel
theorem dX11_owned_16 : decode cX11_owned 16 = .ok (.ifCond .eq 12, 3) := by decide +kernel
theorem dX11_owned_19 : decode cX11_owned 19 = .ok (.aload_n 0, 1) := by decide +kernel
theorem dX11_owned_20 : decode cX11_owned 20 = .ok (.iload_n 1, 1) := by decide +kernel
theorem dX11_owned_21 : decode cX11_owned 21 = .ok (.iload_n 2, 1) := by decide +kernel
theorem dX11_owned_22 : decode cX11_owned 22 = .ok (.invokevirtual 136, 3) := by decide +kernel
theorem dX11_owned_25 : decode cX11_owned 25 = .ok (.goto 4, 3) := by decide +kernel
theorem dX11_owned_28 : decode cX11_owned 28 = .ok (.iconst (-1), 1) := by decide +kernel
theorem dX11_owned_29 : decode cX11_owned 29 = .ok (.ireturn, 1) := by decide +kernel
set_option maxRecDepth 20000 in
theorem ggX11_begins_X11_isIn : GoodIn wsX11_begins wsX11_isIn := goodIn_r _ [5] (by decide +kernel) (by decide +kernel)
set_option maxRecDepth 20000 in
theorem gX11_begins_X11_isIn : GoodIn wsX11_begins (va_wsS RX11 116 yX11_isIn wsX11_isIn) := goodIn_app (goodIn_of _ (by decide +kernel)) ggX11_begins_X11_isIn
theorem dX11_begins_0 : decode cX11_begins 0 = .ok (.iconst 0, 1) := by decide +kernel
theorem dX11_begins_1 : decode cX11_begins 1 = .ok (.istore_n 2, 1) := by decide +kernel
theorem dX11_begins_2 : decode cX11_begins 2 = .ok (.iload_n 2, 1) := by decide +kernel
theorem dX11_begins_3 : decode cX11_begins 3 = .ok (.bipush 20, 2) := by decide +kernel
theorem dX11_begins_5 : decode cX11_begins 5 = .ok (.if_icmp .ge 77, 3) := by decide +kernel
theorem dX11_begins_8 : decode cX11_begins 8 = .ok (.aload_n 0, 1) := by decide +kernel
theorem dX11_begins_9 : decode cX11_begins 9 = .ok (.getfield 44, 3) := by decide +kernel
theorem dX11_begins_12 : decode cX11_begins 12 = .ok (.iload_n 1, 1) := by decide +kernel
theorem dX11_begins_13 : decode cX11_begins 13 = .ok (.iload_n 2, 1) := by decide +kernel
theorem dX11_begins_14 : decode cX11_begins 14 = .ok (.iadd, 1) := by decide +kernel
theorem dX11_begins_15 : decode cX11_begins 15 = .ok (.iload_n 2, 1) := by decide +kernel
theorem dX11_begins_16 : decode cX11_begins 16 = .ok (.ifCond .ne 8, 3) := by decide +kernel
theorem dX11_begins_19 : decode cX11_begins 19 = .ok (.bipush 100, 2) := by decide +kernel
theorem dX11_begins_21 : decode cX11_begins 21 = .ok (.goto 54, 3) := by decide +kernel
theorem dX11_begins_24 : decode cX11_begins 24 = .ok (.iload_n 2, 1) := by decide +kernel
theorem dX11_begins_25 : decode cX11_begins 25 = .ok (.iconst 2, 1) := by decide +kernel
theorem dX11_begins_26 : decode cX11_begins 26 = .ok (.if_icmp .ne 9, 3) := by decide +kernel
theorem dX11_begins_29 : decode cX11_begins 29 = .ok (.sipush 1000, 3) := by decide +kernel
theorem dX11_begins_32 : decode cX11_begins 32 = .ok (.goto 43, 3) := by decide +kernel
theorem dX11_begins_35 : decode cX11_begins 35 = .ok (.iload_n 2, 1) := by decide +kernel
theorem dX11_begins_36 : decode cX11_begins 36 = .ok (.iconst 3, 1) := by decide +kernel
theorem dX11_begins_37 : decode cX11_begins 37 = .ok (.if_icmp .ne 7, 3) := by decide +kernel
theorem dX11_begins_40 : decode cX11_begins 40 = .ok (.iconst 1, 1) := by decide +kernel
theorem dX11_begins_41 : decode cX11_begins 41 = .ok (.goto 34, 3) := by decide +kernel
theorem dX11_begins_44 : decode cX11_begins 44 = .ok (.iload_n 2, 1) := by decide +kernel
theorem dX11_begins_45 : decode cX11_begins 45 = .ok (.iconst 5, 1) := by decide +kernel
theorem dX11_begins_46 : decode cX11_begins 46 = .ok (.if_icmp .ne 7, 3) := by decide +kernel
theorem dX11_begins_49 : decode cX11_begins 49 = .ok (.iconst 2, 1) := by decide +kernel
theorem dX11_begins_50 : decode cX11_begins 50 = .ok (.goto 25, 3) := by decide +kernel
theorem dX11_begins_53 : decode cX11_begins 53 = .ok (.iload_n 2, 1) := by decide +kernel
theorem dX11_begins_54 : decode cX11_begins 54 = .ok (.iconst 4, 1) := by decide +kernel
theorem dX11_begins_55 : decode cX11_begins 55 = .ok (.if_icmp .eq 14, 3) := by decide +kernel
theorem dX11_begins_58 : decode cX11_begins 58 = .ok (.iload_n 2, 1) := by decide +kernel
theorem dX11_begins_59 : decode cX11_begins 59 = .ok (.bipush 6, 2) := by decide +kernel
theorem dX11_begins_61 : decode cX11_begins 61 = .ok (.bipush 9, 2) := by decide +kernel
theorem dX11_begins_63 : decode cX11_begins 63 = .ok (.invokestatic 116, 3) := by decide +kernel
theorem dX11_begins_66 : decode cX11_begins 66 = .ok (.ifCond .eq 8, 3) := by decide +kernel
theorem dX11_begins_69 : decode cX11_begins 69 = .ok (.bipush 10, 2) := by decide +kernel
theorem dX11_begins_71 : decode cX11_begins 71 = .ok (.goto 4, 3) := by decide +kernel
theorem dX11_begins_74 : decode cX11_begins 74 = .ok (.iconst 0, 1) := by decide +kernel
theorem dX11_begins_75 : decode cX11_begins 75 = .ok (.iastore, 1) := by decide +kernel
theorem dX11_begins_76 : decode cX11_begins 76 = .ok (.iinc 2 1, 3) := by decide +kernel
theorem dX11_begins_79 : decode cX11_begins 79 = .ok (.goto (-77), 3) := by decide +kernel
theorem dX11_begins_82 : decode cX11_begins 82 = .ok (.return_, 1) := by decide +kernel
set_option maxRecDepth 20000 in
theorem ggX11_feed_X11_four : GoodIn wsX11_feed wsX11_four := goodIn_r _ [6, 7, 1, 8, 9, 10, 11, 12, 13, 14, 15, 16, 17, 18, 19, 20, 21, 22, 23, 24, 25, 26, 27, 28, 29, 30, 31, 32, 33, 34, 35, 36, 37, 38, 39, 40, 41, 42, 43, 44, 45, 46, 47, 48, 49, 50, 51, 52, 53, 54] (by decide +kernel) (by decide +kernel)
set_option maxRecDepth 20000 in
theorem gX11_feed_X11_four : GoodIn wsX11_feed (wsV RX11 154 RX11 yX11_four wsX11_four) := goodIn_app (goodIn_of _ (by decide +kernel)) ggX11_feed_X11_four
theorem dX11_feed_0 : decode cX11_feed 0 = .ok (.aload_n 0, 1) := by decide +kernel
theorem dX11_feed_1 : decode cX11_feed 1 = .ok (.getfield 151, 3) := by decide +kernel
theorem dX11_feed_4 : decode cX11_feed 4 = .ok (.bipush 20, 2) := by decide +kernel
theorem dX11_feed_6 : decode cX11_feed 6 = .ok (.iadd, 1) := by decide +kernel
theorem dX11_feed_7 : decode cX11_feed 7 = .ok (.sipush 400, 3) := by decide +kernel
theorem dX11_feed_10 : decode cX11_feed 10 = .ok (.if_icmp .le 5, 3) := by decide +kernel
theorem dX11_feed_13 : decode cX11_feed 13 = .ok (.iconst (-1), 1) := by decide +kernel
theorem dX11_feed_14 : decode cX11_feed 14 = .ok (.ireturn, 1) := by decide +kernel
theorem dX11_feed_15 : decode cX11_feed 15 = .ok (.aload_n 0, 1) := by decide +kernel
theorem dX11_feed_16 : decode cX11_feed 16 = .ok (.iload_n 1, 1) := by decide +kernel
theorem dX11_feed_17 : decode cX11_feed 17 = .ok (.invokevirtual 154, 3) := by decide +kernel
theorem dX11_feed_20 : decode cX11_feed 20 = .ok (.aload_n 0, 1) := by decide +kernel
theorem dX11_feed_21 : decode cX11_feed 21 = .ok (.iload_n 2, 1) := by decide +kernel
theorem dX11_feed_22 : decode cX11_feed 22 = .ok (.invokevirtual 154, 3) := by decide +kernel
theorem dX11_feed_25 : decode cX11_feed 25 = .ok (.aload_n 0, 1) := by decide +kernel
theorem dX11_feed_26 : decode cX11_feed 26 = .ok (.iload_n 3, 1) := by decide +kernel
theorem dX11_feed_27 : decode cX11_feed 27 = .ok (.invokevirtual 154, 3) := by decide +kernel
theorem dX11_feed_30 : decode cX11_feed 30 = .ok (.aload_n 0, 1) := by decide +kernel
theorem dX11_feed_31 : decode cX11_feed 31 = .ok (.iload 4, 2) := by decide +kernel
theorem dX11_feed_33 : decode cX11_feed 33 = .ok (.invokevirtual 154, 3) := by decide +kernel
theorem dX11_feed_36 : decode cX11_feed 36 = .ok (.aload_n 0, 1) := by decide +kernel
theorem dX11_feed_37 : decode cX11_feed 37 = .ok (.iload 5, 2) := by decide +kernel
theorem dX11_feed_39 : decode cX11_feed 39 = .ok (.invokevirtual 154, 3) := by decide +kernel
theorem dX11_feed_42 : decode cX11_feed 42 = .ok (.aload_n 0, 1) := by decide +kernel
theorem dX11_feed_43 : decode cX11_feed 43 = .ok (.getfield 151, 3) := by decide +kernel
theorem dX11_feed_46 : decode cX11_feed 46 = .ok (.ireturn, 1) := by decide +kernel
theorem dX11_four_0 : decode cX11_four 0 = .ok (.bipush 24, 2) := by decide +kernel
theorem dX11_four_2 : decode cX11_four 2 = .ok (.istore_n 2, 1) := by decide +kernel
theorem dX11_four_3 : decode cX11_four 3 = .ok (.iload_n 2, 1) := by decide +kernel
theorem dX11_four_4 : decode cX11_four 4 = .ok (.ifCond .lt 32, 3) := by decide +kernel
theorem dX11_four_7 : decode cX11_four 7 = .ok (.aload_n 0, 1) := by decide +kernel
theorem dX11_four_8 : decode cX11_four 8 = .ok (.getfield 47, 3) := by decide +kernel
theorem dX11_four_11 : decode cX11_four 11 = .ok (.aload_n 0, 1) := by decide +kernel
theorem dX11_four_12 : decode cX11_four 12 = .ok (.getfield 151, 3) := by decide +kernel
theorem dX11_four_15 : decode cX11_four 15 = .ok (.iload_n 1, 1) := by decide +kernel
theorem dX11_four_16 : decode cX11_four 16 = .ok (.iload_n 2, 1) := by decide +kernel
theorem dX11_four_17 : decode cX11_four 17 = .ok (.ishr, 1) := by decide +kernel
theorem dX11_four_18 : decode cX11_four 18 = .ok (.i2b, 1) := by decide +kernel
theorem dX11_four_19 : decode cX11_four 19 = .ok (.bastore, 1) := by decide +kernel
theorem dX11_four_20 : decode cX11_four 20 = .ok (.aload_n 0, 1) := by decide +kernel
theorem dX11_four_21 : decode cX11_four 21 = .ok (.dup, 1) := by decide +kernel
theorem dX11_four_22 : decode cX11_four 22 = .ok (.getfield 151, 3) := by decide +kernel
theorem dX11_four_25 : decode cX11_four 25 = .ok (.iconst 1, 1) := by decide +kernel
theorem dX11_four_26 : decode cX11_four 26 = .ok (.iadd, 1) := by decide +kernel
theorem dX11_four_27 : decode cX11_four 27 = .ok (.putfield 151, 3) := by decide +kernel
theorem dX11_four_30 : decode cX11_four 30 = .ok (.iinc 2 (-8), 3) := by decide +kernel
theorem dX11_four_33 : decode cX11_four 33 = .ok (.goto (-30), 3) := by decide +kernel
theorem dX11_four_36 : decode cX11_four 36 = .ok (.return_, 1) := by decide +kernel
theorem dX11_blanks_0 : decode cX11_blanks 0 = .ok (.aload_n 0, 1) := by decide +kernel
theorem dX11_blanks_1 : decode cX11_blanks 1 = .ok (.getfield 157, 3) := by decide +kernel
theorem dX11_blanks_4 : decode cX11_blanks 4 = .ok (.aload_n 0, 1) := by decide +kernel
theorem dX11_blanks_5 : decode cX11_blanks 5 = .ok (.getfield 160, 3) := by decide +kernel
theorem dX11_blanks_8 : decode cX11_blanks 8 = .ok (.if_icmp .ge 44, 3) := by decide +kernel
theorem dX11_blanks_11 : decode cX11_blanks 11 = .ok (.aload_n 0, 1) := by decide +kernel
theorem dX11_blanks_12 : decode cX11_blanks 12 = .ok (.getfield 51, 3) := by decide +kernel
theorem dX11_blanks_15 : decode cX11_blanks 15 = .ok (.aload_n 0, 1) := by decide +kernel
theorem dX11_blanks_16 : decode cX11_blanks 16 = .ok (.getfield 157, 3) := by decide +kernel
theorem dX11_blanks_19 : decode cX11_blanks 19 = .ok (.baload, 1) := by decide +kernel
theorem dX11_blanks_20 : decode cX11_blanks 20 = .ok (.bipush 32, 2) := by decide +kernel
theorem dX11_blanks_22 : decode cX11_blanks 22 = .ok (.if_icmp .eq 17, 3) := by decide +kernel
theorem dX11_blanks_25 : decode cX11_blanks 25 = .ok (.aload_n 0, 1) := by decide +kernel
theorem dX11_blanks_26 : decode cX11_blanks 26 = .ok (.getfield 51, 3) := by decide +kernel
theorem dX11_blanks_29 : decode cX11_blanks 29 = .ok (.aload_n 0, 1) := by decide +kernel
theorem dX11_blanks_30 : decode cX11_blanks 30 = .ok (.getfield 157, 3) := by decide +kernel
theorem dX11_blanks_33 : decode cX11_blanks 33 = .ok (.baload, 1) := by decide +kernel
theorem dX11_blanks_34 : decode cX11_blanks 34 = .ok (.bipush 10, 2) := by decide +kernel
theorem dX11_blanks_36 : decode cX11_blanks 36 = .ok (.if_icmp .ne 16, 3) := by decide +kernel
theorem dX11_blanks_39 : decode cX11_blanks 39 = .ok (.aload_n 0, 1) := by decide +kernel
theorem dX11_blanks_40 : decode cX11_blanks 40 = .ok (.dup, 1) := by decide +kernel
theorem dX11_blanks_41 : decode cX11_blanks 41 = .ok (.getfield 157, 3) := by decide +kernel
theorem dX11_blanks_44 : decode cX11_blanks 44 = .ok (.iconst 1, 1) := by decide +kernel
theorem dX11_blanks_45 : decode cX11_blanks 45 = .ok (.iadd, 1) := by decide +kernel
theorem dX11_blanks_46 : decode cX11_blanks 46 = .ok (.putfield 157, 3) := by decide +kernel
theorem dX11_blanks_49 : decode cX11_blanks 49 = .ok (.goto (-49), 3) := by decide +kernel
theorem dX11_blanks_52 : decode cX11_blanks 52 = .ok (.return_, 1) := by decide +kernel
set_option maxRecDepth 20000 in
theorem ggX11_word_X11_blanks : GoodIn wsX11_word wsX11_blanks := goodIn_r _ [9, 1, 3, 4, 10, 11, 12, 13, 14, 15, 16, 17, 18, 19, 20, 21, 22, 23, 24, 25, 26, 27, 28, 29, 30, 31, 32, 33, 34, 35, 36, 37, 38, 39, 40, 41, 42, 43, 44, 45, 46, 47, 48, 49, 50, 51, 52, 53, 54, 55, 56] (by decide +kernel) (by decide +kernel)
set_option maxRecDepth 20000 in
theorem gX11_word_X11_blanks : GoodIn wsX11_word (wsV RX11 163 RX11 yX11_blanks wsX11_blanks) := goodIn_app (goodIn_of _ (by decide +kernel)) ggX11_word_X11_blanks
theorem dX11_word_0 : decode cX11_word 0 = .ok (.aload_n 0, 1) := by decide +kernel
theorem dX11_word_1 : decode cX11_word 1 = .ok (.invokevirtual 163, 3) := by decide +kernel
theorem dX11_word_4 : decode cX11_word 4 = .ok (.aload_n 0, 1) := by decide +kernel
theorem dX11_word_5 : decode cX11_word 5 = .ok (.aload_n 0, 1) := by decide +kernel
theorem dX11_word_6 : decode cX11_word 6 = .ok (.getfield 157, 3) := by decide +kernel
theorem dX11_word_9 : decode cX11_word 9 = .ok (.putfield 166, 3) := by decide +kernel
theorem dX11_word_12 : decode cX11_word 12 = .ok (.lconst 0, 1) := by decide +kernel
theorem dX11_word_13 : decode cX11_word 13 = .ok (.lstore_n 1, 1) := by decide +kernel
theorem dX11_word_14 : decode cX11_word 14 = .ok (.aload_n 0, 1) := by decide +kernel
theorem dX11_word_15 : decode cX11_word 15 = .ok (.getfield 166, 3) := by decide +kernel
theorem dX11_word_18 : decode cX11_word 18 = .ok (.aload_n 0, 1) := by decide +kernel
theorem dX11_word_19 : decode cX11_word 19 = .ok (.getfield 160, 3) := by decide +kernel
theorem dX11_word_22 : decode cX11_word 22 = .ok (.if_icmp .ge 78, 3) := by decide +kernel
theorem dX11_word_25 : decode cX11_word 25 = .ok (.aload_n 0, 1) := by decide +kernel
theorem dX11_word_26 : decode cX11_word 26 = .ok (.getfield 51, 3) := by decide +kernel
theorem dX11_word_29 : decode cX11_word 29 = .ok (.aload_n 0, 1) := by decide +kernel
theorem dX11_word_30 : decode cX11_word 30 = .ok (.getfield 166, 3) := by decide +kernel
theorem dX11_word_33 : decode cX11_word 33 = .ok (.baload, 1) := by decide +kernel
theorem dX11_word_34 : decode cX11_word 34 = .ok (.bipush 97, 2) := by decide +kernel
theorem dX11_word_36 : decode cX11_word 36 = .ok (.if_icmp .lt 64, 3) := by decide +kernel
theorem dX11_word_39 : decode cX11_word 39 = .ok (.aload_n 0, 1) := by decide +kernel
theorem dX11_word_40 : decode cX11_word 40 = .ok (.getfield 51, 3) := by decide +kernel
theorem dX11_word_43 : decode cX11_word 43 = .ok (.aload_n 0, 1) := by decide +kernel
theorem dX11_word_44 : decode cX11_word 44 = .ok (.getfield 166, 3) := by decide +kernel
theorem dX11_word_47 : decode cX11_word 47 = .ok (.baload, 1) := by decide +kernel
theorem dX11_word_48 : decode cX11_word 48 = .ok (.bipush 122, 2) := by decide +kernel
theorem dX11_word_50 : decode cX11_word 50 = .ok (.if_icmp .gt 50, 3) := by decide +kernel
theorem dX11_word_53 : decode cX11_word 53 = .ok (.aload_n 0, 1) := by decide +kernel
theorem dX11_word_54 : decode cX11_word 54 = .ok (.getfield 166, 3) := by decide +kernel
theorem dX11_word_57 : decode cX11_word 57 = .ok (.aload_n 0, 1) := by decide +kernel
theorem dX11_word_58 : decode cX11_word 58 = .ok (.getfield 157, 3) := by decide +kernel
theorem dX11_word_61 : decode cX11_word 61 = .ok (.isub, 1) := by decide +kernel
theorem dX11_word_62 : decode cX11_word 62 = .ok (.bipush 7, 2) := by decide +kernel
theorem dX11_word_64 : decode cX11_word 64 = .ok (.if_icmp .ge 21, 3) := by decide +kernel
theorem dX11_word_67 : decode cX11_word 67 = .ok (.lload_n 1, 1) := by decide +kernel
theorem dX11_word_68 : decode cX11_word 68 = .ok (.bipush 8, 2) := by decide +kernel
theorem dX11_word_70 : decode cX11_word 70 = .ok (.lshl, 1) := by decide +kernel
theorem dX11_word_71 : decode cX11_word 71 = .ok (.aload_n 0, 1) := by decide +kernel
theorem dX11_word_72 : decode cX11_word 72 = .ok (.getfield 51, 3) := by decide +kernel
theorem dX11_word_75 : decode cX11_word 75 = .ok (.aload_n 0, 1) := by decide +kernel
theorem dX11_word_76 : decode cX11_word 76 = .ok (.getfield 166, 3) := by decide +kernel
theorem dX11_word_79 : decode cX11_word 79 = .ok (.baload, 1) := by decide +kernel
theorem dX11_word_80 : decode cX11_word 80 = .ok (.i2l, 1) := by decide +kernel
theorem dX11_word_81 : decode cX11_word 81 = .ok (.lor, 1) := by decide +kernel
theorem dX11_word_82 : decode cX11_word 82 = .ok (.goto 4, 3) := by decide +kernel
theorem dX11_word_85 : decode cX11_word 85 = .ok (.lconst 0, 1) := by decide +kernel
theorem dX11_word_86 : decode cX11_word 86 = .ok (.lstore_n 1, 1) := by decide +kernel
theorem dX11_word_87 : decode cX11_word 87 = .ok (.aload_n 0, 1) := by decide +kernel
theorem dX11_word_88 : decode cX11_word 88 = .ok (.dup, 1) := by decide +kernel
theorem dX11_word_89 : decode cX11_word 89 = .ok (.getfield 166, 3) := by decide +kernel
theorem dX11_word_92 : decode cX11_word 92 = .ok (.iconst 1, 1) := by decide +kernel
theorem dX11_word_93 : decode cX11_word 93 = .ok (.iadd, 1) := by decide +kernel
theorem dX11_word_94 : decode cX11_word 94 = .ok (.putfield 166, 3) := by decide +kernel
theorem dX11_word_97 : decode cX11_word 97 = .ok (.goto (-83), 3) := by decide +kernel
theorem dX11_word_100 : decode cX11_word 100 = .ok (.aload_n 0, 1) := by decide +kernel
theorem dX11_word_101 : decode cX11_word 101 = .ok (.getfield 166, 3) := by decide +kernel
theorem dX11_word_104 : decode cX11_word 104 = .ok (.aload_n 0, 1) := by decide +kernel
theorem dX11_word_105 : decode cX11_word 105 = .ok (.getfield 157, 3) := by decide +kernel
theorem dX11_word_108 : decode cX11_word 108 = .ok (.isub, 1) := by decide +kernel
theorem dX11_word_109 : decode cX11_word 109 = .ok (.bipush 7, 2) := by decide +kernel
theorem dX11_word_111 : decode cX11_word 111 = .ok (.if_icmp .le 7, 3) := by decide +kernel
theorem dX11_word_114 : decode cX11_word 114 = .ok (.lconst 0, 1) := by decide +kernel
theorem dX11_word_115 : decode cX11_word 115 = .ok (.goto 4, 3) := by decide +kernel
theorem dX11_word_118 : decode cX11_word 118 = .ok (.lload_n 1, 1) := by decide +kernel
theorem dX11_word_119 : decode cX11_word 119 = .ok (.lreturn, 1) := by decide +kernel
set_option maxRecDepth 20000 in
theorem ggX11_takes_X11_word : GoodIn wsX11_takes wsX11_word := goodIn_r _ [7, 2, 1, 8, 9, 10, 11, 12, 6, 13, 14, 15, 16, 17, 18, 19, 20, 21, 22, 23, 24, 25, 26, 27, 28, 29, 30, 31, 32, 33, 34, 35, 36, 37, 38, 39, 40, 41, 42, 43, 44, 45, 46, 47, 48, 49, 50, 51, 52, 53, 54, 55, 56, 57, 58, 59, 60] (by decide +kernel) (by decide +kernel)
set_option maxRecDepth 20000 in
theorem gX11_takes_X11_word : GoodIn wsX11_takes (wsV RX11 169 RX11 yX11_word wsX11_word) := goodIn_app (goodIn_of _ (by decide +kernel)) ggX11_takes_X11_word
theorem dX11_takes_0 : decode cX11_takes 0 = .ok (.aload_n 0, 1) := by decide +kernel
theorem dX11_takes_1 : decode cX11_takes 1 = .ok (.invokevirtual 169, 3) := by decide +kernel
theorem dX11_takes_4 : decode cX11_takes 4 = .ok (.lload_n 1, 1) := by decide +kernel
theorem dX11_takes_5 : decode cX11_takes 5 = .ok (.lcmp, 1) := by decide +kernel
theorem dX11_takes_6 : decode cX11_takes 6 = .ok (.ifCond .eq 5, 3) := by decide +kernel
theorem dX11_takes_9 : decode cX11_takes 9 = .ok (.iconst 0, 1) := by decide +kernel
theorem dX11_takes_10 : decode cX11_takes 10 = .ok (.ireturn, 1) := by decide +kernel
theorem dX11_takes_11 : decode cX11_takes 11 = .ok (.aload_n 0, 1) := by decide +kernel
theorem dX11_takes_12 : decode cX11_takes 12 = .ok (.aload_n 0, 1) := by decide +kernel
theorem dX11_takes_13 : decode cX11_takes 13 = .ok (.getfield 166, 3) := by decide +kernel
theorem dX11_takes_16 : decode cX11_takes 16 = .ok (.putfield 157, 3) := by decide +kernel
theorem dX11_takes_19 : decode cX11_takes 19 = .ok (.iconst 1, 1) := by decide +kernel
theorem dX11_takes_20 : decode cX11_takes 20 = .ok (.ireturn, 1) := by decide +kernel
