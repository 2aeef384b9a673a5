theorem dX9_tenantOf_88 : decode cX9_tenantOf 88 = .ok (.iload 7, 2) := by decide +kernel
theorem dX9_tenantOf_90 : decode cX9_tenantOf 90 = .ok (.istore 5, 2) := by decide +kernel
theorem dX9_tenantOf_92 : decode cX9_tenantOf 92 = .ok (.iinc 6 1, 3) := by decide +kernel
theorem dX9_tenantOf_95 : decode cX9_tenantOf 95 = .ok (.goto (-86), 3) := by decide +kernel
theorem dX9_tenantOf_98 : decode cX9_tenantOf 98 = .ok (.iload 4, 2) := by decide +kernel
theorem dX9_tenantOf_100 : decode cX9_tenantOf 100 = .ok (.ireturn, 1) := by decide +kernel
set_option maxRecDepth 20000 in
theorem ggX10_init_X4_init : GoodIn wsX10_init wsX4_init := goodIn_r _ [44, 45, 2, 3, 46, 47, 48, 49, 50, 122, 123, 124, 125, 126] (by decide +kernel) (by decide +kernel)
set_option maxRecDepth 20000 in
theorem gX10_init_X4_init_n9 : GoodIn wsX10_init (wsX4_init) := ggX10_init_X4_init
set_option maxRecDepth 20000 in
theorem ggX10_init_X2_init : GoodIn wsX10_init wsX2_init := goodIn_r _ [52, 53, 2, 3, 46, 54, 55, 56, 57, 58, 59, 60, 61, 62, 139, 140, 141, 142, 143, 144, 145, 146, 147, 148, 149, 150] (by decide +kernel) (by decide +kernel)
set_option maxRecDepth 20000 in
theorem gX10_init_X2_init_n18 : GoodIn wsX10_init (wsX2_init) := ggX10_init_X2_init
set_option maxRecDepth 20000 in
theorem ggX10_init_X8_init : GoodIn wsX10_init wsX8_init := goodIn_r _ [64, 65, 2, 3, 66, 67, 151, 152] (by decide +kernel) (by decide +kernel)
set_option maxRecDepth 20000 in
theorem gX10_init_X8_init_n25 : GoodIn wsX10_init (wsX8_init) := ggX10_init_X8_init
set_option maxRecDepth 20000 in
theorem ggX10_init_X5_init : GoodIn wsX10_init wsX5_init := goodIn_r _ [70, 71, 2, 3, 72, 73, 153, 154, 155, 156, 157] (by decide +kernel) (by decide +kernel)
set_option maxRecDepth 20000 in
theorem gX10_init_X5_init : GoodIn wsX10_init (wsX5_init) := ggX10_init_X5_init
set_option maxRecDepth 20000 in
theorem ggX10_init_X1_init : GoodIn wsX10_init wsX1_init := goodIn_r _ [75, 76, 2, 3, 46, 77, 78, 79, 80, 158, 159, 160, 161, 162, 163, 164, 165, 166, 167] (by decide +kernel) (by decide +kernel)
set_option maxRecDepth 20000 in
theorem gX10_init_X1_init_n45 : GoodIn wsX10_init (wsX1_init) := ggX10_init_X1_init
set_option maxRecDepth 20000 in
theorem ggX10_init_X9_init : GoodIn wsX10_init wsX9_init := goodIn_r _ [82, 83, 2, 3, 46, 84, 85, 86, 168, 169, 170, 171] (by decide +kernel) (by decide +kernel)
set_option maxRecDepth 20000 in
theorem gX10_init_X9_init_n52 : GoodIn wsX10_init (wsX9_init) := ggX10_init_X9_init
set_option maxRecDepth 20000 in
theorem ggX10_init_X0_init : GoodIn wsX10_init wsX0_init := goodIn_r _ [88, 89, 2, 3, 46, 90, 91, 92, 172, 173, 174] (by decide +kernel) (by decide +kernel)
set_option maxRecDepth 20000 in
theorem gX10_init_X0_init_n59 : GoodIn wsX10_init (wsX0_init) := ggX10_init_X0_init
set_option maxRecDepth 20000 in
theorem ggX10_init_X6_init : GoodIn wsX10_init wsX6_init := goodIn_r _ [94, 95, 2, 3, 46, 96, 97, 98, 99, 100, 175, 176, 177, 178, 179, 180, 181] (by decide +kernel) (by decide +kernel)
set_option maxRecDepth 20000 in
theorem gX10_init_X6_init_n66 : GoodIn wsX10_init (wsX6_init) := ggX10_init_X6_init
set_option maxRecDepth 20000 in
theorem ggX10_init_X3_init : GoodIn wsX10_init wsX3_init := goodIn_r _ [103, 104, 2, 3, 46, 105, 106, 107, 108, 40, 109, 110, 111, 112, 113, 114, 115, 116, 117, 118, 119, 120, 121, 182, 183, 184, 185, 186, 187, 188, 189, 190] (by decide +kernel) (by decide +kernel)
set_option maxRecDepth 20000 in
theorem gX10_init_X3_init : GoodIn wsX10_init (wsX3_init) := ggX10_init_X3_init
theorem dX10_init_0 : decode cX10_init 0 = .ok (.aload_n 0, 1) := by decide +kernel
theorem dX10_init_1 : decode cX10_init 1 = .ok (.invokespecial 1, 3) := by decide +kernel
theorem dX10_init_4 : decode cX10_init 4 = .ok (.aload_n 0, 1) := by decide +kernel
theorem dX10_init_5 : decode cX10_init 5 = .ok (.new 7, 3) := by decide +kernel
theorem dX10_init_8 : decode cX10_init 8 = .ok (.dup, 1) := by decide +kernel
theorem dX10_init_9 : decode cX10_init 9 = .ok (.invokespecial 9, 3) := by decide +kernel
theorem dX10_init_12 : decode cX10_init 12 = .ok (.putfield 10, 3) := by decide +kernel
theorem dX10_init_15 : decode cX10_init 15 = .ok (.aload_n 0, 1) := by decide +kernel
theorem dX10_init_16 : decode cX10_init 16 = .ok (.new 16, 3) := by decide +kernel
theorem dX10_init_19 : decode cX10_init 19 = .ok (.dup, 1) := by decide +kernel
theorem dX10_init_20 : decode cX10_init 20 = .ok (.invokespecial 18, 3) := by decide +kernel
theorem dX10_init_23 : decode cX10_init 23 = .ok (.putfield 19, 3) := by decide +kernel
theorem dX10_init_26 : decode cX10_init 26 = .ok (.aload_n 0, 1) := by decide +kernel
theorem dX10_init_27 : decode cX10_init 27 = .ok (.new 23, 3) := by decide +kernel
theorem dX10_init_30 : decode cX10_init 30 = .ok (.dup, 1) := by decide +kernel
theorem dX10_init_31 : decode cX10_init 31 = .ok (.invokespecial 25, 3) := by decide +kernel
theorem dX10_init_34 : decode cX10_init 34 = .ok (.putfield 26, 3) := by decide +kernel
theorem dX10_init_37 : decode cX10_init 37 = .ok (.aload_n 0, 1) := by decide +kernel
theorem dX10_init_38 : decode cX10_init 38 = .ok (.new 30, 3) := by decide +kernel
theorem dX10_init_41 : decode cX10_init 41 = .ok (.dup, 1) := by decide +kernel
theorem dX10_init_42 : decode cX10_init 42 = .ok (.aload_n 0, 1) := by decide +kernel
theorem dX10_init_43 : decode cX10_init 43 = .ok (.getfield 26, 3) := by decide +kernel
theorem dX10_init_46 : decode cX10_init 46 = .ok (.getfield 32, 3) := by decide +kernel
theorem dX10_init_49 : decode cX10_init 49 = .ok (.invokespecial 36, 3) := by decide +kernel
theorem dX10_init_52 : decode cX10_init 52 = .ok (.putfield 39, 3) := by decide +kernel
theorem dX10_init_55 : decode cX10_init 55 = .ok (.aload_n 0, 1) := by decide +kernel
theorem dX10_init_56 : decode cX10_init 56 = .ok (.new 43, 3) := by decide +kernel
theorem dX10_init_59 : decode cX10_init 59 = .ok (.dup, 1) := by decide +kernel
theorem dX10_init_60 : decode cX10_init 60 = .ok (.invokespecial 45, 3) := by decide +kernel
theorem dX10_init_63 : decode cX10_init 63 = .ok (.putfield 46, 3) := by decide +kernel
theorem dX10_init_66 : decode cX10_init 66 = .ok (.aload_n 0, 1) := by decide +kernel
theorem dX10_init_67 : decode cX10_init 67 = .ok (.new 50, 3) := by decide +kernel
theorem dX10_init_70 : decode cX10_init 70 = .ok (.dup, 1) := by decide +kernel
theorem dX10_init_71 : decode cX10_init 71 = .ok (.invokespecial 52, 3) := by decide +kernel
theorem dX10_init_74 : decode cX10_init 74 = .ok (.putfield 53, 3) := by decide +kernel
theorem dX10_init_77 : decode cX10_init 77 = .ok (.aload_n 0, 1) := by decide +kernel
theorem dX10_init_78 : decode cX10_init 78 = .ok (.new 57, 3) := by decide +kernel
theorem dX10_init_81 : decode cX10_init 81 = .ok (.dup, 1) := by decide +kernel
theorem dX10_init_82 : decode cX10_init 82 = .ok (.invokespecial 59, 3) := by decide +kernel
theorem dX10_init_85 : decode cX10_init 85 = .ok (.putfield 60, 3) := by decide +kernel
theorem dX10_init_88 : decode cX10_init 88 = .ok (.aload_n 0, 1) := by decide +kernel
theorem dX10_init_89 : decode cX10_init 89 = .ok (.new 64, 3) := by decide +kernel
theorem dX10_init_92 : decode cX10_init 92 = .ok (.dup, 1) := by decide +kernel
theorem dX10_init_93 : decode cX10_init 93 = .ok (.invokespecial 66, 3) := by decide +kernel
theorem dX10_init_96 : decode cX10_init 96 = .ok (.putfield 67, 3) := by decide +kernel
theorem dX10_init_99 : decode cX10_init 99 = .ok (.aload_n 0, 1) := by decide +kernel
theorem dX10_init_100 : decode cX10_init 100 = .ok (.bipush 20, 2) := by decide +kernel
theorem dX10_init_102 : decode cX10_init 102 = .ok (.anewarray 71, 3) := by decide +kernel
theorem dX10_init_105 : decode cX10_init 105 = .ok (.putfield 73, 3) := by decide +kernel
theorem dX10_init_108 : decode cX10_init 108 = .ok (.aload_n 0, 1) := by decide +kernel
theorem dX10_init_109 : decode cX10_init 109 = .ok (.new 77, 3) := by decide +kernel
theorem dX10_init_112 : decode cX10_init 112 = .ok (.dup, 1) := by decide +kernel
theorem dX10_init_113 : decode cX10_init 113 = .ok (.invokespecial 79, 3) := by decide +kernel
theorem dX10_init_116 : decode cX10_init 116 = .ok (.putfield 80, 3) := by decide +kernel
theorem dX10_init_119 : decode cX10_init 119 = .ok (.aload_n 0, 1) := by decide +kernel
theorem dX10_init_120 : decode cX10_init 120 = .ok (.new 77, 3) := by decide +kernel
theorem dX10_init_123 : decode cX10_init 123 = .ok (.dup, 1) := by decide +kernel
theorem dX10_init_124 : decode cX10_init 124 = .ok (.invokespecial 79, 3) := by decide +kernel
theorem dX10_init_127 : decode cX10_init 127 = .ok (.putfield 84, 3) := by decide +kernel
theorem dX10_init_130 : decode cX10_init 130 = .ok (.return_, 1) := by decide +kernel
set_option maxRecDepth 20000 in
theorem ggX10_person_X10_isBelow : GoodIn wsX10_person wsX10_isBelow := goodIn_r _ [5] (by decide +kernel) (by decide +kernel)
set_option maxRecDepth 20000 in
theorem gX10_person_X10_isBelow : GoodIn wsX10_person (va_wsS RX10 87 yX10_isBelow wsX10_isBelow) := goodIn_app (goodIn_of _ (by decide +kernel)) ggX10_person_X10_isBelow
set_option maxRecDepth 20000 in
theorem ggX10_person_X4_add : GoodIn wsX10_person wsX4_add := goodIn_r _ [10, 11, 12, 13, 26, 27, 28, 29, 30] (by decide +kernel) (by decide +kernel)
set_option maxRecDepth 20000 in
theorem gX10_person_X4_add : GoodIn wsX10_person (wsV RX10 91 RX4 yX4_add wsX4_add) := goodIn_app (goodIn_of _ (by decide +kernel)) ggX10_person_X4_add
theorem dX10_person_0 : decode cX10_person 0 = .ok (.iload_n 1, 1) := by decide +kernel
theorem dX10_person_1 : decode cX10_person 1 = .ok (.bipush 20, 2) := by decide +kernel
theorem dX10_person_3 : decode cX10_person 3 = .ok (.invokestatic 87, 3) := by decide +kernel
theorem dX10_person_6 : decode cX10_person 6 = .ok (.ifCond .eq 12, 3) := by decide +kernel
theorem dX10_person_9 : decode cX10_person 9 = .ok (.iload_n 2, 1) := by decide +kernel
theorem dX10_person_10 : decode cX10_person 10 = .ok (.bipush 100, 2) := by decide +kernel
theorem dX10_person_12 : decode cX10_person 12 = .ok (.invokestatic 87, 3) := by decide +kernel
theorem dX10_person_15 : decode cX10_person 15 = .ok (.ifCond .ne 5, 3) := by decide +kernel
theorem dX10_person_18 : decode cX10_person 18 = .ok (.iconst (-1), 1) := by decide +kernel
theorem dX10_person_19 : decode cX10_person 19 = .ok (.ireturn, 1) := by decide +kernel
theorem dX10_person_20 : decode cX10_person 20 = .ok (.aload_n 0, 1) := by decide +kernel
theorem dX10_person_21 : decode cX10_person 21 = .ok (.getfield 10, 3) := by decide +kernel
theorem dX10_person_24 : decode cX10_person 24 = .ok (.iload_n 1, 1) := by decide +kernel
theorem dX10_person_25 : decode cX10_person 25 = .ok (.iload_n 2, 1) := by decide +kernel
theorem dX10_person_26 : decode cX10_person 26 = .ok (.invokevirtual 91, 3) := by decide +kernel
theorem dX10_person_29 : decode cX10_person 29 = .ok (.ireturn, 1) := by decide +kernel
set_option maxRecDepth 20000 in
theorem ggX10_akin_X4_bind : GoodIn wsX10_akin wsX4_bind := goodIn_r _ [6, 7, 8, 9, 10, 11, 5, 12, 13, 14, 15, 16, 17, 18, 19, 20, 33, 34, 35, 36, 37] (by decide +kernel) (by decide +kernel)
set_option maxRecDepth 20000 in
theorem gX10_akin_X4_bind : GoodIn wsX10_akin (wsV RX10 95 RX4 yX4_bind wsX4_bind) := goodIn_app (goodIn_of _ (by decide +kernel)) ggX10_akin_X4_bind
theorem dX10_akin_0 : decode cX10_akin 0 = .ok (.aload_n 0, 1) := by decide +kernel
theorem dX10_akin_1 : decode cX10_akin 1 = .ok (.getfield 10, 3) := by decide +kernel
theorem dX10_akin_4 : decode cX10_akin 4 = .ok (.iload_n 1, 1) := by decide +kernel
theorem dX10_akin_5 : decode cX10_akin 5 = .ok (.iload_n 2, 1) := by decide +kernel
theorem dX10_akin_6 : decode cX10_akin 6 = .ok (.invokevirtual 95, 3) := by decide +kernel
theorem dX10_akin_9 : decode cX10_akin 9 = .ok (.ireturn, 1) := by decide +kernel
set_option maxRecDepth 20000 in
theorem ggX10_field_X10_isBelow : GoodIn wsX10_field wsX10_isBelow := goodIn_r _ [6] (by decide +kernel) (by decide +kernel)
set_option maxRecDepth 20000 in
theorem gX10_field_X10_isBelow : GoodIn wsX10_field (va_wsS RX10 87 yX10_isBelow wsX10_isBelow) := goodIn_app (goodIn_of _ (by decide +kernel)) ggX10_field_X10_isBelow
set_option maxRecDepth 20000 in
theorem ggX10_field_X4_has : GoodIn wsX10_field wsX4_has := goodIn_r _ [11, 12, 4, 5, 6, 37, 38, 39, 40, 41] (by decide +kernel) (by decide +kernel)
set_option maxRecDepth 20000 in
theorem gX10_field_X4_has : GoodIn wsX10_field (wsV RX10 98 RX4 yX4_has wsX4_has) := goodIn_app (goodIn_of _ (by decide +kernel)) ggX10_field_X4_has
set_option maxRecDepth 20000 in
theorem ggX10_field_X2_add : GoodIn wsX10_field wsX2_add := goodIn_r _ [17, 18, 19, 20, 21, 22, 23, 24, 42, 43, 44, 45, 46, 47, 48, 49, 50, 51, 52, 53] (by decide +kernel) (by decide +kernel)
set_option maxRecDepth 20000 in
theorem gX10_field_X2_add : GoodIn wsX10_field (wsV RX10 102 RX2 yX2_add wsX2_add) := goodIn_app (goodIn_of _ (by decide +kernel)) ggX10_field_X2_add
theorem dX10_field_0 : decode cX10_field 0 = .ok (.iload_n 1, 1) := by decide +kernel
theorem dX10_field_1 : decode cX10_field 1 = .ok (.bipush 100, 2) := by decide +kernel
theorem dX10_field_3 : decode cX10_field 3 = .ok (.invokestatic 87, 3) := by decide +kernel
theorem dX10_field_6 : decode cX10_field 6 = .ok (.ifCond .eq 48, 3) := by decide +kernel
theorem dX10_field_9 : decode cX10_field 9 = .ok (.iload_n 2, 1) := by decide +kernel
theorem dX10_field_10 : decode cX10_field 10 = .ok (.iconst 1, 1) := by decide +kernel
theorem dX10_field_11 : decode cX10_field 11 = .ok (.if_icmp .lt 43, 3) := by decide +kernel
theorem dX10_field_14 : decode cX10_field 14 = .ok (.iload_n 2, 1) := by decide +kernel
theorem dX10_field_15 : decode cX10_field 15 = .ok (.bipush 100, 2) := by decide +kernel
theorem dX10_field_17 : decode cX10_field 17 = .ok (.if_icmp .gt 37, 3) := by decide +kernel
theorem dX10_field_20 : decode cX10_field 20 = .ok (.iload_n 3, 1) := by decide +kernel
theorem dX10_field_21 : decode cX10_field 21 = .ok (.iconst 4, 1) := by decide +kernel
theorem dX10_field_22 : decode cX10_field 22 = .ok (.invokestatic 87, 3) := by decide +kernel
theorem dX10_field_25 : decode cX10_field 25 = .ok (.ifCond .eq 29, 3) := by decide +kernel
theorem dX10_field_28 : decode cX10_field 28 = .ok (.iload 4, 2) := by decide +kernel
theorem dX10_field_30 : decode cX10_field 30 = .ok (.bipush 10, 2) := by decide +kernel
theorem dX10_field_32 : decode cX10_field 32 = .ok (.invokestatic 87, 3) := by decide +kernel
theorem dX10_field_35 : decode cX10_field 35 = .ok (.ifCond .eq 19, 3) := by decide +kernel
theorem dX10_field_38 : decode cX10_field 38 = .ok (.aload_n 0, 1) := by decide +kernel
theorem dX10_field_39 : decode cX10_field 39 = .ok (.getfield 10, 3) := by decide +kernel
theorem dX10_field_42 : decode cX10_field 42 = .ok (.iload 5, 2) := by decide +kernel
theorem dX10_field_44 : decode cX10_field 44 = .ok (.invokevirtual 98, 3) := by decide +kernel
theorem dX10_field_47 : decode cX10_field 47 = .ok (.ifCond .eq 7, 3) := by decide +kernel
theorem dX10_field_50 : decode cX10_field 50 = .ok (.iconst 1, 1) := by decide +kernel
theorem dX10_field_51 : decode cX10_field 51 = .ok (.goto 4, 3) := by decide +kernel
theorem dX10_field_54 : decode cX10_field 54 = .ok (.iconst 0, 1) := by decide +kernel
theorem dX10_field_55 : decode cX10_field 55 = .ok (.istore 6, 2) := by decide +kernel
theorem dX10_field_57 : decode cX10_field 57 = .ok (.iload 6, 2) := by decide +kernel
theorem dX10_field_59 : decode cX10_field 59 = .ok (.ifCond .eq 20, 3) := by decide +kernel
theorem dX10_field_62 : decode cX10_field 62 = .ok (.aload_n 0, 1) := by decide +kernel
theorem dX10_field_63 : decode cX10_field 63 = .ok (.getfield 19, 3) := by decide +kernel
theorem dX10_field_66 : decode cX10_field 66 = .ok (.iload_n 1, 1) := by decide +kernel
theorem dX10_field_67 : decode cX10_field 67 = .ok (.iload_n 2, 1) := by decide +kernel
theorem dX10_field_68 : decode cX10_field 68 = .ok (.iload_n 3, 1) := by decide +kernel
theorem dX10_field_69 : decode cX10_field 69 = .ok (.iload 4, 2) := by decide +kernel
theorem dX10_field_71 : decode cX10_field 71 = .ok (.iload 5, 2) := by decide +kernel
theorem dX10_field_73 : decode cX10_field 73 = .ok (.invokevirtual 102, 3) := by decide +kernel
theorem dX10_field_76 : decode cX10_field 76 = .ok (.goto 4, 3) := by decide +kernel
theorem dX10_field_79 : decode cX10_field 79 = .ok (.iconst (-1), 1) := by decide +kernel
theorem dX10_field_80 : decode cX10_field 80 = .ok (.ireturn, 1) := by decide +kernel
theorem dX10_day_0 : decode cX10_day 0 = .ok (.iload_n 1, 1) := by decide +kernel
theorem dX10_day_1 : decode cX10_day 1 = .ok (.aload_n 0, 1) := by decide +kernel
theorem dX10_day_2 : decode cX10_day 2 = .ok (.getfield 19, 3) := by decide +kernel
theorem dX10_day_5 : decode cX10_day 5 = .ok (.getfield 105, 3) := by decide +kernel
theorem dX10_day_8 : decode cX10_day 8 = .ok (.if_icmp .le 10, 3) := by decide +kernel
theorem dX10_day_11 : decode cX10_day 11 = .ok (.iload_n 1, 1) := by decide +kernel
theorem dX10_day_12 : decode cX10_day 12 = .ok (.sipush 1000, 3) := by decide +kernel
theorem dX10_day_15 : decode cX10_day 15 = .ok (.if_icmp .le 5, 3) := by decide +kernel
theorem dX10_day_18 : decode cX10_day 18 = .ok (.iconst 0, 1) := by decide +kernel
theorem dX10_day_19 : decode cX10_day 19 = .ok (.ireturn, 1) := by decide +kernel
theorem dX10_day_20 : decode cX10_day 20 = .ok (.aload_n 0, 1) := by decide +kernel
theorem dX10_day_21 : decode cX10_day 21 = .ok (.getfield 19, 3) := by decide +kernel
theorem dX10_day_24 : decode cX10_day 24 = .ok (.iload_n 1, 1) := by decide +kernel
theorem dX10_day_25 : decode cX10_day 25 = .ok (.putfield 105, 3) := by decide +kernel
theorem dX10_day_28 : decode cX10_day 28 = .ok (.iconst 1, 1) := by decide +kernel
theorem dX10_day_29 : decode cX10_day 29 = .ok (.ireturn, 1) := by decide +kernel
set_option maxRecDepth 20000 in
theorem ggX10_transfer_X2_has : GoodIn wsX10_transfer wsX2_has := goodIn_r _ [7, 8, 9, 10, 11, 49, 50, 51, 52, 53, 54, 55, 56, 57, 58, 59, 60] (by decide +kernel) (by decide +kernel)
set_option maxRecDepth 20000 in
theorem gX10_transfer_X2_has : GoodIn wsX10_transfer (wsV RX10 109 RX2 yX2_has wsX2_has) := goodIn_app (goodIn_of _ (by decide +kernel)) ggX10_transfer_X2_has
set_option maxRecDepth 20000 in
theorem ggX10_transfer_X4_has : GoodIn wsX10_transfer wsX4_has := goodIn_r _ [16, 17, 9, 10, 11, 61, 62, 63, 64, 65] (by decide +kernel) (by decide +kernel)
set_option maxRecDepth 20000 in
theorem gX10_transfer_X4_has : GoodIn wsX10_transfer (wsV RX10 98 RX4 yX4_has wsX4_has) := goodIn_app (goodIn_of _ (by decide +kernel)) ggX10_transfer_X4_has
set_option maxRecDepth 20000 in
theorem ggX10_transfer_X2_ownerOf : GoodIn wsX10_transfer wsX2_ownerOf := goodIn_r _ [21, 22, 23, 4, 5, 6, 7, 8, 9, 10, 11, 49, 50, 51, 52, 53, 54, 55, 56, 57, 58, 59, 60] (by decide +kernel) (by decide +kernel)
set_option maxRecDepth 20000 in
theorem gX10_transfer_X2_ownerOf : GoodIn wsX10_transfer (wsV RX10 110 RX2 yX2_ownerOf wsX2_ownerOf) := goodIn_app (goodIn_of _ (by decide +kernel)) ggX10_transfer_X2_ownerOf
set_option maxRecDepth 20000 in
theorem ggX10_transfer_X2_transfersLeft : GoodIn wsX10_transfer wsX2_transfersLeft := goodIn_r _ [27, 28, 49, 50, 51, 52, 53, 54, 55, 56, 57, 58, 59, 60] (by decide +kernel) (by decide +kernel)
set_option maxRecDepth 20000 in
theorem gX10_transfer_X2_transfersLeft : GoodIn wsX10_transfer (wsV RX10 114 RX2 yX2_transfersLeft wsX2_transfersLeft) := goodIn_app (goodIn_of _ (by decide +kernel)) ggX10_transfer_X2_transfersLeft
set_option maxRecDepth 20000 in
theorem ggX10_transfer_X2_move : GoodIn wsX10_transfer wsX2_move := goodIn_r _ [32, 28, 33, 34, 35, 36, 22, 23, 4, 5, 6, 7, 8, 9, 10, 11, 49, 50, 51, 52, 53, 54, 55, 56, 57, 58, 59, 60] (by decide +kernel) (by decide +kernel)
set_option maxRecDepth 20000 in
theorem gX10_transfer_X2_move : GoodIn wsX10_transfer (wsV RX10 118 RX2 yX2_move wsX2_move) := goodIn_app (goodIn_of _ (by decide +kernel)) ggX10_transfer_X2_move
theorem dX10_transfer_0 : decode cX10_transfer 0 = .ok (.aload_n 0, 1) := by decide +kernel
theorem dX10_transfer_1 : decode cX10_transfer 1 = .ok (.getfield 19, 3) := by decide +kernel
theorem dX10_transfer_4 : decode cX10_transfer 4 = .ok (.iload_n 1, 1) := by decide +kernel
theorem dX10_transfer_5 : decode cX10_transfer 5 = .ok (.invokevirtual 109, 3) := by decide +kernel
theorem dX10_transfer_8 : decode cX10_transfer 8 = .ok (.ifCond .eq 37, 3) := by decide +kernel
theorem dX10_transfer_11 : decode cX10_transfer 11 = .ok (.aload_n 0, 1) := by decide +kernel
theorem dX10_transfer_12 : decode cX10_transfer 12 = .ok (.getfield 10, 3) := by decide +kernel
theorem dX10_transfer_15 : decode cX10_transfer 15 = .ok (.iload_n 2, 1) := by decide +kernel
theorem dX10_transfer_16 : decode cX10_transfer 16 = .ok (.invokevirtual 98, 3) := by decide +kernel
theorem dX10_transfer_19 : decode cX10_transfer 19 = .ok (.ifCond .eq 26, 3) := by decide +kernel
theorem dX10_transfer_22 : decode cX10_transfer 22 = .ok (.aload_n 0, 1) := by decide +kernel
theorem dX10_transfer_23 : decode cX10_transfer 23 = .ok (.getfield 19, 3) := by decide +kernel
theorem dX10_transfer_26 : decode cX10_transfer 26 = .ok (.iload_n 1, 1) := by decide +kernel
theorem dX10_transfer_27 : decode cX10_transfer 27 = .ok (.invokevirtual 110, 3) := by decide +kernel
theorem dX10_transfer_30 : decode cX10_transfer 30 = .ok (.iload_n 2, 1) := by decide +kernel
theorem dX10_transfer_31 : decode cX10_transfer 31 = .ok (.if_icmp .eq 14, 3) := by decide +kernel
theorem dX10_transfer_34 : decode cX10_transfer 34 = .ok (.aload_n 0, 1) := by decide +kernel
theorem dX10_transfer_35 : decode cX10_transfer 35 = .ok (.getfield 19, 3) := by decide +kernel
theorem dX10_transfer_38 : decode cX10_transfer 38 = .ok (.invokevirtual 114, 3) := by decide +kernel
theorem dX10_transfer_41 : decode cX10_transfer 41 = .ok (.iconst 1, 1) := by decide +kernel
theorem dX10_transfer_42 : decode cX10_transfer 42 = .ok (.if_icmp .ge 5, 3) := by decide +kernel
theorem dX10_transfer_45 : decode cX10_transfer 45 = .ok (.iconst 0, 1) := by decide +kernel
theorem dX10_transfer_46 : decode cX10_transfer 46 = .ok (.ireturn, 1) := by decide +kernel
theorem dX10_transfer_47 : decode cX10_transfer 47 = .ok (.aload_n 0, 1) := by decide +kernel
theorem dX10_transfer_48 : decode cX10_transfer 48 = .ok (.getfield 19, 3) := by decide +kernel
theorem dX10_transfer_51 : decode cX10_transfer 51 = .ok (.iload_n 1, 1) := by decide +kernel
theorem dX10_transfer_52 : decode cX10_transfer 52 = .ok (.iload_n 2, 1) := by decide +kernel
theorem dX10_transfer_53 : decode cX10_transfer 53 = .ok (.invokevirtual 118, 3) := by decide +kernel
theorem dX10_transfer_56 : decode cX10_transfer 56 = .ok (.iconst 1, 1) := by decide +kernel
theorem dX10_transfer_57 : decode cX10_transfer 57 = .ok (.ireturn, 1) := by decide +kernel
set_option maxRecDepth 20000 in
theorem ggX10_feed_X8_room : GoodIn wsX10_feed wsX8_room := goodIn_r _ [6, 7, 25, 26] (by decide +kernel) (by decide +kernel)
set_option maxRecDepth 20000 in
theorem gX10_feed_X8_room : GoodIn wsX10_feed (wsV RX10 122 RX8 yX8_room wsX8_room) := goodIn_app (goodIn_of _ (by decide +kernel)) ggX10_feed_X8_room
set_option maxRecDepth 20000 in
theorem ggX10_feed_X8_append : GoodIn wsX10_feed wsX8_append := goodIn_r _ [11, 7, 12, 25, 26] (by decide +kernel) (by decide +kernel)
set_option maxRecDepth 20000 in
theorem gX10_feed_X8_append : GoodIn wsX10_feed (wsV RX10 125 RX8 yX8_append wsX8_append) := goodIn_app (goodIn_of _ (by decide +kernel)) ggX10_feed_X8_append
theorem dX10_feed_0 : decode cX10_feed 0 = .ok (.aload_n 0, 1) := by decide +kernel
theorem dX10_feed_1 : decode cX10_feed 1 = .ok (.getfield 26, 3) := by decide +kernel
theorem dX10_feed_4 : decode cX10_feed 4 = .ok (.invokevirtual 122, 3) := by decide +kernel
theorem dX10_feed_7 : decode cX10_feed 7 = .ok (.bipush 20, 2) := by decide +kernel
theorem dX10_feed_9 : decode cX10_feed 9 = .ok (.if_icmp .ge 5, 3) := by decide +kernel
theorem dX10_feed_12 : decode cX10_feed 12 = .ok (.iconst (-1), 1) := by decide +kernel
theorem dX10_feed_13 : decode cX10_feed 13 = .ok (.ireturn, 1) := by decide +kernel
theorem dX10_feed_14 : decode cX10_feed 14 = .ok (.aload_n 0, 1) := by decide +kernel
theorem dX10_feed_15 : decode cX10_feed 15 = .ok (.getfield 26, 3) := by decide +kernel
theorem dX10_feed_18 : decode cX10_feed 18 = .ok (.iload_n 1, 1) := by decide +kernel
theorem dX10_feed_19 : decode cX10_feed 19 = .ok (.invokevirtual 125, 3) := by decide +kernel
theorem dX10_feed_22 : decode cX10_feed 22 = .ok (.aload_n 0, 1) := by decide +kernel
theorem dX10_feed_23 : decode cX10_feed 23 = .ok (.getfield 26, 3) := by decide +kernel
theorem dX10_feed_26 : decode cX10_feed 26 = .ok (.iload_n 2, 1) := by decide +kernel
theorem dX10_feed_27 : decode cX10_feed 27 = .ok (.invokevirtual 125, 3) := by decide +kernel
theorem dX10_feed_30 : decode cX10_feed 30 = .ok (.aload_n 0, 1) := by decide +kernel
theorem dX10_feed_31 : decode cX10_feed 31 = .ok (.getfield 26, 3) := by decide +kernel
theorem dX10_feed_34 : decode cX10_feed 34 = .ok (.iload_n 3, 1) := by decide +kernel
theorem dX10_feed_35 : decode cX10_feed 35 = .ok (.invokevirtual 125, 3) := by decide +kernel
theorem dX10_feed_38 : decode cX10_feed 38 = .ok (.aload_n 0, 1) := by decide +kernel
theorem dX10_feed_39 : decode cX10_feed 39 = .ok (.getfield 26, 3) := by decide +kernel
theorem dX10_feed_42 : decode cX10_feed 42 = .ok (.iload 4, 2) := by decide +kernel
theorem dX10_feed_44 : decode cX10_feed 44 = .ok (.invokevirtual 125, 3) := by decide +kernel
theorem dX10_feed_47 : decode cX10_feed 47 = .ok (.aload_n 0, 1) := by decide +kernel
theorem dX10_feed_48 : decode cX10_feed 48 = .ok (.getfield 26, 3) := by decide +kernel
theorem dX10_feed_51 : decode cX10_feed 51 = .ok (.iload 5, 2) := by decide +kernel
theorem dX10_feed_53 : decode cX10_feed 53 = .ok (.invokevirtual 125, 3) := by decide +kernel
theorem dX10_feed_56 : decode cX10_feed 56 = .ok (.aload_n 0, 1) := by decide +kernel
theorem dX10_feed_57 : decode cX10_feed 57 = .ok (.getfield 26, 3) := by decide +kernel
theorem dX10_feed_60 : decode cX10_feed 60 = .ok (.getfield 129, 3) := by decide +kernel
theorem dX10_feed_63 : decode cX10_feed 63 = .ok (.ireturn, 1) := by decide +kernel
set_option maxRecDepth 20000 in
theorem ggX10_act_X5_readAct : GoodIn wsX10_act wsX5_readAct := goodIn_r _ [9, 10, 11, 12, 13, 14, 15, 16, 17, 18, 19, 20, 21, 22, 23, 24, 25, 26, 27, 28, 29, 30, 31, 32, 33, 34, 35, 36, 37, 38, 8, 39, 40, 41, 42, 43, 44, 45, 46, 47, 48, 49, 50, 51, 52, 53, 54, 55, 56, 57, 58, 59, 60, 61, 62, 63, 64, 65, 66, 67, 68, 69, 70, 71, 72, 73, 74, 75, 76, 77, 78, 79, 80, 81, 82, 83, 84, 85, 86, 87, 88, 89, 90, 91, 92, 93, 94, 95, 96, 97, 98, 99, 100, 101, 102, 103, 104, 105, 106, 107, 108, 109, 110, 111, 112, 113, 114, 115, 116, 117, 118, 119, 120, 121, 122, 123, 124, 125, 126, 127, 151, 152, 153, 154, 155, 142, 143, 144, 145, 146, 147, 148, 149, 150] (by decide +kernel) (by decide +kernel)
set_option maxRecDepth 20000 in
theorem gX10_act_X5_readAct : GoodIn wsX10_act (wsV RX10 132 RX5 yX5_readAct wsX5_readAct) := goodIn_app (goodIn_of _ (by decide +kernel)) ggX10_act_X5_readAct
theorem dX10_act_0 : decode cX10_act 0 = .ok (.iload_n 1, 1) := by decide +kernel
theorem dX10_act_1 : decode cX10_act 1 = .ok (.ifCond .lt 14, 3) := by decide +kernel
theorem dX10_act_4 : decode cX10_act 4 = .ok (.iload_n 1, 1) := by decide +kernel
theorem dX10_act_5 : decode cX10_act 5 = .ok (.aload_n 0, 1) := by decide +kernel
theorem dX10_act_6 : decode cX10_act 6 = .ok (.getfield 26, 3) := by decide +kernel
theorem dX10_act_9 : decode cX10_act 9 = .ok (.getfield 129, 3) := by decide +kernel
theorem dX10_act_12 : decode cX10_act 12 = .ok (.if_icmp .le 6, 3) := by decide +kernel
theorem dX10_act_15 : decode cX10_act 15 = .ok (.bipush (-2), 2) := by decide +kernel
theorem dX10_act_17 : decode cX10_act 17 = .ok (.ireturn, 1) := by decide +kernel
theorem dX10_act_18 : decode cX10_act 18 = .ok (.aload_n 0, 1) := by decide +kernel
theorem dX10_act_19 : decode cX10_act 19 = .ok (.getfield 39, 3) := by decide +kernel
theorem dX10_act_22 : decode cX10_act 22 = .ok (.iload_n 1, 1) := by decide +kernel
theorem dX10_act_23 : decode cX10_act 23 = .ok (.aload_n 0, 1) := by decide +kernel
theorem dX10_act_24 : decode cX10_act 24 = .ok (.getfield 84, 3) := by decide +kernel
theorem dX10_act_27 : decode cX10_act 27 = .ok (.invokevirtual 132, 3) := by decide +kernel
theorem dX10_act_30 : decode cX10_act 30 = .ok (.istore_n 2, 1) := by decide +kernel
theorem dX10_act_31 : decode cX10_act 31 = .ok (.aload_n 0, 1) := by decide +kernel
theorem dX10_act_32 : decode cX10_act 32 = .ok (.getfield 26, 3) := by decide +kernel
theorem dX10_act_35 : decode cX10_act 35 = .ok (.iconst 0, 1) := by decide +kernel
theorem dX10_act_36 : decode cX10_act 36 = .ok (.putfield 129, 3) := by decide +kernel
theorem dX10_act_39 : decode cX10_act 39 = .ok (.iload_n 2, 1) := by decide +kernel
theorem dX10_act_40 : decode cX10_act 40 = .ok (.ifCond .ne 5, 3) := by decide +kernel
theorem dX10_act_43 : decode cX10_act 43 = .ok (.iconst (-1), 1) := by decide +kernel
theorem dX10_act_44 : decode cX10_act 44 = .ok (.ireturn, 1) := by decide +kernel
theorem dX10_act_45 : decode cX10_act 45 = .ok (.aload_n 0, 1) := by decide +kernel
theorem dX10_act_46 : decode cX10_act 46 = .ok (.getfield 80, 3) := by decide +kernel
theorem dX10_act_49 : decode cX10_act 49 = .ok (.astore_n 3, 1) := by decide +kernel
theorem dX10_act_50 : decode cX10_act 50 = .ok (.aload_n 0, 1) := by decide +kernel
theorem dX10_act_51 : decode cX10_act 51 = .ok (.aload_n 0, 1) := by decide +kernel
theorem dX10_act_52 : decode cX10_act 52 = .ok (.getfield 84, 3) := by decide +kernel
theorem dX10_act_55 : decode cX10_act 55 = .ok (.putfield 80, 3) := by decide +kernel
theorem dX10_act_58 : decode cX10_act 58 = .ok (.aload_n 0, 1) := by decide +kernel
theorem dX10_act_59 : decode cX10_act 59 = .ok (.aload_n 3, 1) := by decide +kernel
theorem dX10_act_60 : decode cX10_act 60 = .ok (.putfield 84, 3) := by decide +kernel
theorem dX10_act_63 : decode cX10_act 63 = .ok (.aload_n 0, 1) := by decide +kernel
theorem dX10_act_64 : decode cX10_act 64 = .ok (.getfield 80, 3) := by decide +kernel
theorem dX10_act_67 : decode cX10_act 67 = .ok (.getfield 136, 3) := by decide +kernel
theorem dX10_act_70 : decode cX10_act 70 = .ok (.ireturn, 1) := by decide +kernel
theorem dX10_fault_0 : decode cX10_fault 0 = .ok (.aload_n 0, 1) := by decide +kernel
theorem dX10_fault_1 : decode cX10_fault 1 = .ok (.getfield 39, 3) := by decide +kernel
theorem dX10_fault_4 : decode cX10_fault 4 = .ok (.getfield 139, 3) := by decide +kernel
theorem dX10_fault_7 : decode cX10_fault 7 = .ok (.ireturn, 1) := by decide +kernel
set_option maxRecDepth 20000 in
theorem ggX10_told_X2_has : GoodIn wsX10_told wsX2_has := goodIn_r _ [10, 11, 12, 13, 14, 135, 136, 137, 138, 139, 140, 141, 142, 143, 144, 145, 146] (by decide +kernel) (by decide +kernel)
set_option maxRecDepth 20000 in
theorem gX10_told_X2_has : GoodIn wsX10_told (wsV RX10 109 RX2 yX2_has wsX2_has) := goodIn_app (goodIn_of _ (by decide +kernel)) ggX10_told_X2_has
set_option maxRecDepth 20000 in
theorem ggX10_told_X2_placeOf : GoodIn wsX10_told wsX2_placeOf := goodIn_r _ [18, 19, 20, 7, 8, 9, 10, 11, 12, 13, 14, 135, 136, 137, 138, 139, 140, 141, 142, 143, 144, 145, 146] (by decide +kernel) (by decide +kernel)
set_option maxRecDepth 20000 in
theorem gX10_told_X2_placeOf : GoodIn wsX10_told (wsV RX10 142 RX2 yX2_placeOf wsX2_placeOf) := goodIn_app (goodIn_of _ (by decide +kernel)) ggX10_told_X2_placeOf
set_option maxRecDepth 20000 in
theorem ggX10_told_X2_areaOf : GoodIn wsX10_told wsX2_areaOf := goodIn_r _ [24, 25, 20, 7, 8, 9, 10, 11, 12, 13, 14, 135, 136, 137, 138, 139, 140, 141, 142, 143, 144, 145, 146] (by decide +kernel) (by decide +kernel)
set_option maxRecDepth 20000 in
theorem gX10_told_X2_areaOf : GoodIn wsX10_told (wsV RX10 145 RX2 yX2_areaOf wsX2_areaOf) := goodIn_app (goodIn_of _ (by decide +kernel)) ggX10_told_X2_areaOf
set_option maxRecDepth 20000 in
theorem ggX10_told_X2_soilOf : GoodIn wsX10_told wsX2_soilOf := goodIn_r _ [29, 30, 20, 7, 8, 9, 10, 11, 12, 13, 14, 135, 136, 137, 138, 139, 140, 141, 142, 143, 144, 145, 146] (by decide +kernel) (by decide +kernel)
set_option maxRecDepth 20000 in
theorem gX10_told_X2_soilOf : GoodIn wsX10_told (wsV RX10 148 RX2 yX2_soilOf wsX2_soilOf) := goodIn_app (goodIn_of _ (by decide +kernel)) ggX10_told_X2_soilOf
set_option maxRecDepth 20000 in
theorem ggX10_told_X2_cropOf : GoodIn wsX10_told wsX2_cropOf := goodIn_r _ [34, 35, 20, 7, 8, 9, 10, 11, 12, 13, 14, 135, 136, 137, 138, 139, 140, 141, 142, 143, 144, 145, 146] (by decide +kernel) (by decide +kernel)
set_option maxRecDepth 20000 in
theorem gX10_told_X2_cropOf : GoodIn wsX10_told (wsV RX10 151 RX2 yX2_cropOf wsX2_cropOf) := goodIn_app (goodIn_of _ (by decide +kernel)) ggX10_told_X2_cropOf
set_option maxRecDepth 20000 in
theorem ggX10_told_X2_ownerOf : GoodIn wsX10_told wsX2_ownerOf := goodIn_r _ [39, 40, 20, 7, 8, 9, 10, 11, 12, 13, 14, 135, 136, 137, 138, 139, 140, 141, 142, 143, 144, 145, 146] (by decide +kernel) (by decide +kernel)
set_option maxRecDepth 20000 in
theorem gX10_told_X2_ownerOf : GoodIn wsX10_told (wsV RX10 110 RX2 yX2_ownerOf wsX2_ownerOf) := goodIn_app (goodIn_of _ (by decide +kernel)) ggX10_told_X2_ownerOf
set_option maxRecDepth 20000 in
theorem ggX10_told_X2_standardOf : GoodIn wsX10_told wsX2_standardOf := goodIn_r _ [44, 45, 22, 23, 9, 24, 25, 20, 7, 8, 10, 11, 12, 13, 14, 46, 27, 28, 29, 30, 47, 48, 49, 50, 51, 52, 135, 136, 137, 138, 139, 140, 141, 142, 143, 144, 145, 146, 126, 127, 128, 129, 130, 131, 132, 133, 134] (by decide +kernel) (by decide +kernel)
set_option maxRecDepth 20000 in
theorem gX10_told_X2_standardOf : GoodIn wsX10_told (wsV RX10 154 RX2 yX2_standardOf wsX2_standardOf) := goodIn_app (goodIn_of _ (by decide +kernel)) ggX10_told_X2_standardOf
set_option maxRecDepth 20000 in
theorem ggX10_told_X1_countedOwner : GoodIn wsX10_told wsX1_countedOwner := goodIn_r _ [57, 58, 59, 60, 61, 56, 62, 63, 64, 65, 66, 12, 13, 14, 67, 68, 69, 70, 71, 72, 73, 74, 75, 76, 77, 78, 79, 80, 81, 82, 83, 84, 85, 86, 135, 136, 137, 138, 139, 140, 141, 142, 143, 144, 145, 146, 147, 148, 149, 150, 151, 152, 153, 154, 155, 156, 126, 127, 128, 129, 130, 131, 132, 133, 134, 157, 158, 159, 160, 161] (by decide +kernel) (by decide +kernel)
set_option maxRecDepth 20000 in
theorem gX10_told_X1_countedOwner : GoodIn wsX10_told (wsV RX10 158 RX1 yX1_countedOwner wsX1_countedOwner) := goodIn_app (goodIn_of _ (by decide +kernel)) ggX10_told_X1_countedOwner
set_option maxRecDepth 20000 in
theorem ggX10_told_X9_tenantOf : GoodIn wsX10_told wsX9_tenantOf := goodIn_r _ [91, 92, 93, 94, 95, 96, 97, 98, 99, 100, 101, 102, 162, 163, 164, 165] (by decide +kernel) (by decide +kernel)
set_option maxRecDepth 20000 in
theorem gX10_told_X9_tenantOf : GoodIn wsX10_told (wsV RX10 165 RX9 yX9_tenantOf wsX9_tenantOf) := goodIn_app (goodIn_of _ (by decide +kernel)) ggX10_told_X9_tenantOf
set_option maxRecDepth 20000 in
theorem ggX10_told_X3_exempts : GoodIn wsX10_told wsX3_exempts := goodIn_r _ [106, 107, 12, 13, 14, 126, 127, 128, 129, 130, 131, 132, 133, 134] (by decide +kernel) (by decide +kernel)
set_option maxRecDepth 20000 in
theorem gX10_told_X3_exempts : GoodIn wsX10_told (wsV RX10 169 RX3 yX3_exempts wsX3_exempts) := goodIn_app (goodIn_of _ (by decide +kernel)) ggX10_told_X3_exempts
set_option maxRecDepth 20000 in
theorem ggX10_told_X2_transfersOf : GoodIn wsX10_told wsX2_transfersOf := goodIn_r _ [111, 112, 113, 135, 136, 137, 138, 139, 140, 141, 142, 143, 144, 145, 146] (by decide +kernel) (by decide +kernel)
set_option maxRecDepth 20000 in
theorem gX10_told_X2_transfersOf : GoodIn wsX10_told (wsV RX10 172 RX2 yX2_transfersOf wsX2_transfersOf) := goodIn_app (goodIn_of _ (by decide +kernel)) ggX10_told_X2_transfersOf
theorem dX10_told_0 : decode cX10_told 0 = .ok (.aload_n 0, 1) := by decide +kernel
theorem dX10_told_1 : decode cX10_told 1 = .ok (.getfield 19, 3) := by decide +kernel
theorem dX10_told_4 : decode cX10_told 4 = .ok (.iload_n 1, 1) := by decide +kernel
theorem dX10_told_5 : decode cX10_told 5 = .ok (.invokevirtual 109, 3) := by decide +kernel
theorem dX10_told_8 : decode cX10_told 8 = .ok (.ifCond .ne 5, 3) := by decide +kernel
theorem dX10_told_11 : decode cX10_told 11 = .ok (.iconst (-1), 1) := by decide +kernel
theorem dX10_told_12 : decode cX10_told 12 = .ok (.ireturn, 1) := by decide +kernel
theorem dX10_told_13 : decode cX10_told 13 = .ok (.iload_n 2, 1) := by decide +kernel
theorem dX10_told_14 : decode cX10_told 14 = .ok (.tableswitch 190 0 9 #[54, 63, 72, 81, 90, 99, 112, 133, 157, 181], 54) := by decide +kernel
theorem dX10_told_68 : decode cX10_told 68 = .ok (.aload_n 0, 1) := by decide +kernel
theorem dX10_told_69 : decode cX10_told 69 = .ok (.getfield 19, 3) := by decide +kernel
theorem dX10_told_72 : decode cX10_told 72 = .ok (.iload_n 1, 1) := by decide +kernel
theorem dX10_told_73 : decode cX10_told 73 = .ok (.invokevirtual 142, 3) := by decide +kernel
theorem dX10_told_76 : decode cX10_told 76 = .ok (.ireturn, 1) := by decide +kernel
theorem dX10_told_77 : decode cX10_told 77 = .ok (.aload_n 0, 1) := by decide +kernel
theorem dX10_told_78 : decode cX10_told 78 = .ok (.getfield 19, 3) := by decide +kernel
theorem dX10_told_81 : decode cX10_told 81 = .ok (.iload_n 1, 1) := by decide +kernel
theorem dX10_told_82 : decode cX10_told 82 = .ok (.invokevirtual 145, 3) := by decide +kernel
theorem dX10_told_85 : decode cX10_told 85 = .ok (.ireturn, 1) := by decide +kernel
theorem dX10_told_86 : decode cX10_told 86 = .ok (.aload_n 0, 1) := by decide +kernel
theorem dX10_told_87 : decode cX10_told 87 = .ok (.getfield 19, 3) := by decide +kernel
theorem dX10_told_90 : decode cX10_told 90 = .ok (.iload_n 1, 1) := by decide +kernel
theorem dX10_told_91 : decode cX10_told 91 = .ok (.invokevirtual 148, 3) := by decide +kernel
theorem dX10_told_94 : decode cX10_told 94 = .ok (.ireturn, 1) := by decide +kernel
theorem dX10_told_95 : decode cX10_told 95 = .ok (.aload_n 0, 1) := by decide +kernel
theorem dX10_told_96 : decode cX10_told 96 = .ok (.getfield 19, 3) := by decide +kernel
theorem dX10_told_99 : decode cX10_told 99 = .ok (.iload_n 1, 1) := by decide +kernel
theorem dX10_told_100 : decode cX10_told 100 = .ok (.invokevirtual 151, 3) := by decide +kernel
theorem dX10_told_103 : decode cX10_told 103 = .ok (.ireturn, 1) := by decide +kernel
theorem dX10_told_104 : decode cX10_told 104 = .ok (.aload_n 0, 1) := by decide +kernel
theorem dX10_told_105 : decode cX10_told 105 = .ok (.getfield 19, 3) := by decide +kernel
theorem dX10_told_108 : decode cX10_told 108 = .ok (.iload_n 1, 1) := by decide +kernel
theorem dX10_told_109 : decode cX10_told 109 = .ok (.invokevirtual 110, 3) := by decide +kernel
theorem dX10_told_112 : decode cX10_told 112 = .ok (.ireturn, 1) := by decide +kernel
theorem dX10_told_113 : decode cX10_told 113 = .ok (.aload_n 0, 1) := by decide +kernel
theorem dX10_told_114 : decode cX10_told 114 = .ok (.getfield 19, 3) := by decide +kernel
theorem dX10_told_117 : decode cX10_told 117 = .ok (.iload_n 1, 1) := by decide +kernel
theorem dX10_told_118 : decode cX10_told 118 = .ok (.aload_n 0, 1) := by decide +kernel
theorem dX10_told_119 : decode cX10_told 119 = .ok (.getfield 80, 3) := by decide +kernel
theorem dX10_told_122 : decode cX10_told 122 = .ok (.invokevirtual 154, 3) := by decide +kernel
theorem dX10_told_125 : decode cX10_told 125 = .ok (.ireturn, 1) := by decide +kernel
theorem dX10_told_126 : decode cX10_told 126 = .ok (.aload_n 0, 1) := by decide +kernel
theorem dX10_told_127 : decode cX10_told 127 = .ok (.getfield 46, 3) := by decide +kernel
theorem dX10_told_130 : decode cX10_told 130 = .ok (.iload_n 1, 1) := by decide +kernel
theorem dX10_told_131 : decode cX10_told 131 = .ok (.aload_n 0, 1) := by decide +kernel
theorem dX10_told_132 : decode cX10_told 132 = .ok (.getfield 19, 3) := by decide +kernel
theorem dX10_told_135 : decode cX10_told 135 = .ok (.aload_n 0, 1) := by decide +kernel
theorem dX10_told_136 : decode cX10_told 136 = .ok (.getfield 10, 3) := by decide +kernel
theorem dX10_told_139 : decode cX10_told 139 = .ok (.aload_n 0, 1) := by decide +kernel
theorem dX10_told_140 : decode cX10_told 140 = .ok (.getfield 80, 3) := by decide +kernel
theorem dX10_told_143 : decode cX10_told 143 = .ok (.invokevirtual 158, 3) := by decide +kernel
theorem dX10_told_146 : decode cX10_told 146 = .ok (.ireturn, 1) := by decide +kernel
theorem dX10_told_147 : decode cX10_told 147 = .ok (.aload_n 0, 1) := by decide +kernel
theorem dX10_told_148 : decode cX10_told 148 = .ok (.getfield 53, 3) := by decide +kernel
theorem dX10_told_151 : decode cX10_told 151 = .ok (.iload_n 1, 1) := by decide +kernel
theorem dX10_told_152 : decode cX10_told 152 = .ok (.aload_n 0, 1) := by decide +kernel
theorem dX10_told_153 : decode cX10_told 153 = .ok (.getfield 19, 3) := by decide +kernel
theorem dX10_told_156 : decode cX10_told 156 = .ok (.iload_n 1, 1) := by decide +kernel
theorem dX10_told_157 : decode cX10_told 157 = .ok (.invokevirtual 110, 3) := by decide +kernel
theorem dX10_told_160 : decode cX10_told 160 = .ok (.aload_n 0, 1) := by decide +kernel
theorem dX10_told_161 : decode cX10_told 161 = .ok (.getfield 80, 3) := by decide +kernel
theorem dX10_told_164 : decode cX10_told 164 = .ok (.getfield 162, 3) := by decide +kernel
theorem dX10_told_167 : decode cX10_told 167 = .ok (.invokevirtual 165, 3) := by decide +kernel
theorem dX10_told_170 : decode cX10_told 170 = .ok (.ireturn, 1) := by decide +kernel
theorem dX10_told_171 : decode cX10_told 171 = .ok (.aload_n 0, 1) := by decide +kernel
theorem dX10_told_172 : decode cX10_told 172 = .ok (.getfield 80, 3) := by decide +kernel
theorem dX10_told_175 : decode cX10_told 175 = .ok (.aload_n 0, 1) := by decide +kernel
theorem dX10_told_176 : decode cX10_told 176 = .ok (.getfield 19, 3) := by decide +kernel
theorem dX10_told_179 : decode cX10_told 179 = .ok (.iload_n 1, 1) := by decide +kernel
theorem dX10_told_180 : decode cX10_told 180 = .ok (.invokevirtual 151, 3) := by decide +kernel
theorem dX10_told_183 : decode cX10_told 183 = .ok (.invokevirtual 169, 3) := by decide +kernel
theorem dX10_told_186 : decode cX10_told 186 = .ok (.ifCond .eq 7, 3) := by decide +kernel
theorem dX10_told_189 : decode cX10_told 189 = .ok (.iconst 1, 1) := by decide +kernel
theorem dX10_told_190 : decode cX10_told 190 = .ok (.goto 4, 3) := by decide +kernel
theorem dX10_told_193 : decode cX10_told 193 = .ok (.iconst 0, 1) := by decide +kernel
theorem dX10_told_194 : decode cX10_told 194 = .ok (.ireturn, 1) := by decide +kernel
theorem dX10_told_195 : decode cX10_told 195 = .ok (.aload_n 0, 1) := by decide +kernel
theorem dX10_told_196 : decode cX10_told 196 = .ok (.getfield 19, 3) := by decide +kernel
theorem dX10_told_199 : decode cX10_told 199 = .ok (.iload_n 1, 1) := by decide +kernel
theorem dX10_told_200 : decode cX10_told 200 = .ok (.invokevirtual 172, 3) := by decide +kernel
theorem dX10_told_203 : decode cX10_told 203 = .ok (.ireturn, 1) := by decide +kernel
theorem dX10_told_204 : decode cX10_told 204 = .ok (.iconst (-1), 1) := by decide +kernel
theorem dX10_told_205 : decode cX10_told 205 = .ok (.ireturn, 1) := by decide +kernel
set_option maxRecDepth 20000 in
theorem ggX10_owned_X2_has : GoodIn wsX10_owned wsX2_has := goodIn_r _ [6, 7, 8, 9, 10, 33, 34, 35, 36, 37, 38, 39, 40, 41, 42, 43, 44] (by decide +kernel) (by decide +kernel)
set_option maxRecDepth 20000 in
theorem gX10_owned_X2_has : GoodIn wsX10_owned (wsV RX10 109 RX2 yX2_has wsX2_has) := goodIn_app (goodIn_of _ (by decide +kernel)) ggX10_owned_X2_has
set_option maxRecDepth 20000 in
theorem ggX10_owned_X2_ownerAsDayEnded : GoodIn wsX10_owned wsX2_ownerAsDayEnded := goodIn_r _ [14, 15, 16, 17, 18, 19, 20, 3, 4, 5, 6, 7, 8, 9, 10, 33, 34, 35, 36, 37, 38, 39, 40, 41, 42, 43, 44] (by decide +kernel) (by decide +kernel)
set_option maxRecDepth 20000 in
theorem gX10_owned_X2_ownerAsDayEnded : GoodIn wsX10_owned (wsV RX10 175 RX2 yX2_ownerAsDayEnded wsX2_ownerAsDayEnded) := goodIn_app (goodIn_of _ (by decide +kernel)) ggX10_owned_X2_ownerAsDayEnded
theorem dX10_owned_0 : decode cX10_owned 0 = .ok (.aload_n 0, 1) := by decide +kernel
theorem dX10_owned_1 : decode cX10_owned 1 = .ok (.getfield 19, 3) := by decide +kernel
theorem dX10_owned_4 : decode cX10_owned 4 = .ok (.iload_n 1, 1) := by decide +kernel
theorem dX10_owned_5 : decode cX10_owned 5 = .ok (.invokevirtual 109, 3) := by decide +kernel
theorem dX10_owned_8 : decode cX10_owned 8 = .ok (.ifCond .eq 14, 3) := by decide +kernel
theorem dX10_owned_11 : decode cX10_owned 11 = .ok (.iload_n 2, 1) := by decide +kernel
theorem dX10_owned_12 : decode cX10_owned 12 = .ok (.ifCond .lt 10, 3) := by decide +kernel
theorem dX10_owned_15 : decode cX10_owned 15 = .ok (.iload_n 2, 1) := by decide +kernel
theorem dX10_owned_16 : decode cX10_owned 16 = .ok (.sipush 1000, 3) := by decide +kernel
theorem dX10_owned_19 : decode cX10_owned 19 = .ok (.if_icmp .le 5, 3) := by decide +kernel
theorem dX10_owned_22 : decode cX10_owned 22 = .ok (.iconst (-1), 1) := by decide +kernel
theorem dX10_owned_23 : decode cX10_owned 23 = .ok (.ireturn, 1) := by decide +kernel
theorem dX10_owned_24 : decode cX10_owned 24 = .ok (.aload_n 0, 1) := by decide +kernel
theorem dX10_owned_25 : decode cX10_owned 25 = .ok (.getfield 19, 3) := by decide +kernel
theorem dX10_owned_28 : decode cX10_owned 28 = .ok (.iload_n 1, 1) := by decide +kernel
theorem dX10_owned_29 : decode cX10_owned 29 = .ok (.iload_n 2, 1) := by decide +kernel
theorem dX10_owned_30 : decode cX10_owned 30 = .ok (.invokevirtual 175, 3) := by decide +kernel
theorem dX10_owned_33 : decode cX10_owned 33 = .ok (.ireturn, 1) := by decide +kernel
set_option maxRecDepth 20000 in
theorem ggX10_house_X10_isBelow : GoodIn wsX10_house wsX10_isBelow := goodIn_r _ [8] (by decide +kernel) (by decide +kernel)
set_option maxRecDepth 20000 in
theorem gX10_house_X10_isBelow : GoodIn wsX10_house (va_wsS RX10 87 yX10_isBelow wsX10_isBelow) := goodIn_app (goodIn_of _ (by decide +kernel)) ggX10_house_X10_isBelow
set_option maxRecDepth 20000 in
theorem ggX10_house_X1_gather : GoodIn wsX10_house wsX1_gather := goodIn_r _ [13, 14, 15, 16, 17, 18, 19, 20, 21, 22, 12, 23, 24, 25, 26, 27, 6, 7, 8, 28, 29, 30, 31, 32, 33, 34, 35, 36, 37, 38, 39, 40, 41, 42, 43, 44, 45, 46, 47, 48, 49, 50, 51, 52, 53, 54, 55, 56, 57, 58, 59, 60, 61, 62, 63, 64, 65, 66, 67, 68, 69, 70, 71, 72, 73, 74, 75, 76, 77, 78, 79, 80, 81, 82, 83, 84, 85, 86, 87, 88, 89, 90, 91, 92, 93, 111, 112, 113, 114, 115, 116, 117, 118, 119, 120, 121, 122, 123, 124, 125, 126, 127, 128, 129, 130, 131, 132, 133, 134, 135, 136, 137, 138, 139, 140, 141, 142, 143, 144, 145, 146] (by decide +kernel) (by decide +kernel)
set_option maxRecDepth 20000 in
theorem gX10_house_X1_gather : GoodIn wsX10_house (wsV RX10 178 RX1 yX1_gather wsX1_gather) := goodIn_app (goodIn_of _ (by decide +kernel)) ggX10_house_X1_gather
set_option maxRecDepth 20000 in
theorem ggX10_house_X1_above : GoodIn wsX10_house wsX1_above := goodIn_r _ [97, 15, 19, 98, 91, 92, 93, 111, 112, 113, 114, 115, 116, 117, 118, 119, 120] (by decide +kernel) (by decide +kernel)
set_option maxRecDepth 20000 in
theorem gX10_house_X1_above : GoodIn wsX10_house (wsV RX10 191 RX1 yX1_above wsX1_above) := goodIn_app (goodIn_of _ (by decide +kernel)) ggX10_house_X1_above
theorem dX10_house_0 : decode cX10_house 0 = .ok (.iload_n 1, 1) := by decide +kernel
theorem dX10_house_1 : decode cX10_house 1 = .ok (.bipush 20, 2) := by decide +kernel
theorem dX10_house_3 : decode cX10_house 3 = .ok (.invokestatic 87, 3) := by decide +kernel
theorem dX10_house_6 : decode cX10_house 6 = .ok (.ifCond .ne 5, 3) := by decide +kernel
theorem dX10_house_9 : decode cX10_house 9 = .ok (.iconst (-1), 1) := by decide +kernel
theorem dX10_house_10 : decode cX10_house 10 = .ok (.ireturn, 1) := by decide +kernel
theorem dX10_house_11 : decode cX10_house 11 = .ok (.aload_n 0, 1) := by decide +kernel
theorem dX10_house_12 : decode cX10_house 12 = .ok (.getfield 46, 3) := by decide +kernel
theorem dX10_house_15 : decode cX10_house 15 = .ok (.iload_n 1, 1) := by decide +kernel
theorem dX10_house_16 : decode cX10_house 16 = .ok (.aload_n 0, 1) := by decide +kernel
theorem dX10_house_17 : decode cX10_house 17 = .ok (.getfield 19, 3) := by decide +kernel
theorem dX10_house_20 : decode cX10_house 20 = .ok (.aload_n 0, 1) := by decide +kernel
theorem dX10_house_21 : decode cX10_house 21 = .ok (.getfield 10, 3) := by decide +kernel
theorem dX10_house_24 : decode cX10_house 24 = .ok (.aload_n 0, 1) := by decide +kernel
theorem dX10_house_25 : decode cX10_house 25 = .ok (.getfield 80, 3) := by decide +kernel
theorem dX10_house_28 : decode cX10_house 28 = .ok (.invokevirtual 178, 3) := by decide +kernel
theorem dX10_house_31 : decode cX10_house 31 = .ok (.iload_n 2, 1) := by decide +kernel
theorem dX10_house_32 : decode cX10_house 32 = .ok (.tableswitch 76 0 4 #[36, 44, 52, 60, 68], 36) := by decide +kernel
theorem dX10_house_68 : decode cX10_house 68 = .ok (.aload_n 0, 1) := by decide +kernel
theorem dX10_house_69 : decode cX10_house 69 = .ok (.getfield 46, 3) := by decide +kernel
theorem dX10_house_72 : decode cX10_house 72 = .ok (.getfield 182, 3) := by decide +kernel
theorem dX10_house_75 : decode cX10_house 75 = .ok (.ireturn, 1) := by decide +kernel
theorem dX10_house_76 : decode cX10_house 76 = .ok (.aload_n 0, 1) := by decide +kernel
theorem dX10_house_77 : decode cX10_house 77 = .ok (.getfield 46, 3) := by decide +kernel
theorem dX10_house_80 : decode cX10_house 80 = .ok (.getfield 185, 3) := by decide +kernel
theorem dX10_house_83 : decode cX10_house 83 = .ok (.ireturn, 1) := by decide +kernel
theorem dX10_house_84 : decode cX10_house 84 = .ok (.aload_n 0, 1) := by decide +kernel
theorem dX10_house_85 : decode cX10_house 85 = .ok (.getfield 46, 3) := by decide +kernel
theorem dX10_house_88 : decode cX10_house 88 = .ok (.getfield 188, 3) := by decide +kernel
theorem dX10_house_91 : decode cX10_house 91 = .ok (.ireturn, 1) := by decide +kernel
theorem dX10_house_92 : decode cX10_house 92 = .ok (.aload_n 0, 1) := by decide +kernel
theorem dX10_house_93 : decode cX10_house 93 = .ok (.getfield 46, 3) := by decide +kernel
theorem dX10_house_96 : decode cX10_house 96 = .ok (.invokevirtual 191, 3) := by decide +kernel
theorem dX10_house_99 : decode cX10_house 99 = .ok (.ireturn, 1) := by decide +kernel
theorem dX10_house_100 : decode cX10_house 100 = .ok (.aload_n 0, 1) := by decide +kernel
theorem dX10_house_101 : decode cX10_house 101 = .ok (.getfield 46, 3) := by decide +kernel
theorem dX10_house_104 : decode cX10_house 104 = .ok (.getfield 194, 3) := by decide +kernel
theorem dX10_house_107 : decode cX10_house 107 = .ok (.ireturn, 1) := by decide +kernel
theorem dX10_house_108 : decode cX10_house 108 = .ok (.iconst (-1), 1) := by decide +kernel
theorem dX10_house_109 : decode cX10_house 109 = .ok (.ireturn, 1) := by decide +kernel
set_option maxRecDepth 20000 in
theorem ggX10_kept_X10_isBelow : GoodIn wsX10_kept wsX10_isBelow := goodIn_r _ [8] (by decide +kernel) (by decide +kernel)
set_option maxRecDepth 20000 in
theorem gX10_kept_X10_isBelow : GoodIn wsX10_kept (va_wsS RX10 87 yX10_isBelow wsX10_isBelow) := goodIn_app (goodIn_of _ (by decide +kernel)) ggX10_kept_X10_isBelow
set_option maxRecDepth 20000 in
theorem ggX10_kept_X1_gather : GoodIn wsX10_kept wsX1_gather := goodIn_r _ [13, 14, 15, 16, 17, 18, 19, 20, 21, 22, 12, 23, 24, 25, 26, 27, 6, 7, 8, 28, 29, 30, 31, 32, 33, 34, 35, 36, 37, 38, 39, 40, 41, 42, 43, 44, 45, 46, 47, 48, 49, 50, 51, 52, 53, 54, 55, 56, 57, 58, 59, 60, 61, 62, 63, 64, 65, 66, 67, 68, 69, 70, 71, 72, 73, 74, 75, 76, 77, 78, 79, 80, 81, 82, 83, 84, 85, 86, 87, 88, 89, 90, 91, 92, 93, 128, 129, 130, 131, 132, 133, 134, 135, 136, 137, 138, 139, 140, 141, 142, 143, 144, 145, 146, 147, 148, 149, 150, 151, 152, 153, 154, 155, 156, 157, 158, 159, 160, 161, 162, 163] (by decide +kernel) (by decide +kernel)
set_option maxRecDepth 20000 in
theorem gX10_kept_X1_gather : GoodIn wsX10_kept (wsV RX10 178 RX1 yX1_gather wsX1_gather) := goodIn_app (goodIn_of _ (by decide +kernel)) ggX10_kept_X1_gather
set_option maxRecDepth 20000 in
theorem ggX10_kept_X1_choose : GoodIn wsX10_kept wsX1_choose := goodIn_r _ [97, 14, 98, 99, 100, 101, 19, 102, 103, 104, 12, 105, 17, 55, 56, 57, 58, 59, 60, 61, 62, 63, 64, 65, 66, 67, 68, 69, 6, 7, 8, 70, 71, 72, 73, 74, 75, 76, 77, 52, 78, 79, 106, 107, 108, 109, 110, 111, 128, 129, 130, 131, 132, 133, 134, 135, 136, 137, 138, 139, 140, 141, 142, 143, 144, 145, 146, 147, 148, 149, 150, 151, 152, 153, 154, 155, 156, 157, 158] (by decide +kernel) (by decide +kernel)
set_option maxRecDepth 20000 in
theorem gX10_kept_X1_choose : GoodIn wsX10_kept (wsV RX10 197 RX1 yX1_choose wsX1_choose) := goodIn_app (goodIn_of _ (by decide +kernel)) ggX10_kept_X1_choose
set_option maxRecDepth 20000 in
theorem ggX10_kept_X1_keeps : GoodIn wsX10_kept wsX1_keeps := goodIn_r _ [115, 14, 98, 6, 7, 8, 128, 129, 130, 131, 132, 133, 134, 135, 136, 137] (by decide +kernel) (by decide +kernel)
set_option maxRecDepth 20000 in
theorem gX10_kept_X1_keeps : GoodIn wsX10_kept (wsV RX10 204 RX1 yX1_keeps wsX1_keeps) := goodIn_app (goodIn_of _ (by decide +kernel)) ggX10_kept_X1_keeps
theorem dX10_kept_0 : decode cX10_kept 0 = .ok (.iload_n 1, 1) := by decide +kernel
theorem dX10_kept_1 : decode cX10_kept 1 = .ok (.bipush 20, 2) := by decide +kernel
theorem dX10_kept_3 : decode cX10_kept 3 = .ok (.invokestatic 87, 3) := by decide +kernel
theorem dX10_kept_6 : decode cX10_kept 6 = .ok (.ifCond .eq 8, 3) := by decide +kernel
theorem dX10_kept_9 : decode cX10_kept 9 = .ok (.iload_n 2, 1) := by decide +kernel
theorem dX10_kept_10 : decode cX10_kept 10 = .ok (.iconst (-1), 1) := by decide +kernel
theorem dX10_kept_11 : decode cX10_kept 11 = .ok (.if_icmp .ge 5, 3) := by decide +kernel
theorem dX10_kept_14 : decode cX10_kept 14 = .ok (.iconst (-1), 1) := by decide +kernel
theorem dX10_kept_15 : decode cX10_kept 15 = .ok (.ireturn, 1) := by decide +kernel
theorem dX10_kept_16 : decode cX10_kept 16 = .ok (.aload_n 0, 1) := by decide +kernel
theorem dX10_kept_17 : decode cX10_kept 17 = .ok (.getfield 46, 3) := by decide +kernel
theorem dX10_kept_20 : decode cX10_kept 20 = .ok (.iload_n 1, 1) := by decide +kernel
theorem dX10_kept_21 : decode cX10_kept 21 = .ok (.aload_n 0, 1) := by decide +kernel
theorem dX10_kept_22 : decode cX10_kept 22 = .ok (.getfield 19, 3) := by decide +kernel
theorem dX10_kept_25 : decode cX10_kept 25 = .ok (.aload_n 0, 1) := by decide +kernel
theorem dX10_kept_26 : decode cX10_kept 26 = .ok (.getfield 10, 3) := by decide +kernel
theorem dX10_kept_29 : decode cX10_kept 29 = .ok (.aload_n 0, 1) := by decide +kernel
theorem dX10_kept_30 : decode cX10_kept 30 = .ok (.getfield 80, 3) := by decide +kernel
theorem dX10_kept_33 : decode cX10_kept 33 = .ok (.invokevirtual 178, 3) := by decide +kernel
theorem dX10_kept_36 : decode cX10_kept 36 = .ok (.iload_n 2, 1) := by decide +kernel
theorem dX10_kept_37 : decode cX10_kept 37 = .ok (.aload_n 0, 1) := by decide +kernel
theorem dX10_kept_38 : decode cX10_kept 38 = .ok (.getfield 46, 3) := by decide +kernel
theorem dX10_kept_41 : decode cX10_kept 41 = .ok (.getfield 194, 3) := by decide +kernel
theorem dX10_kept_44 : decode cX10_kept 44 = .ok (.if_icmp .ge 21, 3) := by decide +kernel
theorem dX10_kept_47 : decode cX10_kept 47 = .ok (.aload_n 0, 1) := by decide +kernel
theorem dX10_kept_48 : decode cX10_kept 48 = .ok (.getfield 46, 3) := by decide +kernel
theorem dX10_kept_51 : decode cX10_kept 51 = .ok (.aload_n 0, 1) := by decide +kernel
theorem dX10_kept_52 : decode cX10_kept 52 = .ok (.getfield 19, 3) := by decide +kernel
theorem dX10_kept_55 : decode cX10_kept 55 = .ok (.aload_n 0, 1) := by decide +kernel
theorem dX10_kept_56 : decode cX10_kept 56 = .ok (.getfield 80, 3) := by decide +kernel
theorem dX10_kept_59 : decode cX10_kept 59 = .ok (.invokevirtual 197, 3) := by decide +kernel
theorem dX10_kept_62 : decode cX10_kept 62 = .ok (.ifCond .ne 5, 3) := by decide +kernel
theorem dX10_kept_65 : decode cX10_kept 65 = .ok (.iconst (-1), 1) := by decide +kernel
theorem dX10_kept_66 : decode cX10_kept 66 = .ok (.ireturn, 1) := by decide +kernel
theorem dX10_kept_67 : decode cX10_kept 67 = .ok (.iload_n 2, 1) := by decide +kernel
theorem dX10_kept_68 : decode cX10_kept 68 = .ok (.iconst (-1), 1) := by decide +kernel
theorem dX10_kept_69 : decode cX10_kept 69 = .ok (.if_icmp .ne 11, 3) := by decide +kernel
theorem dX10_kept_72 : decode cX10_kept 72 = .ok (.aload_n 0, 1) := by decide +kernel
theorem dX10_kept_73 : decode cX10_kept 73 = .ok (.getfield 46, 3) := by decide +kernel
theorem dX10_kept_76 : decode cX10_kept 76 = .ok (.getfield 201, 3) := by decide +kernel
theorem dX10_kept_79 : decode cX10_kept 79 = .ok (.ireturn, 1) := by decide +kernel
theorem dX10_kept_80 : decode cX10_kept 80 = .ok (.aload_n 0, 1) := by decide +kernel
theorem dX10_kept_81 : decode cX10_kept 81 = .ok (.getfield 46, 3) := by decide +kernel
theorem dX10_kept_84 : decode cX10_kept 84 = .ok (.iload_n 2, 1) := by decide +kernel
theorem dX10_kept_85 : decode cX10_kept 85 = .ok (.invokevirtual 204, 3) := by decide +kernel
theorem dX10_kept_88 : decode cX10_kept 88 = .ok (.ifCond .eq 7, 3) := by decide +kernel
theorem dX10_kept_91 : decode cX10_kept 91 = .ok (.iconst 1, 1) := by decide +kernel
theorem dX10_kept_92 : decode cX10_kept 92 = .ok (.goto 4, 3) := by decide +kernel
theorem dX10_kept_95 : decode cX10_kept 95 = .ok (.iconst 0, 1) := by decide +kernel
theorem dX10_kept_96 : decode cX10_kept 96 = .ok (.ireturn, 1) := by decide +kernel
set_option maxRecDepth 20000 in
theorem ggX10_taken_X10_isBelow : GoodIn wsX10_taken wsX10_isBelow := goodIn_r _ [8] (by decide +kernel) (by decide +kernel)
set_option maxRecDepth 20000 in
theorem gX10_taken_X10_isBelow : GoodIn wsX10_taken (va_wsS RX10 87 yX10_isBelow wsX10_isBelow) := goodIn_app (goodIn_of _ (by decide +kernel)) ggX10_taken_X10_isBelow
set_option maxRecDepth 20000 in
theorem ggX10_taken_X1_gather : GoodIn wsX10_taken wsX1_gather := goodIn_r _ [13, 14, 15, 16, 17, 18, 19, 20, 21, 22, 12, 23, 24, 25, 26, 27, 6, 7, 8, 28, 29, 30, 31, 32, 33, 34, 35, 36, 37, 38, 39, 40, 41, 42, 43, 44, 45, 46, 47, 48, 49, 50, 51, 52, 53, 54, 55, 56, 57, 58, 59, 60, 61, 62, 63, 64, 65, 66, 67, 68, 69, 70, 71, 72, 73, 74, 75, 76, 77, 78, 79, 80, 81, 82, 83, 84, 85, 86, 87, 88, 89, 90, 91, 92, 93, 132, 133, 134, 135, 136, 137, 138, 139, 140, 141, 142, 143, 144, 145, 146, 147, 148, 149, 150, 151, 152, 153, 154, 155, 156, 157, 158, 159, 160, 161, 162, 163, 164, 165, 166, 167] (by decide +kernel) (by decide +kernel)
set_option maxRecDepth 20000 in
theorem gX10_taken_X1_gather : GoodIn wsX10_taken (wsV RX10 178 RX1 yX1_gather wsX1_gather) := goodIn_app (goodIn_of _ (by decide +kernel)) ggX10_taken_X1_gather
set_option maxRecDepth 20000 in
theorem ggX10_taken_X1_choose : GoodIn wsX10_taken wsX1_choose := goodIn_r _ [97, 14, 98, 99, 100, 101, 19, 102, 103, 104, 12, 105, 17, 55, 56, 57, 58, 59, 60, 61, 62, 63, 64, 65, 66, 67, 68, 69, 6, 7, 8, 70, 71, 72, 73, 74, 75, 76, 77, 52, 78, 79, 106, 107, 108, 109, 110, 111, 132, 133, 134, 135, 136, 137, 138, 139, 140, 141, 142, 143, 144, 145, 146, 147, 148, 149, 150, 151, 152, 153, 154, 155, 156, 157, 158, 159, 160, 161, 162] (by decide +kernel) (by decide +kernel)
set_option maxRecDepth 20000 in
theorem gX10_taken_X1_choose : GoodIn wsX10_taken (wsV RX10 197 RX1 yX1_choose wsX1_choose) := goodIn_app (goodIn_of _ (by decide +kernel)) ggX10_taken_X1_choose
set_option maxRecDepth 20000 in
theorem ggX10_taken_X1_takenField : GoodIn wsX10_taken wsX1_takenField := goodIn_r _ [115, 14, 17, 116, 117, 118, 12, 119, 98, 6, 7, 8, 132, 133, 134, 135, 136, 137, 138, 139, 140, 141] (by decide +kernel) (by decide +kernel)
set_option maxRecDepth 20000 in
theorem gX10_taken_X1_takenField : GoodIn wsX10_taken (wsV RX10 207 RX1 yX1_takenField wsX1_takenField) := goodIn_app (goodIn_of _ (by decide +kernel)) ggX10_taken_X1_takenField
theorem dX10_taken_0 : decode cX10_taken 0 = .ok (.iload_n 1, 1) := by decide +kernel
theorem dX10_taken_1 : decode cX10_taken 1 = .ok (.bipush 20, 2) := by decide +kernel
theorem dX10_taken_3 : decode cX10_taken 3 = .ok (.invokestatic 87, 3) := by decide +kernel
theorem dX10_taken_6 : decode cX10_taken 6 = .ok (.ifCond .eq 7, 3) := by decide +kernel
theorem dX10_taken_9 : decode cX10_taken 9 = .ok (.iload_n 2, 1) := by decide +kernel
theorem dX10_taken_10 : decode cX10_taken 10 = .ok (.ifCond .ge 5, 3) := by decide +kernel
theorem dX10_taken_13 : decode cX10_taken 13 = .ok (.iconst (-1), 1) := by decide +kernel
theorem dX10_taken_14 : decode cX10_taken 14 = .ok (.ireturn, 1) := by decide +kernel
theorem dX10_taken_15 : decode cX10_taken 15 = .ok (.aload_n 0, 1) := by decide +kernel
theorem dX10_taken_16 : decode cX10_taken 16 = .ok (.getfield 46, 3) := by decide +kernel
theorem dX10_taken_19 : decode cX10_taken 19 = .ok (.iload_n 1, 1) := by decide +kernel
theorem dX10_taken_20 : decode cX10_taken 20 = .ok (.aload_n 0, 1) := by decide +kernel
theorem dX10_taken_21 : decode cX10_taken 21 = .ok (.getfield 19, 3) := by decide +kernel
theorem dX10_taken_24 : decode cX10_taken 24 = .ok (.aload_n 0, 1) := by decide +kernel
theorem dX10_taken_25 : decode cX10_taken 25 = .ok (.getfield 10, 3) := by decide +kernel
theorem dX10_taken_28 : decode cX10_taken 28 = .ok (.aload_n 0, 1) := by decide +kernel
theorem dX10_taken_29 : decode cX10_taken 29 = .ok (.getfield 80, 3) := by decide +kernel
theorem dX10_taken_32 : decode cX10_taken 32 = .ok (.invokevirtual 178, 3) := by decide +kernel
theorem dX10_taken_35 : decode cX10_taken 35 = .ok (.aload_n 0, 1) := by decide +kernel
theorem dX10_taken_36 : decode cX10_taken 36 = .ok (.getfield 46, 3) := by decide +kernel
theorem dX10_taken_39 : decode cX10_taken 39 = .ok (.aload_n 0, 1) := by decide +kernel
theorem dX10_taken_40 : decode cX10_taken 40 = .ok (.getfield 19, 3) := by decide +kernel
theorem dX10_taken_43 : decode cX10_taken 43 = .ok (.aload_n 0, 1) := by decide +kernel
theorem dX10_taken_44 : decode cX10_taken 44 = .ok (.getfield 80, 3) := by decide +kernel
theorem dX10_taken_47 : decode cX10_taken 47 = .ok (.invokevirtual 197, 3) := by decide +kernel
theorem dX10_taken_50 : decode cX10_taken 50 = .ok (.ifCond .eq 14, 3) := by decide +kernel
theorem dX10_taken_53 : decode cX10_taken 53 = .ok (.aload_n 0, 1) := by decide +kernel
theorem dX10_taken_54 : decode cX10_taken 54 = .ok (.getfield 46, 3) := by decide +kernel
theorem dX10_taken_57 : decode cX10_taken 57 = .ok (.iload_n 2, 1) := by decide +kernel
theorem dX10_taken_58 : decode cX10_taken 58 = .ok (.invokevirtual 207, 3) := by decide +kernel
theorem dX10_taken_61 : decode cX10_taken 61 = .ok (.goto 4, 3) := by decide +kernel
theorem dX10_taken_64 : decode cX10_taken 64 = .ok (.iconst (-1), 1) := by decide +kernel
theorem dX10_taken_65 : decode cX10_taken 65 = .ok (.ireturn, 1) := by decide +kernel
set_option maxRecDepth 20000 in
theorem ggX10_share_X2_has : GoodIn wsX10_share wsX2_has := goodIn_r _ [8, 9, 10, 11, 12, 52, 53, 54, 55, 56, 57, 58, 59, 60, 61, 62, 63] (by decide +kernel) (by decide +kernel)
set_option maxRecDepth 20000 in
theorem gX10_share_X2_has : GoodIn wsX10_share (wsV RX10 109 RX2 yX2_has wsX2_has) := goodIn_app (goodIn_of _ (by decide +kernel)) ggX10_share_X2_has
set_option maxRecDepth 20000 in
theorem ggX10_share_X4_has : GoodIn wsX10_share wsX4_has := goodIn_r _ [17, 18, 10, 11, 12, 64, 65, 66, 67, 68] (by decide +kernel) (by decide +kernel)
set_option maxRecDepth 20000 in
theorem gX10_share_X4_has : GoodIn wsX10_share (wsV RX10 98 RX4 yX4_has wsX4_has) := goodIn_app (goodIn_of _ (by decide +kernel)) ggX10_share_X4_has
set_option maxRecDepth 20000 in
theorem ggX10_share_X10_isBelow : GoodIn wsX10_share wsX10_isBelow := goodIn_r _ [12] (by decide +kernel) (by decide +kernel)
set_option maxRecDepth 20000 in
theorem gX10_share_X10_isBelow : GoodIn wsX10_share (va_wsS RX10 87 yX10_isBelow wsX10_isBelow) := goodIn_app (goodIn_of _ (by decide +kernel)) ggX10_share_X10_isBelow
set_option maxRecDepth 20000 in
theorem ggX10_share_X9_tell : GoodIn wsX10_share wsX9_tell := goodIn_r _ [24, 25, 26, 27, 28, 29, 30, 31, 23, 32, 33, 34, 35, 36, 37, 38, 39, 69, 70, 71, 72] (by decide +kernel) (by decide +kernel)
set_option maxRecDepth 20000 in
theorem gX10_share_X9_tell : GoodIn wsX10_share (wsV RX10 210 RX9 yX9_tell wsX9_tell) := goodIn_app (goodIn_of _ (by decide +kernel)) ggX10_share_X9_tell
theorem dX10_share_0 : decode cX10_share 0 = .ok (.aload_n 0, 1) := by decide +kernel
theorem dX10_share_1 : decode cX10_share 1 = .ok (.getfield 19, 3) := by decide +kernel
theorem dX10_share_4 : decode cX10_share 4 = .ok (.iload_n 1, 1) := by decide +kernel
theorem dX10_share_5 : decode cX10_share 5 = .ok (.invokevirtual 109, 3) := by decide +kernel
theorem dX10_share_8 : decode cX10_share 8 = .ok (.ifCond .eq 23, 3) := by decide +kernel
theorem dX10_share_11 : decode cX10_share 11 = .ok (.aload_n 0, 1) := by decide +kernel
theorem dX10_share_12 : decode cX10_share 12 = .ok (.getfield 10, 3) := by decide +kernel
theorem dX10_share_15 : decode cX10_share 15 = .ok (.iload_n 2, 1) := by decide +kernel
theorem dX10_share_16 : decode cX10_share 16 = .ok (.invokevirtual 98, 3) := by decide +kernel
theorem dX10_share_19 : decode cX10_share 19 = .ok (.ifCond .eq 12, 3) := by decide +kernel
theorem dX10_share_22 : decode cX10_share 22 = .ok (.iload_n 3, 1) := by decide +kernel
theorem dX10_share_23 : decode cX10_share 23 = .ok (.bipush 30, 2) := by decide +kernel
theorem dX10_share_25 : decode cX10_share 25 = .ok (.invokestatic 87, 3) := by decide +kernel
theorem dX10_share_28 : decode cX10_share 28 = .ok (.ifCond .ne 5, 3) := by decide +kernel
theorem dX10_share_31 : decode cX10_share 31 = .ok (.iconst (-1), 1) := by decide +kernel
theorem dX10_share_32 : decode cX10_share 32 = .ok (.ireturn, 1) := by decide +kernel
theorem dX10_share_33 : decode cX10_share 33 = .ok (.aload_n 0, 1) := by decide +kernel
theorem dX10_share_34 : decode cX10_share 34 = .ok (.getfield 53, 3) := by decide +kernel
theorem dX10_share_37 : decode cX10_share 37 = .ok (.iload_n 1, 1) := by decide +kernel
theorem dX10_share_38 : decode cX10_share 38 = .ok (.iload_n 2, 1) := by decide +kernel
theorem dX10_share_39 : decode cX10_share 39 = .ok (.iload_n 3, 1) := by decide +kernel
theorem dX10_share_40 : decode cX10_share 40 = .ok (.invokevirtual 210, 3) := by decide +kernel
theorem dX10_share_43 : decode cX10_share 43 = .ok (.ireturn, 1) := by decide +kernel
set_option maxRecDepth 20000 in
theorem ggX10_given_X2_hasRow : GoodIn wsX10_given wsX2_hasRow := goodIn_r _ [8, 9, 10, 11, 12, 7, 13, 14, 15, 16, 95, 96, 97, 98, 99, 100, 101, 102, 103, 104, 105, 106] (by decide +kernel) (by decide +kernel)
set_option maxRecDepth 20000 in
theorem gX10_given_X2_hasRow : GoodIn wsX10_given (wsV RX10 213 RX2 yX2_hasRow wsX2_hasRow) := goodIn_app (goodIn_of _ (by decide +kernel)) ggX10_given_X2_hasRow
set_option maxRecDepth 20000 in
theorem ggX10_given_X4_hasRow : GoodIn wsX10_given wsX4_hasRow := goodIn_r _ [21, 22, 23, 24, 25, 20, 26, 14, 15, 16, 107, 108, 109, 110, 111] (by decide +kernel) (by decide +kernel)
set_option maxRecDepth 20000 in
theorem gX10_given_X4_hasRow : GoodIn wsX10_given (wsV RX10 216 RX4 yX4_hasRow wsX4_hasRow) := goodIn_app (goodIn_of _ (by decide +kernel)) ggX10_given_X4_hasRow
set_option maxRecDepth 20000 in
theorem ggX10_given_X0_weigh : GoodIn wsX10_given wsX0_weigh := goodIn_r _ [31, 32, 33, 34, 35, 36, 37, 38, 39, 40, 41, 42, 43, 44, 20, 45, 46, 23, 24, 25, 26, 22, 14, 15, 16, 47, 48, 49, 7, 50, 51, 52, 53, 54, 55, 56, 57, 58, 10, 11, 12, 13, 9, 59, 60, 61, 30, 62, 63, 64, 65, 66, 67, 68, 69, 70, 71, 72, 73, 74, 112, 113, 114, 107, 108, 109, 110, 111, 95, 96, 97, 98, 99, 100, 101, 102, 103, 104, 105, 106] (by decide +kernel) (by decide +kernel)
set_option maxRecDepth 20000 in
theorem gX10_given_X0_weigh : GoodIn wsX10_given (wsV RX10 217 RX0 yX0_weigh wsX0_weigh) := goodIn_app (goodIn_of _ (by decide +kernel)) ggX10_given_X0_weigh
set_option maxRecDepth 20000 in
theorem ggX10_given_X0_leastSum : GoodIn wsX10_given wsX0_leastSum := goodIn_r _ [78, 41, 39, 112, 113, 114] (by decide +kernel) (by decide +kernel)
set_option maxRecDepth 20000 in
theorem gX10_given_X0_leastSum : GoodIn wsX10_given (wsV RX10 221 RX0 yX0_leastSum wsX0_leastSum) := goodIn_app (goodIn_of _ (by decide +kernel)) ggX10_given_X0_leastSum
set_option maxRecDepth 20000 in
theorem ggX10_given_X0_choice : GoodIn wsX10_given wsX0_choice := goodIn_r _ [82, 39, 59, 60, 61, 30, 62, 63, 64, 65, 66, 67, 40, 41, 68, 69, 70, 71, 72, 73, 74, 14, 15, 16, 112, 113, 114] (by decide +kernel) (by decide +kernel)
set_option maxRecDepth 20000 in
theorem gX10_given_X0_choice : GoodIn wsX10_given (wsV RX10 224 RX0 yX0_choice wsX0_choice) := goodIn_app (goodIn_of _ (by decide +kernel)) ggX10_given_X0_choice
theorem dX10_given_0 : decode cX10_given 0 = .ok (.iload_n 3, 1) := by decide +kernel
theorem dX10_given_1 : decode cX10_given 1 = .ok (.iconst 1, 1) := by decide +kernel
theorem dX10_given_2 : decode cX10_given 2 = .ok (.if_icmp .lt 48, 3) := by decide +kernel
theorem dX10_given_5 : decode cX10_given 5 = .ok (.iload_n 3, 1) := by decide +kernel
theorem dX10_given_6 : decode cX10_given 6 = .ok (.iconst 5, 1) := by decide +kernel
theorem dX10_given_7 : decode cX10_given 7 = .ok (.if_icmp .gt 43, 3) := by decide +kernel
theorem dX10_given_10 : decode cX10_given 10 = .ok (.iload 4, 2) := by decide +kernel
theorem dX10_given_12 : decode cX10_given 12 = .ok (.iconst (-1), 1) := by decide +kernel
theorem dX10_given_13 : decode cX10_given 13 = .ok (.if_icmp .lt 37, 3) := by decide +kernel
theorem dX10_given_16 : decode cX10_given 16 = .ok (.iload 4, 2) := by decide +kernel
theorem dX10_given_18 : decode cX10_given 18 = .ok (.iload_n 3, 1) := by decide +kernel
theorem dX10_given_19 : decode cX10_given 19 = .ok (.if_icmp .ge 31, 3) := by decide +kernel
theorem dX10_given_22 : decode cX10_given 22 = .ok (.aload_n 0, 1) := by decide +kernel
theorem dX10_given_23 : decode cX10_given 23 = .ok (.getfield 19, 3) := by decide +kernel
theorem dX10_given_26 : decode cX10_given 26 = .ok (.iload_n 1, 1) := by decide +kernel
theorem dX10_given_27 : decode cX10_given 27 = .ok (.iload_n 3, 1) := by decide +kernel
theorem dX10_given_28 : decode cX10_given 28 = .ok (.invokevirtual 213, 3) := by decide +kernel
theorem dX10_given_31 : decode cX10_given 31 = .ok (.ifCond .eq 19, 3) := by decide +kernel
theorem dX10_given_34 : decode cX10_given 34 = .ok (.aload_n 0, 1) := by decide +kernel
theorem dX10_given_35 : decode cX10_given 35 = .ok (.getfield 10, 3) := by decide +kernel
theorem dX10_given_38 : decode cX10_given 38 = .ok (.iload_n 2, 1) := by decide +kernel
theorem dX10_given_39 : decode cX10_given 39 = .ok (.iload_n 3, 1) := by decide +kernel
theorem dX10_given_40 : decode cX10_given 40 = .ok (.invokevirtual 216, 3) := by decide +kernel
theorem dX10_given_43 : decode cX10_given 43 = .ok (.ifCond .eq 7, 3) := by decide +kernel
theorem dX10_given_46 : decode cX10_given 46 = .ok (.iconst 1, 1) := by decide +kernel
theorem dX10_given_47 : decode cX10_given 47 = .ok (.goto 4, 3) := by decide +kernel
theorem dX10_given_50 : decode cX10_given 50 = .ok (.iconst 0, 1) := by decide +kernel
theorem dX10_given_51 : decode cX10_given 51 = .ok (.istore 5, 2) := by decide +kernel
theorem dX10_given_53 : decode cX10_given 53 = .ok (.iload 5, 2) := by decide +kernel
theorem dX10_given_55 : decode cX10_given 55 = .ok (.ifCond .ne 5, 3) := by decide +kernel
theorem dX10_given_58 : decode cX10_given 58 = .ok (.iconst (-1), 1) := by decide +kernel
theorem dX10_given_59 : decode cX10_given 59 = .ok (.ireturn, 1) := by decide +kernel
theorem dX10_given_60 : decode cX10_given 60 = .ok (.aload_n 0, 1) := by decide +kernel
theorem dX10_given_61 : decode cX10_given 61 = .ok (.getfield 60, 3) := by decide +kernel
theorem dX10_given_64 : decode cX10_given 64 = .ok (.iload_n 1, 1) := by decide +kernel
theorem dX10_given_65 : decode cX10_given 65 = .ok (.iload_n 2, 1) := by decide +kernel
theorem dX10_given_66 : decode cX10_given 66 = .ok (.iload_n 3, 1) := by decide +kernel
theorem dX10_given_67 : decode cX10_given 67 = .ok (.aload_n 0, 1) := by decide +kernel
theorem dX10_given_68 : decode cX10_given 68 = .ok (.getfield 19, 3) := by decide +kernel
theorem dX10_given_71 : decode cX10_given 71 = .ok (.aload_n 0, 1) := by decide +kernel
theorem dX10_given_72 : decode cX10_given 72 = .ok (.getfield 10, 3) := by decide +kernel
theorem dX10_given_75 : decode cX10_given 75 = .ok (.invokevirtual 217, 3) := by decide +kernel
theorem dX10_given_78 : decode cX10_given 78 = .ok (.iload 4, 2) := by decide +kernel
theorem dX10_given_80 : decode cX10_given 80 = .ok (.iconst (-1), 1) := by decide +kernel
theorem dX10_given_81 : decode cX10_given 81 = .ok (.if_icmp .ne 13, 3) := by decide +kernel
theorem dX10_given_84 : decode cX10_given 84 = .ok (.aload_n 0, 1) := by decide +kernel
theorem dX10_given_85 : decode cX10_given 85 = .ok (.getfield 60, 3) := by decide +kernel
theorem dX10_given_88 : decode cX10_given 88 = .ok (.invokevirtual 221, 3) := by decide +kernel
theorem dX10_given_91 : decode cX10_given 91 = .ok (.goto 14, 3) := by decide +kernel
theorem dX10_given_94 : decode cX10_given 94 = .ok (.iload_n 2, 1) := by decide +kernel
theorem dX10_given_95 : decode cX10_given 95 = .ok (.aload_n 0, 1) := by decide +kernel
theorem dX10_given_96 : decode cX10_given 96 = .ok (.getfield 60, 3) := by decide +kernel
theorem dX10_given_99 : decode cX10_given 99 = .ok (.iload 4, 2) := by decide +kernel
theorem dX10_given_101 : decode cX10_given 101 = .ok (.invokevirtual 224, 3) := by decide +kernel
theorem dX10_given_104 : decode cX10_given 104 = .ok (.iadd, 1) := by decide +kernel
theorem dX10_given_105 : decode cX10_given 105 = .ok (.ireturn, 1) := by decide +kernel
set_option maxRecDepth 20000 in
theorem ggX10_rings_X10_ringsClose : GoodIn wsX10_rings wsX10_ringsClose := goodIn_r _ [6, 7, 1, 8, 9, 10, 11, 12, 13, 14, 15, 16, 17, 18, 19, 5, 20, 21, 22, 23, 24, 25, 26, 27, 28, 29, 30, 31, 32, 33, 34, 35, 36, 37, 38, 39, 40, 41, 42, 43, 44, 45, 46, 47, 48, 49, 50, 51, 52, 53, 54, 55, 56, 57, 58, 59, 60, 61, 62, 63, 64, 65, 66, 67, 68, 69, 70, 71, 72, 73, 74, 75, 76, 77, 78, 79, 84, 85, 86, 87, 88, 89, 90, 91, 92, 93, 94, 95, 103, 104, 105, 106, 107, 96, 97, 98, 99, 100, 101, 102, 108, 109, 110, 111, 112, 113, 114, 115, 116, 117, 118, 119] (by decide +kernel) (by decide +kernel)
set_option maxRecDepth 20000 in
theorem gX10_rings_X10_ringsClose : GoodIn wsX10_rings (wsV RX10 227 RX10 yX10_ringsClose wsX10_ringsClose) := goodIn_app (goodIn_of _ (by decide +kernel)) ggX10_rings_X10_ringsClose
set_option maxRecDepth 20000 in
theorem ggX10_rings_X6_fieldFor : GoodIn wsX10_rings wsX6_fieldFor := goodIn_r _ [83, 33, 38, 19, 5, 20, 96, 97, 98, 99, 100, 101, 102] (by decide +kernel) (by decide +kernel)
set_option maxRecDepth 20000 in
theorem gX10_rings_X6_fieldFor : GoodIn wsX10_rings (wsV RX10 233 RX6 yX6_fieldFor wsX6_fieldFor) := goodIn_app (goodIn_of _ (by decide +kernel)) ggX10_rings_X6_fieldFor
theorem dX10_rings_0 : decode cX10_rings 0 = .ok (.iload_n 3, 1) := by decide +kernel
theorem dX10_rings_1 : decode cX10_rings 1 = .ok (.iconst (-1), 1) := by decide +kernel
theorem dX10_rings_2 : decode cX10_rings 2 = .ok (.if_icmp .lt 17, 3) := by decide +kernel
theorem dX10_rings_5 : decode cX10_rings 5 = .ok (.iload_n 3, 1) := by decide +kernel
theorem dX10_rings_6 : decode cX10_rings 6 = .ok (.iload_n 2, 1) := by decide +kernel
theorem dX10_rings_7 : decode cX10_rings 7 = .ok (.if_icmp .ge 12, 3) := by decide +kernel
theorem dX10_rings_10 : decode cX10_rings 10 = .ok (.aload_n 0, 1) := by decide +kernel
theorem dX10_rings_11 : decode cX10_rings 11 = .ok (.iload_n 1, 1) := by decide +kernel
theorem dX10_rings_12 : decode cX10_rings 12 = .ok (.iload_n 2, 1) := by decide +kernel
theorem dX10_rings_13 : decode cX10_rings 13 = .ok (.invokevirtual 227, 3) := by decide +kernel
theorem dX10_rings_16 : decode cX10_rings 16 = .ok (.ifCond .ne 5, 3) := by decide +kernel
theorem dX10_rings_19 : decode cX10_rings 19 = .ok (.iconst (-1), 1) := by decide +kernel
theorem dX10_rings_20 : decode cX10_rings 20 = .ok (.ireturn, 1) := by decide +kernel
theorem dX10_rings_21 : decode cX10_rings 21 = .ok (.iload_n 3, 1) := by decide +kernel
theorem dX10_rings_22 : decode cX10_rings 22 = .ok (.iconst (-1), 1) := by decide +kernel
theorem dX10_rings_23 : decode cX10_rings 23 = .ok (.if_icmp .ne 13, 3) := by decide +kernel
theorem dX10_rings_26 : decode cX10_rings 26 = .ok (.aload_n 0, 1) := by decide +kernel
theorem dX10_rings_27 : decode cX10_rings 27 = .ok (.getfield 67, 3) := by decide +kernel
theorem dX10_rings_30 : decode cX10_rings 30 = .ok (.getfield 230, 3) := by decide +kernel
theorem dX10_rings_33 : decode cX10_rings 33 = .ok (.goto 11, 3) := by decide +kernel
theorem dX10_rings_36 : decode cX10_rings 36 = .ok (.aload_n 0, 1) := by decide +kernel
theorem dX10_rings_37 : decode cX10_rings 37 = .ok (.getfield 67, 3) := by decide +kernel
theorem dX10_rings_40 : decode cX10_rings 40 = .ok (.iload_n 3, 1) := by decide +kernel
theorem dX10_rings_41 : decode cX10_rings 41 = .ok (.invokevirtual 233, 3) := by decide +kernel
theorem dX10_rings_44 : decode cX10_rings 44 = .ok (.ireturn, 1) := by decide +kernel
set_option maxRecDepth 20000 in
theorem ggX10_swap_X10_ringsClose : GoodIn wsX10_swap wsX10_ringsClose := goodIn_r _ [7, 8, 1, 2, 9, 10, 11, 12, 13, 14, 15, 16, 17, 18, 19, 6, 20, 21, 22, 23, 24, 25, 26, 27, 28, 29, 30, 31, 32, 33, 34, 35, 36, 37, 38, 39, 40, 41, 42, 43, 44, 45, 46, 47, 48, 49, 50, 51, 52, 53, 54, 55, 56, 57, 58, 59, 60, 61, 62, 63, 64, 65, 66, 67, 68, 69, 70, 71, 72, 73, 74, 75, 76, 77, 78, 79, 101, 102, 103, 104, 105, 106, 107, 108, 109, 110, 111, 112, 125, 126, 127, 128, 129, 130, 131, 132, 133, 134, 135, 136, 113, 114, 115, 116, 117, 118, 119, 120, 121, 122, 123, 124] (by decide +kernel) (by decide +kernel)
set_option maxRecDepth 20000 in
theorem gX10_swap_X10_ringsClose : GoodIn wsX10_swap (wsV RX10 227 RX10 yX10_ringsClose wsX10_ringsClose) := goodIn_app (goodIn_of _ (by decide +kernel)) ggX10_swap_X10_ringsClose
set_option maxRecDepth 20000 in
theorem ggX10_swap_X6_changes : GoodIn wsX10_swap wsX6_changes := goodIn_r _ [83, 33, 38, 36, 130, 131, 132, 133, 134, 135, 136] (by decide +kernel) (by decide +kernel)
set_option maxRecDepth 20000 in
theorem gX10_swap_X6_changes : GoodIn wsX10_swap (wsV RX10 236 RX6 yX6_changes wsX6_changes) := goodIn_app (goodIn_of _ (by decide +kernel)) ggX10_swap_X6_changes
set_option maxRecDepth 20000 in
theorem ggX10_swap_X2_transfersLeft : GoodIn wsX10_swap wsX2_transfersLeft := goodIn_r _ [87, 88, 113, 114, 115, 116, 117, 118, 119, 120, 121, 122, 123, 124] (by decide +kernel) (by decide +kernel)
set_option maxRecDepth 20000 in
theorem gX10_swap_X2_transfersLeft : GoodIn wsX10_swap (wsV RX10 114 RX2 yX2_transfersLeft wsX2_transfersLeft) := goodIn_app (goodIn_of _ (by decide +kernel)) ggX10_swap_X2_transfersLeft
set_option maxRecDepth 20000 in
theorem ggX10_swap_X6_winnerOf : GoodIn wsX10_swap wsX6_winnerOf := goodIn_r _ [92, 33, 38, 36, 130, 131, 132, 133, 134, 135, 136] (by decide +kernel) (by decide +kernel)
set_option maxRecDepth 20000 in
theorem gX10_swap_X6_winnerOf : GoodIn wsX10_swap (wsV RX10 240 RX6 yX6_winnerOf wsX6_winnerOf) := goodIn_app (goodIn_of _ (by decide +kernel)) ggX10_swap_X6_winnerOf
set_option maxRecDepth 20000 in
theorem ggX10_swap_X2_move : GoodIn wsX10_swap wsX2_move := goodIn_r _ [96, 88, 97, 98, 99, 100, 51, 57, 58, 59, 48, 60, 50, 19, 6, 20, 113, 114, 115, 116, 117, 118, 119, 120, 121, 122, 123, 124] (by decide +kernel) (by decide +kernel)
set_option maxRecDepth 20000 in
theorem gX10_swap_X2_move : GoodIn wsX10_swap (wsV RX10 118 RX2 yX2_move wsX2_move) := goodIn_app (goodIn_of _ (by decide +kernel)) ggX10_swap_X2_move
theorem dX10_swap_0 : decode cX10_swap 0 = .ok (.aload_n 0, 1) := by decide +kernel
theorem dX10_swap_1 : decode cX10_swap 1 = .ok (.iload_n 1, 1) := by decide +kernel
theorem dX10_swap_2 : decode cX10_swap 2 = .ok (.iload_n 2, 1) := by decide +kernel
theorem dX10_swap_3 : decode cX10_swap 3 = .ok (.invokevirtual 227, 3) := by decide +kernel
theorem dX10_swap_6 : decode cX10_swap 6 = .ok (.ifCond .ne 5, 3) := by decide +kernel
theorem dX10_swap_9 : decode cX10_swap 9 = .ok (.iconst (-1), 1) := by decide +kernel
theorem dX10_swap_10 : decode cX10_swap 10 = .ok (.ireturn, 1) := by decide +kernel
theorem dX10_swap_11 : decode cX10_swap 11 = .ok (.aload_n 0, 1) := by decide +kernel
theorem dX10_swap_12 : decode cX10_swap 12 = .ok (.getfield 67, 3) := by decide +kernel
theorem dX10_swap_15 : decode cX10_swap 15 = .ok (.invokevirtual 236, 3) := by decide +kernel
theorem dX10_swap_18 : decode cX10_swap 18 = .ok (.istore_n 3, 1) := by decide +kernel
theorem dX10_swap_19 : decode cX10_swap 19 = .ok (.iload_n 3, 1) := by decide +kernel
theorem dX10_swap_20 : decode cX10_swap 20 = .ok (.aload_n 0, 1) := by decide +kernel
theorem dX10_swap_21 : decode cX10_swap 21 = .ok (.getfield 19, 3) := by decide +kernel
theorem dX10_swap_24 : decode cX10_swap 24 = .ok (.invokevirtual 114, 3) := by decide +kernel
theorem dX10_swap_27 : decode cX10_swap 27 = .ok (.if_icmp .le 5, 3) := by decide +kernel
theorem dX10_swap_30 : decode cX10_swap 30 = .ok (.iconst (-1), 1) := by decide +kernel
theorem dX10_swap_31 : decode cX10_swap 31 = .ok (.ireturn, 1) := by decide +kernel
theorem dX10_swap_32 : decode cX10_swap 32 = .ok (.iconst 0, 1) := by decide +kernel
theorem dX10_swap_33 : decode cX10_swap 33 = .ok (.istore 4, 2) := by decide +kernel
theorem dX10_swap_35 : decode cX10_swap 35 = .ok (.iload 4, 2) := by decide +kernel
theorem dX10_swap_37 : decode cX10_swap 37 = .ok (.aload_n 0, 1) := by decide +kernel
theorem dX10_swap_38 : decode cX10_swap 38 = .ok (.getfield 19, 3) := by decide +kernel
theorem dX10_swap_41 : decode cX10_swap 41 = .ok (.getfield 239, 3) := by decide +kernel
theorem dX10_swap_44 : decode cX10_swap 44 = .ok (.if_icmp .ge 39, 3) := by decide +kernel
theorem dX10_swap_47 : decode cX10_swap 47 = .ok (.aload_n 0, 1) := by decide +kernel
theorem dX10_swap_48 : decode cX10_swap 48 = .ok (.getfield 67, 3) := by decide +kernel
theorem dX10_swap_51 : decode cX10_swap 51 = .ok (.iload 4, 2) := by decide +kernel
theorem dX10_swap_53 : decode cX10_swap 53 = .ok (.invokevirtual 240, 3) := by decide +kernel
theorem dX10_swap_56 : decode cX10_swap 56 = .ok (.istore 5, 2) := by decide +kernel
theorem dX10_swap_58 : decode cX10_swap 58 = .ok (.iload 5, 2) := by decide +kernel
theorem dX10_swap_60 : decode cX10_swap 60 = .ok (.iconst (-1), 1) := by decide +kernel
theorem dX10_swap_61 : decode cX10_swap 61 = .ok (.if_icmp .eq 16, 3) := by decide +kernel
theorem dX10_swap_64 : decode cX10_swap 64 = .ok (.aload_n 0, 1) := by decide +kernel
theorem dX10_swap_65 : decode cX10_swap 65 = .ok (.getfield 19, 3) := by decide +kernel
theorem dX10_swap_68 : decode cX10_swap 68 = .ok (.iload 4, 2) := by decide +kernel
theorem dX10_swap_70 : decode cX10_swap 70 = .ok (.iload_n 1, 1) := by decide +kernel
theorem dX10_swap_71 : decode cX10_swap 71 = .ok (.iload 5, 2) := by decide +kernel
theorem dX10_swap_73 : decode cX10_swap 73 = .ok (.iadd, 1) := by decide +kernel
theorem dX10_swap_74 : decode cX10_swap 74 = .ok (.invokevirtual 118, 3) := by decide +kernel
theorem dX10_swap_77 : decode cX10_swap 77 = .ok (.iinc 4 1, 3) := by decide +kernel
theorem dX10_swap_80 : decode cX10_swap 80 = .ok (.goto (-45), 3) := by decide +kernel
theorem dX10_swap_83 : decode cX10_swap 83 = .ok (.iload_n 3, 1) := by decide +kernel
theorem dX10_swap_84 : decode cX10_swap 84 = .ok (.ireturn, 1) := by decide +kernel
set_option maxRecDepth 20000 in
theorem ggX10_sell_X2_has : GoodIn wsX10_sell wsX2_has := goodIn_r _ [13, 14, 15, 16, 17, 92, 93, 94, 95, 96, 97, 98, 99, 100, 101, 102, 103] (by decide +kernel) (by decide +kernel)
set_option maxRecDepth 20000 in
theorem gX10_sell_X2_has : GoodIn wsX10_sell (wsV RX10 109 RX2 yX2_has wsX2_has) := goodIn_app (goodIn_of _ (by decide +kernel)) ggX10_sell_X2_has
set_option maxRecDepth 20000 in
theorem ggX10_sell_X4_has : GoodIn wsX10_sell wsX4_has := goodIn_r _ [22, 23, 15, 16, 17, 104, 105, 106, 107, 108] (by decide +kernel) (by decide +kernel)
set_option maxRecDepth 20000 in
theorem gX10_sell_X4_has : GoodIn wsX10_sell (wsV RX10 98 RX4 yX4_has wsX4_has) := goodIn_app (goodIn_of _ (by decide +kernel)) ggX10_sell_X4_has
set_option maxRecDepth 20000 in
theorem ggX10_sell_X2_standardOf : GoodIn wsX10_sell wsX2_standardOf := goodIn_r _ [27, 28, 29, 30, 12, 31, 32, 33, 10, 11, 13, 14, 15, 16, 17, 34, 35, 36, 37, 38, 39, 40, 41, 42, 43, 44, 92, 93, 94, 95, 96, 97, 98, 99, 100, 101, 102, 103, 74, 75, 76, 77, 78, 79, 80, 81, 82] (by decide +kernel) (by decide +kernel)
set_option maxRecDepth 20000 in
theorem gX10_sell_X2_standardOf : GoodIn wsX10_sell (wsV RX10 154 RX2 yX2_standardOf wsX2_standardOf) := goodIn_app (goodIn_of _ (by decide +kernel)) ggX10_sell_X2_standardOf
set_option maxRecDepth 20000 in
theorem ggX10_sell_X7_init : GoodIn wsX10_sell wsX7_init := goodIn_r _ [47, 48, 49, 50, 51, 52, 53, 54, 55, 56, 57, 58, 59, 60, 61, 83, 84, 85, 86, 87, 88, 89, 90, 91] (by decide +kernel) (by decide +kernel)
set_option maxRecDepth 20000 in
theorem gX10_sell_X7_init : GoodIn wsX10_sell (wsX7_init) := ggX10_sell_X7_init
theorem dX10_sell_0 : decode cX10_sell 0 = .ok (.aload_n 0, 1) := by decide +kernel
theorem dX10_sell_1 : decode cX10_sell 1 = .ok (.getfield 19, 3) := by decide +kernel
theorem dX10_sell_4 : decode cX10_sell 4 = .ok (.iload_n 1, 1) := by decide +kernel
theorem dX10_sell_5 : decode cX10_sell 5 = .ok (.invokevirtual 109, 3) := by decide +kernel
theorem dX10_sell_8 : decode cX10_sell 8 = .ok (.ifCond .eq 23, 3) := by decide +kernel
theorem dX10_sell_11 : decode cX10_sell 11 = .ok (.aload_n 0, 1) := by decide +kernel
theorem dX10_sell_12 : decode cX10_sell 12 = .ok (.getfield 10, 3) := by decide +kernel
theorem dX10_sell_15 : decode cX10_sell 15 = .ok (.iload_n 2, 1) := by decide +kernel
theorem dX10_sell_16 : decode cX10_sell 16 = .ok (.invokevirtual 98, 3) := by decide +kernel
theorem dX10_sell_19 : decode cX10_sell 19 = .ok (.ifCond .eq 12, 3) := by decide +kernel
theorem dX10_sell_22 : decode cX10_sell 22 = .ok (.aload_n 0, 1) := by decide +kernel
theorem dX10_sell_23 : decode cX10_sell 23 = .ok (.getfield 243, 3) := by decide +kernel
theorem dX10_sell_26 : decode cX10_sell 26 = .ok (.bipush 20, 2) := by decide +kernel
