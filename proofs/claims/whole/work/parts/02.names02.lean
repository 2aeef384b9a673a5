theorem dX2_init_36 : decode cX2_init 36 = .ok (.aload_n 0, 1) := by decide +kernel
theorem dX2_init_37 : decode cX2_init 37 = .ok (.bipush 60, 2) := by decide +kernel
theorem dX2_init_39 : decode cX2_init 39 = .ok (.newarray .int, 2) := by decide +kernel
theorem dX2_init_41 : decode cX2_init 41 = .ok (.putfield 24, 3) := by decide +kernel
theorem dX2_init_44 : decode cX2_init 44 = .ok (.aload_n 0, 1) := by decide +kernel
theorem dX2_init_45 : decode cX2_init 45 = .ok (.bipush 60, 2) := by decide +kernel
theorem dX2_init_47 : decode cX2_init 47 = .ok (.newarray .int, 2) := by decide +kernel
theorem dX2_init_49 : decode cX2_init 49 = .ok (.putfield 27, 3) := by decide +kernel
theorem dX2_init_52 : decode cX2_init 52 = .ok (.aload_n 0, 1) := by decide +kernel
theorem dX2_init_53 : decode cX2_init 53 = .ok (.sipush 200, 3) := by decide +kernel
theorem dX2_init_56 : decode cX2_init 56 = .ok (.newarray .int, 2) := by decide +kernel
theorem dX2_init_58 : decode cX2_init 58 = .ok (.putfield 30, 3) := by decide +kernel
theorem dX2_init_61 : decode cX2_init 61 = .ok (.aload_n 0, 1) := by decide +kernel
theorem dX2_init_62 : decode cX2_init 62 = .ok (.sipush 200, 3) := by decide +kernel
theorem dX2_init_65 : decode cX2_init 65 = .ok (.newarray .int, 2) := by decide +kernel
theorem dX2_init_67 : decode cX2_init 67 = .ok (.putfield 33, 3) := by decide +kernel
theorem dX2_init_70 : decode cX2_init 70 = .ok (.aload_n 0, 1) := by decide +kernel
theorem dX2_init_71 : decode cX2_init 71 = .ok (.sipush 200, 3) := by decide +kernel
theorem dX2_init_74 : decode cX2_init 74 = .ok (.newarray .int, 2) := by decide +kernel
theorem dX2_init_76 : decode cX2_init 76 = .ok (.putfield 36, 3) := by decide +kernel
theorem dX2_init_79 : decode cX2_init 79 = .ok (.return_, 1) := by decide +kernel
set_option maxRecDepth 20000 in
theorem ggX2_has_X10_isBelow : GoodIn wsX2_has wsX10_isBelow := goodIn_r _ [4] (by decide +kernel) (by decide +kernel)
set_option maxRecDepth 20000 in
theorem gX2_has_X10_isBelow_n43 : GoodIn wsX2_has (wsX10_isBelow) := ggX2_has_X10_isBelow
theorem dX2_has_0 : decode cX2_has 0 = .ok (.iload_n 1, 1) := by decide +kernel
theorem dX2_has_1 : decode cX2_has 1 = .ok (.aload_n 0, 1) := by decide +kernel
theorem dX2_has_2 : decode cX2_has 2 = .ok (.getfield 39, 3) := by decide +kernel
theorem dX2_has_5 : decode cX2_has 5 = .ok (.invokestatic 43, 3) := by decide +kernel
theorem dX2_has_8 : decode cX2_has 8 = .ok (.ireturn, 1) := by decide +kernel
set_option maxRecDepth 20000 in
theorem ggX2_hasRow_X2_has : GoodIn wsX2_hasRow wsX2_has := goodIn_r _ [6, 1, 7, 8, 9, 10, 11, 12, 13, 14, 15, 16, 17, 18, 19, 20, 21] (by decide +kernel) (by decide +kernel)
set_option maxRecDepth 20000 in
theorem gX2_hasRow_X2_has : GoodIn wsX2_hasRow (wsV RX2 47 RX2 yX2_has wsX2_has) := goodIn_app (goodIn_of _ (by decide +kernel)) ggX2_hasRow_X2_has
theorem dX2_hasRow_0 : decode cX2_hasRow 0 = .ok (.aload_n 0, 1) := by decide +kernel
theorem dX2_hasRow_1 : decode cX2_hasRow 1 = .ok (.iload_n 1, 1) := by decide +kernel
theorem dX2_hasRow_2 : decode cX2_hasRow 2 = .ok (.invokevirtual 47, 3) := by decide +kernel
theorem dX2_hasRow_5 : decode cX2_hasRow 5 = .ok (.ifCond .eq 17, 3) := by decide +kernel
theorem dX2_hasRow_8 : decode cX2_hasRow 8 = .ok (.iload_n 2, 1) := by decide +kernel
theorem dX2_hasRow_9 : decode cX2_hasRow 9 = .ok (.aload_n 0, 1) := by decide +kernel
theorem dX2_hasRow_10 : decode cX2_hasRow 10 = .ok (.getfield 39, 3) := by decide +kernel
theorem dX2_hasRow_13 : decode cX2_hasRow 13 = .ok (.iload_n 1, 1) := by decide +kernel
theorem dX2_hasRow_14 : decode cX2_hasRow 14 = .ok (.isub, 1) := by decide +kernel
theorem dX2_hasRow_15 : decode cX2_hasRow 15 = .ok (.if_icmp .gt 7, 3) := by decide +kernel
theorem dX2_hasRow_18 : decode cX2_hasRow 18 = .ok (.iconst 1, 1) := by decide +kernel
theorem dX2_hasRow_19 : decode cX2_hasRow 19 = .ok (.goto 4, 3) := by decide +kernel
theorem dX2_hasRow_22 : decode cX2_hasRow 22 = .ok (.iconst 0, 1) := by decide +kernel
theorem dX2_hasRow_23 : decode cX2_hasRow 23 = .ok (.ireturn, 1) := by decide +kernel
set_option maxRecDepth 20000 in
theorem ggX2_placeOf_X2_has : GoodIn wsX2_placeOf wsX2_has := goodIn_r _ [6, 7, 8, 9, 10, 11, 12, 13, 14, 15, 16, 17, 18, 19, 20, 21, 22] (by decide +kernel) (by decide +kernel)
set_option maxRecDepth 20000 in
theorem gX2_placeOf_X2_has : GoodIn wsX2_placeOf (wsV RX2 47 RX2 yX2_has wsX2_has) := goodIn_app (goodIn_of _ (by decide +kernel)) ggX2_placeOf_X2_has
theorem dX2_placeOf_0 : decode cX2_placeOf 0 = .ok (.aload_n 0, 1) := by decide +kernel
theorem dX2_placeOf_1 : decode cX2_placeOf 1 = .ok (.iload_n 1, 1) := by decide +kernel
theorem dX2_placeOf_2 : decode cX2_placeOf 2 = .ok (.invokevirtual 47, 3) := by decide +kernel
theorem dX2_placeOf_5 : decode cX2_placeOf 5 = .ok (.ifCond .eq 12, 3) := by decide +kernel
theorem dX2_placeOf_8 : decode cX2_placeOf 8 = .ok (.aload_n 0, 1) := by decide +kernel
theorem dX2_placeOf_9 : decode cX2_placeOf 9 = .ok (.getfield 9, 3) := by decide +kernel
theorem dX2_placeOf_12 : decode cX2_placeOf 12 = .ok (.iload_n 1, 1) := by decide +kernel
theorem dX2_placeOf_13 : decode cX2_placeOf 13 = .ok (.iaload, 1) := by decide +kernel
theorem dX2_placeOf_14 : decode cX2_placeOf 14 = .ok (.goto 4, 3) := by decide +kernel
theorem dX2_placeOf_17 : decode cX2_placeOf 17 = .ok (.iconst 0, 1) := by decide +kernel
theorem dX2_placeOf_18 : decode cX2_placeOf 18 = .ok (.ireturn, 1) := by decide +kernel
set_option maxRecDepth 20000 in
theorem ggX2_areaOf_X2_has : GoodIn wsX2_areaOf wsX2_has := goodIn_r _ [6, 7, 8, 9, 10, 11, 12, 13, 14, 15, 16, 17, 18, 19, 20, 21, 22] (by decide +kernel) (by decide +kernel)
set_option maxRecDepth 20000 in
theorem gX2_areaOf_X2_has : GoodIn wsX2_areaOf (wsV RX2 47 RX2 yX2_has wsX2_has) := goodIn_app (goodIn_of _ (by decide +kernel)) ggX2_areaOf_X2_has
theorem dX2_areaOf_0 : decode cX2_areaOf 0 = .ok (.aload_n 0, 1) := by decide +kernel
theorem dX2_areaOf_1 : decode cX2_areaOf 1 = .ok (.iload_n 1, 1) := by decide +kernel
theorem dX2_areaOf_2 : decode cX2_areaOf 2 = .ok (.invokevirtual 47, 3) := by decide +kernel
theorem dX2_areaOf_5 : decode cX2_areaOf 5 = .ok (.ifCond .eq 12, 3) := by decide +kernel
theorem dX2_areaOf_8 : decode cX2_areaOf 8 = .ok (.aload_n 0, 1) := by decide +kernel
theorem dX2_areaOf_9 : decode cX2_areaOf 9 = .ok (.getfield 15, 3) := by decide +kernel
theorem dX2_areaOf_12 : decode cX2_areaOf 12 = .ok (.iload_n 1, 1) := by decide +kernel
theorem dX2_areaOf_13 : decode cX2_areaOf 13 = .ok (.iaload, 1) := by decide +kernel
theorem dX2_areaOf_14 : decode cX2_areaOf 14 = .ok (.goto 4, 3) := by decide +kernel
theorem dX2_areaOf_17 : decode cX2_areaOf 17 = .ok (.iconst 0, 1) := by decide +kernel
theorem dX2_areaOf_18 : decode cX2_areaOf 18 = .ok (.ireturn, 1) := by decide +kernel
set_option maxRecDepth 20000 in
theorem ggX2_soilOf_X2_has : GoodIn wsX2_soilOf wsX2_has := goodIn_r _ [6, 7, 8, 9, 10, 11, 12, 13, 14, 15, 16, 17, 18, 19, 20, 21, 22] (by decide +kernel) (by decide +kernel)
set_option maxRecDepth 20000 in
theorem gX2_soilOf_X2_has : GoodIn wsX2_soilOf (wsV RX2 47 RX2 yX2_has wsX2_has) := goodIn_app (goodIn_of _ (by decide +kernel)) ggX2_soilOf_X2_has
theorem dX2_soilOf_0 : decode cX2_soilOf 0 = .ok (.aload_n 0, 1) := by decide +kernel
theorem dX2_soilOf_1 : decode cX2_soilOf 1 = .ok (.iload_n 1, 1) := by decide +kernel
theorem dX2_soilOf_2 : decode cX2_soilOf 2 = .ok (.invokevirtual 47, 3) := by decide +kernel
theorem dX2_soilOf_5 : decode cX2_soilOf 5 = .ok (.ifCond .eq 12, 3) := by decide +kernel
theorem dX2_soilOf_8 : decode cX2_soilOf 8 = .ok (.aload_n 0, 1) := by decide +kernel
theorem dX2_soilOf_9 : decode cX2_soilOf 9 = .ok (.getfield 18, 3) := by decide +kernel
theorem dX2_soilOf_12 : decode cX2_soilOf 12 = .ok (.iload_n 1, 1) := by decide +kernel
theorem dX2_soilOf_13 : decode cX2_soilOf 13 = .ok (.iaload, 1) := by decide +kernel
theorem dX2_soilOf_14 : decode cX2_soilOf 14 = .ok (.goto 4, 3) := by decide +kernel
theorem dX2_soilOf_17 : decode cX2_soilOf 17 = .ok (.iconst 0, 1) := by decide +kernel
theorem dX2_soilOf_18 : decode cX2_soilOf 18 = .ok (.ireturn, 1) := by decide +kernel
set_option maxRecDepth 20000 in
theorem ggX2_cropOf_X2_has : GoodIn wsX2_cropOf wsX2_has := goodIn_r _ [6, 7, 8, 9, 10, 11, 12, 13, 14, 15, 16, 17, 18, 19, 20, 21, 22] (by decide +kernel) (by decide +kernel)
set_option maxRecDepth 20000 in
theorem gX2_cropOf_X2_has : GoodIn wsX2_cropOf (wsV RX2 47 RX2 yX2_has wsX2_has) := goodIn_app (goodIn_of _ (by decide +kernel)) ggX2_cropOf_X2_has
theorem dX2_cropOf_0 : decode cX2_cropOf 0 = .ok (.aload_n 0, 1) := by decide +kernel
theorem dX2_cropOf_1 : decode cX2_cropOf 1 = .ok (.iload_n 1, 1) := by decide +kernel
theorem dX2_cropOf_2 : decode cX2_cropOf 2 = .ok (.invokevirtual 47, 3) := by decide +kernel
theorem dX2_cropOf_5 : decode cX2_cropOf 5 = .ok (.ifCond .eq 12, 3) := by decide +kernel
theorem dX2_cropOf_8 : decode cX2_cropOf 8 = .ok (.aload_n 0, 1) := by decide +kernel
theorem dX2_cropOf_9 : decode cX2_cropOf 9 = .ok (.getfield 21, 3) := by decide +kernel
theorem dX2_cropOf_12 : decode cX2_cropOf 12 = .ok (.iload_n 1, 1) := by decide +kernel
theorem dX2_cropOf_13 : decode cX2_cropOf 13 = .ok (.iaload, 1) := by decide +kernel
theorem dX2_cropOf_14 : decode cX2_cropOf 14 = .ok (.goto 4, 3) := by decide +kernel
theorem dX2_cropOf_17 : decode cX2_cropOf 17 = .ok (.iconst 0, 1) := by decide +kernel
theorem dX2_cropOf_18 : decode cX2_cropOf 18 = .ok (.ireturn, 1) := by decide +kernel
set_option maxRecDepth 20000 in
theorem ggX2_ownerOf_X2_has : GoodIn wsX2_ownerOf wsX2_has := goodIn_r _ [6, 7, 8, 9, 10, 11, 12, 13, 14, 15, 16, 17, 18, 19, 20, 21, 22] (by decide +kernel) (by decide +kernel)
set_option maxRecDepth 20000 in
theorem gX2_ownerOf_X2_has : GoodIn wsX2_ownerOf (wsV RX2 47 RX2 yX2_has wsX2_has) := goodIn_app (goodIn_of _ (by decide +kernel)) ggX2_ownerOf_X2_has
theorem dX2_ownerOf_0 : decode cX2_ownerOf 0 = .ok (.aload_n 0, 1) := by decide +kernel
theorem dX2_ownerOf_1 : decode cX2_ownerOf 1 = .ok (.iload_n 1, 1) := by decide +kernel
theorem dX2_ownerOf_2 : decode cX2_ownerOf 2 = .ok (.invokevirtual 47, 3) := by decide +kernel
theorem dX2_ownerOf_5 : decode cX2_ownerOf 5 = .ok (.ifCond .eq 12, 3) := by decide +kernel
theorem dX2_ownerOf_8 : decode cX2_ownerOf 8 = .ok (.aload_n 0, 1) := by decide +kernel
theorem dX2_ownerOf_9 : decode cX2_ownerOf 9 = .ok (.getfield 27, 3) := by decide +kernel
theorem dX2_ownerOf_12 : decode cX2_ownerOf 12 = .ok (.iload_n 1, 1) := by decide +kernel
theorem dX2_ownerOf_13 : decode cX2_ownerOf 13 = .ok (.iaload, 1) := by decide +kernel
theorem dX2_ownerOf_14 : decode cX2_ownerOf 14 = .ok (.goto 4, 3) := by decide +kernel
theorem dX2_ownerOf_17 : decode cX2_ownerOf 17 = .ok (.iconst (-1), 1) := by decide +kernel
theorem dX2_ownerOf_18 : decode cX2_ownerOf 18 = .ok (.ireturn, 1) := by decide +kernel
set_option maxRecDepth 20000 in
theorem ggX2_standardOf_X2_areaOf : GoodIn wsX2_standardOf wsX2_areaOf := goodIn_r _ [5, 6, 7, 8, 9, 4, 10, 11, 12, 13, 14, 26, 27, 28, 29, 30, 31, 32, 33, 34, 35, 36, 37] (by decide +kernel) (by decide +kernel)
set_option maxRecDepth 20000 in
theorem gX2_standardOf_X2_areaOf : GoodIn wsX2_standardOf (wsV RX2 51 RX2 yX2_areaOf wsX2_areaOf) := goodIn_app (goodIn_of _ (by decide +kernel)) ggX2_standardOf_X2_areaOf
set_option maxRecDepth 20000 in
theorem ggX2_standardOf_X2_soilOf : GoodIn wsX2_standardOf wsX2_soilOf := goodIn_r _ [18, 19, 7, 8, 9, 4, 10, 11, 12, 13, 14, 26, 27, 28, 29, 30, 31, 32, 33, 34, 35, 36, 37] (by decide +kernel) (by decide +kernel)
set_option maxRecDepth 20000 in
theorem gX2_standardOf_X2_soilOf : GoodIn wsX2_standardOf (wsV RX2 55 RX2 yX2_soilOf wsX2_soilOf) := goodIn_app (goodIn_of _ (by decide +kernel)) ggX2_standardOf_X2_soilOf
set_option maxRecDepth 20000 in
theorem ggX2_standardOf_X3_soilIs : GoodIn wsX2_standardOf wsX3_soilIs := goodIn_r _ [24, 25, 12, 13, 14, 38, 39, 40, 41, 42, 43, 44, 45, 46] (by decide +kernel) (by decide +kernel)
set_option maxRecDepth 20000 in
theorem gX2_standardOf_X3_soilIs : GoodIn wsX2_standardOf (wsV RX2 58 RX3 yX3_soilIs wsX3_soilIs) := goodIn_app (goodIn_of _ (by decide +kernel)) ggX2_standardOf_X3_soilIs
theorem dX2_standardOf_0 : decode cX2_standardOf 0 = .ok (.aload_n 0, 1) := by decide +kernel
theorem dX2_standardOf_1 : decode cX2_standardOf 1 = .ok (.iload_n 1, 1) := by decide +kernel
theorem dX2_standardOf_2 : decode cX2_standardOf 2 = .ok (.invokevirtual 51, 3) := by decide +kernel
theorem dX2_standardOf_5 : decode cX2_standardOf 5 = .ok (.aload_n 2, 1) := by decide +kernel
theorem dX2_standardOf_6 : decode cX2_standardOf 6 = .ok (.aload_n 0, 1) := by decide +kernel
theorem dX2_standardOf_7 : decode cX2_standardOf 7 = .ok (.iload_n 1, 1) := by decide +kernel
theorem dX2_standardOf_8 : decode cX2_standardOf 8 = .ok (.invokevirtual 55, 3) := by decide +kernel
theorem dX2_standardOf_11 : decode cX2_standardOf 11 = .ok (.invokevirtual 58, 3) := by decide +kernel
theorem dX2_standardOf_14 : decode cX2_standardOf 14 = .ok (.imul, 1) := by decide +kernel
theorem dX2_standardOf_15 : decode cX2_standardOf 15 = .ok (.bipush 10, 2) := by decide +kernel
theorem dX2_standardOf_17 : decode cX2_standardOf 17 = .ok (.idiv, 1) := by decide +kernel
theorem dX2_standardOf_18 : decode cX2_standardOf 18 = .ok (.ireturn, 1) := by decide +kernel
set_option maxRecDepth 20000 in
theorem ggX2_distance_X2_placeOf : GoodIn wsX2_distance wsX2_placeOf := goodIn_r _ [9, 10, 11, 12, 13, 8, 14, 15, 16, 17, 18, 19, 20, 21, 22, 23, 24, 25, 26, 27, 28, 29, 30] (by decide +kernel) (by decide +kernel)
set_option maxRecDepth 20000 in
theorem gX2_distance_X2_placeOf : GoodIn wsX2_distance (wsV RX2 63 RX2 yX2_placeOf wsX2_placeOf) := goodIn_app (goodIn_of _ (by decide +kernel)) ggX2_distance_X2_placeOf
theorem dX2_distance_0 : decode cX2_distance 0 = .ok (.aload_n 0, 1) := by decide +kernel
theorem dX2_distance_1 : decode cX2_distance 1 = .ok (.iload_n 1, 1) := by decide +kernel
theorem dX2_distance_2 : decode cX2_distance 2 = .ok (.invokevirtual 63, 3) := by decide +kernel
theorem dX2_distance_5 : decode cX2_distance 5 = .ok (.iload_n 2, 1) := by decide +kernel
theorem dX2_distance_6 : decode cX2_distance 6 = .ok (.isub, 1) := by decide +kernel
theorem dX2_distance_7 : decode cX2_distance 7 = .ok (.invokestatic 66, 3) := by decide +kernel
theorem dX2_distance_10 : decode cX2_distance 10 = .ok (.ireturn, 1) := by decide +kernel
theorem dX2_transfersLeft_0 : decode cX2_transfersLeft 0 = .ok (.sipush 200, 3) := by decide +kernel
theorem dX2_transfersLeft_3 : decode cX2_transfersLeft 3 = .ok (.aload_n 0, 1) := by decide +kernel
theorem dX2_transfersLeft_4 : decode cX2_transfersLeft 4 = .ok (.getfield 71, 3) := by decide +kernel
theorem dX2_transfersLeft_7 : decode cX2_transfersLeft 7 = .ok (.isub, 1) := by decide +kernel
theorem dX2_transfersLeft_8 : decode cX2_transfersLeft 8 = .ok (.ireturn, 1) := by decide +kernel
theorem dX2_add_0 : decode cX2_add 0 = .ok (.aload_n 0, 1) := by decide +kernel
theorem dX2_add_1 : decode cX2_add 1 = .ok (.getfield 39, 3) := by decide +kernel
theorem dX2_add_4 : decode cX2_add 4 = .ok (.bipush 60, 2) := by decide +kernel
theorem dX2_add_6 : decode cX2_add 6 = .ok (.if_icmp .lt 5, 3) := by decide +kernel
theorem dX2_add_9 : decode cX2_add 9 = .ok (.iconst (-1), 1) := by decide +kernel
theorem dX2_add_10 : decode cX2_add 10 = .ok (.ireturn, 1) := by decide +kernel
theorem dX2_add_11 : decode cX2_add 11 = .ok (.aload_n 0, 1) := by decide +kernel
theorem dX2_add_12 : decode cX2_add 12 = .ok (.getfield 9, 3) := by decide +kernel
theorem dX2_add_15 : decode cX2_add 15 = .ok (.aload_n 0, 1) := by decide +kernel
theorem dX2_add_16 : decode cX2_add 16 = .ok (.getfield 39, 3) := by decide +kernel
theorem dX2_add_19 : decode cX2_add 19 = .ok (.iload_n 1, 1) := by decide +kernel
theorem dX2_add_20 : decode cX2_add 20 = .ok (.iastore, 1) := by decide +kernel
theorem dX2_add_21 : decode cX2_add 21 = .ok (.aload_n 0, 1) := by decide +kernel
theorem dX2_add_22 : decode cX2_add 22 = .ok (.getfield 15, 3) := by decide +kernel
theorem dX2_add_25 : decode cX2_add 25 = .ok (.aload_n 0, 1) := by decide +kernel
theorem dX2_add_26 : decode cX2_add 26 = .ok (.getfield 39, 3) := by decide +kernel
theorem dX2_add_29 : decode cX2_add 29 = .ok (.iload_n 2, 1) := by decide +kernel
theorem dX2_add_30 : decode cX2_add 30 = .ok (.iastore, 1) := by decide +kernel
theorem dX2_add_31 : decode cX2_add 31 = .ok (.aload_n 0, 1) := by decide +kernel
theorem dX2_add_32 : decode cX2_add 32 = .ok (.getfield 18, 3) := by decide +kernel
theorem dX2_add_35 : decode cX2_add 35 = .ok (.aload_n 0, 1) := by decide +kernel
theorem dX2_add_36 : decode cX2_add 36 = .ok (.getfield 39, 3) := by decide +kernel
theorem dX2_add_39 : decode cX2_add 39 = .ok (.iload_n 3, 1) := by decide +kernel
theorem dX2_add_40 : decode cX2_add 40 = .ok (.iastore, 1) := by decide +kernel
theorem dX2_add_41 : decode cX2_add 41 = .ok (.aload_n 0, 1) := by decide +kernel
theorem dX2_add_42 : decode cX2_add 42 = .ok (.getfield 21, 3) := by decide +kernel
theorem dX2_add_45 : decode cX2_add 45 = .ok (.aload_n 0, 1) := by decide +kernel
theorem dX2_add_46 : decode cX2_add 46 = .ok (.getfield 39, 3) := by decide +kernel
theorem dX2_add_49 : decode cX2_add 49 = .ok (.iload 4, 2) := by decide +kernel
theorem dX2_add_51 : decode cX2_add 51 = .ok (.iastore, 1) := by decide +kernel
theorem dX2_add_52 : decode cX2_add 52 = .ok (.aload_n 0, 1) := by decide +kernel
theorem dX2_add_53 : decode cX2_add 53 = .ok (.getfield 24, 3) := by decide +kernel
theorem dX2_add_56 : decode cX2_add 56 = .ok (.aload_n 0, 1) := by decide +kernel
theorem dX2_add_57 : decode cX2_add 57 = .ok (.getfield 39, 3) := by decide +kernel
theorem dX2_add_60 : decode cX2_add 60 = .ok (.iload 5, 2) := by decide +kernel
theorem dX2_add_62 : decode cX2_add 62 = .ok (.iastore, 1) := by decide +kernel
theorem dX2_add_63 : decode cX2_add 63 = .ok (.aload_n 0, 1) := by decide +kernel
theorem dX2_add_64 : decode cX2_add 64 = .ok (.getfield 27, 3) := by decide +kernel
theorem dX2_add_67 : decode cX2_add 67 = .ok (.aload_n 0, 1) := by decide +kernel
theorem dX2_add_68 : decode cX2_add 68 = .ok (.getfield 39, 3) := by decide +kernel
theorem dX2_add_71 : decode cX2_add 71 = .ok (.iload 5, 2) := by decide +kernel
theorem dX2_add_73 : decode cX2_add 73 = .ok (.iastore, 1) := by decide +kernel
theorem dX2_add_74 : decode cX2_add 74 = .ok (.aload_n 0, 1) := by decide +kernel
theorem dX2_add_75 : decode cX2_add 75 = .ok (.dup, 1) := by decide +kernel
theorem dX2_add_76 : decode cX2_add 76 = .ok (.getfield 39, 3) := by decide +kernel
theorem dX2_add_79 : decode cX2_add 79 = .ok (.iconst 1, 1) := by decide +kernel
theorem dX2_add_80 : decode cX2_add 80 = .ok (.iadd, 1) := by decide +kernel
theorem dX2_add_81 : decode cX2_add 81 = .ok (.putfield 39, 3) := by decide +kernel
theorem dX2_add_84 : decode cX2_add 84 = .ok (.aload_n 0, 1) := by decide +kernel
theorem dX2_add_85 : decode cX2_add 85 = .ok (.getfield 39, 3) := by decide +kernel
theorem dX2_add_88 : decode cX2_add 88 = .ok (.iconst 1, 1) := by decide +kernel
theorem dX2_add_89 : decode cX2_add 89 = .ok (.isub, 1) := by decide +kernel
theorem dX2_add_90 : decode cX2_add 90 = .ok (.ireturn, 1) := by decide +kernel
set_option maxRecDepth 20000 in
theorem ggX2_move_X2_has : GoodIn wsX2_move wsX2_has := goodIn_r _ [11, 12, 13, 14, 15, 16, 17, 18, 19, 20, 21, 22, 23, 24, 25, 26, 27] (by decide +kernel) (by decide +kernel)
set_option maxRecDepth 20000 in
theorem gX2_move_X2_has : GoodIn wsX2_move (wsV RX2 47 RX2 yX2_has wsX2_has) := goodIn_app (goodIn_of _ (by decide +kernel)) ggX2_move_X2_has
theorem dX2_move_0 : decode cX2_move 0 = .ok (.aload_n 0, 1) := by decide +kernel
theorem dX2_move_1 : decode cX2_move 1 = .ok (.iload_n 1, 1) := by decide +kernel
theorem dX2_move_2 : decode cX2_move 2 = .ok (.invokevirtual 47, 3) := by decide +kernel
theorem dX2_move_5 : decode cX2_move 5 = .ok (.ifCond .eq 13, 3) := by decide +kernel
theorem dX2_move_8 : decode cX2_move 8 = .ok (.aload_n 0, 1) := by decide +kernel
theorem dX2_move_9 : decode cX2_move 9 = .ok (.getfield 71, 3) := by decide +kernel
theorem dX2_move_12 : decode cX2_move 12 = .ok (.sipush 200, 3) := by decide +kernel
theorem dX2_move_15 : decode cX2_move 15 = .ok (.if_icmp .lt 4, 3) := by decide +kernel
theorem dX2_move_18 : decode cX2_move 18 = .ok (.return_, 1) := by decide +kernel
theorem dX2_move_19 : decode cX2_move 19 = .ok (.aload_n 0, 1) := by decide +kernel
theorem dX2_move_20 : decode cX2_move 20 = .ok (.getfield 30, 3) := by decide +kernel
theorem dX2_move_23 : decode cX2_move 23 = .ok (.aload_n 0, 1) := by decide +kernel
theorem dX2_move_24 : decode cX2_move 24 = .ok (.getfield 71, 3) := by decide +kernel
theorem dX2_move_27 : decode cX2_move 27 = .ok (.iload_n 1, 1) := by decide +kernel
theorem dX2_move_28 : decode cX2_move 28 = .ok (.iastore, 1) := by decide +kernel
theorem dX2_move_29 : decode cX2_move 29 = .ok (.aload_n 0, 1) := by decide +kernel
theorem dX2_move_30 : decode cX2_move 30 = .ok (.getfield 33, 3) := by decide +kernel
theorem dX2_move_33 : decode cX2_move 33 = .ok (.aload_n 0, 1) := by decide +kernel
theorem dX2_move_34 : decode cX2_move 34 = .ok (.getfield 71, 3) := by decide +kernel
theorem dX2_move_37 : decode cX2_move 37 = .ok (.iload_n 2, 1) := by decide +kernel
theorem dX2_move_38 : decode cX2_move 38 = .ok (.iastore, 1) := by decide +kernel
theorem dX2_move_39 : decode cX2_move 39 = .ok (.aload_n 0, 1) := by decide +kernel
theorem dX2_move_40 : decode cX2_move 40 = .ok (.getfield 36, 3) := by decide +kernel
theorem dX2_move_43 : decode cX2_move 43 = .ok (.aload_n 0, 1) := by decide +kernel
theorem dX2_move_44 : decode cX2_move 44 = .ok (.getfield 71, 3) := by decide +kernel
theorem dX2_move_47 : decode cX2_move 47 = .ok (.aload_n 0, 1) := by decide +kernel
theorem dX2_move_48 : decode cX2_move 48 = .ok (.getfield 74, 3) := by decide +kernel
theorem dX2_move_51 : decode cX2_move 51 = .ok (.iastore, 1) := by decide +kernel
theorem dX2_move_52 : decode cX2_move 52 = .ok (.aload_n 0, 1) := by decide +kernel
theorem dX2_move_53 : decode cX2_move 53 = .ok (.dup, 1) := by decide +kernel
theorem dX2_move_54 : decode cX2_move 54 = .ok (.getfield 71, 3) := by decide +kernel
theorem dX2_move_57 : decode cX2_move 57 = .ok (.iconst 1, 1) := by decide +kernel
theorem dX2_move_58 : decode cX2_move 58 = .ok (.iadd, 1) := by decide +kernel
theorem dX2_move_59 : decode cX2_move 59 = .ok (.putfield 71, 3) := by decide +kernel
theorem dX2_move_62 : decode cX2_move 62 = .ok (.aload_n 0, 1) := by decide +kernel
theorem dX2_move_63 : decode cX2_move 63 = .ok (.getfield 27, 3) := by decide +kernel
theorem dX2_move_66 : decode cX2_move 66 = .ok (.iload_n 1, 1) := by decide +kernel
theorem dX2_move_67 : decode cX2_move 67 = .ok (.iload_n 2, 1) := by decide +kernel
theorem dX2_move_68 : decode cX2_move 68 = .ok (.iastore, 1) := by decide +kernel
theorem dX2_move_69 : decode cX2_move 69 = .ok (.return_, 1) := by decide +kernel
theorem dX2_transfersOf_0 : decode cX2_transfersOf 0 = .ok (.iconst 0, 1) := by decide +kernel
theorem dX2_transfersOf_1 : decode cX2_transfersOf 1 = .ok (.istore_n 2, 1) := by decide +kernel
theorem dX2_transfersOf_2 : decode cX2_transfersOf 2 = .ok (.iconst 0, 1) := by decide +kernel
theorem dX2_transfersOf_3 : decode cX2_transfersOf 3 = .ok (.istore_n 3, 1) := by decide +kernel
theorem dX2_transfersOf_4 : decode cX2_transfersOf 4 = .ok (.iload_n 3, 1) := by decide +kernel
theorem dX2_transfersOf_5 : decode cX2_transfersOf 5 = .ok (.aload_n 0, 1) := by decide +kernel
theorem dX2_transfersOf_6 : decode cX2_transfersOf 6 = .ok (.getfield 71, 3) := by decide +kernel
theorem dX2_transfersOf_9 : decode cX2_transfersOf 9 = .ok (.if_icmp .ge 22, 3) := by decide +kernel
theorem dX2_transfersOf_12 : decode cX2_transfersOf 12 = .ok (.aload_n 0, 1) := by decide +kernel
theorem dX2_transfersOf_13 : decode cX2_transfersOf 13 = .ok (.getfield 30, 3) := by decide +kernel
theorem dX2_transfersOf_16 : decode cX2_transfersOf 16 = .ok (.iload_n 3, 1) := by decide +kernel
theorem dX2_transfersOf_17 : decode cX2_transfersOf 17 = .ok (.iaload, 1) := by decide +kernel
theorem dX2_transfersOf_18 : decode cX2_transfersOf 18 = .ok (.iload_n 1, 1) := by decide +kernel
theorem dX2_transfersOf_19 : decode cX2_transfersOf 19 = .ok (.if_icmp .ne 6, 3) := by decide +kernel
theorem dX2_transfersOf_22 : decode cX2_transfersOf 22 = .ok (.iinc 2 1, 3) := by decide +kernel
theorem dX2_transfersOf_25 : decode cX2_transfersOf 25 = .ok (.iinc 3 1, 3) := by decide +kernel
theorem dX2_transfersOf_28 : decode cX2_transfersOf 28 = .ok (.goto (-24), 3) := by decide +kernel
theorem dX2_transfersOf_31 : decode cX2_transfersOf 31 = .ok (.iload_n 2, 1) := by decide +kernel
theorem dX2_transfersOf_32 : decode cX2_transfersOf 32 = .ok (.ireturn, 1) := by decide +kernel
set_option maxRecDepth 20000 in
theorem ggX2_ownerAsDayEnded_X2_has : GoodIn wsX2_ownerAsDayEnded wsX2_has := goodIn_r _ [10, 11, 12, 13, 14, 15, 16, 17, 18, 19, 20, 21, 22, 23, 24, 25, 26] (by decide +kernel) (by decide +kernel)
set_option maxRecDepth 20000 in
theorem gX2_ownerAsDayEnded_X2_has : GoodIn wsX2_ownerAsDayEnded (wsV RX2 47 RX2 yX2_has wsX2_has) := goodIn_app (goodIn_of _ (by decide +kernel)) ggX2_ownerAsDayEnded_X2_has
theorem dX2_ownerAsDayEnded_0 : decode cX2_ownerAsDayEnded 0 = .ok (.aload_n 0, 1) := by decide +kernel
theorem dX2_ownerAsDayEnded_1 : decode cX2_ownerAsDayEnded 1 = .ok (.iload_n 1, 1) := by decide +kernel
theorem dX2_ownerAsDayEnded_2 : decode cX2_ownerAsDayEnded 2 = .ok (.invokevirtual 47, 3) := by decide +kernel
theorem dX2_ownerAsDayEnded_5 : decode cX2_ownerAsDayEnded 5 = .ok (.ifCond .eq 12, 3) := by decide +kernel
theorem dX2_ownerAsDayEnded_8 : decode cX2_ownerAsDayEnded 8 = .ok (.aload_n 0, 1) := by decide +kernel
theorem dX2_ownerAsDayEnded_9 : decode cX2_ownerAsDayEnded 9 = .ok (.getfield 24, 3) := by decide +kernel
theorem dX2_ownerAsDayEnded_12 : decode cX2_ownerAsDayEnded 12 = .ok (.iload_n 1, 1) := by decide +kernel
theorem dX2_ownerAsDayEnded_13 : decode cX2_ownerAsDayEnded 13 = .ok (.iaload, 1) := by decide +kernel
theorem dX2_ownerAsDayEnded_14 : decode cX2_ownerAsDayEnded 14 = .ok (.goto 4, 3) := by decide +kernel
theorem dX2_ownerAsDayEnded_17 : decode cX2_ownerAsDayEnded 17 = .ok (.iconst (-1), 1) := by decide +kernel
theorem dX2_ownerAsDayEnded_18 : decode cX2_ownerAsDayEnded 18 = .ok (.istore_n 3, 1) := by decide +kernel
theorem dX2_ownerAsDayEnded_19 : decode cX2_ownerAsDayEnded 19 = .ok (.iconst 0, 1) := by decide +kernel
theorem dX2_ownerAsDayEnded_20 : decode cX2_ownerAsDayEnded 20 = .ok (.istore 4, 2) := by decide +kernel
theorem dX2_ownerAsDayEnded_22 : decode cX2_ownerAsDayEnded 22 = .ok (.iload 4, 2) := by decide +kernel
theorem dX2_ownerAsDayEnded_24 : decode cX2_ownerAsDayEnded 24 = .ok (.aload_n 0, 1) := by decide +kernel
theorem dX2_ownerAsDayEnded_25 : decode cX2_ownerAsDayEnded 25 = .ok (.getfield 71, 3) := by decide +kernel
theorem dX2_ownerAsDayEnded_28 : decode cX2_ownerAsDayEnded 28 = .ok (.if_icmp .ge 39, 3) := by decide +kernel
theorem dX2_ownerAsDayEnded_31 : decode cX2_ownerAsDayEnded 31 = .ok (.aload_n 0, 1) := by decide +kernel
theorem dX2_ownerAsDayEnded_32 : decode cX2_ownerAsDayEnded 32 = .ok (.getfield 36, 3) := by decide +kernel
theorem dX2_ownerAsDayEnded_35 : decode cX2_ownerAsDayEnded 35 = .ok (.iload 4, 2) := by decide +kernel
theorem dX2_ownerAsDayEnded_37 : decode cX2_ownerAsDayEnded 37 = .ok (.iaload, 1) := by decide +kernel
theorem dX2_ownerAsDayEnded_38 : decode cX2_ownerAsDayEnded 38 = .ok (.iload_n 2, 1) := by decide +kernel
theorem dX2_ownerAsDayEnded_39 : decode cX2_ownerAsDayEnded 39 = .ok (.if_icmp .gt 28, 3) := by decide +kernel
theorem dX2_ownerAsDayEnded_42 : decode cX2_ownerAsDayEnded 42 = .ok (.aload_n 0, 1) := by decide +kernel
theorem dX2_ownerAsDayEnded_43 : decode cX2_ownerAsDayEnded 43 = .ok (.getfield 30, 3) := by decide +kernel
theorem dX2_ownerAsDayEnded_46 : decode cX2_ownerAsDayEnded 46 = .ok (.iload 4, 2) := by decide +kernel
theorem dX2_ownerAsDayEnded_48 : decode cX2_ownerAsDayEnded 48 = .ok (.iaload, 1) := by decide +kernel
theorem dX2_ownerAsDayEnded_49 : decode cX2_ownerAsDayEnded 49 = .ok (.iload_n 1, 1) := by decide +kernel
theorem dX2_ownerAsDayEnded_50 : decode cX2_ownerAsDayEnded 50 = .ok (.if_icmp .ne 11, 3) := by decide +kernel
theorem dX2_ownerAsDayEnded_53 : decode cX2_ownerAsDayEnded 53 = .ok (.aload_n 0, 1) := by decide +kernel
theorem dX2_ownerAsDayEnded_54 : decode cX2_ownerAsDayEnded 54 = .ok (.getfield 33, 3) := by decide +kernel
theorem dX2_ownerAsDayEnded_57 : decode cX2_ownerAsDayEnded 57 = .ok (.iload 4, 2) := by decide +kernel
theorem dX2_ownerAsDayEnded_59 : decode cX2_ownerAsDayEnded 59 = .ok (.iaload, 1) := by decide +kernel
theorem dX2_ownerAsDayEnded_60 : decode cX2_ownerAsDayEnded 60 = .ok (.istore_n 3, 1) := by decide +kernel
theorem dX2_ownerAsDayEnded_61 : decode cX2_ownerAsDayEnded 61 = .ok (.iinc 4 1, 3) := by decide +kernel
theorem dX2_ownerAsDayEnded_64 : decode cX2_ownerAsDayEnded 64 = .ok (.goto (-42), 3) := by decide +kernel
theorem dX2_ownerAsDayEnded_67 : decode cX2_ownerAsDayEnded 67 = .ok (.iload_n 3, 1) := by decide +kernel
theorem dX2_ownerAsDayEnded_68 : decode cX2_ownerAsDayEnded 68 = .ok (.ireturn, 1) := by decide +kernel
theorem dX2_firstFieldOf_0 : decode cX2_firstFieldOf 0 = .ok (.iconst 0, 1) := by decide +kernel
theorem dX2_firstFieldOf_1 : decode cX2_firstFieldOf 1 = .ok (.istore_n 2, 1) := by decide +kernel
theorem dX2_firstFieldOf_2 : decode cX2_firstFieldOf 2 = .ok (.iload_n 2, 1) := by decide +kernel
theorem dX2_firstFieldOf_3 : decode cX2_firstFieldOf 3 = .ok (.aload_n 0, 1) := by decide +kernel
theorem dX2_firstFieldOf_4 : decode cX2_firstFieldOf 4 = .ok (.getfield 39, 3) := by decide +kernel
theorem dX2_firstFieldOf_7 : decode cX2_firstFieldOf 7 = .ok (.if_icmp .ge 21, 3) := by decide +kernel
theorem dX2_firstFieldOf_10 : decode cX2_firstFieldOf 10 = .ok (.aload_n 0, 1) := by decide +kernel
theorem dX2_firstFieldOf_11 : decode cX2_firstFieldOf 11 = .ok (.getfield 27, 3) := by decide +kernel
theorem dX2_firstFieldOf_14 : decode cX2_firstFieldOf 14 = .ok (.iload_n 2, 1) := by decide +kernel
theorem dX2_firstFieldOf_15 : decode cX2_firstFieldOf 15 = .ok (.iaload, 1) := by decide +kernel
theorem dX2_firstFieldOf_16 : decode cX2_firstFieldOf 16 = .ok (.iload_n 1, 1) := by decide +kernel
theorem dX2_firstFieldOf_17 : decode cX2_firstFieldOf 17 = .ok (.if_icmp .ne 5, 3) := by decide +kernel
theorem dX2_firstFieldOf_20 : decode cX2_firstFieldOf 20 = .ok (.iload_n 2, 1) := by decide +kernel
theorem dX2_firstFieldOf_21 : decode cX2_firstFieldOf 21 = .ok (.ireturn, 1) := by decide +kernel
theorem dX2_firstFieldOf_22 : decode cX2_firstFieldOf 22 = .ok (.iinc 2 1, 3) := by decide +kernel
theorem dX2_firstFieldOf_25 : decode cX2_firstFieldOf 25 = .ok (.goto (-23), 3) := by decide +kernel
theorem dX2_firstFieldOf_28 : decode cX2_firstFieldOf 28 = .ok (.iconst (-1), 1) := by decide +kernel
theorem dX2_firstFieldOf_29 : decode cX2_firstFieldOf 29 = .ok (.ireturn, 1) := by decide +kernel
set_option maxRecDepth 20000 in
theorem ggX3_init_X3_clear : GoodIn wsX3_init wsX3_clear := goodIn_r _ [10, 5, 11, 12, 13, 14, 15, 16, 17, 18, 19, 20, 21, 22, 23, 24, 25, 26, 27, 28, 29, 30, 31] (by decide +kernel) (by decide +kernel)
set_option maxRecDepth 20000 in
theorem gX3_init_X3_clear : GoodIn wsX3_init (wsV RX3 15 RX3 yX3_clear wsX3_clear) := goodIn_app (goodIn_of _ (by decide +kernel)) ggX3_init_X3_clear
theorem dX3_init_0 : decode cX3_init 0 = .ok (.aload_n 0, 1) := by decide +kernel
theorem dX3_init_1 : decode cX3_init 1 = .ok (.invokespecial 3, 3) := by decide +kernel
theorem dX3_init_4 : decode cX3_init 4 = .ok (.aload_n 0, 1) := by decide +kernel
theorem dX3_init_5 : decode cX3_init 5 = .ok (.iconst 4, 1) := by decide +kernel
theorem dX3_init_6 : decode cX3_init 6 = .ok (.newarray .int, 2) := by decide +kernel
theorem dX3_init_8 : decode cX3_init 8 = .ok (.putfield 9, 3) := by decide +kernel
theorem dX3_init_11 : decode cX3_init 11 = .ok (.aload_n 0, 1) := by decide +kernel
theorem dX3_init_12 : decode cX3_init 12 = .ok (.invokevirtual 15, 3) := by decide +kernel
theorem dX3_init_15 : decode cX3_init 15 = .ok (.return_, 1) := by decide +kernel
set_option maxRecDepth 20000 in
theorem ggX3_clear_J7_fill_53178 : GoodIn wsX3_clear wsJ7_fill_53178 := goodIn_r _ [13] (by decide +kernel) (by decide +kernel)
set_option maxRecDepth 20000 in
theorem gX3_clear_J7_fill_53178 : GoodIn wsX3_clear (va_wsS RX3 18 yJ7_fill_53178 wsJ7_fill_53178) := goodIn_app (goodIn_of _ (by decide +kernel)) ggX3_clear_J7_fill_53178
theorem dX3_clear_0 : decode cX3_clear 0 = .ok (.aload_n 0, 1) := by decide +kernel
theorem dX3_clear_1 : decode cX3_clear 1 = .ok (.getfield 9, 3) := by decide +kernel
theorem dX3_clear_4 : decode cX3_clear 4 = .ok (.bipush 10, 2) := by decide +kernel
theorem dX3_clear_6 : decode cX3_clear 6 = .ok (.invokestatic 18, 3) := by decide +kernel
theorem dX3_clear_9 : decode cX3_clear 9 = .ok (.aload_n 0, 1) := by decide +kernel
theorem dX3_clear_10 : decode cX3_clear 10 = .ok (.bipush 100, 2) := by decide +kernel
theorem dX3_clear_12 : decode cX3_clear 12 = .ok (.putfield 24, 3) := by decide +kernel
theorem dX3_clear_15 : decode cX3_clear 15 = .ok (.aload_n 0, 1) := by decide +kernel
theorem dX3_clear_16 : decode cX3_clear 16 = .ok (.iconst 0, 1) := by decide +kernel
theorem dX3_clear_17 : decode cX3_clear 17 = .ok (.putfield 28, 3) := by decide +kernel
theorem dX3_clear_20 : decode cX3_clear 20 = .ok (.aload_n 0, 1) := by decide +kernel
theorem dX3_clear_21 : decode cX3_clear 21 = .ok (.sipush 1000, 3) := by decide +kernel
theorem dX3_clear_24 : decode cX3_clear 24 = .ok (.putfield 31, 3) := by decide +kernel
theorem dX3_clear_27 : decode cX3_clear 27 = .ok (.aload_n 0, 1) := by decide +kernel
theorem dX3_clear_28 : decode cX3_clear 28 = .ok (.iconst 0, 1) := by decide +kernel
theorem dX3_clear_29 : decode cX3_clear 29 = .ok (.putfield 34, 3) := by decide +kernel
theorem dX3_clear_32 : decode cX3_clear 32 = .ok (.aload_n 0, 1) := by decide +kernel
theorem dX3_clear_33 : decode cX3_clear 33 = .ok (.iconst 1, 1) := by decide +kernel
theorem dX3_clear_34 : decode cX3_clear 34 = .ok (.putfield 37, 3) := by decide +kernel
theorem dX3_clear_37 : decode cX3_clear 37 = .ok (.aload_n 0, 1) := by decide +kernel
theorem dX3_clear_38 : decode cX3_clear 38 = .ok (.bipush 10, 2) := by decide +kernel
theorem dX3_clear_40 : decode cX3_clear 40 = .ok (.putfield 40, 3) := by decide +kernel
theorem dX3_clear_43 : decode cX3_clear 43 = .ok (.aload_n 0, 1) := by decide +kernel
theorem dX3_clear_44 : decode cX3_clear 44 = .ok (.iconst 2, 1) := by decide +kernel
theorem dX3_clear_45 : decode cX3_clear 45 = .ok (.putfield 43, 3) := by decide +kernel
theorem dX3_clear_48 : decode cX3_clear 48 = .ok (.aload_n 0, 1) := by decide +kernel
theorem dX3_clear_49 : decode cX3_clear 49 = .ok (.iconst 0, 1) := by decide +kernel
theorem dX3_clear_50 : decode cX3_clear 50 = .ok (.putfield 46, 3) := by decide +kernel
theorem dX3_clear_53 : decode cX3_clear 53 = .ok (.return_, 1) := by decide +kernel
set_option maxRecDepth 20000 in
theorem ggX3_rule_X3_exemptCrop : GoodIn wsX3_rule wsX3_exemptCrop := goodIn_r _ [12, 13, 14, 15, 16, 22, 23, 24, 25, 26, 27, 28, 29, 30] (by decide +kernel) (by decide +kernel)
set_option maxRecDepth 20000 in
theorem gX3_rule_X3_exemptCrop : GoodIn wsX3_rule (wsV RX3 49 RX3 yX3_exemptCrop wsX3_exemptCrop) := goodIn_app (goodIn_of _ (by decide +kernel)) ggX3_rule_X3_exemptCrop
set_option maxRecDepth 20000 in
theorem ggX3_rule_X3_setSoil : GoodIn wsX3_rule wsX3_setSoil := goodIn_r _ [20, 21, 14, 15, 16, 22, 23, 24, 25, 26, 27, 28, 29, 30] (by decide +kernel) (by decide +kernel)
set_option maxRecDepth 20000 in
theorem gX3_rule_X3_setSoil : GoodIn wsX3_rule (wsV RX3 53 RX3 yX3_setSoil wsX3_setSoil) := goodIn_app (goodIn_of _ (by decide +kernel)) ggX3_rule_X3_setSoil
theorem dX3_rule_0 : decode cX3_rule 0 = .ok (.iload_n 1, 1) := by decide +kernel
theorem dX3_rule_1 : decode cX3_rule 1 = .ok (.tableswitch 112 0 7 #[47, 55, 63, 71, 79, 88, 96, 104], 47) := by decide +kernel
theorem dX3_rule_48 : decode cX3_rule 48 = .ok (.aload_n 0, 1) := by decide +kernel
theorem dX3_rule_49 : decode cX3_rule 49 = .ok (.iload_n 3, 1) := by decide +kernel
theorem dX3_rule_50 : decode cX3_rule 50 = .ok (.putfield 24, 3) := by decide +kernel
theorem dX3_rule_53 : decode cX3_rule 53 = .ok (.goto 60, 3) := by decide +kernel
theorem dX3_rule_56 : decode cX3_rule 56 = .ok (.aload_n 0, 1) := by decide +kernel
theorem dX3_rule_57 : decode cX3_rule 57 = .ok (.iload_n 3, 1) := by decide +kernel
theorem dX3_rule_58 : decode cX3_rule 58 = .ok (.putfield 28, 3) := by decide +kernel
theorem dX3_rule_61 : decode cX3_rule 61 = .ok (.goto 52, 3) := by decide +kernel
theorem dX3_rule_64 : decode cX3_rule 64 = .ok (.aload_n 0, 1) := by decide +kernel
theorem dX3_rule_65 : decode cX3_rule 65 = .ok (.iload_n 3, 1) := by decide +kernel
theorem dX3_rule_66 : decode cX3_rule 66 = .ok (.putfield 31, 3) := by decide +kernel
theorem dX3_rule_69 : decode cX3_rule 69 = .ok (.goto 44, 3) := by decide +kernel
theorem dX3_rule_72 : decode cX3_rule 72 = .ok (.aload_n 0, 1) := by decide +kernel
theorem dX3_rule_73 : decode cX3_rule 73 = .ok (.iload_n 3, 1) := by decide +kernel
theorem dX3_rule_74 : decode cX3_rule 74 = .ok (.invokevirtual 49, 3) := by decide +kernel
theorem dX3_rule_77 : decode cX3_rule 77 = .ok (.goto 36, 3) := by decide +kernel
theorem dX3_rule_80 : decode cX3_rule 80 = .ok (.aload_n 0, 1) := by decide +kernel
theorem dX3_rule_81 : decode cX3_rule 81 = .ok (.iload_n 2, 1) := by decide +kernel
theorem dX3_rule_82 : decode cX3_rule 82 = .ok (.iload_n 3, 1) := by decide +kernel
theorem dX3_rule_83 : decode cX3_rule 83 = .ok (.invokevirtual 53, 3) := by decide +kernel
theorem dX3_rule_86 : decode cX3_rule 86 = .ok (.goto 27, 3) := by decide +kernel
theorem dX3_rule_89 : decode cX3_rule 89 = .ok (.aload_n 0, 1) := by decide +kernel
theorem dX3_rule_90 : decode cX3_rule 90 = .ok (.iload_n 3, 1) := by decide +kernel
theorem dX3_rule_91 : decode cX3_rule 91 = .ok (.putfield 37, 3) := by decide +kernel
theorem dX3_rule_94 : decode cX3_rule 94 = .ok (.goto 19, 3) := by decide +kernel
theorem dX3_rule_97 : decode cX3_rule 97 = .ok (.aload_n 0, 1) := by decide +kernel
theorem dX3_rule_98 : decode cX3_rule 98 = .ok (.iload_n 3, 1) := by decide +kernel
theorem dX3_rule_99 : decode cX3_rule 99 = .ok (.putfield 40, 3) := by decide +kernel
theorem dX3_rule_102 : decode cX3_rule 102 = .ok (.goto 11, 3) := by decide +kernel
theorem dX3_rule_105 : decode cX3_rule 105 = .ok (.aload_n 0, 1) := by decide +kernel
theorem dX3_rule_106 : decode cX3_rule 106 = .ok (.iload_n 3, 1) := by decide +kernel
theorem dX3_rule_107 : decode cX3_rule 107 = .ok (.putfield 43, 3) := by decide +kernel
theorem dX3_rule_110 : decode cX3_rule 110 = .ok (.goto 3, 3) := by decide +kernel
theorem dX3_rule_113 : decode cX3_rule 113 = .ok (.aload_n 0, 1) := by decide +kernel
theorem dX3_rule_114 : decode cX3_rule 114 = .ok (.dup, 1) := by decide +kernel
theorem dX3_rule_115 : decode cX3_rule 115 = .ok (.getfield 46, 3) := by decide +kernel
theorem dX3_rule_118 : decode cX3_rule 118 = .ok (.iconst 1, 1) := by decide +kernel
theorem dX3_rule_119 : decode cX3_rule 119 = .ok (.iadd, 1) := by decide +kernel
theorem dX3_rule_120 : decode cX3_rule 120 = .ok (.putfield 46, 3) := by decide +kernel
theorem dX3_rule_123 : decode cX3_rule 123 = .ok (.return_, 1) := by decide +kernel
set_option maxRecDepth 20000 in
theorem ggX3_exemptCrop_X10_isBelow : GoodIn wsX3_exemptCrop wsX10_isBelow := goodIn_r _ [4] (by decide +kernel) (by decide +kernel)
set_option maxRecDepth 20000 in
theorem gX3_exemptCrop_X10_isBelow_n57 : GoodIn wsX3_exemptCrop (wsX10_isBelow) := ggX3_exemptCrop_X10_isBelow
theorem dX3_exemptCrop_0 : decode cX3_exemptCrop 0 = .ok (.iload_n 1, 1) := by decide +kernel
theorem dX3_exemptCrop_1 : decode cX3_exemptCrop 1 = .ok (.bipush 10, 2) := by decide +kernel
theorem dX3_exemptCrop_3 : decode cX3_exemptCrop 3 = .ok (.invokestatic 57, 3) := by decide +kernel
theorem dX3_exemptCrop_6 : decode cX3_exemptCrop 6 = .ok (.ifCond .eq 15, 3) := by decide +kernel
theorem dX3_exemptCrop_9 : decode cX3_exemptCrop 9 = .ok (.aload_n 0, 1) := by decide +kernel
theorem dX3_exemptCrop_10 : decode cX3_exemptCrop 10 = .ok (.dup, 1) := by decide +kernel
theorem dX3_exemptCrop_11 : decode cX3_exemptCrop 11 = .ok (.getfield 34, 3) := by decide +kernel
theorem dX3_exemptCrop_14 : decode cX3_exemptCrop 14 = .ok (.iconst 1, 1) := by decide +kernel
theorem dX3_exemptCrop_15 : decode cX3_exemptCrop 15 = .ok (.iload_n 1, 1) := by decide +kernel
theorem dX3_exemptCrop_16 : decode cX3_exemptCrop 16 = .ok (.ishl, 1) := by decide +kernel
theorem dX3_exemptCrop_17 : decode cX3_exemptCrop 17 = .ok (.ior, 1) := by decide +kernel
theorem dX3_exemptCrop_18 : decode cX3_exemptCrop 18 = .ok (.putfield 34, 3) := by decide +kernel
theorem dX3_exemptCrop_21 : decode cX3_exemptCrop 21 = .ok (.return_, 1) := by decide +kernel
set_option maxRecDepth 20000 in
theorem ggX3_setSoil_X10_isBelow : GoodIn wsX3_setSoil wsX10_isBelow := goodIn_r _ [4] (by decide +kernel) (by decide +kernel)
set_option maxRecDepth 20000 in
theorem gX3_setSoil_X10_isBelow_n57 : GoodIn wsX3_setSoil (wsX10_isBelow) := ggX3_setSoil_X10_isBelow
theorem dX3_setSoil_0 : decode cX3_setSoil 0 = .ok (.iload_n 1, 1) := by decide +kernel
theorem dX3_setSoil_1 : decode cX3_setSoil 1 = .ok (.iconst 4, 1) := by decide +kernel
theorem dX3_setSoil_2 : decode cX3_setSoil 2 = .ok (.invokestatic 57, 3) := by decide +kernel
theorem dX3_setSoil_5 : decode cX3_setSoil 5 = .ok (.ifCond .eq 10, 3) := by decide +kernel
theorem dX3_setSoil_8 : decode cX3_setSoil 8 = .ok (.aload_n 0, 1) := by decide +kernel
theorem dX3_setSoil_9 : decode cX3_setSoil 9 = .ok (.getfield 9, 3) := by decide +kernel
theorem dX3_setSoil_12 : decode cX3_setSoil 12 = .ok (.iload_n 1, 1) := by decide +kernel
theorem dX3_setSoil_13 : decode cX3_setSoil 13 = .ok (.iload_n 2, 1) := by decide +kernel
theorem dX3_setSoil_14 : decode cX3_setSoil 14 = .ok (.iastore, 1) := by decide +kernel
theorem dX3_setSoil_15 : decode cX3_setSoil 15 = .ok (.return_, 1) := by decide +kernel
set_option maxRecDepth 20000 in
theorem ggX3_soilIs_X10_isBelow : GoodIn wsX3_soilIs wsX10_isBelow := goodIn_r _ [4] (by decide +kernel) (by decide +kernel)
set_option maxRecDepth 20000 in
theorem gX3_soilIs_X10_isBelow_n57 : GoodIn wsX3_soilIs (wsX10_isBelow) := ggX3_soilIs_X10_isBelow
theorem dX3_soilIs_0 : decode cX3_soilIs 0 = .ok (.iload_n 1, 1) := by decide +kernel
theorem dX3_soilIs_1 : decode cX3_soilIs 1 = .ok (.iconst 4, 1) := by decide +kernel
theorem dX3_soilIs_2 : decode cX3_soilIs 2 = .ok (.invokestatic 57, 3) := by decide +kernel
theorem dX3_soilIs_5 : decode cX3_soilIs 5 = .ok (.ifCond .eq 12, 3) := by decide +kernel
theorem dX3_soilIs_8 : decode cX3_soilIs 8 = .ok (.aload_n 0, 1) := by decide +kernel
theorem dX3_soilIs_9 : decode cX3_soilIs 9 = .ok (.getfield 9, 3) := by decide +kernel
theorem dX3_soilIs_12 : decode cX3_soilIs 12 = .ok (.iload_n 1, 1) := by decide +kernel
theorem dX3_soilIs_13 : decode cX3_soilIs 13 = .ok (.iaload, 1) := by decide +kernel
theorem dX3_soilIs_14 : decode cX3_soilIs 14 = .ok (.goto 4, 3) := by decide +kernel
theorem dX3_soilIs_17 : decode cX3_soilIs 17 = .ok (.iconst 0, 1) := by decide +kernel
theorem dX3_soilIs_18 : decode cX3_soilIs 18 = .ok (.ireturn, 1) := by decide +kernel
set_option maxRecDepth 20000 in
theorem ggX3_exempts_X10_isBelow : GoodIn wsX3_exempts wsX10_isBelow := goodIn_r _ [4] (by decide +kernel) (by decide +kernel)
set_option maxRecDepth 20000 in
theorem gX3_exempts_X10_isBelow_n57 : GoodIn wsX3_exempts (wsX10_isBelow) := ggX3_exempts_X10_isBelow
theorem dX3_exempts_0 : decode cX3_exempts 0 = .ok (.iload_n 1, 1) := by decide +kernel
theorem dX3_exempts_1 : decode cX3_exempts 1 = .ok (.bipush 10, 2) := by decide +kernel
theorem dX3_exempts_3 : decode cX3_exempts 3 = .ok (.invokestatic 57, 3) := by decide +kernel
theorem dX3_exempts_6 : decode cX3_exempts 6 = .ok (.ifCond .eq 19, 3) := by decide +kernel
theorem dX3_exempts_9 : decode cX3_exempts 9 = .ok (.aload_n 0, 1) := by decide +kernel
theorem dX3_exempts_10 : decode cX3_exempts 10 = .ok (.getfield 34, 3) := by decide +kernel
theorem dX3_exempts_13 : decode cX3_exempts 13 = .ok (.iload_n 1, 1) := by decide +kernel
theorem dX3_exempts_14 : decode cX3_exempts 14 = .ok (.ishr, 1) := by decide +kernel
theorem dX3_exempts_15 : decode cX3_exempts 15 = .ok (.iconst 1, 1) := by decide +kernel
theorem dX3_exempts_16 : decode cX3_exempts 16 = .ok (.iand, 1) := by decide +kernel
theorem dX3_exempts_17 : decode cX3_exempts 17 = .ok (.iconst 1, 1) := by decide +kernel
theorem dX3_exempts_18 : decode cX3_exempts 18 = .ok (.if_icmp .ne 7, 3) := by decide +kernel
theorem dX3_exempts_21 : decode cX3_exempts 21 = .ok (.iconst 1, 1) := by decide +kernel
theorem dX3_exempts_22 : decode cX3_exempts 22 = .ok (.goto 4, 3) := by decide +kernel
theorem dX3_exempts_25 : decode cX3_exempts 25 = .ok (.iconst 0, 1) := by decide +kernel
theorem dX3_exempts_26 : decode cX3_exempts 26 = .ok (.ireturn, 1) := by decide +kernel
theorem dX3_allows_0 : decode cX3_allows 0 = .ok (.aload_n 0, 1) := by decide +kernel
theorem dX3_allows_1 : decode cX3_allows 1 = .ok (.getfield 24, 3) := by decide +kernel
theorem dX3_allows_4 : decode cX3_allows 4 = .ok (.aload_n 0, 1) := by decide +kernel
theorem dX3_allows_5 : decode cX3_allows 5 = .ok (.getfield 28, 3) := by decide +kernel
theorem dX3_allows_8 : decode cX3_allows 8 = .ok (.iconst 0, 1) := by decide +kernel
theorem dX3_allows_9 : decode cX3_allows 9 = .ok (.iload_n 1, 1) := by decide +kernel
theorem dX3_allows_10 : decode cX3_allows 10 = .ok (.iconst 5, 1) := by decide +kernel
theorem dX3_allows_11 : decode cX3_allows 11 = .ok (.isub, 1) := by decide +kernel
theorem dX3_allows_12 : decode cX3_allows 12 = .ok (.invokestatic 61, 3) := by decide +kernel
theorem dX3_allows_15 : decode cX3_allows 15 = .ok (.imul, 1) := by decide +kernel
theorem dX3_allows_16 : decode cX3_allows 16 = .ok (.iadd, 1) := by decide +kernel
theorem dX3_allows_17 : decode cX3_allows 17 = .ok (.ireturn, 1) := by decide +kernel
theorem dX4_init_0 : decode cX4_init 0 = .ok (.aload_n 0, 1) := by decide +kernel
theorem dX4_init_1 : decode cX4_init 1 = .ok (.invokespecial 3, 3) := by decide +kernel
theorem dX4_init_4 : decode cX4_init 4 = .ok (.aload_n 0, 1) := by decide +kernel
theorem dX4_init_5 : decode cX4_init 5 = .ok (.bipush 40, 2) := by decide +kernel
theorem dX4_init_7 : decode cX4_init 7 = .ok (.newarray .int, 2) := by decide +kernel
theorem dX4_init_9 : decode cX4_init 9 = .ok (.putfield 9, 3) := by decide +kernel
theorem dX4_init_12 : decode cX4_init 12 = .ok (.aload_n 0, 1) := by decide +kernel
theorem dX4_init_13 : decode cX4_init 13 = .ok (.bipush 40, 2) := by decide +kernel
theorem dX4_init_15 : decode cX4_init 15 = .ok (.newarray .int, 2) := by decide +kernel
theorem dX4_init_17 : decode cX4_init 17 = .ok (.putfield 15, 3) := by decide +kernel
theorem dX4_init_20 : decode cX4_init 20 = .ok (.aload_n 0, 1) := by decide +kernel
theorem dX4_init_21 : decode cX4_init 21 = .ok (.bipush 40, 2) := by decide +kernel
theorem dX4_init_23 : decode cX4_init 23 = .ok (.newarray .long, 2) := by decide +kernel
theorem dX4_init_25 : decode cX4_init 25 = .ok (.putfield 18, 3) := by decide +kernel
theorem dX4_init_28 : decode cX4_init 28 = .ok (.return_, 1) := by decide +kernel
set_option maxRecDepth 20000 in
theorem ggX4_has_X10_isBelow : GoodIn wsX4_has wsX10_isBelow := goodIn_r _ [4] (by decide +kernel) (by decide +kernel)
set_option maxRecDepth 20000 in
theorem gX4_has_X10_isBelow_n26 : GoodIn wsX4_has (wsX10_isBelow) := ggX4_has_X10_isBelow
theorem dX4_has_0 : decode cX4_has 0 = .ok (.iload_n 1, 1) := by decide +kernel
theorem dX4_has_1 : decode cX4_has 1 = .ok (.aload_n 0, 1) := by decide +kernel
theorem dX4_has_2 : decode cX4_has 2 = .ok (.getfield 22, 3) := by decide +kernel
theorem dX4_has_5 : decode cX4_has 5 = .ok (.invokestatic 26, 3) := by decide +kernel
theorem dX4_has_8 : decode cX4_has 8 = .ok (.ireturn, 1) := by decide +kernel
set_option maxRecDepth 20000 in
theorem ggX4_hasRow_X4_has : GoodIn wsX4_hasRow wsX4_has := goodIn_r _ [6, 1, 7, 8, 9, 10, 11, 12, 13, 14] (by decide +kernel) (by decide +kernel)
set_option maxRecDepth 20000 in
theorem gX4_hasRow_X4_has : GoodIn wsX4_hasRow (wsV RX4 30 RX4 yX4_has wsX4_has) := goodIn_app (goodIn_of _ (by decide +kernel)) ggX4_hasRow_X4_has
theorem dX4_hasRow_0 : decode cX4_hasRow 0 = .ok (.aload_n 0, 1) := by decide +kernel
theorem dX4_hasRow_1 : decode cX4_hasRow 1 = .ok (.iload_n 1, 1) := by decide +kernel
theorem dX4_hasRow_2 : decode cX4_hasRow 2 = .ok (.invokevirtual 30, 3) := by decide +kernel
theorem dX4_hasRow_5 : decode cX4_hasRow 5 = .ok (.ifCond .eq 17, 3) := by decide +kernel
theorem dX4_hasRow_8 : decode cX4_hasRow 8 = .ok (.iload_n 2, 1) := by decide +kernel
theorem dX4_hasRow_9 : decode cX4_hasRow 9 = .ok (.aload_n 0, 1) := by decide +kernel
theorem dX4_hasRow_10 : decode cX4_hasRow 10 = .ok (.getfield 22, 3) := by decide +kernel
theorem dX4_hasRow_13 : decode cX4_hasRow 13 = .ok (.iload_n 1, 1) := by decide +kernel
theorem dX4_hasRow_14 : decode cX4_hasRow 14 = .ok (.isub, 1) := by decide +kernel
theorem dX4_hasRow_15 : decode cX4_hasRow 15 = .ok (.if_icmp .gt 7, 3) := by decide +kernel
theorem dX4_hasRow_18 : decode cX4_hasRow 18 = .ok (.iconst 1, 1) := by decide +kernel
theorem dX4_hasRow_19 : decode cX4_hasRow 19 = .ok (.goto 4, 3) := by decide +kernel
theorem dX4_hasRow_22 : decode cX4_hasRow 22 = .ok (.iconst 0, 1) := by decide +kernel
theorem dX4_hasRow_23 : decode cX4_hasRow 23 = .ok (.ireturn, 1) := by decide +kernel
set_option maxRecDepth 20000 in
theorem ggX4_houseOf_X4_has : GoodIn wsX4_houseOf wsX4_has := goodIn_r _ [6, 7, 8, 9, 10, 11, 12, 13, 14, 15] (by decide +kernel) (by decide +kernel)
set_option maxRecDepth 20000 in
theorem gX4_houseOf_X4_has : GoodIn wsX4_houseOf (wsV RX4 30 RX4 yX4_has wsX4_has) := goodIn_app (goodIn_of _ (by decide +kernel)) ggX4_houseOf_X4_has
theorem dX4_houseOf_0 : decode cX4_houseOf 0 = .ok (.aload_n 0, 1) := by decide +kernel
theorem dX4_houseOf_1 : decode cX4_houseOf 1 = .ok (.iload_n 1, 1) := by decide +kernel
theorem dX4_houseOf_2 : decode cX4_houseOf 2 = .ok (.invokevirtual 30, 3) := by decide +kernel
theorem dX4_houseOf_5 : decode cX4_houseOf 5 = .ok (.ifCond .eq 12, 3) := by decide +kernel
theorem dX4_houseOf_8 : decode cX4_houseOf 8 = .ok (.aload_n 0, 1) := by decide +kernel
theorem dX4_houseOf_9 : decode cX4_houseOf 9 = .ok (.getfield 9, 3) := by decide +kernel
theorem dX4_houseOf_12 : decode cX4_houseOf 12 = .ok (.iload_n 1, 1) := by decide +kernel
theorem dX4_houseOf_13 : decode cX4_houseOf 13 = .ok (.iaload, 1) := by decide +kernel
theorem dX4_houseOf_14 : decode cX4_houseOf 14 = .ok (.goto 4, 3) := by decide +kernel
theorem dX4_houseOf_17 : decode cX4_houseOf 17 = .ok (.iconst (-1), 1) := by decide +kernel
theorem dX4_houseOf_18 : decode cX4_houseOf 18 = .ok (.ireturn, 1) := by decide +kernel
set_option maxRecDepth 20000 in
theorem ggX4_homeOf_X4_has : GoodIn wsX4_homeOf wsX4_has := goodIn_r _ [6, 7, 8, 9, 10, 11, 12, 13, 14, 15] (by decide +kernel) (by decide +kernel)
set_option maxRecDepth 20000 in
theorem gX4_homeOf_X4_has : GoodIn wsX4_homeOf (wsV RX4 30 RX4 yX4_has wsX4_has) := goodIn_app (goodIn_of _ (by decide +kernel)) ggX4_homeOf_X4_has
theorem dX4_homeOf_0 : decode cX4_homeOf 0 = .ok (.aload_n 0, 1) := by decide +kernel
theorem dX4_homeOf_1 : decode cX4_homeOf 1 = .ok (.iload_n 1, 1) := by decide +kernel
theorem dX4_homeOf_2 : decode cX4_homeOf 2 = .ok (.invokevirtual 30, 3) := by decide +kernel
theorem dX4_homeOf_5 : decode cX4_homeOf 5 = .ok (.ifCond .eq 12, 3) := by decide +kernel
theorem dX4_homeOf_8 : decode cX4_homeOf 8 = .ok (.aload_n 0, 1) := by decide +kernel
theorem dX4_homeOf_9 : decode cX4_homeOf 9 = .ok (.getfield 15, 3) := by decide +kernel
theorem dX4_homeOf_12 : decode cX4_homeOf 12 = .ok (.iload_n 1, 1) := by decide +kernel
theorem dX4_homeOf_13 : decode cX4_homeOf 13 = .ok (.iaload, 1) := by decide +kernel
theorem dX4_homeOf_14 : decode cX4_homeOf 14 = .ok (.goto 4, 3) := by decide +kernel
theorem dX4_homeOf_17 : decode cX4_homeOf 17 = .ok (.iconst 0, 1) := by decide +kernel
theorem dX4_homeOf_18 : decode cX4_homeOf 18 = .ok (.ireturn, 1) := by decide +kernel
theorem dX4_add_0 : decode cX4_add 0 = .ok (.aload_n 0, 1) := by decide +kernel
theorem dX4_add_1 : decode cX4_add 1 = .ok (.getfield 22, 3) := by decide +kernel
theorem dX4_add_4 : decode cX4_add 4 = .ok (.bipush 40, 2) := by decide +kernel
theorem dX4_add_6 : decode cX4_add 6 = .ok (.if_icmp .lt 5, 3) := by decide +kernel
theorem dX4_add_9 : decode cX4_add 9 = .ok (.iconst (-1), 1) := by decide +kernel
theorem dX4_add_10 : decode cX4_add 10 = .ok (.ireturn, 1) := by decide +kernel
theorem dX4_add_11 : decode cX4_add 11 = .ok (.aload_n 0, 1) := by decide +kernel
theorem dX4_add_12 : decode cX4_add 12 = .ok (.getfield 9, 3) := by decide +kernel
theorem dX4_add_15 : decode cX4_add 15 = .ok (.aload_n 0, 1) := by decide +kernel
theorem dX4_add_16 : decode cX4_add 16 = .ok (.getfield 22, 3) := by decide +kernel
theorem dX4_add_19 : decode cX4_add 19 = .ok (.iload_n 1, 1) := by decide +kernel
theorem dX4_add_20 : decode cX4_add 20 = .ok (.iastore, 1) := by decide +kernel
theorem dX4_add_21 : decode cX4_add 21 = .ok (.aload_n 0, 1) := by decide +kernel
theorem dX4_add_22 : decode cX4_add 22 = .ok (.getfield 15, 3) := by decide +kernel
theorem dX4_add_25 : decode cX4_add 25 = .ok (.aload_n 0, 1) := by decide +kernel
theorem dX4_add_26 : decode cX4_add 26 = .ok (.getfield 22, 3) := by decide +kernel
theorem dX4_add_29 : decode cX4_add 29 = .ok (.iload_n 2, 1) := by decide +kernel
theorem dX4_add_30 : decode cX4_add 30 = .ok (.iastore, 1) := by decide +kernel
theorem dX4_add_31 : decode cX4_add 31 = .ok (.aload_n 0, 1) := by decide +kernel
theorem dX4_add_32 : decode cX4_add 32 = .ok (.dup, 1) := by decide +kernel
theorem dX4_add_33 : decode cX4_add 33 = .ok (.getfield 22, 3) := by decide +kernel
theorem dX4_add_36 : decode cX4_add 36 = .ok (.iconst 1, 1) := by decide +kernel
theorem dX4_add_37 : decode cX4_add 37 = .ok (.iadd, 1) := by decide +kernel
theorem dX4_add_38 : decode cX4_add 38 = .ok (.putfield 22, 3) := by decide +kernel
theorem dX4_add_41 : decode cX4_add 41 = .ok (.aload_n 0, 1) := by decide +kernel
theorem dX4_add_42 : decode cX4_add 42 = .ok (.getfield 22, 3) := by decide +kernel
theorem dX4_add_45 : decode cX4_add 45 = .ok (.iconst 1, 1) := by decide +kernel
theorem dX4_add_46 : decode cX4_add 46 = .ok (.isub, 1) := by decide +kernel
theorem dX4_add_47 : decode cX4_add 47 = .ok (.ireturn, 1) := by decide +kernel
set_option maxRecDepth 20000 in
theorem ggX4_bind_X4_has : GoodIn wsX4_bind wsX4_has := goodIn_r _ [7, 8, 9, 10, 11, 16, 17, 18, 19, 20] (by decide +kernel) (by decide +kernel)
set_option maxRecDepth 20000 in
theorem gX4_bind_X4_has : GoodIn wsX4_bind (wsV RX4 30 RX4 yX4_has wsX4_has) := goodIn_app (goodIn_of _ (by decide +kernel)) ggX4_bind_X4_has
set_option maxRecDepth 20000 in
theorem ggX4_bind_X4_areKin : GoodIn wsX4_bind wsX4_areKin := goodIn_r _ [15, 1, 3, 4, 5, 6, 7, 8, 9, 10, 11, 16, 17, 18, 19, 20] (by decide +kernel) (by decide +kernel)
set_option maxRecDepth 20000 in
theorem gX4_bind_X4_areKin : GoodIn wsX4_bind (wsV RX4 34 RX4 yX4_areKin wsX4_areKin) := goodIn_app (goodIn_of _ (by decide +kernel)) ggX4_bind_X4_areKin
theorem dX4_bind_0 : decode cX4_bind 0 = .ok (.aload_n 0, 1) := by decide +kernel
theorem dX4_bind_1 : decode cX4_bind 1 = .ok (.iload_n 1, 1) := by decide +kernel
theorem dX4_bind_2 : decode cX4_bind 2 = .ok (.invokevirtual 30, 3) := by decide +kernel
theorem dX4_bind_5 : decode cX4_bind 5 = .ok (.ifCond .eq 25, 3) := by decide +kernel
theorem dX4_bind_8 : decode cX4_bind 8 = .ok (.aload_n 0, 1) := by decide +kernel
theorem dX4_bind_9 : decode cX4_bind 9 = .ok (.iload_n 2, 1) := by decide +kernel
theorem dX4_bind_10 : decode cX4_bind 10 = .ok (.invokevirtual 30, 3) := by decide +kernel
theorem dX4_bind_13 : decode cX4_bind 13 = .ok (.ifCond .eq 17, 3) := by decide +kernel
theorem dX4_bind_16 : decode cX4_bind 16 = .ok (.iload_n 1, 1) := by decide +kernel
theorem dX4_bind_17 : decode cX4_bind 17 = .ok (.iload_n 2, 1) := by decide +kernel
theorem dX4_bind_18 : decode cX4_bind 18 = .ok (.if_icmp .eq 12, 3) := by decide +kernel
theorem dX4_bind_21 : decode cX4_bind 21 = .ok (.aload_n 0, 1) := by decide +kernel
theorem dX4_bind_22 : decode cX4_bind 22 = .ok (.iload_n 1, 1) := by decide +kernel
theorem dX4_bind_23 : decode cX4_bind 23 = .ok (.iload_n 2, 1) := by decide +kernel
theorem dX4_bind_24 : decode cX4_bind 24 = .ok (.invokevirtual 34, 3) := by decide +kernel
theorem dX4_bind_27 : decode cX4_bind 27 = .ok (.ifCond .eq 5, 3) := by decide +kernel
theorem dX4_bind_30 : decode cX4_bind 30 = .ok (.iconst 0, 1) := by decide +kernel
theorem dX4_bind_31 : decode cX4_bind 31 = .ok (.ireturn, 1) := by decide +kernel
theorem dX4_bind_32 : decode cX4_bind 32 = .ok (.aload_n 0, 1) := by decide +kernel
theorem dX4_bind_33 : decode cX4_bind 33 = .ok (.getfield 18, 3) := by decide +kernel
theorem dX4_bind_36 : decode cX4_bind 36 = .ok (.iload_n 1, 1) := by decide +kernel
theorem dX4_bind_37 : decode cX4_bind 37 = .ok (.dup2, 1) := by decide +kernel
theorem dX4_bind_38 : decode cX4_bind 38 = .ok (.laload, 1) := by decide +kernel
theorem dX4_bind_39 : decode cX4_bind 39 = .ok (.lconst 1, 1) := by decide +kernel
theorem dX4_bind_40 : decode cX4_bind 40 = .ok (.iload_n 2, 1) := by decide +kernel
theorem dX4_bind_41 : decode cX4_bind 41 = .ok (.lshl, 1) := by decide +kernel
theorem dX4_bind_42 : decode cX4_bind 42 = .ok (.lor, 1) := by decide +kernel
theorem dX4_bind_43 : decode cX4_bind 43 = .ok (.lastore, 1) := by decide +kernel
theorem dX4_bind_44 : decode cX4_bind 44 = .ok (.aload_n 0, 1) := by decide +kernel
theorem dX4_bind_45 : decode cX4_bind 45 = .ok (.getfield 18, 3) := by decide +kernel
theorem dX4_bind_48 : decode cX4_bind 48 = .ok (.iload_n 2, 1) := by decide +kernel
theorem dX4_bind_49 : decode cX4_bind 49 = .ok (.dup2, 1) := by decide +kernel
theorem dX4_bind_50 : decode cX4_bind 50 = .ok (.laload, 1) := by decide +kernel
theorem dX4_bind_51 : decode cX4_bind 51 = .ok (.lconst 1, 1) := by decide +kernel
theorem dX4_bind_52 : decode cX4_bind 52 = .ok (.iload_n 1, 1) := by decide +kernel
theorem dX4_bind_53 : decode cX4_bind 53 = .ok (.lshl, 1) := by decide +kernel
theorem dX4_bind_54 : decode cX4_bind 54 = .ok (.lor, 1) := by decide +kernel
theorem dX4_bind_55 : decode cX4_bind 55 = .ok (.lastore, 1) := by decide +kernel
theorem dX4_bind_56 : decode cX4_bind 56 = .ok (.aload_n 0, 1) := by decide +kernel
theorem dX4_bind_57 : decode cX4_bind 57 = .ok (.dup, 1) := by decide +kernel
theorem dX4_bind_58 : decode cX4_bind 58 = .ok (.getfield 37, 3) := by decide +kernel
theorem dX4_bind_61 : decode cX4_bind 61 = .ok (.iconst 1, 1) := by decide +kernel
theorem dX4_bind_62 : decode cX4_bind 62 = .ok (.iadd, 1) := by decide +kernel
theorem dX4_bind_63 : decode cX4_bind 63 = .ok (.putfield 37, 3) := by decide +kernel
theorem dX4_bind_66 : decode cX4_bind 66 = .ok (.iconst 1, 1) := by decide +kernel
theorem dX4_bind_67 : decode cX4_bind 67 = .ok (.ireturn, 1) := by decide +kernel
set_option maxRecDepth 20000 in
theorem ggX4_areKin_X4_has : GoodIn wsX4_areKin wsX4_has := goodIn_r _ [6, 7, 8, 9, 10, 11, 12, 13, 14, 15] (by decide +kernel) (by decide +kernel)
set_option maxRecDepth 20000 in
theorem gX4_areKin_X4_has : GoodIn wsX4_areKin (wsV RX4 30 RX4 yX4_has wsX4_has) := goodIn_app (goodIn_of _ (by decide +kernel)) ggX4_areKin_X4_has
theorem dX4_areKin_0 : decode cX4_areKin 0 = .ok (.aload_n 0, 1) := by decide +kernel
theorem dX4_areKin_1 : decode cX4_areKin 1 = .ok (.iload_n 1, 1) := by decide +kernel
theorem dX4_areKin_2 : decode cX4_areKin 2 = .ok (.invokevirtual 30, 3) := by decide +kernel
theorem dX4_areKin_5 : decode cX4_areKin 5 = .ok (.ifCond .eq 30, 3) := by decide +kernel
theorem dX4_areKin_8 : decode cX4_areKin 8 = .ok (.aload_n 0, 1) := by decide +kernel
theorem dX4_areKin_9 : decode cX4_areKin 9 = .ok (.iload_n 2, 1) := by decide +kernel
theorem dX4_areKin_10 : decode cX4_areKin 10 = .ok (.invokevirtual 30, 3) := by decide +kernel
theorem dX4_areKin_13 : decode cX4_areKin 13 = .ok (.ifCond .eq 22, 3) := by decide +kernel
theorem dX4_areKin_16 : decode cX4_areKin 16 = .ok (.aload_n 0, 1) := by decide +kernel
theorem dX4_areKin_17 : decode cX4_areKin 17 = .ok (.getfield 18, 3) := by decide +kernel
theorem dX4_areKin_20 : decode cX4_areKin 20 = .ok (.iload_n 1, 1) := by decide +kernel
theorem dX4_areKin_21 : decode cX4_areKin 21 = .ok (.laload, 1) := by decide +kernel
theorem dX4_areKin_22 : decode cX4_areKin 22 = .ok (.iload_n 2, 1) := by decide +kernel
theorem dX4_areKin_23 : decode cX4_areKin 23 = .ok (.lshr, 1) := by decide +kernel
theorem dX4_areKin_24 : decode cX4_areKin 24 = .ok (.lconst 1, 1) := by decide +kernel
theorem dX4_areKin_25 : decode cX4_areKin 25 = .ok (.land, 1) := by decide +kernel
theorem dX4_areKin_26 : decode cX4_areKin 26 = .ok (.lconst 1, 1) := by decide +kernel
theorem dX4_areKin_27 : decode cX4_areKin 27 = .ok (.lcmp, 1) := by decide +kernel
theorem dX4_areKin_28 : decode cX4_areKin 28 = .ok (.ifCond .ne 7, 3) := by decide +kernel
theorem dX4_areKin_31 : decode cX4_areKin 31 = .ok (.iconst 1, 1) := by decide +kernel
theorem dX4_areKin_32 : decode cX4_areKin 32 = .ok (.goto 4, 3) := by decide +kernel
theorem dX4_areKin_35 : decode cX4_areKin 35 = .ok (.iconst 0, 1) := by decide +kernel
theorem dX4_areKin_36 : decode cX4_areKin 36 = .ok (.ireturn, 1) := by decide +kernel
set_option maxRecDepth 20000 in
theorem ggX4_areOfOneFamily_X4_houseOf : GoodIn wsX4_areOfOneFamily wsX4_houseOf := goodIn_r _ [5, 6, 7, 8, 9, 4, 10, 11, 12, 13, 14, 20, 21, 22, 23, 24] (by decide +kernel) (by decide +kernel)
set_option maxRecDepth 20000 in
theorem gX4_areOfOneFamily_X4_houseOf : GoodIn wsX4_areOfOneFamily (wsV RX4 40 RX4 yX4_houseOf wsX4_houseOf) := goodIn_app (goodIn_of _ (by decide +kernel)) ggX4_areOfOneFamily_X4_houseOf
set_option maxRecDepth 20000 in
theorem ggX4_areOfOneFamily_X4_areKin : GoodIn wsX4_areOfOneFamily wsX4_areKin := goodIn_r _ [18, 19, 7, 8, 9, 4, 10, 11, 12, 13, 14, 20, 21, 22, 23, 24] (by decide +kernel) (by decide +kernel)
set_option maxRecDepth 20000 in
theorem gX4_areOfOneFamily_X4_areKin : GoodIn wsX4_areOfOneFamily (wsV RX4 34 RX4 yX4_areKin wsX4_areKin) := goodIn_app (goodIn_of _ (by decide +kernel)) ggX4_areOfOneFamily_X4_areKin
theorem dX4_areOfOneFamily_0 : decode cX4_areOfOneFamily 0 = .ok (.aload_n 0, 1) := by decide +kernel
theorem dX4_areOfOneFamily_1 : decode cX4_areOfOneFamily 1 = .ok (.iload_n 1, 1) := by decide +kernel
theorem dX4_areOfOneFamily_2 : decode cX4_areOfOneFamily 2 = .ok (.invokevirtual 40, 3) := by decide +kernel
theorem dX4_areOfOneFamily_5 : decode cX4_areOfOneFamily 5 = .ok (.aload_n 0, 1) := by decide +kernel
theorem dX4_areOfOneFamily_6 : decode cX4_areOfOneFamily 6 = .ok (.iload_n 2, 1) := by decide +kernel
theorem dX4_areOfOneFamily_7 : decode cX4_areOfOneFamily 7 = .ok (.invokevirtual 40, 3) := by decide +kernel
theorem dX4_areOfOneFamily_10 : decode cX4_areOfOneFamily 10 = .ok (.if_icmp .eq 12, 3) := by decide +kernel
theorem dX4_areOfOneFamily_13 : decode cX4_areOfOneFamily 13 = .ok (.aload_n 0, 1) := by decide +kernel
theorem dX4_areOfOneFamily_14 : decode cX4_areOfOneFamily 14 = .ok (.iload_n 1, 1) := by decide +kernel
theorem dX4_areOfOneFamily_15 : decode cX4_areOfOneFamily 15 = .ok (.iload_n 2, 1) := by decide +kernel
theorem dX4_areOfOneFamily_16 : decode cX4_areOfOneFamily 16 = .ok (.invokevirtual 34, 3) := by decide +kernel
theorem dX4_areOfOneFamily_19 : decode cX4_areOfOneFamily 19 = .ok (.ifCond .eq 7, 3) := by decide +kernel
theorem dX4_areOfOneFamily_22 : decode cX4_areOfOneFamily 22 = .ok (.iconst 1, 1) := by decide +kernel
theorem dX4_areOfOneFamily_23 : decode cX4_areOfOneFamily 23 = .ok (.goto 4, 3) := by decide +kernel
theorem dX4_areOfOneFamily_26 : decode cX4_areOfOneFamily 26 = .ok (.iconst 0, 1) := by decide +kernel
theorem dX4_areOfOneFamily_27 : decode cX4_areOfOneFamily 27 = .ok (.ireturn, 1) := by decide +kernel
theorem dX4_membersOf_0 : decode cX4_membersOf 0 = .ok (.iconst 0, 1) := by decide +kernel
theorem dX4_membersOf_1 : decode cX4_membersOf 1 = .ok (.istore_n 2, 1) := by decide +kernel
theorem dX4_membersOf_2 : decode cX4_membersOf 2 = .ok (.iconst 0, 1) := by decide +kernel
theorem dX4_membersOf_3 : decode cX4_membersOf 3 = .ok (.istore_n 3, 1) := by decide +kernel
theorem dX4_membersOf_4 : decode cX4_membersOf 4 = .ok (.iload_n 3, 1) := by decide +kernel
theorem dX4_membersOf_5 : decode cX4_membersOf 5 = .ok (.aload_n 0, 1) := by decide +kernel
theorem dX4_membersOf_6 : decode cX4_membersOf 6 = .ok (.getfield 22, 3) := by decide +kernel
theorem dX4_membersOf_9 : decode cX4_membersOf 9 = .ok (.if_icmp .ge 22, 3) := by decide +kernel
theorem dX4_membersOf_12 : decode cX4_membersOf 12 = .ok (.aload_n 0, 1) := by decide +kernel
theorem dX4_membersOf_13 : decode cX4_membersOf 13 = .ok (.getfield 9, 3) := by decide +kernel
theorem dX4_membersOf_16 : decode cX4_membersOf 16 = .ok (.iload_n 3, 1) := by decide +kernel
theorem dX4_membersOf_17 : decode cX4_membersOf 17 = .ok (.iaload, 1) := by decide +kernel
theorem dX4_membersOf_18 : decode cX4_membersOf 18 = .ok (.iload_n 1, 1) := by decide +kernel
theorem dX4_membersOf_19 : decode cX4_membersOf 19 = .ok (.if_icmp .ne 6, 3) := by decide +kernel
theorem dX4_membersOf_22 : decode cX4_membersOf 22 = .ok (.iinc 2 1, 3) := by decide +kernel
theorem dX4_membersOf_25 : decode cX4_membersOf 25 = .ok (.iinc 3 1, 3) := by decide +kernel
theorem dX4_membersOf_28 : decode cX4_membersOf 28 = .ok (.goto (-24), 3) := by decide +kernel
theorem dX4_membersOf_31 : decode cX4_membersOf 31 = .ok (.iload_n 2, 1) := by decide +kernel
theorem dX4_membersOf_32 : decode cX4_membersOf 32 = .ok (.ireturn, 1) := by decide +kernel
theorem dX5_init_0 : decode cX5_init 0 = .ok (.aload_n 0, 1) := by decide +kernel
theorem dX5_init_1 : decode cX5_init 1 = .ok (.invokespecial 3, 3) := by decide +kernel
theorem dX5_init_4 : decode cX5_init 4 = .ok (.aload_n 0, 1) := by decide +kernel
theorem dX5_init_5 : decode cX5_init 5 = .ok (.iconst (-1), 1) := by decide +kernel
theorem dX5_init_6 : decode cX5_init 6 = .ok (.putfield 9, 3) := by decide +kernel
theorem dX5_init_9 : decode cX5_init 9 = .ok (.aload_n 0, 1) := by decide +kernel
theorem dX5_init_10 : decode cX5_init 10 = .ok (.aload_n 1, 1) := by decide +kernel
theorem dX5_init_11 : decode cX5_init 11 = .ok (.putfield 15, 3) := by decide +kernel
theorem dX5_init_14 : decode cX5_init 14 = .ok (.return_, 1) := by decide +kernel
set_option maxRecDepth 20000 in
theorem ggX5_readAct_X3_clear : GoodIn wsX5_readAct wsX3_clear := goodIn_r _ [13, 14, 15, 16, 17, 18, 19, 20, 21, 22, 23, 24, 25, 26, 125, 126, 127, 128, 129, 130, 131, 132, 133] (by decide +kernel) (by decide +kernel)
set_option maxRecDepth 20000 in
theorem gX5_readAct_X3_clear_n31 : GoodIn wsX5_readAct (wsX3_clear) := ggX5_readAct_X3_clear
set_option maxRecDepth 20000 in
theorem ggX5_readAct_X5_nextToken : GoodIn wsX5_readAct wsX5_nextToken := goodIn_r _ [31, 7, 6, 1, 9, 32, 33, 30, 34, 35, 36, 37, 38, 39, 40, 120, 121, 122, 123, 124] (by decide +kernel) (by decide +kernel)
set_option maxRecDepth 20000 in
theorem gX5_readAct_X5_nextToken : GoodIn wsX5_readAct (wsV RX5 36 RX5 yX5_nextToken wsX5_nextToken) := goodIn_app (goodIn_of _ (by decide +kernel)) ggX5_readAct_X5_nextToken
set_option maxRecDepth 20000 in
theorem ggX5_readAct_X5_readStatement : GoodIn wsX5_readAct wsX5_readStatement := goodIn_r _ [44, 45, 46, 47, 30, 48, 49, 50, 51, 52, 7, 9, 6, 1, 53, 54, 55, 56, 57, 58, 59, 60, 61, 62, 63, 64, 65, 66, 67, 68, 69, 70, 71, 72, 73, 74, 75, 76, 77, 78, 79, 80, 81, 82, 83, 84, 85, 86, 87, 88, 89, 90, 91, 92, 93, 94, 95, 96, 97, 98, 99, 100, 101, 27, 28, 29, 31, 32, 33, 34, 35, 36, 37, 38, 39, 40, 102, 103, 104, 105, 106, 11, 107, 108, 15, 16, 17, 19, 20, 21, 22, 109, 110, 111, 112, 18, 113, 114, 115, 116, 117, 118, 119, 14, 120, 121, 122, 123, 124, 125, 126, 127, 128, 129, 130, 131, 132, 133] (by decide +kernel) (by decide +kernel)
set_option maxRecDepth 20000 in
theorem gX5_readAct_X5_readStatement : GoodIn wsX5_readAct (wsV RX5 42 RX5 yX5_readStatement wsX5_readStatement) := goodIn_app (goodIn_of _ (by decide +kernel)) ggX5_readAct_X5_readStatement
theorem dX5_readAct_0 : decode cX5_readAct 0 = .ok (.aload_n 0, 1) := by decide +kernel
theorem dX5_readAct_1 : decode cX5_readAct 1 = .ok (.iload_n 1, 1) := by decide +kernel
theorem dX5_readAct_2 : decode cX5_readAct 2 = .ok (.aload_n 0, 1) := by decide +kernel
theorem dX5_readAct_3 : decode cX5_readAct 3 = .ok (.getfield 15, 3) := by decide +kernel
theorem dX5_readAct_6 : decode cX5_readAct 6 = .ok (.arraylength, 1) := by decide +kernel
theorem dX5_readAct_7 : decode cX5_readAct 7 = .ok (.invokestatic 19, 3) := by decide +kernel
theorem dX5_readAct_10 : decode cX5_readAct 10 = .ok (.putfield 25, 3) := by decide +kernel
theorem dX5_readAct_13 : decode cX5_readAct 13 = .ok (.aload_n 0, 1) := by decide +kernel
theorem dX5_readAct_14 : decode cX5_readAct 14 = .ok (.iconst 0, 1) := by decide +kernel
theorem dX5_readAct_15 : decode cX5_readAct 15 = .ok (.putfield 28, 3) := by decide +kernel
theorem dX5_readAct_18 : decode cX5_readAct 18 = .ok (.aload_n 0, 1) := by decide +kernel
theorem dX5_readAct_19 : decode cX5_readAct 19 = .ok (.iconst (-1), 1) := by decide +kernel
theorem dX5_readAct_20 : decode cX5_readAct 20 = .ok (.putfield 9, 3) := by decide +kernel
theorem dX5_readAct_23 : decode cX5_readAct 23 = .ok (.aload_n 2, 1) := by decide +kernel
theorem dX5_readAct_24 : decode cX5_readAct 24 = .ok (.invokevirtual 31, 3) := by decide +kernel
theorem dX5_readAct_27 : decode cX5_readAct 27 = .ok (.iconst 0, 1) := by decide +kernel
theorem dX5_readAct_28 : decode cX5_readAct 28 = .ok (.istore_n 3, 1) := by decide +kernel
theorem dX5_readAct_29 : decode cX5_readAct 29 = .ok (.iload_n 3, 1) := by decide +kernel
theorem dX5_readAct_30 : decode cX5_readAct 30 = .ok (.bipush 16, 2) := by decide +kernel
theorem dX5_readAct_32 : decode cX5_readAct 32 = .ok (.if_icmp .gt 50, 3) := by decide +kernel
theorem dX5_readAct_35 : decode cX5_readAct 35 = .ok (.aload_n 0, 1) := by decide +kernel
theorem dX5_readAct_36 : decode cX5_readAct 36 = .ok (.invokevirtual 36, 3) := by decide +kernel
theorem dX5_readAct_39 : decode cX5_readAct 39 = .ok (.aload_n 0, 1) := by decide +kernel
theorem dX5_readAct_40 : decode cX5_readAct 40 = .ok (.getfield 39, 3) := by decide +kernel
theorem dX5_readAct_43 : decode cX5_readAct 43 = .ok (.aload_n 0, 1) := by decide +kernel
theorem dX5_readAct_44 : decode cX5_readAct 44 = .ok (.getfield 25, 3) := by decide +kernel
theorem dX5_readAct_47 : decode cX5_readAct 47 = .ok (.if_icmp .lt 5, 3) := by decide +kernel
theorem dX5_readAct_50 : decode cX5_readAct 50 = .ok (.iconst 1, 1) := by decide +kernel
theorem dX5_readAct_51 : decode cX5_readAct 51 = .ok (.ireturn, 1) := by decide +kernel
theorem dX5_readAct_52 : decode cX5_readAct 52 = .ok (.iload_n 3, 1) := by decide +kernel
theorem dX5_readAct_53 : decode cX5_readAct 53 = .ok (.bipush 16, 2) := by decide +kernel
theorem dX5_readAct_55 : decode cX5_readAct 55 = .ok (.if_icmp .eq 11, 3) := by decide +kernel
theorem dX5_readAct_58 : decode cX5_readAct 58 = .ok (.aload_n 0, 1) := by decide +kernel
theorem dX5_readAct_59 : decode cX5_readAct 59 = .ok (.aload_n 2, 1) := by decide +kernel
theorem dX5_readAct_60 : decode cX5_readAct 60 = .ok (.invokevirtual 42, 3) := by decide +kernel
theorem dX5_readAct_63 : decode cX5_readAct 63 = .ok (.ifCond .ne 13, 3) := by decide +kernel
theorem dX5_readAct_66 : decode cX5_readAct 66 = .ok (.aload_n 0, 1) := by decide +kernel
theorem dX5_readAct_67 : decode cX5_readAct 67 = .ok (.aload_n 0, 1) := by decide +kernel
theorem dX5_readAct_68 : decode cX5_readAct 68 = .ok (.getfield 39, 3) := by decide +kernel
theorem dX5_readAct_71 : decode cX5_readAct 71 = .ok (.putfield 9, 3) := by decide +kernel
theorem dX5_readAct_74 : decode cX5_readAct 74 = .ok (.iconst 0, 1) := by decide +kernel
theorem dX5_readAct_75 : decode cX5_readAct 75 = .ok (.ireturn, 1) := by decide +kernel
theorem dX5_readAct_76 : decode cX5_readAct 76 = .ok (.iinc 3 1, 3) := by decide +kernel
theorem dX5_readAct_79 : decode cX5_readAct 79 = .ok (.goto (-50), 3) := by decide +kernel
theorem dX5_readAct_82 : decode cX5_readAct 82 = .ok (.iconst 0, 1) := by decide +kernel
theorem dX5_readAct_83 : decode cX5_readAct 83 = .ok (.ireturn, 1) := by decide +kernel
set_option maxRecDepth 20000 in
theorem ggX5_readStatement_X5_keyword : GoodIn wsX5_readStatement wsX5_keyword := goodIn_r _ [5, 6, 7, 8, 4, 9, 10, 11, 12, 13, 14, 15, 16, 17, 18, 19, 20, 21, 22, 23, 24, 25, 26, 27, 28, 29, 30, 31, 32, 33, 34, 35, 36, 37, 38, 39, 40, 41, 42, 43, 44, 45, 46, 47, 48, 49, 50, 51, 52, 53, 54, 55, 56, 57, 58, 59, 60, 61, 62, 104, 105, 106, 107, 108] (by decide +kernel) (by decide +kernel)
set_option maxRecDepth 20000 in
theorem gX5_readStatement_X5_keyword : GoodIn wsX5_readStatement (wsV RX5 46 RX5 yX5_keyword wsX5_keyword) := goodIn_app (goodIn_of _ (by decide +kernel)) ggX5_readStatement_X5_keyword
set_option maxRecDepth 20000 in
theorem ggX5_readStatement_X5_nextToken : GoodIn wsX5_readStatement wsX5_nextToken := goodIn_r _ [66, 10, 12, 13, 11, 67, 68, 4, 69, 70, 71, 72, 73, 74, 75, 104, 105, 106, 107, 108] (by decide +kernel) (by decide +kernel)
set_option maxRecDepth 20000 in
theorem gX5_readStatement_X5_nextToken : GoodIn wsX5_readStatement (wsV RX5 36 RX5 yX5_nextToken wsX5_nextToken) := goodIn_app (goodIn_of _ (by decide +kernel)) ggX5_readStatement_X5_nextToken
set_option maxRecDepth 20000 in
theorem ggX5_readStatement_X5_number : GoodIn wsX5_readStatement wsX5_number := goodIn_r _ [79, 10, 11, 12, 13, 73, 74, 4, 75, 104, 105, 106, 107, 108] (by decide +kernel) (by decide +kernel)
set_option maxRecDepth 20000 in
theorem gX5_readStatement_X5_number : GoodIn wsX5_readStatement (wsV RX5 50 RX5 yX5_number wsX5_number) := goodIn_app (goodIn_of _ (by decide +kernel)) ggX5_readStatement_X5_number
set_option maxRecDepth 20000 in
theorem ggX5_readStatement_X5_spells : GoodIn wsX5_readStatement wsX5_spells := goodIn_r _ [9, 10, 11, 12, 13, 14, 15, 16, 17, 18, 19, 20, 21, 22, 23, 24, 25, 26, 27, 28, 29, 30, 31, 32, 33, 34, 35, 36, 37, 38, 39, 40, 41, 42, 43, 44, 45, 46, 47, 48, 49, 50, 51, 52, 53, 54, 55, 56, 57, 58, 59, 60, 61, 62, 104, 105, 106, 107, 108] (by decide +kernel) (by decide +kernel)
set_option maxRecDepth 20000 in
theorem gX5_readStatement_X5_spells : GoodIn wsX5_readStatement (wsV RX5 55 RX5 yX5_spells wsX5_spells) := goodIn_app (goodIn_of _ (by decide +kernel)) ggX5_readStatement_X5_spells
set_option maxRecDepth 20000 in
theorem ggX5_readStatement_X3_rule : GoodIn wsX5_readStatement wsX3_rule := goodIn_r _ [83, 84, 85, 86, 87, 88, 89, 90, 91, 92, 93, 81, 94, 95, 96, 97, 98, 99, 100, 101, 102, 103, 109, 110, 111, 112, 113, 114, 115, 116, 117] (by decide +kernel) (by decide +kernel)
set_option maxRecDepth 20000 in
theorem gX5_readStatement_X3_rule_n61 : GoodIn wsX5_readStatement (wsX3_rule) := ggX5_readStatement_X3_rule
theorem dX5_readStatement_0 : decode cX5_readStatement 0 = .ok (.aload_n 0, 1) := by decide +kernel
theorem dX5_readStatement_1 : decode cX5_readStatement 1 = .ok (.invokevirtual 46, 3) := by decide +kernel
theorem dX5_readStatement_4 : decode cX5_readStatement 4 = .ok (.istore_n 2, 1) := by decide +kernel
theorem dX5_readStatement_5 : decode cX5_readStatement 5 = .ok (.iload_n 2, 1) := by decide +kernel
theorem dX5_readStatement_6 : decode cX5_readStatement 6 = .ok (.iconst (-1), 1) := by decide +kernel
theorem dX5_readStatement_7 : decode cX5_readStatement 7 = .ok (.if_icmp .ne 5, 3) := by decide +kernel
theorem dX5_readStatement_10 : decode cX5_readStatement 10 = .ok (.iconst 0, 1) := by decide +kernel
theorem dX5_readStatement_11 : decode cX5_readStatement 11 = .ok (.ireturn, 1) := by decide +kernel
theorem dX5_readStatement_12 : decode cX5_readStatement 12 = .ok (.iconst 0, 1) := by decide +kernel
theorem dX5_readStatement_13 : decode cX5_readStatement 13 = .ok (.istore_n 3, 1) := by decide +kernel
theorem dX5_readStatement_14 : decode cX5_readStatement 14 = .ok (.iload_n 2, 1) := by decide +kernel
theorem dX5_readStatement_15 : decode cX5_readStatement 15 = .ok (.iconst 4, 1) := by decide +kernel
theorem dX5_readStatement_16 : decode cX5_readStatement 16 = .ok (.if_icmp .ne 36, 3) := by decide +kernel
theorem dX5_readStatement_19 : decode cX5_readStatement 19 = .ok (.aload_n 0, 1) := by decide +kernel
theorem dX5_readStatement_20 : decode cX5_readStatement 20 = .ok (.invokevirtual 36, 3) := by decide +kernel
theorem dX5_readStatement_23 : decode cX5_readStatement 23 = .ok (.aload_n 0, 1) := by decide +kernel
theorem dX5_readStatement_24 : decode cX5_readStatement 24 = .ok (.iconst 0, 1) := by decide +kernel
theorem dX5_readStatement_25 : decode cX5_readStatement 25 = .ok (.iconst 3, 1) := by decide +kernel
theorem dX5_readStatement_26 : decode cX5_readStatement 26 = .ok (.invokevirtual 50, 3) := by decide +kernel
theorem dX5_readStatement_29 : decode cX5_readStatement 29 = .ok (.istore_n 3, 1) := by decide +kernel
theorem dX5_readStatement_30 : decode cX5_readStatement 30 = .ok (.iload_n 3, 1) := by decide +kernel
theorem dX5_readStatement_31 : decode cX5_readStatement 31 = .ok (.iconst (-1), 1) := by decide +kernel
theorem dX5_readStatement_32 : decode cX5_readStatement 32 = .ok (.if_icmp .ne 5, 3) := by decide +kernel
theorem dX5_readStatement_35 : decode cX5_readStatement 35 = .ok (.iconst 0, 1) := by decide +kernel
theorem dX5_readStatement_36 : decode cX5_readStatement 36 = .ok (.ireturn, 1) := by decide +kernel
theorem dX5_readStatement_37 : decode cX5_readStatement 37 = .ok (.aload_n 0, 1) := by decide +kernel
theorem dX5_readStatement_38 : decode cX5_readStatement 38 = .ok (.invokevirtual 36, 3) := by decide +kernel
theorem dX5_readStatement_41 : decode cX5_readStatement 41 = .ok (.aload_n 0, 1) := by decide +kernel
theorem dX5_readStatement_42 : decode cX5_readStatement 42 = .ok (.ldc 53, 2) := by decide +kernel
theorem dX5_readStatement_44 : decode cX5_readStatement 44 = .ok (.invokevirtual 55, 3) := by decide +kernel
theorem dX5_readStatement_47 : decode cX5_readStatement 47 = .ok (.ifCond .ne 5, 3) := by decide +kernel
theorem dX5_readStatement_50 : decode cX5_readStatement 50 = .ok (.iconst 0, 1) := by decide +kernel
theorem dX5_readStatement_51 : decode cX5_readStatement 51 = .ok (.ireturn, 1) := by decide +kernel
theorem dX5_readStatement_52 : decode cX5_readStatement 52 = .ok (.aload_n 0, 1) := by decide +kernel
theorem dX5_readStatement_53 : decode cX5_readStatement 53 = .ok (.invokevirtual 36, 3) := by decide +kernel
theorem dX5_readStatement_56 : decode cX5_readStatement 56 = .ok (.iload_n 2, 1) := by decide +kernel
theorem dX5_readStatement_57 : decode cX5_readStatement 57 = .ok (.bipush 6, 2) := by decide +kernel
theorem dX5_readStatement_59 : decode cX5_readStatement 59 = .ok (.if_icmp .ne 13, 3) := by decide +kernel
theorem dX5_readStatement_62 : decode cX5_readStatement 62 = .ok (.aload_n 0, 1) := by decide +kernel
theorem dX5_readStatement_63 : decode cX5_readStatement 63 = .ok (.iconst 1, 1) := by decide +kernel
theorem dX5_readStatement_64 : decode cX5_readStatement 64 = .ok (.bipush 40, 2) := by decide +kernel
theorem dX5_readStatement_66 : decode cX5_readStatement 66 = .ok (.invokevirtual 50, 3) := by decide +kernel
theorem dX5_readStatement_69 : decode cX5_readStatement 69 = .ok (.goto 11, 3) := by decide +kernel
theorem dX5_readStatement_72 : decode cX5_readStatement 72 = .ok (.aload_n 0, 1) := by decide +kernel
theorem dX5_readStatement_73 : decode cX5_readStatement 73 = .ok (.iconst 0, 1) := by decide +kernel
theorem dX5_readStatement_74 : decode cX5_readStatement 74 = .ok (.sipush 9999, 3) := by decide +kernel
theorem dX5_readStatement_77 : decode cX5_readStatement 77 = .ok (.invokevirtual 50, 3) := by decide +kernel
theorem dX5_readStatement_80 : decode cX5_readStatement 80 = .ok (.istore 4, 2) := by decide +kernel
theorem dX5_readStatement_82 : decode cX5_readStatement 82 = .ok (.iload 4, 2) := by decide +kernel
theorem dX5_readStatement_84 : decode cX5_readStatement 84 = .ok (.iconst (-1), 1) := by decide +kernel
theorem dX5_readStatement_85 : decode cX5_readStatement 85 = .ok (.if_icmp .ne 5, 3) := by decide +kernel
theorem dX5_readStatement_88 : decode cX5_readStatement 88 = .ok (.iconst 0, 1) := by decide +kernel
theorem dX5_readStatement_89 : decode cX5_readStatement 89 = .ok (.ireturn, 1) := by decide +kernel
theorem dX5_readStatement_90 : decode cX5_readStatement 90 = .ok (.aload_n 0, 1) := by decide +kernel
theorem dX5_readStatement_91 : decode cX5_readStatement 91 = .ok (.invokevirtual 36, 3) := by decide +kernel
theorem dX5_readStatement_94 : decode cX5_readStatement 94 = .ok (.aload_n 0, 1) := by decide +kernel
theorem dX5_readStatement_95 : decode cX5_readStatement 95 = .ok (.ldc 59, 2) := by decide +kernel
theorem dX5_readStatement_97 : decode cX5_readStatement 97 = .ok (.invokevirtual 55, 3) := by decide +kernel
theorem dX5_readStatement_100 : decode cX5_readStatement 100 = .ok (.ifCond .ne 5, 3) := by decide +kernel
theorem dX5_readStatement_103 : decode cX5_readStatement 103 = .ok (.iconst 0, 1) := by decide +kernel
theorem dX5_readStatement_104 : decode cX5_readStatement 104 = .ok (.ireturn, 1) := by decide +kernel
theorem dX5_readStatement_105 : decode cX5_readStatement 105 = .ok (.aload_n 1, 1) := by decide +kernel
theorem dX5_readStatement_106 : decode cX5_readStatement 106 = .ok (.iload_n 2, 1) := by decide +kernel
theorem dX5_readStatement_107 : decode cX5_readStatement 107 = .ok (.iload_n 3, 1) := by decide +kernel
theorem dX5_readStatement_108 : decode cX5_readStatement 108 = .ok (.iload 4, 2) := by decide +kernel
theorem dX5_readStatement_110 : decode cX5_readStatement 110 = .ok (.invokevirtual 61, 3) := by decide +kernel
theorem dX5_readStatement_113 : decode cX5_readStatement 113 = .ok (.iconst 1, 1) := by decide +kernel
theorem dX5_readStatement_114 : decode cX5_readStatement 114 = .ok (.ireturn, 1) := by decide +kernel
set_option maxRecDepth 20000 in
theorem ggX5_nextToken_X5_isBlank : GoodIn wsX5_nextToken wsX5_isBlank := goodIn_r _ [8] (by decide +kernel) (by decide +kernel)
set_option maxRecDepth 20000 in
theorem gX5_nextToken_X5_isBlank : GoodIn wsX5_nextToken (va_wsS RX5 65 yX5_isBlank wsX5_isBlank) := goodIn_app (goodIn_of _ (by decide +kernel)) ggX5_nextToken_X5_isBlank
set_option maxRecDepth 20000 in
theorem ggX5_nextToken_X5_isLetter : GoodIn wsX5_nextToken wsX5_isLetter := goodIn_r _ [11] (by decide +kernel) (by decide +kernel)
set_option maxRecDepth 20000 in
theorem gX5_nextToken_X5_isLetter : GoodIn wsX5_nextToken (va_wsS RX5 69 yX5_isLetter wsX5_isLetter) := goodIn_app (goodIn_of _ (by decide +kernel)) ggX5_nextToken_X5_isLetter
