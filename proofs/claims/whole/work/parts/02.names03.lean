set_option maxRecDepth 20000 in
theorem ggX5_nextToken_X5_isDigit : GoodIn wsX5_nextToken wsX5_isDigit := goodIn_r _ [14] (by decide +kernel) (by decide +kernel)
set_option maxRecDepth 20000 in
theorem gX5_nextToken_X5_isDigit : GoodIn wsX5_nextToken (va_wsS RX5 72 yX5_isDigit wsX5_isDigit) := goodIn_app (goodIn_of _ (by decide +kernel)) ggX5_nextToken_X5_isDigit
theorem dX5_nextToken_0 : decode cX5_nextToken 0 = .ok (.aload_n 0, 1) := by decide +kernel
theorem dX5_nextToken_1 : decode cX5_nextToken 1 = .ok (.getfield 28, 3) := by decide +kernel
theorem dX5_nextToken_4 : decode cX5_nextToken 4 = .ok (.istore_n 1, 1) := by decide +kernel
theorem dX5_nextToken_5 : decode cX5_nextToken 5 = .ok (.iload_n 1, 1) := by decide +kernel
theorem dX5_nextToken_6 : decode cX5_nextToken 6 = .ok (.aload_n 0, 1) := by decide +kernel
theorem dX5_nextToken_7 : decode cX5_nextToken 7 = .ok (.getfield 25, 3) := by decide +kernel
theorem dX5_nextToken_10 : decode cX5_nextToken 10 = .ok (.if_icmp .ge 21, 3) := by decide +kernel
theorem dX5_nextToken_13 : decode cX5_nextToken 13 = .ok (.aload_n 0, 1) := by decide +kernel
theorem dX5_nextToken_14 : decode cX5_nextToken 14 = .ok (.getfield 15, 3) := by decide +kernel
theorem dX5_nextToken_17 : decode cX5_nextToken 17 = .ok (.iload_n 1, 1) := by decide +kernel
theorem dX5_nextToken_18 : decode cX5_nextToken 18 = .ok (.baload, 1) := by decide +kernel
theorem dX5_nextToken_19 : decode cX5_nextToken 19 = .ok (.invokestatic 65, 3) := by decide +kernel
theorem dX5_nextToken_22 : decode cX5_nextToken 22 = .ok (.ifCond .eq 9, 3) := by decide +kernel
theorem dX5_nextToken_25 : decode cX5_nextToken 25 = .ok (.iinc 1 1, 3) := by decide +kernel
theorem dX5_nextToken_28 : decode cX5_nextToken 28 = .ok (.goto (-23), 3) := by decide +kernel
theorem dX5_nextToken_31 : decode cX5_nextToken 31 = .ok (.aload_n 0, 1) := by decide +kernel
theorem dX5_nextToken_32 : decode cX5_nextToken 32 = .ok (.iload_n 1, 1) := by decide +kernel
theorem dX5_nextToken_33 : decode cX5_nextToken 33 = .ok (.putfield 39, 3) := by decide +kernel
theorem dX5_nextToken_36 : decode cX5_nextToken 36 = .ok (.iload_n 1, 1) := by decide +kernel
theorem dX5_nextToken_37 : decode cX5_nextToken 37 = .ok (.aload_n 0, 1) := by decide +kernel
theorem dX5_nextToken_38 : decode cX5_nextToken 38 = .ok (.getfield 25, 3) := by decide +kernel
theorem dX5_nextToken_41 : decode cX5_nextToken 41 = .ok (.if_icmp .ge 20, 3) := by decide +kernel
theorem dX5_nextToken_44 : decode cX5_nextToken 44 = .ok (.aload_n 0, 1) := by decide +kernel
theorem dX5_nextToken_45 : decode cX5_nextToken 45 = .ok (.getfield 15, 3) := by decide +kernel
theorem dX5_nextToken_48 : decode cX5_nextToken 48 = .ok (.iload_n 1, 1) := by decide +kernel
theorem dX5_nextToken_49 : decode cX5_nextToken 49 = .ok (.baload, 1) := by decide +kernel
theorem dX5_nextToken_50 : decode cX5_nextToken 50 = .ok (.bipush 59, 2) := by decide +kernel
theorem dX5_nextToken_52 : decode cX5_nextToken 52 = .ok (.if_icmp .ne 9, 3) := by decide +kernel
theorem dX5_nextToken_55 : decode cX5_nextToken 55 = .ok (.iinc 1 1, 3) := by decide +kernel
theorem dX5_nextToken_58 : decode cX5_nextToken 58 = .ok (.goto 75, 3) := by decide +kernel
theorem dX5_nextToken_61 : decode cX5_nextToken 61 = .ok (.iload_n 1, 1) := by decide +kernel
theorem dX5_nextToken_62 : decode cX5_nextToken 62 = .ok (.aload_n 0, 1) := by decide +kernel
theorem dX5_nextToken_63 : decode cX5_nextToken 63 = .ok (.getfield 25, 3) := by decide +kernel
theorem dX5_nextToken_66 : decode cX5_nextToken 66 = .ok (.if_icmp .ge 41, 3) := by decide +kernel
theorem dX5_nextToken_69 : decode cX5_nextToken 69 = .ok (.aload_n 0, 1) := by decide +kernel
theorem dX5_nextToken_70 : decode cX5_nextToken 70 = .ok (.getfield 15, 3) := by decide +kernel
theorem dX5_nextToken_73 : decode cX5_nextToken 73 = .ok (.iload_n 1, 1) := by decide +kernel
theorem dX5_nextToken_74 : decode cX5_nextToken 74 = .ok (.baload, 1) := by decide +kernel
theorem dX5_nextToken_75 : decode cX5_nextToken 75 = .ok (.invokestatic 69, 3) := by decide +kernel
theorem dX5_nextToken_78 : decode cX5_nextToken 78 = .ok (.ifCond .eq 29, 3) := by decide +kernel
theorem dX5_nextToken_81 : decode cX5_nextToken 81 = .ok (.iload_n 1, 1) := by decide +kernel
theorem dX5_nextToken_82 : decode cX5_nextToken 82 = .ok (.aload_n 0, 1) := by decide +kernel
theorem dX5_nextToken_83 : decode cX5_nextToken 83 = .ok (.getfield 25, 3) := by decide +kernel
theorem dX5_nextToken_86 : decode cX5_nextToken 86 = .ok (.if_icmp .ge 47, 3) := by decide +kernel
theorem dX5_nextToken_89 : decode cX5_nextToken 89 = .ok (.aload_n 0, 1) := by decide +kernel
theorem dX5_nextToken_90 : decode cX5_nextToken 90 = .ok (.getfield 15, 3) := by decide +kernel
theorem dX5_nextToken_93 : decode cX5_nextToken 93 = .ok (.iload_n 1, 1) := by decide +kernel
theorem dX5_nextToken_94 : decode cX5_nextToken 94 = .ok (.baload, 1) := by decide +kernel
theorem dX5_nextToken_95 : decode cX5_nextToken 95 = .ok (.invokestatic 69, 3) := by decide +kernel
theorem dX5_nextToken_98 : decode cX5_nextToken 98 = .ok (.ifCond .eq 35, 3) := by decide +kernel
theorem dX5_nextToken_101 : decode cX5_nextToken 101 = .ok (.iinc 1 1, 3) := by decide +kernel
theorem dX5_nextToken_104 : decode cX5_nextToken 104 = .ok (.goto (-23), 3) := by decide +kernel
theorem dX5_nextToken_107 : decode cX5_nextToken 107 = .ok (.iload_n 1, 1) := by decide +kernel
theorem dX5_nextToken_108 : decode cX5_nextToken 108 = .ok (.aload_n 0, 1) := by decide +kernel
theorem dX5_nextToken_109 : decode cX5_nextToken 109 = .ok (.getfield 25, 3) := by decide +kernel
theorem dX5_nextToken_112 : decode cX5_nextToken 112 = .ok (.if_icmp .ge 21, 3) := by decide +kernel
theorem dX5_nextToken_115 : decode cX5_nextToken 115 = .ok (.aload_n 0, 1) := by decide +kernel
theorem dX5_nextToken_116 : decode cX5_nextToken 116 = .ok (.getfield 15, 3) := by decide +kernel
theorem dX5_nextToken_119 : decode cX5_nextToken 119 = .ok (.iload_n 1, 1) := by decide +kernel
theorem dX5_nextToken_120 : decode cX5_nextToken 120 = .ok (.baload, 1) := by decide +kernel
theorem dX5_nextToken_121 : decode cX5_nextToken 121 = .ok (.invokestatic 72, 3) := by decide +kernel
theorem dX5_nextToken_124 : decode cX5_nextToken 124 = .ok (.ifCond .eq 9, 3) := by decide +kernel
theorem dX5_nextToken_127 : decode cX5_nextToken 127 = .ok (.iinc 1 1, 3) := by decide +kernel
theorem dX5_nextToken_130 : decode cX5_nextToken 130 = .ok (.goto (-23), 3) := by decide +kernel
theorem dX5_nextToken_133 : decode cX5_nextToken 133 = .ok (.aload_n 0, 1) := by decide +kernel
theorem dX5_nextToken_134 : decode cX5_nextToken 134 = .ok (.iload_n 1, 1) := by decide +kernel
theorem dX5_nextToken_135 : decode cX5_nextToken 135 = .ok (.putfield 28, 3) := by decide +kernel
theorem dX5_nextToken_138 : decode cX5_nextToken 138 = .ok (.return_, 1) := by decide +kernel
set_option maxRecDepth 20000 in
theorem ggX5_keyword_X5_spells : GoodIn wsX5_keyword wsX5_spells := goodIn_r _ [5, 6, 7, 8, 9, 10, 11, 12, 13, 14, 15, 16, 17, 18, 19, 20, 21, 22, 23, 24, 25, 26, 27, 28, 29, 30, 31, 32, 33, 34, 35, 36, 37, 38, 39, 40, 41, 42, 43, 44, 45, 46, 47, 48, 49, 50, 51, 52, 53, 54, 55, 56, 57, 58, 59, 60, 61, 62, 63] (by decide +kernel) (by decide +kernel)
set_option maxRecDepth 20000 in
theorem gX5_keyword_X5_spells : GoodIn wsX5_keyword (wsV RX5 55 RX5 yX5_spells wsX5_spells) := goodIn_app (goodIn_of _ (by decide +kernel)) ggX5_keyword_X5_spells
theorem dX5_keyword_0 : decode cX5_keyword 0 = .ok (.aload_n 0, 1) := by decide +kernel
theorem dX5_keyword_1 : decode cX5_keyword 1 = .ok (.ldc 75, 2) := by decide +kernel
theorem dX5_keyword_3 : decode cX5_keyword 3 = .ok (.invokevirtual 55, 3) := by decide +kernel
theorem dX5_keyword_6 : decode cX5_keyword 6 = .ok (.ifCond .eq 5, 3) := by decide +kernel
theorem dX5_keyword_9 : decode cX5_keyword 9 = .ok (.iconst 0, 1) := by decide +kernel
theorem dX5_keyword_10 : decode cX5_keyword 10 = .ok (.ireturn, 1) := by decide +kernel
theorem dX5_keyword_11 : decode cX5_keyword 11 = .ok (.aload_n 0, 1) := by decide +kernel
theorem dX5_keyword_12 : decode cX5_keyword 12 = .ok (.ldc 77, 2) := by decide +kernel
theorem dX5_keyword_14 : decode cX5_keyword 14 = .ok (.invokevirtual 55, 3) := by decide +kernel
theorem dX5_keyword_17 : decode cX5_keyword 17 = .ok (.ifCond .eq 5, 3) := by decide +kernel
theorem dX5_keyword_20 : decode cX5_keyword 20 = .ok (.iconst 1, 1) := by decide +kernel
theorem dX5_keyword_21 : decode cX5_keyword 21 = .ok (.ireturn, 1) := by decide +kernel
theorem dX5_keyword_22 : decode cX5_keyword 22 = .ok (.aload_n 0, 1) := by decide +kernel
theorem dX5_keyword_23 : decode cX5_keyword 23 = .ok (.ldc 79, 2) := by decide +kernel
theorem dX5_keyword_25 : decode cX5_keyword 25 = .ok (.invokevirtual 55, 3) := by decide +kernel
theorem dX5_keyword_28 : decode cX5_keyword 28 = .ok (.ifCond .eq 5, 3) := by decide +kernel
theorem dX5_keyword_31 : decode cX5_keyword 31 = .ok (.iconst 2, 1) := by decide +kernel
theorem dX5_keyword_32 : decode cX5_keyword 32 = .ok (.ireturn, 1) := by decide +kernel
theorem dX5_keyword_33 : decode cX5_keyword 33 = .ok (.aload_n 0, 1) := by decide +kernel
theorem dX5_keyword_34 : decode cX5_keyword 34 = .ok (.ldc 81, 2) := by decide +kernel
theorem dX5_keyword_36 : decode cX5_keyword 36 = .ok (.invokevirtual 55, 3) := by decide +kernel
theorem dX5_keyword_39 : decode cX5_keyword 39 = .ok (.ifCond .eq 5, 3) := by decide +kernel
theorem dX5_keyword_42 : decode cX5_keyword 42 = .ok (.iconst 3, 1) := by decide +kernel
theorem dX5_keyword_43 : decode cX5_keyword 43 = .ok (.ireturn, 1) := by decide +kernel
theorem dX5_keyword_44 : decode cX5_keyword 44 = .ok (.aload_n 0, 1) := by decide +kernel
theorem dX5_keyword_45 : decode cX5_keyword 45 = .ok (.ldc 83, 2) := by decide +kernel
theorem dX5_keyword_47 : decode cX5_keyword 47 = .ok (.invokevirtual 55, 3) := by decide +kernel
theorem dX5_keyword_50 : decode cX5_keyword 50 = .ok (.ifCond .eq 5, 3) := by decide +kernel
theorem dX5_keyword_53 : decode cX5_keyword 53 = .ok (.iconst 4, 1) := by decide +kernel
theorem dX5_keyword_54 : decode cX5_keyword 54 = .ok (.ireturn, 1) := by decide +kernel
theorem dX5_keyword_55 : decode cX5_keyword 55 = .ok (.aload_n 0, 1) := by decide +kernel
theorem dX5_keyword_56 : decode cX5_keyword 56 = .ok (.ldc 85, 2) := by decide +kernel
theorem dX5_keyword_58 : decode cX5_keyword 58 = .ok (.invokevirtual 55, 3) := by decide +kernel
theorem dX5_keyword_61 : decode cX5_keyword 61 = .ok (.ifCond .eq 5, 3) := by decide +kernel
theorem dX5_keyword_64 : decode cX5_keyword 64 = .ok (.iconst 5, 1) := by decide +kernel
theorem dX5_keyword_65 : decode cX5_keyword 65 = .ok (.ireturn, 1) := by decide +kernel
theorem dX5_keyword_66 : decode cX5_keyword 66 = .ok (.aload_n 0, 1) := by decide +kernel
theorem dX5_keyword_67 : decode cX5_keyword 67 = .ok (.ldc 87, 2) := by decide +kernel
theorem dX5_keyword_69 : decode cX5_keyword 69 = .ok (.invokevirtual 55, 3) := by decide +kernel
theorem dX5_keyword_72 : decode cX5_keyword 72 = .ok (.ifCond .eq 6, 3) := by decide +kernel
theorem dX5_keyword_75 : decode cX5_keyword 75 = .ok (.bipush 6, 2) := by decide +kernel
theorem dX5_keyword_77 : decode cX5_keyword 77 = .ok (.ireturn, 1) := by decide +kernel
theorem dX5_keyword_78 : decode cX5_keyword 78 = .ok (.aload_n 0, 1) := by decide +kernel
theorem dX5_keyword_79 : decode cX5_keyword 79 = .ok (.ldc 89, 2) := by decide +kernel
theorem dX5_keyword_81 : decode cX5_keyword 81 = .ok (.invokevirtual 55, 3) := by decide +kernel
theorem dX5_keyword_84 : decode cX5_keyword 84 = .ok (.ifCond .eq 8, 3) := by decide +kernel
theorem dX5_keyword_87 : decode cX5_keyword 87 = .ok (.bipush 7, 2) := by decide +kernel
theorem dX5_keyword_89 : decode cX5_keyword 89 = .ok (.goto 4, 3) := by decide +kernel
theorem dX5_keyword_92 : decode cX5_keyword 92 = .ok (.iconst (-1), 1) := by decide +kernel
theorem dX5_keyword_93 : decode cX5_keyword 93 = .ok (.ireturn, 1) := by decide +kernel
set_option maxRecDepth 20000 in
theorem ggX5_spells_J0_length_8abf5 : GoodIn wsX5_spells wsJ0_length_8abf5 := goodIn_r _ [9, 10, 11, 12, 13, 8, 14, 15, 16] (by decide +kernel) (by decide +kernel)
set_option maxRecDepth 20000 in
theorem gX5_spells_J0_length_8abf5 : GoodIn wsX5_spells (wsV RX5 91 RJ0 yJ0_length_8abf5 wsJ0_length_8abf5) := goodIn_app (goodIn_of _ (by decide +kernel)) ggX5_spells_J0_length_8abf5
set_option maxRecDepth 20000 in
theorem ggX5_spells_J0_charAt_5068e : GoodIn wsX5_spells wsJ0_charAt_5068e := goodIn_r _ [20, 10, 21, 22, 23, 8, 24, 15, 16, 25, 26, 27, 28, 29, 30, 31, 32, 33, 34, 35, 36, 37, 38, 39, 40, 41, 42, 43, 44, 45, 46, 47, 48, 49, 50, 51, 52, 53] (by decide +kernel) (by decide +kernel)
set_option maxRecDepth 20000 in
theorem gX5_spells_J0_charAt_5068e : GoodIn wsX5_spells (wsV RX5 95 RJ0 yJ0_charAt_5068e wsJ0_charAt_5068e) := goodIn_app (goodIn_of _ (by decide +kernel)) ggX5_spells_J0_charAt_5068e
theorem dX5_spells_0 : decode cX5_spells 0 = .ok (.aload_n 0, 1) := by decide +kernel
theorem dX5_spells_1 : decode cX5_spells 1 = .ok (.getfield 28, 3) := by decide +kernel
theorem dX5_spells_4 : decode cX5_spells 4 = .ok (.aload_n 0, 1) := by decide +kernel
theorem dX5_spells_5 : decode cX5_spells 5 = .ok (.getfield 39, 3) := by decide +kernel
theorem dX5_spells_8 : decode cX5_spells 8 = .ok (.isub, 1) := by decide +kernel
theorem dX5_spells_9 : decode cX5_spells 9 = .ok (.aload_n 1, 1) := by decide +kernel
theorem dX5_spells_10 : decode cX5_spells 10 = .ok (.invokevirtual 91, 3) := by decide +kernel
theorem dX5_spells_13 : decode cX5_spells 13 = .ok (.if_icmp .ne 14, 3) := by decide +kernel
theorem dX5_spells_16 : decode cX5_spells 16 = .ok (.aload_n 0, 1) := by decide +kernel
theorem dX5_spells_17 : decode cX5_spells 17 = .ok (.getfield 28, 3) := by decide +kernel
theorem dX5_spells_20 : decode cX5_spells 20 = .ok (.aload_n 0, 1) := by decide +kernel
theorem dX5_spells_21 : decode cX5_spells 21 = .ok (.getfield 25, 3) := by decide +kernel
theorem dX5_spells_24 : decode cX5_spells 24 = .ok (.if_icmp .le 5, 3) := by decide +kernel
theorem dX5_spells_27 : decode cX5_spells 27 = .ok (.iconst 0, 1) := by decide +kernel
theorem dX5_spells_28 : decode cX5_spells 28 = .ok (.ireturn, 1) := by decide +kernel
theorem dX5_spells_29 : decode cX5_spells 29 = .ok (.iconst 0, 1) := by decide +kernel
theorem dX5_spells_30 : decode cX5_spells 30 = .ok (.istore_n 2, 1) := by decide +kernel
theorem dX5_spells_31 : decode cX5_spells 31 = .ok (.iload_n 2, 1) := by decide +kernel
theorem dX5_spells_32 : decode cX5_spells 32 = .ok (.aload_n 1, 1) := by decide +kernel
theorem dX5_spells_33 : decode cX5_spells 33 = .ok (.invokevirtual 91, 3) := by decide +kernel
theorem dX5_spells_36 : decode cX5_spells 36 = .ok (.if_icmp .ge 30, 3) := by decide +kernel
theorem dX5_spells_39 : decode cX5_spells 39 = .ok (.aload_n 0, 1) := by decide +kernel
theorem dX5_spells_40 : decode cX5_spells 40 = .ok (.getfield 15, 3) := by decide +kernel
theorem dX5_spells_43 : decode cX5_spells 43 = .ok (.aload_n 0, 1) := by decide +kernel
theorem dX5_spells_44 : decode cX5_spells 44 = .ok (.getfield 39, 3) := by decide +kernel
theorem dX5_spells_47 : decode cX5_spells 47 = .ok (.iload_n 2, 1) := by decide +kernel
theorem dX5_spells_48 : decode cX5_spells 48 = .ok (.iadd, 1) := by decide +kernel
theorem dX5_spells_49 : decode cX5_spells 49 = .ok (.baload, 1) := by decide +kernel
theorem dX5_spells_50 : decode cX5_spells 50 = .ok (.aload_n 1, 1) := by decide +kernel
theorem dX5_spells_51 : decode cX5_spells 51 = .ok (.iload_n 2, 1) := by decide +kernel
theorem dX5_spells_52 : decode cX5_spells 52 = .ok (.invokevirtual 95, 3) := by decide +kernel
theorem dX5_spells_55 : decode cX5_spells 55 = .ok (.if_icmp .eq 5, 3) := by decide +kernel
theorem dX5_spells_58 : decode cX5_spells 58 = .ok (.iconst 0, 1) := by decide +kernel
theorem dX5_spells_59 : decode cX5_spells 59 = .ok (.ireturn, 1) := by decide +kernel
theorem dX5_spells_60 : decode cX5_spells 60 = .ok (.iinc 2 1, 3) := by decide +kernel
theorem dX5_spells_63 : decode cX5_spells 63 = .ok (.goto (-32), 3) := by decide +kernel
theorem dX5_spells_66 : decode cX5_spells 66 = .ok (.iconst 1, 1) := by decide +kernel
theorem dX5_spells_67 : decode cX5_spells 67 = .ok (.ireturn, 1) := by decide +kernel
set_option maxRecDepth 20000 in
theorem ggX5_number_X5_isDigit : GoodIn wsX5_number wsX5_isDigit := goodIn_r _ [8] (by decide +kernel) (by decide +kernel)
set_option maxRecDepth 20000 in
theorem gX5_number_X5_isDigit : GoodIn wsX5_number (va_wsS RX5 72 yX5_isDigit wsX5_isDigit) := goodIn_app (goodIn_of _ (by decide +kernel)) ggX5_number_X5_isDigit
theorem dX5_number_0 : decode cX5_number 0 = .ok (.aload_n 0, 1) := by decide +kernel
theorem dX5_number_1 : decode cX5_number 1 = .ok (.getfield 28, 3) := by decide +kernel
theorem dX5_number_4 : decode cX5_number 4 = .ok (.aload_n 0, 1) := by decide +kernel
theorem dX5_number_5 : decode cX5_number 5 = .ok (.getfield 39, 3) := by decide +kernel
theorem dX5_number_8 : decode cX5_number 8 = .ok (.isub, 1) := by decide +kernel
theorem dX5_number_9 : decode cX5_number 9 = .ok (.istore_n 3, 1) := by decide +kernel
theorem dX5_number_10 : decode cX5_number 10 = .ok (.iload_n 3, 1) := by decide +kernel
theorem dX5_number_11 : decode cX5_number 11 = .ok (.iconst 1, 1) := by decide +kernel
theorem dX5_number_12 : decode cX5_number 12 = .ok (.if_icmp .lt 19, 3) := by decide +kernel
theorem dX5_number_15 : decode cX5_number 15 = .ok (.iload_n 3, 1) := by decide +kernel
theorem dX5_number_16 : decode cX5_number 16 = .ok (.iconst 4, 1) := by decide +kernel
theorem dX5_number_17 : decode cX5_number 17 = .ok (.if_icmp .gt 14, 3) := by decide +kernel
theorem dX5_number_20 : decode cX5_number 20 = .ok (.aload_n 0, 1) := by decide +kernel
theorem dX5_number_21 : decode cX5_number 21 = .ok (.getfield 28, 3) := by decide +kernel
theorem dX5_number_24 : decode cX5_number 24 = .ok (.aload_n 0, 1) := by decide +kernel
theorem dX5_number_25 : decode cX5_number 25 = .ok (.getfield 25, 3) := by decide +kernel
theorem dX5_number_28 : decode cX5_number 28 = .ok (.if_icmp .le 5, 3) := by decide +kernel
theorem dX5_number_31 : decode cX5_number 31 = .ok (.iconst (-1), 1) := by decide +kernel
theorem dX5_number_32 : decode cX5_number 32 = .ok (.ireturn, 1) := by decide +kernel
theorem dX5_number_33 : decode cX5_number 33 = .ok (.iconst 0, 1) := by decide +kernel
theorem dX5_number_34 : decode cX5_number 34 = .ok (.istore 4, 2) := by decide +kernel
theorem dX5_number_36 : decode cX5_number 36 = .ok (.aload_n 0, 1) := by decide +kernel
theorem dX5_number_37 : decode cX5_number 37 = .ok (.getfield 39, 3) := by decide +kernel
theorem dX5_number_40 : decode cX5_number 40 = .ok (.istore 5, 2) := by decide +kernel
theorem dX5_number_42 : decode cX5_number 42 = .ok (.iload 5, 2) := by decide +kernel
theorem dX5_number_44 : decode cX5_number 44 = .ok (.aload_n 0, 1) := by decide +kernel
theorem dX5_number_45 : decode cX5_number 45 = .ok (.getfield 28, 3) := by decide +kernel
theorem dX5_number_48 : decode cX5_number 48 = .ok (.if_icmp .ge 42, 3) := by decide +kernel
theorem dX5_number_51 : decode cX5_number 51 = .ok (.aload_n 0, 1) := by decide +kernel
theorem dX5_number_52 : decode cX5_number 52 = .ok (.getfield 15, 3) := by decide +kernel
theorem dX5_number_55 : decode cX5_number 55 = .ok (.iload 5, 2) := by decide +kernel
theorem dX5_number_57 : decode cX5_number 57 = .ok (.baload, 1) := by decide +kernel
theorem dX5_number_58 : decode cX5_number 58 = .ok (.invokestatic 72, 3) := by decide +kernel
theorem dX5_number_61 : decode cX5_number 61 = .ok (.ifCond .ne 5, 3) := by decide +kernel
theorem dX5_number_64 : decode cX5_number 64 = .ok (.iconst (-1), 1) := by decide +kernel
theorem dX5_number_65 : decode cX5_number 65 = .ok (.ireturn, 1) := by decide +kernel
theorem dX5_number_66 : decode cX5_number 66 = .ok (.iload 4, 2) := by decide +kernel
theorem dX5_number_68 : decode cX5_number 68 = .ok (.bipush 10, 2) := by decide +kernel
theorem dX5_number_70 : decode cX5_number 70 = .ok (.imul, 1) := by decide +kernel
theorem dX5_number_71 : decode cX5_number 71 = .ok (.aload_n 0, 1) := by decide +kernel
theorem dX5_number_72 : decode cX5_number 72 = .ok (.getfield 15, 3) := by decide +kernel
theorem dX5_number_75 : decode cX5_number 75 = .ok (.iload 5, 2) := by decide +kernel
theorem dX5_number_77 : decode cX5_number 77 = .ok (.baload, 1) := by decide +kernel
theorem dX5_number_78 : decode cX5_number 78 = .ok (.bipush 48, 2) := by decide +kernel
theorem dX5_number_80 : decode cX5_number 80 = .ok (.isub, 1) := by decide +kernel
theorem dX5_number_81 : decode cX5_number 81 = .ok (.iadd, 1) := by decide +kernel
theorem dX5_number_82 : decode cX5_number 82 = .ok (.istore 4, 2) := by decide +kernel
theorem dX5_number_84 : decode cX5_number 84 = .ok (.iinc 5 1, 3) := by decide +kernel
theorem dX5_number_87 : decode cX5_number 87 = .ok (.goto (-45), 3) := by decide +kernel
theorem dX5_number_90 : decode cX5_number 90 = .ok (.iload 4, 2) := by decide +kernel
theorem dX5_number_92 : decode cX5_number 92 = .ok (.iload_n 1, 1) := by decide +kernel
theorem dX5_number_93 : decode cX5_number 93 = .ok (.if_icmp .lt 14, 3) := by decide +kernel
theorem dX5_number_96 : decode cX5_number 96 = .ok (.iload 4, 2) := by decide +kernel
theorem dX5_number_98 : decode cX5_number 98 = .ok (.iload_n 2, 1) := by decide +kernel
theorem dX5_number_99 : decode cX5_number 99 = .ok (.if_icmp .gt 8, 3) := by decide +kernel
theorem dX5_number_102 : decode cX5_number 102 = .ok (.iload 4, 2) := by decide +kernel
theorem dX5_number_104 : decode cX5_number 104 = .ok (.goto 4, 3) := by decide +kernel
theorem dX5_number_107 : decode cX5_number 107 = .ok (.iconst (-1), 1) := by decide +kernel
theorem dX5_number_108 : decode cX5_number 108 = .ok (.ireturn, 1) := by decide +kernel
theorem dX5_isBlank_0 : decode cX5_isBlank 0 = .ok (.iload_n 0, 1) := by decide +kernel
theorem dX5_isBlank_1 : decode cX5_isBlank 1 = .ok (.bipush 32, 2) := by decide +kernel
theorem dX5_isBlank_3 : decode cX5_isBlank 3 = .ok (.if_icmp .eq 9, 3) := by decide +kernel
theorem dX5_isBlank_6 : decode cX5_isBlank 6 = .ok (.iload_n 0, 1) := by decide +kernel
theorem dX5_isBlank_7 : decode cX5_isBlank 7 = .ok (.bipush 10, 2) := by decide +kernel
theorem dX5_isBlank_9 : decode cX5_isBlank 9 = .ok (.if_icmp .ne 7, 3) := by decide +kernel
theorem dX5_isBlank_12 : decode cX5_isBlank 12 = .ok (.iconst 1, 1) := by decide +kernel
theorem dX5_isBlank_13 : decode cX5_isBlank 13 = .ok (.goto 4, 3) := by decide +kernel
theorem dX5_isBlank_16 : decode cX5_isBlank 16 = .ok (.iconst 0, 1) := by decide +kernel
theorem dX5_isBlank_17 : decode cX5_isBlank 17 = .ok (.ireturn, 1) := by decide +kernel
theorem dX5_isLetter_0 : decode cX5_isLetter 0 = .ok (.iload_n 0, 1) := by decide +kernel
theorem dX5_isLetter_1 : decode cX5_isLetter 1 = .ok (.bipush 97, 2) := by decide +kernel
theorem dX5_isLetter_3 : decode cX5_isLetter 3 = .ok (.if_icmp .lt 13, 3) := by decide +kernel
theorem dX5_isLetter_6 : decode cX5_isLetter 6 = .ok (.iload_n 0, 1) := by decide +kernel
theorem dX5_isLetter_7 : decode cX5_isLetter 7 = .ok (.bipush 122, 2) := by decide +kernel
theorem dX5_isLetter_9 : decode cX5_isLetter 9 = .ok (.if_icmp .gt 7, 3) := by decide +kernel
theorem dX5_isLetter_12 : decode cX5_isLetter 12 = .ok (.iconst 1, 1) := by decide +kernel
theorem dX5_isLetter_13 : decode cX5_isLetter 13 = .ok (.goto 4, 3) := by decide +kernel
theorem dX5_isLetter_16 : decode cX5_isLetter 16 = .ok (.iconst 0, 1) := by decide +kernel
theorem dX5_isLetter_17 : decode cX5_isLetter 17 = .ok (.ireturn, 1) := by decide +kernel
theorem dX5_isDigit_0 : decode cX5_isDigit 0 = .ok (.iload_n 0, 1) := by decide +kernel
theorem dX5_isDigit_1 : decode cX5_isDigit 1 = .ok (.bipush 48, 2) := by decide +kernel
theorem dX5_isDigit_3 : decode cX5_isDigit 3 = .ok (.if_icmp .lt 13, 3) := by decide +kernel
theorem dX5_isDigit_6 : decode cX5_isDigit 6 = .ok (.iload_n 0, 1) := by decide +kernel
theorem dX5_isDigit_7 : decode cX5_isDigit 7 = .ok (.bipush 57, 2) := by decide +kernel
theorem dX5_isDigit_9 : decode cX5_isDigit 9 = .ok (.if_icmp .gt 7, 3) := by decide +kernel
theorem dX5_isDigit_12 : decode cX5_isDigit 12 = .ok (.iconst 1, 1) := by decide +kernel
theorem dX5_isDigit_13 : decode cX5_isDigit 13 = .ok (.goto 4, 3) := by decide +kernel
theorem dX5_isDigit_16 : decode cX5_isDigit 16 = .ok (.iconst 0, 1) := by decide +kernel
theorem dX5_isDigit_17 : decode cX5_isDigit 17 = .ok (.ireturn, 1) := by decide +kernel
theorem dX6_init_0 : decode cX6_init 0 = .ok (.aload_n 0, 1) := by decide +kernel
theorem dX6_init_1 : decode cX6_init 1 = .ok (.invokespecial 3, 3) := by decide +kernel
theorem dX6_init_4 : decode cX6_init 4 = .ok (.aload_n 0, 1) := by decide +kernel
theorem dX6_init_5 : decode cX6_init 5 = .ok (.bipush 8, 2) := by decide +kernel
theorem dX6_init_7 : decode cX6_init 7 = .ok (.newarray .int, 2) := by decide +kernel
theorem dX6_init_9 : decode cX6_init 9 = .ok (.putfield 9, 3) := by decide +kernel
theorem dX6_init_12 : decode cX6_init 12 = .ok (.aload_n 0, 1) := by decide +kernel
theorem dX6_init_13 : decode cX6_init 13 = .ok (.bipush 8, 2) := by decide +kernel
theorem dX6_init_15 : decode cX6_init 15 = .ok (.newarray .int, 2) := by decide +kernel
theorem dX6_init_17 : decode cX6_init 17 = .ok (.putfield 15, 3) := by decide +kernel
theorem dX6_init_20 : decode cX6_init 20 = .ok (.aload_n 0, 1) := by decide +kernel
theorem dX6_init_21 : decode cX6_init 21 = .ok (.bipush 8, 2) := by decide +kernel
theorem dX6_init_23 : decode cX6_init 23 = .ok (.newarray .int, 2) := by decide +kernel
theorem dX6_init_25 : decode cX6_init 25 = .ok (.putfield 18, 3) := by decide +kernel
theorem dX6_init_28 : decode cX6_init 28 = .ok (.aload_n 0, 1) := by decide +kernel
theorem dX6_init_29 : decode cX6_init 29 = .ok (.bipush 8, 2) := by decide +kernel
theorem dX6_init_31 : decode cX6_init 31 = .ok (.newarray .int, 2) := by decide +kernel
theorem dX6_init_33 : decode cX6_init 33 = .ok (.putfield 21, 3) := by decide +kernel
theorem dX6_init_36 : decode cX6_init 36 = .ok (.aload_n 0, 1) := by decide +kernel
theorem dX6_init_37 : decode cX6_init 37 = .ok (.bipush 8, 2) := by decide +kernel
theorem dX6_init_39 : decode cX6_init 39 = .ok (.newarray .int, 2) := by decide +kernel
theorem dX6_init_41 : decode cX6_init 41 = .ok (.putfield 24, 3) := by decide +kernel
theorem dX6_init_44 : decode cX6_init 44 = .ok (.return_, 1) := by decide +kernel
set_option maxRecDepth 20000 in
theorem ggX6_close_X4_homeOf : GoodIn wsX6_close wsX4_homeOf := goodIn_r _ [19, 20, 21, 22, 23, 18, 24, 25, 26, 27, 28, 72, 73, 74, 75, 76] (by decide +kernel) (by decide +kernel)
set_option maxRecDepth 20000 in
theorem gX6_close_X4_homeOf : GoodIn wsX6_close (wsV RX6 43 RX4 yX4_homeOf wsX4_homeOf) := goodIn_app (goodIn_of _ (by decide +kernel)) ggX6_close_X4_homeOf
set_option maxRecDepth 20000 in
theorem ggX6_close_X2_firstFieldOf : GoodIn wsX6_close wsX2_firstFieldOf := goodIn_r _ [33, 34, 35, 77, 78, 79, 80, 81, 82, 83, 84, 85, 86, 87, 88] (by decide +kernel) (by decide +kernel)
set_option maxRecDepth 20000 in
theorem gX6_close_X2_firstFieldOf : GoodIn wsX6_close (wsV RX6 49 RX2 yX2_firstFieldOf wsX2_firstFieldOf) := goodIn_app (goodIn_of _ (by decide +kernel)) ggX6_close_X2_firstFieldOf
set_option maxRecDepth 20000 in
theorem ggX6_close_X2_placeOf : GoodIn wsX6_close wsX2_placeOf := goodIn_r _ [39, 40, 41, 42, 43, 32, 44, 34, 26, 27, 28, 77, 78, 79, 80, 81, 82, 83, 84, 85, 86, 87, 88] (by decide +kernel) (by decide +kernel)
set_option maxRecDepth 20000 in
theorem gX6_close_X2_placeOf : GoodIn wsX6_close (wsV RX6 54 RX2 yX2_placeOf wsX2_placeOf) := goodIn_app (goodIn_of _ (by decide +kernel)) ggX6_close_X2_placeOf
set_option maxRecDepth 20000 in
theorem ggX6_close_X6_point : GoodIn wsX6_close wsX6_point := goodIn_r _ [49, 8, 13, 14, 50, 51, 52, 48, 53, 12, 10, 54, 55, 3, 56, 11, 65, 66, 67, 68, 69, 70, 71] (by decide +kernel) (by decide +kernel)
set_option maxRecDepth 20000 in
theorem gX6_close_X6_point : GoodIn wsX6_close (wsV RX6 57 RX6 yX6_point wsX6_point) := goodIn_app (goodIn_of _ (by decide +kernel)) ggX6_close_X6_point
set_option maxRecDepth 20000 in
theorem ggX6_close_X6_leaveInRings : GoodIn wsX6_close wsX6_leaveInRings := goodIn_r _ [60, 8, 13, 11, 14, 9, 61, 62, 63, 48, 64, 1, 2, 3, 4, 65, 66, 67, 68, 69, 70, 71] (by decide +kernel) (by decide +kernel)
set_option maxRecDepth 20000 in
theorem gX6_close_X6_leaveInRings : GoodIn wsX6_close (wsV RX6 60 RX6 yX6_leaveInRings wsX6_leaveInRings) := goodIn_app (goodIn_of _ (by decide +kernel)) ggX6_close_X6_leaveInRings
theorem dX6_close_0 : decode cX6_close 0 = .ok (.aload_n 0, 1) := by decide +kernel
theorem dX6_close_1 : decode cX6_close 1 = .ok (.iconst 0, 1) := by decide +kernel
theorem dX6_close_2 : decode cX6_close 2 = .ok (.iload_n 2, 1) := by decide +kernel
theorem dX6_close_3 : decode cX6_close 3 = .ok (.bipush 8, 2) := by decide +kernel
theorem dX6_close_5 : decode cX6_close 5 = .ok (.invokestatic 27, 3) := by decide +kernel
theorem dX6_close_8 : decode cX6_close 8 = .ok (.invokestatic 33, 3) := by decide +kernel
theorem dX6_close_11 : decode cX6_close 11 = .ok (.putfield 36, 3) := by decide +kernel
theorem dX6_close_14 : decode cX6_close 14 = .ok (.aload_n 0, 1) := by decide +kernel
theorem dX6_close_15 : decode cX6_close 15 = .ok (.iconst 0, 1) := by decide +kernel
theorem dX6_close_16 : decode cX6_close 16 = .ok (.putfield 40, 3) := by decide +kernel
theorem dX6_close_19 : decode cX6_close 19 = .ok (.iconst 0, 1) := by decide +kernel
theorem dX6_close_20 : decode cX6_close 20 = .ok (.istore 5, 2) := by decide +kernel
theorem dX6_close_22 : decode cX6_close 22 = .ok (.iload 5, 2) := by decide +kernel
theorem dX6_close_24 : decode cX6_close 24 = .ok (.aload_n 0, 1) := by decide +kernel
theorem dX6_close_25 : decode cX6_close 25 = .ok (.getfield 36, 3) := by decide +kernel
theorem dX6_close_28 : decode cX6_close 28 = .ok (.if_icmp .ge 88, 3) := by decide +kernel
theorem dX6_close_31 : decode cX6_close 31 = .ok (.aload_n 0, 1) := by decide +kernel
theorem dX6_close_32 : decode cX6_close 32 = .ok (.getfield 9, 3) := by decide +kernel
theorem dX6_close_35 : decode cX6_close 35 = .ok (.iload 5, 2) := by decide +kernel
theorem dX6_close_37 : decode cX6_close 37 = .ok (.aload 4, 2) := by decide +kernel
theorem dX6_close_39 : decode cX6_close 39 = .ok (.iload_n 1, 1) := by decide +kernel
theorem dX6_close_40 : decode cX6_close 40 = .ok (.iload 5, 2) := by decide +kernel
theorem dX6_close_42 : decode cX6_close 42 = .ok (.iadd, 1) := by decide +kernel
theorem dX6_close_43 : decode cX6_close 43 = .ok (.invokevirtual 43, 3) := by decide +kernel
theorem dX6_close_46 : decode cX6_close 46 = .ok (.iastore, 1) := by decide +kernel
theorem dX6_close_47 : decode cX6_close 47 = .ok (.aload_n 0, 1) := by decide +kernel
theorem dX6_close_48 : decode cX6_close 48 = .ok (.getfield 15, 3) := by decide +kernel
theorem dX6_close_51 : decode cX6_close 51 = .ok (.iload 5, 2) := by decide +kernel
theorem dX6_close_53 : decode cX6_close 53 = .ok (.aload_n 3, 1) := by decide +kernel
theorem dX6_close_54 : decode cX6_close 54 = .ok (.iload_n 1, 1) := by decide +kernel
theorem dX6_close_55 : decode cX6_close 55 = .ok (.iload 5, 2) := by decide +kernel
theorem dX6_close_57 : decode cX6_close 57 = .ok (.iadd, 1) := by decide +kernel
theorem dX6_close_58 : decode cX6_close 58 = .ok (.invokevirtual 49, 3) := by decide +kernel
theorem dX6_close_61 : decode cX6_close 61 = .ok (.iastore, 1) := by decide +kernel
theorem dX6_close_62 : decode cX6_close 62 = .ok (.aload_n 0, 1) := by decide +kernel
theorem dX6_close_63 : decode cX6_close 63 = .ok (.getfield 15, 3) := by decide +kernel
theorem dX6_close_66 : decode cX6_close 66 = .ok (.iload 5, 2) := by decide +kernel
theorem dX6_close_68 : decode cX6_close 68 = .ok (.iaload, 1) := by decide +kernel
theorem dX6_close_69 : decode cX6_close 69 = .ok (.iconst (-1), 1) := by decide +kernel
theorem dX6_close_70 : decode cX6_close 70 = .ok (.if_icmp .ne 5, 3) := by decide +kernel
theorem dX6_close_73 : decode cX6_close 73 = .ok (.iconst 0, 1) := by decide +kernel
theorem dX6_close_74 : decode cX6_close 74 = .ok (.ireturn, 1) := by decide +kernel
theorem dX6_close_75 : decode cX6_close 75 = .ok (.aload_n 0, 1) := by decide +kernel
theorem dX6_close_76 : decode cX6_close 76 = .ok (.getfield 18, 3) := by decide +kernel
theorem dX6_close_79 : decode cX6_close 79 = .ok (.iload 5, 2) := by decide +kernel
theorem dX6_close_81 : decode cX6_close 81 = .ok (.aload_n 3, 1) := by decide +kernel
theorem dX6_close_82 : decode cX6_close 82 = .ok (.aload_n 0, 1) := by decide +kernel
theorem dX6_close_83 : decode cX6_close 83 = .ok (.getfield 15, 3) := by decide +kernel
theorem dX6_close_86 : decode cX6_close 86 = .ok (.iload 5, 2) := by decide +kernel
theorem dX6_close_88 : decode cX6_close 88 = .ok (.iaload, 1) := by decide +kernel
theorem dX6_close_89 : decode cX6_close 89 = .ok (.invokevirtual 54, 3) := by decide +kernel
theorem dX6_close_92 : decode cX6_close 92 = .ok (.iastore, 1) := by decide +kernel
theorem dX6_close_93 : decode cX6_close 93 = .ok (.aload_n 0, 1) := by decide +kernel
theorem dX6_close_94 : decode cX6_close 94 = .ok (.getfield 21, 3) := by decide +kernel
theorem dX6_close_97 : decode cX6_close 97 = .ok (.iload 5, 2) := by decide +kernel
theorem dX6_close_99 : decode cX6_close 99 = .ok (.iconst (-1), 1) := by decide +kernel
theorem dX6_close_100 : decode cX6_close 100 = .ok (.iastore, 1) := by decide +kernel
theorem dX6_close_101 : decode cX6_close 101 = .ok (.aload_n 0, 1) := by decide +kernel
theorem dX6_close_102 : decode cX6_close 102 = .ok (.getfield 24, 3) := by decide +kernel
theorem dX6_close_105 : decode cX6_close 105 = .ok (.iload 5, 2) := by decide +kernel
theorem dX6_close_107 : decode cX6_close 107 = .ok (.iload 5, 2) := by decide +kernel
theorem dX6_close_109 : decode cX6_close 109 = .ok (.iastore, 1) := by decide +kernel
theorem dX6_close_110 : decode cX6_close 110 = .ok (.iinc 5 1, 3) := by decide +kernel
theorem dX6_close_113 : decode cX6_close 113 = .ok (.goto (-91), 3) := by decide +kernel
theorem dX6_close_116 : decode cX6_close 116 = .ok (.iconst 0, 1) := by decide +kernel
theorem dX6_close_117 : decode cX6_close 117 = .ok (.istore 5, 2) := by decide +kernel
theorem dX6_close_119 : decode cX6_close 119 = .ok (.iload 5, 2) := by decide +kernel
theorem dX6_close_121 : decode cX6_close 121 = .ok (.aload_n 0, 1) := by decide +kernel
theorem dX6_close_122 : decode cX6_close 122 = .ok (.getfield 36, 3) := by decide +kernel
theorem dX6_close_125 : decode cX6_close 125 = .ok (.if_icmp .ge 17, 3) := by decide +kernel
theorem dX6_close_128 : decode cX6_close 128 = .ok (.aload_n 0, 1) := by decide +kernel
theorem dX6_close_129 : decode cX6_close 129 = .ok (.invokevirtual 57, 3) := by decide +kernel
theorem dX6_close_132 : decode cX6_close 132 = .ok (.aload_n 0, 1) := by decide +kernel
theorem dX6_close_133 : decode cX6_close 133 = .ok (.invokevirtual 60, 3) := by decide +kernel
theorem dX6_close_136 : decode cX6_close 136 = .ok (.iinc 5 1, 3) := by decide +kernel
theorem dX6_close_139 : decode cX6_close 139 = .ok (.goto (-20), 3) := by decide +kernel
theorem dX6_close_142 : decode cX6_close 142 = .ok (.iconst 1, 1) := by decide +kernel
theorem dX6_close_143 : decode cX6_close 143 = .ok (.ireturn, 1) := by decide +kernel
set_option maxRecDepth 20000 in
theorem ggX6_point_X6_holderOfNearest : GoodIn wsX6_point wsX6_holderOfNearest := goodIn_r _ [8, 1, 9, 10, 11, 12, 13, 14, 15, 2, 16, 17, 18, 19, 20, 21, 22] (by decide +kernel) (by decide +kernel)
set_option maxRecDepth 20000 in
theorem gX6_point_X6_holderOfNearest : GoodIn wsX6_point (wsV RX6 63 RX6 yX6_holderOfNearest wsX6_holderOfNearest) := goodIn_app (goodIn_of _ (by decide +kernel)) ggX6_point_X6_holderOfNearest
theorem dX6_point_0 : decode cX6_point 0 = .ok (.iconst 0, 1) := by decide +kernel
theorem dX6_point_1 : decode cX6_point 1 = .ok (.istore_n 1, 1) := by decide +kernel
theorem dX6_point_2 : decode cX6_point 2 = .ok (.iload_n 1, 1) := by decide +kernel
theorem dX6_point_3 : decode cX6_point 3 = .ok (.aload_n 0, 1) := by decide +kernel
theorem dX6_point_4 : decode cX6_point 4 = .ok (.getfield 36, 3) := by decide +kernel
theorem dX6_point_7 : decode cX6_point 7 = .ok (.if_icmp .ge 30, 3) := by decide +kernel
theorem dX6_point_10 : decode cX6_point 10 = .ok (.aload_n 0, 1) := by decide +kernel
theorem dX6_point_11 : decode cX6_point 11 = .ok (.getfield 21, 3) := by decide +kernel
theorem dX6_point_14 : decode cX6_point 14 = .ok (.iload_n 1, 1) := by decide +kernel
theorem dX6_point_15 : decode cX6_point 15 = .ok (.iaload, 1) := by decide +kernel
theorem dX6_point_16 : decode cX6_point 16 = .ok (.iconst (-1), 1) := by decide +kernel
theorem dX6_point_17 : decode cX6_point 17 = .ok (.if_icmp .ne 14, 3) := by decide +kernel
theorem dX6_point_20 : decode cX6_point 20 = .ok (.aload_n 0, 1) := by decide +kernel
theorem dX6_point_21 : decode cX6_point 21 = .ok (.getfield 24, 3) := by decide +kernel
theorem dX6_point_24 : decode cX6_point 24 = .ok (.iload_n 1, 1) := by decide +kernel
theorem dX6_point_25 : decode cX6_point 25 = .ok (.aload_n 0, 1) := by decide +kernel
theorem dX6_point_26 : decode cX6_point 26 = .ok (.iload_n 1, 1) := by decide +kernel
theorem dX6_point_27 : decode cX6_point 27 = .ok (.invokevirtual 63, 3) := by decide +kernel
theorem dX6_point_30 : decode cX6_point 30 = .ok (.iastore, 1) := by decide +kernel
theorem dX6_point_31 : decode cX6_point 31 = .ok (.iinc 1 1, 3) := by decide +kernel
theorem dX6_point_34 : decode cX6_point 34 = .ok (.goto (-32), 3) := by decide +kernel
theorem dX6_point_37 : decode cX6_point 37 = .ok (.return_, 1) := by decide +kernel
theorem dX6_holderOfNearest_0 : decode cX6_holderOfNearest 0 = .ok (.iload_n 1, 1) := by decide +kernel
theorem dX6_holderOfNearest_1 : decode cX6_holderOfNearest 1 = .ok (.istore_n 2, 1) := by decide +kernel
theorem dX6_holderOfNearest_2 : decode cX6_holderOfNearest 2 = .ok (.iconst 0, 1) := by decide +kernel
theorem dX6_holderOfNearest_3 : decode cX6_holderOfNearest 3 = .ok (.istore_n 3, 1) := by decide +kernel
theorem dX6_holderOfNearest_4 : decode cX6_holderOfNearest 4 = .ok (.iload_n 3, 1) := by decide +kernel
theorem dX6_holderOfNearest_5 : decode cX6_holderOfNearest 5 = .ok (.aload_n 0, 1) := by decide +kernel
theorem dX6_holderOfNearest_6 : decode cX6_holderOfNearest 6 = .ok (.getfield 36, 3) := by decide +kernel
theorem dX6_holderOfNearest_9 : decode cX6_holderOfNearest 9 = .ok (.if_icmp .ge 93, 3) := by decide +kernel
theorem dX6_holderOfNearest_12 : decode cX6_holderOfNearest 12 = .ok (.aload_n 0, 1) := by decide +kernel
theorem dX6_holderOfNearest_13 : decode cX6_holderOfNearest 13 = .ok (.getfield 18, 3) := by decide +kernel
theorem dX6_holderOfNearest_16 : decode cX6_holderOfNearest 16 = .ok (.iload_n 2, 1) := by decide +kernel
theorem dX6_holderOfNearest_17 : decode cX6_holderOfNearest 17 = .ok (.iaload, 1) := by decide +kernel
theorem dX6_holderOfNearest_18 : decode cX6_holderOfNearest 18 = .ok (.aload_n 0, 1) := by decide +kernel
theorem dX6_holderOfNearest_19 : decode cX6_holderOfNearest 19 = .ok (.getfield 9, 3) := by decide +kernel
theorem dX6_holderOfNearest_22 : decode cX6_holderOfNearest 22 = .ok (.iload_n 1, 1) := by decide +kernel
theorem dX6_holderOfNearest_23 : decode cX6_holderOfNearest 23 = .ok (.iaload, 1) := by decide +kernel
theorem dX6_holderOfNearest_24 : decode cX6_holderOfNearest 24 = .ok (.isub, 1) := by decide +kernel
theorem dX6_holderOfNearest_25 : decode cX6_holderOfNearest 25 = .ok (.invokestatic 66, 3) := by decide +kernel
theorem dX6_holderOfNearest_28 : decode cX6_holderOfNearest 28 = .ok (.aload_n 0, 1) := by decide +kernel
theorem dX6_holderOfNearest_29 : decode cX6_holderOfNearest 29 = .ok (.getfield 18, 3) := by decide +kernel
theorem dX6_holderOfNearest_32 : decode cX6_holderOfNearest 32 = .ok (.iload_n 3, 1) := by decide +kernel
theorem dX6_holderOfNearest_33 : decode cX6_holderOfNearest 33 = .ok (.iaload, 1) := by decide +kernel
theorem dX6_holderOfNearest_34 : decode cX6_holderOfNearest 34 = .ok (.aload_n 0, 1) := by decide +kernel
theorem dX6_holderOfNearest_35 : decode cX6_holderOfNearest 35 = .ok (.getfield 9, 3) := by decide +kernel
theorem dX6_holderOfNearest_38 : decode cX6_holderOfNearest 38 = .ok (.iload_n 1, 1) := by decide +kernel
theorem dX6_holderOfNearest_39 : decode cX6_holderOfNearest 39 = .ok (.iaload, 1) := by decide +kernel
theorem dX6_holderOfNearest_40 : decode cX6_holderOfNearest 40 = .ok (.isub, 1) := by decide +kernel
theorem dX6_holderOfNearest_41 : decode cX6_holderOfNearest 41 = .ok (.invokestatic 66, 3) := by decide +kernel
theorem dX6_holderOfNearest_44 : decode cX6_holderOfNearest 44 = .ok (.isub, 1) := by decide +kernel
theorem dX6_holderOfNearest_45 : decode cX6_holderOfNearest 45 = .ok (.istore 4, 2) := by decide +kernel
theorem dX6_holderOfNearest_47 : decode cX6_holderOfNearest 47 = .ok (.iload 4, 2) := by decide +kernel
theorem dX6_holderOfNearest_49 : decode cX6_holderOfNearest 49 = .ok (.ifCond .gt 23, 3) := by decide +kernel
theorem dX6_holderOfNearest_52 : decode cX6_holderOfNearest 52 = .ok (.iload 4, 2) := by decide +kernel
theorem dX6_holderOfNearest_54 : decode cX6_holderOfNearest 54 = .ok (.ifCond .ne 22, 3) := by decide +kernel
theorem dX6_holderOfNearest_57 : decode cX6_holderOfNearest 57 = .ok (.aload_n 0, 1) := by decide +kernel
theorem dX6_holderOfNearest_58 : decode cX6_holderOfNearest 58 = .ok (.getfield 15, 3) := by decide +kernel
theorem dX6_holderOfNearest_61 : decode cX6_holderOfNearest 61 = .ok (.iload_n 3, 1) := by decide +kernel
theorem dX6_holderOfNearest_62 : decode cX6_holderOfNearest 62 = .ok (.iaload, 1) := by decide +kernel
theorem dX6_holderOfNearest_63 : decode cX6_holderOfNearest 63 = .ok (.aload_n 0, 1) := by decide +kernel
theorem dX6_holderOfNearest_64 : decode cX6_holderOfNearest 64 = .ok (.getfield 15, 3) := by decide +kernel
theorem dX6_holderOfNearest_67 : decode cX6_holderOfNearest 67 = .ok (.iload_n 2, 1) := by decide +kernel
theorem dX6_holderOfNearest_68 : decode cX6_holderOfNearest 68 = .ok (.iaload, 1) := by decide +kernel
theorem dX6_holderOfNearest_69 : decode cX6_holderOfNearest 69 = .ok (.if_icmp .ge 7, 3) := by decide +kernel
theorem dX6_holderOfNearest_72 : decode cX6_holderOfNearest 72 = .ok (.iconst 1, 1) := by decide +kernel
theorem dX6_holderOfNearest_73 : decode cX6_holderOfNearest 73 = .ok (.goto 4, 3) := by decide +kernel
theorem dX6_holderOfNearest_76 : decode cX6_holderOfNearest 76 = .ok (.iconst 0, 1) := by decide +kernel
theorem dX6_holderOfNearest_77 : decode cX6_holderOfNearest 77 = .ok (.istore 5, 2) := by decide +kernel
theorem dX6_holderOfNearest_79 : decode cX6_holderOfNearest 79 = .ok (.aload_n 0, 1) := by decide +kernel
theorem dX6_holderOfNearest_80 : decode cX6_holderOfNearest 80 = .ok (.getfield 21, 3) := by decide +kernel
theorem dX6_holderOfNearest_83 : decode cX6_holderOfNearest 83 = .ok (.iload_n 3, 1) := by decide +kernel
theorem dX6_holderOfNearest_84 : decode cX6_holderOfNearest 84 = .ok (.iaload, 1) := by decide +kernel
theorem dX6_holderOfNearest_85 : decode cX6_holderOfNearest 85 = .ok (.iconst (-1), 1) := by decide +kernel
theorem dX6_holderOfNearest_86 : decode cX6_holderOfNearest 86 = .ok (.if_icmp .ne 10, 3) := by decide +kernel
theorem dX6_holderOfNearest_89 : decode cX6_holderOfNearest 89 = .ok (.iload 5, 2) := by decide +kernel
theorem dX6_holderOfNearest_91 : decode cX6_holderOfNearest 91 = .ok (.ifCond .eq 5, 3) := by decide +kernel
theorem dX6_holderOfNearest_94 : decode cX6_holderOfNearest 94 = .ok (.iload_n 3, 1) := by decide +kernel
theorem dX6_holderOfNearest_95 : decode cX6_holderOfNearest 95 = .ok (.istore_n 2, 1) := by decide +kernel
theorem dX6_holderOfNearest_96 : decode cX6_holderOfNearest 96 = .ok (.iinc 3 1, 3) := by decide +kernel
theorem dX6_holderOfNearest_99 : decode cX6_holderOfNearest 99 = .ok (.goto (-95), 3) := by decide +kernel
theorem dX6_holderOfNearest_102 : decode cX6_holderOfNearest 102 = .ok (.iload_n 2, 1) := by decide +kernel
theorem dX6_holderOfNearest_103 : decode cX6_holderOfNearest 103 = .ok (.ireturn, 1) := by decide +kernel
set_option maxRecDepth 20000 in
theorem ggX6_leaveInRings_X6_leastInRing : GoodIn wsX6_leaveInRings wsX6_leastInRing := goodIn_r _ [10, 4, 1, 11, 12, 13, 14, 15, 16, 17, 18, 19, 20, 21] (by decide +kernel) (by decide +kernel)
set_option maxRecDepth 20000 in
theorem gX6_leaveInRings_X6_leastInRing : GoodIn wsX6_leaveInRings (wsV RX6 69 RX6 yX6_leastInRing wsX6_leastInRing) := goodIn_app (goodIn_of _ (by decide +kernel)) ggX6_leaveInRings_X6_leastInRing
theorem dX6_leaveInRings_0 : decode cX6_leaveInRings 0 = .ok (.iconst 0, 1) := by decide +kernel
theorem dX6_leaveInRings_1 : decode cX6_leaveInRings 1 = .ok (.istore_n 1, 1) := by decide +kernel
theorem dX6_leaveInRings_2 : decode cX6_leaveInRings 2 = .ok (.iload_n 1, 1) := by decide +kernel
theorem dX6_leaveInRings_3 : decode cX6_leaveInRings 3 = .ok (.aload_n 0, 1) := by decide +kernel
theorem dX6_leaveInRings_4 : decode cX6_leaveInRings 4 = .ok (.getfield 36, 3) := by decide +kernel
theorem dX6_leaveInRings_7 : decode cX6_leaveInRings 7 = .ok (.if_icmp .ge 69, 3) := by decide +kernel
theorem dX6_leaveInRings_10 : decode cX6_leaveInRings 10 = .ok (.aload_n 0, 1) := by decide +kernel
theorem dX6_leaveInRings_11 : decode cX6_leaveInRings 11 = .ok (.getfield 21, 3) := by decide +kernel
theorem dX6_leaveInRings_14 : decode cX6_leaveInRings 14 = .ok (.iload_n 1, 1) := by decide +kernel
theorem dX6_leaveInRings_15 : decode cX6_leaveInRings 15 = .ok (.iaload, 1) := by decide +kernel
theorem dX6_leaveInRings_16 : decode cX6_leaveInRings 16 = .ok (.iconst (-1), 1) := by decide +kernel
theorem dX6_leaveInRings_17 : decode cX6_leaveInRings 17 = .ok (.if_icmp .ne 11, 3) := by decide +kernel
theorem dX6_leaveInRings_20 : decode cX6_leaveInRings 20 = .ok (.aload_n 0, 1) := by decide +kernel
theorem dX6_leaveInRings_21 : decode cX6_leaveInRings 21 = .ok (.iload_n 1, 1) := by decide +kernel
theorem dX6_leaveInRings_22 : decode cX6_leaveInRings 22 = .ok (.invokevirtual 69, 3) := by decide +kernel
theorem dX6_leaveInRings_25 : decode cX6_leaveInRings 25 = .ok (.goto 4, 3) := by decide +kernel
theorem dX6_leaveInRings_28 : decode cX6_leaveInRings 28 = .ok (.iconst (-1), 1) := by decide +kernel
theorem dX6_leaveInRings_29 : decode cX6_leaveInRings 29 = .ok (.istore_n 2, 1) := by decide +kernel
theorem dX6_leaveInRings_30 : decode cX6_leaveInRings 30 = .ok (.iload_n 2, 1) := by decide +kernel
theorem dX6_leaveInRings_31 : decode cX6_leaveInRings 31 = .ok (.iconst (-1), 1) := by decide +kernel
theorem dX6_leaveInRings_32 : decode cX6_leaveInRings 32 = .ok (.if_icmp .ne 6, 3) := by decide +kernel
theorem dX6_leaveInRings_35 : decode cX6_leaveInRings 35 = .ok (.goto 35, 3) := by decide +kernel
theorem dX6_leaveInRings_38 : decode cX6_leaveInRings 38 = .ok (.aload_n 0, 1) := by decide +kernel
theorem dX6_leaveInRings_39 : decode cX6_leaveInRings 39 = .ok (.getfield 21, 3) := by decide +kernel
theorem dX6_leaveInRings_42 : decode cX6_leaveInRings 42 = .ok (.iload_n 1, 1) := by decide +kernel
theorem dX6_leaveInRings_43 : decode cX6_leaveInRings 43 = .ok (.aload_n 0, 1) := by decide +kernel
theorem dX6_leaveInRings_44 : decode cX6_leaveInRings 44 = .ok (.getfield 15, 3) := by decide +kernel
theorem dX6_leaveInRings_47 : decode cX6_leaveInRings 47 = .ok (.aload_n 0, 1) := by decide +kernel
theorem dX6_leaveInRings_48 : decode cX6_leaveInRings 48 = .ok (.getfield 24, 3) := by decide +kernel
theorem dX6_leaveInRings_51 : decode cX6_leaveInRings 51 = .ok (.iload_n 1, 1) := by decide +kernel
theorem dX6_leaveInRings_52 : decode cX6_leaveInRings 52 = .ok (.iaload, 1) := by decide +kernel
theorem dX6_leaveInRings_53 : decode cX6_leaveInRings 53 = .ok (.iaload, 1) := by decide +kernel
theorem dX6_leaveInRings_54 : decode cX6_leaveInRings 54 = .ok (.iastore, 1) := by decide +kernel
theorem dX6_leaveInRings_55 : decode cX6_leaveInRings 55 = .ok (.iload_n 2, 1) := by decide +kernel
theorem dX6_leaveInRings_56 : decode cX6_leaveInRings 56 = .ok (.iload_n 1, 1) := by decide +kernel
theorem dX6_leaveInRings_57 : decode cX6_leaveInRings 57 = .ok (.if_icmp .ne 13, 3) := by decide +kernel
theorem dX6_leaveInRings_60 : decode cX6_leaveInRings 60 = .ok (.aload_n 0, 1) := by decide +kernel
theorem dX6_leaveInRings_61 : decode cX6_leaveInRings 61 = .ok (.dup, 1) := by decide +kernel
theorem dX6_leaveInRings_62 : decode cX6_leaveInRings 62 = .ok (.getfield 40, 3) := by decide +kernel
theorem dX6_leaveInRings_65 : decode cX6_leaveInRings 65 = .ok (.iconst 1, 1) := by decide +kernel
theorem dX6_leaveInRings_66 : decode cX6_leaveInRings 66 = .ok (.iadd, 1) := by decide +kernel
theorem dX6_leaveInRings_67 : decode cX6_leaveInRings 67 = .ok (.putfield 40, 3) := by decide +kernel
theorem dX6_leaveInRings_70 : decode cX6_leaveInRings 70 = .ok (.iinc 1 1, 3) := by decide +kernel
theorem dX6_leaveInRings_73 : decode cX6_leaveInRings 73 = .ok (.goto (-71), 3) := by decide +kernel
theorem dX6_leaveInRings_76 : decode cX6_leaveInRings 76 = .ok (.return_, 1) := by decide +kernel
theorem dX6_leastInRing_0 : decode cX6_leastInRing 0 = .ok (.iload_n 1, 1) := by decide +kernel
theorem dX6_leastInRing_1 : decode cX6_leastInRing 1 = .ok (.istore_n 2, 1) := by decide +kernel
theorem dX6_leastInRing_2 : decode cX6_leastInRing 2 = .ok (.aload_n 0, 1) := by decide +kernel
theorem dX6_leastInRing_3 : decode cX6_leastInRing 3 = .ok (.getfield 24, 3) := by decide +kernel
theorem dX6_leastInRing_6 : decode cX6_leastInRing 6 = .ok (.iload_n 1, 1) := by decide +kernel
theorem dX6_leastInRing_7 : decode cX6_leastInRing 7 = .ok (.iaload, 1) := by decide +kernel
theorem dX6_leastInRing_8 : decode cX6_leastInRing 8 = .ok (.istore_n 3, 1) := by decide +kernel
theorem dX6_leastInRing_9 : decode cX6_leastInRing 9 = .ok (.iconst 0, 1) := by decide +kernel
theorem dX6_leastInRing_10 : decode cX6_leastInRing 10 = .ok (.istore 4, 2) := by decide +kernel
theorem dX6_leastInRing_12 : decode cX6_leastInRing 12 = .ok (.iload 4, 2) := by decide +kernel
theorem dX6_leastInRing_14 : decode cX6_leastInRing 14 = .ok (.aload_n 0, 1) := by decide +kernel
theorem dX6_leastInRing_15 : decode cX6_leastInRing 15 = .ok (.getfield 36, 3) := by decide +kernel
theorem dX6_leastInRing_18 : decode cX6_leastInRing 18 = .ok (.if_icmp .ge 27, 3) := by decide +kernel
theorem dX6_leastInRing_21 : decode cX6_leastInRing 21 = .ok (.iload_n 3, 1) := by decide +kernel
theorem dX6_leastInRing_22 : decode cX6_leastInRing 22 = .ok (.iload_n 1, 1) := by decide +kernel
theorem dX6_leastInRing_23 : decode cX6_leastInRing 23 = .ok (.if_icmp .eq 22, 3) := by decide +kernel
theorem dX6_leastInRing_26 : decode cX6_leastInRing 26 = .ok (.iload_n 2, 1) := by decide +kernel
theorem dX6_leastInRing_27 : decode cX6_leastInRing 27 = .ok (.iload_n 3, 1) := by decide +kernel
theorem dX6_leastInRing_28 : decode cX6_leastInRing 28 = .ok (.invokestatic 27, 3) := by decide +kernel
theorem dX6_leastInRing_31 : decode cX6_leastInRing 31 = .ok (.istore_n 2, 1) := by decide +kernel
theorem dX6_leastInRing_32 : decode cX6_leastInRing 32 = .ok (.aload_n 0, 1) := by decide +kernel
theorem dX6_leastInRing_33 : decode cX6_leastInRing 33 = .ok (.getfield 24, 3) := by decide +kernel
theorem dX6_leastInRing_36 : decode cX6_leastInRing 36 = .ok (.iload_n 3, 1) := by decide +kernel
theorem dX6_leastInRing_37 : decode cX6_leastInRing 37 = .ok (.iaload, 1) := by decide +kernel
theorem dX6_leastInRing_38 : decode cX6_leastInRing 38 = .ok (.istore_n 3, 1) := by decide +kernel
theorem dX6_leastInRing_39 : decode cX6_leastInRing 39 = .ok (.iinc 4 1, 3) := by decide +kernel
theorem dX6_leastInRing_42 : decode cX6_leastInRing 42 = .ok (.goto (-30), 3) := by decide +kernel
theorem dX6_leastInRing_45 : decode cX6_leastInRing 45 = .ok (.iload_n 3, 1) := by decide +kernel
theorem dX6_leastInRing_46 : decode cX6_leastInRing 46 = .ok (.iload_n 1, 1) := by decide +kernel
theorem dX6_leastInRing_47 : decode cX6_leastInRing 47 = .ok (.if_icmp .ne 7, 3) := by decide +kernel
theorem dX6_leastInRing_50 : decode cX6_leastInRing 50 = .ok (.iload_n 2, 1) := by decide +kernel
theorem dX6_leastInRing_51 : decode cX6_leastInRing 51 = .ok (.goto 4, 3) := by decide +kernel
theorem dX6_leastInRing_54 : decode cX6_leastInRing 54 = .ok (.iconst (-1), 1) := by decide +kernel
theorem dX6_leastInRing_55 : decode cX6_leastInRing 55 = .ok (.ireturn, 1) := by decide +kernel
set_option maxRecDepth 20000 in
theorem ggX6_fieldFor_X10_isBelow : GoodIn wsX6_fieldFor wsX10_isBelow := goodIn_r _ [5] (by decide +kernel) (by decide +kernel)
set_option maxRecDepth 20000 in
theorem gX6_fieldFor_X10_isBelow_n72 : GoodIn wsX6_fieldFor (wsX10_isBelow) := ggX6_fieldFor_X10_isBelow
theorem dX6_fieldFor_0 : decode cX6_fieldFor 0 = .ok (.iload_n 1, 1) := by decide +kernel
theorem dX6_fieldFor_1 : decode cX6_fieldFor 1 = .ok (.aload_n 0, 1) := by decide +kernel
theorem dX6_fieldFor_2 : decode cX6_fieldFor 2 = .ok (.getfield 36, 3) := by decide +kernel
theorem dX6_fieldFor_5 : decode cX6_fieldFor 5 = .ok (.invokestatic 72, 3) := by decide +kernel
theorem dX6_fieldFor_8 : decode cX6_fieldFor 8 = .ok (.ifCond .eq 12, 3) := by decide +kernel
theorem dX6_fieldFor_11 : decode cX6_fieldFor 11 = .ok (.aload_n 0, 1) := by decide +kernel
theorem dX6_fieldFor_12 : decode cX6_fieldFor 12 = .ok (.getfield 21, 3) := by decide +kernel
theorem dX6_fieldFor_15 : decode cX6_fieldFor 15 = .ok (.iload_n 1, 1) := by decide +kernel
theorem dX6_fieldFor_16 : decode cX6_fieldFor 16 = .ok (.iaload, 1) := by decide +kernel
theorem dX6_fieldFor_17 : decode cX6_fieldFor 17 = .ok (.goto 4, 3) := by decide +kernel
theorem dX6_fieldFor_20 : decode cX6_fieldFor 20 = .ok (.iconst (-1), 1) := by decide +kernel
theorem dX6_fieldFor_21 : decode cX6_fieldFor 21 = .ok (.ireturn, 1) := by decide +kernel
theorem dX6_changes_0 : decode cX6_changes 0 = .ok (.iconst 0, 1) := by decide +kernel
theorem dX6_changes_1 : decode cX6_changes 1 = .ok (.istore_n 1, 1) := by decide +kernel
theorem dX6_changes_2 : decode cX6_changes 2 = .ok (.iconst 0, 1) := by decide +kernel
theorem dX6_changes_3 : decode cX6_changes 3 = .ok (.istore_n 2, 1) := by decide +kernel
theorem dX6_changes_4 : decode cX6_changes 4 = .ok (.iload_n 2, 1) := by decide +kernel
theorem dX6_changes_5 : decode cX6_changes 5 = .ok (.aload_n 0, 1) := by decide +kernel
theorem dX6_changes_6 : decode cX6_changes 6 = .ok (.getfield 36, 3) := by decide +kernel
theorem dX6_changes_9 : decode cX6_changes 9 = .ok (.if_icmp .ge 27, 3) := by decide +kernel
theorem dX6_changes_12 : decode cX6_changes 12 = .ok (.aload_n 0, 1) := by decide +kernel
theorem dX6_changes_13 : decode cX6_changes 13 = .ok (.getfield 21, 3) := by decide +kernel
theorem dX6_changes_16 : decode cX6_changes 16 = .ok (.iload_n 2, 1) := by decide +kernel
theorem dX6_changes_17 : decode cX6_changes 17 = .ok (.iaload, 1) := by decide +kernel
theorem dX6_changes_18 : decode cX6_changes 18 = .ok (.aload_n 0, 1) := by decide +kernel
theorem dX6_changes_19 : decode cX6_changes 19 = .ok (.getfield 15, 3) := by decide +kernel
theorem dX6_changes_22 : decode cX6_changes 22 = .ok (.iload_n 2, 1) := by decide +kernel
theorem dX6_changes_23 : decode cX6_changes 23 = .ok (.iaload, 1) := by decide +kernel
theorem dX6_changes_24 : decode cX6_changes 24 = .ok (.if_icmp .eq 6, 3) := by decide +kernel
theorem dX6_changes_27 : decode cX6_changes 27 = .ok (.iinc 1 1, 3) := by decide +kernel
theorem dX6_changes_30 : decode cX6_changes 30 = .ok (.iinc 2 1, 3) := by decide +kernel
theorem dX6_changes_33 : decode cX6_changes 33 = .ok (.goto (-29), 3) := by decide +kernel
theorem dX6_changes_36 : decode cX6_changes 36 = .ok (.iload_n 1, 1) := by decide +kernel
theorem dX6_changes_37 : decode cX6_changes 37 = .ok (.ireturn, 1) := by decide +kernel
theorem dX6_winnerOf_0 : decode cX6_winnerOf 0 = .ok (.iconst 0, 1) := by decide +kernel
theorem dX6_winnerOf_1 : decode cX6_winnerOf 1 = .ok (.istore_n 2, 1) := by decide +kernel
theorem dX6_winnerOf_2 : decode cX6_winnerOf 2 = .ok (.iload_n 2, 1) := by decide +kernel
theorem dX6_winnerOf_3 : decode cX6_winnerOf 3 = .ok (.aload_n 0, 1) := by decide +kernel
theorem dX6_winnerOf_4 : decode cX6_winnerOf 4 = .ok (.getfield 36, 3) := by decide +kernel
theorem dX6_winnerOf_7 : decode cX6_winnerOf 7 = .ok (.if_icmp .ge 31, 3) := by decide +kernel
theorem dX6_winnerOf_10 : decode cX6_winnerOf 10 = .ok (.aload_n 0, 1) := by decide +kernel
theorem dX6_winnerOf_11 : decode cX6_winnerOf 11 = .ok (.getfield 21, 3) := by decide +kernel
theorem dX6_winnerOf_14 : decode cX6_winnerOf 14 = .ok (.iload_n 2, 1) := by decide +kernel
theorem dX6_winnerOf_15 : decode cX6_winnerOf 15 = .ok (.iaload, 1) := by decide +kernel
theorem dX6_winnerOf_16 : decode cX6_winnerOf 16 = .ok (.iload_n 1, 1) := by decide +kernel
theorem dX6_winnerOf_17 : decode cX6_winnerOf 17 = .ok (.if_icmp .ne 15, 3) := by decide +kernel
theorem dX6_winnerOf_20 : decode cX6_winnerOf 20 = .ok (.aload_n 0, 1) := by decide +kernel
theorem dX6_winnerOf_21 : decode cX6_winnerOf 21 = .ok (.getfield 15, 3) := by decide +kernel
theorem dX6_winnerOf_24 : decode cX6_winnerOf 24 = .ok (.iload_n 2, 1) := by decide +kernel
theorem dX6_winnerOf_25 : decode cX6_winnerOf 25 = .ok (.iaload, 1) := by decide +kernel
theorem dX6_winnerOf_26 : decode cX6_winnerOf 26 = .ok (.iload_n 1, 1) := by decide +kernel
theorem dX6_winnerOf_27 : decode cX6_winnerOf 27 = .ok (.if_icmp .eq 5, 3) := by decide +kernel
theorem dX6_winnerOf_30 : decode cX6_winnerOf 30 = .ok (.iload_n 2, 1) := by decide +kernel
theorem dX6_winnerOf_31 : decode cX6_winnerOf 31 = .ok (.ireturn, 1) := by decide +kernel
theorem dX6_winnerOf_32 : decode cX6_winnerOf 32 = .ok (.iinc 2 1, 3) := by decide +kernel
theorem dX6_winnerOf_35 : decode cX6_winnerOf 35 = .ok (.goto (-33), 3) := by decide +kernel
theorem dX6_winnerOf_38 : decode cX6_winnerOf 38 = .ok (.iconst (-1), 1) := by decide +kernel
theorem dX6_winnerOf_39 : decode cX6_winnerOf 39 = .ok (.ireturn, 1) := by decide +kernel
theorem dX7_init_0 : decode cX7_init 0 = .ok (.aload_n 0, 1) := by decide +kernel
theorem dX7_init_1 : decode cX7_init 1 = .ok (.invokespecial 3, 3) := by decide +kernel
theorem dX7_init_4 : decode cX7_init 4 = .ok (.aload_n 0, 1) := by decide +kernel
theorem dX7_init_5 : decode cX7_init 5 = .ok (.iload_n 1, 1) := by decide +kernel
theorem dX7_init_6 : decode cX7_init 6 = .ok (.putfield 9, 3) := by decide +kernel
theorem dX7_init_9 : decode cX7_init 9 = .ok (.aload_n 0, 1) := by decide +kernel
theorem dX7_init_10 : decode cX7_init 10 = .ok (.iload_n 2, 1) := by decide +kernel
theorem dX7_init_11 : decode cX7_init 11 = .ok (.putfield 15, 3) := by decide +kernel
theorem dX7_init_14 : decode cX7_init 14 = .ok (.aload_n 0, 1) := by decide +kernel
theorem dX7_init_15 : decode cX7_init 15 = .ok (.iload_n 3, 1) := by decide +kernel
theorem dX7_init_16 : decode cX7_init 16 = .ok (.putfield 18, 3) := by decide +kernel
theorem dX7_init_19 : decode cX7_init 19 = .ok (.aload_n 0, 1) := by decide +kernel
theorem dX7_init_20 : decode cX7_init 20 = .ok (.iconst 1, 1) := by decide +kernel
theorem dX7_init_21 : decode cX7_init 21 = .ok (.iload 4, 2) := by decide +kernel
theorem dX7_init_23 : decode cX7_init 23 = .ok (.invokestatic 21, 3) := by decide +kernel
theorem dX7_init_26 : decode cX7_init 26 = .ok (.putfield 27, 3) := by decide +kernel
theorem dX7_init_29 : decode cX7_init 29 = .ok (.aload_n 0, 1) := by decide +kernel
theorem dX7_init_30 : decode cX7_init 30 = .ok (.aload_n 0, 1) := by decide +kernel
theorem dX7_init_31 : decode cX7_init 31 = .ok (.getfield 27, 3) := by decide +kernel
theorem dX7_init_34 : decode cX7_init 34 = .ok (.iconst 1, 1) := by decide +kernel
theorem dX7_init_35 : decode cX7_init 35 = .ok (.isub, 1) := by decide +kernel
theorem dX7_init_36 : decode cX7_init 36 = .ok (.putfield 30, 3) := by decide +kernel
theorem dX7_init_39 : decode cX7_init 39 = .ok (.aload_n 0, 1) := by decide +kernel
theorem dX7_init_40 : decode cX7_init 40 = .ok (.iload_n 3, 1) := by decide +kernel
theorem dX7_init_41 : decode cX7_init 41 = .ok (.aload_n 0, 1) := by decide +kernel
theorem dX7_init_42 : decode cX7_init 42 = .ok (.getfield 27, 3) := by decide +kernel
theorem dX7_init_45 : decode cX7_init 45 = .ok (.idiv, 1) := by decide +kernel
theorem dX7_init_46 : decode cX7_init 46 = .ok (.putfield 33, 3) := by decide +kernel
theorem dX7_init_49 : decode cX7_init 49 = .ok (.aload_n 0, 1) := by decide +kernel
theorem dX7_init_50 : decode cX7_init 50 = .ok (.iload_n 3, 1) := by decide +kernel
theorem dX7_init_51 : decode cX7_init 51 = .ok (.aload_n 0, 1) := by decide +kernel
theorem dX7_init_52 : decode cX7_init 52 = .ok (.getfield 33, 3) := by decide +kernel
theorem dX7_init_55 : decode cX7_init 55 = .ok (.aload_n 0, 1) := by decide +kernel
theorem dX7_init_56 : decode cX7_init 56 = .ok (.getfield 30, 3) := by decide +kernel
theorem dX7_init_59 : decode cX7_init 59 = .ok (.imul, 1) := by decide +kernel
theorem dX7_init_60 : decode cX7_init 60 = .ok (.isub, 1) := by decide +kernel
theorem dX7_init_61 : decode cX7_init 61 = .ok (.putfield 36, 3) := by decide +kernel
theorem dX7_init_64 : decode cX7_init 64 = .ok (.return_, 1) := by decide +kernel
theorem dX7_pass_0 : decode cX7_pass 0 = .ok (.aload_n 0, 1) := by decide +kernel
theorem dX7_pass_1 : decode cX7_pass 1 = .ok (.getfield 27, 3) := by decide +kernel
theorem dX7_pass_4 : decode cX7_pass 4 = .ok (.ifCond .ne 5, 3) := by decide +kernel
theorem dX7_pass_7 : decode cX7_pass 7 = .ok (.iconst (-1), 1) := by decide +kernel
theorem dX7_pass_8 : decode cX7_pass 8 = .ok (.ireturn, 1) := by decide +kernel
theorem dX7_pass_9 : decode cX7_pass 9 = .ok (.aload_n 0, 1) := by decide +kernel
theorem dX7_pass_10 : decode cX7_pass 10 = .ok (.getfield 30, 3) := by decide +kernel
theorem dX7_pass_13 : decode cX7_pass 13 = .ok (.ifCond .ne 7, 3) := by decide +kernel
theorem dX7_pass_16 : decode cX7_pass 16 = .ok (.iconst 1, 1) := by decide +kernel
theorem dX7_pass_17 : decode cX7_pass 17 = .ok (.goto 4, 3) := by decide +kernel
theorem dX7_pass_20 : decode cX7_pass 20 = .ok (.iconst 0, 1) := by decide +kernel
theorem dX7_pass_21 : decode cX7_pass 21 = .ok (.istore_n 2, 1) := by decide +kernel
theorem dX7_pass_22 : decode cX7_pass 22 = .ok (.aload_n 0, 1) := by decide +kernel
theorem dX7_pass_23 : decode cX7_pass 23 = .ok (.dup, 1) := by decide +kernel
theorem dX7_pass_24 : decode cX7_pass 24 = .ok (.getfield 30, 3) := by decide +kernel
theorem dX7_pass_27 : decode cX7_pass 27 = .ok (.iconst 1, 1) := by decide +kernel
theorem dX7_pass_28 : decode cX7_pass 28 = .ok (.isub, 1) := by decide +kernel
theorem dX7_pass_29 : decode cX7_pass 29 = .ok (.putfield 30, 3) := by decide +kernel
theorem dX7_pass_32 : decode cX7_pass 32 = .ok (.iload_n 1, 1) := by decide +kernel
theorem dX7_pass_33 : decode cX7_pass 33 = .ok (.ifCond .ne 29, 3) := by decide +kernel
theorem dX7_pass_36 : decode cX7_pass 36 = .ok (.aload_n 0, 1) := by decide +kernel
theorem dX7_pass_37 : decode cX7_pass 37 = .ok (.dup, 1) := by decide +kernel
theorem dX7_pass_38 : decode cX7_pass 38 = .ok (.getfield 39, 3) := by decide +kernel
theorem dX7_pass_41 : decode cX7_pass 41 = .ok (.iconst 1, 1) := by decide +kernel
theorem dX7_pass_42 : decode cX7_pass 42 = .ok (.iadd, 1) := by decide +kernel
theorem dX7_pass_43 : decode cX7_pass 43 = .ok (.putfield 39, 3) := by decide +kernel
theorem dX7_pass_46 : decode cX7_pass 46 = .ok (.iload_n 2, 1) := by decide +kernel
theorem dX7_pass_47 : decode cX7_pass 47 = .ok (.ifCond .eq 13, 3) := by decide +kernel
theorem dX7_pass_50 : decode cX7_pass 50 = .ok (.aload_n 0, 1) := by decide +kernel
theorem dX7_pass_51 : decode cX7_pass 51 = .ok (.aload_n 0, 1) := by decide +kernel
theorem dX7_pass_52 : decode cX7_pass 52 = .ok (.getfield 27, 3) := by decide +kernel
theorem dX7_pass_55 : decode cX7_pass 55 = .ok (.iconst 1, 1) := by decide +kernel
theorem dX7_pass_56 : decode cX7_pass 56 = .ok (.isub, 1) := by decide +kernel
theorem dX7_pass_57 : decode cX7_pass 57 = .ok (.putfield 30, 3) := by decide +kernel
theorem dX7_pass_60 : decode cX7_pass 60 = .ok (.iconst 0, 1) := by decide +kernel
theorem dX7_pass_61 : decode cX7_pass 61 = .ok (.ireturn, 1) := by decide +kernel
theorem dX7_pass_62 : decode cX7_pass 62 = .ok (.iload_n 2, 1) := by decide +kernel
theorem dX7_pass_63 : decode cX7_pass 63 = .ok (.ifCond .eq 10, 3) := by decide +kernel
theorem dX7_pass_66 : decode cX7_pass 66 = .ok (.aload_n 0, 1) := by decide +kernel
theorem dX7_pass_67 : decode cX7_pass 67 = .ok (.getfield 36, 3) := by decide +kernel
theorem dX7_pass_70 : decode cX7_pass 70 = .ok (.goto 7, 3) := by decide +kernel
theorem dX7_pass_73 : decode cX7_pass 73 = .ok (.aload_n 0, 1) := by decide +kernel
theorem dX7_pass_74 : decode cX7_pass 74 = .ok (.getfield 33, 3) := by decide +kernel
theorem dX7_pass_77 : decode cX7_pass 77 = .ok (.istore_n 3, 1) := by decide +kernel
theorem dX7_pass_78 : decode cX7_pass 78 = .ok (.aload_n 0, 1) := by decide +kernel
theorem dX7_pass_79 : decode cX7_pass 79 = .ok (.dup, 1) := by decide +kernel
theorem dX7_pass_80 : decode cX7_pass 80 = .ok (.getfield 27, 3) := by decide +kernel
theorem dX7_pass_83 : decode cX7_pass 83 = .ok (.iconst 1, 1) := by decide +kernel
theorem dX7_pass_84 : decode cX7_pass 84 = .ok (.isub, 1) := by decide +kernel
theorem dX7_pass_85 : decode cX7_pass 85 = .ok (.putfield 27, 3) := by decide +kernel
theorem dX7_pass_88 : decode cX7_pass 88 = .ok (.aload_n 0, 1) := by decide +kernel
theorem dX7_pass_89 : decode cX7_pass 89 = .ok (.dup, 1) := by decide +kernel
theorem dX7_pass_90 : decode cX7_pass 90 = .ok (.getfield 42, 3) := by decide +kernel
theorem dX7_pass_93 : decode cX7_pass 93 = .ok (.iload_n 3, 1) := by decide +kernel
theorem dX7_pass_94 : decode cX7_pass 94 = .ok (.iadd, 1) := by decide +kernel
theorem dX7_pass_95 : decode cX7_pass 95 = .ok (.putfield 42, 3) := by decide +kernel
theorem dX7_pass_98 : decode cX7_pass 98 = .ok (.iload_n 3, 1) := by decide +kernel
theorem dX7_pass_99 : decode cX7_pass 99 = .ok (.ireturn, 1) := by decide +kernel
theorem dX8_init_0 : decode cX8_init 0 = .ok (.aload_n 0, 1) := by decide +kernel
theorem dX8_init_1 : decode cX8_init 1 = .ok (.invokespecial 3, 3) := by decide +kernel
theorem dX8_init_4 : decode cX8_init 4 = .ok (.aload_n 0, 1) := by decide +kernel
theorem dX8_init_5 : decode cX8_init 5 = .ok (.sipush 400, 3) := by decide +kernel
theorem dX8_init_8 : decode cX8_init 8 = .ok (.newarray .byte, 2) := by decide +kernel
theorem dX8_init_10 : decode cX8_init 10 = .ok (.putfield 9, 3) := by decide +kernel
theorem dX8_init_13 : decode cX8_init 13 = .ok (.return_, 1) := by decide +kernel
theorem dX8_room_0 : decode cX8_room 0 = .ok (.sipush 400, 3) := by decide +kernel
theorem dX8_room_3 : decode cX8_room 3 = .ok (.aload_n 0, 1) := by decide +kernel
theorem dX8_room_4 : decode cX8_room 4 = .ok (.getfield 15, 3) := by decide +kernel
theorem dX8_room_7 : decode cX8_room 7 = .ok (.isub, 1) := by decide +kernel
theorem dX8_room_8 : decode cX8_room 8 = .ok (.ireturn, 1) := by decide +kernel
theorem dX8_append_0 : decode cX8_append 0 = .ok (.bipush 24, 2) := by decide +kernel
theorem dX8_append_2 : decode cX8_append 2 = .ok (.istore_n 2, 1) := by decide +kernel
theorem dX8_append_3 : decode cX8_append 3 = .ok (.iload_n 2, 1) := by decide +kernel
theorem dX8_append_4 : decode cX8_append 4 = .ok (.ifCond .lt 42, 3) := by decide +kernel
theorem dX8_append_7 : decode cX8_append 7 = .ok (.aload_n 0, 1) := by decide +kernel
theorem dX8_append_8 : decode cX8_append 8 = .ok (.getfield 15, 3) := by decide +kernel
theorem dX8_append_11 : decode cX8_append 11 = .ok (.sipush 400, 3) := by decide +kernel
theorem dX8_append_14 : decode cX8_append 14 = .ok (.if_icmp .ge 32, 3) := by decide +kernel
theorem dX8_append_17 : decode cX8_append 17 = .ok (.aload_n 0, 1) := by decide +kernel
theorem dX8_append_18 : decode cX8_append 18 = .ok (.getfield 9, 3) := by decide +kernel
theorem dX8_append_21 : decode cX8_append 21 = .ok (.aload_n 0, 1) := by decide +kernel
theorem dX8_append_22 : decode cX8_append 22 = .ok (.getfield 15, 3) := by decide +kernel
theorem dX8_append_25 : decode cX8_append 25 = .ok (.iload_n 1, 1) := by decide +kernel
theorem dX8_append_26 : decode cX8_append 26 = .ok (.iload_n 2, 1) := by decide +kernel
theorem dX8_append_27 : decode cX8_append 27 = .ok (.ishr, 1) := by decide +kernel
theorem dX8_append_28 : decode cX8_append 28 = .ok (.i2b, 1) := by decide +kernel
theorem dX8_append_29 : decode cX8_append 29 = .ok (.bastore, 1) := by decide +kernel
theorem dX8_append_30 : decode cX8_append 30 = .ok (.aload_n 0, 1) := by decide +kernel
theorem dX8_append_31 : decode cX8_append 31 = .ok (.dup, 1) := by decide +kernel
theorem dX8_append_32 : decode cX8_append 32 = .ok (.getfield 15, 3) := by decide +kernel
theorem dX8_append_35 : decode cX8_append 35 = .ok (.iconst 1, 1) := by decide +kernel
theorem dX8_append_36 : decode cX8_append 36 = .ok (.iadd, 1) := by decide +kernel
theorem dX8_append_37 : decode cX8_append 37 = .ok (.putfield 15, 3) := by decide +kernel
theorem dX8_append_40 : decode cX8_append 40 = .ok (.iinc 2 (-8), 3) := by decide +kernel
theorem dX8_append_43 : decode cX8_append 43 = .ok (.goto (-40), 3) := by decide +kernel
theorem dX8_append_46 : decode cX8_append 46 = .ok (.return_, 1) := by decide +kernel
theorem dX9_init_0 : decode cX9_init 0 = .ok (.aload_n 0, 1) := by decide +kernel
theorem dX9_init_1 : decode cX9_init 1 = .ok (.invokespecial 3, 3) := by decide +kernel
theorem dX9_init_4 : decode cX9_init 4 = .ok (.aload_n 0, 1) := by decide +kernel
theorem dX9_init_5 : decode cX9_init 5 = .ok (.bipush 60, 2) := by decide +kernel
theorem dX9_init_7 : decode cX9_init 7 = .ok (.newarray .int, 2) := by decide +kernel
theorem dX9_init_9 : decode cX9_init 9 = .ok (.putfield 9, 3) := by decide +kernel
theorem dX9_init_12 : decode cX9_init 12 = .ok (.aload_n 0, 1) := by decide +kernel
theorem dX9_init_13 : decode cX9_init 13 = .ok (.bipush 60, 2) := by decide +kernel
theorem dX9_init_15 : decode cX9_init 15 = .ok (.newarray .int, 2) := by decide +kernel
theorem dX9_init_17 : decode cX9_init 17 = .ok (.putfield 15, 3) := by decide +kernel
theorem dX9_init_20 : decode cX9_init 20 = .ok (.aload_n 0, 1) := by decide +kernel
theorem dX9_init_21 : decode cX9_init 21 = .ok (.bipush 60, 2) := by decide +kernel
theorem dX9_init_23 : decode cX9_init 23 = .ok (.newarray .int, 2) := by decide +kernel
theorem dX9_init_25 : decode cX9_init 25 = .ok (.putfield 18, 3) := by decide +kernel
theorem dX9_init_28 : decode cX9_init 28 = .ok (.return_, 1) := by decide +kernel
set_option maxRecDepth 20000 in
theorem ggX9_tell_X9_pairOf : GoodIn wsX9_tell wsX9_pairOf := goodIn_r _ [9, 1, 2, 3, 17, 18, 19, 20] (by decide +kernel) (by decide +kernel)
set_option maxRecDepth 20000 in
theorem gX9_tell_X9_pairOf : GoodIn wsX9_tell (wsV RX9 21 RX9 yX9_pairOf wsX9_pairOf) := goodIn_app (goodIn_of _ (by decide +kernel)) ggX9_tell_X9_pairOf
set_option maxRecDepth 20000 in
theorem ggX9_tell_J6_bitCount_0f7a4 : GoodIn wsX9_tell wsJ6_bitCount_0f7a4 := goodIn_r _ [13, 14, 15, 16] (by decide +kernel) (by decide +kernel)
set_option maxRecDepth 20000 in
theorem gX9_tell_J6_bitCount_0f7a4 : GoodIn wsX9_tell (va_wsS RX9 29 yJ6_bitCount_0f7a4 wsJ6_bitCount_0f7a4) := goodIn_app (goodIn_of _ (by decide +kernel)) ggX9_tell_J6_bitCount_0f7a4
theorem dX9_tell_0 : decode cX9_tell 0 = .ok (.aload_n 0, 1) := by decide +kernel
theorem dX9_tell_1 : decode cX9_tell 1 = .ok (.iload_n 1, 1) := by decide +kernel
theorem dX9_tell_2 : decode cX9_tell 2 = .ok (.iload_n 2, 1) := by decide +kernel
theorem dX9_tell_3 : decode cX9_tell 3 = .ok (.invokevirtual 21, 3) := by decide +kernel
theorem dX9_tell_6 : decode cX9_tell 6 = .ok (.istore 4, 2) := by decide +kernel
theorem dX9_tell_8 : decode cX9_tell 8 = .ok (.iload 4, 2) := by decide +kernel
theorem dX9_tell_10 : decode cX9_tell 10 = .ok (.bipush 60, 2) := by decide +kernel
theorem dX9_tell_12 : decode cX9_tell 12 = .ok (.if_icmp .lt 5, 3) := by decide +kernel
theorem dX9_tell_15 : decode cX9_tell 15 = .ok (.iconst (-1), 1) := by decide +kernel
theorem dX9_tell_16 : decode cX9_tell 16 = .ok (.ireturn, 1) := by decide +kernel
theorem dX9_tell_17 : decode cX9_tell 17 = .ok (.iload 4, 2) := by decide +kernel
theorem dX9_tell_19 : decode cX9_tell 19 = .ok (.aload_n 0, 1) := by decide +kernel
theorem dX9_tell_20 : decode cX9_tell 20 = .ok (.getfield 25, 3) := by decide +kernel
theorem dX9_tell_23 : decode cX9_tell 23 = .ok (.if_icmp .ne 37, 3) := by decide +kernel
theorem dX9_tell_26 : decode cX9_tell 26 = .ok (.aload_n 0, 1) := by decide +kernel
theorem dX9_tell_27 : decode cX9_tell 27 = .ok (.getfield 9, 3) := by decide +kernel
theorem dX9_tell_30 : decode cX9_tell 30 = .ok (.iload 4, 2) := by decide +kernel
theorem dX9_tell_32 : decode cX9_tell 32 = .ok (.iload_n 1, 1) := by decide +kernel
theorem dX9_tell_33 : decode cX9_tell 33 = .ok (.iastore, 1) := by decide +kernel
theorem dX9_tell_34 : decode cX9_tell 34 = .ok (.aload_n 0, 1) := by decide +kernel
theorem dX9_tell_35 : decode cX9_tell 35 = .ok (.getfield 15, 3) := by decide +kernel
theorem dX9_tell_38 : decode cX9_tell 38 = .ok (.iload 4, 2) := by decide +kernel
theorem dX9_tell_40 : decode cX9_tell 40 = .ok (.iload_n 2, 1) := by decide +kernel
theorem dX9_tell_41 : decode cX9_tell 41 = .ok (.iastore, 1) := by decide +kernel
theorem dX9_tell_42 : decode cX9_tell 42 = .ok (.aload_n 0, 1) := by decide +kernel
theorem dX9_tell_43 : decode cX9_tell 43 = .ok (.getfield 18, 3) := by decide +kernel
theorem dX9_tell_46 : decode cX9_tell 46 = .ok (.iload 4, 2) := by decide +kernel
theorem dX9_tell_48 : decode cX9_tell 48 = .ok (.iconst 0, 1) := by decide +kernel
theorem dX9_tell_49 : decode cX9_tell 49 = .ok (.iastore, 1) := by decide +kernel
theorem dX9_tell_50 : decode cX9_tell 50 = .ok (.aload_n 0, 1) := by decide +kernel
theorem dX9_tell_51 : decode cX9_tell 51 = .ok (.dup, 1) := by decide +kernel
theorem dX9_tell_52 : decode cX9_tell 52 = .ok (.getfield 25, 3) := by decide +kernel
theorem dX9_tell_55 : decode cX9_tell 55 = .ok (.iconst 1, 1) := by decide +kernel
theorem dX9_tell_56 : decode cX9_tell 56 = .ok (.iadd, 1) := by decide +kernel
theorem dX9_tell_57 : decode cX9_tell 57 = .ok (.putfield 25, 3) := by decide +kernel
theorem dX9_tell_60 : decode cX9_tell 60 = .ok (.aload_n 0, 1) := by decide +kernel
theorem dX9_tell_61 : decode cX9_tell 61 = .ok (.getfield 18, 3) := by decide +kernel
theorem dX9_tell_64 : decode cX9_tell 64 = .ok (.iload 4, 2) := by decide +kernel
theorem dX9_tell_66 : decode cX9_tell 66 = .ok (.dup2, 1) := by decide +kernel
theorem dX9_tell_67 : decode cX9_tell 67 = .ok (.iaload, 1) := by decide +kernel
theorem dX9_tell_68 : decode cX9_tell 68 = .ok (.iconst 1, 1) := by decide +kernel
theorem dX9_tell_69 : decode cX9_tell 69 = .ok (.iload_n 3, 1) := by decide +kernel
theorem dX9_tell_70 : decode cX9_tell 70 = .ok (.ishl, 1) := by decide +kernel
theorem dX9_tell_71 : decode cX9_tell 71 = .ok (.ior, 1) := by decide +kernel
theorem dX9_tell_72 : decode cX9_tell 72 = .ok (.iastore, 1) := by decide +kernel
theorem dX9_tell_73 : decode cX9_tell 73 = .ok (.aload_n 0, 1) := by decide +kernel
theorem dX9_tell_74 : decode cX9_tell 74 = .ok (.getfield 18, 3) := by decide +kernel
theorem dX9_tell_77 : decode cX9_tell 77 = .ok (.iload 4, 2) := by decide +kernel
theorem dX9_tell_79 : decode cX9_tell 79 = .ok (.iaload, 1) := by decide +kernel
theorem dX9_tell_80 : decode cX9_tell 80 = .ok (.invokestatic 29, 3) := by decide +kernel
theorem dX9_tell_83 : decode cX9_tell 83 = .ok (.ireturn, 1) := by decide +kernel
theorem dX9_pairOf_0 : decode cX9_pairOf 0 = .ok (.iconst 0, 1) := by decide +kernel
theorem dX9_pairOf_1 : decode cX9_pairOf 1 = .ok (.istore_n 3, 1) := by decide +kernel
theorem dX9_pairOf_2 : decode cX9_pairOf 2 = .ok (.iload_n 3, 1) := by decide +kernel
theorem dX9_pairOf_3 : decode cX9_pairOf 3 = .ok (.aload_n 0, 1) := by decide +kernel
theorem dX9_pairOf_4 : decode cX9_pairOf 4 = .ok (.getfield 25, 3) := by decide +kernel
theorem dX9_pairOf_7 : decode cX9_pairOf 7 = .ok (.if_icmp .ge 31, 3) := by decide +kernel
theorem dX9_pairOf_10 : decode cX9_pairOf 10 = .ok (.aload_n 0, 1) := by decide +kernel
theorem dX9_pairOf_11 : decode cX9_pairOf 11 = .ok (.getfield 9, 3) := by decide +kernel
theorem dX9_pairOf_14 : decode cX9_pairOf 14 = .ok (.iload_n 3, 1) := by decide +kernel
theorem dX9_pairOf_15 : decode cX9_pairOf 15 = .ok (.iaload, 1) := by decide +kernel
theorem dX9_pairOf_16 : decode cX9_pairOf 16 = .ok (.iload_n 1, 1) := by decide +kernel
theorem dX9_pairOf_17 : decode cX9_pairOf 17 = .ok (.if_icmp .ne 15, 3) := by decide +kernel
theorem dX9_pairOf_20 : decode cX9_pairOf 20 = .ok (.aload_n 0, 1) := by decide +kernel
theorem dX9_pairOf_21 : decode cX9_pairOf 21 = .ok (.getfield 15, 3) := by decide +kernel
theorem dX9_pairOf_24 : decode cX9_pairOf 24 = .ok (.iload_n 3, 1) := by decide +kernel
theorem dX9_pairOf_25 : decode cX9_pairOf 25 = .ok (.iaload, 1) := by decide +kernel
theorem dX9_pairOf_26 : decode cX9_pairOf 26 = .ok (.iload_n 2, 1) := by decide +kernel
theorem dX9_pairOf_27 : decode cX9_pairOf 27 = .ok (.if_icmp .ne 5, 3) := by decide +kernel
theorem dX9_pairOf_30 : decode cX9_pairOf 30 = .ok (.iload_n 3, 1) := by decide +kernel
theorem dX9_pairOf_31 : decode cX9_pairOf 31 = .ok (.ireturn, 1) := by decide +kernel
theorem dX9_pairOf_32 : decode cX9_pairOf 32 = .ok (.iinc 3 1, 3) := by decide +kernel
theorem dX9_pairOf_35 : decode cX9_pairOf 35 = .ok (.goto (-33), 3) := by decide +kernel
theorem dX9_pairOf_38 : decode cX9_pairOf 38 = .ok (.aload_n 0, 1) := by decide +kernel
theorem dX9_pairOf_39 : decode cX9_pairOf 39 = .ok (.getfield 25, 3) := by decide +kernel
theorem dX9_pairOf_42 : decode cX9_pairOf 42 = .ok (.ireturn, 1) := by decide +kernel
set_option maxRecDepth 20000 in
theorem ggX9_tenantOf_J6_bitCount_0f7a4 : GoodIn wsX9_tenantOf wsJ6_bitCount_0f7a4 := goodIn_r _ [8, 9, 10, 11] (by decide +kernel) (by decide +kernel)
set_option maxRecDepth 20000 in
theorem gX9_tenantOf_J6_bitCount_0f7a4 : GoodIn wsX9_tenantOf (va_wsS RX9 29 yJ6_bitCount_0f7a4 wsJ6_bitCount_0f7a4) := goodIn_app (goodIn_of _ (by decide +kernel)) ggX9_tenantOf_J6_bitCount_0f7a4
theorem dX9_tenantOf_0 : decode cX9_tenantOf 0 = .ok (.iconst (-1), 1) := by decide +kernel
theorem dX9_tenantOf_1 : decode cX9_tenantOf 1 = .ok (.istore 4, 2) := by decide +kernel
theorem dX9_tenantOf_3 : decode cX9_tenantOf 3 = .ok (.iconst 0, 1) := by decide +kernel
theorem dX9_tenantOf_4 : decode cX9_tenantOf 4 = .ok (.istore 5, 2) := by decide +kernel
theorem dX9_tenantOf_6 : decode cX9_tenantOf 6 = .ok (.iconst 0, 1) := by decide +kernel
theorem dX9_tenantOf_7 : decode cX9_tenantOf 7 = .ok (.istore 6, 2) := by decide +kernel
theorem dX9_tenantOf_9 : decode cX9_tenantOf 9 = .ok (.iload 6, 2) := by decide +kernel
theorem dX9_tenantOf_11 : decode cX9_tenantOf 11 = .ok (.aload_n 0, 1) := by decide +kernel
theorem dX9_tenantOf_12 : decode cX9_tenantOf 12 = .ok (.getfield 25, 3) := by decide +kernel
theorem dX9_tenantOf_15 : decode cX9_tenantOf 15 = .ok (.if_icmp .ge 83, 3) := by decide +kernel
theorem dX9_tenantOf_18 : decode cX9_tenantOf 18 = .ok (.aload_n 0, 1) := by decide +kernel
theorem dX9_tenantOf_19 : decode cX9_tenantOf 19 = .ok (.getfield 18, 3) := by decide +kernel
theorem dX9_tenantOf_22 : decode cX9_tenantOf 22 = .ok (.iload 6, 2) := by decide +kernel
theorem dX9_tenantOf_24 : decode cX9_tenantOf 24 = .ok (.iaload, 1) := by decide +kernel
theorem dX9_tenantOf_25 : decode cX9_tenantOf 25 = .ok (.invokestatic 29, 3) := by decide +kernel
theorem dX9_tenantOf_28 : decode cX9_tenantOf 28 = .ok (.istore 7, 2) := by decide +kernel
theorem dX9_tenantOf_30 : decode cX9_tenantOf 30 = .ok (.aload_n 0, 1) := by decide +kernel
theorem dX9_tenantOf_31 : decode cX9_tenantOf 31 = .ok (.getfield 9, 3) := by decide +kernel
theorem dX9_tenantOf_34 : decode cX9_tenantOf 34 = .ok (.iload 6, 2) := by decide +kernel
theorem dX9_tenantOf_36 : decode cX9_tenantOf 36 = .ok (.iaload, 1) := by decide +kernel
theorem dX9_tenantOf_37 : decode cX9_tenantOf 37 = .ok (.iload_n 1, 1) := by decide +kernel
theorem dX9_tenantOf_38 : decode cX9_tenantOf 38 = .ok (.if_icmp .ne 54, 3) := by decide +kernel
theorem dX9_tenantOf_41 : decode cX9_tenantOf 41 = .ok (.aload_n 0, 1) := by decide +kernel
theorem dX9_tenantOf_42 : decode cX9_tenantOf 42 = .ok (.getfield 15, 3) := by decide +kernel
theorem dX9_tenantOf_45 : decode cX9_tenantOf 45 = .ok (.iload 6, 2) := by decide +kernel
theorem dX9_tenantOf_47 : decode cX9_tenantOf 47 = .ok (.iaload, 1) := by decide +kernel
theorem dX9_tenantOf_48 : decode cX9_tenantOf 48 = .ok (.iload_n 2, 1) := by decide +kernel
theorem dX9_tenantOf_49 : decode cX9_tenantOf 49 = .ok (.if_icmp .eq 43, 3) := by decide +kernel
theorem dX9_tenantOf_52 : decode cX9_tenantOf 52 = .ok (.iload 7, 2) := by decide +kernel
theorem dX9_tenantOf_54 : decode cX9_tenantOf 54 = .ok (.iload_n 3, 1) := by decide +kernel
theorem dX9_tenantOf_55 : decode cX9_tenantOf 55 = .ok (.if_icmp .lt 37, 3) := by decide +kernel
theorem dX9_tenantOf_58 : decode cX9_tenantOf 58 = .ok (.iload 7, 2) := by decide +kernel
theorem dX9_tenantOf_60 : decode cX9_tenantOf 60 = .ok (.iload 5, 2) := by decide +kernel
theorem dX9_tenantOf_62 : decode cX9_tenantOf 62 = .ok (.if_icmp .ge 6, 3) := by decide +kernel
theorem dX9_tenantOf_65 : decode cX9_tenantOf 65 = .ok (.goto 27, 3) := by decide +kernel
theorem dX9_tenantOf_68 : decode cX9_tenantOf 68 = .ok (.iload 7, 2) := by decide +kernel
theorem dX9_tenantOf_70 : decode cX9_tenantOf 70 = .ok (.iload 5, 2) := by decide +kernel
theorem dX9_tenantOf_72 : decode cX9_tenantOf 72 = .ok (.if_icmp .ne 7, 3) := by decide +kernel
theorem dX9_tenantOf_75 : decode cX9_tenantOf 75 = .ok (.iconst (-1), 1) := by decide +kernel
theorem dX9_tenantOf_76 : decode cX9_tenantOf 76 = .ok (.goto 10, 3) := by decide +kernel
theorem dX9_tenantOf_79 : decode cX9_tenantOf 79 = .ok (.aload_n 0, 1) := by decide +kernel
theorem dX9_tenantOf_80 : decode cX9_tenantOf 80 = .ok (.getfield 15, 3) := by decide +kernel
theorem dX9_tenantOf_83 : decode cX9_tenantOf 83 = .ok (.iload 6, 2) := by decide +kernel
theorem dX9_tenantOf_85 : decode cX9_tenantOf 85 = .ok (.iaload, 1) := by decide +kernel
theorem dX9_tenantOf_86 : decode cX9_tenantOf 86 = .ok (.istore 4, 2) := by decide +kernel
