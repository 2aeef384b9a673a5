set_option maxRecDepth 20000 in
theorem ggX11_takesNumber_X11_blanks : GoodIn wsX11_takesNumber wsX11_blanks := goodIn_r _ [9, 1, 3, 4, 13, 14, 15, 16, 17, 18, 19, 20, 21, 22, 23, 24, 25, 26, 27, 28, 29, 30, 31, 32, 33, 34, 35, 36, 37, 38, 39, 40, 41, 42, 43, 44, 45, 46, 47, 48, 49, 50, 51, 52, 53, 54, 55, 56, 57, 58, 59] (by decide +kernel) (by decide +kernel)
set_option maxRecDepth 20000 in
theorem gX11_takesNumber_X11_blanks : GoodIn wsX11_takesNumber (wsV RX11 163 RX11 yX11_blanks wsX11_blanks) := goodIn_app (goodIn_of _ (by decide +kernel)) ggX11_takesNumber_X11_blanks
set_option maxRecDepth 20000 in
theorem ggX11_takesNumber_X11_isIn : GoodIn wsX11_takesNumber wsX11_isIn := goodIn_r _ [12] (by decide +kernel) (by decide +kernel)
set_option maxRecDepth 20000 in
theorem gX11_takesNumber_X11_isIn : GoodIn wsX11_takesNumber (va_wsS RX11 116 yX11_isIn wsX11_isIn) := goodIn_app (goodIn_of _ (by decide +kernel)) ggX11_takesNumber_X11_isIn
theorem dX11_takesNumber_0 : decode cX11_takesNumber 0 = .ok (.aload_n 0, 1) := by decide +kernel
theorem dX11_takesNumber_1 : decode cX11_takesNumber 1 = .ok (.invokevirtual 163, 3) := by decide +kernel
theorem dX11_takesNumber_4 : decode cX11_takesNumber 4 = .ok (.aload_n 0, 1) := by decide +kernel
theorem dX11_takesNumber_5 : decode cX11_takesNumber 5 = .ok (.getfield 157, 3) := by decide +kernel
theorem dX11_takesNumber_8 : decode cX11_takesNumber 8 = .ok (.istore_n 3, 1) := by decide +kernel
theorem dX11_takesNumber_9 : decode cX11_takesNumber 9 = .ok (.aload_n 0, 1) := by decide +kernel
theorem dX11_takesNumber_10 : decode cX11_takesNumber 10 = .ok (.iconst 0, 1) := by decide +kernel
theorem dX11_takesNumber_11 : decode cX11_takesNumber 11 = .ok (.putfield 173, 3) := by decide +kernel
theorem dX11_takesNumber_14 : decode cX11_takesNumber 14 = .ok (.iload_n 3, 1) := by decide +kernel
theorem dX11_takesNumber_15 : decode cX11_takesNumber 15 = .ok (.aload_n 0, 1) := by decide +kernel
theorem dX11_takesNumber_16 : decode cX11_takesNumber 16 = .ok (.getfield 160, 3) := by decide +kernel
theorem dX11_takesNumber_19 : decode cX11_takesNumber 19 = .ok (.if_icmp .ge 62, 3) := by decide +kernel
theorem dX11_takesNumber_22 : decode cX11_takesNumber 22 = .ok (.aload_n 0, 1) := by decide +kernel
theorem dX11_takesNumber_23 : decode cX11_takesNumber 23 = .ok (.getfield 51, 3) := by decide +kernel
theorem dX11_takesNumber_26 : decode cX11_takesNumber 26 = .ok (.iload_n 3, 1) := by decide +kernel
theorem dX11_takesNumber_27 : decode cX11_takesNumber 27 = .ok (.baload, 1) := by decide +kernel
theorem dX11_takesNumber_28 : decode cX11_takesNumber 28 = .ok (.bipush 48, 2) := by decide +kernel
theorem dX11_takesNumber_30 : decode cX11_takesNumber 30 = .ok (.if_icmp .lt 51, 3) := by decide +kernel
theorem dX11_takesNumber_33 : decode cX11_takesNumber 33 = .ok (.aload_n 0, 1) := by decide +kernel
theorem dX11_takesNumber_34 : decode cX11_takesNumber 34 = .ok (.getfield 51, 3) := by decide +kernel
theorem dX11_takesNumber_37 : decode cX11_takesNumber 37 = .ok (.iload_n 3, 1) := by decide +kernel
theorem dX11_takesNumber_38 : decode cX11_takesNumber 38 = .ok (.baload, 1) := by decide +kernel
theorem dX11_takesNumber_39 : decode cX11_takesNumber 39 = .ok (.bipush 57, 2) := by decide +kernel
theorem dX11_takesNumber_41 : decode cX11_takesNumber 41 = .ok (.if_icmp .gt 40, 3) := by decide +kernel
theorem dX11_takesNumber_44 : decode cX11_takesNumber 44 = .ok (.iload_n 3, 1) := by decide +kernel
theorem dX11_takesNumber_45 : decode cX11_takesNumber 45 = .ok (.aload_n 0, 1) := by decide +kernel
theorem dX11_takesNumber_46 : decode cX11_takesNumber 46 = .ok (.getfield 157, 3) := by decide +kernel
theorem dX11_takesNumber_49 : decode cX11_takesNumber 49 = .ok (.isub, 1) := by decide +kernel
theorem dX11_takesNumber_50 : decode cX11_takesNumber 50 = .ok (.iconst 4, 1) := by decide +kernel
theorem dX11_takesNumber_51 : decode cX11_takesNumber 51 = .ok (.if_icmp .ge 24, 3) := by decide +kernel
theorem dX11_takesNumber_54 : decode cX11_takesNumber 54 = .ok (.aload_n 0, 1) := by decide +kernel
theorem dX11_takesNumber_55 : decode cX11_takesNumber 55 = .ok (.bipush 10, 2) := by decide +kernel
theorem dX11_takesNumber_57 : decode cX11_takesNumber 57 = .ok (.aload_n 0, 1) := by decide +kernel
theorem dX11_takesNumber_58 : decode cX11_takesNumber 58 = .ok (.getfield 173, 3) := by decide +kernel
theorem dX11_takesNumber_61 : decode cX11_takesNumber 61 = .ok (.imul, 1) := by decide +kernel
theorem dX11_takesNumber_62 : decode cX11_takesNumber 62 = .ok (.aload_n 0, 1) := by decide +kernel
theorem dX11_takesNumber_63 : decode cX11_takesNumber 63 = .ok (.getfield 51, 3) := by decide +kernel
theorem dX11_takesNumber_66 : decode cX11_takesNumber 66 = .ok (.iload_n 3, 1) := by decide +kernel
theorem dX11_takesNumber_67 : decode cX11_takesNumber 67 = .ok (.baload, 1) := by decide +kernel
theorem dX11_takesNumber_68 : decode cX11_takesNumber 68 = .ok (.iadd, 1) := by decide +kernel
theorem dX11_takesNumber_69 : decode cX11_takesNumber 69 = .ok (.bipush 48, 2) := by decide +kernel
theorem dX11_takesNumber_71 : decode cX11_takesNumber 71 = .ok (.isub, 1) := by decide +kernel
theorem dX11_takesNumber_72 : decode cX11_takesNumber 72 = .ok (.putfield 173, 3) := by decide +kernel
theorem dX11_takesNumber_75 : decode cX11_takesNumber 75 = .ok (.iinc 3 1, 3) := by decide +kernel
theorem dX11_takesNumber_78 : decode cX11_takesNumber 78 = .ok (.goto (-64), 3) := by decide +kernel
theorem dX11_takesNumber_81 : decode cX11_takesNumber 81 = .ok (.iload_n 3, 1) := by decide +kernel
theorem dX11_takesNumber_82 : decode cX11_takesNumber 82 = .ok (.aload_n 0, 1) := by decide +kernel
theorem dX11_takesNumber_83 : decode cX11_takesNumber 83 = .ok (.getfield 157, 3) := by decide +kernel
theorem dX11_takesNumber_86 : decode cX11_takesNumber 86 = .ok (.if_icmp .eq 25, 3) := by decide +kernel
theorem dX11_takesNumber_89 : decode cX11_takesNumber 89 = .ok (.iload_n 3, 1) := by decide +kernel
theorem dX11_takesNumber_90 : decode cX11_takesNumber 90 = .ok (.aload_n 0, 1) := by decide +kernel
theorem dX11_takesNumber_91 : decode cX11_takesNumber 91 = .ok (.getfield 157, 3) := by decide +kernel
theorem dX11_takesNumber_94 : decode cX11_takesNumber 94 = .ok (.isub, 1) := by decide +kernel
theorem dX11_takesNumber_95 : decode cX11_takesNumber 95 = .ok (.iconst 4, 1) := by decide +kernel
theorem dX11_takesNumber_96 : decode cX11_takesNumber 96 = .ok (.if_icmp .gt 15, 3) := by decide +kernel
theorem dX11_takesNumber_99 : decode cX11_takesNumber 99 = .ok (.aload_n 0, 1) := by decide +kernel
theorem dX11_takesNumber_100 : decode cX11_takesNumber 100 = .ok (.getfield 173, 3) := by decide +kernel
theorem dX11_takesNumber_103 : decode cX11_takesNumber 103 = .ok (.iload_n 1, 1) := by decide +kernel
theorem dX11_takesNumber_104 : decode cX11_takesNumber 104 = .ok (.iload_n 2, 1) := by decide +kernel
theorem dX11_takesNumber_105 : decode cX11_takesNumber 105 = .ok (.invokestatic 116, 3) := by decide +kernel
theorem dX11_takesNumber_108 : decode cX11_takesNumber 108 = .ok (.ifCond .ne 5, 3) := by decide +kernel
theorem dX11_takesNumber_111 : decode cX11_takesNumber 111 = .ok (.iconst 0, 1) := by decide +kernel
theorem dX11_takesNumber_112 : decode cX11_takesNumber 112 = .ok (.ireturn, 1) := by decide +kernel
theorem dX11_takesNumber_113 : decode cX11_takesNumber 113 = .ok (.aload_n 0, 1) := by decide +kernel
theorem dX11_takesNumber_114 : decode cX11_takesNumber 114 = .ok (.iload_n 3, 1) := by decide +kernel
theorem dX11_takesNumber_115 : decode cX11_takesNumber 115 = .ok (.putfield 157, 3) := by decide +kernel
theorem dX11_takesNumber_118 : decode cX11_takesNumber 118 = .ok (.iconst 1, 1) := by decide +kernel
theorem dX11_takesNumber_119 : decode cX11_takesNumber 119 = .ok (.ireturn, 1) := by decide +kernel
set_option maxRecDepth 20000 in
theorem ggX11_statement_X11_takes : GoodIn wsX11_statement wsX11_takes := goodIn_r _ [19, 20, 12, 21, 22, 23, 18, 24, 13, 14, 25, 26, 27, 28, 36, 37, 38, 39, 40, 41, 42, 43, 44, 45, 46, 47, 48, 49, 50, 51, 52, 53, 54, 55, 56, 57, 58, 59, 60, 61, 62, 63, 64, 65, 66, 67, 68, 69, 70, 71, 72, 73, 74, 75, 76, 77, 78, 79, 80, 81, 82] (by decide +kernel) (by decide +kernel)
set_option maxRecDepth 20000 in
theorem gX11_statement_X11_takes : GoodIn wsX11_statement (wsV RX11 178 RX11 yX11_takes wsX11_takes) := goodIn_app (goodIn_of _ (by decide +kernel)) ggX11_statement_X11_takes
set_option maxRecDepth 20000 in
theorem ggX11_statement_X11_takesNumber : GoodIn wsX11_statement wsX11_takesNumber := goodIn_r _ [32, 12, 2, 13, 14, 25, 26, 27, 18, 28, 33, 34, 35, 36, 37, 38, 39, 40, 41, 42, 43, 44, 45, 46, 47, 48, 49, 50, 51, 52, 53, 54, 55, 56, 57, 58, 59, 60, 61, 62, 63, 64, 65, 66, 67, 68, 69, 70, 71, 72, 73, 74, 75, 76, 77, 78, 79, 80, 81, 82] (by decide +kernel) (by decide +kernel)
set_option maxRecDepth 20000 in
theorem gX11_statement_X11_takesNumber : GoodIn wsX11_statement (wsV RX11 182 RX11 yX11_takesNumber wsX11_takesNumber) := goodIn_app (goodIn_of _ (by decide +kernel)) ggX11_statement_X11_takesNumber
set_option maxRecDepth 20000 in
theorem ggX11_statement_X11_blanks : GoodIn wsX11_statement wsX11_blanks := goodIn_r _ [28, 12, 13, 14, 36, 37, 38, 39, 40, 41, 42, 43, 44, 45, 46, 47, 48, 49, 50, 51, 52, 53, 54, 55, 56, 57, 58, 59, 60, 61, 62, 63, 64, 65, 66, 67, 68, 69, 70, 71, 72, 73, 74, 75, 76, 77, 78, 79, 80, 81, 82] (by decide +kernel) (by decide +kernel)
set_option maxRecDepth 20000 in
theorem gX11_statement_X11_blanks : GoodIn wsX11_statement (wsV RX11 163 RX11 yX11_blanks wsX11_blanks) := goodIn_app (goodIn_of _ (by decide +kernel)) ggX11_statement_X11_blanks
theorem dX11_statement_0 : decode cX11_statement 0 = .ok (.aload_n 0, 1) := by decide +kernel
theorem dX11_statement_1 : decode cX11_statement 1 = .ok (.ldc2_w 176, 3) := by decide +kernel
theorem dX11_statement_4 : decode cX11_statement 4 = .ok (.invokevirtual 178, 3) := by decide +kernel
theorem dX11_statement_7 : decode cX11_statement 7 = .ok (.ifCond .eq 58, 3) := by decide +kernel
theorem dX11_statement_10 : decode cX11_statement 10 = .ok (.aload_n 0, 1) := by decide +kernel
theorem dX11_statement_11 : decode cX11_statement 11 = .ok (.iconst 0, 1) := by decide +kernel
theorem dX11_statement_12 : decode cX11_statement 12 = .ok (.iconst 3, 1) := by decide +kernel
theorem dX11_statement_13 : decode cX11_statement 13 = .ok (.invokevirtual 182, 3) := by decide +kernel
theorem dX11_statement_16 : decode cX11_statement 16 = .ok (.ifCond .ne 5, 3) := by decide +kernel
theorem dX11_statement_19 : decode cX11_statement 19 = .ok (.iconst 0, 1) := by decide +kernel
theorem dX11_statement_20 : decode cX11_statement 20 = .ok (.ireturn, 1) := by decide +kernel
theorem dX11_statement_21 : decode cX11_statement 21 = .ok (.aload_n 0, 1) := by decide +kernel
theorem dX11_statement_22 : decode cX11_statement 22 = .ok (.getfield 173, 3) := by decide +kernel
theorem dX11_statement_25 : decode cX11_statement 25 = .ok (.istore_n 1, 1) := by decide +kernel
theorem dX11_statement_26 : decode cX11_statement 26 = .ok (.aload_n 0, 1) := by decide +kernel
theorem dX11_statement_27 : decode cX11_statement 27 = .ok (.ldc2_w 186, 3) := by decide +kernel
theorem dX11_statement_30 : decode cX11_statement 30 = .ok (.invokevirtual 178, 3) := by decide +kernel
theorem dX11_statement_33 : decode cX11_statement 33 = .ok (.ifCond .eq 14, 3) := by decide +kernel
theorem dX11_statement_36 : decode cX11_statement 36 = .ok (.aload_n 0, 1) := by decide +kernel
theorem dX11_statement_37 : decode cX11_statement 37 = .ok (.iconst 0, 1) := by decide +kernel
theorem dX11_statement_38 : decode cX11_statement 38 = .ok (.sipush 9999, 3) := by decide +kernel
theorem dX11_statement_41 : decode cX11_statement 41 = .ok (.invokevirtual 182, 3) := by decide +kernel
theorem dX11_statement_44 : decode cX11_statement 44 = .ok (.ifCond .ne 5, 3) := by decide +kernel
theorem dX11_statement_47 : decode cX11_statement 47 = .ok (.iconst 0, 1) := by decide +kernel
theorem dX11_statement_48 : decode cX11_statement 48 = .ok (.ireturn, 1) := by decide +kernel
theorem dX11_statement_49 : decode cX11_statement 49 = .ok (.aload_n 0, 1) := by decide +kernel
theorem dX11_statement_50 : decode cX11_statement 50 = .ok (.getfield 44, 3) := by decide +kernel
theorem dX11_statement_53 : decode cX11_statement 53 = .ok (.bipush 26, 2) := by decide +kernel
theorem dX11_statement_55 : decode cX11_statement 55 = .ok (.iload_n 1, 1) := by decide +kernel
theorem dX11_statement_56 : decode cX11_statement 56 = .ok (.iadd, 1) := by decide +kernel
theorem dX11_statement_57 : decode cX11_statement 57 = .ok (.aload_n 0, 1) := by decide +kernel
theorem dX11_statement_58 : decode cX11_statement 58 = .ok (.getfield 173, 3) := by decide +kernel
theorem dX11_statement_61 : decode cX11_statement 61 = .ok (.iastore, 1) := by decide +kernel
theorem dX11_statement_62 : decode cX11_statement 62 = .ok (.goto 187, 3) := by decide +kernel
theorem dX11_statement_65 : decode cX11_statement 65 = .ok (.aload_n 0, 1) := by decide +kernel
theorem dX11_statement_66 : decode cX11_statement 66 = .ok (.ldc2_w 188, 3) := by decide +kernel
theorem dX11_statement_69 : decode cX11_statement 69 = .ok (.invokevirtual 178, 3) := by decide +kernel
theorem dX11_statement_72 : decode cX11_statement 72 = .ok (.ifCond .eq 41, 3) := by decide +kernel
theorem dX11_statement_75 : decode cX11_statement 75 = .ok (.aload_n 0, 1) := by decide +kernel
theorem dX11_statement_76 : decode cX11_statement 76 = .ok (.iconst 0, 1) := by decide +kernel
theorem dX11_statement_77 : decode cX11_statement 77 = .ok (.sipush 9999, 3) := by decide +kernel
theorem dX11_statement_80 : decode cX11_statement 80 = .ok (.invokevirtual 182, 3) := by decide +kernel
theorem dX11_statement_83 : decode cX11_statement 83 = .ok (.ifCond .ne 5, 3) := by decide +kernel
theorem dX11_statement_86 : decode cX11_statement 86 = .ok (.iconst 0, 1) := by decide +kernel
theorem dX11_statement_87 : decode cX11_statement 87 = .ok (.ireturn, 1) := by decide +kernel
theorem dX11_statement_88 : decode cX11_statement 88 = .ok (.aload_n 0, 1) := by decide +kernel
theorem dX11_statement_89 : decode cX11_statement 89 = .ok (.getfield 173, 3) := by decide +kernel
theorem dX11_statement_92 : decode cX11_statement 92 = .ok (.bipush 10, 2) := by decide +kernel
theorem dX11_statement_94 : decode cX11_statement 94 = .ok (.if_icmp .ge 155, 3) := by decide +kernel
theorem dX11_statement_97 : decode cX11_statement 97 = .ok (.aload_n 0, 1) := by decide +kernel
theorem dX11_statement_98 : decode cX11_statement 98 = .ok (.getfield 44, 3) := by decide +kernel
theorem dX11_statement_101 : decode cX11_statement 101 = .ok (.bipush 30, 2) := by decide +kernel
theorem dX11_statement_103 : decode cX11_statement 103 = .ok (.aload_n 0, 1) := by decide +kernel
theorem dX11_statement_104 : decode cX11_statement 104 = .ok (.getfield 173, 3) := by decide +kernel
theorem dX11_statement_107 : decode cX11_statement 107 = .ok (.iadd, 1) := by decide +kernel
theorem dX11_statement_108 : decode cX11_statement 108 = .ok (.iconst 1, 1) := by decide +kernel
theorem dX11_statement_109 : decode cX11_statement 109 = .ok (.iastore, 1) := by decide +kernel
theorem dX11_statement_110 : decode cX11_statement 110 = .ok (.goto 139, 3) := by decide +kernel
theorem dX11_statement_113 : decode cX11_statement 113 = .ok (.aload_n 0, 1) := by decide +kernel
theorem dX11_statement_114 : decode cX11_statement 114 = .ok (.ldc2_w 190, 3) := by decide +kernel
theorem dX11_statement_117 : decode cX11_statement 117 = .ok (.invokevirtual 178, 3) := by decide +kernel
theorem dX11_statement_120 : decode cX11_statement 120 = .ok (.ifCond .eq 7, 3) := by decide +kernel
theorem dX11_statement_123 : decode cX11_statement 123 = .ok (.iconst 0, 1) := by decide +kernel
theorem dX11_statement_124 : decode cX11_statement 124 = .ok (.goto 74, 3) := by decide +kernel
theorem dX11_statement_127 : decode cX11_statement 127 = .ok (.aload_n 0, 1) := by decide +kernel
theorem dX11_statement_128 : decode cX11_statement 128 = .ok (.ldc2_w 192, 3) := by decide +kernel
theorem dX11_statement_131 : decode cX11_statement 131 = .ok (.invokevirtual 178, 3) := by decide +kernel
theorem dX11_statement_134 : decode cX11_statement 134 = .ok (.ifCond .eq 7, 3) := by decide +kernel
theorem dX11_statement_137 : decode cX11_statement 137 = .ok (.iconst 1, 1) := by decide +kernel
theorem dX11_statement_138 : decode cX11_statement 138 = .ok (.goto 60, 3) := by decide +kernel
theorem dX11_statement_141 : decode cX11_statement 141 = .ok (.aload_n 0, 1) := by decide +kernel
theorem dX11_statement_142 : decode cX11_statement 142 = .ok (.ldc2_w 194, 3) := by decide +kernel
theorem dX11_statement_145 : decode cX11_statement 145 = .ok (.invokevirtual 178, 3) := by decide +kernel
theorem dX11_statement_148 : decode cX11_statement 148 = .ok (.ifCond .eq 7, 3) := by decide +kernel
theorem dX11_statement_151 : decode cX11_statement 151 = .ok (.iconst 2, 1) := by decide +kernel
theorem dX11_statement_152 : decode cX11_statement 152 = .ok (.goto 46, 3) := by decide +kernel
theorem dX11_statement_155 : decode cX11_statement 155 = .ok (.aload_n 0, 1) := by decide +kernel
theorem dX11_statement_156 : decode cX11_statement 156 = .ok (.ldc2_w 196, 3) := by decide +kernel
theorem dX11_statement_159 : decode cX11_statement 159 = .ok (.invokevirtual 178, 3) := by decide +kernel
theorem dX11_statement_162 : decode cX11_statement 162 = .ok (.ifCond .eq 7, 3) := by decide +kernel
theorem dX11_statement_165 : decode cX11_statement 165 = .ok (.iconst 3, 1) := by decide +kernel
theorem dX11_statement_166 : decode cX11_statement 166 = .ok (.goto 32, 3) := by decide +kernel
theorem dX11_statement_169 : decode cX11_statement 169 = .ok (.aload_n 0, 1) := by decide +kernel
theorem dX11_statement_170 : decode cX11_statement 170 = .ok (.ldc2_w 198, 3) := by decide +kernel
theorem dX11_statement_173 : decode cX11_statement 173 = .ok (.invokevirtual 178, 3) := by decide +kernel
theorem dX11_statement_176 : decode cX11_statement 176 = .ok (.ifCond .eq 7, 3) := by decide +kernel
theorem dX11_statement_179 : decode cX11_statement 179 = .ok (.iconst 4, 1) := by decide +kernel
theorem dX11_statement_180 : decode cX11_statement 180 = .ok (.goto 18, 3) := by decide +kernel
theorem dX11_statement_183 : decode cX11_statement 183 = .ok (.aload_n 0, 1) := by decide +kernel
theorem dX11_statement_184 : decode cX11_statement 184 = .ok (.ldc2_w 200, 3) := by decide +kernel
theorem dX11_statement_187 : decode cX11_statement 187 = .ok (.invokevirtual 178, 3) := by decide +kernel
theorem dX11_statement_190 : decode cX11_statement 190 = .ok (.ifCond .eq 7, 3) := by decide +kernel
theorem dX11_statement_193 : decode cX11_statement 193 = .ok (.iconst 5, 1) := by decide +kernel
theorem dX11_statement_194 : decode cX11_statement 194 = .ok (.goto 4, 3) := by decide +kernel
theorem dX11_statement_197 : decode cX11_statement 197 = .ok (.iconst (-1), 1) := by decide +kernel
theorem dX11_statement_198 : decode cX11_statement 198 = .ok (.istore_n 1, 1) := by decide +kernel
theorem dX11_statement_199 : decode cX11_statement 199 = .ok (.iload_n 1, 1) := by decide +kernel
theorem dX11_statement_200 : decode cX11_statement 200 = .ok (.iconst (-1), 1) := by decide +kernel
theorem dX11_statement_201 : decode cX11_statement 201 = .ok (.if_icmp .eq 33, 3) := by decide +kernel
theorem dX11_statement_204 : decode cX11_statement 204 = .ok (.aload_n 0, 1) := by decide +kernel
theorem dX11_statement_205 : decode cX11_statement 205 = .ok (.iload_n 1, 1) := by decide +kernel
theorem dX11_statement_206 : decode cX11_statement 206 = .ok (.iconst 4, 1) := by decide +kernel
theorem dX11_statement_207 : decode cX11_statement 207 = .ok (.if_icmp .ne 7, 3) := by decide +kernel
theorem dX11_statement_210 : decode cX11_statement 210 = .ok (.iconst 1, 1) := by decide +kernel
theorem dX11_statement_211 : decode cX11_statement 211 = .ok (.goto 4, 3) := by decide +kernel
theorem dX11_statement_214 : decode cX11_statement 214 = .ok (.iconst 0, 1) := by decide +kernel
theorem dX11_statement_215 : decode cX11_statement 215 = .ok (.iload_n 1, 1) := by decide +kernel
theorem dX11_statement_216 : decode cX11_statement 216 = .ok (.iconst 4, 1) := by decide +kernel
theorem dX11_statement_217 : decode cX11_statement 217 = .ok (.if_icmp .ne 8, 3) := by decide +kernel
theorem dX11_statement_220 : decode cX11_statement 220 = .ok (.bipush 40, 2) := by decide +kernel
theorem dX11_statement_222 : decode cX11_statement 222 = .ok (.goto 6, 3) := by decide +kernel
theorem dX11_statement_225 : decode cX11_statement 225 = .ok (.sipush 9999, 3) := by decide +kernel
theorem dX11_statement_228 : decode cX11_statement 228 = .ok (.invokevirtual 182, 3) := by decide +kernel
theorem dX11_statement_231 : decode cX11_statement 231 = .ok (.ifCond .ne 5, 3) := by decide +kernel
theorem dX11_statement_234 : decode cX11_statement 234 = .ok (.iconst 0, 1) := by decide +kernel
theorem dX11_statement_235 : decode cX11_statement 235 = .ok (.ireturn, 1) := by decide +kernel
theorem dX11_statement_236 : decode cX11_statement 236 = .ok (.aload_n 0, 1) := by decide +kernel
theorem dX11_statement_237 : decode cX11_statement 237 = .ok (.getfield 44, 3) := by decide +kernel
theorem dX11_statement_240 : decode cX11_statement 240 = .ok (.bipush 20, 2) := by decide +kernel
theorem dX11_statement_242 : decode cX11_statement 242 = .ok (.iload_n 1, 1) := by decide +kernel
theorem dX11_statement_243 : decode cX11_statement 243 = .ok (.iadd, 1) := by decide +kernel
theorem dX11_statement_244 : decode cX11_statement 244 = .ok (.aload_n 0, 1) := by decide +kernel
theorem dX11_statement_245 : decode cX11_statement 245 = .ok (.getfield 173, 3) := by decide +kernel
theorem dX11_statement_248 : decode cX11_statement 248 = .ok (.iastore, 1) := by decide +kernel
theorem dX11_statement_249 : decode cX11_statement 249 = .ok (.aload_n 0, 1) := by decide +kernel
theorem dX11_statement_250 : decode cX11_statement 250 = .ok (.invokevirtual 163, 3) := by decide +kernel
theorem dX11_statement_253 : decode cX11_statement 253 = .ok (.aload_n 0, 1) := by decide +kernel
theorem dX11_statement_254 : decode cX11_statement 254 = .ok (.getfield 157, 3) := by decide +kernel
theorem dX11_statement_257 : decode cX11_statement 257 = .ok (.aload_n 0, 1) := by decide +kernel
theorem dX11_statement_258 : decode cX11_statement 258 = .ok (.getfield 160, 3) := by decide +kernel
theorem dX11_statement_261 : decode cX11_statement 261 = .ok (.if_icmp .eq 17, 3) := by decide +kernel
theorem dX11_statement_264 : decode cX11_statement 264 = .ok (.aload_n 0, 1) := by decide +kernel
theorem dX11_statement_265 : decode cX11_statement 265 = .ok (.getfield 51, 3) := by decide +kernel
theorem dX11_statement_268 : decode cX11_statement 268 = .ok (.aload_n 0, 1) := by decide +kernel
theorem dX11_statement_269 : decode cX11_statement 269 = .ok (.getfield 157, 3) := by decide +kernel
theorem dX11_statement_272 : decode cX11_statement 272 = .ok (.baload, 1) := by decide +kernel
theorem dX11_statement_273 : decode cX11_statement 273 = .ok (.bipush 59, 2) := by decide +kernel
theorem dX11_statement_275 : decode cX11_statement 275 = .ok (.if_icmp .eq 5, 3) := by decide +kernel
theorem dX11_statement_278 : decode cX11_statement 278 = .ok (.iconst 0, 1) := by decide +kernel
theorem dX11_statement_279 : decode cX11_statement 279 = .ok (.ireturn, 1) := by decide +kernel
theorem dX11_statement_280 : decode cX11_statement 280 = .ok (.aload_n 0, 1) := by decide +kernel
theorem dX11_statement_281 : decode cX11_statement 281 = .ok (.dup, 1) := by decide +kernel
theorem dX11_statement_282 : decode cX11_statement 282 = .ok (.getfield 157, 3) := by decide +kernel
theorem dX11_statement_285 : decode cX11_statement 285 = .ok (.iconst 1, 1) := by decide +kernel
theorem dX11_statement_286 : decode cX11_statement 286 = .ok (.iadd, 1) := by decide +kernel
theorem dX11_statement_287 : decode cX11_statement 287 = .ok (.putfield 157, 3) := by decide +kernel
theorem dX11_statement_290 : decode cX11_statement 290 = .ok (.iconst 1, 1) := by decide +kernel
theorem dX11_statement_291 : decode cX11_statement 291 = .ok (.ireturn, 1) := by decide +kernel
set_option maxRecDepth 20000 in
theorem ggX11_act_X11_isIn : GoodIn wsX11_act wsX11_isIn := goodIn_r _ [12] (by decide +kernel) (by decide +kernel)
set_option maxRecDepth 20000 in
theorem gX11_act_X11_isIn : GoodIn wsX11_act (va_wsS RX11 116 yX11_isIn wsX11_isIn) := goodIn_app (goodIn_of _ (by decide +kernel)) ggX11_act_X11_isIn
set_option maxRecDepth 20000 in
theorem ggX11_act_X11_begins : GoodIn wsX11_act wsX11_begins := goodIn_r _ [16, 7, 9, 10, 11, 12, 48, 49, 50, 51, 52, 53, 54, 55, 56, 57, 58, 59, 60, 61, 62, 63, 64, 65, 66, 67, 68, 69, 70, 71, 72, 73, 74, 75, 76, 77, 78, 79, 80, 81, 82, 83, 84, 85, 86, 87, 88, 89, 90, 91, 92, 93, 94] (by decide +kernel) (by decide +kernel)
set_option maxRecDepth 20000 in
theorem gX11_act_X11_begins : GoodIn wsX11_act (wsV RX11 109 RX11 yX11_begins wsX11_begins) := goodIn_app (goodIn_of _ (by decide +kernel)) ggX11_act_X11_begins
set_option maxRecDepth 20000 in
theorem ggX11_act_X11_blanks : GoodIn wsX11_act wsX11_blanks := goodIn_r _ [20, 5, 4, 2, 48, 49, 50, 51, 52, 53, 54, 55, 56, 57, 58, 59, 60, 61, 62, 63, 64, 65, 66, 67, 68, 69, 70, 71, 72, 73, 74, 75, 76, 77, 78, 79, 80, 81, 82, 83, 84, 85, 86, 87, 88, 89, 90, 91, 92, 93, 94] (by decide +kernel) (by decide +kernel)
set_option maxRecDepth 20000 in
theorem gX11_act_X11_blanks : GoodIn wsX11_act (wsV RX11 163 RX11 yX11_blanks wsX11_blanks) := goodIn_app (goodIn_of _ (by decide +kernel)) ggX11_act_X11_blanks
set_option maxRecDepth 20000 in
theorem ggX11_act_X11_statement : GoodIn wsX11_act wsX11_statement := goodIn_r _ [24, 25, 26, 27, 7, 28, 29, 30, 31, 32, 33, 34, 5, 4, 2, 35, 36, 37, 11, 38, 39, 40, 41, 42, 43, 17, 18, 19, 20, 44, 45, 46, 47, 9, 10, 12, 48, 49, 50, 51, 52, 53, 54, 55, 56, 57, 58, 59, 60, 61, 62, 63, 64, 65, 66, 67, 68, 69, 70, 71, 72, 73, 74, 75, 76, 77, 78, 79, 80, 81, 82, 83, 84, 85, 86, 87, 88, 89, 90, 91, 92, 93, 94] (by decide +kernel) (by decide +kernel)
set_option maxRecDepth 20000 in
theorem gX11_act_X11_statement : GoodIn wsX11_act (wsV RX11 202 RX11 yX11_statement wsX11_statement) := goodIn_app (goodIn_of _ (by decide +kernel)) ggX11_act_X11_statement
theorem dX11_act_0 : decode cX11_act 0 = .ok (.iload_n 1, 1) := by decide +kernel
theorem dX11_act_1 : decode cX11_act 1 = .ok (.iconst 0, 1) := by decide +kernel
theorem dX11_act_2 : decode cX11_act 2 = .ok (.aload_n 0, 1) := by decide +kernel
theorem dX11_act_3 : decode cX11_act 3 = .ok (.getfield 151, 3) := by decide +kernel
theorem dX11_act_6 : decode cX11_act 6 = .ok (.invokestatic 116, 3) := by decide +kernel
theorem dX11_act_9 : decode cX11_act 9 = .ok (.ifCond .ne 6, 3) := by decide +kernel
theorem dX11_act_12 : decode cX11_act 12 = .ok (.bipush (-2), 2) := by decide +kernel
theorem dX11_act_14 : decode cX11_act 14 = .ok (.ireturn, 1) := by decide +kernel
theorem dX11_act_15 : decode cX11_act 15 = .ok (.iconst 0, 1) := by decide +kernel
theorem dX11_act_16 : decode cX11_act 16 = .ok (.istore_n 2, 1) := by decide +kernel
theorem dX11_act_17 : decode cX11_act 17 = .ok (.iload_n 2, 1) := by decide +kernel
theorem dX11_act_18 : decode cX11_act 18 = .ok (.iload_n 1, 1) := by decide +kernel
theorem dX11_act_19 : decode cX11_act 19 = .ok (.if_icmp .ge 21, 3) := by decide +kernel
theorem dX11_act_22 : decode cX11_act 22 = .ok (.aload_n 0, 1) := by decide +kernel
theorem dX11_act_23 : decode cX11_act 23 = .ok (.getfield 51, 3) := by decide +kernel
theorem dX11_act_26 : decode cX11_act 26 = .ok (.iload_n 2, 1) := by decide +kernel
theorem dX11_act_27 : decode cX11_act 27 = .ok (.aload_n 0, 1) := by decide +kernel
theorem dX11_act_28 : decode cX11_act 28 = .ok (.getfield 47, 3) := by decide +kernel
theorem dX11_act_31 : decode cX11_act 31 = .ok (.iload_n 2, 1) := by decide +kernel
theorem dX11_act_32 : decode cX11_act 32 = .ok (.baload, 1) := by decide +kernel
theorem dX11_act_33 : decode cX11_act 33 = .ok (.bastore, 1) := by decide +kernel
theorem dX11_act_34 : decode cX11_act 34 = .ok (.iinc 2 1, 3) := by decide +kernel
theorem dX11_act_37 : decode cX11_act 37 = .ok (.goto (-20), 3) := by decide +kernel
theorem dX11_act_40 : decode cX11_act 40 = .ok (.aload_n 0, 1) := by decide +kernel
theorem dX11_act_41 : decode cX11_act 41 = .ok (.iload_n 1, 1) := by decide +kernel
theorem dX11_act_42 : decode cX11_act 42 = .ok (.putfield 160, 3) := by decide +kernel
theorem dX11_act_45 : decode cX11_act 45 = .ok (.aload_n 0, 1) := by decide +kernel
theorem dX11_act_46 : decode cX11_act 46 = .ok (.iconst 0, 1) := by decide +kernel
theorem dX11_act_47 : decode cX11_act 47 = .ok (.putfield 151, 3) := by decide +kernel
theorem dX11_act_50 : decode cX11_act 50 = .ok (.aload_n 0, 1) := by decide +kernel
theorem dX11_act_51 : decode cX11_act 51 = .ok (.iconst 0, 1) := by decide +kernel
theorem dX11_act_52 : decode cX11_act 52 = .ok (.putfield 157, 3) := by decide +kernel
theorem dX11_act_55 : decode cX11_act 55 = .ok (.aload_n 0, 1) := by decide +kernel
theorem dX11_act_56 : decode cX11_act 56 = .ok (.bipush 20, 2) := by decide +kernel
theorem dX11_act_58 : decode cX11_act 58 = .ok (.invokevirtual 109, 3) := by decide +kernel
theorem dX11_act_61 : decode cX11_act 61 = .ok (.iconst 0, 1) := by decide +kernel
theorem dX11_act_62 : decode cX11_act 62 = .ok (.istore_n 2, 1) := by decide +kernel
theorem dX11_act_63 : decode cX11_act 63 = .ok (.iconst 1, 1) := by decide +kernel
theorem dX11_act_64 : decode cX11_act 64 = .ok (.istore_n 3, 1) := by decide +kernel
theorem dX11_act_65 : decode cX11_act 65 = .ok (.aload_n 0, 1) := by decide +kernel
theorem dX11_act_66 : decode cX11_act 66 = .ok (.invokevirtual 163, 3) := by decide +kernel
theorem dX11_act_69 : decode cX11_act 69 = .ok (.iload_n 3, 1) := by decide +kernel
theorem dX11_act_70 : decode cX11_act 70 = .ok (.ifCond .eq 47, 3) := by decide +kernel
theorem dX11_act_73 : decode cX11_act 73 = .ok (.aload_n 0, 1) := by decide +kernel
theorem dX11_act_74 : decode cX11_act 74 = .ok (.getfield 157, 3) := by decide +kernel
theorem dX11_act_77 : decode cX11_act 77 = .ok (.aload_n 0, 1) := by decide +kernel
theorem dX11_act_78 : decode cX11_act 78 = .ok (.getfield 160, 3) := by decide +kernel
theorem dX11_act_81 : decode cX11_act 81 = .ok (.if_icmp .ge 36, 3) := by decide +kernel
theorem dX11_act_84 : decode cX11_act 84 = .ok (.iload_n 2, 1) := by decide +kernel
theorem dX11_act_85 : decode cX11_act 85 = .ok (.bipush 16, 2) := by decide +kernel
theorem dX11_act_87 : decode cX11_act 87 = .ok (.if_icmp .ge 14, 3) := by decide +kernel
theorem dX11_act_90 : decode cX11_act 90 = .ok (.aload_n 0, 1) := by decide +kernel
theorem dX11_act_91 : decode cX11_act 91 = .ok (.invokevirtual 202, 3) := by decide +kernel
theorem dX11_act_94 : decode cX11_act 94 = .ok (.ifCond .eq 7, 3) := by decide +kernel
theorem dX11_act_97 : decode cX11_act 97 = .ok (.iconst 1, 1) := by decide +kernel
theorem dX11_act_98 : decode cX11_act 98 = .ok (.goto 4, 3) := by decide +kernel
theorem dX11_act_101 : decode cX11_act 101 = .ok (.iconst 0, 1) := by decide +kernel
theorem dX11_act_102 : decode cX11_act 102 = .ok (.istore_n 3, 1) := by decide +kernel
theorem dX11_act_103 : decode cX11_act 103 = .ok (.iinc 2 1, 3) := by decide +kernel
theorem dX11_act_106 : decode cX11_act 106 = .ok (.iload_n 3, 1) := by decide +kernel
theorem dX11_act_107 : decode cX11_act 107 = .ok (.ifCond .eq (-38), 3) := by decide +kernel
theorem dX11_act_110 : decode cX11_act 110 = .ok (.aload_n 0, 1) := by decide +kernel
theorem dX11_act_111 : decode cX11_act 111 = .ok (.invokevirtual 163, 3) := by decide +kernel
theorem dX11_act_114 : decode cX11_act 114 = .ok (.goto (-45), 3) := by decide +kernel
theorem dX11_act_117 : decode cX11_act 117 = .ok (.aload_n 0, 1) := by decide +kernel
theorem dX11_act_118 : decode cX11_act 118 = .ok (.iload_n 3, 1) := by decide +kernel
theorem dX11_act_119 : decode cX11_act 119 = .ok (.ifCond .eq 7, 3) := by decide +kernel
theorem dX11_act_122 : decode cX11_act 122 = .ok (.iconst (-1), 1) := by decide +kernel
theorem dX11_act_123 : decode cX11_act 123 = .ok (.goto 7, 3) := by decide +kernel
theorem dX11_act_126 : decode cX11_act 126 = .ok (.aload_n 0, 1) := by decide +kernel
theorem dX11_act_127 : decode cX11_act 127 = .ok (.getfield 157, 3) := by decide +kernel
theorem dX11_act_130 : decode cX11_act 130 = .ok (.putfield 54, 3) := by decide +kernel
theorem dX11_act_133 : decode cX11_act 133 = .ok (.iload_n 3, 1) := by decide +kernel
theorem dX11_act_134 : decode cX11_act 134 = .ok (.ifCond .ne 5, 3) := by decide +kernel
theorem dX11_act_137 : decode cX11_act 137 = .ok (.iconst (-1), 1) := by decide +kernel
theorem dX11_act_138 : decode cX11_act 138 = .ok (.ireturn, 1) := by decide +kernel
theorem dX11_act_139 : decode cX11_act 139 = .ok (.iconst 0, 1) := by decide +kernel
theorem dX11_act_140 : decode cX11_act 140 = .ok (.istore 4, 2) := by decide +kernel
theorem dX11_act_142 : decode cX11_act 142 = .ok (.iload 4, 2) := by decide +kernel
theorem dX11_act_144 : decode cX11_act 144 = .ok (.bipush 20, 2) := by decide +kernel
theorem dX11_act_146 : decode cX11_act 146 = .ok (.if_icmp .ge 26, 3) := by decide +kernel
theorem dX11_act_149 : decode cX11_act 149 = .ok (.aload_n 0, 1) := by decide +kernel
theorem dX11_act_150 : decode cX11_act 150 = .ok (.getfield 44, 3) := by decide +kernel
theorem dX11_act_153 : decode cX11_act 153 = .ok (.iload 4, 2) := by decide +kernel
theorem dX11_act_155 : decode cX11_act 155 = .ok (.aload_n 0, 1) := by decide +kernel
theorem dX11_act_156 : decode cX11_act 156 = .ok (.getfield 44, 3) := by decide +kernel
theorem dX11_act_159 : decode cX11_act 159 = .ok (.bipush 20, 2) := by decide +kernel
theorem dX11_act_161 : decode cX11_act 161 = .ok (.iload 4, 2) := by decide +kernel
theorem dX11_act_163 : decode cX11_act 163 = .ok (.iadd, 1) := by decide +kernel
theorem dX11_act_164 : decode cX11_act 164 = .ok (.iaload, 1) := by decide +kernel
theorem dX11_act_165 : decode cX11_act 165 = .ok (.iastore, 1) := by decide +kernel
theorem dX11_act_166 : decode cX11_act 166 = .ok (.iinc 4 1, 3) := by decide +kernel
theorem dX11_act_169 : decode cX11_act 169 = .ok (.goto (-27), 3) := by decide +kernel
theorem dX11_act_172 : decode cX11_act 172 = .ok (.aload_n 0, 1) := by decide +kernel
theorem dX11_act_173 : decode cX11_act 173 = .ok (.iload_n 2, 1) := by decide +kernel
theorem dX11_act_174 : decode cX11_act 174 = .ok (.putfield 206, 3) := by decide +kernel
theorem dX11_act_177 : decode cX11_act 177 = .ok (.aload_n 0, 1) := by decide +kernel
theorem dX11_act_178 : decode cX11_act 178 = .ok (.getfield 206, 3) := by decide +kernel
theorem dX11_act_181 : decode cX11_act 181 = .ok (.ireturn, 1) := by decide +kernel
theorem dX11_fault_0 : decode cX11_fault 0 = .ok (.aload_n 0, 1) := by decide +kernel
theorem dX11_fault_1 : decode cX11_fault 1 = .ok (.getfield 54, 3) := by decide +kernel
theorem dX11_fault_4 : decode cX11_fault 4 = .ok (.ireturn, 1) := by decide +kernel
theorem dX11_standard_0 : decode cX11_standard 0 = .ok (.aload_n 0, 1) := by decide +kernel
theorem dX11_standard_1 : decode cX11_standard 1 = .ok (.getfield 23, 3) := by decide +kernel
theorem dX11_standard_4 : decode cX11_standard 4 = .ok (.iload_n 1, 1) := by decide +kernel
theorem dX11_standard_5 : decode cX11_standard 5 = .ok (.iaload, 1) := by decide +kernel
theorem dX11_standard_6 : decode cX11_standard 6 = .ok (.aload_n 0, 1) := by decide +kernel
theorem dX11_standard_7 : decode cX11_standard 7 = .ok (.getfield 44, 3) := by decide +kernel
theorem dX11_standard_10 : decode cX11_standard 10 = .ok (.bipush 6, 2) := by decide +kernel
theorem dX11_standard_12 : decode cX11_standard 12 = .ok (.aload_n 0, 1) := by decide +kernel
theorem dX11_standard_13 : decode cX11_standard 13 = .ok (.getfield 26, 3) := by decide +kernel
theorem dX11_standard_16 : decode cX11_standard 16 = .ok (.iload_n 1, 1) := by decide +kernel
theorem dX11_standard_17 : decode cX11_standard 17 = .ok (.iaload, 1) := by decide +kernel
theorem dX11_standard_18 : decode cX11_standard 18 = .ok (.iadd, 1) := by decide +kernel
theorem dX11_standard_19 : decode cX11_standard 19 = .ok (.iaload, 1) := by decide +kernel
theorem dX11_standard_20 : decode cX11_standard 20 = .ok (.imul, 1) := by decide +kernel
theorem dX11_standard_21 : decode cX11_standard 21 = .ok (.bipush 10, 2) := by decide +kernel
theorem dX11_standard_23 : decode cX11_standard 23 = .ok (.idiv, 1) := by decide +kernel
theorem dX11_standard_24 : decode cX11_standard 24 = .ok (.ireturn, 1) := by decide +kernel
theorem dX11_isExempt_0 : decode cX11_isExempt 0 = .ok (.aload_n 0, 1) := by decide +kernel
theorem dX11_isExempt_1 : decode cX11_isExempt 1 = .ok (.getfield 44, 3) := by decide +kernel
theorem dX11_isExempt_4 : decode cX11_isExempt 4 = .ok (.bipush 10, 2) := by decide +kernel
theorem dX11_isExempt_6 : decode cX11_isExempt 6 = .ok (.aload_n 0, 1) := by decide +kernel
theorem dX11_isExempt_7 : decode cX11_isExempt 7 = .ok (.getfield 29, 3) := by decide +kernel
theorem dX11_isExempt_10 : decode cX11_isExempt 10 = .ok (.iload_n 1, 1) := by decide +kernel
theorem dX11_isExempt_11 : decode cX11_isExempt 11 = .ok (.iaload, 1) := by decide +kernel
theorem dX11_isExempt_12 : decode cX11_isExempt 12 = .ok (.iadd, 1) := by decide +kernel
theorem dX11_isExempt_13 : decode cX11_isExempt 13 = .ok (.iaload, 1) := by decide +kernel
theorem dX11_isExempt_14 : decode cX11_isExempt 14 = .ok (.iconst 1, 1) := by decide +kernel
theorem dX11_isExempt_15 : decode cX11_isExempt 15 = .ok (.if_icmp .ne 7, 3) := by decide +kernel
theorem dX11_isExempt_18 : decode cX11_isExempt 18 = .ok (.iconst 1, 1) := by decide +kernel
theorem dX11_isExempt_19 : decode cX11_isExempt 19 = .ok (.goto 4, 3) := by decide +kernel
theorem dX11_isExempt_22 : decode cX11_isExempt 22 = .ok (.iconst 0, 1) := by decide +kernel
theorem dX11_isExempt_23 : decode cX11_isExempt 23 = .ok (.ireturn, 1) := by decide +kernel
set_option maxRecDepth 20000 in
theorem ggX11_counted_X11_ownerOn : GoodIn wsX11_counted wsX11_ownerOn := goodIn_r _ [12, 13, 2, 3, 4, 5, 14, 15, 16, 17, 18, 19, 20, 21, 22, 23, 24, 25, 26, 27, 28, 29, 30, 31, 32, 33, 34, 35, 36, 37, 38, 39, 40, 41, 42, 43, 44, 45, 46, 47, 48, 49, 50, 51, 52, 53, 54, 55, 56, 57, 58, 59, 60] (by decide +kernel) (by decide +kernel)
set_option maxRecDepth 20000 in
theorem gX11_counted_X11_ownerOn : GoodIn wsX11_counted (wsV RX11 136 RX11 yX11_ownerOn wsX11_ownerOn) := goodIn_app (goodIn_of _ (by decide +kernel)) ggX11_counted_X11_ownerOn
theorem dX11_counted_0 : decode cX11_counted 0 = .ok (.aload_n 0, 1) := by decide +kernel
theorem dX11_counted_1 : decode cX11_counted 1 = .ok (.iload_n 1, 1) := by decide +kernel
theorem dX11_counted_2 : decode cX11_counted 2 = .ok (.aload_n 0, 1) := by decide +kernel
theorem dX11_counted_3 : decode cX11_counted 3 = .ok (.getfield 44, 3) := by decide +kernel
theorem dX11_counted_6 : decode cX11_counted 6 = .ok (.iconst 2, 1) := by decide +kernel
theorem dX11_counted_7 : decode cX11_counted 7 = .ok (.iaload, 1) := by decide +kernel
theorem dX11_counted_8 : decode cX11_counted 8 = .ok (.invokevirtual 136, 3) := by decide +kernel
theorem dX11_counted_11 : decode cX11_counted 11 = .ok (.istore_n 2, 1) := by decide +kernel
theorem dX11_counted_12 : decode cX11_counted 12 = .ok (.iconst 0, 1) := by decide +kernel
theorem dX11_counted_13 : decode cX11_counted 13 = .ok (.istore_n 3, 1) := by decide +kernel
theorem dX11_counted_14 : decode cX11_counted 14 = .ok (.iload_n 3, 1) := by decide +kernel
theorem dX11_counted_15 : decode cX11_counted 15 = .ok (.aload_n 0, 1) := by decide +kernel
theorem dX11_counted_16 : decode cX11_counted 16 = .ok (.getfield 133, 3) := by decide +kernel
theorem dX11_counted_19 : decode cX11_counted 19 = .ok (.if_icmp .ge 79, 3) := by decide +kernel
theorem dX11_counted_22 : decode cX11_counted 22 = .ok (.aload_n 0, 1) := by decide +kernel
theorem dX11_counted_23 : decode cX11_counted 23 = .ok (.getfield 35, 3) := by decide +kernel
theorem dX11_counted_26 : decode cX11_counted 26 = .ok (.iload_n 3, 1) := by decide +kernel
theorem dX11_counted_27 : decode cX11_counted 27 = .ok (.iaload, 1) := by decide +kernel
theorem dX11_counted_28 : decode cX11_counted 28 = .ok (.iload_n 1, 1) := by decide +kernel
theorem dX11_counted_29 : decode cX11_counted 29 = .ok (.if_icmp .ne 63, 3) := by decide +kernel
theorem dX11_counted_32 : decode cX11_counted 32 = .ok (.aload_n 0, 1) := by decide +kernel
theorem dX11_counted_33 : decode cX11_counted 33 = .ok (.getfield 41, 3) := by decide +kernel
theorem dX11_counted_36 : decode cX11_counted 36 = .ok (.iload_n 3, 1) := by decide +kernel
theorem dX11_counted_37 : decode cX11_counted 37 = .ok (.iaload, 1) := by decide +kernel
theorem dX11_counted_38 : decode cX11_counted 38 = .ok (.aload_n 0, 1) := by decide +kernel
theorem dX11_counted_39 : decode cX11_counted 39 = .ok (.getfield 44, 3) := by decide +kernel
theorem dX11_counted_42 : decode cX11_counted 42 = .ok (.iconst 2, 1) := by decide +kernel
theorem dX11_counted_43 : decode cX11_counted 43 = .ok (.iaload, 1) := by decide +kernel
theorem dX11_counted_44 : decode cX11_counted 44 = .ok (.if_icmp .gt 6, 3) := by decide +kernel
theorem dX11_counted_47 : decode cX11_counted 47 = .ok (.goto 45, 3) := by decide +kernel
theorem dX11_counted_50 : decode cX11_counted 50 = .ok (.aload_n 0, 1) := by decide +kernel
theorem dX11_counted_51 : decode cX11_counted 51 = .ok (.getfield 38, 3) := by decide +kernel
theorem dX11_counted_54 : decode cX11_counted 54 = .ok (.iload_n 3, 1) := by decide +kernel
theorem dX11_counted_55 : decode cX11_counted 55 = .ok (.iaload, 1) := by decide +kernel
theorem dX11_counted_56 : decode cX11_counted 56 = .ok (.istore 4, 2) := by decide +kernel
theorem dX11_counted_58 : decode cX11_counted 58 = .ok (.aload_n 0, 1) := by decide +kernel
theorem dX11_counted_59 : decode cX11_counted 59 = .ok (.getfield 7, 3) := by decide +kernel
theorem dX11_counted_62 : decode cX11_counted 62 = .ok (.iload 4, 2) := by decide +kernel
theorem dX11_counted_64 : decode cX11_counted 64 = .ok (.iaload, 1) := by decide +kernel
theorem dX11_counted_65 : decode cX11_counted 65 = .ok (.aload_n 0, 1) := by decide +kernel
theorem dX11_counted_66 : decode cX11_counted 66 = .ok (.getfield 7, 3) := by decide +kernel
theorem dX11_counted_69 : decode cX11_counted 69 = .ok (.iload_n 2, 1) := by decide +kernel
theorem dX11_counted_70 : decode cX11_counted 70 = .ok (.iaload, 1) := by decide +kernel
theorem dX11_counted_71 : decode cX11_counted 71 = .ok (.if_icmp .eq 21, 3) := by decide +kernel
theorem dX11_counted_74 : decode cX11_counted 74 = .ok (.aload_n 0, 1) := by decide +kernel
theorem dX11_counted_75 : decode cX11_counted 75 = .ok (.getfield 16, 3) := by decide +kernel
theorem dX11_counted_78 : decode cX11_counted 78 = .ok (.bipush 40, 2) := by decide +kernel
theorem dX11_counted_80 : decode cX11_counted 80 = .ok (.iload 4, 2) := by decide +kernel
theorem dX11_counted_82 : decode cX11_counted 82 = .ok (.imul, 1) := by decide +kernel
theorem dX11_counted_83 : decode cX11_counted 83 = .ok (.iload_n 2, 1) := by decide +kernel
theorem dX11_counted_84 : decode cX11_counted 84 = .ok (.iadd, 1) := by decide +kernel
theorem dX11_counted_85 : decode cX11_counted 85 = .ok (.baload, 1) := by decide +kernel
theorem dX11_counted_86 : decode cX11_counted 86 = .ok (.ifCond .ne 6, 3) := by decide +kernel
theorem dX11_counted_89 : decode cX11_counted 89 = .ok (.iload 4, 2) := by decide +kernel
theorem dX11_counted_91 : decode cX11_counted 91 = .ok (.istore_n 2, 1) := by decide +kernel
theorem dX11_counted_92 : decode cX11_counted 92 = .ok (.iinc 3 1, 3) := by decide +kernel
theorem dX11_counted_95 : decode cX11_counted 95 = .ok (.goto (-81), 3) := by decide +kernel
theorem dX11_counted_98 : decode cX11_counted 98 = .ok (.iload_n 2, 1) := by decide +kernel
theorem dX11_counted_99 : decode cX11_counted 99 = .ok (.ireturn, 1) := by decide +kernel
set_option maxRecDepth 20000 in
theorem ggX11_transfersOf_X11_one : GoodIn wsX11_transfersOf wsX11_one := goodIn_r _ [6] (by decide +kernel) (by decide +kernel)
set_option maxRecDepth 20000 in
theorem gX11_transfersOf_X11_one : GoodIn wsX11_transfersOf (va_wsS RX11 209 yX11_one wsX11_one) := goodIn_app (goodIn_of _ (by decide +kernel)) ggX11_transfersOf_X11_one
theorem dX11_transfersOf_0 : decode cX11_transfersOf 0 = .ok (.iconst 0, 1) := by decide +kernel
theorem dX11_transfersOf_1 : decode cX11_transfersOf 1 = .ok (.istore_n 2, 1) := by decide +kernel
theorem dX11_transfersOf_2 : decode cX11_transfersOf 2 = .ok (.iconst 0, 1) := by decide +kernel
theorem dX11_transfersOf_3 : decode cX11_transfersOf 3 = .ok (.istore_n 3, 1) := by decide +kernel
theorem dX11_transfersOf_4 : decode cX11_transfersOf 4 = .ok (.iload_n 3, 1) := by decide +kernel
theorem dX11_transfersOf_5 : decode cX11_transfersOf 5 = .ok (.aload_n 0, 1) := by decide +kernel
theorem dX11_transfersOf_6 : decode cX11_transfersOf 6 = .ok (.getfield 133, 3) := by decide +kernel
theorem dX11_transfersOf_9 : decode cX11_transfersOf 9 = .ok (.if_icmp .ge 30, 3) := by decide +kernel
theorem dX11_transfersOf_12 : decode cX11_transfersOf 12 = .ok (.iload_n 2, 1) := by decide +kernel
theorem dX11_transfersOf_13 : decode cX11_transfersOf 13 = .ok (.aload_n 0, 1) := by decide +kernel
theorem dX11_transfersOf_14 : decode cX11_transfersOf 14 = .ok (.getfield 35, 3) := by decide +kernel
theorem dX11_transfersOf_17 : decode cX11_transfersOf 17 = .ok (.iload_n 3, 1) := by decide +kernel
theorem dX11_transfersOf_18 : decode cX11_transfersOf 18 = .ok (.iaload, 1) := by decide +kernel
theorem dX11_transfersOf_19 : decode cX11_transfersOf 19 = .ok (.iload_n 1, 1) := by decide +kernel
theorem dX11_transfersOf_20 : decode cX11_transfersOf 20 = .ok (.if_icmp .ne 7, 3) := by decide +kernel
theorem dX11_transfersOf_23 : decode cX11_transfersOf 23 = .ok (.iconst 1, 1) := by decide +kernel
theorem dX11_transfersOf_24 : decode cX11_transfersOf 24 = .ok (.goto 4, 3) := by decide +kernel
theorem dX11_transfersOf_27 : decode cX11_transfersOf 27 = .ok (.iconst 0, 1) := by decide +kernel
theorem dX11_transfersOf_28 : decode cX11_transfersOf 28 = .ok (.invokestatic 209, 3) := by decide +kernel
theorem dX11_transfersOf_31 : decode cX11_transfersOf 31 = .ok (.iadd, 1) := by decide +kernel
theorem dX11_transfersOf_32 : decode cX11_transfersOf 32 = .ok (.istore_n 2, 1) := by decide +kernel
theorem dX11_transfersOf_33 : decode cX11_transfersOf 33 = .ok (.iinc 3 1, 3) := by decide +kernel
theorem dX11_transfersOf_36 : decode cX11_transfersOf 36 = .ok (.goto (-32), 3) := by decide +kernel
theorem dX11_transfersOf_39 : decode cX11_transfersOf 39 = .ok (.iload_n 2, 1) := by decide +kernel
theorem dX11_transfersOf_40 : decode cX11_transfersOf 40 = .ok (.ireturn, 1) := by decide +kernel
set_option maxRecDepth 20000 in
theorem ggX11_told_X11_isField : GoodIn wsX11_told wsX11_isField := goodIn_r _ [9, 10, 11, 12, 8, 13, 61, 62, 63, 64, 65, 66, 67, 68, 69, 70, 71, 72, 73, 74, 75, 76, 77, 78, 79, 80, 81, 82, 83, 84, 85, 86, 87, 88, 89, 90, 91, 92, 93, 94, 95, 96, 97, 98, 99, 100, 101, 102, 103, 104, 105, 106, 107] (by decide +kernel) (by decide +kernel)
set_option maxRecDepth 20000 in
theorem gX11_told_X11_isField : GoodIn wsX11_told (wsV RX11 140 RX11 yX11_isField wsX11_isField) := goodIn_app (goodIn_of _ (by decide +kernel)) ggX11_told_X11_isField
set_option maxRecDepth 20000 in
theorem ggX11_told_X11_owner : GoodIn wsX11_told wsX11_owner := goodIn_r _ [17, 18, 19, 20, 21, 8, 22, 23, 24, 25, 26, 27, 61, 62, 63, 64, 65, 66, 67, 68, 69, 70, 71, 72, 73, 74, 75, 76, 77, 78, 79, 80, 81, 82, 83, 84, 85, 86, 87, 88, 89, 90, 91, 92, 93, 94, 95, 96, 97, 98, 99, 100, 101, 102, 103, 104, 105, 106, 107] (by decide +kernel) (by decide +kernel)
set_option maxRecDepth 20000 in
theorem gX11_told_X11_owner : GoodIn wsX11_told (wsV RX11 143 RX11 yX11_owner wsX11_owner) := goodIn_app (goodIn_of _ (by decide +kernel)) ggX11_told_X11_owner
set_option maxRecDepth 20000 in
theorem ggX11_told_X11_standard : GoodIn wsX11_told wsX11_standard := goodIn_r _ [31, 2, 32, 3, 61, 62, 63, 64, 65, 66, 67, 68, 69, 70, 71, 72, 73, 74, 75, 76, 77, 78, 79, 80, 81, 82, 83, 84, 85, 86, 87, 88, 89, 90, 91, 92, 93, 94, 95, 96, 97, 98, 99, 100, 101, 102, 103, 104, 105, 106, 107] (by decide +kernel) (by decide +kernel)
set_option maxRecDepth 20000 in
theorem gX11_told_X11_standard : GoodIn wsX11_told (wsV RX11 213 RX11 yX11_standard wsX11_standard) := goodIn_app (goodIn_of _ (by decide +kernel)) ggX11_told_X11_standard
set_option maxRecDepth 20000 in
theorem ggX11_told_X11_counted : GoodIn wsX11_told wsX11_counted := goodIn_r _ [36, 32, 24, 25, 26, 27, 37, 38, 19, 20, 21, 8, 22, 23, 61, 62, 63, 64, 65, 66, 67, 68, 69, 70, 71, 72, 73, 74, 75, 76, 77, 78, 79, 80, 81, 82, 83, 84, 85, 86, 87, 88, 89, 90, 91, 92, 93, 94, 95, 96, 97, 98, 99, 100, 101, 102, 103, 104, 105, 106, 107] (by decide +kernel) (by decide +kernel)
set_option maxRecDepth 20000 in
theorem gX11_told_X11_counted : GoodIn wsX11_told (wsV RX11 216 RX11 yX11_counted wsX11_counted) := goodIn_app (goodIn_of _ (by decide +kernel)) ggX11_told_X11_counted
set_option maxRecDepth 20000 in
theorem ggX11_told_X11_tenant : GoodIn wsX11_told wsX11_tenant := goodIn_r _ [42, 43, 44, 45, 46, 32, 47, 48, 8, 49, 14, 15, 16, 17, 18, 19, 20, 21, 22, 23, 24, 25, 26, 27, 61, 62, 63, 64, 65, 66, 67, 68, 69, 70, 71, 72, 73, 74, 75, 76, 77, 78, 79, 80, 81, 82, 83, 84, 85, 86, 87, 88, 89, 90, 91, 92, 93, 94, 95, 96, 97, 98, 99, 100, 101, 102, 103, 104, 105, 106, 107] (by decide +kernel) (by decide +kernel)
set_option maxRecDepth 20000 in
theorem gX11_told_X11_tenant : GoodIn wsX11_told (wsV RX11 219 RX11 yX11_tenant wsX11_tenant) := goodIn_app (goodIn_of _ (by decide +kernel)) ggX11_told_X11_tenant
set_option maxRecDepth 20000 in
theorem ggX11_told_X11_isExempt : GoodIn wsX11_told wsX11_isExempt := goodIn_r _ [53, 32, 4, 61, 62, 63, 64, 65, 66, 67, 68, 69, 70, 71, 72, 73, 74, 75, 76, 77, 78, 79, 80, 81, 82, 83, 84, 85, 86, 87, 88, 89, 90, 91, 92, 93, 94, 95, 96, 97, 98, 99, 100, 101, 102, 103, 104, 105, 106, 107] (by decide +kernel) (by decide +kernel)
set_option maxRecDepth 20000 in
theorem gX11_told_X11_isExempt : GoodIn wsX11_told (wsV RX11 222 RX11 yX11_isExempt wsX11_isExempt) := goodIn_app (goodIn_of _ (by decide +kernel)) ggX11_told_X11_isExempt
set_option maxRecDepth 20000 in
theorem ggX11_told_X11_one : GoodIn wsX11_told wsX11_one := goodIn_r _ [56] (by decide +kernel) (by decide +kernel)
set_option maxRecDepth 20000 in
theorem gX11_told_X11_one : GoodIn wsX11_told (va_wsS RX11 209 yX11_one wsX11_one) := goodIn_app (goodIn_of _ (by decide +kernel)) ggX11_told_X11_one
set_option maxRecDepth 20000 in
theorem ggX11_told_X11_transfersOf : GoodIn wsX11_told wsX11_transfersOf := goodIn_r _ [60, 24, 25, 54, 55, 8, 56, 61, 62, 63, 64, 65, 66, 67, 68, 69, 70, 71, 72, 73, 74, 75, 76, 77, 78, 79, 80, 81, 82, 83, 84, 85, 86, 87, 88, 89, 90, 91, 92, 93, 94, 95, 96, 97, 98, 99, 100, 101, 102, 103, 104, 105, 106, 107] (by decide +kernel) (by decide +kernel)
set_option maxRecDepth 20000 in
theorem gX11_told_X11_transfersOf : GoodIn wsX11_told (wsV RX11 225 RX11 yX11_transfersOf wsX11_transfersOf) := goodIn_app (goodIn_of _ (by decide +kernel)) ggX11_told_X11_transfersOf
theorem dX11_told_0 : decode cX11_told 0 = .ok (.aload_n 0, 1) := by decide +kernel
theorem dX11_told_1 : decode cX11_told 1 = .ok (.iload_n 1, 1) := by decide +kernel
theorem dX11_told_2 : decode cX11_told 2 = .ok (.invokevirtual 140, 3) := by decide +kernel
theorem dX11_told_5 : decode cX11_told 5 = .ok (.ifCond .ne 5, 3) := by decide +kernel
theorem dX11_told_8 : decode cX11_told 8 = .ok (.iconst (-1), 1) := by decide +kernel
theorem dX11_told_9 : decode cX11_told 9 = .ok (.ireturn, 1) := by decide +kernel
theorem dX11_told_10 : decode cX11_told 10 = .ok (.iload_n 2, 1) := by decide +kernel
theorem dX11_told_11 : decode cX11_told 11 = .ok (.tableswitch 120 0 9 #[53, 60, 67, 74, 81, 87, 93, 99, 105, 114], 53) := by decide +kernel
theorem dX11_told_64 : decode cX11_told 64 = .ok (.aload_n 0, 1) := by decide +kernel
theorem dX11_told_65 : decode cX11_told 65 = .ok (.getfield 20, 3) := by decide +kernel
theorem dX11_told_68 : decode cX11_told 68 = .ok (.iload_n 1, 1) := by decide +kernel
theorem dX11_told_69 : decode cX11_told 69 = .ok (.iaload, 1) := by decide +kernel
theorem dX11_told_70 : decode cX11_told 70 = .ok (.ireturn, 1) := by decide +kernel
theorem dX11_told_71 : decode cX11_told 71 = .ok (.aload_n 0, 1) := by decide +kernel
theorem dX11_told_72 : decode cX11_told 72 = .ok (.getfield 23, 3) := by decide +kernel
theorem dX11_told_75 : decode cX11_told 75 = .ok (.iload_n 1, 1) := by decide +kernel
theorem dX11_told_76 : decode cX11_told 76 = .ok (.iaload, 1) := by decide +kernel
theorem dX11_told_77 : decode cX11_told 77 = .ok (.ireturn, 1) := by decide +kernel
theorem dX11_told_78 : decode cX11_told 78 = .ok (.aload_n 0, 1) := by decide +kernel
theorem dX11_told_79 : decode cX11_told 79 = .ok (.getfield 26, 3) := by decide +kernel
theorem dX11_told_82 : decode cX11_told 82 = .ok (.iload_n 1, 1) := by decide +kernel
theorem dX11_told_83 : decode cX11_told 83 = .ok (.iaload, 1) := by decide +kernel
theorem dX11_told_84 : decode cX11_told 84 = .ok (.ireturn, 1) := by decide +kernel
theorem dX11_told_85 : decode cX11_told 85 = .ok (.aload_n 0, 1) := by decide +kernel
theorem dX11_told_86 : decode cX11_told 86 = .ok (.getfield 29, 3) := by decide +kernel
theorem dX11_told_89 : decode cX11_told 89 = .ok (.iload_n 1, 1) := by decide +kernel
theorem dX11_told_90 : decode cX11_told 90 = .ok (.iaload, 1) := by decide +kernel
theorem dX11_told_91 : decode cX11_told 91 = .ok (.ireturn, 1) := by decide +kernel
theorem dX11_told_92 : decode cX11_told 92 = .ok (.aload_n 0, 1) := by decide +kernel
theorem dX11_told_93 : decode cX11_told 93 = .ok (.iload_n 1, 1) := by decide +kernel
theorem dX11_told_94 : decode cX11_told 94 = .ok (.invokevirtual 143, 3) := by decide +kernel
theorem dX11_told_97 : decode cX11_told 97 = .ok (.ireturn, 1) := by decide +kernel
theorem dX11_told_98 : decode cX11_told 98 = .ok (.aload_n 0, 1) := by decide +kernel
theorem dX11_told_99 : decode cX11_told 99 = .ok (.iload_n 1, 1) := by decide +kernel
theorem dX11_told_100 : decode cX11_told 100 = .ok (.invokevirtual 213, 3) := by decide +kernel
theorem dX11_told_103 : decode cX11_told 103 = .ok (.ireturn, 1) := by decide +kernel
theorem dX11_told_104 : decode cX11_told 104 = .ok (.aload_n 0, 1) := by decide +kernel
theorem dX11_told_105 : decode cX11_told 105 = .ok (.iload_n 1, 1) := by decide +kernel
theorem dX11_told_106 : decode cX11_told 106 = .ok (.invokevirtual 216, 3) := by decide +kernel
theorem dX11_told_109 : decode cX11_told 109 = .ok (.ireturn, 1) := by decide +kernel
theorem dX11_told_110 : decode cX11_told 110 = .ok (.aload_n 0, 1) := by decide +kernel
theorem dX11_told_111 : decode cX11_told 111 = .ok (.iload_n 1, 1) := by decide +kernel
theorem dX11_told_112 : decode cX11_told 112 = .ok (.invokevirtual 219, 3) := by decide +kernel
theorem dX11_told_115 : decode cX11_told 115 = .ok (.ireturn, 1) := by decide +kernel
theorem dX11_told_116 : decode cX11_told 116 = .ok (.aload_n 0, 1) := by decide +kernel
theorem dX11_told_117 : decode cX11_told 117 = .ok (.iload_n 1, 1) := by decide +kernel
theorem dX11_told_118 : decode cX11_told 118 = .ok (.invokevirtual 222, 3) := by decide +kernel
theorem dX11_told_121 : decode cX11_told 121 = .ok (.invokestatic 209, 3) := by decide +kernel
theorem dX11_told_124 : decode cX11_told 124 = .ok (.ireturn, 1) := by decide +kernel
theorem dX11_told_125 : decode cX11_told 125 = .ok (.aload_n 0, 1) := by decide +kernel
theorem dX11_told_126 : decode cX11_told 126 = .ok (.iload_n 1, 1) := by decide +kernel
theorem dX11_told_127 : decode cX11_told 127 = .ok (.invokevirtual 225, 3) := by decide +kernel
theorem dX11_told_130 : decode cX11_told 130 = .ok (.ireturn, 1) := by decide +kernel
theorem dX11_told_131 : decode cX11_told 131 = .ok (.iconst (-1), 1) := by decide +kernel
theorem dX11_told_132 : decode cX11_told 132 = .ok (.ireturn, 1) := by decide +kernel
set_option maxRecDepth 20000 in
theorem ggX11_counts_X11_isExempt : GoodIn wsX11_counts wsX11_isExempt := goodIn_r _ [8, 9, 10, 25, 26, 27, 28, 29, 30, 31, 32, 33, 34, 35, 36, 37, 38, 39, 40, 41, 42, 43, 44, 45, 46, 47, 48, 49, 50, 51, 52, 53, 54, 55, 56, 57, 58, 59, 60, 61, 62, 63, 64, 65, 66, 67, 68, 69, 70, 71] (by decide +kernel) (by decide +kernel)
set_option maxRecDepth 20000 in
theorem gX11_counts_X11_isExempt : GoodIn wsX11_counts (wsV RX11 222 RX11 yX11_isExempt wsX11_isExempt) := goodIn_app (goodIn_of _ (by decide +kernel)) ggX11_counts_X11_isExempt
set_option maxRecDepth 20000 in
theorem ggX11_counts_X11_counted : GoodIn wsX11_counts wsX11_counted := goodIn_r _ [14, 9, 15, 16, 17, 18, 2, 19, 20, 21, 22, 7, 23, 24, 25, 26, 27, 28, 29, 30, 31, 32, 33, 34, 35, 36, 37, 38, 39, 40, 41, 42, 43, 44, 45, 46, 47, 48, 49, 50, 51, 52, 53, 54, 55, 56, 57, 58, 59, 60, 61, 62, 63, 64, 65, 66, 67, 68, 69, 70, 71] (by decide +kernel) (by decide +kernel)
set_option maxRecDepth 20000 in
theorem gX11_counts_X11_counted : GoodIn wsX11_counts (wsV RX11 216 RX11 yX11_counted wsX11_counted) := goodIn_app (goodIn_of _ (by decide +kernel)) ggX11_counts_X11_counted
theorem dX11_counts_0 : decode cX11_counts 0 = .ok (.iconst 0, 1) := by decide +kernel
theorem dX11_counts_1 : decode cX11_counts 1 = .ok (.istore_n 2, 1) := by decide +kernel
theorem dX11_counts_2 : decode cX11_counts 2 = .ok (.iconst 0, 1) := by decide +kernel
theorem dX11_counts_3 : decode cX11_counts 3 = .ok (.istore_n 3, 1) := by decide +kernel
theorem dX11_counts_4 : decode cX11_counts 4 = .ok (.iload_n 3, 1) := by decide +kernel
theorem dX11_counts_5 : decode cX11_counts 5 = .ok (.aload_n 0, 1) := by decide +kernel
theorem dX11_counts_6 : decode cX11_counts 6 = .ok (.getfield 120, 3) := by decide +kernel
theorem dX11_counts_9 : decode cX11_counts 9 = .ok (.if_icmp .ge 44, 3) := by decide +kernel
theorem dX11_counts_12 : decode cX11_counts 12 = .ok (.aload_n 0, 1) := by decide +kernel
theorem dX11_counts_13 : decode cX11_counts 13 = .ok (.iload_n 3, 1) := by decide +kernel
theorem dX11_counts_14 : decode cX11_counts 14 = .ok (.invokevirtual 222, 3) := by decide +kernel
theorem dX11_counts_17 : decode cX11_counts 17 = .ok (.ifCond .ne 30, 3) := by decide +kernel
theorem dX11_counts_20 : decode cX11_counts 20 = .ok (.aload_n 0, 1) := by decide +kernel
theorem dX11_counts_21 : decode cX11_counts 21 = .ok (.getfield 7, 3) := by decide +kernel
theorem dX11_counts_24 : decode cX11_counts 24 = .ok (.aload_n 0, 1) := by decide +kernel
theorem dX11_counts_25 : decode cX11_counts 25 = .ok (.iload_n 3, 1) := by decide +kernel
theorem dX11_counts_26 : decode cX11_counts 26 = .ok (.invokevirtual 216, 3) := by decide +kernel
theorem dX11_counts_29 : decode cX11_counts 29 = .ok (.iaload, 1) := by decide +kernel
theorem dX11_counts_30 : decode cX11_counts 30 = .ok (.iload_n 1, 1) := by decide +kernel
theorem dX11_counts_31 : decode cX11_counts 31 = .ok (.if_icmp .eq 6, 3) := by decide +kernel
theorem dX11_counts_34 : decode cX11_counts 34 = .ok (.goto 13, 3) := by decide +kernel
theorem dX11_counts_37 : decode cX11_counts 37 = .ok (.aload_n 0, 1) := by decide +kernel
theorem dX11_counts_38 : decode cX11_counts 38 = .ok (.getfield 58, 3) := by decide +kernel
theorem dX11_counts_41 : decode cX11_counts 41 = .ok (.iload_n 2, 1) := by decide +kernel
theorem dX11_counts_42 : decode cX11_counts 42 = .ok (.iload_n 3, 1) := by decide +kernel
theorem dX11_counts_43 : decode cX11_counts 43 = .ok (.iastore, 1) := by decide +kernel
theorem dX11_counts_44 : decode cX11_counts 44 = .ok (.iinc 2 1, 3) := by decide +kernel
theorem dX11_counts_47 : decode cX11_counts 47 = .ok (.iinc 3 1, 3) := by decide +kernel
theorem dX11_counts_50 : decode cX11_counts 50 = .ok (.goto (-46), 3) := by decide +kernel
theorem dX11_counts_53 : decode cX11_counts 53 = .ok (.iload_n 2, 1) := by decide +kernel
theorem dX11_counts_54 : decode cX11_counts 54 = .ok (.ireturn, 1) := by decide +kernel
set_option maxRecDepth 20000 in
theorem ggX11_peopleOf_X11_one : GoodIn wsX11_peopleOf wsX11_one := goodIn_r _ [6] (by decide +kernel) (by decide +kernel)
set_option maxRecDepth 20000 in
theorem gX11_peopleOf_X11_one : GoodIn wsX11_peopleOf (va_wsS RX11 209 yX11_one wsX11_one) := goodIn_app (goodIn_of _ (by decide +kernel)) ggX11_peopleOf_X11_one
theorem dX11_peopleOf_0 : decode cX11_peopleOf 0 = .ok (.iconst 0, 1) := by decide +kernel
theorem dX11_peopleOf_1 : decode cX11_peopleOf 1 = .ok (.istore_n 2, 1) := by decide +kernel
theorem dX11_peopleOf_2 : decode cX11_peopleOf 2 = .ok (.iconst 0, 1) := by decide +kernel
theorem dX11_peopleOf_3 : decode cX11_peopleOf 3 = .ok (.istore_n 3, 1) := by decide +kernel
theorem dX11_peopleOf_4 : decode cX11_peopleOf 4 = .ok (.iload_n 3, 1) := by decide +kernel
theorem dX11_peopleOf_5 : decode cX11_peopleOf 5 = .ok (.aload_n 0, 1) := by decide +kernel
theorem dX11_peopleOf_6 : decode cX11_peopleOf 6 = .ok (.getfield 113, 3) := by decide +kernel
theorem dX11_peopleOf_9 : decode cX11_peopleOf 9 = .ok (.if_icmp .ge 30, 3) := by decide +kernel
theorem dX11_peopleOf_12 : decode cX11_peopleOf 12 = .ok (.iload_n 2, 1) := by decide +kernel
theorem dX11_peopleOf_13 : decode cX11_peopleOf 13 = .ok (.aload_n 0, 1) := by decide +kernel
theorem dX11_peopleOf_14 : decode cX11_peopleOf 14 = .ok (.getfield 7, 3) := by decide +kernel
theorem dX11_peopleOf_17 : decode cX11_peopleOf 17 = .ok (.iload_n 3, 1) := by decide +kernel
theorem dX11_peopleOf_18 : decode cX11_peopleOf 18 = .ok (.iaload, 1) := by decide +kernel
theorem dX11_peopleOf_19 : decode cX11_peopleOf 19 = .ok (.iload_n 1, 1) := by decide +kernel
theorem dX11_peopleOf_20 : decode cX11_peopleOf 20 = .ok (.if_icmp .ne 7, 3) := by decide +kernel
theorem dX11_peopleOf_23 : decode cX11_peopleOf 23 = .ok (.iconst 1, 1) := by decide +kernel
theorem dX11_peopleOf_24 : decode cX11_peopleOf 24 = .ok (.goto 4, 3) := by decide +kernel
theorem dX11_peopleOf_27 : decode cX11_peopleOf 27 = .ok (.iconst 0, 1) := by decide +kernel
theorem dX11_peopleOf_28 : decode cX11_peopleOf 28 = .ok (.invokestatic 209, 3) := by decide +kernel
theorem dX11_peopleOf_31 : decode cX11_peopleOf 31 = .ok (.iadd, 1) := by decide +kernel
theorem dX11_peopleOf_32 : decode cX11_peopleOf 32 = .ok (.istore_n 2, 1) := by decide +kernel
theorem dX11_peopleOf_33 : decode cX11_peopleOf 33 = .ok (.iinc 3 1, 3) := by decide +kernel
theorem dX11_peopleOf_36 : decode cX11_peopleOf 36 = .ok (.goto (-32), 3) := by decide +kernel
theorem dX11_peopleOf_39 : decode cX11_peopleOf 39 = .ok (.iload_n 2, 1) := by decide +kernel
theorem dX11_peopleOf_40 : decode cX11_peopleOf 40 = .ok (.ireturn, 1) := by decide +kernel
set_option maxRecDepth 20000 in
theorem ggX11_holding_X11_counts : GoodIn wsX11_holding wsX11_counts := goodIn_r _ [6, 7, 8, 1, 9, 10, 11, 5, 12, 13, 14, 15, 16, 17, 18, 19, 20, 21, 22, 23, 24, 25, 26, 27, 28, 35, 36, 37, 38, 39, 40, 41, 42, 43, 44, 45, 46, 47, 48, 49, 50, 51, 52, 53, 54, 55, 56, 57, 58, 59, 60, 61, 62, 63, 64, 65, 66, 67, 68, 69, 70, 71, 72, 73, 74, 75, 76, 77, 78, 79, 80, 81] (by decide +kernel) (by decide +kernel)
set_option maxRecDepth 20000 in
theorem gX11_holding_X11_counts : GoodIn wsX11_holding (wsV RX11 228 RX11 yX11_counts wsX11_counts) := goodIn_app (goodIn_of _ (by decide +kernel)) ggX11_holding_X11_counts
set_option maxRecDepth 20000 in
theorem ggX11_holding_X11_standard : GoodIn wsX11_holding wsX11_standard := goodIn_r _ [32, 33, 13, 34, 35, 36, 37, 38, 39, 40, 41, 42, 43, 44, 45, 46, 47, 48, 49, 50, 51, 52, 53, 54, 55, 56, 57, 58, 59, 60, 61, 62, 63, 64, 65, 66, 67, 68, 69, 70, 71, 72, 73, 74, 75, 76, 77, 78, 79, 80, 81] (by decide +kernel) (by decide +kernel)
set_option maxRecDepth 20000 in
theorem gX11_holding_X11_standard : GoodIn wsX11_holding (wsV RX11 213 RX11 yX11_standard wsX11_standard) := goodIn_app (goodIn_of _ (by decide +kernel)) ggX11_holding_X11_standard
theorem dX11_holding_0 : decode cX11_holding 0 = .ok (.aload_n 0, 1) := by decide +kernel
theorem dX11_holding_1 : decode cX11_holding 1 = .ok (.iload_n 1, 1) := by decide +kernel
theorem dX11_holding_2 : decode cX11_holding 2 = .ok (.invokevirtual 228, 3) := by decide +kernel
theorem dX11_holding_5 : decode cX11_holding 5 = .ok (.istore_n 2, 1) := by decide +kernel
theorem dX11_holding_6 : decode cX11_holding 6 = .ok (.iconst 0, 1) := by decide +kernel
theorem dX11_holding_7 : decode cX11_holding 7 = .ok (.istore_n 3, 1) := by decide +kernel
theorem dX11_holding_8 : decode cX11_holding 8 = .ok (.iconst 0, 1) := by decide +kernel
theorem dX11_holding_9 : decode cX11_holding 9 = .ok (.istore 4, 2) := by decide +kernel
theorem dX11_holding_11 : decode cX11_holding 11 = .ok (.iload 4, 2) := by decide +kernel
theorem dX11_holding_13 : decode cX11_holding 13 = .ok (.iload_n 2, 1) := by decide +kernel
theorem dX11_holding_14 : decode cX11_holding 14 = .ok (.if_icmp .ge 23, 3) := by decide +kernel
theorem dX11_holding_17 : decode cX11_holding 17 = .ok (.iload_n 3, 1) := by decide +kernel
theorem dX11_holding_18 : decode cX11_holding 18 = .ok (.aload_n 0, 1) := by decide +kernel
theorem dX11_holding_19 : decode cX11_holding 19 = .ok (.aload_n 0, 1) := by decide +kernel
theorem dX11_holding_20 : decode cX11_holding 20 = .ok (.getfield 58, 3) := by decide +kernel
theorem dX11_holding_23 : decode cX11_holding 23 = .ok (.iload 4, 2) := by decide +kernel
theorem dX11_holding_25 : decode cX11_holding 25 = .ok (.iaload, 1) := by decide +kernel
theorem dX11_holding_26 : decode cX11_holding 26 = .ok (.invokevirtual 213, 3) := by decide +kernel
theorem dX11_holding_29 : decode cX11_holding 29 = .ok (.iadd, 1) := by decide +kernel
theorem dX11_holding_30 : decode cX11_holding 30 = .ok (.istore_n 3, 1) := by decide +kernel
theorem dX11_holding_31 : decode cX11_holding 31 = .ok (.iinc 4 1, 3) := by decide +kernel
theorem dX11_holding_34 : decode cX11_holding 34 = .ok (.goto (-23), 3) := by decide +kernel
theorem dX11_holding_37 : decode cX11_holding 37 = .ok (.iload_n 3, 1) := by decide +kernel
theorem dX11_holding_38 : decode cX11_holding 38 = .ok (.ireturn, 1) := by decide +kernel
set_option maxRecDepth 20000 in
theorem ggX11_mayHave_X11_peopleOf : GoodIn wsX11_mayHave wsX11_peopleOf := goodIn_r _ [10, 11, 12, 13, 14, 9, 15, 16, 17, 18, 19, 20, 21, 22, 23, 24, 25, 26, 27, 28, 29, 30, 31, 32, 33, 34, 35, 36, 37, 38, 39, 40, 41, 42, 43, 44, 45, 46, 47, 48, 49, 50, 51, 52, 53, 54, 55, 56, 57, 58, 59, 60, 61, 62] (by decide +kernel) (by decide +kernel)
set_option maxRecDepth 20000 in
theorem gX11_mayHave_X11_peopleOf : GoodIn wsX11_mayHave (wsV RX11 231 RX11 yX11_peopleOf wsX11_peopleOf) := goodIn_app (goodIn_of _ (by decide +kernel)) ggX11_mayHave_X11_peopleOf
theorem dX11_mayHave_0 : decode cX11_mayHave 0 = .ok (.aload_n 0, 1) := by decide +kernel
theorem dX11_mayHave_1 : decode cX11_mayHave 1 = .ok (.getfield 44, 3) := by decide +kernel
theorem dX11_mayHave_4 : decode cX11_mayHave 4 = .ok (.iconst 0, 1) := by decide +kernel
theorem dX11_mayHave_5 : decode cX11_mayHave 5 = .ok (.iaload, 1) := by decide +kernel
theorem dX11_mayHave_6 : decode cX11_mayHave 6 = .ok (.aload_n 0, 1) := by decide +kernel
theorem dX11_mayHave_7 : decode cX11_mayHave 7 = .ok (.getfield 44, 3) := by decide +kernel
theorem dX11_mayHave_10 : decode cX11_mayHave 10 = .ok (.iconst 1, 1) := by decide +kernel
theorem dX11_mayHave_11 : decode cX11_mayHave 11 = .ok (.iaload, 1) := by decide +kernel
theorem dX11_mayHave_12 : decode cX11_mayHave 12 = .ok (.iconst 0, 1) := by decide +kernel
theorem dX11_mayHave_13 : decode cX11_mayHave 13 = .ok (.aload_n 0, 1) := by decide +kernel
theorem dX11_mayHave_14 : decode cX11_mayHave 14 = .ok (.iload_n 1, 1) := by decide +kernel
theorem dX11_mayHave_15 : decode cX11_mayHave 15 = .ok (.invokevirtual 231, 3) := by decide +kernel
theorem dX11_mayHave_18 : decode cX11_mayHave 18 = .ok (.iconst 5, 1) := by decide +kernel
theorem dX11_mayHave_19 : decode cX11_mayHave 19 = .ok (.isub, 1) := by decide +kernel
theorem dX11_mayHave_20 : decode cX11_mayHave 20 = .ok (.invokestatic 234, 3) := by decide +kernel
theorem dX11_mayHave_23 : decode cX11_mayHave 23 = .ok (.imul, 1) := by decide +kernel
theorem dX11_mayHave_24 : decode cX11_mayHave 24 = .ok (.iadd, 1) := by decide +kernel
theorem dX11_mayHave_25 : decode cX11_mayHave 25 = .ok (.ireturn, 1) := by decide +kernel
set_option maxRecDepth 20000 in
theorem ggX11_isHouse_X11_isIn : GoodIn wsX11_isHouse wsX11_isIn := goodIn_r _ [4] (by decide +kernel) (by decide +kernel)
set_option maxRecDepth 20000 in
theorem gX11_isHouse_X11_isIn : GoodIn wsX11_isHouse (va_wsS RX11 116 yX11_isIn wsX11_isIn) := goodIn_app (goodIn_of _ (by decide +kernel)) ggX11_isHouse_X11_isIn
theorem dX11_isHouse_0 : decode cX11_isHouse 0 = .ok (.iload_n 0, 1) := by decide +kernel
theorem dX11_isHouse_1 : decode cX11_isHouse 1 = .ok (.iconst 0, 1) := by decide +kernel
theorem dX11_isHouse_2 : decode cX11_isHouse 2 = .ok (.bipush 19, 2) := by decide +kernel
theorem dX11_isHouse_4 : decode cX11_isHouse 4 = .ok (.invokestatic 116, 3) := by decide +kernel
theorem dX11_isHouse_7 : decode cX11_isHouse 7 = .ok (.ireturn, 1) := by decide +kernel
set_option maxRecDepth 20000 in
theorem ggX11_house_X11_isHouse : GoodIn wsX11_house wsX11_isHouse := goodIn_r _ [8, 9, 10, 7, 11] (by decide +kernel) (by decide +kernel)
set_option maxRecDepth 20000 in
theorem gX11_house_X11_isHouse : GoodIn wsX11_house (va_wsS RX11 239 yX11_isHouse wsX11_isHouse) := goodIn_app (goodIn_of _ (by decide +kernel)) ggX11_house_X11_isHouse
set_option maxRecDepth 20000 in
theorem ggX11_house_X11_peopleOf : GoodIn wsX11_house wsX11_peopleOf := goodIn_r _ [15, 16, 17, 18, 19, 7, 20, 61, 62, 63, 64, 65, 66, 67, 68, 69, 70, 71, 72, 73, 74, 75, 76, 77, 78, 79, 80, 81, 82, 83, 84, 85, 86, 87, 88, 89, 90, 91, 92, 93, 94, 95, 96, 97, 98, 99, 100, 101, 102, 103, 104, 105, 106, 107] (by decide +kernel) (by decide +kernel)
set_option maxRecDepth 20000 in
theorem gX11_house_X11_peopleOf : GoodIn wsX11_house (wsV RX11 231 RX11 yX11_peopleOf wsX11_peopleOf) := goodIn_app (goodIn_of _ (by decide +kernel)) ggX11_house_X11_peopleOf
set_option maxRecDepth 20000 in
theorem ggX11_house_X11_holding : GoodIn wsX11_house wsX11_holding := goodIn_r _ [24, 25, 26, 27, 28, 7, 29, 30, 17, 31, 32, 33, 34, 35, 36, 37, 38, 39, 40, 41, 42, 43, 44, 45, 46, 47, 48, 49, 50, 51, 52, 53, 54, 55, 56, 61, 62, 63, 64, 65, 66, 67, 68, 69, 70, 71, 72, 73, 74, 75, 76, 77, 78, 79, 80, 81, 82, 83, 84, 85, 86, 87, 88, 89, 90, 91, 92, 93, 94, 95, 96, 97, 98, 99, 100, 101, 102, 103, 104, 105, 106, 107] (by decide +kernel) (by decide +kernel)
set_option maxRecDepth 20000 in
theorem gX11_house_X11_holding : GoodIn wsX11_house (wsV RX11 242 RX11 yX11_holding wsX11_holding) := goodIn_app (goodIn_of _ (by decide +kernel)) ggX11_house_X11_holding
set_option maxRecDepth 20000 in
theorem ggX11_house_X11_mayHave : GoodIn wsX11_house wsX11_mayHave := goodIn_r _ [60, 35, 1, 2, 3, 4, 12, 13, 14, 7, 15, 16, 17, 18, 19, 20, 61, 62, 63, 64, 65, 66, 67, 68, 69, 70, 71, 72, 73, 74, 75, 76, 77, 78, 79, 80, 81, 82, 83, 84, 85, 86, 87, 88, 89, 90, 91, 92, 93, 94, 95, 96, 97, 98, 99, 100, 101, 102, 103, 104, 105, 106, 107] (by decide +kernel) (by decide +kernel)
set_option maxRecDepth 20000 in
theorem gX11_house_X11_mayHave : GoodIn wsX11_house (wsV RX11 245 RX11 yX11_mayHave wsX11_mayHave) := goodIn_app (goodIn_of _ (by decide +kernel)) ggX11_house_X11_mayHave
set_option maxRecDepth 20000 in
theorem ggX11_house_X11_counts : GoodIn wsX11_house wsX11_counts := goodIn_r _ [29, 30, 17, 25, 31, 32, 33, 7, 34, 35, 36, 37, 38, 39, 40, 41, 42, 43, 44, 45, 46, 47, 48, 49, 50, 61, 62, 63, 64, 65, 66, 67, 68, 69, 70, 71, 72, 73, 74, 75, 76, 77, 78, 79, 80, 81, 82, 83, 84, 85, 86, 87, 88, 89, 90, 91, 92, 93, 94, 95, 96, 97, 98, 99, 100, 101, 102, 103, 104, 105, 106, 107] (by decide +kernel) (by decide +kernel)
set_option maxRecDepth 20000 in
theorem gX11_house_X11_counts : GoodIn wsX11_house (wsV RX11 228 RX11 yX11_counts wsX11_counts) := goodIn_app (goodIn_of _ (by decide +kernel)) ggX11_house_X11_counts
theorem dX11_house_0 : decode cX11_house 0 = .ok (.iload_n 1, 1) := by decide +kernel
theorem dX11_house_1 : decode cX11_house 1 = .ok (.invokestatic 239, 3) := by decide +kernel
theorem dX11_house_4 : decode cX11_house 4 = .ok (.ifCond .ne 5, 3) := by decide +kernel
theorem dX11_house_7 : decode cX11_house 7 = .ok (.iconst (-1), 1) := by decide +kernel
theorem dX11_house_8 : decode cX11_house 8 = .ok (.ireturn, 1) := by decide +kernel
theorem dX11_house_9 : decode cX11_house 9 = .ok (.iload_n 2, 1) := by decide +kernel
theorem dX11_house_10 : decode cX11_house 10 = .ok (.tableswitch 74 0 4 #[34, 40, 46, 52, 68], 34) := by decide +kernel
theorem dX11_house_44 : decode cX11_house 44 = .ok (.aload_n 0, 1) := by decide +kernel
theorem dX11_house_45 : decode cX11_house 45 = .ok (.iload_n 1, 1) := by decide +kernel
theorem dX11_house_46 : decode cX11_house 46 = .ok (.invokevirtual 231, 3) := by decide +kernel
theorem dX11_house_49 : decode cX11_house 49 = .ok (.ireturn, 1) := by decide +kernel
theorem dX11_house_50 : decode cX11_house 50 = .ok (.aload_n 0, 1) := by decide +kernel
theorem dX11_house_51 : decode cX11_house 51 = .ok (.iload_n 1, 1) := by decide +kernel
theorem dX11_house_52 : decode cX11_house 52 = .ok (.invokevirtual 242, 3) := by decide +kernel
theorem dX11_house_55 : decode cX11_house 55 = .ok (.ireturn, 1) := by decide +kernel
theorem dX11_house_56 : decode cX11_house 56 = .ok (.aload_n 0, 1) := by decide +kernel
theorem dX11_house_57 : decode cX11_house 57 = .ok (.iload_n 1, 1) := by decide +kernel
theorem dX11_house_58 : decode cX11_house 58 = .ok (.invokevirtual 245, 3) := by decide +kernel
theorem dX11_house_61 : decode cX11_house 61 = .ok (.ireturn, 1) := by decide +kernel
theorem dX11_house_62 : decode cX11_house 62 = .ok (.iconst 0, 1) := by decide +kernel
theorem dX11_house_63 : decode cX11_house 63 = .ok (.aload_n 0, 1) := by decide +kernel
theorem dX11_house_64 : decode cX11_house 64 = .ok (.iload_n 1, 1) := by decide +kernel
theorem dX11_house_65 : decode cX11_house 65 = .ok (.invokevirtual 242, 3) := by decide +kernel
theorem dX11_house_68 : decode cX11_house 68 = .ok (.aload_n 0, 1) := by decide +kernel
theorem dX11_house_69 : decode cX11_house 69 = .ok (.iload_n 1, 1) := by decide +kernel
theorem dX11_house_70 : decode cX11_house 70 = .ok (.invokevirtual 245, 3) := by decide +kernel
theorem dX11_house_73 : decode cX11_house 73 = .ok (.isub, 1) := by decide +kernel
theorem dX11_house_74 : decode cX11_house 74 = .ok (.invokestatic 234, 3) := by decide +kernel
theorem dX11_house_77 : decode cX11_house 77 = .ok (.ireturn, 1) := by decide +kernel
theorem dX11_house_78 : decode cX11_house 78 = .ok (.aload_n 0, 1) := by decide +kernel
theorem dX11_house_79 : decode cX11_house 79 = .ok (.iload_n 1, 1) := by decide +kernel
theorem dX11_house_80 : decode cX11_house 80 = .ok (.invokevirtual 228, 3) := by decide +kernel
theorem dX11_house_83 : decode cX11_house 83 = .ok (.ireturn, 1) := by decide +kernel
theorem dX11_house_84 : decode cX11_house 84 = .ok (.iconst (-1), 1) := by decide +kernel
theorem dX11_house_85 : decode cX11_house 85 = .ok (.ireturn, 1) := by decide +kernel
set_option maxRecDepth 20000 in
theorem ggX11_keeps_X11_standard : GoodIn wsX11_keeps wsX11_standard := goodIn_r _ [9, 4, 10, 11, 12, 13, 14, 15, 16, 17, 18, 19, 20, 21, 22, 23, 24, 25, 26, 27, 28, 29, 30, 31, 32, 33, 34, 35, 36, 37, 38, 39, 40, 41, 42, 43, 44, 45, 46, 47, 48, 49, 50, 51, 52, 53, 54, 55, 56, 57, 58] (by decide +kernel) (by decide +kernel)
set_option maxRecDepth 20000 in
theorem gX11_keeps_X11_standard : GoodIn wsX11_keeps (wsV RX11 213 RX11 yX11_standard wsX11_standard) := goodIn_app (goodIn_of _ (by decide +kernel)) ggX11_keeps_X11_standard
theorem dX11_keeps_0 : decode cX11_keeps 0 = .ok (.aload_n 0, 1) := by decide +kernel
theorem dX11_keeps_1 : decode cX11_keeps 1 = .ok (.iconst 0, 1) := by decide +kernel
theorem dX11_keeps_2 : decode cX11_keeps 2 = .ok (.putfield 248, 3) := by decide +kernel
theorem dX11_keeps_5 : decode cX11_keeps 5 = .ok (.aload_n 0, 1) := by decide +kernel
theorem dX11_keeps_6 : decode cX11_keeps 6 = .ok (.iconst 0, 1) := by decide +kernel
theorem dX11_keeps_7 : decode cX11_keeps 7 = .ok (.putfield 251, 3) := by decide +kernel
theorem dX11_keeps_10 : decode cX11_keeps 10 = .ok (.iconst 1, 1) := by decide +kernel
theorem dX11_keeps_11 : decode cX11_keeps 11 = .ok (.istore_n 3, 1) := by decide +kernel
theorem dX11_keeps_12 : decode cX11_keeps 12 = .ok (.iload_n 3, 1) := by decide +kernel
theorem dX11_keeps_13 : decode cX11_keeps 13 = .ok (.iconst 1, 1) := by decide +kernel
theorem dX11_keeps_14 : decode cX11_keeps 14 = .ok (.iload_n 1, 1) := by decide +kernel
theorem dX11_keeps_15 : decode cX11_keeps 15 = .ok (.ishl, 1) := by decide +kernel
theorem dX11_keeps_16 : decode cX11_keeps 16 = .ok (.if_icmp .ge 104, 3) := by decide +kernel
theorem dX11_keeps_19 : decode cX11_keeps 19 = .ok (.iconst 0, 1) := by decide +kernel
theorem dX11_keeps_20 : decode cX11_keeps 20 = .ok (.istore 4, 2) := by decide +kernel
theorem dX11_keeps_22 : decode cX11_keeps 22 = .ok (.iconst 0, 1) := by decide +kernel
theorem dX11_keeps_23 : decode cX11_keeps 23 = .ok (.istore 5, 2) := by decide +kernel
theorem dX11_keeps_25 : decode cX11_keeps 25 = .ok (.iconst 0, 1) := by decide +kernel
theorem dX11_keeps_26 : decode cX11_keeps 26 = .ok (.istore 6, 2) := by decide +kernel
theorem dX11_keeps_28 : decode cX11_keeps 28 = .ok (.iload 6, 2) := by decide +kernel
theorem dX11_keeps_30 : decode cX11_keeps 30 = .ok (.iload_n 1, 1) := by decide +kernel
theorem dX11_keeps_31 : decode cX11_keeps 31 = .ok (.if_icmp .ge 54, 3) := by decide +kernel
theorem dX11_keeps_34 : decode cX11_keeps 34 = .ok (.iload_n 3, 1) := by decide +kernel
theorem dX11_keeps_35 : decode cX11_keeps 35 = .ok (.iload 6, 2) := by decide +kernel
theorem dX11_keeps_37 : decode cX11_keeps 37 = .ok (.ishr, 1) := by decide +kernel
theorem dX11_keeps_38 : decode cX11_keeps 38 = .ok (.iconst 1, 1) := by decide +kernel
theorem dX11_keeps_39 : decode cX11_keeps 39 = .ok (.iand, 1) := by decide +kernel
theorem dX11_keeps_40 : decode cX11_keeps 40 = .ok (.ifCond .ne 6, 3) := by decide +kernel
theorem dX11_keeps_43 : decode cX11_keeps 43 = .ok (.goto 36, 3) := by decide +kernel
theorem dX11_keeps_46 : decode cX11_keeps 46 = .ok (.iload 4, 2) := by decide +kernel
theorem dX11_keeps_48 : decode cX11_keeps 48 = .ok (.aload_n 0, 1) := by decide +kernel
theorem dX11_keeps_49 : decode cX11_keeps 49 = .ok (.aload_n 0, 1) := by decide +kernel
theorem dX11_keeps_50 : decode cX11_keeps 50 = .ok (.getfield 58, 3) := by decide +kernel
theorem dX11_keeps_53 : decode cX11_keeps 53 = .ok (.iload 6, 2) := by decide +kernel
theorem dX11_keeps_55 : decode cX11_keeps 55 = .ok (.iaload, 1) := by decide +kernel
theorem dX11_keeps_56 : decode cX11_keeps 56 = .ok (.invokevirtual 213, 3) := by decide +kernel
theorem dX11_keeps_59 : decode cX11_keeps 59 = .ok (.iadd, 1) := by decide +kernel
theorem dX11_keeps_60 : decode cX11_keeps 60 = .ok (.istore 4, 2) := by decide +kernel
theorem dX11_keeps_62 : decode cX11_keeps 62 = .ok (.iload 5, 2) := by decide +kernel
theorem dX11_keeps_64 : decode cX11_keeps 64 = .ok (.aload_n 0, 1) := by decide +kernel
theorem dX11_keeps_65 : decode cX11_keeps 65 = .ok (.getfield 23, 3) := by decide +kernel
theorem dX11_keeps_68 : decode cX11_keeps 68 = .ok (.aload_n 0, 1) := by decide +kernel
theorem dX11_keeps_69 : decode cX11_keeps 69 = .ok (.getfield 58, 3) := by decide +kernel
theorem dX11_keeps_72 : decode cX11_keeps 72 = .ok (.iload 6, 2) := by decide +kernel
theorem dX11_keeps_74 : decode cX11_keeps 74 = .ok (.iaload, 1) := by decide +kernel
theorem dX11_keeps_75 : decode cX11_keeps 75 = .ok (.iaload, 1) := by decide +kernel
theorem dX11_keeps_76 : decode cX11_keeps 76 = .ok (.iadd, 1) := by decide +kernel
theorem dX11_keeps_77 : decode cX11_keeps 77 = .ok (.istore 5, 2) := by decide +kernel
theorem dX11_keeps_79 : decode cX11_keeps 79 = .ok (.iinc 6 1, 3) := by decide +kernel
theorem dX11_keeps_82 : decode cX11_keeps 82 = .ok (.goto (-54), 3) := by decide +kernel
theorem dX11_keeps_85 : decode cX11_keeps 85 = .ok (.iload 4, 2) := by decide +kernel
theorem dX11_keeps_87 : decode cX11_keeps 87 = .ok (.iload_n 2, 1) := by decide +kernel
theorem dX11_keeps_88 : decode cX11_keeps 88 = .ok (.if_icmp .gt 26, 3) := by decide +kernel
theorem dX11_keeps_91 : decode cX11_keeps 91 = .ok (.iload 5, 2) := by decide +kernel
theorem dX11_keeps_93 : decode cX11_keeps 93 = .ok (.aload_n 0, 1) := by decide +kernel
theorem dX11_keeps_94 : decode cX11_keeps 94 = .ok (.getfield 251, 3) := by decide +kernel
theorem dX11_keeps_97 : decode cX11_keeps 97 = .ok (.if_icmp .gt 6, 3) := by decide +kernel
theorem dX11_keeps_100 : decode cX11_keeps 100 = .ok (.goto 14, 3) := by decide +kernel
theorem dX11_keeps_103 : decode cX11_keeps 103 = .ok (.aload_n 0, 1) := by decide +kernel
theorem dX11_keeps_104 : decode cX11_keeps 104 = .ok (.iload_n 3, 1) := by decide +kernel
theorem dX11_keeps_105 : decode cX11_keeps 105 = .ok (.putfield 248, 3) := by decide +kernel
theorem dX11_keeps_108 : decode cX11_keeps 108 = .ok (.aload_n 0, 1) := by decide +kernel
theorem dX11_keeps_109 : decode cX11_keeps 109 = .ok (.iload 5, 2) := by decide +kernel
theorem dX11_keeps_111 : decode cX11_keeps 111 = .ok (.putfield 251, 3) := by decide +kernel
theorem dX11_keeps_114 : decode cX11_keeps 114 = .ok (.iinc 3 1, 3) := by decide +kernel
theorem dX11_keeps_117 : decode cX11_keeps 117 = .ok (.goto (-105), 3) := by decide +kernel
theorem dX11_keeps_120 : decode cX11_keeps 120 = .ok (.return_, 1) := by decide +kernel
set_option maxRecDepth 20000 in
theorem ggX11_kept_X11_isHouse : GoodIn wsX11_kept wsX11_isHouse := goodIn_r _ [6, 7, 8, 5, 9] (by decide +kernel) (by decide +kernel)
set_option maxRecDepth 20000 in
theorem gX11_kept_X11_isHouse : GoodIn wsX11_kept (va_wsS RX11 239 yX11_isHouse wsX11_isHouse) := goodIn_app (goodIn_of _ (by decide +kernel)) ggX11_kept_X11_isHouse
set_option maxRecDepth 20000 in
theorem ggX11_kept_X11_counts : GoodIn wsX11_kept wsX11_counts := goodIn_r _ [13, 14, 15, 16, 17, 18, 19, 5, 20, 21, 22, 23, 24, 25, 26, 27, 28, 29, 30, 31, 32, 33, 34, 35, 36, 63, 64, 65, 66, 67, 68, 69, 70, 71, 72, 73, 74, 75, 76, 77, 78, 79, 80, 81, 82, 83, 84, 85, 86, 87, 88, 89, 90, 91, 92, 93, 94, 95, 96, 97, 98, 99, 100, 101, 102, 103, 104, 105, 106, 107, 108, 109] (by decide +kernel) (by decide +kernel)
set_option maxRecDepth 20000 in
theorem gX11_kept_X11_counts : GoodIn wsX11_kept (wsV RX11 228 RX11 yX11_counts wsX11_counts) := goodIn_app (goodIn_of _ (by decide +kernel)) ggX11_kept_X11_counts
set_option maxRecDepth 20000 in
theorem ggX11_kept_X11_isIn : GoodIn wsX11_kept wsX11_isIn := goodIn_r _ [9] (by decide +kernel) (by decide +kernel)
set_option maxRecDepth 20000 in
theorem gX11_kept_X11_isIn : GoodIn wsX11_kept (va_wsS RX11 116 yX11_isIn wsX11_isIn) := goodIn_app (goodIn_of _ (by decide +kernel)) ggX11_kept_X11_isIn
set_option maxRecDepth 20000 in
theorem ggX11_kept_X11_mayHave : GoodIn wsX11_kept wsX11_mayHave := goodIn_r _ [40, 21, 41, 42, 43, 44, 45, 46, 47, 5, 48, 49, 15, 50, 51, 52, 63, 64, 65, 66, 67, 68, 69, 70, 71, 72, 73, 74, 75, 76, 77, 78, 79, 80, 81, 82, 83, 84, 85, 86, 87, 88, 89, 90, 91, 92, 93, 94, 95, 96, 97, 98, 99, 100, 101, 102, 103, 104, 105, 106, 107, 108, 109] (by decide +kernel) (by decide +kernel)
set_option maxRecDepth 20000 in
theorem gX11_kept_X11_mayHave : GoodIn wsX11_kept (wsV RX11 245 RX11 yX11_mayHave wsX11_mayHave) := goodIn_app (goodIn_of _ (by decide +kernel)) ggX11_kept_X11_mayHave
set_option maxRecDepth 20000 in
theorem ggX11_kept_X11_keeps : GoodIn wsX11_kept wsX11_keeps := goodIn_r _ [56, 2, 1, 16, 57, 58, 59, 60, 5, 61, 21, 62, 63, 64, 65, 66, 67, 68, 69, 70, 71, 72, 73, 74, 75, 76, 77, 78, 79, 80, 81, 82, 83, 84, 85, 86, 87, 88, 89, 90, 91, 92, 93, 94, 95, 96, 97, 98, 99, 100, 101, 102, 103, 104, 105, 106, 107, 108, 109] (by decide +kernel) (by decide +kernel)
set_option maxRecDepth 20000 in
theorem gX11_kept_X11_keeps : GoodIn wsX11_kept (wsV RX11 254 RX11 yX11_keeps wsX11_keeps) := goodIn_app (goodIn_of _ (by decide +kernel)) ggX11_kept_X11_keeps
theorem dX11_kept_0 : decode cX11_kept 0 = .ok (.iload_n 1, 1) := by decide +kernel
theorem dX11_kept_1 : decode cX11_kept 1 = .ok (.invokestatic 239, 3) := by decide +kernel
theorem dX11_kept_4 : decode cX11_kept 4 = .ok (.ifCond .ne 5, 3) := by decide +kernel
theorem dX11_kept_7 : decode cX11_kept 7 = .ok (.iconst (-1), 1) := by decide +kernel
theorem dX11_kept_8 : decode cX11_kept 8 = .ok (.ireturn, 1) := by decide +kernel
theorem dX11_kept_9 : decode cX11_kept 9 = .ok (.aload_n 0, 1) := by decide +kernel
theorem dX11_kept_10 : decode cX11_kept 10 = .ok (.iload_n 1, 1) := by decide +kernel
theorem dX11_kept_11 : decode cX11_kept 11 = .ok (.invokevirtual 228, 3) := by decide +kernel
theorem dX11_kept_14 : decode cX11_kept 14 = .ok (.istore_n 3, 1) := by decide +kernel
theorem dX11_kept_15 : decode cX11_kept 15 = .ok (.iload_n 3, 1) := by decide +kernel
theorem dX11_kept_16 : decode cX11_kept 16 = .ok (.bipush 12, 2) := by decide +kernel
theorem dX11_kept_18 : decode cX11_kept 18 = .ok (.if_icmp .gt 14, 3) := by decide +kernel
theorem dX11_kept_21 : decode cX11_kept 21 = .ok (.iload_n 2, 1) := by decide +kernel
theorem dX11_kept_22 : decode cX11_kept 22 = .ok (.iconst (-1), 1) := by decide +kernel
theorem dX11_kept_23 : decode cX11_kept 23 = .ok (.iload_n 3, 1) := by decide +kernel
theorem dX11_kept_24 : decode cX11_kept 24 = .ok (.iconst 1, 1) := by decide +kernel
theorem dX11_kept_25 : decode cX11_kept 25 = .ok (.isub, 1) := by decide +kernel
theorem dX11_kept_26 : decode cX11_kept 26 = .ok (.invokestatic 116, 3) := by decide +kernel
theorem dX11_kept_29 : decode cX11_kept 29 = .ok (.ifCond .ne 5, 3) := by decide +kernel
theorem dX11_kept_32 : decode cX11_kept 32 = .ok (.iconst (-1), 1) := by decide +kernel
theorem dX11_kept_33 : decode cX11_kept 33 = .ok (.ireturn, 1) := by decide +kernel
theorem dX11_kept_34 : decode cX11_kept 34 = .ok (.aload_n 0, 1) := by decide +kernel
theorem dX11_kept_35 : decode cX11_kept 35 = .ok (.iload_n 3, 1) := by decide +kernel
theorem dX11_kept_36 : decode cX11_kept 36 = .ok (.aload_n 0, 1) := by decide +kernel
theorem dX11_kept_37 : decode cX11_kept 37 = .ok (.iload_n 1, 1) := by decide +kernel
theorem dX11_kept_38 : decode cX11_kept 38 = .ok (.invokevirtual 245, 3) := by decide +kernel
theorem dX11_kept_41 : decode cX11_kept 41 = .ok (.invokevirtual 254, 3) := by decide +kernel
theorem dX11_kept_44 : decode cX11_kept 44 = .ok (.iload_n 2, 1) := by decide +kernel
theorem dX11_kept_45 : decode cX11_kept 45 = .ok (.iconst (-1), 1) := by decide +kernel
theorem dX11_kept_46 : decode cX11_kept 46 = .ok (.if_icmp .ne 10, 3) := by decide +kernel
theorem dX11_kept_49 : decode cX11_kept 49 = .ok (.aload_n 0, 1) := by decide +kernel
theorem dX11_kept_50 : decode cX11_kept 50 = .ok (.getfield 251, 3) := by decide +kernel
theorem dX11_kept_53 : decode cX11_kept 53 = .ok (.goto 11, 3) := by decide +kernel
theorem dX11_kept_56 : decode cX11_kept 56 = .ok (.aload_n 0, 1) := by decide +kernel
theorem dX11_kept_57 : decode cX11_kept 57 = .ok (.getfield 248, 3) := by decide +kernel
theorem dX11_kept_60 : decode cX11_kept 60 = .ok (.iload_n 2, 1) := by decide +kernel
theorem dX11_kept_61 : decode cX11_kept 61 = .ok (.ishr, 1) := by decide +kernel
theorem dX11_kept_62 : decode cX11_kept 62 = .ok (.iconst 1, 1) := by decide +kernel
theorem dX11_kept_63 : decode cX11_kept 63 = .ok (.iand, 1) := by decide +kernel
theorem dX11_kept_64 : decode cX11_kept 64 = .ok (.ireturn, 1) := by decide +kernel
set_option maxRecDepth 20000 in
theorem ggX11_taken_X11_isHouse : GoodIn wsX11_taken wsX11_isHouse := goodIn_r _ [6, 7, 8, 5, 9] (by decide +kernel) (by decide +kernel)
set_option maxRecDepth 20000 in
theorem gX11_taken_X11_isHouse : GoodIn wsX11_taken (va_wsS RX11 239 yX11_isHouse wsX11_isHouse) := goodIn_app (goodIn_of _ (by decide +kernel)) ggX11_taken_X11_isHouse
set_option maxRecDepth 20000 in
theorem ggX11_taken_X11_holding : GoodIn wsX11_taken wsX11_holding := goodIn_r _ [13, 2, 14, 15, 16, 5, 17, 18, 19, 20, 21, 22, 23, 24, 25, 26, 27, 28, 29, 30, 31, 32, 33, 34, 35, 36, 37, 38, 39, 40, 41, 42, 43, 44, 45, 67, 68, 69, 70, 71, 72, 73, 74, 75, 76, 77, 78, 79, 80, 81, 82, 83, 84, 85, 86, 87, 88, 89, 90, 91, 92, 93, 94, 95, 96, 97, 98, 99, 100, 101, 102, 103, 104, 105, 106, 107, 108, 109, 110, 111, 112, 113] (by decide +kernel) (by decide +kernel)
set_option maxRecDepth 20000 in
theorem gX11_taken_X11_holding : GoodIn wsX11_taken (wsV RX11 242 RX11 yX11_holding wsX11_holding) := goodIn_app (goodIn_of _ (by decide +kernel)) ggX11_taken_X11_holding
set_option maxRecDepth 20000 in
theorem ggX11_taken_X11_mayHave : GoodIn wsX11_taken wsX11_mayHave := goodIn_r _ [49, 24, 50, 51, 52, 53, 54, 55, 56, 5, 57, 58, 19, 59, 60, 61, 67, 68, 69, 70, 71, 72, 73, 74, 75, 76, 77, 78, 79, 80, 81, 82, 83, 84, 85, 86, 87, 88, 89, 90, 91, 92, 93, 94, 95, 96, 97, 98, 99, 100, 101, 102, 103, 104, 105, 106, 107, 108, 109, 110, 111, 112, 113] (by decide +kernel) (by decide +kernel)
set_option maxRecDepth 20000 in
theorem gX11_taken_X11_mayHave : GoodIn wsX11_taken (wsV RX11 245 RX11 yX11_mayHave wsX11_mayHave) := goodIn_app (goodIn_of _ (by decide +kernel)) ggX11_taken_X11_mayHave
set_option maxRecDepth 20000 in
theorem ggX11_taken_X11_counts : GoodIn wsX11_taken wsX11_counts := goodIn_r _ [17, 18, 19, 2, 20, 21, 22, 5, 23, 24, 25, 26, 27, 28, 29, 30, 31, 32, 33, 34, 35, 36, 37, 38, 39, 67, 68, 69, 70, 71, 72, 73, 74, 75, 76, 77, 78, 79, 80, 81, 82, 83, 84, 85, 86, 87, 88, 89, 90, 91, 92, 93, 94, 95, 96, 97, 98, 99, 100, 101, 102, 103, 104, 105, 106, 107, 108, 109, 110, 111, 112, 113] (by decide +kernel) (by decide +kernel)
set_option maxRecDepth 20000 in
theorem gX11_taken_X11_counts : GoodIn wsX11_taken (wsV RX11 228 RX11 yX11_counts wsX11_counts) := goodIn_app (goodIn_of _ (by decide +kernel)) ggX11_taken_X11_counts
set_option maxRecDepth 20000 in
theorem ggX11_taken_X11_keeps : GoodIn wsX11_taken wsX11_keeps := goodIn_r _ [65, 1, 66, 2, 44, 40, 41, 42, 5, 43, 24, 45, 67, 68, 69, 70, 71, 72, 73, 74, 75, 76, 77, 78, 79, 80, 81, 82, 83, 84, 85, 86, 87, 88, 89, 90, 91, 92, 93, 94, 95, 96, 97, 98, 99, 100, 101, 102, 103, 104, 105, 106, 107, 108, 109, 110, 111, 112, 113] (by decide +kernel) (by decide +kernel)
