set_option maxRecDepth 20000 in
theorem gX11_taken_X11_keeps : GoodIn wsX11_taken (wsV RX11 254 RX11 yX11_keeps wsX11_keeps) := goodIn_app (goodIn_of _ (by decide +kernel)) ggX11_taken_X11_keeps
theorem dX11_taken_0 : decode cX11_taken 0 = .ok (.iload_n 1, 1) := by decide +kernel
theorem dX11_taken_1 : decode cX11_taken 1 = .ok (.invokestatic 239, 3) := by decide +kernel
theorem dX11_taken_4 : decode cX11_taken 4 = .ok (.ifCond .eq 20, 3) := by decide +kernel
theorem dX11_taken_7 : decode cX11_taken 7 = .ok (.iload_n 2, 1) := by decide +kernel
theorem dX11_taken_8 : decode cX11_taken 8 = .ok (.ifCond .lt 16, 3) := by decide +kernel
theorem dX11_taken_11 : decode cX11_taken 11 = .ok (.aload_n 0, 1) := by decide +kernel
theorem dX11_taken_12 : decode cX11_taken 12 = .ok (.iload_n 1, 1) := by decide +kernel
theorem dX11_taken_13 : decode cX11_taken 13 = .ok (.invokevirtual 242, 3) := by decide +kernel
theorem dX11_taken_16 : decode cX11_taken 16 = .ok (.aload_n 0, 1) := by decide +kernel
theorem dX11_taken_17 : decode cX11_taken 17 = .ok (.iload_n 1, 1) := by decide +kernel
theorem dX11_taken_18 : decode cX11_taken 18 = .ok (.invokevirtual 245, 3) := by decide +kernel
theorem dX11_taken_21 : decode cX11_taken 21 = .ok (.if_icmp .gt 5, 3) := by decide +kernel
theorem dX11_taken_24 : decode cX11_taken 24 = .ok (.iconst (-1), 1) := by decide +kernel
theorem dX11_taken_25 : decode cX11_taken 25 = .ok (.ireturn, 1) := by decide +kernel
theorem dX11_taken_26 : decode cX11_taken 26 = .ok (.aload_n 0, 1) := by decide +kernel
theorem dX11_taken_27 : decode cX11_taken 27 = .ok (.iload_n 1, 1) := by decide +kernel
theorem dX11_taken_28 : decode cX11_taken 28 = .ok (.invokevirtual 228, 3) := by decide +kernel
theorem dX11_taken_31 : decode cX11_taken 31 = .ok (.istore_n 3, 1) := by decide +kernel
theorem dX11_taken_32 : decode cX11_taken 32 = .ok (.iload_n 3, 1) := by decide +kernel
theorem dX11_taken_33 : decode cX11_taken 33 = .ok (.bipush 12, 2) := by decide +kernel
theorem dX11_taken_35 : decode cX11_taken 35 = .ok (.if_icmp .le 5, 3) := by decide +kernel
theorem dX11_taken_38 : decode cX11_taken 38 = .ok (.iconst (-1), 1) := by decide +kernel
theorem dX11_taken_39 : decode cX11_taken 39 = .ok (.ireturn, 1) := by decide +kernel
theorem dX11_taken_40 : decode cX11_taken 40 = .ok (.aload_n 0, 1) := by decide +kernel
theorem dX11_taken_41 : decode cX11_taken 41 = .ok (.iload_n 3, 1) := by decide +kernel
theorem dX11_taken_42 : decode cX11_taken 42 = .ok (.aload_n 0, 1) := by decide +kernel
theorem dX11_taken_43 : decode cX11_taken 43 = .ok (.iload_n 1, 1) := by decide +kernel
theorem dX11_taken_44 : decode cX11_taken 44 = .ok (.invokevirtual 245, 3) := by decide +kernel
theorem dX11_taken_47 : decode cX11_taken 47 = .ok (.invokevirtual 254, 3) := by decide +kernel
theorem dX11_taken_50 : decode cX11_taken 50 = .ok (.iload_n 2, 1) := by decide +kernel
theorem dX11_taken_51 : decode cX11_taken 51 = .ok (.istore 4, 2) := by decide +kernel
theorem dX11_taken_53 : decode cX11_taken 53 = .ok (.iconst 0, 1) := by decide +kernel
theorem dX11_taken_54 : decode cX11_taken 54 = .ok (.istore 5, 2) := by decide +kernel
theorem dX11_taken_56 : decode cX11_taken 56 = .ok (.iload 5, 2) := by decide +kernel
theorem dX11_taken_58 : decode cX11_taken 58 = .ok (.iload_n 3, 1) := by decide +kernel
theorem dX11_taken_59 : decode cX11_taken 59 = .ok (.if_icmp .ge 41, 3) := by decide +kernel
theorem dX11_taken_62 : decode cX11_taken 62 = .ok (.aload_n 0, 1) := by decide +kernel
theorem dX11_taken_63 : decode cX11_taken 63 = .ok (.getfield 248, 3) := by decide +kernel
theorem dX11_taken_66 : decode cX11_taken 66 = .ok (.iload 5, 2) := by decide +kernel
theorem dX11_taken_68 : decode cX11_taken 68 = .ok (.ishr, 1) := by decide +kernel
theorem dX11_taken_69 : decode cX11_taken 69 = .ok (.iconst 1, 1) := by decide +kernel
theorem dX11_taken_70 : decode cX11_taken 70 = .ok (.iand, 1) := by decide +kernel
theorem dX11_taken_71 : decode cX11_taken 71 = .ok (.iconst 1, 1) := by decide +kernel
theorem dX11_taken_72 : decode cX11_taken 72 = .ok (.if_icmp .ne 6, 3) := by decide +kernel
theorem dX11_taken_75 : decode cX11_taken 75 = .ok (.goto 19, 3) := by decide +kernel
theorem dX11_taken_78 : decode cX11_taken 78 = .ok (.iload 4, 2) := by decide +kernel
theorem dX11_taken_80 : decode cX11_taken 80 = .ok (.ifCond .ne 11, 3) := by decide +kernel
theorem dX11_taken_83 : decode cX11_taken 83 = .ok (.aload_n 0, 1) := by decide +kernel
theorem dX11_taken_84 : decode cX11_taken 84 = .ok (.getfield 58, 3) := by decide +kernel
theorem dX11_taken_87 : decode cX11_taken 87 = .ok (.iload 5, 2) := by decide +kernel
theorem dX11_taken_89 : decode cX11_taken 89 = .ok (.iaload, 1) := by decide +kernel
theorem dX11_taken_90 : decode cX11_taken 90 = .ok (.ireturn, 1) := by decide +kernel
theorem dX11_taken_91 : decode cX11_taken 91 = .ok (.iinc 4 (-1), 3) := by decide +kernel
theorem dX11_taken_94 : decode cX11_taken 94 = .ok (.iinc 5 1, 3) := by decide +kernel
theorem dX11_taken_97 : decode cX11_taken 97 = .ok (.goto (-41), 3) := by decide +kernel
theorem dX11_taken_100 : decode cX11_taken 100 = .ok (.iconst (-1), 1) := by decide +kernel
theorem dX11_taken_101 : decode cX11_taken 101 = .ok (.ireturn, 1) := by decide +kernel
theorem dX11_bits_0 : decode cX11_bits 0 = .ok (.iconst 0, 1) := by decide +kernel
theorem dX11_bits_1 : decode cX11_bits 1 = .ok (.istore_n 1, 1) := by decide +kernel
theorem dX11_bits_2 : decode cX11_bits 2 = .ok (.iload_n 0, 1) := by decide +kernel
theorem dX11_bits_3 : decode cX11_bits 3 = .ok (.istore_n 2, 1) := by decide +kernel
theorem dX11_bits_4 : decode cX11_bits 4 = .ok (.iload_n 2, 1) := by decide +kernel
theorem dX11_bits_5 : decode cX11_bits 5 = .ok (.ifCond .le 16, 3) := by decide +kernel
theorem dX11_bits_8 : decode cX11_bits 8 = .ok (.iload_n 1, 1) := by decide +kernel
theorem dX11_bits_9 : decode cX11_bits 9 = .ok (.iload_n 2, 1) := by decide +kernel
theorem dX11_bits_10 : decode cX11_bits 10 = .ok (.iconst 1, 1) := by decide +kernel
theorem dX11_bits_11 : decode cX11_bits 11 = .ok (.iand, 1) := by decide +kernel
theorem dX11_bits_12 : decode cX11_bits 12 = .ok (.iadd, 1) := by decide +kernel
theorem dX11_bits_13 : decode cX11_bits 13 = .ok (.istore_n 1, 1) := by decide +kernel
theorem dX11_bits_14 : decode cX11_bits 14 = .ok (.iload_n 2, 1) := by decide +kernel
theorem dX11_bits_15 : decode cX11_bits 15 = .ok (.iconst 1, 1) := by decide +kernel
theorem dX11_bits_16 : decode cX11_bits 16 = .ok (.ishr, 1) := by decide +kernel
theorem dX11_bits_17 : decode cX11_bits 17 = .ok (.istore_n 2, 1) := by decide +kernel
theorem dX11_bits_18 : decode cX11_bits 18 = .ok (.goto (-14), 3) := by decide +kernel
theorem dX11_bits_21 : decode cX11_bits 21 = .ok (.iload_n 1, 1) := by decide +kernel
theorem dX11_bits_22 : decode cX11_bits 22 = .ok (.ireturn, 1) := by decide +kernel
set_option maxRecDepth 20000 in
theorem ggX11_share_X11_isField : GoodIn wsX11_share wsX11_isField := goodIn_r _ [9, 10, 11, 12, 8, 13, 22, 23, 24, 25, 26, 27, 28, 29, 30, 31, 32, 33, 34, 35, 36, 37, 38, 39, 40, 41, 42, 43, 44, 45, 46, 47, 48, 49, 50, 51, 52, 53, 54, 55, 56, 57, 58, 59, 60, 61, 62, 63, 64, 65, 66, 67, 68] (by decide +kernel) (by decide +kernel)
set_option maxRecDepth 20000 in
theorem gX11_share_X11_isField : GoodIn wsX11_share (wsV RX11 140 RX11 yX11_isField wsX11_isField) := goodIn_app (goodIn_of _ (by decide +kernel)) ggX11_share_X11_isField
set_option maxRecDepth 20000 in
theorem ggX11_share_X11_isPerson : GoodIn wsX11_share wsX11_isPerson := goodIn_r _ [17, 18, 11, 12, 8, 13, 22, 23, 24, 25, 26, 27, 28, 29, 30, 31, 32, 33, 34, 35, 36, 37, 38, 39, 40, 41, 42, 43, 44, 45, 46, 47, 48, 49, 50, 51, 52, 53, 54, 55, 56, 57, 58, 59, 60, 61, 62, 63, 64, 65, 66, 67, 68] (by decide +kernel) (by decide +kernel)
set_option maxRecDepth 20000 in
theorem gX11_share_X11_isPerson : GoodIn wsX11_share (wsV RX11 123 RX11 yX11_isPerson wsX11_isPerson) := goodIn_app (goodIn_of _ (by decide +kernel)) ggX11_share_X11_isPerson
set_option maxRecDepth 20000 in
theorem ggX11_share_X11_isIn : GoodIn wsX11_share wsX11_isIn := goodIn_r _ [13] (by decide +kernel) (by decide +kernel)
set_option maxRecDepth 20000 in
theorem gX11_share_X11_isIn : GoodIn wsX11_share (va_wsS RX11 116 yX11_isIn wsX11_isIn) := goodIn_app (goodIn_of _ (by decide +kernel)) ggX11_share_X11_isIn
set_option maxRecDepth 20000 in
theorem ggX11_share_X11_bits : GoodIn wsX11_share wsX11_bits := goodIn_r _ [21] (by decide +kernel) (by decide +kernel)
set_option maxRecDepth 20000 in
theorem gX11_share_X11_bits : GoodIn wsX11_share (va_wsS RX11 260 yX11_bits wsX11_bits) := goodIn_app (goodIn_of _ (by decide +kernel)) ggX11_share_X11_bits
theorem dX11_share_0 : decode cX11_share 0 = .ok (.aload_n 0, 1) := by decide +kernel
theorem dX11_share_1 : decode cX11_share 1 = .ok (.iload_n 1, 1) := by decide +kernel
theorem dX11_share_2 : decode cX11_share 2 = .ok (.invokevirtual 140, 3) := by decide +kernel
theorem dX11_share_5 : decode cX11_share 5 = .ok (.ifCond .eq 21, 3) := by decide +kernel
theorem dX11_share_8 : decode cX11_share 8 = .ok (.aload_n 0, 1) := by decide +kernel
theorem dX11_share_9 : decode cX11_share 9 = .ok (.iload_n 2, 1) := by decide +kernel
theorem dX11_share_10 : decode cX11_share 10 = .ok (.invokevirtual 123, 3) := by decide +kernel
theorem dX11_share_13 : decode cX11_share 13 = .ok (.ifCond .eq 13, 3) := by decide +kernel
theorem dX11_share_16 : decode cX11_share 16 = .ok (.iload_n 3, 1) := by decide +kernel
theorem dX11_share_17 : decode cX11_share 17 = .ok (.iconst 0, 1) := by decide +kernel
theorem dX11_share_18 : decode cX11_share 18 = .ok (.bipush 29, 2) := by decide +kernel
theorem dX11_share_20 : decode cX11_share 20 = .ok (.invokestatic 116, 3) := by decide +kernel
theorem dX11_share_23 : decode cX11_share 23 = .ok (.ifCond .ne 5, 3) := by decide +kernel
theorem dX11_share_26 : decode cX11_share 26 = .ok (.iconst (-1), 1) := by decide +kernel
theorem dX11_share_27 : decode cX11_share 27 = .ok (.ireturn, 1) := by decide +kernel
theorem dX11_share_28 : decode cX11_share 28 = .ok (.iconst 0, 1) := by decide +kernel
theorem dX11_share_29 : decode cX11_share 29 = .ok (.istore 4, 2) := by decide +kernel
theorem dX11_share_31 : decode cX11_share 31 = .ok (.iload 4, 2) := by decide +kernel
theorem dX11_share_33 : decode cX11_share 33 = .ok (.aload_n 0, 1) := by decide +kernel
theorem dX11_share_34 : decode cX11_share 34 = .ok (.getfield 257, 3) := by decide +kernel
theorem dX11_share_37 : decode cX11_share 37 = .ok (.if_icmp .ge 31, 3) := by decide +kernel
theorem dX11_share_40 : decode cX11_share 40 = .ok (.aload_n 0, 1) := by decide +kernel
theorem dX11_share_41 : decode cX11_share 41 = .ok (.getfield 61, 3) := by decide +kernel
theorem dX11_share_44 : decode cX11_share 44 = .ok (.iload 4, 2) := by decide +kernel
theorem dX11_share_46 : decode cX11_share 46 = .ok (.iaload, 1) := by decide +kernel
theorem dX11_share_47 : decode cX11_share 47 = .ok (.iload_n 1, 1) := by decide +kernel
theorem dX11_share_48 : decode cX11_share 48 = .ok (.if_icmp .ne 14, 3) := by decide +kernel
theorem dX11_share_51 : decode cX11_share 51 = .ok (.aload_n 0, 1) := by decide +kernel
theorem dX11_share_52 : decode cX11_share 52 = .ok (.getfield 64, 3) := by decide +kernel
theorem dX11_share_55 : decode cX11_share 55 = .ok (.iload 4, 2) := by decide +kernel
theorem dX11_share_57 : decode cX11_share 57 = .ok (.iaload, 1) := by decide +kernel
theorem dX11_share_58 : decode cX11_share 58 = .ok (.iload_n 2, 1) := by decide +kernel
theorem dX11_share_59 : decode cX11_share 59 = .ok (.if_icmp .eq 9, 3) := by decide +kernel
theorem dX11_share_62 : decode cX11_share 62 = .ok (.iinc 4 1, 3) := by decide +kernel
theorem dX11_share_65 : decode cX11_share 65 = .ok (.goto (-34), 3) := by decide +kernel
theorem dX11_share_68 : decode cX11_share 68 = .ok (.iload 4, 2) := by decide +kernel
theorem dX11_share_70 : decode cX11_share 70 = .ok (.bipush 60, 2) := by decide +kernel
theorem dX11_share_72 : decode cX11_share 72 = .ok (.if_icmp .ne 5, 3) := by decide +kernel
theorem dX11_share_75 : decode cX11_share 75 = .ok (.iconst (-1), 1) := by decide +kernel
theorem dX11_share_76 : decode cX11_share 76 = .ok (.ireturn, 1) := by decide +kernel
theorem dX11_share_77 : decode cX11_share 77 = .ok (.iload 4, 2) := by decide +kernel
theorem dX11_share_79 : decode cX11_share 79 = .ok (.aload_n 0, 1) := by decide +kernel
theorem dX11_share_80 : decode cX11_share 80 = .ok (.getfield 257, 3) := by decide +kernel
theorem dX11_share_83 : decode cX11_share 83 = .ok (.if_icmp .ne 29, 3) := by decide +kernel
theorem dX11_share_86 : decode cX11_share 86 = .ok (.aload_n 0, 1) := by decide +kernel
theorem dX11_share_87 : decode cX11_share 87 = .ok (.getfield 61, 3) := by decide +kernel
theorem dX11_share_90 : decode cX11_share 90 = .ok (.iload 4, 2) := by decide +kernel
theorem dX11_share_92 : decode cX11_share 92 = .ok (.iload_n 1, 1) := by decide +kernel
theorem dX11_share_93 : decode cX11_share 93 = .ok (.iastore, 1) := by decide +kernel
theorem dX11_share_94 : decode cX11_share 94 = .ok (.aload_n 0, 1) := by decide +kernel
theorem dX11_share_95 : decode cX11_share 95 = .ok (.getfield 64, 3) := by decide +kernel
theorem dX11_share_98 : decode cX11_share 98 = .ok (.iload 4, 2) := by decide +kernel
theorem dX11_share_100 : decode cX11_share 100 = .ok (.iload_n 2, 1) := by decide +kernel
theorem dX11_share_101 : decode cX11_share 101 = .ok (.iastore, 1) := by decide +kernel
theorem dX11_share_102 : decode cX11_share 102 = .ok (.aload_n 0, 1) := by decide +kernel
theorem dX11_share_103 : decode cX11_share 103 = .ok (.dup, 1) := by decide +kernel
theorem dX11_share_104 : decode cX11_share 104 = .ok (.getfield 257, 3) := by decide +kernel
theorem dX11_share_107 : decode cX11_share 107 = .ok (.iconst 1, 1) := by decide +kernel
theorem dX11_share_108 : decode cX11_share 108 = .ok (.iadd, 1) := by decide +kernel
theorem dX11_share_109 : decode cX11_share 109 = .ok (.putfield 257, 3) := by decide +kernel
theorem dX11_share_112 : decode cX11_share 112 = .ok (.aload_n 0, 1) := by decide +kernel
theorem dX11_share_113 : decode cX11_share 113 = .ok (.getfield 67, 3) := by decide +kernel
theorem dX11_share_116 : decode cX11_share 116 = .ok (.iload 4, 2) := by decide +kernel
theorem dX11_share_118 : decode cX11_share 118 = .ok (.dup2, 1) := by decide +kernel
theorem dX11_share_119 : decode cX11_share 119 = .ok (.iaload, 1) := by decide +kernel
theorem dX11_share_120 : decode cX11_share 120 = .ok (.iconst 1, 1) := by decide +kernel
theorem dX11_share_121 : decode cX11_share 121 = .ok (.iload_n 3, 1) := by decide +kernel
theorem dX11_share_122 : decode cX11_share 122 = .ok (.ishl, 1) := by decide +kernel
theorem dX11_share_123 : decode cX11_share 123 = .ok (.ior, 1) := by decide +kernel
theorem dX11_share_124 : decode cX11_share 124 = .ok (.iastore, 1) := by decide +kernel
theorem dX11_share_125 : decode cX11_share 125 = .ok (.aload_n 0, 1) := by decide +kernel
theorem dX11_share_126 : decode cX11_share 126 = .ok (.getfield 67, 3) := by decide +kernel
theorem dX11_share_129 : decode cX11_share 129 = .ok (.iload 4, 2) := by decide +kernel
theorem dX11_share_131 : decode cX11_share 131 = .ok (.iaload, 1) := by decide +kernel
theorem dX11_share_132 : decode cX11_share 132 = .ok (.invokestatic 260, 3) := by decide +kernel
theorem dX11_share_135 : decode cX11_share 135 = .ok (.ireturn, 1) := by decide +kernel
set_option maxRecDepth 20000 in
theorem ggX11_tenant_X11_bits : GoodIn wsX11_tenant wsX11_bits := goodIn_r _ [9] (by decide +kernel) (by decide +kernel)
set_option maxRecDepth 20000 in
theorem gX11_tenant_X11_bits : GoodIn wsX11_tenant (va_wsS RX11 260 yX11_bits wsX11_bits) := goodIn_app (goodIn_of _ (by decide +kernel)) ggX11_tenant_X11_bits
set_option maxRecDepth 20000 in
theorem ggX11_tenant_X11_owner : GoodIn wsX11_tenant wsX11_owner := goodIn_r _ [13, 14, 15, 16, 17, 8, 18, 19, 20, 21, 22, 23, 24, 25, 26, 27, 28, 29, 30, 31, 32, 33, 34, 35, 36, 37, 38, 39, 40, 41, 42, 43, 44, 45, 46, 47, 48, 49, 50, 51, 52, 53, 54, 55, 56, 57, 58, 59, 60, 61, 62, 63, 64, 65, 66, 67, 68, 69, 70] (by decide +kernel) (by decide +kernel)
set_option maxRecDepth 20000 in
theorem gX11_tenant_X11_owner : GoodIn wsX11_tenant (wsV RX11 143 RX11 yX11_owner wsX11_owner) := goodIn_app (goodIn_of _ (by decide +kernel)) ggX11_tenant_X11_owner
theorem dX11_tenant_0 : decode cX11_tenant 0 = .ok (.iconst (-1), 1) := by decide +kernel
theorem dX11_tenant_1 : decode cX11_tenant 1 = .ok (.istore_n 2, 1) := by decide +kernel
theorem dX11_tenant_2 : decode cX11_tenant 2 = .ok (.iconst 0, 1) := by decide +kernel
theorem dX11_tenant_3 : decode cX11_tenant 3 = .ok (.istore_n 3, 1) := by decide +kernel
theorem dX11_tenant_4 : decode cX11_tenant 4 = .ok (.iconst 0, 1) := by decide +kernel
theorem dX11_tenant_5 : decode cX11_tenant 5 = .ok (.istore 4, 2) := by decide +kernel
theorem dX11_tenant_7 : decode cX11_tenant 7 = .ok (.iconst 0, 1) := by decide +kernel
theorem dX11_tenant_8 : decode cX11_tenant 8 = .ok (.istore 5, 2) := by decide +kernel
theorem dX11_tenant_10 : decode cX11_tenant 10 = .ok (.iload 5, 2) := by decide +kernel
theorem dX11_tenant_12 : decode cX11_tenant 12 = .ok (.aload_n 0, 1) := by decide +kernel
theorem dX11_tenant_13 : decode cX11_tenant 13 = .ok (.getfield 257, 3) := by decide +kernel
theorem dX11_tenant_16 : decode cX11_tenant 16 = .ok (.if_icmp .ge 94, 3) := by decide +kernel
theorem dX11_tenant_19 : decode cX11_tenant 19 = .ok (.aload_n 0, 1) := by decide +kernel
theorem dX11_tenant_20 : decode cX11_tenant 20 = .ok (.getfield 67, 3) := by decide +kernel
theorem dX11_tenant_23 : decode cX11_tenant 23 = .ok (.iload 5, 2) := by decide +kernel
theorem dX11_tenant_25 : decode cX11_tenant 25 = .ok (.iaload, 1) := by decide +kernel
theorem dX11_tenant_26 : decode cX11_tenant 26 = .ok (.invokestatic 260, 3) := by decide +kernel
theorem dX11_tenant_29 : decode cX11_tenant 29 = .ok (.istore 6, 2) := by decide +kernel
theorem dX11_tenant_31 : decode cX11_tenant 31 = .ok (.aload_n 0, 1) := by decide +kernel
theorem dX11_tenant_32 : decode cX11_tenant 32 = .ok (.getfield 61, 3) := by decide +kernel
theorem dX11_tenant_35 : decode cX11_tenant 35 = .ok (.iload 5, 2) := by decide +kernel
theorem dX11_tenant_37 : decode cX11_tenant 37 = .ok (.iaload, 1) := by decide +kernel
theorem dX11_tenant_38 : decode cX11_tenant 38 = .ok (.iload_n 1, 1) := by decide +kernel
theorem dX11_tenant_39 : decode cX11_tenant 39 = .ok (.if_icmp .ne 65, 3) := by decide +kernel
theorem dX11_tenant_42 : decode cX11_tenant 42 = .ok (.aload_n 0, 1) := by decide +kernel
theorem dX11_tenant_43 : decode cX11_tenant 43 = .ok (.getfield 64, 3) := by decide +kernel
theorem dX11_tenant_46 : decode cX11_tenant 46 = .ok (.iload 5, 2) := by decide +kernel
theorem dX11_tenant_48 : decode cX11_tenant 48 = .ok (.iaload, 1) := by decide +kernel
theorem dX11_tenant_49 : decode cX11_tenant 49 = .ok (.aload_n 0, 1) := by decide +kernel
theorem dX11_tenant_50 : decode cX11_tenant 50 = .ok (.iload_n 1, 1) := by decide +kernel
theorem dX11_tenant_51 : decode cX11_tenant 51 = .ok (.invokevirtual 143, 3) := by decide +kernel
theorem dX11_tenant_54 : decode cX11_tenant 54 = .ok (.if_icmp .eq 50, 3) := by decide +kernel
theorem dX11_tenant_57 : decode cX11_tenant 57 = .ok (.iload 6, 2) := by decide +kernel
theorem dX11_tenant_59 : decode cX11_tenant 59 = .ok (.aload_n 0, 1) := by decide +kernel
theorem dX11_tenant_60 : decode cX11_tenant 60 = .ok (.getfield 44, 3) := by decide +kernel
theorem dX11_tenant_63 : decode cX11_tenant 63 = .ok (.iconst 5, 1) := by decide +kernel
theorem dX11_tenant_64 : decode cX11_tenant 64 = .ok (.iaload, 1) := by decide +kernel
theorem dX11_tenant_65 : decode cX11_tenant 65 = .ok (.if_icmp .lt 39, 3) := by decide +kernel
theorem dX11_tenant_68 : decode cX11_tenant 68 = .ok (.iload 6, 2) := by decide +kernel
theorem dX11_tenant_70 : decode cX11_tenant 70 = .ok (.iload_n 3, 1) := by decide +kernel
theorem dX11_tenant_71 : decode cX11_tenant 71 = .ok (.if_icmp .ge 6, 3) := by decide +kernel
theorem dX11_tenant_74 : decode cX11_tenant 74 = .ok (.goto 30, 3) := by decide +kernel
theorem dX11_tenant_77 : decode cX11_tenant 77 = .ok (.iload 6, 2) := by decide +kernel
theorem dX11_tenant_79 : decode cX11_tenant 79 = .ok (.iload_n 3, 1) := by decide +kernel
theorem dX11_tenant_80 : decode cX11_tenant 80 = .ok (.if_icmp .ne 10, 3) := by decide +kernel
theorem dX11_tenant_83 : decode cX11_tenant 83 = .ok (.iload 4, 2) := by decide +kernel
theorem dX11_tenant_85 : decode cX11_tenant 85 = .ok (.iconst 1, 1) := by decide +kernel
theorem dX11_tenant_86 : decode cX11_tenant 86 = .ok (.iadd, 1) := by decide +kernel
theorem dX11_tenant_87 : decode cX11_tenant 87 = .ok (.goto 4, 3) := by decide +kernel
theorem dX11_tenant_90 : decode cX11_tenant 90 = .ok (.iconst 1, 1) := by decide +kernel
theorem dX11_tenant_91 : decode cX11_tenant 91 = .ok (.istore 4, 2) := by decide +kernel
theorem dX11_tenant_93 : decode cX11_tenant 93 = .ok (.aload_n 0, 1) := by decide +kernel
theorem dX11_tenant_94 : decode cX11_tenant 94 = .ok (.getfield 64, 3) := by decide +kernel
theorem dX11_tenant_97 : decode cX11_tenant 97 = .ok (.iload 5, 2) := by decide +kernel
theorem dX11_tenant_99 : decode cX11_tenant 99 = .ok (.iaload, 1) := by decide +kernel
theorem dX11_tenant_100 : decode cX11_tenant 100 = .ok (.istore_n 2, 1) := by decide +kernel
theorem dX11_tenant_101 : decode cX11_tenant 101 = .ok (.iload 6, 2) := by decide +kernel
theorem dX11_tenant_103 : decode cX11_tenant 103 = .ok (.istore_n 3, 1) := by decide +kernel
theorem dX11_tenant_104 : decode cX11_tenant 104 = .ok (.iinc 5 1, 3) := by decide +kernel
theorem dX11_tenant_107 : decode cX11_tenant 107 = .ok (.goto (-97), 3) := by decide +kernel
theorem dX11_tenant_110 : decode cX11_tenant 110 = .ok (.iload 4, 2) := by decide +kernel
theorem dX11_tenant_112 : decode cX11_tenant 112 = .ok (.iconst 1, 1) := by decide +kernel
theorem dX11_tenant_113 : decode cX11_tenant 113 = .ok (.if_icmp .ne 7, 3) := by decide +kernel
theorem dX11_tenant_116 : decode cX11_tenant 116 = .ok (.iload_n 2, 1) := by decide +kernel
theorem dX11_tenant_117 : decode cX11_tenant 117 = .ok (.goto 4, 3) := by decide +kernel
theorem dX11_tenant_120 : decode cX11_tenant 120 = .ok (.iconst (-1), 1) := by decide +kernel
theorem dX11_tenant_121 : decode cX11_tenant 121 = .ok (.ireturn, 1) := by decide +kernel
set_option maxRecDepth 20000 in
theorem ggX11_given_X11_isIn : GoodIn wsX11_given wsX11_isIn := goodIn_r _ [14] (by decide +kernel) (by decide +kernel)
set_option maxRecDepth 20000 in
theorem gX11_given_X11_isIn : GoodIn wsX11_given (va_wsS RX11 116 yX11_isIn wsX11_isIn) := goodIn_app (goodIn_of _ (by decide +kernel)) ggX11_given_X11_isIn
theorem dX11_given_0 : decode cX11_given 0 = .ok (.iload_n 3, 1) := by decide +kernel
theorem dX11_given_1 : decode cX11_given 1 = .ok (.iconst 1, 1) := by decide +kernel
theorem dX11_given_2 : decode cX11_given 2 = .ok (.iconst 5, 1) := by decide +kernel
theorem dX11_given_3 : decode cX11_given 3 = .ok (.invokestatic 116, 3) := by decide +kernel
theorem dX11_given_6 : decode cX11_given 6 = .ok (.ifCond .eq 43, 3) := by decide +kernel
theorem dX11_given_9 : decode cX11_given 9 = .ok (.iload_n 1, 1) := by decide +kernel
theorem dX11_given_10 : decode cX11_given 10 = .ok (.iconst 0, 1) := by decide +kernel
theorem dX11_given_11 : decode cX11_given 11 = .ok (.aload_n 0, 1) := by decide +kernel
theorem dX11_given_12 : decode cX11_given 12 = .ok (.getfield 120, 3) := by decide +kernel
theorem dX11_given_15 : decode cX11_given 15 = .ok (.iload_n 3, 1) := by decide +kernel
theorem dX11_given_16 : decode cX11_given 16 = .ok (.isub, 1) := by decide +kernel
theorem dX11_given_17 : decode cX11_given 17 = .ok (.invokestatic 116, 3) := by decide +kernel
theorem dX11_given_20 : decode cX11_given 20 = .ok (.ifCond .eq 29, 3) := by decide +kernel
theorem dX11_given_23 : decode cX11_given 23 = .ok (.iload_n 2, 1) := by decide +kernel
theorem dX11_given_24 : decode cX11_given 24 = .ok (.iconst 0, 1) := by decide +kernel
theorem dX11_given_25 : decode cX11_given 25 = .ok (.aload_n 0, 1) := by decide +kernel
theorem dX11_given_26 : decode cX11_given 26 = .ok (.getfield 113, 3) := by decide +kernel
theorem dX11_given_29 : decode cX11_given 29 = .ok (.iload_n 3, 1) := by decide +kernel
theorem dX11_given_30 : decode cX11_given 30 = .ok (.isub, 1) := by decide +kernel
theorem dX11_given_31 : decode cX11_given 31 = .ok (.invokestatic 116, 3) := by decide +kernel
theorem dX11_given_34 : decode cX11_given 34 = .ok (.ifCond .eq 15, 3) := by decide +kernel
theorem dX11_given_37 : decode cX11_given 37 = .ok (.iload 4, 2) := by decide +kernel
theorem dX11_given_39 : decode cX11_given 39 = .ok (.iconst (-1), 1) := by decide +kernel
theorem dX11_given_40 : decode cX11_given 40 = .ok (.iload_n 3, 1) := by decide +kernel
theorem dX11_given_41 : decode cX11_given 41 = .ok (.iconst 1, 1) := by decide +kernel
theorem dX11_given_42 : decode cX11_given 42 = .ok (.isub, 1) := by decide +kernel
theorem dX11_given_43 : decode cX11_given 43 = .ok (.invokestatic 116, 3) := by decide +kernel
theorem dX11_given_46 : decode cX11_given 46 = .ok (.ifCond .ne 5, 3) := by decide +kernel
theorem dX11_given_49 : decode cX11_given 49 = .ok (.iconst (-1), 1) := by decide +kernel
theorem dX11_given_50 : decode cX11_given 50 = .ok (.ireturn, 1) := by decide +kernel
theorem dX11_given_51 : decode cX11_given 51 = .ok (.iconst 1, 1) := by decide +kernel
theorem dX11_given_52 : decode cX11_given 52 = .ok (.istore 5, 2) := by decide +kernel
theorem dX11_given_54 : decode cX11_given 54 = .ok (.iconst 0, 1) := by decide +kernel
theorem dX11_given_55 : decode cX11_given 55 = .ok (.istore 6, 2) := by decide +kernel
theorem dX11_given_57 : decode cX11_given 57 = .ok (.iload 6, 2) := by decide +kernel
theorem dX11_given_59 : decode cX11_given 59 = .ok (.iload_n 3, 1) := by decide +kernel
theorem dX11_given_60 : decode cX11_given 60 = .ok (.if_icmp .ge 15, 3) := by decide +kernel
theorem dX11_given_63 : decode cX11_given 63 = .ok (.iload 5, 2) := by decide +kernel
theorem dX11_given_65 : decode cX11_given 65 = .ok (.iload_n 3, 1) := by decide +kernel
theorem dX11_given_66 : decode cX11_given 66 = .ok (.imul, 1) := by decide +kernel
theorem dX11_given_67 : decode cX11_given 67 = .ok (.istore 5, 2) := by decide +kernel
theorem dX11_given_69 : decode cX11_given 69 = .ok (.iinc 6 1, 3) := by decide +kernel
theorem dX11_given_72 : decode cX11_given 72 = .ok (.goto (-15), 3) := by decide +kernel
theorem dX11_given_75 : decode cX11_given 75 = .ok (.iconst (-1), 1) := by decide +kernel
theorem dX11_given_76 : decode cX11_given 76 = .ok (.istore 6, 2) := by decide +kernel
theorem dX11_given_78 : decode cX11_given 78 = .ok (.iconst 0, 1) := by decide +kernel
theorem dX11_given_79 : decode cX11_given 79 = .ok (.istore 7, 2) := by decide +kernel
theorem dX11_given_81 : decode cX11_given 81 = .ok (.iload 7, 2) := by decide +kernel
theorem dX11_given_83 : decode cX11_given 83 = .ok (.iload 5, 2) := by decide +kernel
theorem dX11_given_85 : decode cX11_given 85 = .ok (.if_icmp .ge 159, 3) := by decide +kernel
theorem dX11_given_88 : decode cX11_given 88 = .ok (.iload 7, 2) := by decide +kernel
theorem dX11_given_90 : decode cX11_given 90 = .ok (.istore 8, 2) := by decide +kernel
theorem dX11_given_92 : decode cX11_given 92 = .ok (.iconst 0, 1) := by decide +kernel
theorem dX11_given_93 : decode cX11_given 93 = .ok (.istore 9, 2) := by decide +kernel
theorem dX11_given_95 : decode cX11_given 95 = .ok (.iconst 0, 1) := by decide +kernel
theorem dX11_given_96 : decode cX11_given 96 = .ok (.istore 10, 2) := by decide +kernel
theorem dX11_given_98 : decode cX11_given 98 = .ok (.iload_n 3, 1) := by decide +kernel
theorem dX11_given_99 : decode cX11_given 99 = .ok (.iconst 1, 1) := by decide +kernel
theorem dX11_given_100 : decode cX11_given 100 = .ok (.isub, 1) := by decide +kernel
theorem dX11_given_101 : decode cX11_given 101 = .ok (.istore 11, 2) := by decide +kernel
theorem dX11_given_103 : decode cX11_given 103 = .ok (.iload 11, 2) := by decide +kernel
theorem dX11_given_105 : decode cX11_given 105 = .ok (.ifCond .lt 74, 3) := by decide +kernel
theorem dX11_given_108 : decode cX11_given 108 = .ok (.aload_n 0, 1) := by decide +kernel
theorem dX11_given_109 : decode cX11_given 109 = .ok (.getfield 70, 3) := by decide +kernel
theorem dX11_given_112 : decode cX11_given 112 = .ok (.iload 11, 2) := by decide +kernel
theorem dX11_given_114 : decode cX11_given 114 = .ok (.iload_n 2, 1) := by decide +kernel
theorem dX11_given_115 : decode cX11_given 115 = .ok (.iload 8, 2) := by decide +kernel
theorem dX11_given_117 : decode cX11_given 117 = .ok (.iload_n 3, 1) := by decide +kernel
theorem dX11_given_118 : decode cX11_given 118 = .ok (.irem, 1) := by decide +kernel
theorem dX11_given_119 : decode cX11_given 119 = .ok (.iadd, 1) := by decide +kernel
theorem dX11_given_120 : decode cX11_given 120 = .ok (.iastore, 1) := by decide +kernel
theorem dX11_given_121 : decode cX11_given 121 = .ok (.iload 8, 2) := by decide +kernel
theorem dX11_given_123 : decode cX11_given 123 = .ok (.iload_n 3, 1) := by decide +kernel
theorem dX11_given_124 : decode cX11_given 124 = .ok (.idiv, 1) := by decide +kernel
theorem dX11_given_125 : decode cX11_given 125 = .ok (.istore 8, 2) := by decide +kernel
theorem dX11_given_127 : decode cX11_given 127 = .ok (.iload 9, 2) := by decide +kernel
theorem dX11_given_129 : decode cX11_given 129 = .ok (.iconst 1, 1) := by decide +kernel
theorem dX11_given_130 : decode cX11_given 130 = .ok (.aload_n 0, 1) := by decide +kernel
theorem dX11_given_131 : decode cX11_given 131 = .ok (.getfield 70, 3) := by decide +kernel
theorem dX11_given_134 : decode cX11_given 134 = .ok (.iload 11, 2) := by decide +kernel
theorem dX11_given_136 : decode cX11_given 136 = .ok (.iaload, 1) := by decide +kernel
theorem dX11_given_137 : decode cX11_given 137 = .ok (.iload_n 2, 1) := by decide +kernel
theorem dX11_given_138 : decode cX11_given 138 = .ok (.isub, 1) := by decide +kernel
theorem dX11_given_139 : decode cX11_given 139 = .ok (.ishl, 1) := by decide +kernel
theorem dX11_given_140 : decode cX11_given 140 = .ok (.ior, 1) := by decide +kernel
theorem dX11_given_141 : decode cX11_given 141 = .ok (.istore 9, 2) := by decide +kernel
theorem dX11_given_143 : decode cX11_given 143 = .ok (.iload 10, 2) := by decide +kernel
theorem dX11_given_145 : decode cX11_given 145 = .ok (.aload_n 0, 1) := by decide +kernel
theorem dX11_given_146 : decode cX11_given 146 = .ok (.getfield 13, 3) := by decide +kernel
theorem dX11_given_149 : decode cX11_given 149 = .ok (.aload_n 0, 1) := by decide +kernel
theorem dX11_given_150 : decode cX11_given 150 = .ok (.getfield 70, 3) := by decide +kernel
theorem dX11_given_153 : decode cX11_given 153 = .ok (.iload 11, 2) := by decide +kernel
theorem dX11_given_155 : decode cX11_given 155 = .ok (.iaload, 1) := by decide +kernel
theorem dX11_given_156 : decode cX11_given 156 = .ok (.iaload, 1) := by decide +kernel
theorem dX11_given_157 : decode cX11_given 157 = .ok (.aload_n 0, 1) := by decide +kernel
theorem dX11_given_158 : decode cX11_given 158 = .ok (.getfield 20, 3) := by decide +kernel
theorem dX11_given_161 : decode cX11_given 161 = .ok (.iload_n 1, 1) := by decide +kernel
theorem dX11_given_162 : decode cX11_given 162 = .ok (.iload 11, 2) := by decide +kernel
theorem dX11_given_164 : decode cX11_given 164 = .ok (.iadd, 1) := by decide +kernel
theorem dX11_given_165 : decode cX11_given 165 = .ok (.iaload, 1) := by decide +kernel
theorem dX11_given_166 : decode cX11_given 166 = .ok (.isub, 1) := by decide +kernel
theorem dX11_given_167 : decode cX11_given 167 = .ok (.invokestatic 263, 3) := by decide +kernel
theorem dX11_given_170 : decode cX11_given 170 = .ok (.iadd, 1) := by decide +kernel
theorem dX11_given_171 : decode cX11_given 171 = .ok (.istore 10, 2) := by decide +kernel
theorem dX11_given_173 : decode cX11_given 173 = .ok (.iinc 11 (-1), 3) := by decide +kernel
theorem dX11_given_176 : decode cX11_given 176 = .ok (.goto (-73), 3) := by decide +kernel
theorem dX11_given_179 : decode cX11_given 179 = .ok (.iload 9, 2) := by decide +kernel
theorem dX11_given_181 : decode cX11_given 181 = .ok (.iconst 1, 1) := by decide +kernel
theorem dX11_given_182 : decode cX11_given 182 = .ok (.iload_n 3, 1) := by decide +kernel
theorem dX11_given_183 : decode cX11_given 183 = .ok (.ishl, 1) := by decide +kernel
theorem dX11_given_184 : decode cX11_given 184 = .ok (.iconst 1, 1) := by decide +kernel
theorem dX11_given_185 : decode cX11_given 185 = .ok (.isub, 1) := by decide +kernel
theorem dX11_given_186 : decode cX11_given 186 = .ok (.if_icmp .ne 52, 3) := by decide +kernel
theorem dX11_given_189 : decode cX11_given 189 = .ok (.iload 6, 2) := by decide +kernel
theorem dX11_given_191 : decode cX11_given 191 = .ok (.iconst (-1), 1) := by decide +kernel
theorem dX11_given_192 : decode cX11_given 192 = .ok (.if_icmp .eq 13, 3) := by decide +kernel
theorem dX11_given_195 : decode cX11_given 195 = .ok (.iload 10, 2) := by decide +kernel
theorem dX11_given_197 : decode cX11_given 197 = .ok (.iload 6, 2) := by decide +kernel
theorem dX11_given_199 : decode cX11_given 199 = .ok (.if_icmp .lt 6, 3) := by decide +kernel
theorem dX11_given_202 : decode cX11_given 202 = .ok (.goto 36, 3) := by decide +kernel
theorem dX11_given_205 : decode cX11_given 205 = .ok (.iload 10, 2) := by decide +kernel
theorem dX11_given_207 : decode cX11_given 207 = .ok (.istore 6, 2) := by decide +kernel
theorem dX11_given_209 : decode cX11_given 209 = .ok (.iconst 0, 1) := by decide +kernel
theorem dX11_given_210 : decode cX11_given 210 = .ok (.istore 11, 2) := by decide +kernel
theorem dX11_given_212 : decode cX11_given 212 = .ok (.iload 11, 2) := by decide +kernel
theorem dX11_given_214 : decode cX11_given 214 = .ok (.iload_n 3, 1) := by decide +kernel
theorem dX11_given_215 : decode cX11_given 215 = .ok (.if_icmp .ge 23, 3) := by decide +kernel
theorem dX11_given_218 : decode cX11_given 218 = .ok (.aload_n 0, 1) := by decide +kernel
theorem dX11_given_219 : decode cX11_given 219 = .ok (.getfield 73, 3) := by decide +kernel
theorem dX11_given_222 : decode cX11_given 222 = .ok (.iload 11, 2) := by decide +kernel
theorem dX11_given_224 : decode cX11_given 224 = .ok (.aload_n 0, 1) := by decide +kernel
theorem dX11_given_225 : decode cX11_given 225 = .ok (.getfield 70, 3) := by decide +kernel
theorem dX11_given_228 : decode cX11_given 228 = .ok (.iload 11, 2) := by decide +kernel
theorem dX11_given_230 : decode cX11_given 230 = .ok (.iaload, 1) := by decide +kernel
theorem dX11_given_231 : decode cX11_given 231 = .ok (.iastore, 1) := by decide +kernel
theorem dX11_given_232 : decode cX11_given 232 = .ok (.iinc 11 1, 3) := by decide +kernel
theorem dX11_given_235 : decode cX11_given 235 = .ok (.goto (-23), 3) := by decide +kernel
theorem dX11_given_238 : decode cX11_given 238 = .ok (.iinc 7 1, 3) := by decide +kernel
theorem dX11_given_241 : decode cX11_given 241 = .ok (.goto (-160), 3) := by decide +kernel
theorem dX11_given_244 : decode cX11_given 244 = .ok (.iload 4, 2) := by decide +kernel
theorem dX11_given_246 : decode cX11_given 246 = .ok (.iconst (-1), 1) := by decide +kernel
theorem dX11_given_247 : decode cX11_given 247 = .ok (.if_icmp .ne 8, 3) := by decide +kernel
theorem dX11_given_250 : decode cX11_given 250 = .ok (.iload 6, 2) := by decide +kernel
theorem dX11_given_252 : decode cX11_given 252 = .ok (.goto 10, 3) := by decide +kernel
theorem dX11_given_255 : decode cX11_given 255 = .ok (.aload_n 0, 1) := by decide +kernel
theorem dX11_given_256 : decode cX11_given 256 = .ok (.getfield 73, 3) := by decide +kernel
theorem dX11_given_259 : decode cX11_given 259 = .ok (.iload 4, 2) := by decide +kernel
theorem dX11_given_261 : decode cX11_given 261 = .ok (.iaload, 1) := by decide +kernel
theorem dX11_given_262 : decode cX11_given 262 = .ok (.ireturn, 1) := by decide +kernel
set_option maxRecDepth 20000 in
theorem ggX11_firstOf_X11_owner : GoodIn wsX11_firstOf wsX11_owner := goodIn_r _ [6, 7, 8, 9, 10, 5, 11, 12, 13, 14, 15, 16, 17, 18, 19, 20, 21, 22, 23, 24, 25, 26, 27, 28, 29, 30, 31, 32, 33, 34, 35, 36, 37, 38, 39, 40, 41, 42, 43, 44, 45, 46, 47, 48, 49, 50, 51, 52, 53, 54, 55, 56, 57, 58, 59, 60, 61, 62, 63] (by decide +kernel) (by decide +kernel)
set_option maxRecDepth 20000 in
theorem gX11_firstOf_X11_owner : GoodIn wsX11_firstOf (wsV RX11 143 RX11 yX11_owner wsX11_owner) := goodIn_app (goodIn_of _ (by decide +kernel)) ggX11_firstOf_X11_owner
theorem dX11_firstOf_0 : decode cX11_firstOf 0 = .ok (.iconst 0, 1) := by decide +kernel
theorem dX11_firstOf_1 : decode cX11_firstOf 1 = .ok (.istore_n 2, 1) := by decide +kernel
theorem dX11_firstOf_2 : decode cX11_firstOf 2 = .ok (.iload_n 2, 1) := by decide +kernel
theorem dX11_firstOf_3 : decode cX11_firstOf 3 = .ok (.aload_n 0, 1) := by decide +kernel
theorem dX11_firstOf_4 : decode cX11_firstOf 4 = .ok (.getfield 120, 3) := by decide +kernel
theorem dX11_firstOf_7 : decode cX11_firstOf 7 = .ok (.if_icmp .ge 20, 3) := by decide +kernel
theorem dX11_firstOf_10 : decode cX11_firstOf 10 = .ok (.aload_n 0, 1) := by decide +kernel
theorem dX11_firstOf_11 : decode cX11_firstOf 11 = .ok (.iload_n 2, 1) := by decide +kernel
theorem dX11_firstOf_12 : decode cX11_firstOf 12 = .ok (.invokevirtual 143, 3) := by decide +kernel
theorem dX11_firstOf_15 : decode cX11_firstOf 15 = .ok (.iload_n 1, 1) := by decide +kernel
theorem dX11_firstOf_16 : decode cX11_firstOf 16 = .ok (.if_icmp .ne 5, 3) := by decide +kernel
theorem dX11_firstOf_19 : decode cX11_firstOf 19 = .ok (.iload_n 2, 1) := by decide +kernel
theorem dX11_firstOf_20 : decode cX11_firstOf 20 = .ok (.ireturn, 1) := by decide +kernel
theorem dX11_firstOf_21 : decode cX11_firstOf 21 = .ok (.iinc 2 1, 3) := by decide +kernel
theorem dX11_firstOf_24 : decode cX11_firstOf 24 = .ok (.goto (-22), 3) := by decide +kernel
theorem dX11_firstOf_27 : decode cX11_firstOf 27 = .ok (.iconst (-1), 1) := by decide +kernel
theorem dX11_firstOf_28 : decode cX11_firstOf 28 = .ok (.ireturn, 1) := by decide +kernel
set_option maxRecDepth 20000 in
theorem ggX11_turns_X11_firstOf : GoodIn wsX11_turns wsX11_firstOf := goodIn_r _ [9, 10, 11, 12, 13, 8, 14, 15, 16, 17, 18, 19, 20, 21, 22, 23, 24, 34, 35, 36, 37, 38, 39, 40, 41, 42, 43, 44, 45, 46, 47, 48, 49, 50, 51, 52, 53, 54, 55, 56, 57, 58, 59, 60, 61, 62, 63, 64, 65, 66, 67, 68, 69, 70, 71, 72, 73, 74, 75, 76, 77, 78, 79, 80] (by decide +kernel) (by decide +kernel)
set_option maxRecDepth 20000 in
theorem gX11_turns_X11_firstOf : GoodIn wsX11_turns (wsV RX11 266 RX11 yX11_firstOf wsX11_firstOf) := goodIn_app (goodIn_of _ (by decide +kernel)) ggX11_turns_X11_firstOf
set_option maxRecDepth 20000 in
theorem ggX11_turns_X11_wanted : GoodIn wsX11_turns wsX11_wanted := goodIn_r _ [28, 2, 29, 1, 30, 31, 32, 33, 34, 35, 36, 37, 38, 39, 40, 41, 42, 43, 44, 45, 46, 47, 48, 49, 50, 51, 52, 53, 54, 55, 56, 57, 58, 59, 60, 61, 62, 63, 64, 65, 66, 67, 68, 69, 70, 71, 72, 73, 74, 75, 76, 77, 78, 79, 80] (by decide +kernel) (by decide +kernel)
set_option maxRecDepth 20000 in
theorem gX11_turns_X11_wanted : GoodIn wsX11_turns (wsV RX11 269 RX11 yX11_wanted wsX11_wanted) := goodIn_app (goodIn_of _ (by decide +kernel)) ggX11_turns_X11_wanted
theorem dX11_turns_0 : decode cX11_turns 0 = .ok (.iconst 0, 1) := by decide +kernel
theorem dX11_turns_1 : decode cX11_turns 1 = .ok (.istore_n 3, 1) := by decide +kernel
theorem dX11_turns_2 : decode cX11_turns 2 = .ok (.iload_n 3, 1) := by decide +kernel
theorem dX11_turns_3 : decode cX11_turns 3 = .ok (.iload_n 2, 1) := by decide +kernel
theorem dX11_turns_4 : decode cX11_turns 4 = .ok (.if_icmp .ge 41, 3) := by decide +kernel
theorem dX11_turns_7 : decode cX11_turns 7 = .ok (.aload_n 0, 1) := by decide +kernel
theorem dX11_turns_8 : decode cX11_turns 8 = .ok (.getfield 76, 3) := by decide +kernel
theorem dX11_turns_11 : decode cX11_turns 11 = .ok (.iload_n 3, 1) := by decide +kernel
theorem dX11_turns_12 : decode cX11_turns 12 = .ok (.aload_n 0, 1) := by decide +kernel
theorem dX11_turns_13 : decode cX11_turns 13 = .ok (.iload_n 1, 1) := by decide +kernel
theorem dX11_turns_14 : decode cX11_turns 14 = .ok (.iload_n 3, 1) := by decide +kernel
theorem dX11_turns_15 : decode cX11_turns 15 = .ok (.iadd, 1) := by decide +kernel
theorem dX11_turns_16 : decode cX11_turns 16 = .ok (.invokevirtual 266, 3) := by decide +kernel
theorem dX11_turns_19 : decode cX11_turns 19 = .ok (.iastore, 1) := by decide +kernel
theorem dX11_turns_20 : decode cX11_turns 20 = .ok (.aload_n 0, 1) := by decide +kernel
theorem dX11_turns_21 : decode cX11_turns 21 = .ok (.getfield 79, 3) := by decide +kernel
theorem dX11_turns_24 : decode cX11_turns 24 = .ok (.iload_n 3, 1) := by decide +kernel
theorem dX11_turns_25 : decode cX11_turns 25 = .ok (.iconst (-1), 1) := by decide +kernel
theorem dX11_turns_26 : decode cX11_turns 26 = .ok (.iastore, 1) := by decide +kernel
theorem dX11_turns_27 : decode cX11_turns 27 = .ok (.aload_n 0, 1) := by decide +kernel
theorem dX11_turns_28 : decode cX11_turns 28 = .ok (.getfield 76, 3) := by decide +kernel
theorem dX11_turns_31 : decode cX11_turns 31 = .ok (.iload_n 3, 1) := by decide +kernel
theorem dX11_turns_32 : decode cX11_turns 32 = .ok (.iaload, 1) := by decide +kernel
theorem dX11_turns_33 : decode cX11_turns 33 = .ok (.iconst (-1), 1) := by decide +kernel
theorem dX11_turns_34 : decode cX11_turns 34 = .ok (.if_icmp .ne 5, 3) := by decide +kernel
theorem dX11_turns_37 : decode cX11_turns 37 = .ok (.iconst (-1), 1) := by decide +kernel
theorem dX11_turns_38 : decode cX11_turns 38 = .ok (.ireturn, 1) := by decide +kernel
theorem dX11_turns_39 : decode cX11_turns 39 = .ok (.iinc 3 1, 3) := by decide +kernel
theorem dX11_turns_42 : decode cX11_turns 42 = .ok (.goto (-40), 3) := by decide +kernel
theorem dX11_turns_45 : decode cX11_turns 45 = .ok (.iconst 0, 1) := by decide +kernel
theorem dX11_turns_46 : decode cX11_turns 46 = .ok (.istore_n 3, 1) := by decide +kernel
theorem dX11_turns_47 : decode cX11_turns 47 = .ok (.iload_n 2, 1) := by decide +kernel
theorem dX11_turns_48 : decode cX11_turns 48 = .ok (.istore 4, 2) := by decide +kernel
theorem dX11_turns_50 : decode cX11_turns 50 = .ok (.iload 4, 2) := by decide +kernel
theorem dX11_turns_52 : decode cX11_turns 52 = .ok (.ifCond .le 146, 3) := by decide +kernel
theorem dX11_turns_55 : decode cX11_turns 55 = .ok (.iconst 0, 1) := by decide +kernel
theorem dX11_turns_56 : decode cX11_turns 56 = .ok (.istore 5, 2) := by decide +kernel
theorem dX11_turns_58 : decode cX11_turns 58 = .ok (.iload 5, 2) := by decide +kernel
theorem dX11_turns_60 : decode cX11_turns 60 = .ok (.iload_n 2, 1) := by decide +kernel
theorem dX11_turns_61 : decode cX11_turns 61 = .ok (.if_icmp .ge 45, 3) := by decide +kernel
theorem dX11_turns_64 : decode cX11_turns 64 = .ok (.aload_n 0, 1) := by decide +kernel
theorem dX11_turns_65 : decode cX11_turns 65 = .ok (.getfield 82, 3) := by decide +kernel
theorem dX11_turns_68 : decode cX11_turns 68 = .ok (.iload 5, 2) := by decide +kernel
theorem dX11_turns_70 : decode cX11_turns 70 = .ok (.aload_n 0, 1) := by decide +kernel
theorem dX11_turns_71 : decode cX11_turns 71 = .ok (.getfield 79, 3) := by decide +kernel
theorem dX11_turns_74 : decode cX11_turns 74 = .ok (.iload 5, 2) := by decide +kernel
theorem dX11_turns_76 : decode cX11_turns 76 = .ok (.iaload, 1) := by decide +kernel
theorem dX11_turns_77 : decode cX11_turns 77 = .ok (.iconst (-1), 1) := by decide +kernel
theorem dX11_turns_78 : decode cX11_turns 78 = .ok (.if_icmp .ne 20, 3) := by decide +kernel
theorem dX11_turns_81 : decode cX11_turns 81 = .ok (.aload_n 0, 1) := by decide +kernel
theorem dX11_turns_82 : decode cX11_turns 82 = .ok (.aload_n 0, 1) := by decide +kernel
theorem dX11_turns_83 : decode cX11_turns 83 = .ok (.getfield 13, 3) := by decide +kernel
theorem dX11_turns_86 : decode cX11_turns 86 = .ok (.iload_n 1, 1) := by decide +kernel
theorem dX11_turns_87 : decode cX11_turns 87 = .ok (.iload 5, 2) := by decide +kernel
theorem dX11_turns_89 : decode cX11_turns 89 = .ok (.iadd, 1) := by decide +kernel
theorem dX11_turns_90 : decode cX11_turns 90 = .ok (.iaload, 1) := by decide +kernel
theorem dX11_turns_91 : decode cX11_turns 91 = .ok (.iload_n 2, 1) := by decide +kernel
theorem dX11_turns_92 : decode cX11_turns 92 = .ok (.invokevirtual 269, 3) := by decide +kernel
theorem dX11_turns_95 : decode cX11_turns 95 = .ok (.goto 4, 3) := by decide +kernel
theorem dX11_turns_98 : decode cX11_turns 98 = .ok (.iconst (-1), 1) := by decide +kernel
theorem dX11_turns_99 : decode cX11_turns 99 = .ok (.iastore, 1) := by decide +kernel
theorem dX11_turns_100 : decode cX11_turns 100 = .ok (.iinc 5 1, 3) := by decide +kernel
theorem dX11_turns_103 : decode cX11_turns 103 = .ok (.goto (-45), 3) := by decide +kernel
theorem dX11_turns_106 : decode cX11_turns 106 = .ok (.iconst 0, 1) := by decide +kernel
theorem dX11_turns_107 : decode cX11_turns 107 = .ok (.istore 5, 2) := by decide +kernel
theorem dX11_turns_109 : decode cX11_turns 109 = .ok (.aload_n 0, 1) := by decide +kernel
theorem dX11_turns_110 : decode cX11_turns 110 = .ok (.getfield 79, 3) := by decide +kernel
theorem dX11_turns_113 : decode cX11_turns 113 = .ok (.iload 5, 2) := by decide +kernel
theorem dX11_turns_115 : decode cX11_turns 115 = .ok (.iaload, 1) := by decide +kernel
theorem dX11_turns_116 : decode cX11_turns 116 = .ok (.iconst (-1), 1) := by decide +kernel
theorem dX11_turns_117 : decode cX11_turns 117 = .ok (.if_icmp .eq 9, 3) := by decide +kernel
theorem dX11_turns_120 : decode cX11_turns 120 = .ok (.iinc 5 1, 3) := by decide +kernel
theorem dX11_turns_123 : decode cX11_turns 123 = .ok (.goto (-14), 3) := by decide +kernel
theorem dX11_turns_126 : decode cX11_turns 126 = .ok (.iconst 0, 1) := by decide +kernel
theorem dX11_turns_127 : decode cX11_turns 127 = .ok (.istore 6, 2) := by decide +kernel
theorem dX11_turns_129 : decode cX11_turns 129 = .ok (.iload 6, 2) := by decide +kernel
theorem dX11_turns_131 : decode cX11_turns 131 = .ok (.iload_n 2, 1) := by decide +kernel
theorem dX11_turns_132 : decode cX11_turns 132 = .ok (.if_icmp .ge 18, 3) := by decide +kernel
theorem dX11_turns_135 : decode cX11_turns 135 = .ok (.aload_n 0, 1) := by decide +kernel
theorem dX11_turns_136 : decode cX11_turns 136 = .ok (.getfield 82, 3) := by decide +kernel
theorem dX11_turns_139 : decode cX11_turns 139 = .ok (.iload 5, 2) := by decide +kernel
theorem dX11_turns_141 : decode cX11_turns 141 = .ok (.iaload, 1) := by decide +kernel
theorem dX11_turns_142 : decode cX11_turns 142 = .ok (.istore 5, 2) := by decide +kernel
theorem dX11_turns_144 : decode cX11_turns 144 = .ok (.iinc 6 1, 3) := by decide +kernel
theorem dX11_turns_147 : decode cX11_turns 147 = .ok (.goto (-18), 3) := by decide +kernel
theorem dX11_turns_150 : decode cX11_turns 150 = .ok (.iload 5, 2) := by decide +kernel
theorem dX11_turns_152 : decode cX11_turns 152 = .ok (.istore 6, 2) := by decide +kernel
theorem dX11_turns_154 : decode cX11_turns 154 = .ok (.aload_n 0, 1) := by decide +kernel
theorem dX11_turns_155 : decode cX11_turns 155 = .ok (.getfield 79, 3) := by decide +kernel
theorem dX11_turns_158 : decode cX11_turns 158 = .ok (.iload 6, 2) := by decide +kernel
theorem dX11_turns_160 : decode cX11_turns 160 = .ok (.aload_n 0, 1) := by decide +kernel
theorem dX11_turns_161 : decode cX11_turns 161 = .ok (.getfield 76, 3) := by decide +kernel
theorem dX11_turns_164 : decode cX11_turns 164 = .ok (.aload_n 0, 1) := by decide +kernel
theorem dX11_turns_165 : decode cX11_turns 165 = .ok (.getfield 82, 3) := by decide +kernel
theorem dX11_turns_168 : decode cX11_turns 168 = .ok (.iload 6, 2) := by decide +kernel
theorem dX11_turns_170 : decode cX11_turns 170 = .ok (.iaload, 1) := by decide +kernel
theorem dX11_turns_171 : decode cX11_turns 171 = .ok (.iaload, 1) := by decide +kernel
theorem dX11_turns_172 : decode cX11_turns 172 = .ok (.iastore, 1) := by decide +kernel
theorem dX11_turns_173 : decode cX11_turns 173 = .ok (.iinc 4 (-1), 3) := by decide +kernel
theorem dX11_turns_176 : decode cX11_turns 176 = .ok (.aload_n 0, 1) := by decide +kernel
theorem dX11_turns_177 : decode cX11_turns 177 = .ok (.getfield 82, 3) := by decide +kernel
theorem dX11_turns_180 : decode cX11_turns 180 = .ok (.iload 6, 2) := by decide +kernel
theorem dX11_turns_182 : decode cX11_turns 182 = .ok (.iaload, 1) := by decide +kernel
theorem dX11_turns_183 : decode cX11_turns 183 = .ok (.istore 6, 2) := by decide +kernel
theorem dX11_turns_185 : decode cX11_turns 185 = .ok (.iload 6, 2) := by decide +kernel
theorem dX11_turns_187 : decode cX11_turns 187 = .ok (.iload 5, 2) := by decide +kernel
theorem dX11_turns_189 : decode cX11_turns 189 = .ok (.if_icmp .ne (-35), 3) := by decide +kernel
theorem dX11_turns_192 : decode cX11_turns 192 = .ok (.iinc 3 1, 3) := by decide +kernel
theorem dX11_turns_195 : decode cX11_turns 195 = .ok (.goto (-145), 3) := by decide +kernel
theorem dX11_turns_198 : decode cX11_turns 198 = .ok (.iload_n 3, 1) := by decide +kernel
theorem dX11_turns_199 : decode cX11_turns 199 = .ok (.ireturn, 1) := by decide +kernel
theorem dX11_wanted_0 : decode cX11_wanted 0 = .ok (.iconst (-1), 1) := by decide +kernel
theorem dX11_wanted_1 : decode cX11_wanted 1 = .ok (.istore_n 3, 1) := by decide +kernel
theorem dX11_wanted_2 : decode cX11_wanted 2 = .ok (.iconst 0, 1) := by decide +kernel
theorem dX11_wanted_3 : decode cX11_wanted 3 = .ok (.istore 4, 2) := by decide +kernel
theorem dX11_wanted_5 : decode cX11_wanted 5 = .ok (.iload 4, 2) := by decide +kernel
theorem dX11_wanted_7 : decode cX11_wanted 7 = .ok (.iload_n 2, 1) := by decide +kernel
theorem dX11_wanted_8 : decode cX11_wanted 8 = .ok (.if_icmp .ge 97, 3) := by decide +kernel
theorem dX11_wanted_11 : decode cX11_wanted 11 = .ok (.aload_n 0, 1) := by decide +kernel
theorem dX11_wanted_12 : decode cX11_wanted 12 = .ok (.getfield 79, 3) := by decide +kernel
theorem dX11_wanted_15 : decode cX11_wanted 15 = .ok (.iload 4, 2) := by decide +kernel
theorem dX11_wanted_17 : decode cX11_wanted 17 = .ok (.iaload, 1) := by decide +kernel
theorem dX11_wanted_18 : decode cX11_wanted 18 = .ok (.iconst (-1), 1) := by decide +kernel
theorem dX11_wanted_19 : decode cX11_wanted 19 = .ok (.if_icmp .eq 6, 3) := by decide +kernel
theorem dX11_wanted_22 : decode cX11_wanted 22 = .ok (.goto 77, 3) := by decide +kernel
theorem dX11_wanted_25 : decode cX11_wanted 25 = .ok (.iload_n 3, 1) := by decide +kernel
theorem dX11_wanted_26 : decode cX11_wanted 26 = .ok (.iconst (-1), 1) := by decide +kernel
theorem dX11_wanted_27 : decode cX11_wanted 27 = .ok (.if_icmp .ne 7, 3) := by decide +kernel
theorem dX11_wanted_30 : decode cX11_wanted 30 = .ok (.iconst (-1), 1) := by decide +kernel
theorem dX11_wanted_31 : decode cX11_wanted 31 = .ok (.goto 37, 3) := by decide +kernel
theorem dX11_wanted_34 : decode cX11_wanted 34 = .ok (.aload_n 0, 1) := by decide +kernel
theorem dX11_wanted_35 : decode cX11_wanted 35 = .ok (.getfield 20, 3) := by decide +kernel
theorem dX11_wanted_38 : decode cX11_wanted 38 = .ok (.aload_n 0, 1) := by decide +kernel
theorem dX11_wanted_39 : decode cX11_wanted 39 = .ok (.getfield 76, 3) := by decide +kernel
theorem dX11_wanted_42 : decode cX11_wanted 42 = .ok (.iload 4, 2) := by decide +kernel
theorem dX11_wanted_44 : decode cX11_wanted 44 = .ok (.iaload, 1) := by decide +kernel
theorem dX11_wanted_45 : decode cX11_wanted 45 = .ok (.iaload, 1) := by decide +kernel
theorem dX11_wanted_46 : decode cX11_wanted 46 = .ok (.iload_n 1, 1) := by decide +kernel
theorem dX11_wanted_47 : decode cX11_wanted 47 = .ok (.isub, 1) := by decide +kernel
theorem dX11_wanted_48 : decode cX11_wanted 48 = .ok (.invokestatic 263, 3) := by decide +kernel
theorem dX11_wanted_51 : decode cX11_wanted 51 = .ok (.aload_n 0, 1) := by decide +kernel
theorem dX11_wanted_52 : decode cX11_wanted 52 = .ok (.getfield 20, 3) := by decide +kernel
theorem dX11_wanted_55 : decode cX11_wanted 55 = .ok (.aload_n 0, 1) := by decide +kernel
theorem dX11_wanted_56 : decode cX11_wanted 56 = .ok (.getfield 76, 3) := by decide +kernel
theorem dX11_wanted_59 : decode cX11_wanted 59 = .ok (.iload_n 3, 1) := by decide +kernel
theorem dX11_wanted_60 : decode cX11_wanted 60 = .ok (.iaload, 1) := by decide +kernel
theorem dX11_wanted_61 : decode cX11_wanted 61 = .ok (.iaload, 1) := by decide +kernel
theorem dX11_wanted_62 : decode cX11_wanted 62 = .ok (.iload_n 1, 1) := by decide +kernel
theorem dX11_wanted_63 : decode cX11_wanted 63 = .ok (.isub, 1) := by decide +kernel
theorem dX11_wanted_64 : decode cX11_wanted 64 = .ok (.invokestatic 263, 3) := by decide +kernel
theorem dX11_wanted_67 : decode cX11_wanted 67 = .ok (.isub, 1) := by decide +kernel
theorem dX11_wanted_68 : decode cX11_wanted 68 = .ok (.istore 5, 2) := by decide +kernel
theorem dX11_wanted_70 : decode cX11_wanted 70 = .ok (.iload 5, 2) := by decide +kernel
theorem dX11_wanted_72 : decode cX11_wanted 72 = .ok (.ifCond .lt 24, 3) := by decide +kernel
theorem dX11_wanted_75 : decode cX11_wanted 75 = .ok (.iload 5, 2) := by decide +kernel
theorem dX11_wanted_77 : decode cX11_wanted 77 = .ok (.ifCond .ne 22, 3) := by decide +kernel
theorem dX11_wanted_80 : decode cX11_wanted 80 = .ok (.aload_n 0, 1) := by decide +kernel
theorem dX11_wanted_81 : decode cX11_wanted 81 = .ok (.getfield 76, 3) := by decide +kernel
theorem dX11_wanted_84 : decode cX11_wanted 84 = .ok (.iload 4, 2) := by decide +kernel
theorem dX11_wanted_86 : decode cX11_wanted 86 = .ok (.iaload, 1) := by decide +kernel
theorem dX11_wanted_87 : decode cX11_wanted 87 = .ok (.aload_n 0, 1) := by decide +kernel
theorem dX11_wanted_88 : decode cX11_wanted 88 = .ok (.getfield 76, 3) := by decide +kernel
theorem dX11_wanted_91 : decode cX11_wanted 91 = .ok (.iload_n 3, 1) := by decide +kernel
theorem dX11_wanted_92 : decode cX11_wanted 92 = .ok (.iaload, 1) := by decide +kernel
theorem dX11_wanted_93 : decode cX11_wanted 93 = .ok (.if_icmp .ge 6, 3) := by decide +kernel
theorem dX11_wanted_96 : decode cX11_wanted 96 = .ok (.iload 4, 2) := by decide +kernel
theorem dX11_wanted_98 : decode cX11_wanted 98 = .ok (.istore_n 3, 1) := by decide +kernel
theorem dX11_wanted_99 : decode cX11_wanted 99 = .ok (.iinc 4 1, 3) := by decide +kernel
theorem dX11_wanted_102 : decode cX11_wanted 102 = .ok (.goto (-97), 3) := by decide +kernel
theorem dX11_wanted_105 : decode cX11_wanted 105 = .ok (.iload_n 3, 1) := by decide +kernel
theorem dX11_wanted_106 : decode cX11_wanted 106 = .ok (.ireturn, 1) := by decide +kernel
set_option maxRecDepth 20000 in
theorem ggX11_isRow_X11_isIn : GoodIn wsX11_isRow wsX11_isIn := goodIn_r _ [5] (by decide +kernel) (by decide +kernel)
set_option maxRecDepth 20000 in
theorem gX11_isRow_X11_isIn : GoodIn wsX11_isRow (va_wsS RX11 116 yX11_isIn wsX11_isIn) := goodIn_app (goodIn_of _ (by decide +kernel)) ggX11_isRow_X11_isIn
theorem dX11_isRow_0 : decode cX11_isRow 0 = .ok (.iload_n 2, 1) := by decide +kernel
theorem dX11_isRow_1 : decode cX11_isRow 1 = .ok (.iconst 2, 1) := by decide +kernel
theorem dX11_isRow_2 : decode cX11_isRow 2 = .ok (.bipush 8, 2) := by decide +kernel
theorem dX11_isRow_4 : decode cX11_isRow 4 = .ok (.invokestatic 116, 3) := by decide +kernel
theorem dX11_isRow_7 : decode cX11_isRow 7 = .ok (.ifCond .eq 21, 3) := by decide +kernel
theorem dX11_isRow_10 : decode cX11_isRow 10 = .ok (.iload_n 1, 1) := by decide +kernel
theorem dX11_isRow_11 : decode cX11_isRow 11 = .ok (.iconst 0, 1) := by decide +kernel
theorem dX11_isRow_12 : decode cX11_isRow 12 = .ok (.aload_n 0, 1) := by decide +kernel
theorem dX11_isRow_13 : decode cX11_isRow 13 = .ok (.getfield 113, 3) := by decide +kernel
theorem dX11_isRow_16 : decode cX11_isRow 16 = .ok (.iload_n 2, 1) := by decide +kernel
theorem dX11_isRow_17 : decode cX11_isRow 17 = .ok (.isub, 1) := by decide +kernel
theorem dX11_isRow_18 : decode cX11_isRow 18 = .ok (.invokestatic 116, 3) := by decide +kernel
theorem dX11_isRow_21 : decode cX11_isRow 21 = .ok (.ifCond .eq 7, 3) := by decide +kernel
theorem dX11_isRow_24 : decode cX11_isRow 24 = .ok (.iconst 1, 1) := by decide +kernel
theorem dX11_isRow_25 : decode cX11_isRow 25 = .ok (.goto 4, 3) := by decide +kernel
theorem dX11_isRow_28 : decode cX11_isRow 28 = .ok (.iconst 0, 1) := by decide +kernel
theorem dX11_isRow_29 : decode cX11_isRow 29 = .ok (.ireturn, 1) := by decide +kernel
set_option maxRecDepth 20000 in
theorem ggX11_rings_X11_isRow : GoodIn wsX11_rings wsX11_isRow := goodIn_r _ [6, 7, 8, 9, 5, 10, 46, 47, 48, 49, 50, 51, 52, 53, 54, 55, 56, 57, 58, 59, 60, 61, 62, 63, 64, 65, 66, 67, 68, 69, 70, 71, 72, 73, 74, 75, 76, 77, 78, 79, 80, 81, 82, 83, 84, 85, 86, 87, 88, 89, 90, 91, 92] (by decide +kernel) (by decide +kernel)
set_option maxRecDepth 20000 in
theorem gX11_rings_X11_isRow : GoodIn wsX11_rings (wsV RX11 272 RX11 yX11_isRow wsX11_isRow) := goodIn_app (goodIn_of _ (by decide +kernel)) ggX11_rings_X11_isRow
set_option maxRecDepth 20000 in
theorem ggX11_rings_X11_isIn : GoodIn wsX11_rings wsX11_isIn := goodIn_r _ [10] (by decide +kernel) (by decide +kernel)
set_option maxRecDepth 20000 in
theorem gX11_rings_X11_isIn : GoodIn wsX11_rings (va_wsS RX11 116 yX11_isIn wsX11_isIn) := goodIn_app (goodIn_of _ (by decide +kernel)) ggX11_rings_X11_isIn
set_option maxRecDepth 20000 in
theorem ggX11_rings_X11_turns : GoodIn wsX11_rings wsX11_turns := goodIn_r _ [14, 15, 1, 16, 17, 18, 19, 20, 5, 21, 22, 23, 24, 25, 26, 27, 28, 29, 30, 31, 32, 33, 34, 35, 36, 37, 38, 39, 40, 41, 42, 43, 44, 45, 46, 47, 48, 49, 50, 51, 52, 53, 54, 55, 56, 57, 58, 59, 60, 61, 62, 63, 64, 65, 66, 67, 68, 69, 70, 71, 72, 73, 74, 75, 76, 77, 78, 79, 80, 81, 82, 83, 84, 85, 86, 87, 88, 89, 90, 91, 92] (by decide +kernel) (by decide +kernel)
set_option maxRecDepth 20000 in
theorem gX11_rings_X11_turns : GoodIn wsX11_rings (wsV RX11 275 RX11 yX11_turns wsX11_turns) := goodIn_app (goodIn_of _ (by decide +kernel)) ggX11_rings_X11_turns
theorem dX11_rings_0 : decode cX11_rings 0 = .ok (.aload_n 0, 1) := by decide +kernel
theorem dX11_rings_1 : decode cX11_rings 1 = .ok (.iload_n 1, 1) := by decide +kernel
theorem dX11_rings_2 : decode cX11_rings 2 = .ok (.iload_n 2, 1) := by decide +kernel
theorem dX11_rings_3 : decode cX11_rings 3 = .ok (.invokevirtual 272, 3) := by decide +kernel
theorem dX11_rings_6 : decode cX11_rings 6 = .ok (.ifCond .eq 14, 3) := by decide +kernel
theorem dX11_rings_9 : decode cX11_rings 9 = .ok (.iload_n 3, 1) := by decide +kernel
theorem dX11_rings_10 : decode cX11_rings 10 = .ok (.iconst (-1), 1) := by decide +kernel
theorem dX11_rings_11 : decode cX11_rings 11 = .ok (.iload_n 2, 1) := by decide +kernel
theorem dX11_rings_12 : decode cX11_rings 12 = .ok (.iconst 1, 1) := by decide +kernel
theorem dX11_rings_13 : decode cX11_rings 13 = .ok (.isub, 1) := by decide +kernel
theorem dX11_rings_14 : decode cX11_rings 14 = .ok (.invokestatic 116, 3) := by decide +kernel
theorem dX11_rings_17 : decode cX11_rings 17 = .ok (.ifCond .ne 5, 3) := by decide +kernel
theorem dX11_rings_20 : decode cX11_rings 20 = .ok (.iconst (-1), 1) := by decide +kernel
theorem dX11_rings_21 : decode cX11_rings 21 = .ok (.ireturn, 1) := by decide +kernel
theorem dX11_rings_22 : decode cX11_rings 22 = .ok (.aload_n 0, 1) := by decide +kernel
theorem dX11_rings_23 : decode cX11_rings 23 = .ok (.iload_n 1, 1) := by decide +kernel
theorem dX11_rings_24 : decode cX11_rings 24 = .ok (.iload_n 2, 1) := by decide +kernel
theorem dX11_rings_25 : decode cX11_rings 25 = .ok (.invokevirtual 275, 3) := by decide +kernel
theorem dX11_rings_28 : decode cX11_rings 28 = .ok (.istore 4, 2) := by decide +kernel
theorem dX11_rings_30 : decode cX11_rings 30 = .ok (.iload 4, 2) := by decide +kernel
theorem dX11_rings_32 : decode cX11_rings 32 = .ok (.iconst (-1), 1) := by decide +kernel
theorem dX11_rings_33 : decode cX11_rings 33 = .ok (.if_icmp .eq 8, 3) := by decide +kernel
theorem dX11_rings_36 : decode cX11_rings 36 = .ok (.iload_n 3, 1) := by decide +kernel
theorem dX11_rings_37 : decode cX11_rings 37 = .ok (.iconst (-1), 1) := by decide +kernel
theorem dX11_rings_38 : decode cX11_rings 38 = .ok (.if_icmp .ne 8, 3) := by decide +kernel
theorem dX11_rings_41 : decode cX11_rings 41 = .ok (.iload 4, 2) := by decide +kernel
theorem dX11_rings_43 : decode cX11_rings 43 = .ok (.goto 9, 3) := by decide +kernel
theorem dX11_rings_46 : decode cX11_rings 46 = .ok (.aload_n 0, 1) := by decide +kernel
theorem dX11_rings_47 : decode cX11_rings 47 = .ok (.getfield 79, 3) := by decide +kernel
theorem dX11_rings_50 : decode cX11_rings 50 = .ok (.iload_n 3, 1) := by decide +kernel
theorem dX11_rings_51 : decode cX11_rings 51 = .ok (.iaload, 1) := by decide +kernel
theorem dX11_rings_52 : decode cX11_rings 52 = .ok (.ireturn, 1) := by decide +kernel
set_option maxRecDepth 20000 in
theorem ggX11_swap_X11_isRow : GoodIn wsX11_swap wsX11_isRow := goodIn_r _ [9, 10, 11, 12, 8, 13, 53, 54, 55, 56, 57, 58, 59, 60, 61, 62, 63, 64, 65, 66, 67, 68, 69, 70, 71, 72, 73, 74, 75, 76, 77, 78, 79, 80, 81, 82, 83, 84, 85, 86, 87, 88, 89, 90, 91, 92, 93, 94, 95, 96, 97, 98, 99] (by decide +kernel) (by decide +kernel)
set_option maxRecDepth 20000 in
theorem gX11_swap_X11_isRow : GoodIn wsX11_swap (wsV RX11 272 RX11 yX11_isRow wsX11_isRow) := goodIn_app (goodIn_of _ (by decide +kernel)) ggX11_swap_X11_isRow
set_option maxRecDepth 20000 in
theorem ggX11_swap_X11_turns : GoodIn wsX11_swap wsX11_turns := goodIn_r _ [17, 2, 1, 18, 19, 20, 21, 22, 8, 23, 4, 24, 25, 26, 27, 28, 29, 30, 31, 32, 33, 3, 34, 35, 36, 37, 38, 39, 40, 41, 42, 43, 44, 45, 53, 54, 55, 56, 57, 58, 59, 60, 61, 62, 63, 64, 65, 66, 67, 68, 69, 70, 71, 72, 73, 74, 75, 76, 77, 78, 79, 80, 81, 82, 83, 84, 85, 86, 87, 88, 89, 90, 91, 92, 93, 94, 95, 96, 97, 98, 99] (by decide +kernel) (by decide +kernel)
set_option maxRecDepth 20000 in
theorem gX11_swap_X11_turns : GoodIn wsX11_swap (wsV RX11 275 RX11 yX11_turns wsX11_turns) := goodIn_app (goodIn_of _ (by decide +kernel)) ggX11_swap_X11_turns
set_option maxRecDepth 20000 in
theorem ggX11_swap_X11_one : GoodIn wsX11_swap wsX11_one := goodIn_r _ [48] (by decide +kernel) (by decide +kernel)
set_option maxRecDepth 20000 in
theorem gX11_swap_X11_one : GoodIn wsX11_swap (va_wsS RX11 209 yX11_one wsX11_one) := goodIn_app (goodIn_of _ (by decide +kernel)) ggX11_swap_X11_one
set_option maxRecDepth 20000 in
theorem ggX11_swap_X11_goes : GoodIn wsX11_swap wsX11_goes := goodIn_r _ [52, 34, 3, 36, 35, 28, 53, 54, 55, 56, 57, 58, 59, 60, 61, 62, 63, 64, 65, 66, 67, 68, 69, 70, 71, 72, 73, 74, 75, 76, 77, 78, 79, 80, 81, 82, 83, 84, 85, 86, 87, 88, 89, 90, 91, 92, 93, 94, 95, 96, 97, 98, 99] (by decide +kernel) (by decide +kernel)
set_option maxRecDepth 20000 in
theorem gX11_swap_X11_goes : GoodIn wsX11_swap (wsV RX11 147 RX11 yX11_goes wsX11_goes) := goodIn_app (goodIn_of _ (by decide +kernel)) ggX11_swap_X11_goes
theorem dX11_swap_0 : decode cX11_swap 0 = .ok (.aload_n 0, 1) := by decide +kernel
theorem dX11_swap_1 : decode cX11_swap 1 = .ok (.iload_n 1, 1) := by decide +kernel
theorem dX11_swap_2 : decode cX11_swap 2 = .ok (.iload_n 2, 1) := by decide +kernel
theorem dX11_swap_3 : decode cX11_swap 3 = .ok (.invokevirtual 272, 3) := by decide +kernel
theorem dX11_swap_6 : decode cX11_swap 6 = .ok (.ifCond .eq 13, 3) := by decide +kernel
theorem dX11_swap_9 : decode cX11_swap 9 = .ok (.aload_n 0, 1) := by decide +kernel
theorem dX11_swap_10 : decode cX11_swap 10 = .ok (.iload_n 1, 1) := by decide +kernel
theorem dX11_swap_11 : decode cX11_swap 11 = .ok (.iload_n 2, 1) := by decide +kernel
theorem dX11_swap_12 : decode cX11_swap 12 = .ok (.invokevirtual 275, 3) := by decide +kernel
theorem dX11_swap_15 : decode cX11_swap 15 = .ok (.iconst (-1), 1) := by decide +kernel
theorem dX11_swap_16 : decode cX11_swap 16 = .ok (.if_icmp .ne 5, 3) := by decide +kernel
theorem dX11_swap_19 : decode cX11_swap 19 = .ok (.iconst (-1), 1) := by decide +kernel
theorem dX11_swap_20 : decode cX11_swap 20 = .ok (.ireturn, 1) := by decide +kernel
theorem dX11_swap_21 : decode cX11_swap 21 = .ok (.iconst 0, 1) := by decide +kernel
theorem dX11_swap_22 : decode cX11_swap 22 = .ok (.istore_n 3, 1) := by decide +kernel
theorem dX11_swap_23 : decode cX11_swap 23 = .ok (.iconst 0, 1) := by decide +kernel
theorem dX11_swap_24 : decode cX11_swap 24 = .ok (.istore 4, 2) := by decide +kernel
theorem dX11_swap_26 : decode cX11_swap 26 = .ok (.iload 4, 2) := by decide +kernel
theorem dX11_swap_28 : decode cX11_swap 28 = .ok (.iload_n 2, 1) := by decide +kernel
theorem dX11_swap_29 : decode cX11_swap 29 = .ok (.if_icmp .ge 37, 3) := by decide +kernel
theorem dX11_swap_32 : decode cX11_swap 32 = .ok (.iload_n 3, 1) := by decide +kernel
theorem dX11_swap_33 : decode cX11_swap 33 = .ok (.aload_n 0, 1) := by decide +kernel
theorem dX11_swap_34 : decode cX11_swap 34 = .ok (.getfield 79, 3) := by decide +kernel
theorem dX11_swap_37 : decode cX11_swap 37 = .ok (.iload 4, 2) := by decide +kernel
theorem dX11_swap_39 : decode cX11_swap 39 = .ok (.iaload, 1) := by decide +kernel
theorem dX11_swap_40 : decode cX11_swap 40 = .ok (.aload_n 0, 1) := by decide +kernel
theorem dX11_swap_41 : decode cX11_swap 41 = .ok (.getfield 76, 3) := by decide +kernel
theorem dX11_swap_44 : decode cX11_swap 44 = .ok (.iload 4, 2) := by decide +kernel
theorem dX11_swap_46 : decode cX11_swap 46 = .ok (.iaload, 1) := by decide +kernel
theorem dX11_swap_47 : decode cX11_swap 47 = .ok (.if_icmp .eq 7, 3) := by decide +kernel
theorem dX11_swap_50 : decode cX11_swap 50 = .ok (.iconst 1, 1) := by decide +kernel
theorem dX11_swap_51 : decode cX11_swap 51 = .ok (.goto 4, 3) := by decide +kernel
theorem dX11_swap_54 : decode cX11_swap 54 = .ok (.iconst 0, 1) := by decide +kernel
theorem dX11_swap_55 : decode cX11_swap 55 = .ok (.invokestatic 209, 3) := by decide +kernel
theorem dX11_swap_58 : decode cX11_swap 58 = .ok (.iadd, 1) := by decide +kernel
theorem dX11_swap_59 : decode cX11_swap 59 = .ok (.istore_n 3, 1) := by decide +kernel
theorem dX11_swap_60 : decode cX11_swap 60 = .ok (.iinc 4 1, 3) := by decide +kernel
theorem dX11_swap_63 : decode cX11_swap 63 = .ok (.goto (-37), 3) := by decide +kernel
theorem dX11_swap_66 : decode cX11_swap 66 = .ok (.aload_n 0, 1) := by decide +kernel
theorem dX11_swap_67 : decode cX11_swap 67 = .ok (.getfield 133, 3) := by decide +kernel
theorem dX11_swap_70 : decode cX11_swap 70 = .ok (.iload_n 3, 1) := by decide +kernel
theorem dX11_swap_71 : decode cX11_swap 71 = .ok (.iadd, 1) := by decide +kernel
theorem dX11_swap_72 : decode cX11_swap 72 = .ok (.sipush 200, 3) := by decide +kernel
theorem dX11_swap_75 : decode cX11_swap 75 = .ok (.if_icmp .le 5, 3) := by decide +kernel
theorem dX11_swap_78 : decode cX11_swap 78 = .ok (.iconst (-1), 1) := by decide +kernel
theorem dX11_swap_79 : decode cX11_swap 79 = .ok (.ireturn, 1) := by decide +kernel
theorem dX11_swap_80 : decode cX11_swap 80 = .ok (.iconst 0, 1) := by decide +kernel
theorem dX11_swap_81 : decode cX11_swap 81 = .ok (.istore 4, 2) := by decide +kernel
theorem dX11_swap_83 : decode cX11_swap 83 = .ok (.iload 4, 2) := by decide +kernel
theorem dX11_swap_85 : decode cX11_swap 85 = .ok (.aload_n 0, 1) := by decide +kernel
theorem dX11_swap_86 : decode cX11_swap 86 = .ok (.getfield 120, 3) := by decide +kernel
theorem dX11_swap_89 : decode cX11_swap 89 = .ok (.if_icmp .ge 58, 3) := by decide +kernel
theorem dX11_swap_92 : decode cX11_swap 92 = .ok (.iconst 0, 1) := by decide +kernel
theorem dX11_swap_93 : decode cX11_swap 93 = .ok (.istore 5, 2) := by decide +kernel
theorem dX11_swap_95 : decode cX11_swap 95 = .ok (.iload 5, 2) := by decide +kernel
theorem dX11_swap_97 : decode cX11_swap 97 = .ok (.iload_n 2, 1) := by decide +kernel
theorem dX11_swap_98 : decode cX11_swap 98 = .ok (.if_icmp .ge 43, 3) := by decide +kernel
theorem dX11_swap_101 : decode cX11_swap 101 = .ok (.aload_n 0, 1) := by decide +kernel
theorem dX11_swap_102 : decode cX11_swap 102 = .ok (.getfield 79, 3) := by decide +kernel
theorem dX11_swap_105 : decode cX11_swap 105 = .ok (.iload 5, 2) := by decide +kernel
theorem dX11_swap_107 : decode cX11_swap 107 = .ok (.iaload, 1) := by decide +kernel
theorem dX11_swap_108 : decode cX11_swap 108 = .ok (.iload 4, 2) := by decide +kernel
theorem dX11_swap_110 : decode cX11_swap 110 = .ok (.if_icmp .ne 25, 3) := by decide +kernel
theorem dX11_swap_113 : decode cX11_swap 113 = .ok (.aload_n 0, 1) := by decide +kernel
theorem dX11_swap_114 : decode cX11_swap 114 = .ok (.getfield 76, 3) := by decide +kernel
theorem dX11_swap_117 : decode cX11_swap 117 = .ok (.iload 5, 2) := by decide +kernel
theorem dX11_swap_119 : decode cX11_swap 119 = .ok (.iaload, 1) := by decide +kernel
theorem dX11_swap_120 : decode cX11_swap 120 = .ok (.iload 4, 2) := by decide +kernel
theorem dX11_swap_122 : decode cX11_swap 122 = .ok (.if_icmp .eq 13, 3) := by decide +kernel
theorem dX11_swap_125 : decode cX11_swap 125 = .ok (.aload_n 0, 1) := by decide +kernel
theorem dX11_swap_126 : decode cX11_swap 126 = .ok (.iload 4, 2) := by decide +kernel
theorem dX11_swap_128 : decode cX11_swap 128 = .ok (.iload_n 1, 1) := by decide +kernel
theorem dX11_swap_129 : decode cX11_swap 129 = .ok (.iload 5, 2) := by decide +kernel
theorem dX11_swap_131 : decode cX11_swap 131 = .ok (.iadd, 1) := by decide +kernel
theorem dX11_swap_132 : decode cX11_swap 132 = .ok (.invokevirtual 147, 3) := by decide +kernel
theorem dX11_swap_135 : decode cX11_swap 135 = .ok (.iinc 5 1, 3) := by decide +kernel
theorem dX11_swap_138 : decode cX11_swap 138 = .ok (.goto (-43), 3) := by decide +kernel
theorem dX11_swap_141 : decode cX11_swap 141 = .ok (.iinc 4 1, 3) := by decide +kernel
theorem dX11_swap_144 : decode cX11_swap 144 = .ok (.goto (-61), 3) := by decide +kernel
theorem dX11_swap_147 : decode cX11_swap 147 = .ok (.iload_n 3, 1) := by decide +kernel
theorem dX11_swap_148 : decode cX11_swap 148 = .ok (.ireturn, 1) := by decide +kernel
set_option maxRecDepth 20000 in
theorem ggX11_sell_X11_isField : GoodIn wsX11_sell wsX11_isField := goodIn_r _ [13, 14, 15, 16, 12, 17, 29, 30, 31, 32, 33, 34, 35, 36, 37, 38, 39, 40, 41, 42, 43, 44, 45, 46, 47, 48, 49, 50, 51, 52, 53, 54, 55, 56, 57, 58, 59, 60, 61, 62, 63, 64, 65, 66, 67, 68, 69, 70, 71, 72, 73, 74, 75] (by decide +kernel) (by decide +kernel)
set_option maxRecDepth 20000 in
theorem gX11_sell_X11_isField : GoodIn wsX11_sell (wsV RX11 140 RX11 yX11_isField wsX11_isField) := goodIn_app (goodIn_of _ (by decide +kernel)) ggX11_sell_X11_isField
set_option maxRecDepth 20000 in
theorem ggX11_sell_X11_isPerson : GoodIn wsX11_sell wsX11_isPerson := goodIn_r _ [21, 22, 15, 16, 12, 17, 29, 30, 31, 32, 33, 34, 35, 36, 37, 38, 39, 40, 41, 42, 43, 44, 45, 46, 47, 48, 49, 50, 51, 52, 53, 54, 55, 56, 57, 58, 59, 60, 61, 62, 63, 64, 65, 66, 67, 68, 69, 70, 71, 72, 73, 74, 75] (by decide +kernel) (by decide +kernel)
set_option maxRecDepth 20000 in
theorem gX11_sell_X11_isPerson : GoodIn wsX11_sell (wsV RX11 123 RX11 yX11_isPerson wsX11_isPerson) := goodIn_app (goodIn_of _ (by decide +kernel)) ggX11_sell_X11_isPerson
set_option maxRecDepth 20000 in
theorem ggX11_sell_X11_standard : GoodIn wsX11_sell wsX11_standard := goodIn_r _ [26, 27, 5, 28, 29, 30, 31, 32, 33, 34, 35, 36, 37, 38, 39, 40, 41, 42, 43, 44, 45, 46, 47, 48, 49, 50, 51, 52, 53, 54, 55, 56, 57, 58, 59, 60, 61, 62, 63, 64, 65, 66, 67, 68, 69, 70, 71, 72, 73, 74, 75] (by decide +kernel) (by decide +kernel)
set_option maxRecDepth 20000 in
theorem gX11_sell_X11_standard : GoodIn wsX11_sell (wsV RX11 213 RX11 yX11_standard wsX11_standard) := goodIn_app (goodIn_of _ (by decide +kernel)) ggX11_sell_X11_standard
theorem dX11_sell_0 : decode cX11_sell 0 = .ok (.aload_n 0, 1) := by decide +kernel
theorem dX11_sell_1 : decode cX11_sell 1 = .ok (.iload_n 1, 1) := by decide +kernel
theorem dX11_sell_2 : decode cX11_sell 2 = .ok (.invokevirtual 140, 3) := by decide +kernel
theorem dX11_sell_5 : decode cX11_sell 5 = .ok (.ifCond .eq 20, 3) := by decide +kernel
theorem dX11_sell_8 : decode cX11_sell 8 = .ok (.aload_n 0, 1) := by decide +kernel
theorem dX11_sell_9 : decode cX11_sell 9 = .ok (.iload_n 2, 1) := by decide +kernel
theorem dX11_sell_10 : decode cX11_sell 10 = .ok (.invokevirtual 123, 3) := by decide +kernel
theorem dX11_sell_13 : decode cX11_sell 13 = .ok (.ifCond .eq 12, 3) := by decide +kernel
theorem dX11_sell_16 : decode cX11_sell 16 = .ok (.aload_n 0, 1) := by decide +kernel
theorem dX11_sell_17 : decode cX11_sell 17 = .ok (.getfield 278, 3) := by decide +kernel
theorem dX11_sell_20 : decode cX11_sell 20 = .ok (.bipush 20, 2) := by decide +kernel
theorem dX11_sell_22 : decode cX11_sell 22 = .ok (.if_icmp .ne 5, 3) := by decide +kernel
theorem dX11_sell_25 : decode cX11_sell 25 = .ok (.iconst (-1), 1) := by decide +kernel
theorem dX11_sell_26 : decode cX11_sell 26 = .ok (.ireturn, 1) := by decide +kernel
theorem dX11_sell_27 : decode cX11_sell 27 = .ok (.aload_n 0, 1) := by decide +kernel
theorem dX11_sell_28 : decode cX11_sell 28 = .ok (.getfield 85, 3) := by decide +kernel
theorem dX11_sell_31 : decode cX11_sell 31 = .ok (.aload_n 0, 1) := by decide +kernel
theorem dX11_sell_32 : decode cX11_sell 32 = .ok (.getfield 278, 3) := by decide +kernel
theorem dX11_sell_35 : decode cX11_sell 35 = .ok (.iload_n 1, 1) := by decide +kernel
theorem dX11_sell_36 : decode cX11_sell 36 = .ok (.iastore, 1) := by decide +kernel
theorem dX11_sell_37 : decode cX11_sell 37 = .ok (.aload_n 0, 1) := by decide +kernel
theorem dX11_sell_38 : decode cX11_sell 38 = .ok (.getfield 88, 3) := by decide +kernel
theorem dX11_sell_41 : decode cX11_sell 41 = .ok (.aload_n 0, 1) := by decide +kernel
theorem dX11_sell_42 : decode cX11_sell 42 = .ok (.getfield 278, 3) := by decide +kernel
theorem dX11_sell_45 : decode cX11_sell 45 = .ok (.iload_n 2, 1) := by decide +kernel
theorem dX11_sell_46 : decode cX11_sell 46 = .ok (.iastore, 1) := by decide +kernel
theorem dX11_sell_47 : decode cX11_sell 47 = .ok (.aload_n 0, 1) := by decide +kernel
theorem dX11_sell_48 : decode cX11_sell 48 = .ok (.getfield 91, 3) := by decide +kernel
theorem dX11_sell_51 : decode cX11_sell 51 = .ok (.aload_n 0, 1) := by decide +kernel
theorem dX11_sell_52 : decode cX11_sell 52 = .ok (.getfield 278, 3) := by decide +kernel
theorem dX11_sell_55 : decode cX11_sell 55 = .ok (.aload_n 0, 1) := by decide +kernel
theorem dX11_sell_56 : decode cX11_sell 56 = .ok (.getfield 44, 3) := by decide +kernel
theorem dX11_sell_59 : decode cX11_sell 59 = .ok (.iconst 3, 1) := by decide +kernel
theorem dX11_sell_60 : decode cX11_sell 60 = .ok (.iaload, 1) := by decide +kernel
theorem dX11_sell_61 : decode cX11_sell 61 = .ok (.aload_n 0, 1) := by decide +kernel
theorem dX11_sell_62 : decode cX11_sell 62 = .ok (.iload_n 1, 1) := by decide +kernel
theorem dX11_sell_63 : decode cX11_sell 63 = .ok (.invokevirtual 213, 3) := by decide +kernel
theorem dX11_sell_66 : decode cX11_sell 66 = .ok (.imul, 1) := by decide +kernel
theorem dX11_sell_67 : decode cX11_sell 67 = .ok (.iastore, 1) := by decide +kernel
theorem dX11_sell_68 : decode cX11_sell 68 = .ok (.aload_n 0, 1) := by decide +kernel
theorem dX11_sell_69 : decode cX11_sell 69 = .ok (.getfield 94, 3) := by decide +kernel
theorem dX11_sell_72 : decode cX11_sell 72 = .ok (.aload_n 0, 1) := by decide +kernel
theorem dX11_sell_73 : decode cX11_sell 73 = .ok (.getfield 278, 3) := by decide +kernel
theorem dX11_sell_76 : decode cX11_sell 76 = .ok (.aload_n 0, 1) := by decide +kernel
theorem dX11_sell_77 : decode cX11_sell 77 = .ok (.getfield 44, 3) := by decide +kernel
theorem dX11_sell_80 : decode cX11_sell 80 = .ok (.iconst 4, 1) := by decide +kernel
theorem dX11_sell_81 : decode cX11_sell 81 = .ok (.iaload, 1) := by decide +kernel
theorem dX11_sell_82 : decode cX11_sell 82 = .ok (.iastore, 1) := by decide +kernel
theorem dX11_sell_83 : decode cX11_sell 83 = .ok (.aload_n 0, 1) := by decide +kernel
theorem dX11_sell_84 : decode cX11_sell 84 = .ok (.getfield 100, 3) := by decide +kernel
theorem dX11_sell_87 : decode cX11_sell 87 = .ok (.aload_n 0, 1) := by decide +kernel
theorem dX11_sell_88 : decode cX11_sell 88 = .ok (.getfield 278, 3) := by decide +kernel
theorem dX11_sell_91 : decode cX11_sell 91 = .ok (.aload_n 0, 1) := by decide +kernel
theorem dX11_sell_92 : decode cX11_sell 92 = .ok (.getfield 44, 3) := by decide +kernel
theorem dX11_sell_95 : decode cX11_sell 95 = .ok (.iconst 4, 1) := by decide +kernel
theorem dX11_sell_96 : decode cX11_sell 96 = .ok (.iaload, 1) := by decide +kernel
theorem dX11_sell_97 : decode cX11_sell 97 = .ok (.iastore, 1) := by decide +kernel
theorem dX11_sell_98 : decode cX11_sell 98 = .ok (.aload_n 0, 1) := by decide +kernel
theorem dX11_sell_99 : decode cX11_sell 99 = .ok (.getfield 106, 3) := by decide +kernel
theorem dX11_sell_102 : decode cX11_sell 102 = .ok (.aload_n 0, 1) := by decide +kernel
theorem dX11_sell_103 : decode cX11_sell 103 = .ok (.getfield 278, 3) := by decide +kernel
theorem dX11_sell_106 : decode cX11_sell 106 = .ok (.aload_n 0, 1) := by decide +kernel
theorem dX11_sell_107 : decode cX11_sell 107 = .ok (.getfield 44, 3) := by decide +kernel
theorem dX11_sell_110 : decode cX11_sell 110 = .ok (.iconst 4, 1) := by decide +kernel
theorem dX11_sell_111 : decode cX11_sell 111 = .ok (.iaload, 1) := by decide +kernel
theorem dX11_sell_112 : decode cX11_sell 112 = .ok (.iconst 1, 1) := by decide +kernel
theorem dX11_sell_113 : decode cX11_sell 113 = .ok (.isub, 1) := by decide +kernel
theorem dX11_sell_114 : decode cX11_sell 114 = .ok (.iastore, 1) := by decide +kernel
theorem dX11_sell_115 : decode cX11_sell 115 = .ok (.aload_n 0, 1) := by decide +kernel
theorem dX11_sell_116 : decode cX11_sell 116 = .ok (.dup, 1) := by decide +kernel
theorem dX11_sell_117 : decode cX11_sell 117 = .ok (.getfield 278, 3) := by decide +kernel
theorem dX11_sell_120 : decode cX11_sell 120 = .ok (.iconst 1, 1) := by decide +kernel
theorem dX11_sell_121 : decode cX11_sell 121 = .ok (.iadd, 1) := by decide +kernel
theorem dX11_sell_122 : decode cX11_sell 122 = .ok (.putfield 278, 3) := by decide +kernel
theorem dX11_sell_125 : decode cX11_sell 125 = .ok (.aload_n 0, 1) := by decide +kernel
theorem dX11_sell_126 : decode cX11_sell 126 = .ok (.getfield 278, 3) := by decide +kernel
theorem dX11_sell_129 : decode cX11_sell 129 = .ok (.iconst 1, 1) := by decide +kernel
theorem dX11_sell_130 : decode cX11_sell 130 = .ok (.isub, 1) := by decide +kernel
theorem dX11_sell_131 : decode cX11_sell 131 = .ok (.ireturn, 1) := by decide +kernel
set_option maxRecDepth 20000 in
theorem ggX11_year_X11_isIn : GoodIn wsX11_year wsX11_isIn := goodIn_r _ [11] (by decide +kernel) (by decide +kernel)
set_option maxRecDepth 20000 in
theorem gX11_year_X11_isIn : GoodIn wsX11_year (va_wsS RX11 116 yX11_isIn wsX11_isIn) := goodIn_app (goodIn_of _ (by decide +kernel)) ggX11_year_X11_isIn
theorem dX11_year_0 : decode cX11_year 0 = .ok (.iload_n 1, 1) := by decide +kernel
theorem dX11_year_1 : decode cX11_year 1 = .ok (.iconst 0, 1) := by decide +kernel
theorem dX11_year_2 : decode cX11_year 2 = .ok (.aload_n 0, 1) := by decide +kernel
theorem dX11_year_3 : decode cX11_year 3 = .ok (.getfield 278, 3) := by decide +kernel
theorem dX11_year_6 : decode cX11_year 6 = .ok (.iconst 1, 1) := by decide +kernel
theorem dX11_year_7 : decode cX11_year 7 = .ok (.isub, 1) := by decide +kernel
theorem dX11_year_8 : decode cX11_year 8 = .ok (.invokestatic 116, 3) := by decide +kernel
theorem dX11_year_11 : decode cX11_year 11 = .ok (.ifCond .eq 12, 3) := by decide +kernel
theorem dX11_year_14 : decode cX11_year 14 = .ok (.aload_n 0, 1) := by decide +kernel
theorem dX11_year_15 : decode cX11_year 15 = .ok (.getfield 100, 3) := by decide +kernel
theorem dX11_year_18 : decode cX11_year 18 = .ok (.iload_n 1, 1) := by decide +kernel
theorem dX11_year_19 : decode cX11_year 19 = .ok (.iaload, 1) := by decide +kernel
theorem dX11_year_20 : decode cX11_year 20 = .ok (.ifCond .ne 5, 3) := by decide +kernel
theorem dX11_year_23 : decode cX11_year 23 = .ok (.iconst (-1), 1) := by decide +kernel
theorem dX11_year_24 : decode cX11_year 24 = .ok (.ireturn, 1) := by decide +kernel
theorem dX11_year_25 : decode cX11_year 25 = .ok (.aload_n 0, 1) := by decide +kernel
theorem dX11_year_26 : decode cX11_year 26 = .ok (.getfield 106, 3) := by decide +kernel
theorem dX11_year_29 : decode cX11_year 29 = .ok (.iload_n 1, 1) := by decide +kernel
theorem dX11_year_30 : decode cX11_year 30 = .ok (.iaload, 1) := by decide +kernel
theorem dX11_year_31 : decode cX11_year 31 = .ok (.ifCond .ne 7, 3) := by decide +kernel
theorem dX11_year_34 : decode cX11_year 34 = .ok (.iconst 1, 1) := by decide +kernel
theorem dX11_year_35 : decode cX11_year 35 = .ok (.goto 4, 3) := by decide +kernel
theorem dX11_year_38 : decode cX11_year 38 = .ok (.iconst 0, 1) := by decide +kernel
theorem dX11_year_39 : decode cX11_year 39 = .ok (.istore_n 3, 1) := by decide +kernel
theorem dX11_year_40 : decode cX11_year 40 = .ok (.aload_n 0, 1) := by decide +kernel
theorem dX11_year_41 : decode cX11_year 41 = .ok (.getfield 106, 3) := by decide +kernel
theorem dX11_year_44 : decode cX11_year 44 = .ok (.iload_n 1, 1) := by decide +kernel
theorem dX11_year_45 : decode cX11_year 45 = .ok (.dup2, 1) := by decide +kernel
theorem dX11_year_46 : decode cX11_year 46 = .ok (.iaload, 1) := by decide +kernel
theorem dX11_year_47 : decode cX11_year 47 = .ok (.iconst 1, 1) := by decide +kernel
theorem dX11_year_48 : decode cX11_year 48 = .ok (.isub, 1) := by decide +kernel
theorem dX11_year_49 : decode cX11_year 49 = .ok (.iastore, 1) := by decide +kernel
theorem dX11_year_50 : decode cX11_year 50 = .ok (.iload_n 2, 1) := by decide +kernel
theorem dX11_year_51 : decode cX11_year 51 = .ok (.ifCond .ne 33, 3) := by decide +kernel
theorem dX11_year_54 : decode cX11_year 54 = .ok (.aload_n 0, 1) := by decide +kernel
theorem dX11_year_55 : decode cX11_year 55 = .ok (.getfield 103, 3) := by decide +kernel
theorem dX11_year_58 : decode cX11_year 58 = .ok (.iload_n 1, 1) := by decide +kernel
theorem dX11_year_59 : decode cX11_year 59 = .ok (.dup2, 1) := by decide +kernel
theorem dX11_year_60 : decode cX11_year 60 = .ok (.iaload, 1) := by decide +kernel
theorem dX11_year_61 : decode cX11_year 61 = .ok (.iconst 1, 1) := by decide +kernel
theorem dX11_year_62 : decode cX11_year 62 = .ok (.iadd, 1) := by decide +kernel
theorem dX11_year_63 : decode cX11_year 63 = .ok (.iastore, 1) := by decide +kernel
theorem dX11_year_64 : decode cX11_year 64 = .ok (.iload_n 3, 1) := by decide +kernel
theorem dX11_year_65 : decode cX11_year 65 = .ok (.ifCond .eq 17, 3) := by decide +kernel
theorem dX11_year_68 : decode cX11_year 68 = .ok (.aload_n 0, 1) := by decide +kernel
