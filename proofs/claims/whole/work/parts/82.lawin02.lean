set_option maxRecDepth 20000 in
theorem in_wsL_law_r26 : ∀ w ∈ wsL_law_r26, w ∈ lw_tbl := mem_r _ [679, 1164, 1165, 1166, 1167, 1187, 1168, 1169, 1170, 1171, 1173, 37, 1174, 1175, 1177, 38, 1178, 1179, 1181, 39, 1182, 1183, 1185, 40] (by decide +kernel)
set_option maxRecDepth 20000 in
theorem in_wsL_law_r27 : ∀ w ∈ wsL_law_r27, w ∈ lw_tbl := mem_r _ [1186, 680, 681, 682, 683, 684, 685, 686, 687, 211, 212, 688, 690, 10, 691, 692, 693, 694, 695, 696, 697, 698, 699, 700] (by decide +kernel)
set_option maxRecDepth 20000 in
theorem in_wsL_law_r28 : ∀ w ∈ wsL_law_r28, w ∈ lw_tbl := mem_r _ [1188, 1189, 1190, 1191, 930, 929, 1192, 1194, 41, 1195, 701, 702, 703, 704, 705, 706, 707, 708, 709, 1196, 1197, 1198, 1199, 710] (by decide +kernel)
set_option maxRecDepth 20000 in
theorem in_wsL_law_r29 : ∀ w ∈ wsL_law_r29, w ∈ lw_tbl := mem_r _ [711, 712, 713, 714, 715, 716, 717, 718, 720, 11, 721, 1200, 1201, 1202, 1203, 722, 723, 724, 725, 726, 727, 728, 729, 730] (by decide +kernel)
set_option maxRecDepth 20000 in
theorem in_wsL_law_r30 : ∀ w ∈ wsL_law_r30, w ∈ lw_tbl := mem_r _ [731, 732, 733, 734, 735, 736, 737, 738, 739, 264, 740, 741, 742, 743, 744, 745, 746, 747, 749, 750, 751, 748, 752, 754] (by decide +kernel)
set_option maxRecDepth 20000 in
theorem in_wsL_law_r31 : ∀ w ∈ wsL_law_r31, w ∈ lw_tbl := mem_r _ [12, 755, 756, 757, 759, 13, 760, 761, 763, 764, 765, 766, 767, 768, 769, 770, 1204, 1205, 1206, 1207, 1208, 771, 772, 773] (by decide +kernel)
set_option maxRecDepth 20000 in
theorem in_wsL_law_r32 : ∀ w ∈ wsL_law_r32, w ∈ lw_tbl := mem_r _ [774, 775, 777, 14, 778, 779, 780, 781, 782, 783, 784, 283, 284, 785, 786, 787, 788, 789, 790, 791, 793, 15, 794, 795] (by decide +kernel)
set_option maxRecDepth 20000 in
theorem in_wsL_law_r33 : ∀ w ∈ wsL_law_r33, w ∈ lw_tbl := mem_r _ [797, 16, 798, 799, 800, 802, 17, 803, 804, 806, 18, 807, 808, 809, 810, 811, 1209, 1210, 1211, 1212, 1213, 1215, 42, 1216] (by decide +kernel)
set_option maxRecDepth 20000 in
theorem in_wsL_law_r34 : ∀ w ∈ wsL_law_r34, w ∈ lw_tbl := mem_r _ [1217, 1219, 43, 1220, 1221, 1223, 44, 1224, 1225, 1227, 45, 1228, 813, 814, 815, 816, 817, 818, 819, 820, 821, 822, 823, 824] (by decide +kernel)
set_option maxRecDepth 20000 in
theorem in_wsL_law_r35 : ∀ w ∈ wsL_law_r35, w ∈ lw_tbl := mem_r _ [1229, 1230, 1231, 1232, 825, 826, 827, 828, 358, 829, 66, 830, 831, 832, 833, 835, 837, 839, 834, 845, 847, 841, 842, 1233] (by decide +kernel)
set_option maxRecDepth 20000 in
theorem in_wsL_law_r36 : ∀ w ∈ wsL_law_r36, w ∈ lw_tbl := mem_r _ [1234, 1235, 1236, 940, 869, 870, 871, 872, 873, 875, 19, 876, 877, 878, 879, 880, 848, 843, 1237, 1238, 1239, 1240, 881, 882] (by decide +kernel)
set_option maxRecDepth 20000 in
theorem in_wsL_law_r37 : ∀ w ∈ wsL_law_r37, w ∈ lw_tbl := mem_r _ [883, 884, 1241, 1242, 1243, 1244, 885, 886, 887, 888, 1245, 1246, 1247, 1248] (by decide +kernel)
set_option maxRecDepth 20000 in
theorem inX10 : ∀ w ∈ wsX100, w ∈ lw_tbl := mem_r _ [361, 363, 365, 367, 369, 371, 373, 375, 377, 379, 381, 383] (by decide +kernel)
set_option maxRecDepth 20000 in
theorem inX11 : ∀ w ∈ wsX110, w ∈ lw_tbl := mem_r _ [949, 951, 953, 955, 957, 959, 961, 963, 965, 967, 969, 971, 973, 975, 977, 979, 981, 983, 985, 987, 989, 991, 993, 995, 997, 999, 1001, 1003, 1005, 1007, 1009, 1011, 1013, 1015, 1017, 1019, 1021, 1023, 1025, 1027, 1029, 1031, 1033, 1035, 1037, 1039, 1041] (by decide +kernel)
set_option maxRecDepth 20000 in
theorem inX4 : ∀ w ∈ wsX40, w ∈ lw_tbl := mem_r _ [88, 90, 92, 94, 96] (by decide +kernel)
set_option maxRecDepth 20000 in
theorem inX2 : ∀ w ∈ wsX20, w ∈ lw_tbl := mem_r _ [129, 131, 133, 135, 137, 139, 141, 143, 145, 147, 149, 151] (by decide +kernel)
set_option maxRecDepth 20000 in
theorem inX8 : ∀ w ∈ wsX80, w ∈ lw_tbl := mem_r _ [164, 166] (by decide +kernel)
set_option maxRecDepth 20000 in
theorem inX5 : ∀ w ∈ wsX50, w ∈ lw_tbl := mem_r _ [182, 184, 186, 188, 190] (by decide +kernel)
set_option maxRecDepth 20000 in
theorem inX1 : ∀ w ∈ wsX10, w ∈ lw_tbl := mem_r _ [214, 216, 218, 220, 222, 224, 226, 228, 230, 232] (by decide +kernel)
set_option maxRecDepth 20000 in
theorem inX9 : ∀ w ∈ wsX90, w ∈ lw_tbl := mem_r _ [245, 247, 249, 251] (by decide +kernel)
set_option maxRecDepth 20000 in
theorem inX0 : ∀ w ∈ wsX00, w ∈ lw_tbl := mem_r _ [265, 267, 269] (by decide +kernel)
set_option maxRecDepth 20000 in
theorem inX6 : ∀ w ∈ wsX60, w ∈ lw_tbl := mem_r _ [286, 288, 290, 292, 294, 296, 298] (by decide +kernel)
set_option maxRecDepth 20000 in
theorem inX3 : ∀ w ∈ wsX30, w ∈ lw_tbl := mem_r _ [330, 332, 334, 336, 338, 340, 342, 344, 346] (by decide +kernel)
set_option maxRecDepth 20000 in
theorem inX7 : ∀ w ∈ wsX70, w ∈ lw_tbl := mem_r _ [850, 852, 854, 856, 858, 860, 862, 864, 866] (by decide +kernel)
theorem wsL_law_in : ∀ w ∈ wsL_law, w ∈ lw_tbl := (fun w h => (List.mem_append.mp h).elim ((fun w h => (List.mem_append.mp h).elim ((fun w h => (List.mem_append.mp h).elim ((fun w h => (List.mem_append.mp h).elim ((fun w h => (List.mem_append.mp h).elim ((fun w h => (List.mem_append.mp h).elim ((fun w h => (List.mem_append.mp h).elim ((fun w h => (List.mem_append.mp h).elim ((fun w h => (List.mem_append.mp h).elim ((fun w h => (List.mem_append.mp h).elim ((fun w h => (List.mem_append.mp h).elim ((fun w h => (List.mem_append.mp h).elim ((fun w h => (List.mem_append.mp h).elim ((fun w h => (List.mem_append.mp h).elim (in_wsL_law_r1 w) ((fun w h => (List.mem_append.mp h).elim (in_wsL_law_r2 w) ((fun w h => (List.mem_append.mp h).elim (in_wsL_law_r3 w) ((fun w h => (List.mem_append.mp h).elim (in_wsL_law_r4 w) ((fun w h => (List.mem_append.mp h).elim (in_wsL_law_r5 w) ((fun w h => (List.mem_append.mp h).elim (in_wsL_law_r6 w) ((fun w h => (List.mem_append.mp h).elim (in_wsL_law_r7 w) ((fun w h => (List.mem_append.mp h).elim (in_wsL_law_r8 w) ((fun w h => (List.mem_append.mp h).elim (in_wsL_law_r9 w) ((fun w h => (List.mem_append.mp h).elim (in_wsL_law_r10 w) ((fun w h => (List.mem_append.mp h).elim (in_wsL_law_r11 w) ((fun w h => (List.mem_append.mp h).elim (in_wsL_law_r12 w) ((fun w h => (List.mem_append.mp h).elim (in_wsL_law_r13 w) ((fun w h => (List.mem_append.mp h).elim (in_wsL_law_r14 w) ((fun w h => (List.mem_append.mp h).elim (in_wsL_law_r15 w) ((fun w h => (List.mem_append.mp h).elim (in_wsL_law_r16 w) ((fun w h => (List.mem_append.mp h).elim (in_wsL_law_r17 w) ((fun w h => (List.mem_append.mp h).elim (in_wsL_law_r18 w) ((fun w h => (List.mem_append.mp h).elim (in_wsL_law_r19 w) ((fun w h => (List.mem_append.mp h).elim (in_wsL_law_r20 w) ((fun w h => (List.mem_append.mp h).elim (in_wsL_law_r21 w) ((fun w h => (List.mem_append.mp h).elim (in_wsL_law_r22 w) ((fun w h => (List.mem_append.mp h).elim (in_wsL_law_r23 w) ((fun w h => (List.mem_append.mp h).elim (in_wsL_law_r24 w) ((fun w h => (List.mem_append.mp h).elim (in_wsL_law_r25 w) ((fun w h => (List.mem_append.mp h).elim (in_wsL_law_r26 w) ((fun w h => (List.mem_append.mp h).elim (in_wsL_law_r27 w) ((fun w h => (List.mem_append.mp h).elim (in_wsL_law_r28 w) ((fun w h => (List.mem_append.mp h).elim (in_wsL_law_r29 w) ((fun w h => (List.mem_append.mp h).elim (in_wsL_law_r30 w) ((fun w h => (List.mem_append.mp h).elim (in_wsL_law_r31 w) ((fun w h => (List.mem_append.mp h).elim (in_wsL_law_r32 w) ((fun w h => (List.mem_append.mp h).elim (in_wsL_law_r33 w) ((fun w h => (List.mem_append.mp h).elim (in_wsL_law_r34 w) ((fun w h => (List.mem_append.mp h).elim (in_wsL_law_r35 w) ((fun w h => (List.mem_append.mp h).elim (in_wsL_law_r36 w) (in_wsL_law_r37 w)) w)) w)) w)) w)) w)) w)) w)) w)) w)) w)) w)) w)) w)) w)) w)) w)) w)) w)) w)) w)) w)) w)) w)) w)) w)) w)) w)) w)) w)) w)) w)) w)) w)) w)) w)) w) (inX10 w)) w) (inX11 w)) w) (inX4 w)) w) (inX2 w)) w) (inX8 w)) w) (inX5 w)) w) (inX1 w)) w) (inX9 w)) w) (inX0 w)) w) (inX6 w)) w) (inX3 w)) w) (inX7 w)) w) ((fun w h => absurd h List.not_mem_nil) w))
