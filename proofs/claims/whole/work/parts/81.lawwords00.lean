set_option maxRecDepth 20000 in
theorem ggL_law_X10_init : GoodIn wsL_law wsX10_init := goodIn_r _ [8, 9, 10, 11, 12, 13, 14, 15, 16, 17, 18, 19, 20, 21, 22, 23, 24, 25, 26, 27, 28, 29, 30, 31, 32, 33, 34, 35, 36, 37, 38, 39, 40, 41, 42, 43, 44, 45, 46, 47, 48, 49, 50, 51, 52, 53, 54, 55, 56, 57, 58, 59, 60, 61, 62, 63, 64, 65, 66, 67, 68, 69, 70, 71, 72, 73, 74, 75, 76, 77, 78, 79, 80, 81, 82, 83, 84, 85, 86, 87, 88, 89, 90, 91, 92, 93, 94, 95, 96, 97, 98, 99, 100, 101, 102, 103, 104, 105, 106, 107, 108, 109, 110, 111, 112, 113, 114, 115, 116, 117, 118, 119, 120, 121, 122, 123, 124, 125, 126, 127, 128, 129, 937, 938, 939, 940, 941, 878, 879, 880, 881, 882, 883, 884, 885, 886, 887, 888, 889, 942, 943, 944, 945, 946, 947, 948, 949, 950, 951, 952, 953, 954, 955, 956, 957, 958, 959, 960, 961, 962, 963, 964, 965, 966, 967, 968, 969, 970, 971, 972, 973, 974, 975, 976, 977, 978, 979, 980, 981, 982, 983, 984, 985, 986, 987, 988, 989, 990, 991, 992, 993] (by decide +kernel) (by decide +kernel)
set_option maxRecDepth 20000 in
theorem gL_law_X10_init : GoodIn wsL_law (wsX10_init) := ggL_law_X10_init
set_option maxRecDepth 20000 in
theorem ggL_law_X11_init : GoodIn wsL_law wsX11_init := goodIn_r _ [132, 133, 10, 11, 54, 134, 135, 136, 137, 138, 139, 140, 141, 142, 143, 144, 145, 146, 74, 147, 148, 149, 150, 151, 152, 153, 154, 155, 156, 157, 158, 159, 160, 161, 162, 163, 164, 165, 166, 167, 168, 169, 5, 170, 171, 172, 173, 890, 891, 892, 893, 894, 895, 896, 897, 898, 899, 900, 901, 902, 903, 904, 905, 906, 907, 908, 909, 910, 911, 912, 913, 914, 915, 916, 917, 918, 919, 920, 921, 922, 923, 924, 925, 926, 927, 928, 929, 930, 931, 932, 933, 934, 935, 936] (by decide +kernel) (by decide +kernel)
set_option maxRecDepth 20000 in
theorem gL_law_X11_init : GoodIn wsL_law (wsX11_init) := ggL_law_X11_init
set_option maxRecDepth 20000 in
theorem ggL_law_X10_person : GoodIn wsL_law wsX10_person := goodIn_r _ [177, 15, 178, 179, 2, 180, 181, 182, 183, 14, 184, 185, 55, 56, 878, 879, 880, 881, 882, 883, 884, 885, 886, 887, 888, 889, 937, 938, 939, 940, 941] (by decide +kernel) (by decide +kernel)
set_option maxRecDepth 20000 in
theorem gL_law_X10_person : GoodIn wsL_law (wsV RL 13 RX10 yX10_person wsX10_person) := goodIn_app (goodIn_of _ (by decide +kernel)) ggL_law_X10_person
set_option maxRecDepth 20000 in
theorem ggL_law_X11_person : GoodIn wsL_law wsX11_person := goodIn_r _ [189, 190, 134, 135, 171, 172, 5, 173, 890, 891, 892, 893, 894, 895, 896, 897, 898, 899, 900, 901, 902, 903, 904, 905, 906, 907, 908, 909, 910, 911, 912, 913, 914, 915, 916, 917, 918, 919, 920, 921, 922, 923, 924, 925, 926, 927, 928, 929, 930, 931, 932, 933, 934, 935, 936] (by decide +kernel) (by decide +kernel)
set_option maxRecDepth 20000 in
theorem gL_law_X11_person : GoodIn wsL_law (wsV RL 17 RX11 yX11_person wsX11_person) := goodIn_app (goodIn_of _ (by decide +kernel)) ggL_law_X11_person
set_option maxRecDepth 20000 in
theorem ggL_law_X10_akin : GoodIn wsL_law wsX10_akin := goodIn_r _ [194, 15, 195, 196, 197, 14, 198, 58, 199, 200, 201, 202, 203, 185, 179, 2, 180, 204, 205, 206, 207, 878, 879, 880, 881, 882, 883, 884, 885, 886, 887, 888, 889, 937, 938, 939, 940, 941] (by decide +kernel) (by decide +kernel)
set_option maxRecDepth 20000 in
theorem gL_law_X10_akin : GoodIn wsL_law (wsV RL 18 RX10 yX10_akin wsX10_akin) := goodIn_app (goodIn_of _ (by decide +kernel)) ggL_law_X10_akin
set_option maxRecDepth 20000 in
theorem ggL_law_X11_akin : GoodIn wsL_law wsX11_akin := goodIn_r _ [211, 137, 212, 213, 214, 215, 5, 216, 190, 171, 172, 173, 890, 891, 892, 893, 894, 895, 896, 897, 898, 899, 900, 901, 902, 903, 904, 905, 906, 907, 908, 909, 910, 911, 912, 913, 914, 915, 916, 917, 918, 919, 920, 921, 922, 923, 924, 925, 926, 927, 928, 929, 930, 931, 932, 933, 934, 935, 936] (by decide +kernel) (by decide +kernel)
set_option maxRecDepth 20000 in
theorem gL_law_X11_akin : GoodIn wsL_law (wsV RL 22 RX11 yX11_akin wsX11_akin) := goodIn_app (goodIn_of _ (by decide +kernel)) ggL_law_X11_akin
set_option maxRecDepth 20000 in
theorem ggL_law_X10_field : GoodIn wsL_law wsX10_field := goodIn_r _ [220, 15, 19, 178, 179, 2, 180, 221, 201, 202, 14, 203, 185, 222, 223, 224, 18, 225, 226, 62, 63, 64, 65, 66, 67, 878, 879, 880, 881, 882, 883, 884, 885, 886, 887, 888, 889, 937, 938, 939, 940, 941, 942, 943, 944, 945, 946, 947, 948, 949, 950, 951, 952, 953] (by decide +kernel) (by decide +kernel)
set_option maxRecDepth 20000 in
theorem gL_law_X10_field : GoodIn wsL_law (wsV RL 23 RX10 yX10_field wsX10_field) := goodIn_app (goodIn_of _ (by decide +kernel)) ggL_law_X10_field
set_option maxRecDepth 20000 in
theorem ggL_law_X11_field : GoodIn wsL_law wsX11_field := goodIn_r _ [230, 231, 138, 139, 140, 141, 142, 171, 172, 5, 173, 213, 214, 215, 216, 190, 890, 891, 892, 893, 894, 895, 896, 897, 898, 899, 900, 901, 902, 903, 904, 905, 906, 907, 908, 909, 910, 911, 912, 913, 914, 915, 916, 917, 918, 919, 920, 921, 922, 923, 924, 925, 926, 927, 928, 929, 930, 931, 932, 933, 934, 935, 936] (by decide +kernel) (by decide +kernel)
set_option maxRecDepth 20000 in
theorem gL_law_X11_field : GoodIn wsL_law (wsV RL 27 RX11 yX11_field wsX11_field) := goodIn_app (goodIn_of _ (by decide +kernel)) ggL_law_X11_field
set_option maxRecDepth 20000 in
theorem ggL_law_X10_day : GoodIn wsL_law wsX10_day := goodIn_r _ [235, 19, 878, 879, 880, 881, 882, 883, 884, 885, 886, 887, 888, 889, 942, 943, 944, 945, 946, 947, 948, 949, 950, 951, 952, 953] (by decide +kernel) (by decide +kernel)
set_option maxRecDepth 20000 in
theorem gL_law_X10_day : GoodIn wsL_law (wsV RL 28 RX10 yX10_day wsX10_day) := goodIn_app (goodIn_of _ (by decide +kernel)) ggL_law_X10_day
set_option maxRecDepth 20000 in
theorem ggL_law_X11_day : GoodIn wsL_law wsX11_day := goodIn_r _ [239, 240, 890, 891, 892, 893, 894, 895, 896, 897, 898, 899, 900, 901, 902, 903, 904, 905, 906, 907, 908, 909, 910, 911, 912, 913, 914, 915, 916, 917, 918, 919, 920, 921, 922, 923, 924, 925, 926, 927, 928, 929, 930, 931, 932, 933, 934, 935, 936] (by decide +kernel) (by decide +kernel)
set_option maxRecDepth 20000 in
theorem gL_law_X11_day : GoodIn wsL_law (wsV RL 32 RX11 yX11_day wsX11_day) := goodIn_app (goodIn_of _ (by decide +kernel)) ggL_law_X11_day
set_option maxRecDepth 20000 in
theorem ggL_law_X10_transfer : GoodIn wsL_law wsX10_transfer := goodIn_r _ [244, 19, 15, 245, 246, 247, 18, 248, 226, 179, 2, 180, 221, 201, 202, 14, 203, 185, 249, 250, 251, 252, 67, 253, 254, 255, 256, 257, 258, 259, 260, 261, 262, 68, 69, 70, 263, 878, 879, 880, 881, 882, 883, 884, 885, 886, 887, 888, 889, 942, 943, 944, 945, 946, 947, 948, 949, 950, 951, 952, 953, 937, 938, 939, 940, 941] (by decide +kernel) (by decide +kernel)
set_option maxRecDepth 20000 in
theorem gL_law_X10_transfer : GoodIn wsL_law (wsV RL 33 RX10 yX10_transfer wsX10_transfer) := goodIn_app (goodIn_of _ (by decide +kernel)) ggL_law_X10_transfer
