set_option maxRecDepth 20000 in
theorem ggL_law_X11_rings : GoodIn wsL_law wsX11_rings := goodIn_r _ [787, 157, 788, 789, 790, 5, 791, 190, 171, 172, 173, 792, 793, 794, 795, 156, 158, 135, 796, 797, 798, 799, 231, 273, 274, 275, 276, 240, 277, 278, 279, 280, 142, 268, 143, 145, 144, 800, 801, 802, 803, 138, 740, 715, 317, 716, 890, 891, 892, 893, 894, 895, 896, 897, 898, 899, 900, 901, 902, 903, 904, 905, 906, 907, 908, 909, 910, 911, 912, 913, 914, 915, 916, 917, 918, 919, 920, 921, 922, 923, 924, 925, 926, 927, 928, 929, 930, 931, 932, 933, 934, 935, 936] (by decide +kernel) (by decide +kernel)
set_option maxRecDepth 20000 in
theorem gL_law_X11_rings : GoodIn wsL_law (wsV RL 84 RX11 yX11_rings wsX11_rings) := goodIn_app (goodIn_of _ (by decide +kernel)) ggL_law_X11_rings
set_option maxRecDepth 20000 in
theorem ggL_law_X10_swap : GoodIn wsL_law wsX10_swap := goodIn_r _ [807, 43, 19, 745, 746, 747, 2, 748, 15, 695, 696, 697, 14, 698, 185, 200, 201, 202, 203, 179, 180, 749, 750, 751, 42, 752, 753, 316, 317, 318, 754, 594, 595, 755, 756, 104, 105, 106, 107, 108, 757, 707, 708, 709, 56, 758, 759, 760, 18, 761, 226, 67, 762, 462, 463, 464, 62, 253, 246, 247, 248, 763, 764, 765, 766, 767, 768, 769, 770, 771, 715, 716, 772, 773, 774, 775, 776, 777, 778, 779, 808, 809, 810, 811, 254, 255, 256, 257, 258, 812, 813, 814, 815, 259, 260, 261, 262, 68, 69, 70, 263, 878, 879, 880, 881, 882, 883, 884, 885, 886, 887, 888, 889, 942, 943, 944, 945, 946, 947, 948, 949, 950, 951, 952, 953, 937, 938, 939, 940, 941, 978, 979, 980, 981, 982, 983, 984] (by decide +kernel) (by decide +kernel)
set_option maxRecDepth 20000 in
theorem gL_law_X10_swap : GoodIn wsL_law (wsV RL 85 RX10 yX10_swap wsX10_swap) := goodIn_app (goodIn_of _ (by decide +kernel)) ggL_law_X10_swap
set_option maxRecDepth 20000 in
theorem ggL_law_X11_swap : GoodIn wsL_law wsX11_swap := goodIn_r _ [819, 157, 156, 268, 231, 788, 789, 790, 5, 791, 190, 171, 172, 173, 792, 793, 794, 795, 158, 135, 796, 797, 798, 799, 273, 274, 275, 276, 240, 277, 278, 279, 280, 142, 143, 145, 144, 800, 801, 802, 803, 138, 740, 715, 317, 716, 551, 552, 553, 281, 282, 283, 284, 890, 891, 892, 893, 894, 895, 896, 897, 898, 899, 900, 901, 902, 903, 904, 905, 906, 907, 908, 909, 910, 911, 912, 913, 914, 915, 916, 917, 918, 919, 920, 921, 922, 923, 924, 925, 926, 927, 928, 929, 930, 931, 932, 933, 934, 935, 936] (by decide +kernel) (by decide +kernel)
set_option maxRecDepth 20000 in
theorem gL_law_X11_swap : GoodIn wsL_law (wsV RL 88 RX11 yX11_swap wsX11_swap) := goodIn_app (goodIn_of _ (by decide +kernel)) ggL_law_X11_swap
set_option maxRecDepth 20000 in
theorem ggL_law_X10_sell : GoodIn wsL_law wsX10_sell := goodIn_r _ [823, 19, 15, 824, 49, 45, 44, 825, 826, 245, 246, 247, 18, 248, 226, 179, 2, 180, 221, 201, 202, 14, 203, 185, 477, 478, 479, 480, 481, 466, 467, 468, 63, 253, 482, 470, 471, 472, 64, 483, 484, 485, 48, 486, 113, 827, 828, 829, 830, 10, 11, 831, 832, 833, 834, 594, 317, 595, 835, 836, 837, 838, 878, 879, 880, 881, 882, 883, 884, 885, 886, 887, 888, 889, 985, 986, 987, 988, 989, 990, 991, 992, 993, 994, 995, 996, 997, 998, 999, 1000, 1001, 1002, 942, 943, 944, 945, 946, 947, 948, 949, 950, 951, 952, 953, 937, 938, 939, 940, 941] (by decide +kernel) (by decide +kernel)
set_option maxRecDepth 20000 in
theorem gL_law_X10_sell : GoodIn wsL_law (wsV RL 89 RX10 yX10_sell wsX10_sell) := goodIn_app (goodIn_of _ (by decide +kernel)) ggL_law_X10_sell
set_option maxRecDepth 20000 in
theorem ggL_law_X11_sell : GoodIn wsL_law wsX11_sell := goodIn_r _ [842, 843, 159, 160, 161, 146, 162, 164, 166, 269, 270, 271, 5, 272, 231, 171, 172, 173, 213, 214, 215, 216, 190, 531, 532, 533, 534, 139, 140, 890, 891, 892, 893, 894, 895, 896, 897, 898, 899, 900, 901, 902, 903, 904, 905, 906, 907, 908, 909, 910, 911, 912, 913, 914, 915, 916, 917, 918, 919, 920, 921, 922, 923, 924, 925, 926, 927, 928, 929, 930, 931, 932, 933, 934, 935, 936] (by decide +kernel) (by decide +kernel)
set_option maxRecDepth 20000 in
theorem gL_law_X11_sell : GoodIn wsL_law (wsV RL 92 RX11 yX11_sell wsX11_sell) := goodIn_app (goodIn_of _ (by decide +kernel)) ggL_law_X11_sell
set_option maxRecDepth 20000 in
theorem ggL_law_X10_year : GoodIn wsL_law wsX10_year := goodIn_r _ [847, 848, 849, 850, 2, 851, 824, 45, 178, 179, 180, 852, 853, 854, 826, 855, 835, 836, 856, 838, 837, 857, 878, 879, 880, 881, 882, 883, 884, 885, 886, 887, 888, 889, 994, 995, 996, 997, 998, 999, 1000, 1001, 1002] (by decide +kernel) (by decide +kernel)
set_option maxRecDepth 20000 in
theorem gL_law_X10_year : GoodIn wsL_law (wsV RL 93 RX10 yX10_year wsX10_year) := goodIn_app (goodIn_of _ (by decide +kernel)) ggL_law_X10_year
set_option maxRecDepth 20000 in
theorem ggL_law_X11_year : GoodIn wsL_law wsX11_year := goodIn_r _ [861, 843, 164, 166, 165, 161, 162, 163, 171, 172, 5, 173, 890, 891, 892, 893, 894, 895, 896, 897, 898, 899, 900, 901, 902, 903, 904, 905, 906, 907, 908, 909, 910, 911, 912, 913, 914, 915, 916, 917, 918, 919, 920, 921, 922, 923, 924, 925, 926, 927, 928, 929, 930, 931, 932, 933, 934, 935, 936] (by decide +kernel) (by decide +kernel)
set_option maxRecDepth 20000 in
theorem gL_law_X11_year : GoodIn wsL_law (wsV RL 97 RX11 yX11_year wsX11_year) := goodIn_app (goodIn_of _ (by decide +kernel)) ggL_law_X11_year
set_option maxRecDepth 20000 in
theorem ggL_law_X10_sale : GoodIn wsL_law wsX10_sale := goodIn_r _ [865, 848, 849, 850, 2, 851, 824, 45, 178, 179, 180, 994, 995, 996, 997, 998, 999, 1000, 1001, 1002, 878, 879, 880, 881, 882, 883, 884, 885, 886, 887, 888, 889] (by decide +kernel) (by decide +kernel)
set_option maxRecDepth 20000 in
theorem gL_law_X10_sale : GoodIn wsL_law (wsV RL 98 RX10 yX10_sale wsX10_sale) := goodIn_app (goodIn_of _ (by decide +kernel)) ggL_law_X10_sale
set_option maxRecDepth 20000 in
theorem ggL_law_X11_sale : GoodIn wsL_law wsX11_sale := goodIn_r _ [869, 843, 159, 160, 161, 163, 164, 165, 171, 172, 5, 173, 890, 891, 892, 893, 894, 895, 896, 897, 898, 899, 900, 901, 902, 903, 904, 905, 906, 907, 908, 909, 910, 911, 912, 913, 914, 915, 916, 917, 918, 919, 920, 921, 922, 923, 924, 925, 926, 927, 928, 929, 930, 931, 932, 933, 934, 935, 936] (by decide +kernel) (by decide +kernel)
set_option maxRecDepth 20000 in
theorem gL_law_X11_sale : GoodIn wsL_law (wsV RL 101 RX11 yX11_sale wsX11_sale) := goodIn_app (goodIn_of _ (by decide +kernel)) ggL_law_X11_sale
set_option maxRecDepth 20000 in
theorem ggL_law_X10_count : GoodIn wsL_law wsX10_count := goodIn_r _ [873, 19, 15, 49, 824, 23, 878, 879, 880, 881, 882, 883, 884, 885, 886, 887, 888, 889, 942, 943, 944, 945, 946, 947, 948, 949, 950, 951, 952, 953, 937, 938, 939, 940, 941, 985, 986, 987, 988, 989, 990, 991, 992, 993, 954, 955] (by decide +kernel) (by decide +kernel)
set_option maxRecDepth 20000 in
theorem gL_law_X10_count : GoodIn wsL_law (wsV RL 102 RX10 yX10_count wsX10_count) := goodIn_app (goodIn_of _ (by decide +kernel)) ggL_law_X10_count
set_option maxRecDepth 20000 in
theorem ggL_law_X11_count : GoodIn wsL_law wsX11_count := goodIn_r _ [877, 240, 190, 231, 268, 417, 843, 302, 212, 890, 891, 892, 893, 894, 895, 896, 897, 898, 899, 900, 901, 902, 903, 904, 905, 906, 907, 908, 909, 910, 911, 912, 913, 914, 915, 916, 917, 918, 919, 920, 921, 922, 923, 924, 925, 926, 927, 928, 929, 930, 931, 932, 933, 934, 935, 936] (by decide +kernel) (by decide +kernel)
set_option maxRecDepth 20000 in
theorem gL_law_X11_count : GoodIn wsL_law (wsV RL 105 RX11 yX11_count wsX11_count) := goodIn_app (goodIn_of _ (by decide +kernel)) ggL_law_X11_count
