set_option maxRecDepth 20000 in
theorem ggL_law_X11_transfer : GoodIn wsL_law wsX11_transfer := goodIn_r _ [267, 268, 269, 270, 271, 5, 272, 231, 171, 172, 173, 213, 214, 215, 216, 190, 273, 274, 275, 276, 240, 277, 278, 279, 280, 142, 143, 145, 144, 281, 282, 283, 284, 890, 891, 892, 893, 894, 895, 896, 897, 898, 899, 900, 901, 902, 903, 904, 905, 906, 907, 908, 909, 910, 911, 912, 913, 914, 915, 916, 917, 918, 919, 920, 921, 922, 923, 924, 925, 926, 927, 928, 929, 930, 931, 932, 933, 934, 935, 936] (by decide +kernel) (by decide +kernel)
set_option maxRecDepth 20000 in
theorem gL_law_X11_transfer : GoodIn wsL_law (wsV RL 36 RX11 yX11_transfer wsX11_transfer) := goodIn_app (goodIn_of _ (by decide +kernel)) ggL_law_X11_transfer
set_option maxRecDepth 20000 in
theorem ggL_law_X10_feed : GoodIn wsL_law wsX10_feed := goodIn_r _ [288, 23, 289, 290, 291, 22, 292, 293, 294, 295, 296, 297, 75, 878, 879, 880, 881, 882, 883, 884, 885, 886, 887, 888, 889, 954, 955] (by decide +kernel) (by decide +kernel)
set_option maxRecDepth 20000 in
theorem gL_law_X10_feed : GoodIn wsL_law (wsV RL 37 RX10 yX10_feed wsX10_feed) := goodIn_app (goodIn_of _ (by decide +kernel)) ggL_law_X10_feed
set_option maxRecDepth 20000 in
theorem ggL_law_X11_feed : GoodIn wsL_law wsX11_feed := goodIn_r _ [301, 302, 303, 304, 305, 5, 306, 147, 890, 891, 892, 893, 894, 895, 896, 897, 898, 899, 900, 901, 902, 903, 904, 905, 906, 907, 908, 909, 910, 911, 912, 913, 914, 915, 916, 917, 918, 919, 920, 921, 922, 923, 924, 925, 926, 927, 928, 929, 930, 931, 932, 933, 934, 935, 936] (by decide +kernel) (by decide +kernel)
set_option maxRecDepth 20000 in
theorem gL_law_X11_feed : GoodIn wsL_law (wsV RL 40 RX11 yX11_feed wsX11_feed) := goodIn_app (goodIn_of _ (by decide +kernel)) ggL_law_X11_feed
set_option maxRecDepth 20000 in
theorem ggL_law_X10_act : GoodIn wsL_law wsX10_act := goodIn_r _ [310, 23, 27, 50, 49, 311, 312, 313, 26, 314, 81, 315, 316, 317, 318, 319, 320, 80, 321, 115, 48, 116, 117, 113, 118, 119, 120, 121, 122, 123, 124, 125, 126, 127, 128, 129, 322, 323, 324, 325, 326, 327, 328, 329, 330, 331, 332, 333, 334, 335, 336, 337, 338, 339, 340, 341, 342, 343, 344, 345, 346, 347, 348, 349, 350, 351, 352, 353, 354, 355, 356, 357, 358, 359, 360, 361, 362, 363, 364, 365, 366, 367, 368, 369, 370, 371, 372, 373, 374, 375, 376, 377, 378, 379, 380, 381, 382, 383, 384, 385, 386, 387, 388, 389, 390, 391, 392, 393, 394, 395, 396, 397, 398, 399, 400, 401, 402, 403, 404, 405, 406, 179, 2, 180, 407, 408, 409, 410, 878, 879, 880, 881, 882, 883, 884, 885, 886, 887, 888, 889, 954, 955, 985, 986, 987, 988, 989, 990, 991, 992, 993, 956, 957, 958, 959, 960] (by decide +kernel) (by decide +kernel)
set_option maxRecDepth 20000 in
theorem gL_law_X10_act : GoodIn wsL_law (wsV RL 41 RX10 yX10_act wsX10_act) := goodIn_app (goodIn_of _ (by decide +kernel)) ggL_law_X10_act
set_option maxRecDepth 20000 in
theorem ggL_law_X11_act : GoodIn wsL_law wsX11_act := goodIn_r _ [414, 302, 148, 147, 415, 416, 149, 146, 417, 171, 172, 5, 173, 167, 168, 169, 170, 418, 419, 420, 421, 422, 423, 424, 425, 426, 427, 428, 429, 430, 431, 432, 433, 434, 435, 436, 437, 438, 439, 440, 441, 442, 443, 444, 445, 446, 447, 448, 890, 891, 892, 893, 894, 895, 896, 897, 898, 899, 900, 901, 902, 903, 904, 905, 906, 907, 908, 909, 910, 911, 912, 913, 914, 915, 916, 917, 918, 919, 920, 921, 922, 923, 924, 925, 926, 927, 928, 929, 930, 931, 932, 933, 934, 935, 936] (by decide +kernel) (by decide +kernel)
set_option maxRecDepth 20000 in
theorem gL_law_X11_act : GoodIn wsL_law (wsV RL 45 RX11 yX11_act wsX11_act) := goodIn_app (goodIn_of _ (by decide +kernel)) ggL_law_X11_act
set_option maxRecDepth 20000 in
theorem ggL_law_X10_fault : GoodIn wsL_law wsX10_fault := goodIn_r _ [452, 27, 878, 879, 880, 881, 882, 883, 884, 885, 886, 887, 888, 889, 956, 957, 958, 959, 960] (by decide +kernel) (by decide +kernel)
set_option maxRecDepth 20000 in
theorem gL_law_X10_fault : GoodIn wsL_law (wsV RL 46 RX10 yX10_fault wsX10_fault) := goodIn_app (goodIn_of _ (by decide +kernel)) ggL_law_X10_fault
set_option maxRecDepth 20000 in
theorem ggL_law_X11_fault : GoodIn wsL_law wsX11_fault := goodIn_r _ [456, 149, 890, 891, 892, 893, 894, 895, 896, 897, 898, 899, 900, 901, 902, 903, 904, 905, 906, 907, 908, 909, 910, 911, 912, 913, 914, 915, 916, 917, 918, 919, 920, 921, 922, 923, 924, 925, 926, 927, 928, 929, 930, 931, 932, 933, 934, 935, 936] (by decide +kernel) (by decide +kernel)
set_option maxRecDepth 20000 in
theorem gL_law_X11_fault : GoodIn wsL_law (wsV RL 50 RX11 yX11_fault wsX11_fault) := goodIn_app (goodIn_of _ (by decide +kernel)) ggL_law_X11_fault
set_option maxRecDepth 20000 in
theorem ggL_law_X10_told : GoodIn wsL_law wsX10_told := goodIn_r _ [460, 19, 49, 31, 15, 35, 245, 246, 247, 18, 248, 226, 179, 2, 180, 461, 462, 463, 464, 62, 253, 465, 466, 467, 468, 63, 469, 470, 471, 472, 64, 473, 474, 475, 476, 65, 249, 250, 251, 252, 67, 477, 478, 479, 480, 481, 482, 483, 484, 485, 48, 486, 113, 487, 488, 489, 30, 490, 85, 491, 492, 493, 494, 495, 496, 497, 498, 499, 500, 501, 14, 502, 503, 504, 505, 506, 55, 200, 201, 202, 203, 185, 204, 205, 206, 207, 58, 507, 508, 509, 34, 510, 511, 94, 92, 93, 512, 513, 514, 515, 516, 517, 518, 519, 520, 521, 522, 121, 523, 524, 525, 526, 258, 68, 878, 879, 880, 881, 882, 883, 884, 885, 886, 887, 888, 889, 985, 986, 987, 988, 989, 990, 991, 992, 993, 942, 943, 944, 945, 946, 947, 948, 949, 950, 951, 952, 953, 961, 962, 963, 964, 965, 966, 967, 968, 969, 970, 937, 938, 939, 940, 941, 971, 972, 973, 974] (by decide +kernel) (by decide +kernel)
set_option maxRecDepth 20000 in
theorem gL_law_X10_told : GoodIn wsL_law (wsV RL 51 RX10 yX10_told wsX10_told) := goodIn_app (goodIn_of _ (by decide +kernel)) ggL_law_X10_told
set_option maxRecDepth 20000 in
theorem ggL_law_X11_told : GoodIn wsL_law wsX11_told := goodIn_r _ [530, 138, 139, 140, 141, 269, 270, 271, 5, 272, 231, 171, 172, 173, 273, 274, 275, 276, 240, 277, 278, 279, 280, 142, 268, 143, 145, 144, 531, 532, 533, 534, 146, 535, 536, 537, 538, 134, 137, 539, 540, 541, 542, 543, 153, 151, 152, 544, 545, 546, 547, 548, 549, 550, 551, 552, 553, 554, 555, 556, 557, 890, 891, 892, 893, 894, 895, 896, 897, 898, 899, 900, 901, 902, 903, 904, 905, 906, 907, 908, 909, 910, 911, 912, 913, 914, 915, 916, 917, 918, 919, 920, 921, 922, 923, 924, 925, 926, 927, 928, 929, 930, 931, 932, 933, 934, 935, 936] (by decide +kernel) (by decide +kernel)
set_option maxRecDepth 20000 in
theorem gL_law_X11_told : GoodIn wsL_law (wsV RL 54 RX11 yX11_told wsX11_told) := goodIn_app (goodIn_of _ (by decide +kernel)) ggL_law_X11_told
set_option maxRecDepth 20000 in
theorem ggL_law_X10_owned : GoodIn wsL_law wsX10_owned := goodIn_r _ [561, 19, 245, 246, 247, 18, 248, 226, 179, 2, 180, 562, 563, 564, 565, 66, 258, 70, 68, 69, 253, 878, 879, 880, 881, 882, 883, 884, 885, 886, 887, 888, 889, 942, 943, 944, 945, 946, 947, 948, 949, 950, 951, 952, 953] (by decide +kernel) (by decide +kernel)
set_option maxRecDepth 20000 in
theorem gL_law_X10_owned : GoodIn wsL_law (wsV RL 55 RX10 yX10_owned wsX10_owned) := goodIn_app (goodIn_of _ (by decide +kernel)) ggL_law_X10_owned
set_option maxRecDepth 20000 in
theorem ggL_law_X11_owned : GoodIn wsL_law wsX11_owned := goodIn_r _ [569, 269, 270, 271, 5, 272, 231, 171, 172, 173, 277, 278, 279, 280, 142, 268, 143, 145, 144, 890, 891, 892, 893, 894, 895, 896, 897, 898, 899, 900, 901, 902, 903, 904, 905, 906, 907, 908, 909, 910, 911, 912, 913, 914, 915, 916, 917, 918, 919, 920, 921, 922, 923, 924, 925, 926, 927, 928, 929, 930, 931, 932, 933, 934, 935, 936] (by decide +kernel) (by decide +kernel)
set_option maxRecDepth 20000 in
theorem gL_law_X11_owned : GoodIn wsL_law (wsV RL 58 RX11 yX11_owned wsX11_owned) := goodIn_app (goodIn_of _ (by decide +kernel)) ggL_law_X11_owned
