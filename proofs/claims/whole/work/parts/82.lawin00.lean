theorem mem_r {big : List Cond} (ws : List Cond) (ps : List Nat) (hp : ws = ps.filterMap (fun i => big[i]?)) : ∀ w ∈ ws, w ∈ big := by
  intro w hw
  rw [hp] at hw
  obtain ⟨i, -, hi⟩ := List.mem_filterMap.mp hw
  first | exact List.mem_of_getElem? hi | exact List.getElem?_mem hi
set_option maxRecDepth 20000 in
theorem in_wsL_law_r1 : ∀ w ∈ wsL_law_r1, w ∈ lw_tbl := mem_r _ [67, 68, 47, 889, 890, 58, 69, 70, 71, 72, 73, 74, 75, 76, 48, 349, 101, 102, 49, 350, 154, 155, 50, 351] (by decide +kernel)
set_option maxRecDepth 20000 in
theorem in_wsL_law_r2 : ∀ w ∈ wsL_law_r2, w ∈ lw_tbl := mem_r _ [170, 171, 51, 352, 193, 194, 52, 353, 235, 236, 53, 354, 254, 255, 54, 355, 272, 273, 55, 356, 301, 357, 303, 304] (by decide +kernel)
set_option maxRecDepth 20000 in
theorem in_wsL_law_r3 : ∀ w ∈ wsL_law_r3, w ∈ lw_tbl := mem_r _ [56, 359, 360, 78, 79, 80, 99, 81, 82, 100, 83, 104, 105, 106, 107, 108, 109, 110, 112, 114, 118, 120, 122, 157] (by decide +kernel)
set_option maxRecDepth 20000 in
theorem in_wsL_law_r4 : ∀ w ∈ wsL_law_r4, w ∈ lw_tbl := mem_r _ [158, 159, 169, 160, 172, 173, 174, 175, 180, 176, 196, 197, 198, 199, 200, 201, 202, 238, 239, 240, 241, 242, 243, 257] (by decide +kernel)
set_option maxRecDepth 20000 in
theorem in_wsL_law_r5 : ∀ w ∈ wsL_law_r5, w ∈ lw_tbl := mem_r _ [258, 259, 262, 260, 263, 275, 276, 277, 278, 279, 280, 281, 282, 305, 306, 307, 308, 316, 309, 311, 0, 312, 317, 318] (by decide +kernel)
set_option maxRecDepth 20000 in
theorem in_wsL_law_r6 : ∀ w ∈ wsL_law_r6, w ∈ lw_tbl := mem_r _ [319, 321, 322, 324, 326, 328, 313, 314, 57, 315, 891, 892, 893, 894, 907, 908, 1044, 909, 910, 911, 912, 913, 914, 915] (by decide +kernel)
set_option maxRecDepth 20000 in
theorem in_wsL_law_r7 : ∀ w ∈ wsL_law_r7, w ∈ lw_tbl := mem_r _ [916, 917, 918, 920, 921, 925, 928, 932, 933, 934, 935, 936, 937, 938, 939, 941, 942, 943, 944, 945, 946, 947, 948, 895] (by decide +kernel)
set_option maxRecDepth 20000 in
theorem in_wsL_law_r8 : ∀ w ∈ wsL_law_r8, w ∈ lw_tbl := mem_r _ [897, 20, 898, 899, 900, 901, 386, 387, 388, 389, 390, 391, 392, 393, 394, 395, 396, 84, 1045, 1046, 1047, 1048, 903, 397] (by decide +kernel)
set_option maxRecDepth 20000 in
theorem in_wsL_law_r9 : ∀ w ∈ wsL_law_r9, w ∈ lw_tbl := mem_r _ [398, 399, 400, 401, 402, 403, 404, 86, 405, 406, 407, 408, 410, 411, 412, 413, 1049, 1050, 1051, 1052, 906, 1053, 1055, 21] (by decide +kernel)
set_option maxRecDepth 20000 in
theorem in_wsL_law_r10 : ∀ w ∈ wsL_law_r10, w ∈ lw_tbl := mem_r _ [1056, 414, 415, 416, 417, 418, 419, 420, 421, 422, 115, 1057, 1058, 1059, 1060, 904, 423, 424, 425, 426, 1061, 1062, 1063, 1064] (by decide +kernel)
set_option maxRecDepth 20000 in
theorem in_wsL_law_r11 : ∀ w ∈ wsL_law_r11, w ∈ lw_tbl := mem_r _ [902, 427, 428, 429, 430, 431, 432, 433, 434, 436, 437, 438, 439, 440, 441, 442, 443, 444, 125, 445, 446, 447, 448, 128] (by decide +kernel)
set_option maxRecDepth 20000 in
theorem in_wsL_law_r12 : ∀ w ∈ wsL_law_r12, w ∈ lw_tbl := mem_r _ [1065, 1066, 1067, 1068, 905, 1069, 1071, 22, 1072, 1073, 1075, 23, 1076, 1077, 1079, 24, 1080, 1081, 1083, 25, 1084, 449, 450, 451] (by decide +kernel)
