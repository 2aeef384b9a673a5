set_option maxRecDepth 20000 in
theorem in_wsL_law_r13 : ∀ w ∈ wsL_law_r13, w ∈ lw_tbl := mem_r _ [452, 453, 454, 455, 456, 162, 457, 458, 459, 460, 1089, 1090, 1091, 1092, 922, 1093, 1095, 26, 1096, 461, 462, 463, 464, 465] (by decide +kernel)
set_option maxRecDepth 20000 in
theorem in_wsL_law_r14 : ∀ w ∈ wsL_law_r14, w ∈ lw_tbl := mem_r _ [466, 467, 468, 469, 470, 59, 471, 177, 179, 178, 473, 475, 1, 476, 477, 478, 479, 480, 481, 482, 483, 484, 485, 486] (by decide +kernel)
set_option maxRecDepth 20000 in
theorem in_wsL_law_r15 : ∀ w ∈ wsL_law_r15, w ∈ lw_tbl := mem_r _ [488, 2, 489, 490, 492, 3, 493, 495, 497, 4, 498, 499, 500, 501, 60, 502, 1249, 503, 504, 505, 506, 507, 1250, 509] (by decide +kernel)
set_option maxRecDepth 20000 in
theorem in_wsL_law_r16 : ∀ w ∈ wsL_law_r16, w ∈ lw_tbl := mem_r _ [510, 511, 512, 513, 514, 515, 516, 517, 518, 61, 519, 520, 521, 522, 523, 525, 526, 62, 527, 528, 529, 63, 530, 531] (by decide +kernel)
set_option maxRecDepth 20000 in
theorem in_wsL_law_r17 : ∀ w ∈ wsL_law_r17, w ∈ lw_tbl := mem_r _ [532, 533, 534, 535, 536, 537, 538, 539, 540, 541, 543, 545, 554, 556, 5, 557, 562, 6, 563, 564, 566, 7, 567, 569] (by decide +kernel)
set_option maxRecDepth 20000 in
theorem in_wsL_law_r18 : ∀ w ∈ wsL_law_r18, w ∈ lw_tbl := mem_r _ [571, 8, 572, 1097, 1098, 1099, 1100, 923, 924, 919, 1101, 1103, 27, 1104, 1105, 1107, 28, 1108, 1109, 927, 1122, 1123, 1124, 1125] (by decide +kernel)
set_option maxRecDepth 20000 in
theorem in_wsL_law_r19 : ∀ w ∈ wsL_law_r19, w ∈ lw_tbl := mem_r _ [1126, 1127, 1128, 1129, 1110, 1112, 29, 1113, 926, 1114, 1116, 30, 1117, 1118, 1120, 31, 1121, 573, 574, 575, 576, 1130, 1131, 1132] (by decide +kernel)
set_option maxRecDepth 20000 in
theorem in_wsL_law_r20 : ∀ w ∈ wsL_law_r20, w ∈ lw_tbl := mem_r _ [1133, 577, 578, 579, 580, 581, 582, 583, 584, 585, 586, 587, 588, 589, 590, 591, 592, 593, 594, 595, 596, 597, 598, 599] (by decide +kernel)
set_option maxRecDepth 20000 in
theorem in_wsL_law_r21 : ∀ w ∈ wsL_law_r21, w ∈ lw_tbl := mem_r _ [600, 601, 602, 603, 604, 605, 606, 607, 608, 609, 610, 611, 613, 9, 614, 615, 617, 616, 64, 619, 620, 621, 622, 623] (by decide +kernel)
set_option maxRecDepth 20000 in
theorem in_wsL_law_r22 : ∀ w ∈ wsL_law_r22, w ∈ lw_tbl := mem_r _ [624, 625, 626, 627, 628, 629, 630, 244, 631, 632, 65, 633, 634, 635, 636, 637, 638, 639, 640, 641, 642, 643, 644, 1134] (by decide +kernel)
set_option maxRecDepth 20000 in
theorem in_wsL_law_r23 : ∀ w ∈ wsL_law_r23, w ∈ lw_tbl := mem_r _ [1135, 1136, 1137, 1138, 1140, 32, 1141, 1142, 1144, 33, 1145, 1146, 1148, 34, 1149, 931, 1150, 1151, 1152, 1153, 1155, 35, 1156, 1157] (by decide +kernel)
set_option maxRecDepth 20000 in
theorem in_wsL_law_r24 : ∀ w ∈ wsL_law_r24, w ∈ lw_tbl := mem_r _ [1158, 1159, 1160, 1162, 36, 1163, 645, 646, 647, 648, 649, 650, 651, 652, 1085, 1086, 1087, 1088, 653, 654, 655, 656, 657, 658] (by decide +kernel)
set_option maxRecDepth 20000 in
theorem in_wsL_law_r25 : ∀ w ∈ wsL_law_r25, w ∈ lw_tbl := mem_r _ [659, 660, 203, 207, 205, 209, 661, 662, 663, 664, 665, 666, 667, 668, 669, 670, 671, 672, 673, 674, 675, 676, 677, 678] (by decide +kernel)
