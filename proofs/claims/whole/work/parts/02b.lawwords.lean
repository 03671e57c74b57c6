theorem ap_in {a b c : List Cond} (ha : ∀ w ∈ a, w ∈ c) (hb : ∀ w ∈ b, w ∈ c) : ∀ w ∈ a ++ b, w ∈ c := fun w h => (List.mem_append.mp h).elim (ha w) (hb w)
set_option maxRecDepth 20000 in
theorem lin_wsL_law_r1 : ∀ w ∈ wsL_law_r1, w ∈ lw_tbl := fun w h => (goodIn_r (big := lw_tbl) wsL_law_r1 [59, 60, 40, 854, 855, 49, 61, 62, 63, 64, 65, 66, 67, 68, 41, 287, 83, 84, 42, 288, 186, 187, 44, 289] (by decide +kernel) (by decide +kernel) w h).1
set_option maxRecDepth 20000 in
theorem lin_wsL_law_r2 : ∀ w ∈ wsL_law_r2, w ∈ lw_tbl := fun w h => (goodIn_r (big := lw_tbl) wsL_law_r2 [290, 202, 203, 45, 291, 230, 231, 46, 292, 261, 262, 47, 293, 274, 275, 48, 294, 70, 71, 72, 82, 73, 85, 86] (by decide +kernel) (by decide +kernel) w h).1
set_option maxRecDepth 20000 in
theorem lin_wsL_law_r3 : ∀ w ∈ wsL_law_r3, w ∈ lw_tbl := fun w h => (goodIn_r (big := lw_tbl) wsL_law_r3 [87, 88, 89, 90, 43, 156, 153, 92, 93, 94, 111, 95, 96, 97, 112, 113, 114, 115, 131, 133, 135, 136, 137, 147] (by decide +kernel) (by decide +kernel) w h).1
set_option maxRecDepth 20000 in
theorem lin_wsL_law_r4 : ∀ w ∈ wsL_law_r4, w ∈ lw_tbl := fun w h => (goodIn_r (big := lw_tbl) wsL_law_r4 [151, 116, 117, 118, 119, 121, 122, 123, 125, 0, 126, 138, 141, 143, 145, 127, 128, 129, 130, 98, 189, 190, 191, 192] (by decide +kernel) (by decide +kernel) w h).1
set_option maxRecDepth 20000 in
theorem lin_wsL_law_r5 : ∀ w ∈ wsL_law_r5, w ∈ lw_tbl := fun w h => (goodIn_r (big := lw_tbl) wsL_law_r5 [194, 193, 205, 206, 207, 208, 209, 210, 233, 234, 235, 264, 265, 266, 267, 268, 277, 278, 279, 280, 281, 856, 857, 858] (by decide +kernel) (by decide +kernel) w h).1
set_option maxRecDepth 20000 in
theorem lin_wsL_law_r6 : ∀ w ∈ wsL_law_r6, w ∈ lw_tbl := fun w h => (goodIn_r (big := lw_tbl) wsL_law_r6 [859, 866, 869, 870, 871, 874, 886, 887, 889, 890, 891, 892, 961, 893, 873, 860, 862, 15, 863, 864, 865, 867, 868, 872] (by decide +kernel) (by decide +kernel) w h).1
set_option maxRecDepth 20000 in
theorem lin_wsL_law_r7 : ∀ w ∈ wsL_law_r7, w ∈ lw_tbl := fun w h => (goodIn_r (big := lw_tbl) wsL_law_r7 [312, 313, 314, 315, 316, 317, 318, 319, 320, 962, 963, 964, 965, 966, 967, 968, 969, 970, 972, 16, 973, 321, 322, 323] (by decide +kernel) (by decide +kernel) w h).1
set_option maxRecDepth 20000 in
theorem lin_wsL_law_r8 : ∀ w ∈ wsL_law_r8, w ∈ lw_tbl := fun w h => (goodIn_r (big := lw_tbl) wsL_law_r8 [324, 76, 325, 326, 327, 328, 74, 974, 975, 976, 977, 978, 979, 875, 329, 330, 331, 332, 333, 334, 335, 336, 980, 981] (by decide +kernel) (by decide +kernel) w h).1
set_option maxRecDepth 20000 in
theorem lin_wsL_law_r9 : ∀ w ∈ wsL_law_r9, w ∈ lw_tbl := fun w h => (goodIn_r (big := lw_tbl) wsL_law_r9 [982, 983, 337, 338, 339, 340, 341, 342, 343, 344, 346, 348, 1, 349, 350, 351, 352, 353, 354, 355, 356, 50, 357, 358] (by decide +kernel) (by decide +kernel) w h).1
set_option maxRecDepth 20000 in
theorem lin_wsL_law_r10 : ∀ w ∈ wsL_law_r10, w ∈ lw_tbl := fun w h => (goodIn_r (big := lw_tbl) wsL_law_r10 [359, 360, 361, 1195, 362, 363, 364, 365, 366, 1194, 368, 369, 370, 371, 372, 373, 374, 375, 376, 377, 51, 378, 382, 383] (by decide +kernel) (by decide +kernel) w h).1
set_option maxRecDepth 20000 in
theorem lin_wsL_law_r11 : ∀ w ∈ wsL_law_r11, w ∈ lw_tbl := fun w h => (goodIn_r (big := lw_tbl) wsL_law_r11 [52, 384, 385, 386, 387, 379, 380, 381, 388, 389, 390, 391, 392, 53, 393, 394, 395, 396, 397, 398, 399, 400, 401, 402] (by decide +kernel) (by decide +kernel) w h).1
set_option maxRecDepth 20000 in
theorem lin_wsL_law_r12 : ∀ w ∈ wsL_law_r12, w ∈ lw_tbl := fun w h => (goodIn_r (big := lw_tbl) wsL_law_r12 [403, 404, 405, 406, 407, 408, 409, 411, 412, 54, 413, 414, 415, 416, 417, 418, 419, 420, 422, 424, 426, 427, 428, 429] (by decide +kernel) (by decide +kernel) w h).1
set_option maxRecDepth 20000 in
theorem lin_wsL_law_r13 : ∀ w ∈ wsL_law_r13, w ∈ lw_tbl := fun w h => (goodIn_r (big := lw_tbl) wsL_law_r13 [430, 55, 431, 432, 433, 434, 435, 436, 437, 438, 439, 440, 441, 442, 443, 984, 985, 986, 987, 988, 989, 990, 991, 992] (by decide +kernel) (by decide +kernel) w h).1
set_option maxRecDepth 20000 in
theorem lin_wsL_law_r14 : ∀ w ∈ wsL_law_r14, w ∈ lw_tbl := fun w h => (goodIn_r (big := lw_tbl) wsL_law_r14 [993, 446, 447, 448, 449, 450, 451, 452, 453, 454, 455, 456, 457, 458, 459, 461, 2, 462, 463, 464, 465, 466, 468, 469] (by decide +kernel) (by decide +kernel) w h).1
set_option maxRecDepth 20000 in
theorem lin_wsL_law_r15 : ∀ w ∈ wsL_law_r15, w ∈ lw_tbl := fun w h => (goodIn_r (big := lw_tbl) wsL_law_r15 [470, 471, 56, 472, 473, 474, 475, 477, 478, 479, 994, 995, 996, 997, 998, 480, 481, 482, 483, 484, 485, 486, 487, 488] (by decide +kernel) (by decide +kernel) w h).1
set_option maxRecDepth 20000 in
theorem lin_wsL_law_r16 : ∀ w ∈ wsL_law_r16, w ∈ lw_tbl := fun w h => (goodIn_r (big := lw_tbl) wsL_law_r16 [489, 490, 491, 999, 1000, 1001, 1002, 1003, 1005, 17, 1006, 492, 493, 494, 495, 139, 496, 497, 498, 499, 500, 501, 502, 503] (by decide +kernel) (by decide +kernel) w h).1
set_option maxRecDepth 20000 in
theorem lin_wsL_law_r17 : ∀ w ∈ wsL_law_r17, w ∈ lw_tbl := fun w h => (goodIn_r (big := lw_tbl) wsL_law_r17 [504, 1007, 1008, 1009, 1010, 1011, 1013, 18, 1014, 505, 506, 507, 508, 158, 100, 509, 510, 511, 512, 513, 514, 515, 516, 518] (by decide +kernel) (by decide +kernel) w h).1
set_option maxRecDepth 20000 in
theorem lin_wsL_law_r18 : ∀ w ∈ wsL_law_r18, w ∈ lw_tbl := fun w h => (goodIn_r (big := lw_tbl) wsL_law_r18 [519, 1015, 1016, 1017, 1018, 1019, 520, 521, 522, 523, 524, 1020, 1021, 1022, 1023, 525, 526, 527, 528, 155, 1024, 1025, 1026, 1027] (by decide +kernel) (by decide +kernel) w h).1
set_option maxRecDepth 20000 in
theorem lin_wsL_law_r19 : ∀ w ∈ wsL_law_r19, w ∈ lw_tbl := fun w h => (goodIn_r (big := lw_tbl) wsL_law_r19 [1028, 529, 530, 531, 532, 237, 533, 535, 3, 536, 537, 538, 539, 540, 75, 236, 212, 245, 541, 543, 4, 544, 238, 239] (by decide +kernel) (by decide +kernel) w h).1
set_option maxRecDepth 20000 in
theorem lin_wsL_law_r20 : ∀ w ∈ wsL_law_r20, w ∈ lw_tbl := fun w h => (goodIn_r (big := lw_tbl) wsL_law_r20 [240, 241, 243, 545, 546, 547, 548, 146, 211, 214, 216, 157, 99, 154, 550, 551, 552, 553, 555, 556, 557, 558, 559, 560] (by decide +kernel) (by decide +kernel) w h).1
set_option maxRecDepth 20000 in
theorem lin_wsL_law_r21 : ∀ w ∈ wsL_law_r21, w ∈ lw_tbl := fun w h => (goodIn_r (big := lw_tbl) wsL_law_r21 [561, 562, 563, 564, 565, 566, 567, 568, 569, 570, 572, 5, 573, 575, 576, 577, 578, 579, 580, 581, 582, 583, 584, 585] (by decide +kernel) (by decide +kernel) w h).1
set_option maxRecDepth 20000 in
theorem lin_wsL_law_r22 : ∀ w ∈ wsL_law_r22, w ∈ lw_tbl := fun w h => (goodIn_r (big := lw_tbl) wsL_law_r22 [586, 587, 588, 589, 590, 591, 592, 593, 594, 595, 596, 597, 598, 599, 601, 6, 602, 603, 604, 605, 606, 607, 608, 609] (by decide +kernel) (by decide +kernel) w h).1
set_option maxRecDepth 20000 in
theorem lin_wsL_law_r23 : ∀ w ∈ wsL_law_r23, w ∈ lw_tbl := fun w h => (goodIn_r (big := lw_tbl) wsL_law_r23 [610, 140, 142, 144, 612, 614, 615, 616, 617, 1029, 1030, 1031, 1032, 1033, 880, 881, 882, 883, 884, 876, 1034, 1036, 19, 1037] (by decide +kernel) (by decide +kernel) w h).1
set_option maxRecDepth 20000 in
theorem lin_wsL_law_r24 : ∀ w ∈ wsL_law_r24, w ∈ lw_tbl := fun w h => (goodIn_r (big := lw_tbl) wsL_law_r24 [1038, 1040, 20, 1041, 885, 1042, 1044, 21, 1045, 877, 878, 879, 1046, 1048, 22, 1049, 1050, 1051, 1052, 1053, 1055, 23, 1056, 1057] (by decide +kernel) (by decide +kernel) w h).1
set_option maxRecDepth 20000 in
theorem lin_wsL_law_r25 : ∀ w ∈ wsL_law_r25, w ∈ lw_tbl := fun w h => (goodIn_r (big := lw_tbl) wsL_law_r25 [1059, 24, 1060, 1061, 1063, 25, 1064, 1065, 1067, 26, 1068, 1069, 1071, 27, 1072, 1073, 1075, 28, 1076, 1077, 1079, 29, 1080, 618] (by decide +kernel) (by decide +kernel) w h).1
set_option maxRecDepth 20000 in
theorem lin_wsL_law_r26 : ∀ w ∈ wsL_law_r26, w ∈ lw_tbl := fun w h => (goodIn_r (big := lw_tbl) wsL_law_r26 [619, 620, 621, 622, 623, 624, 625, 626, 1081, 1082, 1083, 1084, 627, 628, 629, 630, 631, 632, 633, 634, 101, 635, 636, 637] (by decide +kernel) (by decide +kernel) w h).1
set_option maxRecDepth 20000 in
theorem lin_wsL_law_r27 : ∀ w ∈ wsL_law_r27, w ∈ lw_tbl := fun w h => (goodIn_r (big := lw_tbl) wsL_law_r27 [638, 639, 640, 1085, 1086, 1087, 1088, 1089, 1091, 30, 1092, 641, 642, 643, 644, 149, 152, 645, 646, 647, 648, 649, 650, 651] (by decide +kernel) (by decide +kernel) w h).1
set_option maxRecDepth 20000 in
theorem lin_wsL_law_r28 : ∀ w ∈ wsL_law_r28, w ∈ lw_tbl := fun w h => (goodIn_r (big := lw_tbl) wsL_law_r28 [652, 653, 654, 655, 657, 658, 659, 660, 661, 662, 663, 664, 665, 666, 667, 668, 670, 671, 672, 673, 674, 675, 676, 677] (by decide +kernel) (by decide +kernel) w h).1
set_option maxRecDepth 20000 in
theorem lin_wsL_law_r29 : ∀ w ∈ wsL_law_r29, w ∈ lw_tbl := fun w h => (goodIn_r (big := lw_tbl) wsL_law_r29 [678, 679, 680, 681, 682, 683, 684, 685, 686, 687, 688, 689, 690, 1093, 1094, 1095, 1096, 888, 1097, 1098, 1100, 31, 1101, 1102] (by decide +kernel) (by decide +kernel) w h).1
set_option maxRecDepth 20000 in
theorem lin_wsL_law_r30 : ∀ w ∈ wsL_law_r30, w ∈ lw_tbl := fun w h => (goodIn_r (big := lw_tbl) wsL_law_r30 [1104, 32, 1105, 1106, 1108, 33, 1109, 1110, 1111, 1112, 691, 692, 693, 694, 695, 696, 697, 698, 150, 699, 700, 701, 702, 57] (by decide +kernel) (by decide +kernel) w h).1
set_option maxRecDepth 20000 in
theorem lin_wsL_law_r31 : ∀ w ∈ wsL_law_r31, w ∈ lw_tbl := fun w h => (goodIn_r (big := lw_tbl) wsL_law_r31 [703, 704, 706, 7, 707, 709, 711, 8, 712, 715, 1113, 1114, 1115, 1116, 1117, 1119, 34, 1120, 1121, 1123, 35, 1124, 716, 717] (by decide +kernel) (by decide +kernel) w h).1
set_option maxRecDepth 20000 in
theorem lin_wsL_law_r32 : ∀ w ∈ wsL_law_r32, w ∈ lw_tbl := fun w h => (goodIn_r (big := lw_tbl) wsL_law_r32 [718, 719, 720, 721, 722, 723, 148, 724, 725, 726, 727, 728, 729, 730, 1125, 1126, 1127, 1128, 1129, 1130, 1131, 731, 732, 733] (by decide +kernel) (by decide +kernel) w h).1
set_option maxRecDepth 20000 in
theorem lin_wsL_law_r33 : ∀ w ∈ wsL_law_r33, w ∈ lw_tbl := fun w h => (goodIn_r (big := lw_tbl) wsL_law_r33 [734, 735, 736, 738, 9, 739, 740, 742, 10, 743, 744, 1132, 1133, 1134, 1135, 745, 746, 747, 748, 749, 750, 751, 752, 753] (by decide +kernel) (by decide +kernel) w h).1
set_option maxRecDepth 20000 in
theorem lin_wsL_law_r34 : ∀ w ∈ wsL_law_r34, w ∈ lw_tbl := fun w h => (goodIn_r (big := lw_tbl) wsL_law_r34 [754, 755, 757, 11, 758, 759, 760, 761, 762, 763, 764, 1136, 1137, 1138, 1139, 1140, 1141, 1142, 1143, 765, 766, 767, 768, 769] (by decide +kernel) (by decide +kernel) w h).1
set_option maxRecDepth 20000 in
theorem lin_wsL_law_r35 : ∀ w ∈ wsL_law_r35, w ∈ lw_tbl := fun w h => (goodIn_r (big := lw_tbl) wsL_law_r35 [770, 771, 772, 773, 775, 776, 777, 778, 779, 781, 780, 58, 783, 785, 12, 786, 788, 791, 792, 793, 794, 795, 796, 797] (by decide +kernel) (by decide +kernel) w h).1
set_option maxRecDepth 20000 in
theorem lin_wsL_law_r36 : ∀ w ∈ wsL_law_r36, w ∈ lw_tbl := fun w h => (goodIn_r (big := lw_tbl) wsL_law_r36 [798, 1144, 1145, 1146, 1147, 1148, 1150, 36, 1151, 799, 800, 801, 802, 803, 804, 244, 805, 242, 806, 807, 808, 1152, 1153, 1154] (by decide +kernel) (by decide +kernel) w h).1
set_option maxRecDepth 20000 in
theorem lin_wsL_law_r37 : ∀ w ∈ wsL_law_r37, w ∈ lw_tbl := fun w h => (goodIn_r (big := lw_tbl) wsL_law_r37 [1155, 1156, 1157, 1158, 1159, 1160, 1161, 1162, 809, 810, 811, 812, 814, 213, 215, 813, 815, 816, 817, 1163, 1164, 1165, 1166, 1167] (by decide +kernel) (by decide +kernel) w h).1
set_option maxRecDepth 20000 in
theorem lin_wsL_law_r38 : ∀ w ∈ wsL_law_r38, w ∈ lw_tbl := fun w h => (goodIn_r (big := lw_tbl) wsL_law_r38 [1168, 1169, 1170, 1171, 1172, 818, 819, 820, 821, 195, 196, 822, 824, 13, 825, 826, 827, 828, 829, 830, 831, 832, 833, 834] (by decide +kernel) (by decide +kernel) w h).1
set_option maxRecDepth 20000 in
theorem lin_wsL_law_r39 : ∀ w ∈ wsL_law_r39, w ∈ lw_tbl := fun w h => (goodIn_r (big := lw_tbl) wsL_law_r39 [835, 836, 837, 838, 1173, 1174, 1175, 1176, 894, 895, 1177, 1179, 37, 1180, 1181, 1183, 38, 1184, 839, 840, 841, 842, 1185, 1186] (by decide +kernel) (by decide +kernel) w h).1
set_option maxRecDepth 20000 in
theorem lin_wsL_law_r40 : ∀ w ∈ wsL_law_r40, w ∈ lw_tbl := fun w h => (goodIn_r (big := lw_tbl) wsL_law_r40 [1187, 1188, 843, 844, 845, 846, 132, 134, 847, 849, 14, 850, 851, 852, 853, 1189, 1190, 1191, 1192, 1193] (by decide +kernel) (by decide +kernel) w h).1
set_option maxRecDepth 20000 in
theorem lin_wsX80 : ∀ w ∈ wsX80, w ∈ lw_tbl := fun w h => (goodIn_r (big := lw_tbl) wsX80 [295, 297, 299, 301, 303, 305, 307, 309] (by decide +kernel) (by decide +kernel) w h).1
set_option maxRecDepth 20000 in
theorem lin_wsX90 : ∀ w ∈ wsX90, w ∈ lw_tbl := fun w h => (goodIn_r (big := lw_tbl) wsX90 [896, 898, 900, 902, 904, 906, 908, 910, 912, 914, 916, 918, 920, 922, 924, 926, 928, 930, 932, 934, 936, 938, 940, 942, 944, 946, 948, 950, 952, 954, 956, 958] (by decide +kernel) (by decide +kernel) w h).1
set_option maxRecDepth 20000 in
theorem lin_wsX20 : ∀ w ∈ wsX20, w ∈ lw_tbl := fun w h => (goodIn_r (big := lw_tbl) wsX20 [77, 79] (by decide +kernel) (by decide +kernel) w h).1
set_option maxRecDepth 20000 in
theorem lin_wsX00 : ∀ w ∈ wsX00, w ∈ lw_tbl := fun w h => (goodIn_r (big := lw_tbl) wsX00 [159, 161, 163, 165, 167, 169, 171, 173, 175, 177, 179, 181, 183] (by decide +kernel) (by decide +kernel) w h).1
set_option maxRecDepth 20000 in
theorem lin_wsX10 : ∀ w ∈ wsX10, w ∈ lw_tbl := fun w h => (goodIn_r (big := lw_tbl) wsX10 [197, 199] (by decide +kernel) (by decide +kernel) w h).1
set_option maxRecDepth 20000 in
theorem lin_wsX60 : ∀ w ∈ wsX60, w ∈ lw_tbl := fun w h => (goodIn_r (big := lw_tbl) wsX60 [217, 219, 221, 223, 225, 227] (by decide +kernel) (by decide +kernel) w h).1
set_option maxRecDepth 20000 in
theorem lin_wsX30 : ∀ w ∈ wsX30, w ∈ lw_tbl := fun w h => (goodIn_r (big := lw_tbl) wsX30 [246, 248, 250, 252, 254, 256, 258] (by decide +kernel) (by decide +kernel) w h).1
set_option maxRecDepth 20000 in
theorem lin_wsX50 : ∀ w ∈ wsX50, w ∈ lw_tbl := fun w h => (goodIn_r (big := lw_tbl) wsX50 [269, 271] (by decide +kernel) (by decide +kernel) w h).1
set_option maxRecDepth 20000 in
theorem lin_wsX70 : ∀ w ∈ wsX70, w ∈ lw_tbl := fun w h => (goodIn_r (big := lw_tbl) wsX70 [282, 284] (by decide +kernel) (by decide +kernel) w h).1
set_option maxRecDepth 20000 in
theorem lin_wsX40 : ∀ w ∈ wsX40, w ∈ lw_tbl := fun w h => (goodIn_r (big := lw_tbl) wsX40 [102, 104, 106, 108] (by decide +kernel) (by decide +kernel) w h).1
theorem wsL_law_in : ∀ w ∈ wsL_law, w ∈ lw_tbl := (ap_in (ap_in (ap_in (ap_in (ap_in (ap_in (ap_in (ap_in (ap_in (ap_in (ap_in (ap_in lin_wsL_law_r1 (ap_in lin_wsL_law_r2 (ap_in lin_wsL_law_r3 (ap_in lin_wsL_law_r4 (ap_in lin_wsL_law_r5 (ap_in lin_wsL_law_r6 (ap_in lin_wsL_law_r7 (ap_in lin_wsL_law_r8 (ap_in lin_wsL_law_r9 (ap_in lin_wsL_law_r10 (ap_in lin_wsL_law_r11 (ap_in lin_wsL_law_r12 (ap_in lin_wsL_law_r13 (ap_in lin_wsL_law_r14 (ap_in lin_wsL_law_r15 (ap_in lin_wsL_law_r16 (ap_in lin_wsL_law_r17 (ap_in lin_wsL_law_r18 (ap_in lin_wsL_law_r19 (ap_in lin_wsL_law_r20 (ap_in lin_wsL_law_r21 (ap_in lin_wsL_law_r22 (ap_in lin_wsL_law_r23 (ap_in lin_wsL_law_r24 (ap_in lin_wsL_law_r25 (ap_in lin_wsL_law_r26 (ap_in lin_wsL_law_r27 (ap_in lin_wsL_law_r28 (ap_in lin_wsL_law_r29 (ap_in lin_wsL_law_r30 (ap_in lin_wsL_law_r31 (ap_in lin_wsL_law_r32 (ap_in lin_wsL_law_r33 (ap_in lin_wsL_law_r34 (ap_in lin_wsL_law_r35 (ap_in lin_wsL_law_r36 (ap_in lin_wsL_law_r37 (ap_in lin_wsL_law_r38 (ap_in lin_wsL_law_r39 lin_wsL_law_r40))))))))))))))))))))))))))))))))))))))) lin_wsX80) lin_wsX90) lin_wsX20) lin_wsX00) lin_wsX10) lin_wsX60) lin_wsX30) lin_wsX50) lin_wsX70) lin_wsX40) (fun _ h => absurd h List.not_mem_nil))
