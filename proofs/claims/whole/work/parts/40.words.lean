/-! ===== the law's words, by their places ===== -/
theorem in_r {big : List Cond} (ws : List Cond) (ps : List Nat) (hp : ws = ps.filterMap (fun i => big[i]?)) : ∀ w ∈ ws, w ∈ big := by
  intro w hw
  rw [hp] at hw
  obtain ⟨i, -, hi⟩ := List.mem_filterMap.mp hw
  exact List.mem_of_getElem? hi
set_option maxRecDepth 20000 in
theorem in_wsL_law_r1 : ∀ w ∈ wsL_law_r1, w ∈ lw_tbl := in_r _ [63, 64, 42, 843, 844, 49, 65, 66, 67, 68, 69, 70, 71, 72, 43, 193, 85, 86, 44, 194, 103, 104, 45, 195] (by decide +kernel)
set_option maxRecDepth 20000 in
theorem in_wsL_law_r2 : ∀ w ∈ wsL_law_r2, w ∈ lw_tbl := in_r _ [196, 145, 146, 47, 197, 172, 173, 48, 198, 74, 75, 76, 84, 77, 88, 89, 90, 91, 93, 105, 106, 107, 108, 109] (by decide +kernel)
set_option maxRecDepth 20000 in
theorem in_wsL_law_r3 : ∀ w ∈ wsL_law_r3, w ∈ lw_tbl := in_r _ [123, 124, 125, 111, 46, 113, 114, 115, 116, 148, 149, 150, 151, 153, 154, 175, 176, 177, 178, 180, 179, 845, 846, 847] (by decide +kernel)
set_option maxRecDepth 20000 in
theorem in_wsL_law_r4 : ∀ w ∈ wsL_law_r4, w ∈ lw_tbl := in_r _ [848, 852, 853, 854, 855, 857, 858, 860, 861, 347, 864, 867, 868, 869, 873, 879, 880, 881, 882, 883, 884, 221, 222, 223] (by decide +kernel)
set_option maxRecDepth 20000 in
theorem in_wsL_law_r5 : ∀ w ∈ wsL_law_r5, w ∈ lw_tbl := in_r _ [224, 225, 226, 227, 228, 78, 229, 230, 231, 232, 961, 962, 963, 964, 863, 965, 966, 967, 233, 234, 235, 236, 237, 238] (by decide +kernel)
set_option maxRecDepth 20000 in
theorem in_wsL_law_r6 : ∀ w ∈ wsL_law_r6, w ∈ lw_tbl := in_r _ [239, 240, 968, 969, 970, 971, 241, 242, 243, 244, 245, 246, 247, 248, 249, 250, 251, 252, 253, 254, 255, 256, 258, 0] (by decide +kernel)
set_option maxRecDepth 20000 in
theorem in_wsL_law_r7 : ∀ w ∈ wsL_law_r7, w ∈ lw_tbl := in_r _ [259, 261, 262, 263, 50, 264, 265, 266, 267, 268, 1213, 269, 270, 271, 272, 273, 1212, 275, 276, 277, 278, 279, 280, 281] (by decide +kernel)
set_option maxRecDepth 20000 in
theorem in_wsL_law_r8 : ∀ w ∈ wsL_law_r8, w ∈ lw_tbl := in_r _ [282, 283, 284, 51, 285, 289, 290, 52, 291, 292, 293, 294, 286, 287, 288, 295, 296, 297, 298, 299, 53, 300, 301, 302] (by decide +kernel)
set_option maxRecDepth 20000 in
theorem in_wsL_law_r9 : ∀ w ∈ wsL_law_r9, w ∈ lw_tbl := in_r _ [303, 304, 305, 306, 307, 308, 309, 310, 311, 312, 313, 314, 315, 316, 318, 319, 54, 320, 321, 322, 323, 324, 325, 326] (by decide +kernel)
set_option maxRecDepth 20000 in
theorem in_wsL_law_r10 : ∀ w ∈ wsL_law_r10, w ∈ lw_tbl := in_r _ [327, 329, 331, 333, 334, 335, 336, 337, 55, 338, 339, 340, 341, 342, 343, 344, 345, 346, 972, 973, 974, 975, 976, 978] (by decide +kernel)
set_option maxRecDepth 20000 in
theorem in_wsL_law_r11 : ∀ w ∈ wsL_law_r11, w ∈ lw_tbl := in_r _ [8, 979, 865, 866, 980, 981, 982, 983, 985, 9, 986, 348, 349, 350, 351, 199, 200, 352, 353, 354, 355, 356, 357, 358] (by decide +kernel)
set_option maxRecDepth 20000 in
theorem in_wsL_law_r12 : ∀ w ∈ wsL_law_r12, w ∈ lw_tbl := in_r _ [359, 360, 362, 94, 95, 361, 363, 364, 365, 366, 369, 370, 57, 382, 383, 58, 390, 391, 59, 398, 399, 60, 406, 56] (by decide +kernel)
set_option maxRecDepth 20000 in
theorem in_wsL_law_r13 : ∀ w ∈ wsL_law_r13, w ∈ lw_tbl := in_r _ [368, 371, 372, 373, 374, 375, 376, 377, 378, 384, 385, 386, 387, 392, 393, 394, 395, 400, 401, 402, 403, 407, 410, 411] (by decide +kernel)
set_option maxRecDepth 20000 in
theorem in_wsL_law_r14 : ∀ w ∈ wsL_law_r14, w ∈ lw_tbl := in_r _ [412, 413, 126, 414, 415, 416, 417, 418, 419, 420, 421, 117, 422, 423, 424, 425, 127, 128, 129, 426, 427, 428, 429, 987] (by decide +kernel)
set_option maxRecDepth 20000 in
theorem in_wsL_law_r15 : ∀ w ∈ wsL_law_r15, w ∈ lw_tbl := in_r _ [988, 989, 990, 850, 851, 849, 856, 859, 430, 431, 432, 433, 434, 435, 436, 437, 438, 440, 1, 441, 442, 443, 446, 444] (by decide +kernel)
set_option maxRecDepth 20000 in
theorem in_wsL_law_r16 : ∀ w ∈ wsL_law_r16, w ∈ lw_tbl := in_r _ [447, 448, 449, 459, 450, 451, 452, 453, 454, 455, 443, 444, 445, 456, 457, 458, 460, 463, 461, 464, 465, 466, 473, 470] (by decide +kernel)
set_option maxRecDepth 20000 in
theorem in_wsL_law_r17 : ∀ w ∈ wsL_law_r17, w ∈ lw_tbl := in_r _ [461, 471, 460, 462, 472, 474, 475, 476, 477, 478, 479, 480, 481, 482, 483, 484, 485, 486, 487, 61, 488, 489, 490, 491] (by decide +kernel)
set_option maxRecDepth 20000 in
theorem in_wsL_law_r18 : ∀ w ∈ wsL_law_r18, w ∈ lw_tbl := in_r _ [492, 493, 494, 495, 496, 498, 499, 500, 503, 504, 501, 510, 505, 501, 506, 507, 508, 500, 502, 509, 511, 514, 515, 512] (by decide +kernel)
set_option maxRecDepth 20000 in
theorem in_wsL_law_r19 : ∀ w ∈ wsL_law_r19, w ∈ lw_tbl := in_r _ [521, 516, 517, 511, 513, 512, 518, 519, 520, 522, 523, 524, 525, 526, 527, 528, 529, 530, 531, 532, 533, 534, 535, 536] (by decide +kernel)
set_option maxRecDepth 20000 in
theorem in_wsL_law_r20 : ∀ w ∈ wsL_law_r20, w ∈ lw_tbl := in_r _ [537, 538, 991, 992, 993, 994, 995, 997, 10, 998, 999, 1001, 11, 1002, 1003, 1005, 12, 1006, 1007, 1009, 13, 1010, 1011, 1013] (by decide +kernel)
set_option maxRecDepth 20000 in
theorem in_wsL_law_r21 : ∀ w ∈ wsL_law_r21, w ∈ lw_tbl := in_r _ [14, 1014, 1015, 1017, 15, 1018, 1019, 1020, 1021, 1022, 1024, 16, 1025, 1026, 1028, 17, 1029, 1030, 1032, 18, 1033, 540, 541, 542] (by decide +kernel)
set_option maxRecDepth 20000 in
theorem in_wsL_law_r22 : ∀ w ∈ wsL_law_r22, w ∈ lw_tbl := in_r _ [543, 544, 545, 546, 547, 1034, 1035, 1036, 1037, 548, 549, 550, 551, 552, 553, 554, 555, 556, 557, 560, 558, 561, 562, 563] (by decide +kernel)
set_option maxRecDepth 20000 in
theorem in_wsL_law_r23 : ∀ w ∈ wsL_law_r23, w ∈ lw_tbl := in_r _ [567, 564, 565, 558, 557, 559, 566, 568, 569, 570, 571, 572, 573, 574, 575, 1038, 1039, 1040, 1041, 1042, 1044, 19, 1045, 576] (by decide +kernel)
set_option maxRecDepth 20000 in
theorem in_wsL_law_r24 : ∀ w ∈ wsL_law_r24, w ∈ lw_tbl := in_r _ [577, 578, 579, 580, 1046, 1047, 1048, 1049, 581, 582, 583, 584, 585, 586, 587, 588, 589, 590, 591, 592, 1050, 1051, 1052, 1053] (by decide +kernel)
set_option maxRecDepth 20000 in
theorem in_wsL_law_r25 : ∀ w ∈ wsL_law_r25, w ∈ lw_tbl := in_r _ [593, 594, 595, 596, 597, 598, 599, 600, 601, 602, 603, 604, 605, 606, 607, 607, 1054, 1055, 1056, 1057, 1058, 1060, 20, 1061] (by decide +kernel)
set_option maxRecDepth 20000 in
theorem in_wsL_law_r26 : ∀ w ∈ wsL_law_r26, w ∈ lw_tbl := in_r _ [1062, 1064, 21, 1065, 1066, 1068, 22, 1069, 608, 609, 610, 611, 612, 613, 614, 615, 616, 617, 1070, 1071, 1072, 1073, 1074, 1075] (by decide +kernel)
set_option maxRecDepth 20000 in
theorem in_wsL_law_r27 : ∀ w ∈ wsL_law_r27, w ∈ lw_tbl := in_r _ [1076, 618, 619, 620, 621, 622, 623, 624, 625, 626, 628, 629, 630, 631, 632, 1077, 1078, 1079, 1080, 1081, 1083, 23, 1084, 633] (by decide +kernel)
set_option maxRecDepth 20000 in
theorem in_wsL_law_r28 : ∀ w ∈ wsL_law_r28, w ∈ lw_tbl := in_r _ [634, 635, 636, 201, 637, 638, 639, 640, 641, 642, 643, 644, 157, 158, 645, 646, 647, 648, 649, 651, 650, 62, 652, 654] (by decide +kernel)
set_option maxRecDepth 20000 in
theorem in_wsL_law_r29 : ∀ w ∈ wsL_law_r29, w ∈ lw_tbl := in_r _ [2, 655, 656, 657, 658, 659, 660, 661, 662, 663, 664, 665, 666, 667, 668, 669, 670, 671, 672, 673, 674, 675, 676, 1085] (by decide +kernel)
set_option maxRecDepth 20000 in
theorem in_wsL_law_r30 : ∀ w ∈ wsL_law_r30, w ∈ lw_tbl := in_r _ [1086, 1087, 1088, 862, 1089, 1091, 24, 1092, 870, 1093, 1094, 1095, 1096, 1098, 25, 1099, 1100, 1102, 26, 1103, 1104, 1106, 27, 1107] (by decide +kernel)
set_option maxRecDepth 20000 in
theorem in_wsL_law_r31 : ∀ w ∈ wsL_law_r31, w ∈ lw_tbl := in_r _ [677, 678, 679, 680, 681, 682, 683, 684, 685, 686, 687, 688, 689, 690, 692, 3, 693, 1108, 1109, 1110, 1111, 1112, 1114, 28] (by decide +kernel)
set_option maxRecDepth 20000 in
theorem in_wsL_law_r32 : ∀ w ∈ wsL_law_r32, w ∈ lw_tbl := in_r _ [1115, 1116, 1118, 29, 1119, 694, 695, 696, 697, 698, 699, 700, 701, 702, 703, 704, 705, 1120, 1121, 1122, 1123, 706, 707, 708] (by decide +kernel)
set_option maxRecDepth 20000 in
theorem in_wsL_law_r33 : ∀ w ∈ wsL_law_r33, w ∈ lw_tbl := in_r _ [709, 710, 1124, 1125, 1126, 1127, 711, 712, 713, 714, 715, 716, 717, 718, 155, 156, 719, 720, 722, 4, 723, 724, 726, 5] (by decide +kernel)
set_option maxRecDepth 20000 in
theorem in_wsL_law_r34 : ∀ w ∈ wsL_law_r34, w ∈ lw_tbl := in_r _ [727, 728, 729, 730, 731, 732, 734, 735, 736, 737, 738, 739, 740, 741, 1128, 1129, 1130, 1131, 1132, 1134, 30, 1135, 871, 872] (by decide +kernel)
set_option maxRecDepth 20000 in
theorem in_wsL_law_r35 : ∀ w ∈ wsL_law_r35, w ∈ lw_tbl := in_r _ [1136, 1138, 31, 1139, 1140, 1142, 32, 1143, 742, 743, 744, 745, 746, 747, 748, 749, 750, 1144, 1145, 1146, 1147, 1148, 1150, 33] (by decide +kernel)
set_option maxRecDepth 20000 in
theorem in_wsL_law_r36 : ∀ w ∈ wsL_law_r36, w ∈ lw_tbl := in_r _ [1151, 1152, 751, 752, 753, 754, 755, 756, 757, 758, 181, 182, 183, 759, 760, 761, 762, 764, 763, 765, 766, 767, 768, 769] (by decide +kernel)
set_option maxRecDepth 20000 in
theorem in_wsL_law_r37 : ∀ w ∈ wsL_law_r37, w ∈ lw_tbl := in_r _ [770, 772, 6, 773, 774, 775, 776, 777, 778, 779, 780, 781, 784, 785, 786, 787, 788, 789, 790, 791, 792, 793, 794, 795] (by decide +kernel)
set_option maxRecDepth 20000 in
theorem in_wsL_law_r38 : ∀ w ∈ wsL_law_r38, w ∈ lw_tbl := in_r _ [1153, 1154, 1155, 1156, 1157, 1159, 34, 1160, 874, 1161, 1163, 35, 1164, 1165, 1166, 1167, 1168, 796, 797, 798, 799, 800, 801, 802] (by decide +kernel)
set_option maxRecDepth 20000 in
theorem in_wsL_law_r39 : ∀ w ∈ wsL_law_r39, w ∈ lw_tbl := in_r _ [803, 804, 805, 1169, 1170, 1171, 1172, 875, 876, 877, 878, 1173, 1175, 36, 1176, 806, 807, 808, 809, 1177, 1178, 1179, 1180, 810] (by decide +kernel)
set_option maxRecDepth 20000 in
theorem in_wsL_law_r40 : ∀ w ∈ wsL_law_r40, w ∈ lw_tbl := in_r _ [811, 812, 813, 814, 815, 816, 817, 818, 819, 820, 821, 1181, 1182, 1183, 1184, 1185, 1187, 37, 1188, 1189, 1191, 38, 1192, 822] (by decide +kernel)
set_option maxRecDepth 20000 in
theorem in_wsL_law_r41 : ∀ w ∈ wsL_law_r41, w ∈ lw_tbl := in_r _ [823, 824, 825, 826, 827, 829, 7, 830, 831, 832, 833, 834, 835, 836, 837, 838, 839, 840, 841, 842, 1193, 1194, 1195, 1196] (by decide +kernel)
set_option maxRecDepth 20000 in
theorem in_wsL_law_r42 : ∀ w ∈ wsL_law_r42, w ∈ lw_tbl := in_r _ [1197, 885, 1198, 1200, 39, 1201, 1202, 1204, 40, 1205, 1206] (by decide +kernel)
set_option maxRecDepth 20000 in
theorem in_wsX110 : ∀ w ∈ wsX110, w ∈ lw_tbl := in_r _ [202, 204, 206, 208, 210, 212, 214, 216, 218] (by decide +kernel)
set_option maxRecDepth 20000 in
theorem in_wsX120 : ∀ w ∈ wsX120, w ∈ lw_tbl := in_r _ [886, 888, 890, 892, 894, 896, 898, 900, 902, 904, 906, 908, 910, 912, 914, 916, 918, 920, 922, 924, 926, 928, 930, 932, 934, 936, 938, 940, 942, 944, 946, 948, 950, 952, 954, 956, 958] (by decide +kernel)
set_option maxRecDepth 20000 in
theorem in_wsX50 : ∀ w ∈ wsX50, w ∈ lw_tbl := in_r _ [79, 81] (by decide +kernel)
set_option maxRecDepth 20000 in
theorem in_wsX100 : ∀ w ∈ wsX100, w ∈ lw_tbl := in_r _ [96, 98, 100] (by decide +kernel)
set_option maxRecDepth 20000 in
theorem in_wsX20 : ∀ w ∈ wsX20, w ∈ lw_tbl := in_r _ [130, 132, 134, 136, 138, 140, 142] (by decide +kernel)
set_option maxRecDepth 20000 in
theorem in_wsX80 : ∀ w ∈ wsX80, w ∈ lw_tbl := in_r _ [159, 161, 163, 165, 167, 169] (by decide +kernel)
set_option maxRecDepth 20000 in
theorem in_wsX40 : ∀ w ∈ wsX40, w ∈ lw_tbl := in_r _ [184, 186, 188, 190] (by decide +kernel)
set_option maxRecDepth 20000 in
theorem in_wsX60 : ∀ w ∈ wsX60, w ∈ lw_tbl := in_r _ [118, 120] (by decide +kernel)
set_option maxRecDepth 20000 in
theorem in_wsX10 : ∀ w ∈ wsX10, w ∈ lw_tbl := in_r _ [379] (by decide +kernel)
set_option maxRecDepth 20000 in
theorem in_wsX90 : ∀ w ∈ wsX90, w ∈ lw_tbl := in_r _ [388] (by decide +kernel)
set_option maxRecDepth 20000 in
theorem in_wsX30 : ∀ w ∈ wsX30, w ∈ lw_tbl := in_r _ [396] (by decide +kernel)
set_option maxRecDepth 20000 in
theorem in_wsX00 : ∀ w ∈ wsX00, w ∈ lw_tbl := in_r _ [404] (by decide +kernel)
set_option maxRecDepth 20000 in
theorem in_wsX70 : ∀ w ∈ wsX70, w ∈ lw_tbl := in_r _ [408] (by decide +kernel)
theorem in_or {a b big : List Cond} (ha : ∀ w ∈ a, w ∈ big) (hb : ∀ w ∈ b, w ∈ big) : ∀ w ∈ a ++ b, w ∈ big := fun w h => (List.mem_append.mp h).elim (ha w) (hb w)
set_option maxRecDepth 20000 in
theorem wsL_law_in : ∀ w ∈ wsL_law, w ∈ lw_tbl := in_or (in_or (in_or (in_or (in_or (in_or (in_or (in_or (in_or (in_or (in_or (in_or (in_or (in_or (in_or in_wsL_law_r1 (in_or in_wsL_law_r2 (in_or in_wsL_law_r3 (in_or in_wsL_law_r4 (in_or in_wsL_law_r5 (in_or in_wsL_law_r6 (in_or in_wsL_law_r7 (in_or in_wsL_law_r8 (in_or in_wsL_law_r9 (in_or in_wsL_law_r10 (in_or in_wsL_law_r11 (in_or in_wsL_law_r12 (in_or in_wsL_law_r13 (in_or in_wsL_law_r14 (in_or in_wsL_law_r15 (in_or in_wsL_law_r16 (in_or in_wsL_law_r17 (in_or in_wsL_law_r18 (in_or in_wsL_law_r19 (in_or in_wsL_law_r20 (in_or in_wsL_law_r21 (in_or in_wsL_law_r22 (in_or in_wsL_law_r23 (in_or in_wsL_law_r24 (in_or in_wsL_law_r25 (in_or in_wsL_law_r26 (in_or in_wsL_law_r27 (in_or in_wsL_law_r28 (in_or in_wsL_law_r29 (in_or in_wsL_law_r30 (in_or in_wsL_law_r31 (in_or in_wsL_law_r32 (in_or in_wsL_law_r33 (in_or in_wsL_law_r34 (in_or in_wsL_law_r35 (in_or in_wsL_law_r36 (in_or in_wsL_law_r37 (in_or in_wsL_law_r38 (in_or in_wsL_law_r39 (in_or in_wsL_law_r40 (in_or in_wsL_law_r41 (in_wsL_law_r42)))))))))))))))))))))))))))))))))))))))))) in_wsX110) in_wsX120) in_wsX50) in_wsX100) in_wsX20) in_wsX80) in_wsX40) in_wsX60) in_wsX10) in_wsX90) in_wsX30) in_wsX00) in_wsX70) (fun _ h => absurd h List.not_mem_nil)
