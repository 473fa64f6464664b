set_option maxRecDepth 20000 in
theorem ggL_law_X11_init : GoodIn wsL_law wsX11_init := goodIn_r _ [8, 9, 10, 11, 12, 13, 14, 15, 16, 17, 18, 19, 20, 21, 22, 23, 24, 25, 26, 27, 28, 29, 30, 31, 32, 33, 34, 35, 36, 37, 38, 39, 40, 41, 42, 43, 44, 45, 46, 47, 48, 49, 50, 51, 52, 53, 54, 55, 56, 57, 58, 59, 60, 61, 62, 63, 64, 65, 66, 67, 68, 1041, 1042, 995, 996, 997, 998, 999, 1000, 1001, 1002, 1003, 1043, 1044, 1045, 1046, 1047, 1048, 1049, 1050, 1051, 1052, 1053, 1054, 1055, 1056, 1057, 1058, 1059, 1060, 1061, 1062, 1063, 1064] (by decide +kernel) (by decide +kernel)
set_option maxRecDepth 20000 in
theorem gL_law_X11_init : GoodIn wsL_law (wsX11_init) := ggL_law_X11_init
set_option maxRecDepth 20000 in
theorem ggL_law_X12_init : GoodIn wsL_law wsX12_init := goodIn_r _ [71, 72, 10, 11, 36, 73, 74, 75, 76, 77, 78, 79, 80, 81, 82, 83, 84, 85, 86, 87, 88, 89, 90, 91, 92, 1004, 1005, 1006, 1007, 1008, 1009, 1010, 1011, 1012, 1013, 1014, 1015, 1016, 1017, 1018, 1019, 1020, 1021, 1022, 1023, 1024, 1025, 1026, 1027, 1028, 1029, 1030, 1031, 1032, 1033, 1034, 1035, 1036, 1037, 1038, 1039, 1040] (by decide +kernel) (by decide +kernel)
set_option maxRecDepth 20000 in
theorem gL_law_X12_init : GoodIn wsL_law (wsX12_init) := ggL_law_X12_init
set_option maxRecDepth 20000 in
theorem ggL_law_X11_letter : GoodIn wsL_law wsX11_letter := goodIn_r _ [96, 15, 97, 98, 99, 14, 100, 101, 37, 102, 103, 104, 105, 995, 996, 997, 998, 999, 1000, 1001, 1002, 1003, 1041, 1042] (by decide +kernel) (by decide +kernel)
set_option maxRecDepth 20000 in
theorem gL_law_X11_letter : GoodIn wsL_law (wsV RL 13 RX11 yX11_letter wsX11_letter) := goodIn_app (goodIn_of _ (by decide +kernel)) ggL_law_X11_letter
set_option maxRecDepth 20000 in
theorem ggL_law_X12_letter : GoodIn wsL_law wsX12_letter := goodIn_r _ [109, 110, 82, 111, 112, 5, 113, 1004, 1005, 1006, 1007, 1008, 1009, 1010, 1011, 1012, 1013, 1014, 1015, 1016, 1017, 1018, 1019, 1020, 1021, 1022, 1023, 1024, 1025, 1026, 1027, 1028, 1029, 1030, 1031, 1032, 1033, 1034, 1035, 1036, 1037, 1038, 1039, 1040] (by decide +kernel) (by decide +kernel)
set_option maxRecDepth 20000 in
theorem gL_law_X12_letter : GoodIn wsL_law (wsV RL 17 RX12 yX12_letter wsX12_letter) := goodIn_app (goodIn_of _ (by decide +kernel)) ggL_law_X12_letter
set_option maxRecDepth 20000 in
theorem ggL_law_X11_blank : GoodIn wsL_law wsX11_blank := goodIn_r _ [117, 15, 102, 103, 104, 14, 105, 101, 118, 119, 120, 121, 995, 996, 997, 998, 999, 1000, 1001, 1002, 1003, 1041, 1042] (by decide +kernel) (by decide +kernel)
set_option maxRecDepth 20000 in
theorem gL_law_X11_blank : GoodIn wsL_law (wsV RL 18 RX11 yX11_blank wsX11_blank) := goodIn_app (goodIn_of _ (by decide +kernel)) ggL_law_X11_blank
set_option maxRecDepth 20000 in
theorem ggL_law_X12_blank : GoodIn wsL_law wsX12_blank := goodIn_r _ [125, 110, 1004, 1005, 1006, 1007, 1008, 1009, 1010, 1011, 1012, 1013, 1014, 1015, 1016, 1017, 1018, 1019, 1020, 1021, 1022, 1023, 1024, 1025, 1026, 1027, 1028, 1029, 1030, 1031, 1032, 1033, 1034, 1035, 1036, 1037, 1038, 1039, 1040] (by decide +kernel) (by decide +kernel)
set_option maxRecDepth 20000 in
theorem gL_law_X12_blank : GoodIn wsL_law (wsV RL 22 RX12 yX12_blank wsX12_blank) := goodIn_app (goodIn_of _ (by decide +kernel)) ggL_law_X12_blank
set_option maxRecDepth 20000 in
theorem ggL_law_X11_fault : GoodIn wsL_law wsX11_fault := goodIn_r _ [129, 15, 130, 131, 132, 14, 133, 101, 134, 135, 136, 137, 37, 138, 139, 140, 141, 142, 143, 144, 145, 146, 147, 148, 149, 150, 151, 152, 153, 154, 155, 156, 157, 158, 159, 160, 161, 162, 163, 164, 165, 166, 167, 168, 169, 170, 171, 172, 173, 174, 175, 176, 177, 178, 179, 180, 181, 182, 183, 184, 185, 186, 187, 188, 189, 190, 191, 192, 193, 194, 195, 196, 197, 198, 199, 200, 201, 202, 203, 204, 205, 206, 207, 208, 209, 210, 211, 212, 213, 214, 215, 216, 217, 218, 219, 220, 221, 222, 223, 224, 225, 226, 227, 228, 229, 230, 231, 232, 233, 995, 996, 997, 998, 999, 1000, 1001, 1002, 1003, 1041, 1042] (by decide +kernel) (by decide +kernel)
set_option maxRecDepth 20000 in
theorem gL_law_X11_fault : GoodIn wsL_law (wsV RL 23 RX11 yX11_fault wsX11_fault) := goodIn_app (goodIn_of _ (by decide +kernel)) ggL_law_X11_fault
set_option maxRecDepth 20000 in
theorem ggL_law_X12_fault : GoodIn wsL_law wsX12_fault := goodIn_r _ [237, 238, 239, 240, 5, 241, 242, 243, 110, 82, 244, 245, 246, 247, 248, 249, 250, 111, 112, 113, 1004, 1005, 1006, 1007, 1008, 1009, 1010, 1011, 1012, 1013, 1014, 1015, 1016, 1017, 1018, 1019, 1020, 1021, 1022, 1023, 1024, 1025, 1026, 1027, 1028, 1029, 1030, 1031, 1032, 1033, 1034, 1035, 1036, 1037, 1038, 1039, 1040] (by decide +kernel) (by decide +kernel)
set_option maxRecDepth 20000 in
theorem gL_law_X12_fault : GoodIn wsL_law (wsV RL 26 RX12 yX12_fault wsX12_fault) := goodIn_app (goodIn_of _ (by decide +kernel)) ggL_law_X12_fault
set_option maxRecDepth 20000 in
theorem ggL_law_X11_town : GoodIn wsL_law wsX11_town := goodIn_r _ [254, 15, 19, 23, 255, 256, 257, 258, 259, 14, 260, 101, 134, 135, 136, 137, 37, 261, 131, 132, 133, 138, 139, 140, 141, 142, 143, 144, 145, 146, 147, 148, 149, 150, 151, 152, 153, 154, 155, 156, 157, 158, 159, 160, 161, 162, 163, 164, 165, 166, 167, 168, 169, 170, 171, 172, 173, 174, 175, 176, 177, 178, 179, 180, 181, 182, 183, 184, 185, 186, 187, 188, 189, 190, 191, 192, 193, 194, 195, 196, 197, 198, 199, 200, 201, 202, 203, 204, 205, 206, 207, 208, 209, 210, 211, 212, 213, 214, 215, 216, 217, 218, 219, 220, 221, 222, 223, 224, 225, 226, 227, 228, 229, 230, 231, 232, 233, 262, 263, 264, 18, 265, 42, 266, 267, 268, 269, 103, 104, 105, 270, 271, 272, 273, 274, 275, 276, 277, 278, 279, 280, 281, 282, 283, 284, 285, 41, 286, 287, 288, 289, 290, 291, 292, 293, 294, 295, 10, 11, 296, 297, 298, 299, 300, 301, 302, 303, 304, 305, 306, 307, 308, 309, 118, 119, 120, 121, 310, 311, 312, 22, 313, 48, 314, 315, 316, 317, 318, 319, 320, 321, 52, 322, 56, 323, 324, 325, 326, 327, 328, 329, 330, 331, 332, 333, 334, 995, 996, 997, 998, 999, 1000, 1001, 1002, 1003, 1041, 1042, 1043, 1044, 1045, 1065, 1066, 1067, 1068, 1069, 1046, 1047, 1048, 1049, 1050, 1051, 1052, 1063, 1064] (by decide +kernel) (by decide +kernel)
set_option maxRecDepth 20000 in
theorem gL_law_X11_town : GoodIn wsL_law (wsV RL 27 RX11 yX11_town wsX11_town) := goodIn_app (goodIn_of _ (by decide +kernel)) ggL_law_X11_town
set_option maxRecDepth 20000 in
theorem ggL_law_X12_town : GoodIn wsL_law wsX12_town := goodIn_r _ [338, 242, 243, 339, 82, 340, 73, 74, 75, 76, 341, 342, 343, 110, 238, 239, 240, 5, 241, 244, 245, 246, 247, 248, 249, 250, 111, 112, 113, 1004, 1005, 1006, 1007, 1008, 1009, 1010, 1011, 1012, 1013, 1014, 1015, 1016, 1017, 1018, 1019, 1020, 1021, 1022, 1023, 1024, 1025, 1026, 1027, 1028, 1029, 1030, 1031, 1032, 1033, 1034, 1035, 1036, 1037, 1038, 1039, 1040] (by decide +kernel) (by decide +kernel)
set_option maxRecDepth 20000 in
theorem gL_law_X12_town : GoodIn wsL_law (wsV RL 30 RX12 yX12_town wsX12_town) := goodIn_app (goodIn_of _ (by decide +kernel)) ggL_law_X12_town
set_option maxRecDepth 20000 in
theorem ggL_law_X11_about : GoodIn wsL_law wsX11_about := goodIn_r _ [347, 19, 23, 348, 349, 350, 18, 351, 267, 42, 352, 353, 354, 2, 355, 356, 316, 317, 22, 318, 48, 357, 358, 359, 360, 361, 285, 362, 363, 364, 365, 276, 366, 367, 368, 282, 369, 370, 371, 372, 287, 373, 374, 279, 375, 376, 377, 378, 379, 380, 381, 382, 383, 384, 296, 385, 386, 387, 388, 389, 390, 391, 52, 392, 323, 56, 393, 394, 395, 396, 268, 397, 398, 399, 400, 401, 402, 403, 404, 405, 406, 407, 408, 409, 410, 411, 412, 413, 414, 415, 416, 417, 418, 419, 420, 421, 422, 423, 424, 425, 426, 427, 428, 429, 430, 431, 432, 433, 434, 435, 436, 437, 438, 439, 440, 441, 442, 443, 444, 445, 446, 447, 448, 449, 314, 450, 451, 452, 453, 50, 454, 455, 456, 457, 49, 995, 996, 997, 998, 999, 1000, 1001, 1002, 1003, 1043, 1044, 1045, 1046, 1047, 1048, 1049, 1050, 1051, 1052, 1068, 1065, 1067, 1069, 1066, 1063, 1064] (by decide +kernel) (by decide +kernel)
set_option maxRecDepth 20000 in
theorem gL_law_X11_about : GoodIn wsL_law (wsV RL 31 RX11 yX11_about wsX11_about) := goodIn_app (goodIn_of _ (by decide +kernel)) ggL_law_X11_about
set_option maxRecDepth 20000 in
theorem ggL_law_X12_about : GoodIn wsL_law wsX12_about := goodIn_r _ [461, 462, 463, 464, 5, 465, 339, 111, 112, 113, 466, 467, 468, 469, 73, 470, 471, 472, 473, 74, 474, 475, 476, 477, 75, 76, 478, 479, 480, 481, 482, 483, 484, 485, 84, 85, 83, 486, 487, 488, 489, 490, 491, 492, 340, 493, 494, 495, 496, 497, 498, 499, 500, 342, 78, 1004, 1005, 1006, 1007, 1008, 1009, 1010, 1011, 1012, 1013, 1014, 1015, 1016, 1017, 1018, 1019, 1020, 1021, 1022, 1023, 1024, 1025, 1026, 1027, 1028, 1029, 1030, 1031, 1032, 1033, 1034, 1035, 1036, 1037, 1038, 1039, 1040] (by decide +kernel) (by decide +kernel)
set_option maxRecDepth 20000 in
theorem gL_law_X12_about : GoodIn wsL_law (wsV RL 35 RX12 yX12_about wsX12_about) := goodIn_app (goodIn_of _ (by decide +kernel)) ggL_law_X12_about
set_option maxRecDepth 20000 in
theorem ggL_law_X11_as : GoodIn wsL_law wsX11_as := goodIn_r _ [504, 19, 505, 506, 507, 508, 348, 349, 350, 18, 351, 267, 42, 995, 996, 997, 998, 999, 1000, 1001, 1002, 1003, 1043, 1044, 1045] (by decide +kernel) (by decide +kernel)
set_option maxRecDepth 20000 in
theorem gL_law_X11_as : GoodIn wsL_law (wsV RL 36 RX11 yX11_as wsX11_as) := goodIn_app (goodIn_of _ (by decide +kernel)) ggL_law_X11_as
set_option maxRecDepth 20000 in
theorem ggL_law_X12_as : GoodIn wsL_law wsX12_as := goodIn_r _ [512, 73, 462, 463, 464, 5, 465, 339, 111, 112, 113, 1004, 1005, 1006, 1007, 1008, 1009, 1010, 1011, 1012, 1013, 1014, 1015, 1016, 1017, 1018, 1019, 1020, 1021, 1022, 1023, 1024, 1025, 1026, 1027, 1028, 1029, 1030, 1031, 1032, 1033, 1034, 1035, 1036, 1037, 1038, 1039, 1040] (by decide +kernel) (by decide +kernel)
set_option maxRecDepth 20000 in
theorem gL_law_X12_as : GoodIn wsL_law (wsV RL 39 RX12 yX12_as wsX12_as) := goodIn_app (goodIn_of _ (by decide +kernel)) ggL_law_X12_as
set_option maxRecDepth 20000 in
theorem ggL_law_X11_lend : GoodIn wsL_law wsX11_lend := goodIn_r _ [516, 19, 352, 353, 354, 2, 355, 23, 348, 349, 350, 18, 351, 267, 42, 356, 316, 317, 22, 318, 48, 517, 518, 519, 520, 521, 390, 391, 52, 392, 323, 56, 412, 522, 523, 524, 525, 526, 276, 527, 528, 529, 530, 531, 287, 532, 533, 534, 535, 536, 537, 538, 539, 540, 541, 542, 393, 394, 395, 396, 268, 397, 398, 399, 400, 401, 402, 403, 404, 405, 406, 407, 408, 409, 410, 411, 413, 414, 415, 416, 417, 418, 419, 420, 421, 422, 423, 282, 424, 425, 426, 427, 428, 429, 430, 431, 432, 433, 434, 435, 436, 437, 438, 439, 279, 440, 995, 996, 997, 998, 999, 1000, 1001, 1002, 1003, 1043, 1044, 1045, 1046, 1047, 1048, 1049, 1050, 1051, 1052, 1063, 1064] (by decide +kernel) (by decide +kernel)
set_option maxRecDepth 20000 in
theorem gL_law_X11_lend : GoodIn wsL_law (wsV RL 40 RX11 yX11_lend wsX11_lend) := goodIn_app (goodIn_of _ (by decide +kernel)) ggL_law_X11_lend
set_option maxRecDepth 20000 in
theorem ggL_law_X12_lend : GoodIn wsL_law wsX12_lend := goodIn_r _ [546, 76, 75, 462, 463, 464, 5, 465, 339, 111, 112, 113, 474, 475, 476, 477, 547, 548, 549, 550, 73, 478, 479, 480, 481, 482, 483, 484, 485, 84, 85, 83, 486, 487, 488, 489, 490, 491, 492, 340, 1004, 1005, 1006, 1007, 1008, 1009, 1010, 1011, 1012, 1013, 1014, 1015, 1016, 1017, 1018, 1019, 1020, 1021, 1022, 1023, 1024, 1025, 1026, 1027, 1028, 1029, 1030, 1031, 1032, 1033, 1034, 1035, 1036, 1037, 1038, 1039, 1040] (by decide +kernel) (by decide +kernel)
set_option maxRecDepth 20000 in
theorem gL_law_X12_lend : GoodIn wsL_law (wsV RL 43 RX12 yX12_lend wsX12_lend) := goodIn_app (goodIn_of _ (by decide +kernel)) ggL_law_X12_lend
set_option maxRecDepth 20000 in
theorem ggL_law_X11_had : GoodIn wsL_law wsX11_had := goodIn_r _ [554, 352, 353, 354, 2, 355, 19, 23, 348, 349, 350, 18, 351, 267, 42, 356, 316, 317, 22, 318, 48, 555, 409, 410, 52, 411, 323, 56, 995, 996, 997, 998, 999, 1000, 1001, 1002, 1003, 1043, 1044, 1045, 1046, 1047, 1048, 1049, 1050, 1051, 1052, 1063, 1064] (by decide +kernel) (by decide +kernel)
set_option maxRecDepth 20000 in
theorem gL_law_X11_had : GoodIn wsL_law (wsV RL 44 RX11 yX11_had wsX11_had) := goodIn_app (goodIn_of _ (by decide +kernel)) ggL_law_X11_had
set_option maxRecDepth 20000 in
theorem ggL_law_X12_had : GoodIn wsL_law wsX12_had := goodIn_r _ [559, 76, 75, 462, 463, 464, 5, 465, 339, 111, 112, 113, 1004, 1005, 1006, 1007, 1008, 1009, 1010, 1011, 1012, 1013, 1014, 1015, 1016, 1017, 1018, 1019, 1020, 1021, 1022, 1023, 1024, 1025, 1026, 1027, 1028, 1029, 1030, 1031, 1032, 1033, 1034, 1035, 1036, 1037, 1038, 1039, 1040] (by decide +kernel) (by decide +kernel)
set_option maxRecDepth 20000 in
theorem gL_law_X12_had : GoodIn wsL_law (wsV RL 47 RX12 yX12_had wsX12_had) := goodIn_app (goodIn_of _ (by decide +kernel)) ggL_law_X12_had
