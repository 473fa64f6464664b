set_option maxRecDepth 20000 in
theorem ggL_law_X11_sign : GoodIn wsL_law wsX11_sign := goodIn_r _ [563, 19, 23, 352, 353, 354, 2, 355, 348, 349, 350, 18, 351, 267, 42, 356, 316, 317, 22, 318, 48, 393, 394, 395, 396, 268, 397, 398, 399, 52, 400, 323, 401, 402, 403, 404, 405, 406, 407, 408, 409, 410, 411, 56, 412, 413, 414, 415, 416, 417, 418, 287, 419, 420, 421, 422, 423, 282, 424, 425, 426, 427, 428, 429, 430, 431, 432, 433, 434, 435, 436, 437, 438, 439, 279, 440, 564, 565, 566, 567, 314, 568, 569, 570, 571, 49, 50, 995, 996, 997, 998, 999, 1000, 1001, 1002, 1003, 1043, 1044, 1045, 1046, 1047, 1048, 1049, 1050, 1051, 1052, 1063, 1064] (by decide +kernel) (by decide +kernel)
set_option maxRecDepth 20000 in
theorem gL_law_X11_sign : GoodIn wsL_law (wsV RL 48 RX11 yX11_sign wsX11_sign) := goodIn_app (goodIn_of _ (by decide +kernel)) ggL_law_X11_sign
set_option maxRecDepth 20000 in
theorem ggL_law_X12_sign : GoodIn wsL_law wsX12_sign := goodIn_r _ [575, 342, 77, 78, 462, 463, 464, 5, 465, 339, 111, 112, 113, 478, 479, 480, 481, 482, 483, 484, 485, 84, 85, 76, 75, 83, 486, 487, 488, 489, 490, 491, 492, 340, 73, 1004, 1005, 1006, 1007, 1008, 1009, 1010, 1011, 1012, 1013, 1014, 1015, 1016, 1017, 1018, 1019, 1020, 1021, 1022, 1023, 1024, 1025, 1026, 1027, 1028, 1029, 1030, 1031, 1032, 1033, 1034, 1035, 1036, 1037, 1038, 1039, 1040] (by decide +kernel) (by decide +kernel)
set_option maxRecDepth 20000 in
theorem gL_law_X12_sign : GoodIn wsL_law (wsV RL 51 RX12 yX12_sign wsX12_sign) := goodIn_app (goodIn_of _ (by decide +kernel)) ggL_law_X12_sign
set_option maxRecDepth 20000 in
theorem ggL_law_X11_deed : GoodIn wsL_law wsX11_deed := goodIn_r _ [579, 23, 19, 580, 455, 456, 22, 457, 314, 49, 50, 581, 582, 583, 584, 454, 585, 451, 452, 453, 586, 587, 588, 18, 589, 267, 412, 349, 350, 351, 42, 413, 2, 414, 590, 377, 378, 379, 380, 285, 381, 382, 383, 384, 287, 296, 385, 591, 387, 388, 995, 996, 997, 998, 999, 1000, 1001, 1002, 1003, 1046, 1047, 1048, 1049, 1050, 1051, 1052, 1043, 1044, 1045, 1068, 1065, 1067, 1069, 1066] (by decide +kernel) (by decide +kernel)
set_option maxRecDepth 20000 in
theorem gL_law_X11_deed : GoodIn wsL_law (wsV RL 52 RX11 yX11_deed wsX11_deed) := goodIn_app (goodIn_of _ (by decide +kernel)) ggL_law_X11_deed
set_option maxRecDepth 20000 in
theorem ggL_law_X12_deed : GoodIn wsL_law wsX12_deed := goodIn_r _ [595, 596, 597, 598, 5, 599, 342, 111, 112, 113, 600, 601, 602, 603, 77, 78, 604, 605, 606, 607, 339, 486, 487, 488, 470, 471, 472, 473, 73, 74, 1004, 1005, 1006, 1007, 1008, 1009, 1010, 1011, 1012, 1013, 1014, 1015, 1016, 1017, 1018, 1019, 1020, 1021, 1022, 1023, 1024, 1025, 1026, 1027, 1028, 1029, 1030, 1031, 1032, 1033, 1034, 1035, 1036, 1037, 1038, 1039, 1040] (by decide +kernel) (by decide +kernel)
set_option maxRecDepth 20000 in
theorem gL_law_X12_deed : GoodIn wsL_law (wsV RL 55 RX12 yX12_deed wsX12_deed) := goodIn_app (goodIn_of _ (by decide +kernel)) ggL_law_X12_deed
set_option maxRecDepth 20000 in
theorem ggL_law_X11_free : GoodIn wsL_law wsX11_free := goodIn_r _ [611, 23, 19, 580, 455, 456, 22, 457, 314, 49, 50, 348, 349, 350, 18, 351, 267, 42, 585, 451, 452, 453, 454, 612, 413, 2, 414, 613, 614, 615, 616, 617, 402, 403, 404, 405, 406, 407, 995, 996, 997, 998, 999, 1000, 1001, 1002, 1003, 1046, 1047, 1048, 1049, 1050, 1051, 1052, 1043, 1044, 1045] (by decide +kernel) (by decide +kernel)
set_option maxRecDepth 20000 in
theorem gL_law_X11_free : GoodIn wsL_law (wsV RL 56 RX11 yX11_free wsX11_free) := goodIn_app (goodIn_of _ (by decide +kernel)) ggL_law_X11_free
set_option maxRecDepth 20000 in
theorem ggL_law_X12_free : GoodIn wsL_law wsX12_free := goodIn_r _ [621, 78, 596, 597, 598, 5, 599, 342, 111, 112, 113, 462, 463, 464, 465, 339, 486, 487, 488, 622, 623, 624, 1004, 1005, 1006, 1007, 1008, 1009, 1010, 1011, 1012, 1013, 1014, 1015, 1016, 1017, 1018, 1019, 1020, 1021, 1022, 1023, 1024, 1025, 1026, 1027, 1028, 1029, 1030, 1031, 1032, 1033, 1034, 1035, 1036, 1037, 1038, 1039, 1040] (by decide +kernel) (by decide +kernel)
set_option maxRecDepth 20000 in
theorem gL_law_X12_free : GoodIn wsL_law (wsV RL 59 RX12 yX12_free wsX12_free) := goodIn_app (goodIn_of _ (by decide +kernel)) ggL_law_X12_free
set_option maxRecDepth 20000 in
theorem ggL_law_X11_owes : GoodIn wsL_law wsX11_owes := goodIn_r _ [628, 19, 23, 348, 349, 350, 18, 351, 267, 42, 629, 630, 631, 22, 632, 314, 450, 451, 452, 453, 50, 454, 455, 456, 457, 49, 413, 2, 414, 633, 582, 583, 584, 634, 635, 617, 402, 403, 404, 405, 406, 407, 636, 637, 638, 995, 996, 997, 998, 999, 1000, 1001, 1002, 1003, 1043, 1044, 1045, 1046, 1047, 1048, 1049, 1050, 1051, 1052] (by decide +kernel) (by decide +kernel)
set_option maxRecDepth 20000 in
theorem gL_law_X11_owes : GoodIn wsL_law (wsV RL 60 RX11 yX11_owes wsX11_owes) := goodIn_app (goodIn_of _ (by decide +kernel)) ggL_law_X11_owes
set_option maxRecDepth 20000 in
theorem ggL_law_X12_owes : GoodIn wsL_law wsX12_owes := goodIn_r _ [642, 462, 463, 464, 5, 465, 339, 111, 112, 113, 643, 644, 645, 646, 342, 78, 77, 486, 487, 488, 622, 623, 624, 1004, 1005, 1006, 1007, 1008, 1009, 1010, 1011, 1012, 1013, 1014, 1015, 1016, 1017, 1018, 1019, 1020, 1021, 1022, 1023, 1024, 1025, 1026, 1027, 1028, 1029, 1030, 1031, 1032, 1033, 1034, 1035, 1036, 1037, 1038, 1039, 1040] (by decide +kernel) (by decide +kernel)
set_option maxRecDepth 20000 in
theorem gL_law_X12_owes : GoodIn wsL_law (wsV RL 63 RX12 yX12_owes wsX12_owes) := goodIn_app (goodIn_of _ (by decide +kernel)) ggL_law_X12_owes
set_option maxRecDepth 20000 in
theorem ggL_law_X11_way : GoodIn wsL_law wsX11_way := goodIn_r _ [650, 19, 651, 28, 352, 353, 354, 2, 355, 23, 348, 349, 350, 18, 351, 267, 42, 356, 316, 317, 22, 318, 48, 652, 653, 654, 655, 656, 657, 658, 27, 659, 61, 660, 661, 662, 663, 664, 52, 665, 56, 666, 667, 668, 669, 323, 670, 671, 672, 673, 674, 394, 395, 396, 268, 397, 398, 399, 400, 401, 402, 403, 404, 405, 406, 407, 408, 409, 410, 411, 412, 413, 414, 415, 416, 417, 418, 287, 419, 420, 421, 422, 423, 282, 424, 425, 426, 427, 428, 429, 430, 431, 432, 433, 434, 435, 436, 437, 438, 439, 279, 440, 675, 332, 333, 334, 676, 677, 678, 679, 680, 518, 519, 520, 521, 390, 391, 392, 522, 523, 524, 525, 526, 276, 527, 528, 529, 530, 531, 532, 533, 534, 681, 536, 537, 538, 682, 540, 541, 542, 683, 684, 685, 686, 687, 688, 689, 690, 691, 692, 693, 694, 995, 996, 997, 998, 999, 1000, 1001, 1002, 1003, 1043, 1044, 1045, 1046, 1047, 1048, 1049, 1050, 1051, 1052, 1053, 1054, 1055, 1056, 1057, 1058, 1063, 1064] (by decide +kernel) (by decide +kernel)
set_option maxRecDepth 20000 in
theorem gL_law_X11_way : GoodIn wsL_law (wsV RL 64 RX11 yX11_way wsX11_way) := goodIn_app (goodIn_of _ (by decide +kernel)) ggL_law_X11_way
set_option maxRecDepth 20000 in
theorem ggL_law_X12_way : GoodIn wsL_law wsX12_way := goodIn_r _ [698, 339, 699, 462, 463, 464, 5, 465, 111, 112, 113, 700, 701, 702, 703, 704, 705, 706, 707, 708, 709, 710, 711, 482, 483, 484, 485, 84, 85, 76, 75, 83, 486, 487, 488, 712, 713, 714, 715, 547, 548, 549, 550, 73, 716, 717, 718, 719, 489, 490, 491, 492, 340, 1004, 1005, 1006, 1007, 1008, 1009, 1010, 1011, 1012, 1013, 1014, 1015, 1016, 1017, 1018, 1019, 1020, 1021, 1022, 1023, 1024, 1025, 1026, 1027, 1028, 1029, 1030, 1031, 1032, 1033, 1034, 1035, 1036, 1037, 1038, 1039, 1040] (by decide +kernel) (by decide +kernel)
set_option maxRecDepth 20000 in
theorem gL_law_X12_way : GoodIn wsL_law (wsV RL 68 RX12 yX12_way wsX12_way) := goodIn_app (goodIn_of _ (by decide +kernel)) ggL_law_X12_way
set_option maxRecDepth 20000 in
theorem ggL_law_X11_find : GoodIn wsL_law wsX11_find := goodIn_r _ [723, 19, 23, 724, 725, 726, 18, 727, 267, 652, 653, 654, 655, 728, 729, 730, 22, 731, 732, 402, 403, 404, 405, 406, 407, 733, 734, 735, 736, 314, 450, 451, 452, 453, 50, 454, 455, 456, 457, 49, 617, 995, 996, 997, 998, 999, 1000, 1001, 1002, 1003, 1043, 1044, 1045, 1046, 1047, 1048, 1049, 1050, 1051, 1052] (by decide +kernel) (by decide +kernel)
set_option maxRecDepth 20000 in
theorem gL_law_X11_find : GoodIn wsL_law (wsV RL 69 RX11 yX11_find wsX11_find) := goodIn_app (goodIn_of _ (by decide +kernel)) ggL_law_X11_find
set_option maxRecDepth 20000 in
theorem ggL_law_X12_find : GoodIn wsL_law wsX12_find := goodIn_r _ [740, 339, 111, 112, 5, 113, 741, 742, 743, 744, 622, 623, 624, 745, 746, 747, 748, 342, 78, 1004, 1005, 1006, 1007, 1008, 1009, 1010, 1011, 1012, 1013, 1014, 1015, 1016, 1017, 1018, 1019, 1020, 1021, 1022, 1023, 1024, 1025, 1026, 1027, 1028, 1029, 1030, 1031, 1032, 1033, 1034, 1035, 1036, 1037, 1038, 1039, 1040] (by decide +kernel) (by decide +kernel)
set_option maxRecDepth 20000 in
theorem gL_law_X12_find : GoodIn wsL_law (wsV RL 72 RX12 yX12_find wsX12_find) := goodIn_app (goodIn_of _ (by decide +kernel)) ggL_law_X12_find
set_option maxRecDepth 20000 in
theorem ggL_law_X11_hear : GoodIn wsL_law wsX11_hear := goodIn_r _ [752, 19, 23, 348, 349, 350, 18, 351, 267, 42, 753, 754, 755, 22, 756, 328, 329, 330, 757, 758, 759, 760, 995, 996, 997, 998, 999, 1000, 1001, 1002, 1003, 1043, 1044, 1045, 1046, 1047, 1048, 1049, 1050, 1051, 1052] (by decide +kernel) (by decide +kernel)
set_option maxRecDepth 20000 in
theorem gL_law_X11_hear : GoodIn wsL_law (wsV RL 73 RX11 yX11_hear wsX11_hear) := goodIn_app (goodIn_of _ (by decide +kernel)) ggL_law_X11_hear
