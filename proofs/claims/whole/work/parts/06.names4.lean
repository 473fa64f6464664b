theorem dX12_way_65 : decode cX12_way 65 = .ok (.invokevirtual 180, 3) := by decide +kernel
theorem dX12_way_68 : decode cX12_way 68 = .ok (.ireturn, 1) := by decide +kernel
theorem dX12_isFound_0 : decode cX12_isFound 0 = .ok (.iconst 1, 1) := by decide +kernel
theorem dX12_isFound_1 : decode cX12_isFound 1 = .ok (.istore_n 2, 1) := by decide +kernel
theorem dX12_isFound_2 : decode cX12_isFound 2 = .ok (.iconst 0, 1) := by decide +kernel
theorem dX12_isFound_3 : decode cX12_isFound 3 = .ok (.istore_n 3, 1) := by decide +kernel
theorem dX12_isFound_4 : decode cX12_isFound 4 = .ok (.iload_n 3, 1) := by decide +kernel
theorem dX12_isFound_5 : decode cX12_isFound 5 = .ok (.aload_n 0, 1) := by decide +kernel
theorem dX12_isFound_6 : decode cX12_isFound 6 = .ok (.getfield 103, 3) := by decide +kernel
theorem dX12_isFound_9 : decode cX12_isFound 9 = .ok (.if_icmp .ge 39, 3) := by decide +kernel
theorem dX12_isFound_12 : decode cX12_isFound 12 = .ok (.iload_n 2, 1) := by decide +kernel
theorem dX12_isFound_13 : decode cX12_isFound 13 = .ok (.ifCond .eq 27, 3) := by decide +kernel
theorem dX12_isFound_16 : decode cX12_isFound 16 = .ok (.aload_n 0, 1) := by decide +kernel
theorem dX12_isFound_17 : decode cX12_isFound 17 = .ok (.getfield 25, 3) := by decide +kernel
theorem dX12_isFound_20 : decode cX12_isFound 20 = .ok (.iload_n 3, 1) := by decide +kernel
theorem dX12_isFound_21 : decode cX12_isFound 21 = .ok (.iaload, 1) := by decide +kernel
theorem dX12_isFound_22 : decode cX12_isFound 22 = .ok (.ifCond .eq 14, 3) := by decide +kernel
theorem dX12_isFound_25 : decode cX12_isFound 25 = .ok (.aload_n 0, 1) := by decide +kernel
theorem dX12_isFound_26 : decode cX12_isFound 26 = .ok (.getfield 25, 3) := by decide +kernel
theorem dX12_isFound_29 : decode cX12_isFound 29 = .ok (.iload_n 3, 1) := by decide +kernel
theorem dX12_isFound_30 : decode cX12_isFound 30 = .ok (.iaload, 1) := by decide +kernel
theorem dX12_isFound_31 : decode cX12_isFound 31 = .ok (.iload_n 1, 1) := by decide +kernel
theorem dX12_isFound_32 : decode cX12_isFound 32 = .ok (.iand, 1) := by decide +kernel
theorem dX12_isFound_33 : decode cX12_isFound 33 = .ok (.ifCond .eq 7, 3) := by decide +kernel
theorem dX12_isFound_36 : decode cX12_isFound 36 = .ok (.iconst 1, 1) := by decide +kernel
theorem dX12_isFound_37 : decode cX12_isFound 37 = .ok (.goto 4, 3) := by decide +kernel
theorem dX12_isFound_40 : decode cX12_isFound 40 = .ok (.iconst 0, 1) := by decide +kernel
theorem dX12_isFound_41 : decode cX12_isFound 41 = .ok (.istore_n 2, 1) := by decide +kernel
theorem dX12_isFound_42 : decode cX12_isFound 42 = .ok (.iinc 3 1, 3) := by decide +kernel
theorem dX12_isFound_45 : decode cX12_isFound 45 = .ok (.goto (-41), 3) := by decide +kernel
theorem dX12_isFound_48 : decode cX12_isFound 48 = .ok (.iload_n 2, 1) := by decide +kernel
theorem dX12_isFound_49 : decode cX12_isFound 49 = .ok (.ireturn, 1) := by decide +kernel
set_option maxRecDepth 20000 in
theorem ggX12_findNow_X12_size : GoodIn wsX12_findNow wsX12_size := goodIn_r _ [5] (by decide +kernel) (by decide +kernel)
set_option maxRecDepth 20000 in
theorem gX12_findNow_X12_size : GoodIn wsX12_findNow (va_wsS RX12 155 yX12_size wsX12_size) := goodIn_app (goodIn_of _ (by decide +kernel)) ggX12_findNow_X12_size
set_option maxRecDepth 20000 in
theorem ggX12_findNow_X12_isFound : GoodIn wsX12_findNow wsX12_isFound := goodIn_r _ [9, 10, 11, 12, 13, 14, 15, 16, 17, 18, 19, 20, 21, 22, 23, 24, 25, 26, 27, 28, 29, 30, 31, 32, 33, 34, 35, 36, 37, 38, 39, 40, 41, 42, 43, 44, 45, 46, 47, 48] (by decide +kernel) (by decide +kernel)
set_option maxRecDepth 20000 in
theorem gX12_findNow_X12_isFound : GoodIn wsX12_findNow (wsV RX12 184 RX12 yX12_isFound wsX12_isFound) := goodIn_app (goodIn_of _ (by decide +kernel)) ggX12_findNow_X12_isFound
theorem dX12_findNow_0 : decode cX12_findNow 0 = .ok (.iconst (-1), 1) := by decide +kernel
theorem dX12_findNow_1 : decode cX12_findNow 1 = .ok (.istore_n 2, 1) := by decide +kernel
theorem dX12_findNow_2 : decode cX12_findNow 2 = .ok (.iconst 0, 1) := by decide +kernel
theorem dX12_findNow_3 : decode cX12_findNow 3 = .ok (.istore_n 3, 1) := by decide +kernel
theorem dX12_findNow_4 : decode cX12_findNow 4 = .ok (.iload_n 3, 1) := by decide +kernel
theorem dX12_findNow_5 : decode cX12_findNow 5 = .ok (.iconst 1, 1) := by decide +kernel
theorem dX12_findNow_6 : decode cX12_findNow 6 = .ok (.aload_n 0, 1) := by decide +kernel
theorem dX12_findNow_7 : decode cX12_findNow 7 = .ok (.getfield 94, 3) := by decide +kernel
theorem dX12_findNow_10 : decode cX12_findNow 10 = .ok (.ishl, 1) := by decide +kernel
theorem dX12_findNow_11 : decode cX12_findNow 11 = .ok (.if_icmp .ge 51, 3) := by decide +kernel
theorem dX12_findNow_14 : decode cX12_findNow 14 = .ok (.iload_n 2, 1) := by decide +kernel
theorem dX12_findNow_15 : decode cX12_findNow 15 = .ok (.iconst (-1), 1) := by decide +kernel
theorem dX12_findNow_16 : decode cX12_findNow 16 = .ok (.if_icmp .eq 14, 3) := by decide +kernel
theorem dX12_findNow_19 : decode cX12_findNow 19 = .ok (.iload_n 3, 1) := by decide +kernel
theorem dX12_findNow_20 : decode cX12_findNow 20 = .ok (.invokestatic 155, 3) := by decide +kernel
theorem dX12_findNow_23 : decode cX12_findNow 23 = .ok (.iload_n 2, 1) := by decide +kernel
theorem dX12_findNow_24 : decode cX12_findNow 24 = .ok (.invokestatic 155, 3) := by decide +kernel
theorem dX12_findNow_27 : decode cX12_findNow 27 = .ok (.if_icmp .ge 7, 3) := by decide +kernel
theorem dX12_findNow_30 : decode cX12_findNow 30 = .ok (.iconst 1, 1) := by decide +kernel
theorem dX12_findNow_31 : decode cX12_findNow 31 = .ok (.goto 4, 3) := by decide +kernel
theorem dX12_findNow_34 : decode cX12_findNow 34 = .ok (.iconst 0, 1) := by decide +kernel
theorem dX12_findNow_35 : decode cX12_findNow 35 = .ok (.istore 4, 2) := by decide +kernel
theorem dX12_findNow_37 : decode cX12_findNow 37 = .ok (.iload 4, 2) := by decide +kernel
theorem dX12_findNow_39 : decode cX12_findNow 39 = .ok (.ifCond .eq 15, 3) := by decide +kernel
theorem dX12_findNow_42 : decode cX12_findNow 42 = .ok (.aload_n 0, 1) := by decide +kernel
theorem dX12_findNow_43 : decode cX12_findNow 43 = .ok (.iload_n 3, 1) := by decide +kernel
theorem dX12_findNow_44 : decode cX12_findNow 44 = .ok (.invokevirtual 184, 3) := by decide +kernel
theorem dX12_findNow_47 : decode cX12_findNow 47 = .ok (.ifCond .eq 7, 3) := by decide +kernel
theorem dX12_findNow_50 : decode cX12_findNow 50 = .ok (.iload_n 3, 1) := by decide +kernel
theorem dX12_findNow_51 : decode cX12_findNow 51 = .ok (.goto 4, 3) := by decide +kernel
theorem dX12_findNow_54 : decode cX12_findNow 54 = .ok (.iload_n 2, 1) := by decide +kernel
theorem dX12_findNow_55 : decode cX12_findNow 55 = .ok (.istore_n 2, 1) := by decide +kernel
theorem dX12_findNow_56 : decode cX12_findNow 56 = .ok (.iinc 3 1, 3) := by decide +kernel
theorem dX12_findNow_59 : decode cX12_findNow 59 = .ok (.goto (-55), 3) := by decide +kernel
theorem dX12_findNow_62 : decode cX12_findNow 62 = .ok (.iload_n 1, 1) := by decide +kernel
theorem dX12_findNow_63 : decode cX12_findNow 63 = .ok (.ifCond .ne 10, 3) := by decide +kernel
theorem dX12_findNow_66 : decode cX12_findNow 66 = .ok (.iload_n 2, 1) := by decide +kernel
theorem dX12_findNow_67 : decode cX12_findNow 67 = .ok (.invokestatic 155, 3) := by decide +kernel
theorem dX12_findNow_70 : decode cX12_findNow 70 = .ok (.goto 4, 3) := by decide +kernel
theorem dX12_findNow_73 : decode cX12_findNow 73 = .ok (.iload_n 2, 1) := by decide +kernel
theorem dX12_findNow_74 : decode cX12_findNow 74 = .ok (.ireturn, 1) := by decide +kernel
set_option maxRecDepth 20000 in
theorem ggX12_find_X12_within : GoodIn wsX12_find wsX12_within := goodIn_r _ [5] (by decide +kernel) (by decide +kernel)
set_option maxRecDepth 20000 in
theorem gX12_find_X12_within : GoodIn wsX12_find (va_wsS RX12 68 yX12_within wsX12_within) := goodIn_app (goodIn_of _ (by decide +kernel)) ggX12_find_X12_within
set_option maxRecDepth 20000 in
theorem ggX12_find_X12_findNow : GoodIn wsX12_find wsX12_findNow := goodIn_r _ [9, 1, 10, 11, 4, 12, 13, 14, 15, 16, 17, 18, 19, 20, 21, 22, 23, 24, 25, 26, 27, 28, 29, 30, 31, 32, 33, 34, 35, 36, 37, 38, 39, 40, 41, 42, 43, 44, 45, 46, 47, 48, 49, 50, 51, 52, 53, 54, 55] (by decide +kernel) (by decide +kernel)
set_option maxRecDepth 20000 in
theorem gX12_find_X12_findNow : GoodIn wsX12_find (wsV RX12 187 RX12 yX12_findNow wsX12_findNow) := goodIn_app (goodIn_of _ (by decide +kernel)) ggX12_find_X12_findNow
theorem dX12_find_0 : decode cX12_find 0 = .ok (.iload_n 1, 1) := by decide +kernel
theorem dX12_find_1 : decode cX12_find 1 = .ok (.iconst 0, 1) := by decide +kernel
theorem dX12_find_2 : decode cX12_find 2 = .ok (.iconst 1, 1) := by decide +kernel
theorem dX12_find_3 : decode cX12_find 3 = .ok (.invokestatic 68, 3) := by decide +kernel
theorem dX12_find_6 : decode cX12_find 6 = .ok (.ifCond .ne 6, 3) := by decide +kernel
theorem dX12_find_9 : decode cX12_find 9 = .ok (.bipush (-102), 2) := by decide +kernel
theorem dX12_find_11 : decode cX12_find 11 = .ok (.ireturn, 1) := by decide +kernel
theorem dX12_find_12 : decode cX12_find 12 = .ok (.aload_n 0, 1) := by decide +kernel
theorem dX12_find_13 : decode cX12_find 13 = .ok (.getfield 94, 3) := by decide +kernel
theorem dX12_find_16 : decode cX12_find 16 = .ok (.ifCond .ne 8, 3) := by decide +kernel
theorem dX12_find_19 : decode cX12_find 19 = .ok (.bipush (-103), 2) := by decide +kernel
theorem dX12_find_21 : decode cX12_find 21 = .ok (.goto 8, 3) := by decide +kernel
theorem dX12_find_24 : decode cX12_find 24 = .ok (.aload_n 0, 1) := by decide +kernel
theorem dX12_find_25 : decode cX12_find 25 = .ok (.iload_n 1, 1) := by decide +kernel
theorem dX12_find_26 : decode cX12_find 26 = .ok (.invokevirtual 187, 3) := by decide +kernel
theorem dX12_find_29 : decode cX12_find 29 = .ok (.ireturn, 1) := by decide +kernel
set_option maxRecDepth 20000 in
theorem ggX12_hear_X12_isOne : GoodIn wsX12_hear wsX12_isOne := goodIn_r _ [8, 9, 10, 11, 7, 12, 13, 14, 15, 16, 17, 18, 19, 20, 21, 22, 23, 24, 25, 26, 27, 28, 29, 30, 31, 32, 33, 34, 35, 36, 37, 38, 39, 40, 41, 42, 43, 44, 45, 46, 47, 48, 49] (by decide +kernel) (by decide +kernel)
set_option maxRecDepth 20000 in
theorem gX12_hear_X12_isOne : GoodIn wsX12_hear (wsV RX12 139 RX12 yX12_isOne wsX12_isOne) := goodIn_app (goodIn_of _ (by decide +kernel)) ggX12_hear_X12_isOne
theorem dX12_hear_0 : decode cX12_hear 0 = .ok (.aload_n 0, 1) := by decide +kernel
theorem dX12_hear_1 : decode cX12_hear 1 = .ok (.iload_n 1, 1) := by decide +kernel
theorem dX12_hear_2 : decode cX12_hear 2 = .ok (.invokevirtual 139, 3) := by decide +kernel
theorem dX12_hear_5 : decode cX12_hear 5 = .ok (.ifCond .ne 6, 3) := by decide +kernel
theorem dX12_hear_8 : decode cX12_hear 8 = .ok (.bipush (-101), 2) := by decide +kernel
theorem dX12_hear_10 : decode cX12_hear 10 = .ok (.ireturn, 1) := by decide +kernel
theorem dX12_hear_11 : decode cX12_hear 11 = .ok (.aload_n 0, 1) := by decide +kernel
theorem dX12_hear_12 : decode cX12_hear 12 = .ok (.getfield 106, 3) := by decide +kernel
theorem dX12_hear_15 : decode cX12_hear 15 = .ok (.bipush 6, 2) := by decide +kernel
theorem dX12_hear_17 : decode cX12_hear 17 = .ok (.if_icmp .ne 6, 3) := by decide +kernel
theorem dX12_hear_20 : decode cX12_hear 20 = .ok (.bipush (-104), 2) := by decide +kernel
theorem dX12_hear_22 : decode cX12_hear 22 = .ok (.ireturn, 1) := by decide +kernel
theorem dX12_hear_23 : decode cX12_hear 23 = .ok (.aload_n 0, 1) := by decide +kernel
theorem dX12_hear_24 : decode cX12_hear 24 = .ok (.getfield 28, 3) := by decide +kernel
theorem dX12_hear_27 : decode cX12_hear 27 = .ok (.aload_n 0, 1) := by decide +kernel
theorem dX12_hear_28 : decode cX12_hear 28 = .ok (.getfield 106, 3) := by decide +kernel
theorem dX12_hear_31 : decode cX12_hear 31 = .ok (.iload_n 1, 1) := by decide +kernel
theorem dX12_hear_32 : decode cX12_hear 32 = .ok (.iastore, 1) := by decide +kernel
theorem dX12_hear_33 : decode cX12_hear 33 = .ok (.aload_n 0, 1) := by decide +kernel
theorem dX12_hear_34 : decode cX12_hear 34 = .ok (.getfield 31, 3) := by decide +kernel
theorem dX12_hear_37 : decode cX12_hear 37 = .ok (.aload_n 0, 1) := by decide +kernel
theorem dX12_hear_38 : decode cX12_hear 38 = .ok (.getfield 106, 3) := by decide +kernel
theorem dX12_hear_41 : decode cX12_hear 41 = .ok (.iload_n 2, 1) := by decide +kernel
theorem dX12_hear_42 : decode cX12_hear 42 = .ok (.ifCond .eq 7, 3) := by decide +kernel
theorem dX12_hear_45 : decode cX12_hear 45 = .ok (.iconst 1, 1) := by decide +kernel
theorem dX12_hear_46 : decode cX12_hear 46 = .ok (.goto 4, 3) := by decide +kernel
theorem dX12_hear_49 : decode cX12_hear 49 = .ok (.iconst 0, 1) := by decide +kernel
theorem dX12_hear_50 : decode cX12_hear 50 = .ok (.iastore, 1) := by decide +kernel
theorem dX12_hear_51 : decode cX12_hear 51 = .ok (.aload_n 0, 1) := by decide +kernel
theorem dX12_hear_52 : decode cX12_hear 52 = .ok (.dup, 1) := by decide +kernel
theorem dX12_hear_53 : decode cX12_hear 53 = .ok (.getfield 106, 3) := by decide +kernel
theorem dX12_hear_56 : decode cX12_hear 56 = .ok (.iconst 1, 1) := by decide +kernel
theorem dX12_hear_57 : decode cX12_hear 57 = .ok (.iadd, 1) := by decide +kernel
theorem dX12_hear_58 : decode cX12_hear 58 = .ok (.putfield 106, 3) := by decide +kernel
theorem dX12_hear_61 : decode cX12_hear 61 = .ok (.aload_n 0, 1) := by decide +kernel
theorem dX12_hear_62 : decode cX12_hear 62 = .ok (.getfield 106, 3) := by decide +kernel
theorem dX12_hear_65 : decode cX12_hear 65 = .ok (.ireturn, 1) := by decide +kernel
theorem dX12_forget_0 : decode cX12_forget 0 = .ok (.aload_n 0, 1) := by decide +kernel
theorem dX12_forget_1 : decode cX12_forget 1 = .ok (.getfield 106, 3) := by decide +kernel
theorem dX12_forget_4 : decode cX12_forget 4 = .ok (.istore_n 1, 1) := by decide +kernel
theorem dX12_forget_5 : decode cX12_forget 5 = .ok (.aload_n 0, 1) := by decide +kernel
theorem dX12_forget_6 : decode cX12_forget 6 = .ok (.iconst 0, 1) := by decide +kernel
theorem dX12_forget_7 : decode cX12_forget 7 = .ok (.putfield 106, 3) := by decide +kernel
theorem dX12_forget_10 : decode cX12_forget 10 = .ok (.iload_n 1, 1) := by decide +kernel
theorem dX12_forget_11 : decode cX12_forget 11 = .ok (.ireturn, 1) := by decide +kernel
theorem dX12_isHeard_0 : decode cX12_isHeard 0 = .ok (.iconst 1, 1) := by decide +kernel
theorem dX12_isHeard_1 : decode cX12_isHeard 1 = .ok (.istore_n 2, 1) := by decide +kernel
theorem dX12_isHeard_2 : decode cX12_isHeard 2 = .ok (.iconst 0, 1) := by decide +kernel
theorem dX12_isHeard_3 : decode cX12_isHeard 3 = .ok (.istore_n 3, 1) := by decide +kernel
theorem dX12_isHeard_4 : decode cX12_isHeard 4 = .ok (.iload_n 3, 1) := by decide +kernel
theorem dX12_isHeard_5 : decode cX12_isHeard 5 = .ok (.aload_n 0, 1) := by decide +kernel
theorem dX12_isHeard_6 : decode cX12_isHeard 6 = .ok (.getfield 106, 3) := by decide +kernel
theorem dX12_isHeard_9 : decode cX12_isHeard 9 = .ok (.if_icmp .ge 38, 3) := by decide +kernel
theorem dX12_isHeard_12 : decode cX12_isHeard 12 = .ok (.iload_n 2, 1) := by decide +kernel
theorem dX12_isHeard_13 : decode cX12_isHeard 13 = .ok (.ifCond .eq 26, 3) := by decide +kernel
theorem dX12_isHeard_16 : decode cX12_isHeard 16 = .ok (.iload_n 1, 1) := by decide +kernel
theorem dX12_isHeard_17 : decode cX12_isHeard 17 = .ok (.aload_n 0, 1) := by decide +kernel
theorem dX12_isHeard_18 : decode cX12_isHeard 18 = .ok (.getfield 28, 3) := by decide +kernel
theorem dX12_isHeard_21 : decode cX12_isHeard 21 = .ok (.iload_n 3, 1) := by decide +kernel
theorem dX12_isHeard_22 : decode cX12_isHeard 22 = .ok (.iaload, 1) := by decide +kernel
theorem dX12_isHeard_23 : decode cX12_isHeard 23 = .ok (.ishr, 1) := by decide +kernel
theorem dX12_isHeard_24 : decode cX12_isHeard 24 = .ok (.iconst 1, 1) := by decide +kernel
theorem dX12_isHeard_25 : decode cX12_isHeard 25 = .ok (.iand, 1) := by decide +kernel
theorem dX12_isHeard_26 : decode cX12_isHeard 26 = .ok (.aload_n 0, 1) := by decide +kernel
theorem dX12_isHeard_27 : decode cX12_isHeard 27 = .ok (.getfield 31, 3) := by decide +kernel
theorem dX12_isHeard_30 : decode cX12_isHeard 30 = .ok (.iload_n 3, 1) := by decide +kernel
theorem dX12_isHeard_31 : decode cX12_isHeard 31 = .ok (.iaload, 1) := by decide +kernel
theorem dX12_isHeard_32 : decode cX12_isHeard 32 = .ok (.if_icmp .ne 7, 3) := by decide +kernel
theorem dX12_isHeard_35 : decode cX12_isHeard 35 = .ok (.iconst 1, 1) := by decide +kernel
theorem dX12_isHeard_36 : decode cX12_isHeard 36 = .ok (.goto 4, 3) := by decide +kernel
theorem dX12_isHeard_39 : decode cX12_isHeard 39 = .ok (.iconst 0, 1) := by decide +kernel
theorem dX12_isHeard_40 : decode cX12_isHeard 40 = .ok (.istore_n 2, 1) := by decide +kernel
theorem dX12_isHeard_41 : decode cX12_isHeard 41 = .ok (.iinc 3 1, 3) := by decide +kernel
theorem dX12_isHeard_44 : decode cX12_isHeard 44 = .ok (.goto (-40), 3) := by decide +kernel
theorem dX12_isHeard_47 : decode cX12_isHeard 47 = .ok (.iload_n 2, 1) := by decide +kernel
theorem dX12_isHeard_48 : decode cX12_isHeard 48 = .ok (.ireturn, 1) := by decide +kernel
set_option maxRecDepth 20000 in
theorem ggX12_layHands_X12_codes : GoodIn wsX12_layHands wsX12_codes := goodIn_r _ [9] (by decide +kernel) (by decide +kernel)
set_option maxRecDepth 20000 in
theorem gX12_layHands_X12_codes : GoodIn wsX12_layHands (va_wsS RX12 171 yX12_codes wsX12_codes) := goodIn_app (goodIn_of _ (by decide +kernel)) ggX12_layHands_X12_codes
set_option maxRecDepth 20000 in
theorem ggX12_layHands_X12_lendBy : GoodIn wsX12_layHands wsX12_lendBy := goodIn_r _ [13, 14, 15, 16, 17, 8, 18, 19, 20, 21, 22, 4, 23, 24, 25, 26, 27, 28, 29, 5, 30, 31, 32, 33, 34, 35, 36, 37, 38, 39, 40, 41, 42, 43, 44, 45, 58, 59, 60, 61, 62, 63, 64, 65, 66, 67, 68, 69, 70, 71, 72, 73, 74, 75, 76, 77, 78, 79, 80, 81, 82, 83, 84, 85, 86, 87, 88, 89, 90, 91, 92, 93, 94] (by decide +kernel) (by decide +kernel)
set_option maxRecDepth 20000 in
theorem gX12_layHands_X12_lendBy : GoodIn wsX12_layHands (wsV RX12 174 RX12 yX12_lendBy wsX12_lendBy) := goodIn_app (goodIn_of _ (by decide +kernel)) ggX12_layHands_X12_lendBy
set_option maxRecDepth 20000 in
theorem ggX12_layHands_X12_boundThought : GoodIn wsX12_layHands wsX12_boundThought := goodIn_r _ [49, 19, 50, 4, 41, 58, 59, 60, 61, 62, 63, 64, 65, 66, 67, 68, 69, 70, 71, 72, 73, 74, 75, 76, 77, 78, 79, 80, 81, 82, 83, 84, 85, 86, 87, 88, 89, 90, 91, 92, 93, 94] (by decide +kernel) (by decide +kernel)
set_option maxRecDepth 20000 in
theorem gX12_layHands_X12_boundThought : GoodIn wsX12_layHands (wsV RX12 121 RX12 yX12_boundThought wsX12_boundThought) := goodIn_app (goodIn_of _ (by decide +kernel)) ggX12_layHands_X12_boundThought
set_option maxRecDepth 20000 in
theorem ggX12_layHands_X12_isHeard : GoodIn wsX12_layHands wsX12_isHeard := goodIn_r _ [54, 55, 56, 57, 58, 59, 60, 61, 62, 63, 64, 65, 66, 67, 68, 69, 70, 71, 72, 73, 74, 75, 76, 77, 78, 79, 80, 81, 82, 83, 84, 85, 86, 87, 88, 89, 90, 91, 92, 93, 94] (by decide +kernel) (by decide +kernel)
set_option maxRecDepth 20000 in
theorem gX12_layHands_X12_isHeard : GoodIn wsX12_layHands (wsV RX12 196 RX12 yX12_isHeard wsX12_isHeard) := goodIn_app (goodIn_of _ (by decide +kernel)) ggX12_layHands_X12_isHeard
theorem dX12_layHands_0 : decode cX12_layHands 0 = .ok (.aload_n 0, 1) := by decide +kernel
theorem dX12_layHands_1 : decode cX12_layHands 1 = .ok (.iconst 0, 1) := by decide +kernel
theorem dX12_layHands_2 : decode cX12_layHands 2 = .ok (.putfield 190, 3) := by decide +kernel
theorem dX12_layHands_5 : decode cX12_layHands 5 = .ok (.aload_n 0, 1) := by decide +kernel
theorem dX12_layHands_6 : decode cX12_layHands 6 = .ok (.iconst 0, 1) := by decide +kernel
theorem dX12_layHands_7 : decode cX12_layHands 7 = .ok (.putfield 193, 3) := by decide +kernel
theorem dX12_layHands_10 : decode cX12_layHands 10 = .ok (.iconst 0, 1) := by decide +kernel
theorem dX12_layHands_11 : decode cX12_layHands 11 = .ok (.istore_n 3, 1) := by decide +kernel
theorem dX12_layHands_12 : decode cX12_layHands 12 = .ok (.iload_n 3, 1) := by decide +kernel
theorem dX12_layHands_13 : decode cX12_layHands 13 = .ok (.iconst 5, 1) := by decide +kernel
theorem dX12_layHands_14 : decode cX12_layHands 14 = .ok (.if_icmp .ge 16, 3) := by decide +kernel
theorem dX12_layHands_17 : decode cX12_layHands 17 = .ok (.aload_n 0, 1) := by decide +kernel
theorem dX12_layHands_18 : decode cX12_layHands 18 = .ok (.getfield 47, 3) := by decide +kernel
theorem dX12_layHands_21 : decode cX12_layHands 21 = .ok (.iload_n 3, 1) := by decide +kernel
theorem dX12_layHands_22 : decode cX12_layHands 22 = .ok (.iconst 0, 1) := by decide +kernel
theorem dX12_layHands_23 : decode cX12_layHands 23 = .ok (.iastore, 1) := by decide +kernel
theorem dX12_layHands_24 : decode cX12_layHands 24 = .ok (.iinc 3 1, 3) := by decide +kernel
theorem dX12_layHands_27 : decode cX12_layHands 27 = .ok (.goto (-15), 3) := by decide +kernel
theorem dX12_layHands_30 : decode cX12_layHands 30 = .ok (.iconst 0, 1) := by decide +kernel
theorem dX12_layHands_31 : decode cX12_layHands 31 = .ok (.istore_n 3, 1) := by decide +kernel
theorem dX12_layHands_32 : decode cX12_layHands 32 = .ok (.iload_n 3, 1) := by decide +kernel
theorem dX12_layHands_33 : decode cX12_layHands 33 = .ok (.iload_n 2, 1) := by decide +kernel
theorem dX12_layHands_34 : decode cX12_layHands 34 = .ok (.invokestatic 171, 3) := by decide +kernel
theorem dX12_layHands_37 : decode cX12_layHands 37 = .ok (.if_icmp .ge 98, 3) := by decide +kernel
theorem dX12_layHands_40 : decode cX12_layHands 40 = .ok (.aload_n 0, 1) := by decide +kernel
theorem dX12_layHands_41 : decode cX12_layHands 41 = .ok (.iload_n 1, 1) := by decide +kernel
theorem dX12_layHands_42 : decode cX12_layHands 42 = .ok (.iload_n 2, 1) := by decide +kernel
theorem dX12_layHands_43 : decode cX12_layHands 43 = .ok (.iload_n 3, 1) := by decide +kernel
theorem dX12_layHands_44 : decode cX12_layHands 44 = .ok (.invokevirtual 174, 3) := by decide +kernel
theorem dX12_layHands_47 : decode cX12_layHands 47 = .ok (.ifCond .eq 82, 3) := by decide +kernel
theorem dX12_layHands_50 : decode cX12_layHands 50 = .ok (.aload_n 0, 1) := by decide +kernel
theorem dX12_layHands_51 : decode cX12_layHands 51 = .ok (.aload_n 0, 1) := by decide +kernel
theorem dX12_layHands_52 : decode cX12_layHands 52 = .ok (.iload_n 1, 1) := by decide +kernel
theorem dX12_layHands_53 : decode cX12_layHands 53 = .ok (.invokevirtual 121, 3) := by decide +kernel
theorem dX12_layHands_56 : decode cX12_layHands 56 = .ok (.invokevirtual 196, 3) := by decide +kernel
theorem dX12_layHands_59 : decode cX12_layHands 59 = .ok (.ifCond .eq 70, 3) := by decide +kernel
theorem dX12_layHands_62 : decode cX12_layHands 62 = .ok (.aload_n 0, 1) := by decide +kernel
theorem dX12_layHands_63 : decode cX12_layHands 63 = .ok (.dup, 1) := by decide +kernel
theorem dX12_layHands_64 : decode cX12_layHands 64 = .ok (.getfield 190, 3) := by decide +kernel
theorem dX12_layHands_67 : decode cX12_layHands 67 = .ok (.iconst 1, 1) := by decide +kernel
theorem dX12_layHands_68 : decode cX12_layHands 68 = .ok (.iadd, 1) := by decide +kernel
theorem dX12_layHands_69 : decode cX12_layHands 69 = .ok (.putfield 190, 3) := by decide +kernel
theorem dX12_layHands_72 : decode cX12_layHands 72 = .ok (.aload_n 0, 1) := by decide +kernel
theorem dX12_layHands_73 : decode cX12_layHands 73 = .ok (.dup, 1) := by decide +kernel
theorem dX12_layHands_74 : decode cX12_layHands 74 = .ok (.getfield 193, 3) := by decide +kernel
theorem dX12_layHands_77 : decode cX12_layHands 77 = .ok (.iconst 1, 1) := by decide +kernel
theorem dX12_layHands_78 : decode cX12_layHands 78 = .ok (.aload_n 0, 1) := by decide +kernel
theorem dX12_layHands_79 : decode cX12_layHands 79 = .ok (.getfield 38, 3) := by decide +kernel
theorem dX12_layHands_82 : decode cX12_layHands 82 = .ok (.iconst 5, 1) := by decide +kernel
theorem dX12_layHands_83 : decode cX12_layHands 83 = .ok (.iload_n 1, 1) := by decide +kernel
theorem dX12_layHands_84 : decode cX12_layHands 84 = .ok (.imul, 1) := by decide +kernel
theorem dX12_layHands_85 : decode cX12_layHands 85 = .ok (.iaload, 1) := by decide +kernel
theorem dX12_layHands_86 : decode cX12_layHands 86 = .ok (.ishl, 1) := by decide +kernel
theorem dX12_layHands_87 : decode cX12_layHands 87 = .ok (.ior, 1) := by decide +kernel
theorem dX12_layHands_88 : decode cX12_layHands 88 = .ok (.putfield 193, 3) := by decide +kernel
theorem dX12_layHands_91 : decode cX12_layHands 91 = .ok (.iconst 0, 1) := by decide +kernel
theorem dX12_layHands_92 : decode cX12_layHands 92 = .ok (.istore 4, 2) := by decide +kernel
theorem dX12_layHands_94 : decode cX12_layHands 94 = .ok (.iload 4, 2) := by decide +kernel
theorem dX12_layHands_96 : decode cX12_layHands 96 = .ok (.aload_n 0, 1) := by decide +kernel
theorem dX12_layHands_97 : decode cX12_layHands 97 = .ok (.getfield 94, 3) := by decide +kernel
theorem dX12_layHands_100 : decode cX12_layHands 100 = .ok (.if_icmp .ge 29, 3) := by decide +kernel
theorem dX12_layHands_103 : decode cX12_layHands 103 = .ok (.aload_n 0, 1) := by decide +kernel
theorem dX12_layHands_104 : decode cX12_layHands 104 = .ok (.getfield 47, 3) := by decide +kernel
theorem dX12_layHands_107 : decode cX12_layHands 107 = .ok (.iload 4, 2) := by decide +kernel
theorem dX12_layHands_109 : decode cX12_layHands 109 = .ok (.dup2, 1) := by decide +kernel
theorem dX12_layHands_110 : decode cX12_layHands 110 = .ok (.iaload, 1) := by decide +kernel
theorem dX12_layHands_111 : decode cX12_layHands 111 = .ok (.aload_n 0, 1) := by decide +kernel
theorem dX12_layHands_112 : decode cX12_layHands 112 = .ok (.iload_n 1, 1) := by decide +kernel
theorem dX12_layHands_113 : decode cX12_layHands 113 = .ok (.invokevirtual 121, 3) := by decide +kernel
theorem dX12_layHands_116 : decode cX12_layHands 116 = .ok (.iload 4, 2) := by decide +kernel
theorem dX12_layHands_118 : decode cX12_layHands 118 = .ok (.ishr, 1) := by decide +kernel
theorem dX12_layHands_119 : decode cX12_layHands 119 = .ok (.iconst 1, 1) := by decide +kernel
theorem dX12_layHands_120 : decode cX12_layHands 120 = .ok (.iand, 1) := by decide +kernel
theorem dX12_layHands_121 : decode cX12_layHands 121 = .ok (.iadd, 1) := by decide +kernel
theorem dX12_layHands_122 : decode cX12_layHands 122 = .ok (.iastore, 1) := by decide +kernel
theorem dX12_layHands_123 : decode cX12_layHands 123 = .ok (.iinc 4 1, 3) := by decide +kernel
theorem dX12_layHands_126 : decode cX12_layHands 126 = .ok (.goto (-32), 3) := by decide +kernel
theorem dX12_layHands_129 : decode cX12_layHands 129 = .ok (.iinc 3 1, 3) := by decide +kernel
theorem dX12_layHands_132 : decode cX12_layHands 132 = .ok (.goto (-100), 3) := by decide +kernel
theorem dX12_layHands_135 : decode cX12_layHands 135 = .ok (.return_, 1) := by decide +kernel
set_option maxRecDepth 20000 in
theorem ggX12_handsNow_X12_layHands : GoodIn wsX12_handsNow wsX12_layHands := goodIn_r _ [7, 1, 2, 8, 9, 10, 11, 12, 6, 13, 14, 15, 16, 17, 18, 19, 20, 21, 22, 23, 24, 25, 26, 27, 28, 29, 30, 31, 32, 33, 34, 35, 36, 37, 38, 39, 40, 41, 42, 43, 44, 45, 46, 47, 48, 49, 50, 51, 52, 53, 54, 55, 56, 57, 58, 59, 60, 61, 62, 63, 64, 65, 66, 67, 68, 69, 70, 71, 72, 73, 74, 75, 76, 77, 78, 79, 80, 81, 82, 83, 84, 85, 86, 87, 88, 89, 90, 91, 92, 93, 94, 95, 96, 97, 98] (by decide +kernel) (by decide +kernel)
set_option maxRecDepth 20000 in
theorem gX12_handsNow_X12_layHands : GoodIn wsX12_handsNow (wsV RX12 199 RX12 yX12_layHands wsX12_layHands) := goodIn_app (goodIn_of _ (by decide +kernel)) ggX12_handsNow_X12_layHands
theorem dX12_handsNow_0 : decode cX12_handsNow 0 = .ok (.aload_n 0, 1) := by decide +kernel
theorem dX12_handsNow_1 : decode cX12_handsNow 1 = .ok (.iload_n 1, 1) := by decide +kernel
theorem dX12_handsNow_2 : decode cX12_handsNow 2 = .ok (.iload_n 2, 1) := by decide +kernel
theorem dX12_handsNow_3 : decode cX12_handsNow 3 = .ok (.invokevirtual 199, 3) := by decide +kernel
theorem dX12_handsNow_6 : decode cX12_handsNow 6 = .ok (.iload_n 3, 1) := by decide +kernel
theorem dX12_handsNow_7 : decode cX12_handsNow 7 = .ok (.ifCond .ne 10, 3) := by decide +kernel
theorem dX12_handsNow_10 : decode cX12_handsNow 10 = .ok (.aload_n 0, 1) := by decide +kernel
theorem dX12_handsNow_11 : decode cX12_handsNow 11 = .ok (.getfield 190, 3) := by decide +kernel
theorem dX12_handsNow_14 : decode cX12_handsNow 14 = .ok (.goto 7, 3) := by decide +kernel
theorem dX12_handsNow_17 : decode cX12_handsNow 17 = .ok (.aload_n 0, 1) := by decide +kernel
theorem dX12_handsNow_18 : decode cX12_handsNow 18 = .ok (.getfield 193, 3) := by decide +kernel
theorem dX12_handsNow_21 : decode cX12_handsNow 21 = .ok (.ireturn, 1) := by decide +kernel
set_option maxRecDepth 20000 in
theorem ggX12_hands_X12_isOne : GoodIn wsX12_hands wsX12_isOne := goodIn_r _ [5, 6, 7, 8, 4, 9, 66, 67, 68, 69, 70, 71, 72, 73, 74, 75, 76, 77, 78, 79, 80, 81, 82, 83, 84, 85, 86, 87, 88, 89, 90, 91, 92, 93, 94, 95, 96, 97, 98, 99, 100, 101, 102] (by decide +kernel) (by decide +kernel)
set_option maxRecDepth 20000 in
theorem gX12_hands_X12_isOne : GoodIn wsX12_hands (wsV RX12 139 RX12 yX12_isOne wsX12_isOne) := goodIn_app (goodIn_of _ (by decide +kernel)) ggX12_hands_X12_isOne
set_option maxRecDepth 20000 in
theorem ggX12_hands_X12_within : GoodIn wsX12_hands wsX12_within := goodIn_r _ [9] (by decide +kernel) (by decide +kernel)
set_option maxRecDepth 20000 in
theorem gX12_hands_X12_within : GoodIn wsX12_hands (va_wsS RX12 68 yX12_within wsX12_within) := goodIn_app (goodIn_of _ (by decide +kernel)) ggX12_hands_X12_within
set_option maxRecDepth 20000 in
theorem ggX12_hands_X12_handsNow : GoodIn wsX12_hands wsX12_handsNow := goodIn_r _ [13, 14, 15, 16, 17, 18, 4, 19, 20, 21, 6, 22, 23, 24, 25, 26, 27, 28, 29, 30, 31, 32, 33, 34, 35, 36, 37, 38, 39, 40, 1, 2, 3, 5, 7, 8, 9, 41, 42, 43, 44, 45, 46, 47, 48, 49, 50, 51, 52, 53, 54, 55, 56, 57, 58, 59, 60, 61, 62, 63, 64, 65, 66, 67, 68, 69, 70, 71, 72, 73, 74, 75, 76, 77, 78, 79, 80, 81, 82, 83, 84, 85, 86, 87, 88, 89, 90, 91, 92, 93, 94, 95, 96, 97, 98, 99, 100, 101, 102] (by decide +kernel) (by decide +kernel)
set_option maxRecDepth 20000 in
theorem gX12_hands_X12_handsNow : GoodIn wsX12_hands (wsV RX12 202 RX12 yX12_handsNow wsX12_handsNow) := goodIn_app (goodIn_of _ (by decide +kernel)) ggX12_hands_X12_handsNow
theorem dX12_hands_0 : decode cX12_hands 0 = .ok (.aload_n 0, 1) := by decide +kernel
theorem dX12_hands_1 : decode cX12_hands 1 = .ok (.iload_n 1, 1) := by decide +kernel
theorem dX12_hands_2 : decode cX12_hands 2 = .ok (.invokevirtual 139, 3) := by decide +kernel
theorem dX12_hands_5 : decode cX12_hands 5 = .ok (.ifCond .ne 6, 3) := by decide +kernel
theorem dX12_hands_8 : decode cX12_hands 8 = .ok (.bipush (-101), 2) := by decide +kernel
theorem dX12_hands_10 : decode cX12_hands 10 = .ok (.ireturn, 1) := by decide +kernel
theorem dX12_hands_11 : decode cX12_hands 11 = .ok (.iload_n 2, 1) := by decide +kernel
theorem dX12_hands_12 : decode cX12_hands 12 = .ok (.iconst 0, 1) := by decide +kernel
theorem dX12_hands_13 : decode cX12_hands 13 = .ok (.iconst 4, 1) := by decide +kernel
theorem dX12_hands_14 : decode cX12_hands 14 = .ok (.invokestatic 68, 3) := by decide +kernel
theorem dX12_hands_17 : decode cX12_hands 17 = .ok (.ifCond .eq 22, 3) := by decide +kernel
theorem dX12_hands_20 : decode cX12_hands 20 = .ok (.iload_n 3, 1) := by decide +kernel
theorem dX12_hands_21 : decode cX12_hands 21 = .ok (.iconst 0, 1) := by decide +kernel
theorem dX12_hands_22 : decode cX12_hands 22 = .ok (.iconst 1, 1) := by decide +kernel
theorem dX12_hands_23 : decode cX12_hands 23 = .ok (.invokestatic 68, 3) := by decide +kernel
theorem dX12_hands_26 : decode cX12_hands 26 = .ok (.ifCond .eq 13, 3) := by decide +kernel
theorem dX12_hands_29 : decode cX12_hands 29 = .ok (.aload_n 0, 1) := by decide +kernel
theorem dX12_hands_30 : decode cX12_hands 30 = .ok (.iload_n 1, 1) := by decide +kernel
theorem dX12_hands_31 : decode cX12_hands 31 = .ok (.iload_n 2, 1) := by decide +kernel
theorem dX12_hands_32 : decode cX12_hands 32 = .ok (.iload_n 3, 1) := by decide +kernel
theorem dX12_hands_33 : decode cX12_hands 33 = .ok (.invokevirtual 202, 3) := by decide +kernel
theorem dX12_hands_36 : decode cX12_hands 36 = .ok (.goto 5, 3) := by decide +kernel
theorem dX12_hands_39 : decode cX12_hands 39 = .ok (.bipush (-102), 2) := by decide +kernel
theorem dX12_hands_41 : decode cX12_hands 41 = .ok (.ireturn, 1) := by decide +kernel
set_option maxRecDepth 20000 in
theorem ggX12_askNow_X12_layHands : GoodIn wsX12_askNow wsX12_layHands := goodIn_r _ [9, 3, 10, 4, 11, 2, 12, 13, 8, 14, 15, 16, 17, 18, 19, 20, 21, 22, 23, 24, 25, 26, 27, 28, 29, 30, 31, 32, 33, 34, 35, 36, 37, 38, 39, 40, 41, 42, 43, 44, 45, 46, 47, 48, 49, 50, 51, 52, 53, 54, 55, 56, 57, 58, 59, 60, 61, 62, 63, 64, 65, 66, 67, 68, 69, 70, 71, 72, 73, 74, 75, 76, 77, 78, 79, 80, 81, 82, 83, 84, 85, 86, 87, 88, 89, 90, 91, 92, 93, 94, 95, 96, 97, 98, 99] (by decide +kernel) (by decide +kernel)
set_option maxRecDepth 20000 in
theorem gX12_askNow_X12_layHands : GoodIn wsX12_askNow (wsV RX12 199 RX12 yX12_layHands wsX12_layHands) := goodIn_app (goodIn_of _ (by decide +kernel)) ggX12_askNow_X12_layHands
theorem dX12_askNow_0 : decode cX12_askNow 0 = .ok (.aload_n 0, 1) := by decide +kernel
theorem dX12_askNow_1 : decode cX12_askNow 1 = .ok (.iload_n 1, 1) := by decide +kernel
theorem dX12_askNow_2 : decode cX12_askNow 2 = .ok (.iload_n 2, 1) := by decide +kernel
theorem dX12_askNow_3 : decode cX12_askNow 3 = .ok (.invokevirtual 199, 3) := by decide +kernel
theorem dX12_askNow_6 : decode cX12_askNow 6 = .ok (.iconst (-1), 1) := by decide +kernel
theorem dX12_askNow_7 : decode cX12_askNow 7 = .ok (.istore_n 3, 1) := by decide +kernel
theorem dX12_askNow_8 : decode cX12_askNow 8 = .ok (.ldc 205, 2) := by decide +kernel
theorem dX12_askNow_10 : decode cX12_askNow 10 = .ok (.istore 4, 2) := by decide +kernel
theorem dX12_askNow_12 : decode cX12_askNow 12 = .ok (.iconst 0, 1) := by decide +kernel
theorem dX12_askNow_13 : decode cX12_askNow 13 = .ok (.istore 5, 2) := by decide +kernel
theorem dX12_askNow_15 : decode cX12_askNow 15 = .ok (.iload 5, 2) := by decide +kernel
theorem dX12_askNow_17 : decode cX12_askNow 17 = .ok (.aload_n 0, 1) := by decide +kernel
theorem dX12_askNow_18 : decode cX12_askNow 18 = .ok (.getfield 94, 3) := by decide +kernel
theorem dX12_askNow_21 : decode cX12_askNow 21 = .ok (.if_icmp .ge 86, 3) := by decide +kernel
theorem dX12_askNow_24 : decode cX12_askNow 24 = .ok (.aload_n 0, 1) := by decide +kernel
theorem dX12_askNow_25 : decode cX12_askNow 25 = .ok (.getfield 190, 3) := by decide +kernel
theorem dX12_askNow_28 : decode cX12_askNow 28 = .ok (.ifCond .le 79, 3) := by decide +kernel
theorem dX12_askNow_31 : decode cX12_askNow 31 = .ok (.aload_n 0, 1) := by decide +kernel
theorem dX12_askNow_32 : decode cX12_askNow 32 = .ok (.getfield 190, 3) := by decide +kernel
theorem dX12_askNow_35 : decode cX12_askNow 35 = .ok (.aload_n 0, 1) := by decide +kernel
theorem dX12_askNow_36 : decode cX12_askNow 36 = .ok (.getfield 47, 3) := by decide +kernel
theorem dX12_askNow_39 : decode cX12_askNow 39 = .ok (.iload 5, 2) := by decide +kernel
theorem dX12_askNow_41 : decode cX12_askNow 41 = .ok (.iaload, 1) := by decide +kernel
theorem dX12_askNow_42 : decode cX12_askNow 42 = .ok (.isub, 1) := by decide +kernel
theorem dX12_askNow_43 : decode cX12_askNow 43 = .ok (.istore 6, 2) := by decide +kernel
theorem dX12_askNow_45 : decode cX12_askNow 45 = .ok (.aload_n 0, 1) := by decide +kernel
theorem dX12_askNow_46 : decode cX12_askNow 46 = .ok (.getfield 47, 3) := by decide +kernel
theorem dX12_askNow_49 : decode cX12_askNow 49 = .ok (.iload 5, 2) := by decide +kernel
theorem dX12_askNow_51 : decode cX12_askNow 51 = .ok (.iaload, 1) := by decide +kernel
theorem dX12_askNow_52 : decode cX12_askNow 52 = .ok (.iload 6, 2) := by decide +kernel
theorem dX12_askNow_54 : decode cX12_askNow 54 = .ok (.if_icmp .le 13, 3) := by decide +kernel
theorem dX12_askNow_57 : decode cX12_askNow 57 = .ok (.aload_n 0, 1) := by decide +kernel
theorem dX12_askNow_58 : decode cX12_askNow 58 = .ok (.getfield 47, 3) := by decide +kernel
theorem dX12_askNow_61 : decode cX12_askNow 61 = .ok (.iload 5, 2) := by decide +kernel
theorem dX12_askNow_63 : decode cX12_askNow 63 = .ok (.iaload, 1) := by decide +kernel
theorem dX12_askNow_64 : decode cX12_askNow 64 = .ok (.goto 5, 3) := by decide +kernel
theorem dX12_askNow_67 : decode cX12_askNow 67 = .ok (.iload 6, 2) := by decide +kernel
theorem dX12_askNow_69 : decode cX12_askNow 69 = .ok (.istore 7, 2) := by decide +kernel
theorem dX12_askNow_71 : decode cX12_askNow 71 = .ok (.iload 7, 2) := by decide +kernel
theorem dX12_askNow_73 : decode cX12_askNow 73 = .ok (.iload 4, 2) := by decide +kernel
theorem dX12_askNow_75 : decode cX12_askNow 75 = .ok (.if_icmp .ge 8, 3) := by decide +kernel
theorem dX12_askNow_78 : decode cX12_askNow 78 = .ok (.iload 5, 2) := by decide +kernel
theorem dX12_askNow_80 : decode cX12_askNow 80 = .ok (.goto 4, 3) := by decide +kernel
theorem dX12_askNow_83 : decode cX12_askNow 83 = .ok (.iload_n 3, 1) := by decide +kernel
theorem dX12_askNow_84 : decode cX12_askNow 84 = .ok (.istore_n 3, 1) := by decide +kernel
theorem dX12_askNow_85 : decode cX12_askNow 85 = .ok (.iload 7, 2) := by decide +kernel
theorem dX12_askNow_87 : decode cX12_askNow 87 = .ok (.iload 4, 2) := by decide +kernel
theorem dX12_askNow_89 : decode cX12_askNow 89 = .ok (.if_icmp .ge 8, 3) := by decide +kernel
theorem dX12_askNow_92 : decode cX12_askNow 92 = .ok (.iload 7, 2) := by decide +kernel
theorem dX12_askNow_94 : decode cX12_askNow 94 = .ok (.goto 5, 3) := by decide +kernel
theorem dX12_askNow_97 : decode cX12_askNow 97 = .ok (.iload 4, 2) := by decide +kernel
theorem dX12_askNow_99 : decode cX12_askNow 99 = .ok (.istore 4, 2) := by decide +kernel
theorem dX12_askNow_101 : decode cX12_askNow 101 = .ok (.iinc 5 1, 3) := by decide +kernel
theorem dX12_askNow_104 : decode cX12_askNow 104 = .ok (.goto (-89), 3) := by decide +kernel
theorem dX12_askNow_107 : decode cX12_askNow 107 = .ok (.iload_n 3, 1) := by decide +kernel
theorem dX12_askNow_108 : decode cX12_askNow 108 = .ok (.ireturn, 1) := by decide +kernel
set_option maxRecDepth 20000 in
theorem ggX12_ask_X12_isOne : GoodIn wsX12_ask wsX12_isOne := goodIn_r _ [5, 6, 7, 8, 4, 9, 67, 68, 69, 70, 71, 72, 73, 74, 75, 76, 77, 78, 79, 80, 81, 82, 83, 84, 85, 86, 87, 88, 89, 90, 91, 92, 93, 94, 95, 96, 97, 98, 99, 100, 101, 102, 103] (by decide +kernel) (by decide +kernel)
set_option maxRecDepth 20000 in
theorem gX12_ask_X12_isOne : GoodIn wsX12_ask (wsV RX12 139 RX12 yX12_isOne wsX12_isOne) := goodIn_app (goodIn_of _ (by decide +kernel)) ggX12_ask_X12_isOne
set_option maxRecDepth 20000 in
theorem ggX12_ask_X12_within : GoodIn wsX12_ask wsX12_within := goodIn_r _ [9] (by decide +kernel) (by decide +kernel)
set_option maxRecDepth 20000 in
theorem gX12_ask_X12_within : GoodIn wsX12_ask (va_wsS RX12 68 yX12_within wsX12_within) := goodIn_app (goodIn_of _ (by decide +kernel)) ggX12_ask_X12_within
set_option maxRecDepth 20000 in
theorem ggX12_ask_X12_askNow : GoodIn wsX12_ask wsX12_askNow := goodIn_r _ [13, 14, 6, 15, 16, 17, 18, 19, 4, 20, 21, 22, 23, 24, 25, 26, 27, 28, 29, 30, 31, 32, 33, 34, 35, 36, 37, 38, 39, 40, 41, 1, 2, 3, 5, 7, 8, 9, 42, 43, 44, 45, 46, 47, 48, 49, 50, 51, 52, 53, 54, 55, 56, 57, 58, 59, 60, 61, 62, 63, 64, 65, 66, 67, 68, 69, 70, 71, 72, 73, 74, 75, 76, 77, 78, 79, 80, 81, 82, 83, 84, 85, 86, 87, 88, 89, 90, 91, 92, 93, 94, 95, 96, 97, 98, 99, 100, 101, 102, 103] (by decide +kernel) (by decide +kernel)
set_option maxRecDepth 20000 in
theorem gX12_ask_X12_askNow : GoodIn wsX12_ask (wsV RX12 206 RX12 yX12_askNow wsX12_askNow) := goodIn_app (goodIn_of _ (by decide +kernel)) ggX12_ask_X12_askNow
theorem dX12_ask_0 : decode cX12_ask 0 = .ok (.aload_n 0, 1) := by decide +kernel
theorem dX12_ask_1 : decode cX12_ask 1 = .ok (.iload_n 1, 1) := by decide +kernel
theorem dX12_ask_2 : decode cX12_ask 2 = .ok (.invokevirtual 139, 3) := by decide +kernel
theorem dX12_ask_5 : decode cX12_ask 5 = .ok (.ifCond .ne 6, 3) := by decide +kernel
theorem dX12_ask_8 : decode cX12_ask 8 = .ok (.bipush (-101), 2) := by decide +kernel
theorem dX12_ask_10 : decode cX12_ask 10 = .ok (.ireturn, 1) := by decide +kernel
theorem dX12_ask_11 : decode cX12_ask 11 = .ok (.iload_n 2, 1) := by decide +kernel
theorem dX12_ask_12 : decode cX12_ask 12 = .ok (.iconst 0, 1) := by decide +kernel
theorem dX12_ask_13 : decode cX12_ask 13 = .ok (.iconst 4, 1) := by decide +kernel
theorem dX12_ask_14 : decode cX12_ask 14 = .ok (.invokestatic 68, 3) := by decide +kernel
theorem dX12_ask_17 : decode cX12_ask 17 = .ok (.ifCond .eq 12, 3) := by decide +kernel
theorem dX12_ask_20 : decode cX12_ask 20 = .ok (.aload_n 0, 1) := by decide +kernel
theorem dX12_ask_21 : decode cX12_ask 21 = .ok (.iload_n 1, 1) := by decide +kernel
theorem dX12_ask_22 : decode cX12_ask 22 = .ok (.iload_n 2, 1) := by decide +kernel
theorem dX12_ask_23 : decode cX12_ask 23 = .ok (.invokevirtual 206, 3) := by decide +kernel
theorem dX12_ask_26 : decode cX12_ask 26 = .ok (.goto 5, 3) := by decide +kernel
theorem dX12_ask_29 : decode cX12_ask 29 = .ok (.bipush (-102), 2) := by decide +kernel
theorem dX12_ask_31 : decode cX12_ask 31 = .ok (.ireturn, 1) := by decide +kernel
theorem dX12_draw_0 : decode cX12_draw 0 = .ok (.aload_n 0, 1) := by decide +kernel
theorem dX12_draw_1 : decode cX12_draw 1 = .ok (.ldc2_w 209, 3) := by decide +kernel
theorem dX12_draw_4 : decode cX12_draw 4 = .ok (.aload_n 0, 1) := by decide +kernel
theorem dX12_draw_5 : decode cX12_draw 5 = .ok (.getfield 211, 3) := by decide +kernel
theorem dX12_draw_8 : decode cX12_draw 8 = .ok (.lmul, 1) := by decide +kernel
theorem dX12_draw_9 : decode cX12_draw 9 = .ok (.ldc2_w 215, 3) := by decide +kernel
theorem dX12_draw_12 : decode cX12_draw 12 = .ok (.ladd, 1) := by decide +kernel
theorem dX12_draw_13 : decode cX12_draw 13 = .ok (.ldc2_w 217, 3) := by decide +kernel
theorem dX12_draw_16 : decode cX12_draw 16 = .ok (.land, 1) := by decide +kernel
theorem dX12_draw_17 : decode cX12_draw 17 = .ok (.putfield 211, 3) := by decide +kernel
theorem dX12_draw_20 : decode cX12_draw 20 = .ok (.aload_n 0, 1) := by decide +kernel
theorem dX12_draw_21 : decode cX12_draw 21 = .ok (.getfield 211, 3) := by decide +kernel
theorem dX12_draw_24 : decode cX12_draw 24 = .ok (.ldc2_w 219, 3) := by decide +kernel
theorem dX12_draw_27 : decode cX12_draw 27 = .ok (.ldiv, 1) := by decide +kernel
theorem dX12_draw_28 : decode cX12_draw 28 = .ok (.iload_n 1, 1) := by decide +kernel
theorem dX12_draw_29 : decode cX12_draw 29 = .ok (.i2l, 1) := by decide +kernel
theorem dX12_draw_30 : decode cX12_draw 30 = .ok (.lrem, 1) := by decide +kernel
theorem dX12_draw_31 : decode cX12_draw 31 = .ok (.l2i, 1) := by decide +kernel
theorem dX12_draw_32 : decode cX12_draw 32 = .ok (.ireturn, 1) := by decide +kernel
set_option maxRecDepth 20000 in
theorem ggX12_fairsNow_X12_think : GoodIn wsX12_fairsNow wsX12_think := goodIn_r _ [7, 8, 9, 10, 11, 12, 13, 14, 6, 15, 45, 46, 47, 48, 49, 50, 51, 52, 53, 54, 55, 56, 57, 58, 59, 60, 61, 62, 63, 64, 65, 66, 67, 68, 69, 70, 71, 72, 73, 74, 75, 76, 77, 78, 79, 80, 81] (by decide +kernel) (by decide +kernel)
set_option maxRecDepth 20000 in
theorem gX12_fairsNow_X12_think : GoodIn wsX12_fairsNow (wsV RX12 117 RX12 yX12_think wsX12_think) := goodIn_app (goodIn_of _ (by decide +kernel)) ggX12_fairsNow_X12_think
set_option maxRecDepth 20000 in
theorem ggX12_fairsNow_X12_draw : GoodIn wsX12_fairsNow wsX12_draw := goodIn_r _ [19, 20, 2, 21, 22, 23, 45, 46, 47, 48, 49, 50, 51, 52, 53, 54, 55, 56, 57, 58, 59, 60, 61, 62, 63, 64, 65, 66, 67, 68, 69, 70, 71, 72, 73, 74, 75, 76, 77, 78, 79, 80, 81] (by decide +kernel) (by decide +kernel)
set_option maxRecDepth 20000 in
theorem gX12_fairsNow_X12_draw : GoodIn wsX12_fairsNow (wsV RX12 221 RX12 yX12_draw wsX12_draw) := goodIn_app (goodIn_of _ (by decide +kernel)) ggX12_fairsNow_X12_draw
set_option maxRecDepth 20000 in
theorem ggX12_fairsNow_X12_mayThink : GoodIn wsX12_fairsNow wsX12_mayThink := goodIn_r _ [27, 12, 9, 28, 29, 30, 6, 31, 32, 45, 46, 47, 48, 49, 50, 51, 52, 53, 54, 55, 56, 57, 58, 59, 60, 61, 62, 63, 64, 65, 66, 67, 68, 69, 70, 71, 72, 73, 74, 75, 76, 77, 78, 79, 80, 81] (by decide +kernel) (by decide +kernel)
set_option maxRecDepth 20000 in
theorem gX12_fairsNow_X12_mayThink : GoodIn wsX12_fairsNow (wsV RX12 164 RX12 yX12_mayThink wsX12_mayThink) := goodIn_app (goodIn_of _ (by decide +kernel)) ggX12_fairsNow_X12_mayThink
set_option maxRecDepth 20000 in
theorem ggX12_fairsNow_X12_thinkLent : GoodIn wsX12_fairsNow wsX12_thinkLent := goodIn_r _ [36, 8, 12, 9, 45, 46, 47, 48, 49, 50, 51, 52, 53, 54, 55, 56, 57, 58, 59, 60, 61, 62, 63, 64, 65, 66, 67, 68, 69, 70, 71, 72, 73, 74, 75, 76, 77, 78, 79, 80, 81] (by decide +kernel) (by decide +kernel)
set_option maxRecDepth 20000 in
theorem gX12_fairsNow_X12_thinkLent : GoodIn wsX12_fairsNow (wsV RX12 167 RX12 yX12_thinkLent wsX12_thinkLent) := goodIn_app (goodIn_of _ (by decide +kernel)) ggX12_fairsNow_X12_thinkLent
set_option maxRecDepth 20000 in
theorem ggX12_fairsNow_X12_boundThought : GoodIn wsX12_fairsNow wsX12_boundThought := goodIn_r _ [40, 8, 41, 12, 32, 45, 46, 47, 48, 49, 50, 51, 52, 53, 54, 55, 56, 57, 58, 59, 60, 61, 62, 63, 64, 65, 66, 67, 68, 69, 70, 71, 72, 73, 74, 75, 76, 77, 78, 79, 80, 81] (by decide +kernel) (by decide +kernel)
set_option maxRecDepth 20000 in
theorem gX12_fairsNow_X12_boundThought : GoodIn wsX12_fairsNow (wsV RX12 121 RX12 yX12_boundThought wsX12_boundThought) := goodIn_app (goodIn_of _ (by decide +kernel)) ggX12_fairsNow_X12_boundThought
set_option maxRecDepth 20000 in
theorem ggX12_fairsNow_X12_isIn : GoodIn wsX12_fairsNow wsX12_isIn := goodIn_r _ [15] (by decide +kernel) (by decide +kernel)
set_option maxRecDepth 20000 in
theorem gX12_fairsNow_X12_isIn : GoodIn wsX12_fairsNow (va_wsS RX12 109 yX12_isIn wsX12_isIn) := goodIn_app (goodIn_of _ (by decide +kernel)) ggX12_fairsNow_X12_isIn
set_option maxRecDepth 20000 in
theorem ggX12_fairsNow_X12_size : GoodIn wsX12_fairsNow wsX12_size := goodIn_r _ [44] (by decide +kernel) (by decide +kernel)
set_option maxRecDepth 20000 in
theorem gX12_fairsNow_X12_size : GoodIn wsX12_fairsNow (va_wsS RX12 155 yX12_size wsX12_size) := goodIn_app (goodIn_of _ (by decide +kernel)) ggX12_fairsNow_X12_size
theorem dX12_fairsNow_0 : decode cX12_fairsNow 0 = .ok (.iconst 0, 1) := by decide +kernel
theorem dX12_fairsNow_1 : decode cX12_fairsNow 1 = .ok (.istore 4, 2) := by decide +kernel
theorem dX12_fairsNow_3 : decode cX12_fairsNow 3 = .ok (.iload 4, 2) := by decide +kernel
theorem dX12_fairsNow_5 : decode cX12_fairsNow 5 = .ok (.aload_n 0, 1) := by decide +kernel
theorem dX12_fairsNow_6 : decode cX12_fairsNow 6 = .ok (.getfield 94, 3) := by decide +kernel
theorem dX12_fairsNow_9 : decode cX12_fairsNow 9 = .ok (.if_icmp .ge 15, 3) := by decide +kernel
theorem dX12_fairsNow_12 : decode cX12_fairsNow 12 = .ok (.aload_n 0, 1) := by decide +kernel
theorem dX12_fairsNow_13 : decode cX12_fairsNow 13 = .ok (.iload 4, 2) := by decide +kernel
theorem dX12_fairsNow_15 : decode cX12_fairsNow 15 = .ok (.invokevirtual 117, 3) := by decide +kernel
theorem dX12_fairsNow_18 : decode cX12_fairsNow 18 = .ok (.iinc 4 1, 3) := by decide +kernel
theorem dX12_fairsNow_21 : decode cX12_fairsNow 21 = .ok (.goto (-18), 3) := by decide +kernel
theorem dX12_fairsNow_24 : decode cX12_fairsNow 24 = .ok (.aload_n 0, 1) := by decide +kernel
theorem dX12_fairsNow_25 : decode cX12_fairsNow 25 = .ok (.iload_n 2, 1) := by decide +kernel
theorem dX12_fairsNow_26 : decode cX12_fairsNow 26 = .ok (.i2l, 1) := by decide +kernel
theorem dX12_fairsNow_27 : decode cX12_fairsNow 27 = .ok (.putfield 211, 3) := by decide +kernel
theorem dX12_fairsNow_30 : decode cX12_fairsNow 30 = .ok (.iconst 0, 1) := by decide +kernel
theorem dX12_fairsNow_31 : decode cX12_fairsNow 31 = .ok (.istore 4, 2) := by decide +kernel
theorem dX12_fairsNow_33 : decode cX12_fairsNow 33 = .ok (.iconst 0, 1) := by decide +kernel
theorem dX12_fairsNow_34 : decode cX12_fairsNow 34 = .ok (.istore 5, 2) := by decide +kernel
theorem dX12_fairsNow_36 : decode cX12_fairsNow 36 = .ok (.iconst 0, 1) := by decide +kernel
theorem dX12_fairsNow_37 : decode cX12_fairsNow 37 = .ok (.istore 6, 2) := by decide +kernel
theorem dX12_fairsNow_39 : decode cX12_fairsNow 39 = .ok (.iload 6, 2) := by decide +kernel
theorem dX12_fairsNow_41 : decode cX12_fairsNow 41 = .ok (.iload_n 1, 1) := by decide +kernel
theorem dX12_fairsNow_42 : decode cX12_fairsNow 42 = .ok (.if_icmp .ge 110, 3) := by decide +kernel
theorem dX12_fairsNow_45 : decode cX12_fairsNow 45 = .ok (.aload_n 0, 1) := by decide +kernel
theorem dX12_fairsNow_46 : decode cX12_fairsNow 46 = .ok (.aload_n 0, 1) := by decide +kernel
theorem dX12_fairsNow_47 : decode cX12_fairsNow 47 = .ok (.getfield 94, 3) := by decide +kernel
theorem dX12_fairsNow_50 : decode cX12_fairsNow 50 = .ok (.invokevirtual 221, 3) := by decide +kernel
theorem dX12_fairsNow_53 : decode cX12_fairsNow 53 = .ok (.istore 7, 2) := by decide +kernel
theorem dX12_fairsNow_55 : decode cX12_fairsNow 55 = .ok (.aload_n 0, 1) := by decide +kernel
theorem dX12_fairsNow_56 : decode cX12_fairsNow 56 = .ok (.aload_n 0, 1) := by decide +kernel
theorem dX12_fairsNow_57 : decode cX12_fairsNow 57 = .ok (.getfield 94, 3) := by decide +kernel
theorem dX12_fairsNow_60 : decode cX12_fairsNow 60 = .ok (.invokevirtual 221, 3) := by decide +kernel
theorem dX12_fairsNow_63 : decode cX12_fairsNow 63 = .ok (.istore 8, 2) := by decide +kernel
theorem dX12_fairsNow_65 : decode cX12_fairsNow 65 = .ok (.iconst 1, 1) := by decide +kernel
theorem dX12_fairsNow_66 : decode cX12_fairsNow 66 = .ok (.aload_n 0, 1) := by decide +kernel
theorem dX12_fairsNow_67 : decode cX12_fairsNow 67 = .ok (.bipush 9, 2) := by decide +kernel
theorem dX12_fairsNow_69 : decode cX12_fairsNow 69 = .ok (.invokevirtual 221, 3) := by decide +kernel
theorem dX12_fairsNow_72 : decode cX12_fairsNow 72 = .ok (.iadd, 1) := by decide +kernel
theorem dX12_fairsNow_73 : decode cX12_fairsNow 73 = .ok (.istore 9, 2) := by decide +kernel
theorem dX12_fairsNow_75 : decode cX12_fairsNow 75 = .ok (.aload_n 0, 1) := by decide +kernel
theorem dX12_fairsNow_76 : decode cX12_fairsNow 76 = .ok (.iload 7, 2) := by decide +kernel
theorem dX12_fairsNow_78 : decode cX12_fairsNow 78 = .ok (.iload 8, 2) := by decide +kernel
theorem dX12_fairsNow_80 : decode cX12_fairsNow 80 = .ok (.invokevirtual 164, 3) := by decide +kernel
theorem dX12_fairsNow_83 : decode cX12_fairsNow 83 = .ok (.ifCond .eq 11, 3) := by decide +kernel
theorem dX12_fairsNow_86 : decode cX12_fairsNow 86 = .ok (.aload_n 0, 1) := by decide +kernel
theorem dX12_fairsNow_87 : decode cX12_fairsNow 87 = .ok (.iload 7, 2) := by decide +kernel
theorem dX12_fairsNow_89 : decode cX12_fairsNow 89 = .ok (.iload 8, 2) := by decide +kernel
theorem dX12_fairsNow_91 : decode cX12_fairsNow 91 = .ok (.invokevirtual 167, 3) := by decide +kernel
theorem dX12_fairsNow_94 : decode cX12_fairsNow 94 = .ok (.aload_n 0, 1) := by decide +kernel
theorem dX12_fairsNow_95 : decode cX12_fairsNow 95 = .ok (.iload 7, 2) := by decide +kernel
theorem dX12_fairsNow_97 : decode cX12_fairsNow 97 = .ok (.invokevirtual 121, 3) := by decide +kernel
theorem dX12_fairsNow_100 : decode cX12_fairsNow 100 = .ok (.istore 10, 2) := by decide +kernel
theorem dX12_fairsNow_102 : decode cX12_fairsNow 102 = .ok (.iload 4, 2) := by decide +kernel
theorem dX12_fairsNow_104 : decode cX12_fairsNow 104 = .ok (.iload 10, 2) := by decide +kernel
theorem dX12_fairsNow_106 : decode cX12_fairsNow 106 = .ok (.ifCond .ne 7, 3) := by decide +kernel
theorem dX12_fairsNow_109 : decode cX12_fairsNow 109 = .ok (.iconst 1, 1) := by decide +kernel
theorem dX12_fairsNow_110 : decode cX12_fairsNow 110 = .ok (.goto 4, 3) := by decide +kernel
theorem dX12_fairsNow_113 : decode cX12_fairsNow 113 = .ok (.iconst 0, 1) := by decide +kernel
theorem dX12_fairsNow_114 : decode cX12_fairsNow 114 = .ok (.iadd, 1) := by decide +kernel
theorem dX12_fairsNow_115 : decode cX12_fairsNow 115 = .ok (.istore 4, 2) := by decide +kernel
theorem dX12_fairsNow_117 : decode cX12_fairsNow 117 = .ok (.iload 5, 2) := by decide +kernel
theorem dX12_fairsNow_119 : decode cX12_fairsNow 119 = .ok (.iload 10, 2) := by decide +kernel
theorem dX12_fairsNow_121 : decode cX12_fairsNow 121 = .ok (.iconst 0, 1) := by decide +kernel
theorem dX12_fairsNow_122 : decode cX12_fairsNow 122 = .ok (.invokestatic 109, 3) := by decide +kernel
theorem dX12_fairsNow_125 : decode cX12_fairsNow 125 = .ok (.ifCond .eq 17, 3) := by decide +kernel
theorem dX12_fairsNow_128 : decode cX12_fairsNow 128 = .ok (.bipush 60, 2) := by decide +kernel
theorem dX12_fairsNow_130 : decode cX12_fairsNow 130 = .ok (.iload 9, 2) := by decide +kernel
theorem dX12_fairsNow_132 : decode cX12_fairsNow 132 = .ok (.imul, 1) := by decide +kernel
theorem dX12_fairsNow_133 : decode cX12_fairsNow 133 = .ok (.iload 10, 2) := by decide +kernel
theorem dX12_fairsNow_135 : decode cX12_fairsNow 135 = .ok (.invokestatic 155, 3) := by decide +kernel
theorem dX12_fairsNow_138 : decode cX12_fairsNow 138 = .ok (.idiv, 1) := by decide +kernel
theorem dX12_fairsNow_139 : decode cX12_fairsNow 139 = .ok (.goto 4, 3) := by decide +kernel
theorem dX12_fairsNow_142 : decode cX12_fairsNow 142 = .ok (.iconst 0, 1) := by decide +kernel
theorem dX12_fairsNow_143 : decode cX12_fairsNow 143 = .ok (.iadd, 1) := by decide +kernel
theorem dX12_fairsNow_144 : decode cX12_fairsNow 144 = .ok (.istore 5, 2) := by decide +kernel
theorem dX12_fairsNow_146 : decode cX12_fairsNow 146 = .ok (.iinc 6 1, 3) := by decide +kernel
theorem dX12_fairsNow_149 : decode cX12_fairsNow 149 = .ok (.goto (-110), 3) := by decide +kernel
theorem dX12_fairsNow_152 : decode cX12_fairsNow 152 = .ok (.iload_n 3, 1) := by decide +kernel
theorem dX12_fairsNow_153 : decode cX12_fairsNow 153 = .ok (.ifCond .ne 8, 3) := by decide +kernel
theorem dX12_fairsNow_156 : decode cX12_fairsNow 156 = .ok (.iload 4, 2) := by decide +kernel
theorem dX12_fairsNow_158 : decode cX12_fairsNow 158 = .ok (.goto 18, 3) := by decide +kernel
theorem dX12_fairsNow_161 : decode cX12_fairsNow 161 = .ok (.iload_n 3, 1) := by decide +kernel
theorem dX12_fairsNow_162 : decode cX12_fairsNow 162 = .ok (.iconst 1, 1) := by decide +kernel
theorem dX12_fairsNow_163 : decode cX12_fairsNow 163 = .ok (.if_icmp .ne 8, 3) := by decide +kernel
theorem dX12_fairsNow_166 : decode cX12_fairsNow 166 = .ok (.iload 5, 2) := by decide +kernel
theorem dX12_fairsNow_168 : decode cX12_fairsNow 168 = .ok (.goto 8, 3) := by decide +kernel
theorem dX12_fairsNow_171 : decode cX12_fairsNow 171 = .ok (.aload_n 0, 1) := by decide +kernel
theorem dX12_fairsNow_172 : decode cX12_fairsNow 172 = .ok (.getfield 211, 3) := by decide +kernel
theorem dX12_fairsNow_175 : decode cX12_fairsNow 175 = .ok (.l2i, 1) := by decide +kernel
theorem dX12_fairsNow_176 : decode cX12_fairsNow 176 = .ok (.ireturn, 1) := by decide +kernel
set_option maxRecDepth 20000 in
theorem ggX12_fairs_X12_within : GoodIn wsX12_fairs wsX12_within := goodIn_r _ [5] (by decide +kernel) (by decide +kernel)
set_option maxRecDepth 20000 in
theorem gX12_fairs_X12_within : GoodIn wsX12_fairs (va_wsS RX12 68 yX12_within wsX12_within) := goodIn_app (goodIn_of _ (by decide +kernel)) ggX12_fairs_X12_within
set_option maxRecDepth 20000 in
theorem ggX12_fairs_X12_fairsNow : GoodIn wsX12_fairs wsX12_fairsNow := goodIn_r _ [9, 1, 10, 11, 12, 13, 4, 14, 15, 16, 17, 18, 19, 20, 21, 22, 23, 24, 25, 26, 27, 28, 29, 30, 31, 32, 33, 34, 35, 36, 37, 38, 39, 40, 41, 42, 43, 44, 45, 46, 47, 48, 49, 50, 51, 52, 53, 54, 55, 56, 57, 58, 59, 60, 61, 62, 63, 64, 65, 66, 67, 68, 69, 70, 71, 72, 73, 74, 75, 76, 77, 78, 79, 80, 81, 82, 83, 84, 85, 86, 87, 88] (by decide +kernel) (by decide +kernel)
set_option maxRecDepth 20000 in
theorem gX12_fairs_X12_fairsNow : GoodIn wsX12_fairs (wsV RX12 224 RX12 yX12_fairsNow wsX12_fairsNow) := goodIn_app (goodIn_of _ (by decide +kernel)) ggX12_fairs_X12_fairsNow
theorem dX12_fairs_0 : decode cX12_fairs 0 = .ok (.iload_n 1, 1) := by decide +kernel
theorem dX12_fairs_1 : decode cX12_fairs 1 = .ok (.iconst 1, 1) := by decide +kernel
theorem dX12_fairs_2 : decode cX12_fairs 2 = .ok (.bipush 60, 2) := by decide +kernel
theorem dX12_fairs_4 : decode cX12_fairs 4 = .ok (.invokestatic 68, 3) := by decide +kernel
theorem dX12_fairs_7 : decode cX12_fairs 7 = .ok (.ifCond .eq 16, 3) := by decide +kernel
theorem dX12_fairs_10 : decode cX12_fairs 10 = .ok (.iload_n 2, 1) := by decide +kernel
theorem dX12_fairs_11 : decode cX12_fairs 11 = .ok (.ifCond .lt 12, 3) := by decide +kernel
theorem dX12_fairs_14 : decode cX12_fairs 14 = .ok (.iload_n 3, 1) := by decide +kernel
theorem dX12_fairs_15 : decode cX12_fairs 15 = .ok (.iconst 0, 1) := by decide +kernel
theorem dX12_fairs_16 : decode cX12_fairs 16 = .ok (.iconst 2, 1) := by decide +kernel
theorem dX12_fairs_17 : decode cX12_fairs 17 = .ok (.invokestatic 68, 3) := by decide +kernel
theorem dX12_fairs_20 : decode cX12_fairs 20 = .ok (.ifCond .ne 6, 3) := by decide +kernel
theorem dX12_fairs_23 : decode cX12_fairs 23 = .ok (.bipush (-102), 2) := by decide +kernel
theorem dX12_fairs_25 : decode cX12_fairs 25 = .ok (.ireturn, 1) := by decide +kernel
theorem dX12_fairs_26 : decode cX12_fairs 26 = .ok (.aload_n 0, 1) := by decide +kernel
theorem dX12_fairs_27 : decode cX12_fairs 27 = .ok (.getfield 94, 3) := by decide +kernel
theorem dX12_fairs_30 : decode cX12_fairs 30 = .ok (.ifCond .ne 8, 3) := by decide +kernel
theorem dX12_fairs_33 : decode cX12_fairs 33 = .ok (.bipush (-103), 2) := by decide +kernel
theorem dX12_fairs_35 : decode cX12_fairs 35 = .ok (.goto 10, 3) := by decide +kernel
theorem dX12_fairs_38 : decode cX12_fairs 38 = .ok (.aload_n 0, 1) := by decide +kernel
theorem dX12_fairs_39 : decode cX12_fairs 39 = .ok (.iload_n 1, 1) := by decide +kernel
theorem dX12_fairs_40 : decode cX12_fairs 40 = .ok (.iload_n 2, 1) := by decide +kernel
theorem dX12_fairs_41 : decode cX12_fairs 41 = .ok (.iload_n 3, 1) := by decide +kernel
theorem dX12_fairs_42 : decode cX12_fairs 42 = .ok (.invokevirtual 224, 3) := by decide +kernel
theorem dX12_fairs_45 : decode cX12_fairs 45 = .ok (.ireturn, 1) := by decide +kernel
theorem dX12_lentAll_0 : decode cX12_lentAll 0 = .ok (.iconst 0, 1) := by decide +kernel
theorem dX12_lentAll_1 : decode cX12_lentAll 1 = .ok (.istore_n 1, 1) := by decide +kernel
theorem dX12_lentAll_2 : decode cX12_lentAll 2 = .ok (.iconst 0, 1) := by decide +kernel
theorem dX12_lentAll_3 : decode cX12_lentAll 3 = .ok (.istore_n 2, 1) := by decide +kernel
theorem dX12_lentAll_4 : decode cX12_lentAll 4 = .ok (.iload_n 2, 1) := by decide +kernel
theorem dX12_lentAll_5 : decode cX12_lentAll 5 = .ok (.aload_n 0, 1) := by decide +kernel
theorem dX12_lentAll_6 : decode cX12_lentAll 6 = .ok (.getfield 94, 3) := by decide +kernel
theorem dX12_lentAll_9 : decode cX12_lentAll 9 = .ok (.if_icmp .ge 18, 3) := by decide +kernel
theorem dX12_lentAll_12 : decode cX12_lentAll 12 = .ok (.iload_n 1, 1) := by decide +kernel
theorem dX12_lentAll_13 : decode cX12_lentAll 13 = .ok (.aload_n 0, 1) := by decide +kernel
theorem dX12_lentAll_14 : decode cX12_lentAll 14 = .ok (.getfield 19, 3) := by decide +kernel
theorem dX12_lentAll_17 : decode cX12_lentAll 17 = .ok (.iload_n 2, 1) := by decide +kernel
theorem dX12_lentAll_18 : decode cX12_lentAll 18 = .ok (.iaload, 1) := by decide +kernel
theorem dX12_lentAll_19 : decode cX12_lentAll 19 = .ok (.iadd, 1) := by decide +kernel
theorem dX12_lentAll_20 : decode cX12_lentAll 20 = .ok (.istore_n 1, 1) := by decide +kernel
theorem dX12_lentAll_21 : decode cX12_lentAll 21 = .ok (.iinc 2 1, 3) := by decide +kernel
theorem dX12_lentAll_24 : decode cX12_lentAll 24 = .ok (.goto (-20), 3) := by decide +kernel
theorem dX12_lentAll_27 : decode cX12_lentAll 27 = .ok (.iload_n 1, 1) := by decide +kernel
theorem dX12_lentAll_28 : decode cX12_lentAll 28 = .ok (.ireturn, 1) := by decide +kernel
set_option maxRecDepth 20000 in
theorem ggX12_image_X12_lentAll : GoodIn wsX12_image wsX12_lentAll := goodIn_r _ [25, 1, 12, 26, 27, 28, 29, 30, 31, 32, 33, 34, 35, 36, 37, 38, 39, 40, 41, 42, 43, 44, 45, 46, 47, 48, 49, 50, 51, 52, 53, 54, 55, 56, 57, 58, 59, 60, 61, 62] (by decide +kernel) (by decide +kernel)
set_option maxRecDepth 20000 in
theorem gX12_image_X12_lentAll : GoodIn wsX12_image (wsV RX12 239 RX12 yX12_lentAll wsX12_lentAll) := goodIn_app (goodIn_of _ (by decide +kernel)) ggX12_image_X12_lentAll
theorem dX12_image_0 : decode cX12_image 0 = .ok (.aload_n 0, 1) := by decide +kernel
theorem dX12_image_1 : decode cX12_image 1 = .ok (.getfield 94, 3) := by decide +kernel
theorem dX12_image_4 : decode cX12_image 4 = .ok (.ifCond .ne 6, 3) := by decide +kernel
theorem dX12_image_7 : decode cX12_image 7 = .ok (.bipush (-103), 2) := by decide +kernel
theorem dX12_image_9 : decode cX12_image 9 = .ok (.ireturn, 1) := by decide +kernel
theorem dX12_image_10 : decode cX12_image 10 = .ok (.aload_n 0, 1) := by decide +kernel
theorem dX12_image_11 : decode cX12_image 11 = .ok (.iconst 1, 1) := by decide +kernel
theorem dX12_image_12 : decode cX12_image 12 = .ok (.putfield 227, 3) := by decide +kernel
theorem dX12_image_15 : decode cX12_image 15 = .ok (.aload_n 0, 1) := by decide +kernel
theorem dX12_image_16 : decode cX12_image 16 = .ok (.aload_n 0, 1) := by decide +kernel
theorem dX12_image_17 : decode cX12_image 17 = .ok (.getfield 100, 3) := by decide +kernel
theorem dX12_image_20 : decode cX12_image 20 = .ok (.putfield 230, 3) := by decide +kernel
theorem dX12_image_23 : decode cX12_image 23 = .ok (.aload_n 0, 1) := by decide +kernel
theorem dX12_image_24 : decode cX12_image 24 = .ok (.aload_n 0, 1) := by decide +kernel
theorem dX12_image_25 : decode cX12_image 25 = .ok (.getfield 103, 3) := by decide +kernel
theorem dX12_image_28 : decode cX12_image 28 = .ok (.putfield 233, 3) := by decide +kernel
theorem dX12_image_31 : decode cX12_image 31 = .ok (.aload_n 0, 1) := by decide +kernel
theorem dX12_image_32 : decode cX12_image 32 = .ok (.aload_n 0, 1) := by decide +kernel
theorem dX12_image_33 : decode cX12_image 33 = .ok (.getfield 106, 3) := by decide +kernel
theorem dX12_image_36 : decode cX12_image 36 = .ok (.putfield 236, 3) := by decide +kernel
theorem dX12_image_39 : decode cX12_image 39 = .ok (.iconst 0, 1) := by decide +kernel
theorem dX12_image_40 : decode cX12_image 40 = .ok (.istore_n 1, 1) := by decide +kernel
theorem dX12_image_41 : decode cX12_image 41 = .ok (.iload_n 1, 1) := by decide +kernel
theorem dX12_image_42 : decode cX12_image 42 = .ok (.sipush 205, 3) := by decide +kernel
theorem dX12_image_45 : decode cX12_image 45 = .ok (.if_icmp .ge 21, 3) := by decide +kernel
theorem dX12_image_48 : decode cX12_image 48 = .ok (.aload_n 0, 1) := by decide +kernel
theorem dX12_image_49 : decode cX12_image 49 = .ok (.getfield 50, 3) := by decide +kernel
theorem dX12_image_52 : decode cX12_image 52 = .ok (.iload_n 1, 1) := by decide +kernel
theorem dX12_image_53 : decode cX12_image 53 = .ok (.aload_n 0, 1) := by decide +kernel
theorem dX12_image_54 : decode cX12_image 54 = .ok (.getfield 16, 3) := by decide +kernel
theorem dX12_image_57 : decode cX12_image 57 = .ok (.iload_n 1, 1) := by decide +kernel
theorem dX12_image_58 : decode cX12_image 58 = .ok (.iaload, 1) := by decide +kernel
theorem dX12_image_59 : decode cX12_image 59 = .ok (.iastore, 1) := by decide +kernel
theorem dX12_image_60 : decode cX12_image 60 = .ok (.iinc 1 1, 3) := by decide +kernel
theorem dX12_image_63 : decode cX12_image 63 = .ok (.goto (-22), 3) := by decide +kernel
theorem dX12_image_66 : decode cX12_image 66 = .ok (.iconst 0, 1) := by decide +kernel
theorem dX12_image_67 : decode cX12_image 67 = .ok (.istore_n 1, 1) := by decide +kernel
theorem dX12_image_68 : decode cX12_image 68 = .ok (.iload_n 1, 1) := by decide +kernel
theorem dX12_image_69 : decode cX12_image 69 = .ok (.iconst 5, 1) := by decide +kernel
theorem dX12_image_70 : decode cX12_image 70 = .ok (.if_icmp .ge 21, 3) := by decide +kernel
theorem dX12_image_73 : decode cX12_image 73 = .ok (.aload_n 0, 1) := by decide +kernel
theorem dX12_image_74 : decode cX12_image 74 = .ok (.getfield 53, 3) := by decide +kernel
theorem dX12_image_77 : decode cX12_image 77 = .ok (.iload_n 1, 1) := by decide +kernel
theorem dX12_image_78 : decode cX12_image 78 = .ok (.aload_n 0, 1) := by decide +kernel
theorem dX12_image_79 : decode cX12_image 79 = .ok (.getfield 19, 3) := by decide +kernel
theorem dX12_image_82 : decode cX12_image 82 = .ok (.iload_n 1, 1) := by decide +kernel
theorem dX12_image_83 : decode cX12_image 83 = .ok (.iaload, 1) := by decide +kernel
theorem dX12_image_84 : decode cX12_image 84 = .ok (.iastore, 1) := by decide +kernel
theorem dX12_image_85 : decode cX12_image 85 = .ok (.iinc 1 1, 3) := by decide +kernel
theorem dX12_image_88 : decode cX12_image 88 = .ok (.goto (-20), 3) := by decide +kernel
theorem dX12_image_91 : decode cX12_image 91 = .ok (.iconst 0, 1) := by decide +kernel
theorem dX12_image_92 : decode cX12_image 92 = .ok (.istore_n 1, 1) := by decide +kernel
theorem dX12_image_93 : decode cX12_image 93 = .ok (.iload_n 1, 1) := by decide +kernel
theorem dX12_image_94 : decode cX12_image 94 = .ok (.bipush 6, 2) := by decide +kernel
theorem dX12_image_96 : decode cX12_image 96 = .ok (.if_icmp .ge 57, 3) := by decide +kernel
theorem dX12_image_99 : decode cX12_image 99 = .ok (.aload_n 0, 1) := by decide +kernel
theorem dX12_image_100 : decode cX12_image 100 = .ok (.getfield 56, 3) := by decide +kernel
theorem dX12_image_103 : decode cX12_image 103 = .ok (.iload_n 1, 1) := by decide +kernel
theorem dX12_image_104 : decode cX12_image 104 = .ok (.aload_n 0, 1) := by decide +kernel
theorem dX12_image_105 : decode cX12_image 105 = .ok (.getfield 22, 3) := by decide +kernel
theorem dX12_image_108 : decode cX12_image 108 = .ok (.iload_n 1, 1) := by decide +kernel
theorem dX12_image_109 : decode cX12_image 109 = .ok (.iaload, 1) := by decide +kernel
theorem dX12_image_110 : decode cX12_image 110 = .ok (.iastore, 1) := by decide +kernel
theorem dX12_image_111 : decode cX12_image 111 = .ok (.aload_n 0, 1) := by decide +kernel
theorem dX12_image_112 : decode cX12_image 112 = .ok (.getfield 59, 3) := by decide +kernel
theorem dX12_image_115 : decode cX12_image 115 = .ok (.iload_n 1, 1) := by decide +kernel
theorem dX12_image_116 : decode cX12_image 116 = .ok (.aload_n 0, 1) := by decide +kernel
theorem dX12_image_117 : decode cX12_image 117 = .ok (.getfield 25, 3) := by decide +kernel
theorem dX12_image_120 : decode cX12_image 120 = .ok (.iload_n 1, 1) := by decide +kernel
theorem dX12_image_121 : decode cX12_image 121 = .ok (.iaload, 1) := by decide +kernel
theorem dX12_image_122 : decode cX12_image 122 = .ok (.iastore, 1) := by decide +kernel
theorem dX12_image_123 : decode cX12_image 123 = .ok (.aload_n 0, 1) := by decide +kernel
theorem dX12_image_124 : decode cX12_image 124 = .ok (.getfield 62, 3) := by decide +kernel
theorem dX12_image_127 : decode cX12_image 127 = .ok (.iload_n 1, 1) := by decide +kernel
theorem dX12_image_128 : decode cX12_image 128 = .ok (.aload_n 0, 1) := by decide +kernel
theorem dX12_image_129 : decode cX12_image 129 = .ok (.getfield 28, 3) := by decide +kernel
theorem dX12_image_132 : decode cX12_image 132 = .ok (.iload_n 1, 1) := by decide +kernel
theorem dX12_image_133 : decode cX12_image 133 = .ok (.iaload, 1) := by decide +kernel
theorem dX12_image_134 : decode cX12_image 134 = .ok (.iastore, 1) := by decide +kernel
theorem dX12_image_135 : decode cX12_image 135 = .ok (.aload_n 0, 1) := by decide +kernel
theorem dX12_image_136 : decode cX12_image 136 = .ok (.getfield 65, 3) := by decide +kernel
theorem dX12_image_139 : decode cX12_image 139 = .ok (.iload_n 1, 1) := by decide +kernel
theorem dX12_image_140 : decode cX12_image 140 = .ok (.aload_n 0, 1) := by decide +kernel
theorem dX12_image_141 : decode cX12_image 141 = .ok (.getfield 31, 3) := by decide +kernel
theorem dX12_image_144 : decode cX12_image 144 = .ok (.iload_n 1, 1) := by decide +kernel
theorem dX12_image_145 : decode cX12_image 145 = .ok (.iaload, 1) := by decide +kernel
theorem dX12_image_146 : decode cX12_image 146 = .ok (.iastore, 1) := by decide +kernel
theorem dX12_image_147 : decode cX12_image 147 = .ok (.iinc 1 1, 3) := by decide +kernel
theorem dX12_image_150 : decode cX12_image 150 = .ok (.goto (-57), 3) := by decide +kernel
theorem dX12_image_153 : decode cX12_image 153 = .ok (.aload_n 0, 1) := by decide +kernel
theorem dX12_image_154 : decode cX12_image 154 = .ok (.invokevirtual 239, 3) := by decide +kernel
theorem dX12_image_157 : decode cX12_image 157 = .ok (.ireturn, 1) := by decide +kernel
set_option maxRecDepth 20000 in
theorem ggX12_restore_X12_lentAll : GoodIn wsX12_restore wsX12_lentAll := goodIn_r _ [24, 25, 10, 26, 27, 28, 29, 30, 31, 32, 33, 34, 35, 36, 37, 38, 39, 40, 41, 42, 43, 44, 45, 46, 47, 48, 49, 50, 51, 52, 53, 54, 55, 56, 57, 58, 59, 60, 61, 62] (by decide +kernel) (by decide +kernel)
set_option maxRecDepth 20000 in
theorem gX12_restore_X12_lentAll : GoodIn wsX12_restore (wsV RX12 239 RX12 yX12_lentAll wsX12_lentAll) := goodIn_app (goodIn_of _ (by decide +kernel)) ggX12_restore_X12_lentAll
theorem dX12_restore_0 : decode cX12_restore 0 = .ok (.aload_n 0, 1) := by decide +kernel
theorem dX12_restore_1 : decode cX12_restore 1 = .ok (.getfield 227, 3) := by decide +kernel
theorem dX12_restore_4 : decode cX12_restore 4 = .ok (.ifCond .eq 14, 3) := by decide +kernel
theorem dX12_restore_7 : decode cX12_restore 7 = .ok (.aload_n 0, 1) := by decide +kernel
theorem dX12_restore_8 : decode cX12_restore 8 = .ok (.getfield 230, 3) := by decide +kernel
theorem dX12_restore_11 : decode cX12_restore 11 = .ok (.aload_n 0, 1) := by decide +kernel
theorem dX12_restore_12 : decode cX12_restore 12 = .ok (.getfield 100, 3) := by decide +kernel
theorem dX12_restore_15 : decode cX12_restore 15 = .ok (.if_icmp .eq 6, 3) := by decide +kernel
theorem dX12_restore_18 : decode cX12_restore 18 = .ok (.bipush (-103), 2) := by decide +kernel
theorem dX12_restore_20 : decode cX12_restore 20 = .ok (.ireturn, 1) := by decide +kernel
theorem dX12_restore_21 : decode cX12_restore 21 = .ok (.aload_n 0, 1) := by decide +kernel
theorem dX12_restore_22 : decode cX12_restore 22 = .ok (.aload_n 0, 1) := by decide +kernel
theorem dX12_restore_23 : decode cX12_restore 23 = .ok (.getfield 233, 3) := by decide +kernel
theorem dX12_restore_26 : decode cX12_restore 26 = .ok (.putfield 103, 3) := by decide +kernel
theorem dX12_restore_29 : decode cX12_restore 29 = .ok (.aload_n 0, 1) := by decide +kernel
theorem dX12_restore_30 : decode cX12_restore 30 = .ok (.aload_n 0, 1) := by decide +kernel
theorem dX12_restore_31 : decode cX12_restore 31 = .ok (.getfield 236, 3) := by decide +kernel
theorem dX12_restore_34 : decode cX12_restore 34 = .ok (.putfield 106, 3) := by decide +kernel
theorem dX12_restore_37 : decode cX12_restore 37 = .ok (.iconst 0, 1) := by decide +kernel
theorem dX12_restore_38 : decode cX12_restore 38 = .ok (.istore_n 1, 1) := by decide +kernel
theorem dX12_restore_39 : decode cX12_restore 39 = .ok (.iload_n 1, 1) := by decide +kernel
theorem dX12_restore_40 : decode cX12_restore 40 = .ok (.sipush 205, 3) := by decide +kernel
theorem dX12_restore_43 : decode cX12_restore 43 = .ok (.if_icmp .ge 21, 3) := by decide +kernel
theorem dX12_restore_46 : decode cX12_restore 46 = .ok (.aload_n 0, 1) := by decide +kernel
theorem dX12_restore_47 : decode cX12_restore 47 = .ok (.getfield 16, 3) := by decide +kernel
theorem dX12_restore_50 : decode cX12_restore 50 = .ok (.iload_n 1, 1) := by decide +kernel
theorem dX12_restore_51 : decode cX12_restore 51 = .ok (.aload_n 0, 1) := by decide +kernel
theorem dX12_restore_52 : decode cX12_restore 52 = .ok (.getfield 50, 3) := by decide +kernel
theorem dX12_restore_55 : decode cX12_restore 55 = .ok (.iload_n 1, 1) := by decide +kernel
theorem dX12_restore_56 : decode cX12_restore 56 = .ok (.iaload, 1) := by decide +kernel
theorem dX12_restore_57 : decode cX12_restore 57 = .ok (.iastore, 1) := by decide +kernel
theorem dX12_restore_58 : decode cX12_restore 58 = .ok (.iinc 1 1, 3) := by decide +kernel
theorem dX12_restore_61 : decode cX12_restore 61 = .ok (.goto (-22), 3) := by decide +kernel
theorem dX12_restore_64 : decode cX12_restore 64 = .ok (.iconst 0, 1) := by decide +kernel
theorem dX12_restore_65 : decode cX12_restore 65 = .ok (.istore_n 1, 1) := by decide +kernel
theorem dX12_restore_66 : decode cX12_restore 66 = .ok (.iload_n 1, 1) := by decide +kernel
theorem dX12_restore_67 : decode cX12_restore 67 = .ok (.iconst 5, 1) := by decide +kernel
theorem dX12_restore_68 : decode cX12_restore 68 = .ok (.if_icmp .ge 21, 3) := by decide +kernel
theorem dX12_restore_71 : decode cX12_restore 71 = .ok (.aload_n 0, 1) := by decide +kernel
theorem dX12_restore_72 : decode cX12_restore 72 = .ok (.getfield 19, 3) := by decide +kernel
theorem dX12_restore_75 : decode cX12_restore 75 = .ok (.iload_n 1, 1) := by decide +kernel
theorem dX12_restore_76 : decode cX12_restore 76 = .ok (.aload_n 0, 1) := by decide +kernel
theorem dX12_restore_77 : decode cX12_restore 77 = .ok (.getfield 53, 3) := by decide +kernel
theorem dX12_restore_80 : decode cX12_restore 80 = .ok (.iload_n 1, 1) := by decide +kernel
theorem dX12_restore_81 : decode cX12_restore 81 = .ok (.iaload, 1) := by decide +kernel
theorem dX12_restore_82 : decode cX12_restore 82 = .ok (.iastore, 1) := by decide +kernel
theorem dX12_restore_83 : decode cX12_restore 83 = .ok (.iinc 1 1, 3) := by decide +kernel
theorem dX12_restore_86 : decode cX12_restore 86 = .ok (.goto (-20), 3) := by decide +kernel
theorem dX12_restore_89 : decode cX12_restore 89 = .ok (.iconst 0, 1) := by decide +kernel
theorem dX12_restore_90 : decode cX12_restore 90 = .ok (.istore_n 1, 1) := by decide +kernel
theorem dX12_restore_91 : decode cX12_restore 91 = .ok (.iload_n 1, 1) := by decide +kernel
theorem dX12_restore_92 : decode cX12_restore 92 = .ok (.bipush 6, 2) := by decide +kernel
theorem dX12_restore_94 : decode cX12_restore 94 = .ok (.if_icmp .ge 57, 3) := by decide +kernel
theorem dX12_restore_97 : decode cX12_restore 97 = .ok (.aload_n 0, 1) := by decide +kernel
theorem dX12_restore_98 : decode cX12_restore 98 = .ok (.getfield 22, 3) := by decide +kernel
theorem dX12_restore_101 : decode cX12_restore 101 = .ok (.iload_n 1, 1) := by decide +kernel
theorem dX12_restore_102 : decode cX12_restore 102 = .ok (.aload_n 0, 1) := by decide +kernel
theorem dX12_restore_103 : decode cX12_restore 103 = .ok (.getfield 56, 3) := by decide +kernel
theorem dX12_restore_106 : decode cX12_restore 106 = .ok (.iload_n 1, 1) := by decide +kernel
theorem dX12_restore_107 : decode cX12_restore 107 = .ok (.iaload, 1) := by decide +kernel
theorem dX12_restore_108 : decode cX12_restore 108 = .ok (.iastore, 1) := by decide +kernel
theorem dX12_restore_109 : decode cX12_restore 109 = .ok (.aload_n 0, 1) := by decide +kernel
theorem dX12_restore_110 : decode cX12_restore 110 = .ok (.getfield 25, 3) := by decide +kernel
theorem dX12_restore_113 : decode cX12_restore 113 = .ok (.iload_n 1, 1) := by decide +kernel
theorem dX12_restore_114 : decode cX12_restore 114 = .ok (.aload_n 0, 1) := by decide +kernel
theorem dX12_restore_115 : decode cX12_restore 115 = .ok (.getfield 59, 3) := by decide +kernel
theorem dX12_restore_118 : decode cX12_restore 118 = .ok (.iload_n 1, 1) := by decide +kernel
theorem dX12_restore_119 : decode cX12_restore 119 = .ok (.iaload, 1) := by decide +kernel
theorem dX12_restore_120 : decode cX12_restore 120 = .ok (.iastore, 1) := by decide +kernel
theorem dX12_restore_121 : decode cX12_restore 121 = .ok (.aload_n 0, 1) := by decide +kernel
theorem dX12_restore_122 : decode cX12_restore 122 = .ok (.getfield 28, 3) := by decide +kernel
theorem dX12_restore_125 : decode cX12_restore 125 = .ok (.iload_n 1, 1) := by decide +kernel
theorem dX12_restore_126 : decode cX12_restore 126 = .ok (.aload_n 0, 1) := by decide +kernel
theorem dX12_restore_127 : decode cX12_restore 127 = .ok (.getfield 62, 3) := by decide +kernel
theorem dX12_restore_130 : decode cX12_restore 130 = .ok (.iload_n 1, 1) := by decide +kernel
theorem dX12_restore_131 : decode cX12_restore 131 = .ok (.iaload, 1) := by decide +kernel
theorem dX12_restore_132 : decode cX12_restore 132 = .ok (.iastore, 1) := by decide +kernel
theorem dX12_restore_133 : decode cX12_restore 133 = .ok (.aload_n 0, 1) := by decide +kernel
theorem dX12_restore_134 : decode cX12_restore 134 = .ok (.getfield 31, 3) := by decide +kernel
theorem dX12_restore_137 : decode cX12_restore 137 = .ok (.iload_n 1, 1) := by decide +kernel
theorem dX12_restore_138 : decode cX12_restore 138 = .ok (.aload_n 0, 1) := by decide +kernel
theorem dX12_restore_139 : decode cX12_restore 139 = .ok (.getfield 65, 3) := by decide +kernel
theorem dX12_restore_142 : decode cX12_restore 142 = .ok (.iload_n 1, 1) := by decide +kernel
theorem dX12_restore_143 : decode cX12_restore 143 = .ok (.iaload, 1) := by decide +kernel
theorem dX12_restore_144 : decode cX12_restore 144 = .ok (.iastore, 1) := by decide +kernel
theorem dX12_restore_145 : decode cX12_restore 145 = .ok (.iinc 1 1, 3) := by decide +kernel
theorem dX12_restore_148 : decode cX12_restore 148 = .ok (.goto (-57), 3) := by decide +kernel
theorem dX12_restore_151 : decode cX12_restore 151 = .ok (.aload_n 0, 1) := by decide +kernel
theorem dX12_restore_152 : decode cX12_restore 152 = .ok (.invokevirtual 239, 3) := by decide +kernel
theorem dX12_restore_155 : decode cX12_restore 155 = .ok (.ireturn, 1) := by decide +kernel
theorem dX12_voids_0 : decode cX12_voids 0 = .ok (.iconst 0, 1) := by decide +kernel
theorem dX12_voids_1 : decode cX12_voids 1 = .ok (.istore_n 1, 1) := by decide +kernel
theorem dX12_voids_2 : decode cX12_voids 2 = .ok (.iconst 0, 1) := by decide +kernel
theorem dX12_voids_3 : decode cX12_voids 3 = .ok (.istore_n 2, 1) := by decide +kernel
theorem dX12_voids_4 : decode cX12_voids 4 = .ok (.iload_n 2, 1) := by decide +kernel
theorem dX12_voids_5 : decode cX12_voids 5 = .ok (.aload_n 0, 1) := by decide +kernel
theorem dX12_voids_6 : decode cX12_voids 6 = .ok (.getfield 103, 3) := by decide +kernel
theorem dX12_voids_9 : decode cX12_voids 9 = .ok (.if_icmp .ge 26, 3) := by decide +kernel
theorem dX12_voids_12 : decode cX12_voids 12 = .ok (.iload_n 1, 1) := by decide +kernel
theorem dX12_voids_13 : decode cX12_voids 13 = .ok (.aload_n 0, 1) := by decide +kernel
theorem dX12_voids_14 : decode cX12_voids 14 = .ok (.getfield 25, 3) := by decide +kernel
theorem dX12_voids_17 : decode cX12_voids 17 = .ok (.iload_n 2, 1) := by decide +kernel
theorem dX12_voids_18 : decode cX12_voids 18 = .ok (.iaload, 1) := by decide +kernel
theorem dX12_voids_19 : decode cX12_voids 19 = .ok (.ifCond .ne 7, 3) := by decide +kernel
theorem dX12_voids_22 : decode cX12_voids 22 = .ok (.iconst 1, 1) := by decide +kernel
theorem dX12_voids_23 : decode cX12_voids 23 = .ok (.goto 4, 3) := by decide +kernel
theorem dX12_voids_26 : decode cX12_voids 26 = .ok (.iconst 0, 1) := by decide +kernel
theorem dX12_voids_27 : decode cX12_voids 27 = .ok (.iadd, 1) := by decide +kernel
theorem dX12_voids_28 : decode cX12_voids 28 = .ok (.istore_n 1, 1) := by decide +kernel
theorem dX12_voids_29 : decode cX12_voids 29 = .ok (.iinc 2 1, 3) := by decide +kernel
theorem dX12_voids_32 : decode cX12_voids 32 = .ok (.goto (-28), 3) := by decide +kernel
theorem dX12_voids_35 : decode cX12_voids 35 = .ok (.iload_n 1, 1) := by decide +kernel
theorem dX12_voids_36 : decode cX12_voids 36 = .ok (.ireturn, 1) := by decide +kernel
set_option maxRecDepth 20000 in
theorem ggX12_howMany_X12_lentAll : GoodIn wsX12_howMany wsX12_lentAll := goodIn_r _ [12, 1, 13, 19, 20, 21, 22, 23, 24, 25, 26, 27, 28, 29, 30, 31, 32, 33, 34, 35, 36, 37, 38, 39, 40, 41, 42, 43, 44, 45, 46, 47, 48, 49, 50, 51, 52, 53, 54, 55] (by decide +kernel) (by decide +kernel)
set_option maxRecDepth 20000 in
theorem gX12_howMany_X12_lentAll : GoodIn wsX12_howMany (wsV RX12 239 RX12 yX12_lentAll wsX12_lentAll) := goodIn_app (goodIn_of _ (by decide +kernel)) ggX12_howMany_X12_lentAll
set_option maxRecDepth 20000 in
theorem ggX12_howMany_X12_voids : GoodIn wsX12_howMany wsX12_voids := goodIn_r _ [17, 3, 18, 19, 20, 21, 22, 23, 24, 25, 26, 27, 28, 29, 30, 31, 32, 33, 34, 35, 36, 37, 38, 39, 40, 41, 42, 43, 44, 45, 46, 47, 48, 49, 50, 51, 52, 53, 54, 55] (by decide +kernel) (by decide +kernel)
set_option maxRecDepth 20000 in
theorem gX12_howMany_X12_voids : GoodIn wsX12_howMany (wsV RX12 242 RX12 yX12_voids wsX12_voids) := goodIn_app (goodIn_of _ (by decide +kernel)) ggX12_howMany_X12_voids
theorem dX12_howMany_0 : decode cX12_howMany 0 = .ok (.iload_n 1, 1) := by decide +kernel
theorem dX12_howMany_1 : decode cX12_howMany 1 = .ok (.tableswitch 96 0 8 #[51, 56, 61, 66, 71, 76, 81, 86, 91], 51) := by decide +kernel
theorem dX12_howMany_52 : decode cX12_howMany 52 = .ok (.aload_n 0, 1) := by decide +kernel
theorem dX12_howMany_53 : decode cX12_howMany 53 = .ok (.getfield 94, 3) := by decide +kernel
theorem dX12_howMany_56 : decode cX12_howMany 56 = .ok (.ireturn, 1) := by decide +kernel
theorem dX12_howMany_57 : decode cX12_howMany 57 = .ok (.aload_n 0, 1) := by decide +kernel
theorem dX12_howMany_58 : decode cX12_howMany 58 = .ok (.getfield 97, 3) := by decide +kernel
theorem dX12_howMany_61 : decode cX12_howMany 61 = .ok (.ireturn, 1) := by decide +kernel
theorem dX12_howMany_62 : decode cX12_howMany 62 = .ok (.aload_n 0, 1) := by decide +kernel
theorem dX12_howMany_63 : decode cX12_howMany 63 = .ok (.invokevirtual 239, 3) := by decide +kernel
theorem dX12_howMany_66 : decode cX12_howMany 66 = .ok (.ireturn, 1) := by decide +kernel
theorem dX12_howMany_67 : decode cX12_howMany 67 = .ok (.aload_n 0, 1) := by decide +kernel
theorem dX12_howMany_68 : decode cX12_howMany 68 = .ok (.getfield 103, 3) := by decide +kernel
theorem dX12_howMany_71 : decode cX12_howMany 71 = .ok (.ireturn, 1) := by decide +kernel
theorem dX12_howMany_72 : decode cX12_howMany 72 = .ok (.aload_n 0, 1) := by decide +kernel
theorem dX12_howMany_73 : decode cX12_howMany 73 = .ok (.invokevirtual 242, 3) := by decide +kernel
theorem dX12_howMany_76 : decode cX12_howMany 76 = .ok (.ireturn, 1) := by decide +kernel
theorem dX12_howMany_77 : decode cX12_howMany 77 = .ok (.aload_n 0, 1) := by decide +kernel
theorem dX12_howMany_78 : decode cX12_howMany 78 = .ok (.getfield 106, 3) := by decide +kernel
theorem dX12_howMany_81 : decode cX12_howMany 81 = .ok (.ireturn, 1) := by decide +kernel
theorem dX12_howMany_82 : decode cX12_howMany 82 = .ok (.aload_n 0, 1) := by decide +kernel
theorem dX12_howMany_83 : decode cX12_howMany 83 = .ok (.getfield 72, 3) := by decide +kernel
theorem dX12_howMany_86 : decode cX12_howMany 86 = .ok (.ireturn, 1) := by decide +kernel
theorem dX12_howMany_87 : decode cX12_howMany 87 = .ok (.aload_n 0, 1) := by decide +kernel
theorem dX12_howMany_88 : decode cX12_howMany 88 = .ok (.getfield 100, 3) := by decide +kernel
theorem dX12_howMany_91 : decode cX12_howMany 91 = .ok (.ireturn, 1) := by decide +kernel
theorem dX12_howMany_92 : decode cX12_howMany 92 = .ok (.aload_n 0, 1) := by decide +kernel
theorem dX12_howMany_93 : decode cX12_howMany 93 = .ok (.getfield 177, 3) := by decide +kernel
theorem dX12_howMany_96 : decode cX12_howMany 96 = .ok (.ireturn, 1) := by decide +kernel
theorem dX12_howMany_97 : decode cX12_howMany 97 = .ok (.bipush (-102), 2) := by decide +kernel
theorem dX12_howMany_99 : decode cX12_howMany 99 = .ok (.ireturn, 1) := by decide +kernel
set_option maxRecDepth 20000 in
theorem ggX12_count_X12_howMany : GoodIn wsX12_count wsX12_howMany := goodIn_r _ [5, 6, 7, 8, 9, 10, 11, 12, 13, 14, 15, 4, 16, 17, 18, 19, 20, 21, 22, 23, 24, 25, 26, 27, 28, 29, 30, 31, 32, 33, 34, 35, 36, 37, 38, 39, 40, 41, 42, 43, 44, 45, 46, 47, 48, 49, 50, 51, 52, 53, 54, 55, 56, 57, 58, 59] (by decide +kernel) (by decide +kernel)
set_option maxRecDepth 20000 in
theorem gX12_count_X12_howMany : GoodIn wsX12_count (wsV RX12 245 RX12 yX12_howMany wsX12_howMany) := goodIn_app (goodIn_of _ (by decide +kernel)) ggX12_count_X12_howMany
theorem dX12_count_0 : decode cX12_count 0 = .ok (.aload_n 0, 1) := by decide +kernel
theorem dX12_count_1 : decode cX12_count 1 = .ok (.iload_n 1, 1) := by decide +kernel
theorem dX12_count_2 : decode cX12_count 2 = .ok (.invokevirtual 245, 3) := by decide +kernel
theorem dX12_count_5 : decode cX12_count 5 = .ok (.ireturn, 1) := by decide +kernel
theorem dX12_mix_0 : decode cX12_mix 0 = .ok (.aload_n 0, 1) := by decide +kernel
theorem dX12_mix_1 : decode cX12_mix 1 = .ok (.ldc2_w 248, 3) := by decide +kernel
theorem dX12_mix_4 : decode cX12_mix 4 = .ok (.aload_n 0, 1) := by decide +kernel
theorem dX12_mix_5 : decode cX12_mix 5 = .ok (.getfield 250, 3) := by decide +kernel
theorem dX12_mix_8 : decode cX12_mix 8 = .ok (.lmul, 1) := by decide +kernel
theorem dX12_mix_9 : decode cX12_mix 9 = .ok (.lload_n 1, 1) := by decide +kernel
theorem dX12_mix_10 : decode cX12_mix 10 = .ok (.ladd, 1) := by decide +kernel
theorem dX12_mix_11 : decode cX12_mix 11 = .ok (.putfield 250, 3) := by decide +kernel
theorem dX12_mix_14 : decode cX12_mix 14 = .ok (.return_, 1) := by decide +kernel
set_option maxRecDepth 20000 in
theorem ggX12_mixOne_X12_oneNow : GoodIn wsX12_mixOne wsX12_oneNow := goodIn_r _ [5, 6, 7, 8, 9, 4, 10, 11, 12, 13, 14, 15, 16, 17, 18, 19, 20, 21, 22, 23, 24, 25, 26, 27, 28, 29, 30, 31, 32, 33, 34, 35, 36, 37, 38, 39, 40, 41, 42, 43, 44, 45, 46, 47, 112, 113, 114, 115, 116, 117, 118, 119, 120, 121, 122, 123, 124, 125, 126, 127, 128, 129, 130, 131, 132, 133, 134, 135, 136, 137, 138, 139, 140, 141, 142, 143, 144, 145, 146, 147, 148] (by decide +kernel) (by decide +kernel)
set_option maxRecDepth 20000 in
theorem gX12_mixOne_X12_oneNow : GoodIn wsX12_mixOne (wsV RX12 142 RX12 yX12_oneNow wsX12_oneNow) := goodIn_app (goodIn_of _ (by decide +kernel)) ggX12_mixOne_X12_oneNow
set_option maxRecDepth 20000 in
theorem ggX12_mixOne_X12_mix : GoodIn wsX12_mixOne wsX12_mix := goodIn_r _ [51, 52, 53, 112, 113, 114, 115, 116, 117, 118, 119, 120, 121, 122, 123, 124, 125, 126, 127, 128, 129, 130, 131, 132, 133, 134, 135, 136, 137, 138, 139, 140, 141, 142, 143, 144, 145, 146, 147, 148] (by decide +kernel) (by decide +kernel)
set_option maxRecDepth 20000 in
theorem gX12_mixOne_X12_mix : GoodIn wsX12_mixOne (wsV RX12 253 RX12 yX12_mix wsX12_mix) := goodIn_app (goodIn_of _ (by decide +kernel)) ggX12_mixOne_X12_mix
set_option maxRecDepth 20000 in
theorem ggX12_mixOne_X12_owesNow : GoodIn wsX12_mixOne wsX12_owesNow := goodIn_r _ [57, 46, 47, 58, 29, 30, 4, 31, 59, 60, 61, 112, 113, 114, 115, 116, 117, 118, 119, 120, 121, 122, 123, 124, 125, 126, 127, 128, 129, 130, 131, 132, 133, 134, 135, 136, 137, 138, 139, 140, 141, 142, 143, 144, 145, 146, 147, 148] (by decide +kernel) (by decide +kernel)
set_option maxRecDepth 20000 in
theorem gX12_mixOne_X12_owesNow : GoodIn wsX12_mixOne (wsV RX12 158 RX12 yX12_owesNow wsX12_owesNow) := goodIn_app (goodIn_of _ (by decide +kernel)) ggX12_mixOne_X12_owesNow
set_option maxRecDepth 20000 in
theorem ggX12_mixOne_X12_handsNow : GoodIn wsX12_mixOne wsX12_handsNow := goodIn_r _ [65, 66, 67, 68, 69, 70, 4, 71, 72, 28, 41, 73, 74, 75, 76, 77, 78, 79, 80, 22, 23, 24, 25, 26, 27, 17, 16, 29, 30, 31, 81, 82, 83, 84, 85, 86, 87, 88, 89, 90, 91, 92, 93, 94, 95, 6, 96, 97, 98, 99, 32, 33, 34, 35, 36, 100, 101, 102, 103, 104, 105, 106, 112, 113, 114, 115, 116, 117, 118, 119, 120, 121, 122, 123, 124, 125, 126, 127, 128, 129, 130, 131, 132, 133, 134, 135, 136, 137, 138, 139, 140, 141, 142, 143, 144, 145, 146, 147, 148] (by decide +kernel) (by decide +kernel)
set_option maxRecDepth 20000 in
theorem gX12_mixOne_X12_handsNow : GoodIn wsX12_mixOne (wsV RX12 202 RX12 yX12_handsNow wsX12_handsNow) := goodIn_app (goodIn_of _ (by decide +kernel)) ggX12_mixOne_X12_handsNow
set_option maxRecDepth 20000 in
theorem ggX12_mixOne_X12_askNow : GoodIn wsX12_mixOne wsX12_askNow := goodIn_r _ [110, 111, 41, 66, 72, 68, 69, 70, 4, 71, 67, 28, 73, 74, 75, 76, 77, 78, 79, 80, 22, 23, 24, 25, 26, 27, 17, 16, 29, 30, 31, 81, 82, 83, 84, 85, 86, 87, 88, 89, 90, 91, 92, 93, 94, 95, 6, 96, 97, 98, 99, 32, 33, 34, 35, 36, 100, 101, 102, 103, 104, 105, 106, 112, 113, 114, 115, 116, 117, 118, 119, 120, 121, 122, 123, 124, 125, 126, 127, 128, 129, 130, 131, 132, 133, 134, 135, 136, 137, 138, 139, 140, 141, 142, 143, 144, 145, 146, 147, 148] (by decide +kernel) (by decide +kernel)
set_option maxRecDepth 20000 in
theorem gX12_mixOne_X12_askNow : GoodIn wsX12_mixOne (wsV RX12 206 RX12 yX12_askNow wsX12_askNow) := goodIn_app (goodIn_of _ (by decide +kernel)) ggX12_mixOne_X12_askNow
theorem dX12_mixOne_0 : decode cX12_mixOne 0 = .ok (.iconst 0, 1) := by decide +kernel
theorem dX12_mixOne_1 : decode cX12_mixOne 1 = .ok (.istore_n 2, 1) := by decide +kernel
theorem dX12_mixOne_2 : decode cX12_mixOne 2 = .ok (.iload_n 2, 1) := by decide +kernel
theorem dX12_mixOne_3 : decode cX12_mixOne 3 = .ok (.bipush 6, 2) := by decide +kernel
theorem dX12_mixOne_5 : decode cX12_mixOne 5 = .ok (.if_icmp .ge 20, 3) := by decide +kernel
theorem dX12_mixOne_8 : decode cX12_mixOne 8 = .ok (.aload_n 0, 1) := by decide +kernel
theorem dX12_mixOne_9 : decode cX12_mixOne 9 = .ok (.aload_n 0, 1) := by decide +kernel
theorem dX12_mixOne_10 : decode cX12_mixOne 10 = .ok (.iload_n 1, 1) := by decide +kernel
theorem dX12_mixOne_11 : decode cX12_mixOne 11 = .ok (.iload_n 2, 1) := by decide +kernel
theorem dX12_mixOne_12 : decode cX12_mixOne 12 = .ok (.invokevirtual 142, 3) := by decide +kernel
theorem dX12_mixOne_15 : decode cX12_mixOne 15 = .ok (.i2l, 1) := by decide +kernel
theorem dX12_mixOne_16 : decode cX12_mixOne 16 = .ok (.invokevirtual 253, 3) := by decide +kernel
theorem dX12_mixOne_19 : decode cX12_mixOne 19 = .ok (.iinc 2 1, 3) := by decide +kernel
theorem dX12_mixOne_22 : decode cX12_mixOne 22 = .ok (.goto (-20), 3) := by decide +kernel
theorem dX12_mixOne_25 : decode cX12_mixOne 25 = .ok (.aload_n 0, 1) := by decide +kernel
theorem dX12_mixOne_26 : decode cX12_mixOne 26 = .ok (.aload_n 0, 1) := by decide +kernel
theorem dX12_mixOne_27 : decode cX12_mixOne 27 = .ok (.iload_n 1, 1) := by decide +kernel
theorem dX12_mixOne_28 : decode cX12_mixOne 28 = .ok (.iconst 0, 1) := by decide +kernel
theorem dX12_mixOne_29 : decode cX12_mixOne 29 = .ok (.invokevirtual 158, 3) := by decide +kernel
theorem dX12_mixOne_32 : decode cX12_mixOne 32 = .ok (.i2l, 1) := by decide +kernel
theorem dX12_mixOne_33 : decode cX12_mixOne 33 = .ok (.invokevirtual 253, 3) := by decide +kernel
theorem dX12_mixOne_36 : decode cX12_mixOne 36 = .ok (.aload_n 0, 1) := by decide +kernel
theorem dX12_mixOne_37 : decode cX12_mixOne 37 = .ok (.aload_n 0, 1) := by decide +kernel
theorem dX12_mixOne_38 : decode cX12_mixOne 38 = .ok (.iload_n 1, 1) := by decide +kernel
theorem dX12_mixOne_39 : decode cX12_mixOne 39 = .ok (.iconst 1, 1) := by decide +kernel
theorem dX12_mixOne_40 : decode cX12_mixOne 40 = .ok (.invokevirtual 158, 3) := by decide +kernel
theorem dX12_mixOne_43 : decode cX12_mixOne 43 = .ok (.i2l, 1) := by decide +kernel
theorem dX12_mixOne_44 : decode cX12_mixOne 44 = .ok (.invokevirtual 253, 3) := by decide +kernel
theorem dX12_mixOne_47 : decode cX12_mixOne 47 = .ok (.aload_n 0, 1) := by decide +kernel
theorem dX12_mixOne_48 : decode cX12_mixOne 48 = .ok (.aload_n 0, 1) := by decide +kernel
theorem dX12_mixOne_49 : decode cX12_mixOne 49 = .ok (.iload_n 1, 1) := by decide +kernel
theorem dX12_mixOne_50 : decode cX12_mixOne 50 = .ok (.iconst 2, 1) := by decide +kernel
theorem dX12_mixOne_51 : decode cX12_mixOne 51 = .ok (.iconst 0, 1) := by decide +kernel
theorem dX12_mixOne_52 : decode cX12_mixOne 52 = .ok (.invokevirtual 202, 3) := by decide +kernel
theorem dX12_mixOne_55 : decode cX12_mixOne 55 = .ok (.i2l, 1) := by decide +kernel
theorem dX12_mixOne_56 : decode cX12_mixOne 56 = .ok (.invokevirtual 253, 3) := by decide +kernel
theorem dX12_mixOne_59 : decode cX12_mixOne 59 = .ok (.aload_n 0, 1) := by decide +kernel
theorem dX12_mixOne_60 : decode cX12_mixOne 60 = .ok (.aload_n 0, 1) := by decide +kernel
theorem dX12_mixOne_61 : decode cX12_mixOne 61 = .ok (.iload_n 1, 1) := by decide +kernel
theorem dX12_mixOne_62 : decode cX12_mixOne 62 = .ok (.iconst 2, 1) := by decide +kernel
theorem dX12_mixOne_63 : decode cX12_mixOne 63 = .ok (.iconst 1, 1) := by decide +kernel
theorem dX12_mixOne_64 : decode cX12_mixOne 64 = .ok (.invokevirtual 202, 3) := by decide +kernel
theorem dX12_mixOne_67 : decode cX12_mixOne 67 = .ok (.i2l, 1) := by decide +kernel
theorem dX12_mixOne_68 : decode cX12_mixOne 68 = .ok (.invokevirtual 253, 3) := by decide +kernel
theorem dX12_mixOne_71 : decode cX12_mixOne 71 = .ok (.aload_n 0, 1) := by decide +kernel
theorem dX12_mixOne_72 : decode cX12_mixOne 72 = .ok (.aload_n 0, 1) := by decide +kernel
theorem dX12_mixOne_73 : decode cX12_mixOne 73 = .ok (.iload_n 1, 1) := by decide +kernel
theorem dX12_mixOne_74 : decode cX12_mixOne 74 = .ok (.iconst 2, 1) := by decide +kernel
theorem dX12_mixOne_75 : decode cX12_mixOne 75 = .ok (.invokevirtual 206, 3) := by decide +kernel
theorem dX12_mixOne_78 : decode cX12_mixOne 78 = .ok (.i2l, 1) := by decide +kernel
theorem dX12_mixOne_79 : decode cX12_mixOne 79 = .ok (.invokevirtual 253, 3) := by decide +kernel
theorem dX12_mixOne_82 : decode cX12_mixOne 82 = .ok (.return_, 1) := by decide +kernel
set_option maxRecDepth 20000 in
theorem ggX12_digest_X12_mixOne : GoodIn wsX12_digest wsX12_mixOne := goodIn_r _ [11, 12, 13, 14, 10, 15, 16, 17, 18, 19, 20, 21, 22, 23, 24, 25, 26, 27, 28, 29, 30, 31, 32, 33, 34, 35, 36, 37, 38, 39, 40, 41, 42, 43, 44, 45, 46, 47, 48, 49, 50, 3, 51, 52, 53, 54, 4, 55, 56, 57, 58, 59, 60, 2, 61, 62, 63, 64, 65, 66, 67, 68, 69, 70, 71, 72, 73, 74, 75, 76, 77, 78, 79, 80, 81, 82, 83, 84, 85, 86, 87, 88, 89, 90, 91, 92, 93, 94, 95, 96, 97, 98, 99, 100, 101, 102, 103, 104, 105, 106, 107, 108, 109, 110, 111, 112, 113, 114, 115, 116, 117, 118, 149, 150, 151, 152, 153, 154, 155, 156, 157, 158, 159, 160, 161, 162, 163, 164, 165, 166, 167, 168, 169, 170, 171, 172, 173, 174, 175, 176, 177, 178, 179, 180, 181, 182, 183, 184, 185] (by decide +kernel) (by decide +kernel)
set_option maxRecDepth 20000 in
theorem gX12_digest_X12_mixOne : GoodIn wsX12_digest (wsV RX12 259 RX12 yX12_mixOne wsX12_mixOne) := goodIn_app (goodIn_of _ (by decide +kernel)) ggX12_digest_X12_mixOne
set_option maxRecDepth 20000 in
theorem ggX12_digest_X12_deedNow : GoodIn wsX12_digest wsX12_deedNow := goodIn_r _ [122, 65, 55, 123, 124, 125, 10, 126, 3, 39, 40, 41, 17, 18, 19, 20, 16, 21, 149, 150, 151, 152, 153, 154, 155, 156, 157, 158, 159, 160, 161, 162, 163, 164, 165, 166, 167, 168, 169, 170, 171, 172, 173, 174, 175, 176, 177, 178, 179, 180, 181, 182, 183, 184, 185] (by decide +kernel) (by decide +kernel)
set_option maxRecDepth 20000 in
theorem gX12_digest_X12_deedNow : GoodIn wsX12_digest (wsV RX12 152 RX12 yX12_deedNow wsX12_deedNow) := goodIn_app (goodIn_of _ (by decide +kernel)) ggX12_digest_X12_deedNow
set_option maxRecDepth 20000 in
theorem ggX12_digest_X12_mix : GoodIn wsX12_digest wsX12_mix := goodIn_r _ [59, 60, 2, 149, 150, 151, 152, 153, 154, 155, 156, 157, 158, 159, 160, 161, 162, 163, 164, 165, 166, 167, 168, 169, 170, 171, 172, 173, 174, 175, 176, 177, 178, 179, 180, 181, 182, 183, 184, 185] (by decide +kernel) (by decide +kernel)
set_option maxRecDepth 20000 in
theorem gX12_digest_X12_mix : GoodIn wsX12_digest (wsV RX12 253 RX12 yX12_mix wsX12_mix) := goodIn_app (goodIn_of _ (by decide +kernel)) ggX12_digest_X12_mix
set_option maxRecDepth 20000 in
theorem ggX12_digest_X12_findNow : GoodIn wsX12_digest wsX12_findNow := goodIn_r _ [130, 3, 66, 67, 10, 68, 131, 132, 133, 134, 4, 55, 149, 150, 151, 152, 153, 154, 155, 156, 157, 158, 159, 160, 161, 162, 163, 164, 165, 166, 167, 168, 169, 170, 171, 172, 173, 174, 175, 176, 177, 178, 179, 180, 181, 182, 183, 184, 185] (by decide +kernel) (by decide +kernel)
set_option maxRecDepth 20000 in
theorem gX12_digest_X12_findNow : GoodIn wsX12_digest (wsV RX12 187 RX12 yX12_findNow wsX12_findNow) := goodIn_app (goodIn_of _ (by decide +kernel)) ggX12_digest_X12_findNow
set_option maxRecDepth 20000 in
theorem ggX12_digest_X12_howMany : GoodIn wsX12_digest wsX12_howMany := goodIn_r _ [138, 3, 46, 4, 111, 5, 139, 140, 141, 142, 143, 10, 144, 27, 145, 146, 147, 148, 55, 149, 150, 151, 152, 153, 154, 155, 156, 157, 158, 159, 160, 161, 162, 163, 164, 165, 166, 167, 168, 169, 170, 171, 172, 173, 174, 175, 176, 177, 178, 179, 180, 181, 182, 183, 184, 185] (by decide +kernel) (by decide +kernel)
set_option maxRecDepth 20000 in
theorem gX12_digest_X12_howMany : GoodIn wsX12_digest (wsV RX12 245 RX12 yX12_howMany wsX12_howMany) := goodIn_app (goodIn_of _ (by decide +kernel)) ggX12_digest_X12_howMany
theorem dX12_digest_0 : decode cX12_digest 0 = .ok (.aload_n 0, 1) := by decide +kernel
theorem dX12_digest_1 : decode cX12_digest 1 = .ok (.ldc2_w 257, 3) := by decide +kernel
theorem dX12_digest_4 : decode cX12_digest 4 = .ok (.putfield 250, 3) := by decide +kernel
theorem dX12_digest_7 : decode cX12_digest 7 = .ok (.iconst 0, 1) := by decide +kernel
theorem dX12_digest_8 : decode cX12_digest 8 = .ok (.istore_n 1, 1) := by decide +kernel
theorem dX12_digest_9 : decode cX12_digest 9 = .ok (.iload_n 1, 1) := by decide +kernel
theorem dX12_digest_10 : decode cX12_digest 10 = .ok (.aload_n 0, 1) := by decide +kernel
theorem dX12_digest_11 : decode cX12_digest 11 = .ok (.getfield 94, 3) := by decide +kernel
theorem dX12_digest_14 : decode cX12_digest 14 = .ok (.if_icmp .ge 14, 3) := by decide +kernel
theorem dX12_digest_17 : decode cX12_digest 17 = .ok (.aload_n 0, 1) := by decide +kernel
theorem dX12_digest_18 : decode cX12_digest 18 = .ok (.iload_n 1, 1) := by decide +kernel
theorem dX12_digest_19 : decode cX12_digest 19 = .ok (.invokevirtual 259, 3) := by decide +kernel
theorem dX12_digest_22 : decode cX12_digest 22 = .ok (.iinc 1 1, 3) := by decide +kernel
theorem dX12_digest_25 : decode cX12_digest 25 = .ok (.goto (-16), 3) := by decide +kernel
theorem dX12_digest_28 : decode cX12_digest 28 = .ok (.iconst 0, 1) := by decide +kernel
theorem dX12_digest_29 : decode cX12_digest 29 = .ok (.istore_n 1, 1) := by decide +kernel
theorem dX12_digest_30 : decode cX12_digest 30 = .ok (.iload_n 1, 1) := by decide +kernel
theorem dX12_digest_31 : decode cX12_digest 31 = .ok (.aload_n 0, 1) := by decide +kernel
theorem dX12_digest_32 : decode cX12_digest 32 = .ok (.getfield 103, 3) := by decide +kernel
theorem dX12_digest_35 : decode cX12_digest 35 = .ok (.if_icmp .ge 33, 3) := by decide +kernel
theorem dX12_digest_38 : decode cX12_digest 38 = .ok (.iconst 0, 1) := by decide +kernel
theorem dX12_digest_39 : decode cX12_digest 39 = .ok (.istore_n 2, 1) := by decide +kernel
theorem dX12_digest_40 : decode cX12_digest 40 = .ok (.iload_n 2, 1) := by decide +kernel
theorem dX12_digest_41 : decode cX12_digest 41 = .ok (.iconst 3, 1) := by decide +kernel
theorem dX12_digest_42 : decode cX12_digest 42 = .ok (.if_icmp .ge 20, 3) := by decide +kernel
theorem dX12_digest_45 : decode cX12_digest 45 = .ok (.aload_n 0, 1) := by decide +kernel
theorem dX12_digest_46 : decode cX12_digest 46 = .ok (.aload_n 0, 1) := by decide +kernel
theorem dX12_digest_47 : decode cX12_digest 47 = .ok (.iload_n 1, 1) := by decide +kernel
theorem dX12_digest_48 : decode cX12_digest 48 = .ok (.iload_n 2, 1) := by decide +kernel
theorem dX12_digest_49 : decode cX12_digest 49 = .ok (.invokevirtual 152, 3) := by decide +kernel
theorem dX12_digest_52 : decode cX12_digest 52 = .ok (.i2l, 1) := by decide +kernel
theorem dX12_digest_53 : decode cX12_digest 53 = .ok (.invokevirtual 253, 3) := by decide +kernel
theorem dX12_digest_56 : decode cX12_digest 56 = .ok (.iinc 2 1, 3) := by decide +kernel
theorem dX12_digest_59 : decode cX12_digest 59 = .ok (.goto (-19), 3) := by decide +kernel
theorem dX12_digest_62 : decode cX12_digest 62 = .ok (.iinc 1 1, 3) := by decide +kernel
theorem dX12_digest_65 : decode cX12_digest 65 = .ok (.goto (-35), 3) := by decide +kernel
theorem dX12_digest_68 : decode cX12_digest 68 = .ok (.aload_n 0, 1) := by decide +kernel
theorem dX12_digest_69 : decode cX12_digest 69 = .ok (.getfield 94, 3) := by decide +kernel
theorem dX12_digest_72 : decode cX12_digest 72 = .ok (.ifCond .le 23, 3) := by decide +kernel
theorem dX12_digest_75 : decode cX12_digest 75 = .ok (.aload_n 0, 1) := by decide +kernel
theorem dX12_digest_76 : decode cX12_digest 76 = .ok (.aload_n 0, 1) := by decide +kernel
theorem dX12_digest_77 : decode cX12_digest 77 = .ok (.iconst 0, 1) := by decide +kernel
theorem dX12_digest_78 : decode cX12_digest 78 = .ok (.invokevirtual 187, 3) := by decide +kernel
theorem dX12_digest_81 : decode cX12_digest 81 = .ok (.i2l, 1) := by decide +kernel
theorem dX12_digest_82 : decode cX12_digest 82 = .ok (.invokevirtual 253, 3) := by decide +kernel
theorem dX12_digest_85 : decode cX12_digest 85 = .ok (.aload_n 0, 1) := by decide +kernel
theorem dX12_digest_86 : decode cX12_digest 86 = .ok (.aload_n 0, 1) := by decide +kernel
theorem dX12_digest_87 : decode cX12_digest 87 = .ok (.iconst 1, 1) := by decide +kernel
theorem dX12_digest_88 : decode cX12_digest 88 = .ok (.invokevirtual 187, 3) := by decide +kernel
theorem dX12_digest_91 : decode cX12_digest 91 = .ok (.i2l, 1) := by decide +kernel
theorem dX12_digest_92 : decode cX12_digest 92 = .ok (.invokevirtual 253, 3) := by decide +kernel
theorem dX12_digest_95 : decode cX12_digest 95 = .ok (.iconst 0, 1) := by decide +kernel
theorem dX12_digest_96 : decode cX12_digest 96 = .ok (.istore_n 1, 1) := by decide +kernel
theorem dX12_digest_97 : decode cX12_digest 97 = .ok (.iload_n 1, 1) := by decide +kernel
theorem dX12_digest_98 : decode cX12_digest 98 = .ok (.aload_n 0, 1) := by decide +kernel
theorem dX12_digest_99 : decode cX12_digest 99 = .ok (.getfield 72, 3) := by decide +kernel
theorem dX12_digest_102 : decode cX12_digest 102 = .ok (.if_icmp .ge 20, 3) := by decide +kernel
theorem dX12_digest_105 : decode cX12_digest 105 = .ok (.aload_n 0, 1) := by decide +kernel
theorem dX12_digest_106 : decode cX12_digest 106 = .ok (.aload_n 0, 1) := by decide +kernel
theorem dX12_digest_107 : decode cX12_digest 107 = .ok (.getfield 34, 3) := by decide +kernel
theorem dX12_digest_110 : decode cX12_digest 110 = .ok (.iload_n 1, 1) := by decide +kernel
theorem dX12_digest_111 : decode cX12_digest 111 = .ok (.baload, 1) := by decide +kernel
theorem dX12_digest_112 : decode cX12_digest 112 = .ok (.i2l, 1) := by decide +kernel
theorem dX12_digest_113 : decode cX12_digest 113 = .ok (.invokevirtual 253, 3) := by decide +kernel
theorem dX12_digest_116 : decode cX12_digest 116 = .ok (.iinc 1 1, 3) := by decide +kernel
theorem dX12_digest_119 : decode cX12_digest 119 = .ok (.goto (-22), 3) := by decide +kernel
theorem dX12_digest_122 : decode cX12_digest 122 = .ok (.iconst 0, 1) := by decide +kernel
theorem dX12_digest_123 : decode cX12_digest 123 = .ok (.istore_n 1, 1) := by decide +kernel
theorem dX12_digest_124 : decode cX12_digest 124 = .ok (.iload_n 1, 1) := by decide +kernel
theorem dX12_digest_125 : decode cX12_digest 125 = .ok (.bipush 9, 2) := by decide +kernel
theorem dX12_digest_127 : decode cX12_digest 127 = .ok (.if_icmp .ge 19, 3) := by decide +kernel
theorem dX12_digest_130 : decode cX12_digest 130 = .ok (.aload_n 0, 1) := by decide +kernel
theorem dX12_digest_131 : decode cX12_digest 131 = .ok (.aload_n 0, 1) := by decide +kernel
theorem dX12_digest_132 : decode cX12_digest 132 = .ok (.iload_n 1, 1) := by decide +kernel
theorem dX12_digest_133 : decode cX12_digest 133 = .ok (.invokevirtual 245, 3) := by decide +kernel
theorem dX12_digest_136 : decode cX12_digest 136 = .ok (.i2l, 1) := by decide +kernel
theorem dX12_digest_137 : decode cX12_digest 137 = .ok (.invokevirtual 253, 3) := by decide +kernel
theorem dX12_digest_140 : decode cX12_digest 140 = .ok (.iinc 1 1, 3) := by decide +kernel
theorem dX12_digest_143 : decode cX12_digest 143 = .ok (.goto (-19), 3) := by decide +kernel
theorem dX12_digest_146 : decode cX12_digest 146 = .ok (.aload_n 0, 1) := by decide +kernel
theorem dX12_digest_147 : decode cX12_digest 147 = .ok (.getfield 250, 3) := by decide +kernel
theorem dX12_digest_150 : decode cX12_digest 150 = .ok (.lreturn, 1) := by decide +kernel
theorem dJ11_isValidCodePoint_9a6ad_0 : decode cJ11_isValidCodePoint_9a6ad 0 = .ok (.iload_n 0, 1) := by decide +kernel
theorem dJ11_isValidCodePoint_9a6ad_1 : decode cJ11_isValidCodePoint_9a6ad 1 = .ok (.bipush 16, 2) := by decide +kernel
theorem dJ11_isValidCodePoint_9a6ad_3 : decode cJ11_isValidCodePoint_9a6ad 3 = .ok (.iushr, 1) := by decide +kernel
theorem dJ11_isValidCodePoint_9a6ad_4 : decode cJ11_isValidCodePoint_9a6ad 4 = .ok (.istore_n 1, 1) := by decide +kernel
theorem dJ11_isValidCodePoint_9a6ad_5 : decode cJ11_isValidCodePoint_9a6ad 5 = .ok (.iload_n 1, 1) := by decide +kernel
theorem dJ11_isValidCodePoint_9a6ad_6 : decode cJ11_isValidCodePoint_9a6ad 6 = .ok (.bipush 17, 2) := by decide +kernel
theorem dJ11_isValidCodePoint_9a6ad_8 : decode cJ11_isValidCodePoint_9a6ad 8 = .ok (.if_icmp .ge 7, 3) := by decide +kernel
theorem dJ11_isValidCodePoint_9a6ad_11 : decode cJ11_isValidCodePoint_9a6ad 11 = .ok (.iconst 1, 1) := by decide +kernel
theorem dJ11_isValidCodePoint_9a6ad_12 : decode cJ11_isValidCodePoint_9a6ad 12 = .ok (.goto 4, 3) := by decide +kernel
theorem dJ11_isValidCodePoint_9a6ad_15 : decode cJ11_isValidCodePoint_9a6ad 15 = .ok (.iconst 0, 1) := by decide +kernel
theorem dJ11_isValidCodePoint_9a6ad_16 : decode cJ11_isValidCodePoint_9a6ad 16 = .ok (.ireturn, 1) := by decide +kernel
theorem dJ11_highSurrogate_5068e_0 : decode cJ11_highSurrogate_5068e 0 = .ok (.iload_n 0, 1) := by decide +kernel
theorem dJ11_highSurrogate_5068e_1 : decode cJ11_highSurrogate_5068e 1 = .ok (.bipush 10, 2) := by decide +kernel
theorem dJ11_highSurrogate_5068e_3 : decode cJ11_highSurrogate_5068e 3 = .ok (.iushr, 1) := by decide +kernel
theorem dJ11_highSurrogate_5068e_4 : decode cJ11_highSurrogate_5068e 4 = .ok (.ldc 110, 2) := by decide +kernel
theorem dJ11_highSurrogate_5068e_6 : decode cJ11_highSurrogate_5068e 6 = .ok (.iadd, 1) := by decide +kernel
theorem dJ11_highSurrogate_5068e_7 : decode cJ11_highSurrogate_5068e 7 = .ok (.i2c, 1) := by decide +kernel
theorem dJ11_highSurrogate_5068e_8 : decode cJ11_highSurrogate_5068e 8 = .ok (.ireturn, 1) := by decide +kernel
theorem dJ11_lowSurrogate_5068e_0 : decode cJ11_lowSurrogate_5068e 0 = .ok (.iload_n 0, 1) := by decide +kernel
theorem dJ11_lowSurrogate_5068e_1 : decode cJ11_lowSurrogate_5068e 1 = .ok (.sipush 1023, 3) := by decide +kernel
theorem dJ11_lowSurrogate_5068e_4 : decode cJ11_lowSurrogate_5068e 4 = .ok (.iand, 1) := by decide +kernel
theorem dJ11_lowSurrogate_5068e_5 : decode cJ11_lowSurrogate_5068e 5 = .ok (.ldc 76, 2) := by decide +kernel
theorem dJ11_lowSurrogate_5068e_7 : decode cJ11_lowSurrogate_5068e 7 = .ok (.iadd, 1) := by decide +kernel
theorem dJ11_lowSurrogate_5068e_8 : decode cJ11_lowSurrogate_5068e 8 = .ok (.i2c, 1) := by decide +kernel
theorem dJ11_lowSurrogate_5068e_9 : decode cJ11_lowSurrogate_5068e 9 = .ok (.ireturn, 1) := by decide +kernel
theorem dJ6_bitCount_0f7a4_0 : decode cJ6_bitCount_0f7a4 0 = .ok (.iload_n 0, 1) := by decide +kernel
theorem dJ6_bitCount_0f7a4_1 : decode cJ6_bitCount_0f7a4 1 = .ok (.iload_n 0, 1) := by decide +kernel
theorem dJ6_bitCount_0f7a4_2 : decode cJ6_bitCount_0f7a4 2 = .ok (.iconst 1, 1) := by decide +kernel
theorem dJ6_bitCount_0f7a4_3 : decode cJ6_bitCount_0f7a4 3 = .ok (.iushr, 1) := by decide +kernel
theorem dJ6_bitCount_0f7a4_4 : decode cJ6_bitCount_0f7a4 4 = .ok (.ldc_w 265, 3) := by decide +kernel
theorem dJ6_bitCount_0f7a4_7 : decode cJ6_bitCount_0f7a4 7 = .ok (.iand, 1) := by decide +kernel
theorem dJ6_bitCount_0f7a4_8 : decode cJ6_bitCount_0f7a4 8 = .ok (.isub, 1) := by decide +kernel
theorem dJ6_bitCount_0f7a4_9 : decode cJ6_bitCount_0f7a4 9 = .ok (.istore_n 0, 1) := by decide +kernel
theorem dJ6_bitCount_0f7a4_10 : decode cJ6_bitCount_0f7a4 10 = .ok (.iload_n 0, 1) := by decide +kernel
theorem dJ6_bitCount_0f7a4_11 : decode cJ6_bitCount_0f7a4 11 = .ok (.ldc_w 266, 3) := by decide +kernel
theorem dJ6_bitCount_0f7a4_14 : decode cJ6_bitCount_0f7a4 14 = .ok (.iand, 1) := by decide +kernel
theorem dJ6_bitCount_0f7a4_15 : decode cJ6_bitCount_0f7a4 15 = .ok (.iload_n 0, 1) := by decide +kernel
theorem dJ6_bitCount_0f7a4_16 : decode cJ6_bitCount_0f7a4 16 = .ok (.iconst 2, 1) := by decide +kernel
theorem dJ6_bitCount_0f7a4_17 : decode cJ6_bitCount_0f7a4 17 = .ok (.iushr, 1) := by decide +kernel
theorem dJ6_bitCount_0f7a4_18 : decode cJ6_bitCount_0f7a4 18 = .ok (.ldc_w 266, 3) := by decide +kernel
theorem dJ6_bitCount_0f7a4_21 : decode cJ6_bitCount_0f7a4 21 = .ok (.iand, 1) := by decide +kernel
theorem dJ6_bitCount_0f7a4_22 : decode cJ6_bitCount_0f7a4 22 = .ok (.iadd, 1) := by decide +kernel
theorem dJ6_bitCount_0f7a4_23 : decode cJ6_bitCount_0f7a4 23 = .ok (.istore_n 0, 1) := by decide +kernel
theorem dJ6_bitCount_0f7a4_24 : decode cJ6_bitCount_0f7a4 24 = .ok (.iload_n 0, 1) := by decide +kernel
theorem dJ6_bitCount_0f7a4_25 : decode cJ6_bitCount_0f7a4 25 = .ok (.iload_n 0, 1) := by decide +kernel
theorem dJ6_bitCount_0f7a4_26 : decode cJ6_bitCount_0f7a4 26 = .ok (.iconst 4, 1) := by decide +kernel
theorem dJ6_bitCount_0f7a4_27 : decode cJ6_bitCount_0f7a4 27 = .ok (.iushr, 1) := by decide +kernel
theorem dJ6_bitCount_0f7a4_28 : decode cJ6_bitCount_0f7a4 28 = .ok (.iadd, 1) := by decide +kernel
theorem dJ6_bitCount_0f7a4_29 : decode cJ6_bitCount_0f7a4 29 = .ok (.ldc_w 267, 3) := by decide +kernel
theorem dJ6_bitCount_0f7a4_32 : decode cJ6_bitCount_0f7a4 32 = .ok (.iand, 1) := by decide +kernel
theorem dJ6_bitCount_0f7a4_33 : decode cJ6_bitCount_0f7a4 33 = .ok (.istore_n 0, 1) := by decide +kernel
theorem dJ6_bitCount_0f7a4_34 : decode cJ6_bitCount_0f7a4 34 = .ok (.iload_n 0, 1) := by decide +kernel
theorem dJ6_bitCount_0f7a4_35 : decode cJ6_bitCount_0f7a4 35 = .ok (.iload_n 0, 1) := by decide +kernel
theorem dJ6_bitCount_0f7a4_36 : decode cJ6_bitCount_0f7a4 36 = .ok (.bipush 8, 2) := by decide +kernel
theorem dJ6_bitCount_0f7a4_38 : decode cJ6_bitCount_0f7a4 38 = .ok (.iushr, 1) := by decide +kernel
theorem dJ6_bitCount_0f7a4_39 : decode cJ6_bitCount_0f7a4 39 = .ok (.iadd, 1) := by decide +kernel
theorem dJ6_bitCount_0f7a4_40 : decode cJ6_bitCount_0f7a4 40 = .ok (.istore_n 0, 1) := by decide +kernel
theorem dJ6_bitCount_0f7a4_41 : decode cJ6_bitCount_0f7a4 41 = .ok (.iload_n 0, 1) := by decide +kernel
theorem dJ6_bitCount_0f7a4_42 : decode cJ6_bitCount_0f7a4 42 = .ok (.iload_n 0, 1) := by decide +kernel
theorem dJ6_bitCount_0f7a4_43 : decode cJ6_bitCount_0f7a4 43 = .ok (.bipush 16, 2) := by decide +kernel
theorem dJ6_bitCount_0f7a4_45 : decode cJ6_bitCount_0f7a4 45 = .ok (.iushr, 1) := by decide +kernel
theorem dJ6_bitCount_0f7a4_46 : decode cJ6_bitCount_0f7a4 46 = .ok (.iadd, 1) := by decide +kernel
theorem dJ6_bitCount_0f7a4_47 : decode cJ6_bitCount_0f7a4 47 = .ok (.istore_n 0, 1) := by decide +kernel
theorem dJ6_bitCount_0f7a4_48 : decode cJ6_bitCount_0f7a4 48 = .ok (.iload_n 0, 1) := by decide +kernel
theorem dJ6_bitCount_0f7a4_49 : decode cJ6_bitCount_0f7a4 49 = .ok (.bipush 63, 2) := by decide +kernel
theorem dJ6_bitCount_0f7a4_51 : decode cJ6_bitCount_0f7a4 51 = .ok (.iand, 1) := by decide +kernel
theorem dJ6_bitCount_0f7a4_52 : decode cJ6_bitCount_0f7a4 52 = .ok (.ireturn, 1) := by decide +kernel
theorem dJ9_max_7cf53_0 : decode cJ9_max_7cf53 0 = .ok (.iload_n 0, 1) := by decide +kernel
theorem dJ9_max_7cf53_1 : decode cJ9_max_7cf53 1 = .ok (.iload_n 1, 1) := by decide +kernel
theorem dJ9_max_7cf53_2 : decode cJ9_max_7cf53 2 = .ok (.if_icmp .lt 7, 3) := by decide +kernel
theorem dJ9_max_7cf53_5 : decode cJ9_max_7cf53 5 = .ok (.iload_n 0, 1) := by decide +kernel
theorem dJ9_max_7cf53_6 : decode cJ9_max_7cf53 6 = .ok (.goto 4, 3) := by decide +kernel
theorem dJ9_max_7cf53_9 : decode cJ9_max_7cf53 9 = .ok (.iload_n 1, 1) := by decide +kernel
theorem dJ9_max_7cf53_10 : decode cJ9_max_7cf53 10 = .ok (.ireturn, 1) := by decide +kernel
theorem dJ9_min_7cf53_0 : decode cJ9_min_7cf53 0 = .ok (.iload_n 0, 1) := by decide +kernel
theorem dJ9_min_7cf53_1 : decode cJ9_min_7cf53 1 = .ok (.iload_n 1, 1) := by decide +kernel
theorem dJ9_min_7cf53_2 : decode cJ9_min_7cf53 2 = .ok (.if_icmp .gt 7, 3) := by decide +kernel
theorem dJ9_min_7cf53_5 : decode cJ9_min_7cf53 5 = .ok (.iload_n 0, 1) := by decide +kernel
theorem dJ9_min_7cf53_6 : decode cJ9_min_7cf53 6 = .ok (.goto 4, 3) := by decide +kernel
theorem dJ9_min_7cf53_9 : decode cJ9_min_7cf53 9 = .ok (.iload_n 1, 1) := by decide +kernel
theorem dJ9_min_7cf53_10 : decode cJ9_min_7cf53 10 = .ok (.ireturn, 1) := by decide +kernel
set_option maxRecDepth 20000 in
theorem ggJ0_length_8abf5_J0_coder_7d493 : GoodIn wsJ0_length_8abf5 wsJ0_coder_7d493 := goodIn_r _ [6, 7, 8] (by decide +kernel) (by decide +kernel)
set_option maxRecDepth 20000 in
theorem gJ0_length_8abf5_J0_coder_7d493 : GoodIn wsJ0_length_8abf5 (wsV RJ0 335 RJ0 yJ0_coder_7d493 wsJ0_coder_7d493) := goodIn_app (goodIn_of _ (by decide +kernel)) ggJ0_length_8abf5_J0_coder_7d493
theorem dJ0_length_8abf5_0 : decode cJ0_length_8abf5 0 = .ok (.aload_n 0, 1) := by decide +kernel
theorem dJ0_length_8abf5_1 : decode cJ0_length_8abf5 1 = .ok (.getfield 9, 3) := by decide +kernel
theorem dJ0_length_8abf5_4 : decode cJ0_length_8abf5 4 = .ok (.arraylength, 1) := by decide +kernel
theorem dJ0_length_8abf5_5 : decode cJ0_length_8abf5 5 = .ok (.aload_n 0, 1) := by decide +kernel
theorem dJ0_length_8abf5_6 : decode cJ0_length_8abf5 6 = .ok (.invokevirtual 335, 3) := by decide +kernel
theorem dJ0_length_8abf5_9 : decode cJ0_length_8abf5 9 = .ok (.ishr, 1) := by decide +kernel
theorem dJ0_length_8abf5_10 : decode cJ0_length_8abf5 10 = .ok (.ireturn, 1) := by decide +kernel
set_option maxRecDepth 20000 in
theorem ggJ0_indexOf_0f7a4_J0_indexOf_7cf53 : GoodIn wsJ0_indexOf_0f7a4 wsJ0_indexOf_7cf53 := goodIn_r _ [5, 6, 7, 8, 9, 4, 10, 11, 12, 13, 14, 15, 16, 17, 18, 19, 20, 21, 22, 23, 24, 25, 26, 27, 28, 29, 30, 31, 32, 33, 34, 35, 36, 37, 38, 39, 40, 41, 42, 43, 44, 45, 46, 47, 48, 49, 50, 51, 52, 53, 54, 55, 56, 57, 58, 59, 60, 61, 62, 63, 64, 65, 66, 67, 68, 69, 70, 71, 72, 73, 74, 75, 76, 77, 78, 79, 80, 81, 82, 83, 84, 85] (by decide +kernel) (by decide +kernel)
set_option maxRecDepth 20000 in
theorem gJ0_indexOf_0f7a4_J0_indexOf_7cf53 : GoodIn wsJ0_indexOf_0f7a4 (wsV RJ0 633 RJ0 yJ0_indexOf_7cf53 wsJ0_indexOf_7cf53) := goodIn_app (goodIn_of _ (by decide +kernel)) ggJ0_indexOf_0f7a4_J0_indexOf_7cf53
theorem dJ0_indexOf_0f7a4_0 : decode cJ0_indexOf_0f7a4 0 = .ok (.aload_n 0, 1) := by decide +kernel
theorem dJ0_indexOf_0f7a4_1 : decode cJ0_indexOf_0f7a4 1 = .ok (.iload_n 1, 1) := by decide +kernel
theorem dJ0_indexOf_0f7a4_2 : decode cJ0_indexOf_0f7a4 2 = .ok (.iconst 0, 1) := by decide +kernel
theorem dJ0_indexOf_0f7a4_3 : decode cJ0_indexOf_0f7a4 3 = .ok (.invokevirtual 633, 3) := by decide +kernel
theorem dJ0_indexOf_0f7a4_6 : decode cJ0_indexOf_0f7a4 6 = .ok (.ireturn, 1) := by decide +kernel
set_option maxRecDepth 20000 in
theorem ggJ0_indexOf_7cf53_J0_isLatin1_aae02 : GoodIn wsJ0_indexOf_7cf53 wsJ0_isLatin1_aae02 := goodIn_r _ [6, 7, 8] (by decide +kernel) (by decide +kernel)
set_option maxRecDepth 20000 in
theorem gJ0_indexOf_7cf53_J0_isLatin1_aae02 : GoodIn wsJ0_indexOf_7cf53 (wsV RJ0 492 RJ0 yJ0_isLatin1_aae02 wsJ0_isLatin1_aae02) := goodIn_app (goodIn_of _ (by decide +kernel)) ggJ0_indexOf_7cf53_J0_isLatin1_aae02
set_option maxRecDepth 20000 in
theorem ggJ0_indexOf_7cf53_J0_length_8abf5 : GoodIn wsJ0_indexOf_7cf53 wsJ0_length_8abf5 := goodIn_r _ [12, 1, 13, 14, 15, 5, 16, 7, 8] (by decide +kernel) (by decide +kernel)
set_option maxRecDepth 20000 in
theorem gJ0_indexOf_7cf53_J0_length_8abf5 : GoodIn wsJ0_indexOf_7cf53 (wsV RJ0 505 RJ0 yJ0_length_8abf5 wsJ0_length_8abf5) := goodIn_app (goodIn_of _ (by decide +kernel)) ggJ0_indexOf_7cf53_J0_length_8abf5
set_option maxRecDepth 20000 in
theorem ggJ0_indexOf_7cf53_J1_indexOf_4cfef : GoodIn wsJ0_indexOf_7cf53 wsJ1_indexOf_4cfef := goodIn_r _ [20, 21, 22, 23, 24, 25, 26, 27, 28, 29, 19, 30, 31, 32, 33] (by decide +kernel) (by decide +kernel)
set_option maxRecDepth 20000 in
theorem gJ0_indexOf_7cf53_J1_indexOf_4cfef : GoodIn wsJ0_indexOf_7cf53 (va_wsS RJ0 637 yJ1_indexOf_4cfef wsJ1_indexOf_4cfef) := goodIn_app (goodIn_of _ (by decide +kernel)) ggJ0_indexOf_7cf53_J1_indexOf_4cfef
set_option maxRecDepth 20000 in
theorem ggJ0_indexOf_7cf53_J2_indexOf_4cfef : GoodIn wsJ0_indexOf_7cf53 wsJ2_indexOf_4cfef := goodIn_r _ [37, 38, 22, 23, 24, 39, 26, 27, 40, 41, 42, 36, 43, 44, 45, 46, 47, 48, 49, 50, 51, 5, 52, 53, 54, 55, 56, 57, 58, 59, 60, 61, 62, 63, 64, 65, 66, 67, 68, 69, 70, 71, 72, 73, 74, 75, 76, 77, 78, 79, 80, 81] (by decide +kernel) (by decide +kernel)
set_option maxRecDepth 20000 in
theorem gJ0_indexOf_7cf53_J2_indexOf_4cfef : GoodIn wsJ0_indexOf_7cf53 (va_wsS RJ0 640 yJ2_indexOf_4cfef wsJ2_indexOf_4cfef) := goodIn_app (goodIn_of _ (by decide +kernel)) ggJ0_indexOf_7cf53_J2_indexOf_4cfef
theorem dJ0_indexOf_7cf53_0 : decode cJ0_indexOf_7cf53 0 = .ok (.aload_n 0, 1) := by decide +kernel
theorem dJ0_indexOf_7cf53_1 : decode cJ0_indexOf_7cf53 1 = .ok (.invokevirtual 492, 3) := by decide +kernel
theorem dJ0_indexOf_7cf53_4 : decode cJ0_indexOf_7cf53 4 = .ok (.ifCond .eq 19, 3) := by decide +kernel
theorem dJ0_indexOf_7cf53_7 : decode cJ0_indexOf_7cf53 7 = .ok (.aload_n 0, 1) := by decide +kernel
theorem dJ0_indexOf_7cf53_8 : decode cJ0_indexOf_7cf53 8 = .ok (.getfield 9, 3) := by decide +kernel
theorem dJ0_indexOf_7cf53_11 : decode cJ0_indexOf_7cf53 11 = .ok (.iload_n 1, 1) := by decide +kernel
theorem dJ0_indexOf_7cf53_12 : decode cJ0_indexOf_7cf53 12 = .ok (.iload_n 2, 1) := by decide +kernel
theorem dJ0_indexOf_7cf53_13 : decode cJ0_indexOf_7cf53 13 = .ok (.aload_n 0, 1) := by decide +kernel
theorem dJ0_indexOf_7cf53_14 : decode cJ0_indexOf_7cf53 14 = .ok (.invokevirtual 505, 3) := by decide +kernel
theorem dJ0_indexOf_7cf53_17 : decode cJ0_indexOf_7cf53 17 = .ok (.invokestatic 637, 3) := by decide +kernel
theorem dJ0_indexOf_7cf53_20 : decode cJ0_indexOf_7cf53 20 = .ok (.goto 16, 3) := by decide +kernel
theorem dJ0_indexOf_7cf53_23 : decode cJ0_indexOf_7cf53 23 = .ok (.aload_n 0, 1) := by decide +kernel
theorem dJ0_indexOf_7cf53_24 : decode cJ0_indexOf_7cf53 24 = .ok (.getfield 9, 3) := by decide +kernel
theorem dJ0_indexOf_7cf53_27 : decode cJ0_indexOf_7cf53 27 = .ok (.iload_n 1, 1) := by decide +kernel
theorem dJ0_indexOf_7cf53_28 : decode cJ0_indexOf_7cf53 28 = .ok (.iload_n 2, 1) := by decide +kernel
theorem dJ0_indexOf_7cf53_29 : decode cJ0_indexOf_7cf53 29 = .ok (.aload_n 0, 1) := by decide +kernel
theorem dJ0_indexOf_7cf53_30 : decode cJ0_indexOf_7cf53 30 = .ok (.invokevirtual 505, 3) := by decide +kernel
theorem dJ0_indexOf_7cf53_33 : decode cJ0_indexOf_7cf53 33 = .ok (.invokestatic 640, 3) := by decide +kernel
theorem dJ0_indexOf_7cf53_36 : decode cJ0_indexOf_7cf53 36 = .ok (.ireturn, 1) := by decide +kernel
theorem dJ0_coder_7d493_0 : decode cJ0_coder_7d493 0 = .ok (.getstatic 38, 3) := by decide +kernel
theorem dJ0_coder_7d493_3 : decode cJ0_coder_7d493 3 = .ok (.ifCond .eq 10, 3) := by decide +kernel
theorem dJ0_coder_7d493_6 : decode cJ0_coder_7d493 6 = .ok (.aload_n 0, 1) := by decide +kernel
theorem dJ0_coder_7d493_7 : decode cJ0_coder_7d493 7 = .ok (.getfield 15, 3) := by decide +kernel
theorem dJ0_coder_7d493_10 : decode cJ0_coder_7d493 10 = .ok (.goto 4, 3) := by decide +kernel
theorem dJ0_coder_7d493_13 : decode cJ0_coder_7d493 13 = .ok (.iconst 1, 1) := by decide +kernel
theorem dJ0_coder_7d493_14 : decode cJ0_coder_7d493 14 = .ok (.ireturn, 1) := by decide +kernel
theorem dJ0_isLatin1_aae02_0 : decode cJ0_isLatin1_aae02 0 = .ok (.getstatic 38, 3) := by decide +kernel
theorem dJ0_isLatin1_aae02_3 : decode cJ0_isLatin1_aae02 3 = .ok (.ifCond .eq 14, 3) := by decide +kernel
theorem dJ0_isLatin1_aae02_6 : decode cJ0_isLatin1_aae02 6 = .ok (.aload_n 0, 1) := by decide +kernel
theorem dJ0_isLatin1_aae02_7 : decode cJ0_isLatin1_aae02 7 = .ok (.getfield 15, 3) := by decide +kernel
theorem dJ0_isLatin1_aae02_10 : decode cJ0_isLatin1_aae02 10 = .ok (.ifCond .ne 7, 3) := by decide +kernel
theorem dJ0_isLatin1_aae02_13 : decode cJ0_isLatin1_aae02 13 = .ok (.iconst 1, 1) := by decide +kernel
theorem dJ0_isLatin1_aae02_14 : decode cJ0_isLatin1_aae02 14 = .ok (.goto 4, 3) := by decide +kernel
theorem dJ0_isLatin1_aae02_17 : decode cJ0_isLatin1_aae02 17 = .ok (.iconst 0, 1) := by decide +kernel
theorem dJ0_isLatin1_aae02_18 : decode cJ0_isLatin1_aae02 18 = .ok (.ireturn, 1) := by decide +kernel
set_option maxRecDepth 20000 in
theorem ggJ0_checkBoundsBeginEnd_23922_J3_checkFromToIndex_8c36e : GoodIn wsJ0_checkBoundsBeginEnd_23922 wsJ3_checkFromToIndex_8c36e := goodIn_r _ [5] (by decide +kernel) (by decide +kernel)
set_option maxRecDepth 20000 in
theorem gJ0_checkBoundsBeginEnd_23922_J3_checkFromToIndex_8c36e : GoodIn wsJ0_checkBoundsBeginEnd_23922 (va_wsS RJ0 1062 yJ3_checkFromToIndex_8c36e wsJ3_checkFromToIndex_8c36e) := goodIn_app (goodIn_of _ (by decide +kernel)) ggJ0_checkBoundsBeginEnd_23922_J3_checkFromToIndex_8c36e
theorem dJ0_checkBoundsBeginEnd_23922_0 : decode cJ0_checkBoundsBeginEnd_23922 0 = .ok (.iload_n 0, 1) := by decide +kernel
theorem dJ0_checkBoundsBeginEnd_23922_1 : decode cJ0_checkBoundsBeginEnd_23922 1 = .ok (.iload_n 1, 1) := by decide +kernel
theorem dJ0_checkBoundsBeginEnd_23922_2 : decode cJ0_checkBoundsBeginEnd_23922 2 = .ok (.iload_n 2, 1) := by decide +kernel
theorem dJ0_checkBoundsBeginEnd_23922_3 : decode cJ0_checkBoundsBeginEnd_23922 3 = .ok (.getstatic 1053, 3) := by decide +kernel
theorem dJ0_checkBoundsBeginEnd_23922_6 : decode cJ0_checkBoundsBeginEnd_23922 6 = .ok (.invokestatic 1062, 3) := by decide +kernel
theorem dJ0_checkBoundsBeginEnd_23922_9 : decode cJ0_checkBoundsBeginEnd_23922 9 = .ok (.pop, 1) := by decide +kernel
theorem dJ0_checkBoundsBeginEnd_23922_10 : decode cJ0_checkBoundsBeginEnd_23922 10 = .ok (.return_, 1) := by decide +kernel
theorem dJ1_canEncode_9a6ad_0 : decode cJ1_canEncode_9a6ad 0 = .ok (.iload_n 0, 1) := by decide +kernel
theorem dJ1_canEncode_9a6ad_1 : decode cJ1_canEncode_9a6ad 1 = .ok (.ifCond .lt 14, 3) := by decide +kernel
theorem dJ1_canEncode_9a6ad_4 : decode cJ1_canEncode_9a6ad 4 = .ok (.iload_n 0, 1) := by decide +kernel
theorem dJ1_canEncode_9a6ad_5 : decode cJ1_canEncode_9a6ad 5 = .ok (.sipush 255, 3) := by decide +kernel
theorem dJ1_canEncode_9a6ad_8 : decode cJ1_canEncode_9a6ad 8 = .ok (.if_icmp .gt 7, 3) := by decide +kernel
theorem dJ1_canEncode_9a6ad_11 : decode cJ1_canEncode_9a6ad 11 = .ok (.iconst 1, 1) := by decide +kernel
theorem dJ1_canEncode_9a6ad_12 : decode cJ1_canEncode_9a6ad 12 = .ok (.goto 4, 3) := by decide +kernel
theorem dJ1_canEncode_9a6ad_15 : decode cJ1_canEncode_9a6ad 15 = .ok (.iconst 0, 1) := by decide +kernel
theorem dJ1_canEncode_9a6ad_16 : decode cJ1_canEncode_9a6ad 16 = .ok (.ireturn, 1) := by decide +kernel
set_option maxRecDepth 20000 in
theorem ggJ1_indexOf_4cfef_J1_canEncode_9a6ad : GoodIn wsJ1_indexOf_4cfef wsJ1_canEncode_9a6ad := goodIn_r _ [11] (by decide +kernel) (by decide +kernel)
set_option maxRecDepth 20000 in
theorem gJ1_indexOf_4cfef_J1_canEncode_9a6ad : GoodIn wsJ1_indexOf_4cfef (va_wsS RJ1 88 yJ1_canEncode_9a6ad wsJ1_canEncode_9a6ad) := goodIn_app (goodIn_of _ (by decide +kernel)) ggJ1_indexOf_4cfef_J1_canEncode_9a6ad
set_option maxRecDepth 20000 in
theorem ggJ1_indexOf_4cfef_J1_indexOfChar_4cfef : GoodIn wsJ1_indexOf_4cfef wsJ1_indexOfChar_4cfef := goodIn_r _ [14] (by decide +kernel) (by decide +kernel)
set_option maxRecDepth 20000 in
theorem gJ1_indexOf_4cfef_J1_indexOfChar_4cfef : GoodIn wsJ1_indexOf_4cfef (va_wsS RJ1 95 yJ1_indexOfChar_4cfef wsJ1_indexOfChar_4cfef) := goodIn_app (goodIn_of _ (by decide +kernel)) ggJ1_indexOf_4cfef_J1_indexOfChar_4cfef
theorem dJ1_indexOf_4cfef_0 : decode cJ1_indexOf_4cfef 0 = .ok (.iload_n 1, 1) := by decide +kernel
theorem dJ1_indexOf_4cfef_1 : decode cJ1_indexOf_4cfef 1 = .ok (.invokestatic 88, 3) := by decide +kernel
theorem dJ1_indexOf_4cfef_4 : decode cJ1_indexOf_4cfef 4 = .ok (.ifCond .ne 5, 3) := by decide +kernel
theorem dJ1_indexOf_4cfef_7 : decode cJ1_indexOf_4cfef 7 = .ok (.iconst (-1), 1) := by decide +kernel
theorem dJ1_indexOf_4cfef_8 : decode cJ1_indexOf_4cfef 8 = .ok (.ireturn, 1) := by decide +kernel
theorem dJ1_indexOf_4cfef_9 : decode cJ1_indexOf_4cfef 9 = .ok (.iload_n 2, 1) := by decide +kernel
theorem dJ1_indexOf_4cfef_10 : decode cJ1_indexOf_4cfef 10 = .ok (.iconst 0, 1) := by decide +kernel
theorem dJ1_indexOf_4cfef_11 : decode cJ1_indexOf_4cfef 11 = .ok (.invokestatic 92, 3) := by decide +kernel
theorem dJ1_indexOf_4cfef_14 : decode cJ1_indexOf_4cfef 14 = .ok (.istore_n 2, 1) := by decide +kernel
theorem dJ1_indexOf_4cfef_15 : decode cJ1_indexOf_4cfef 15 = .ok (.iload_n 3, 1) := by decide +kernel
theorem dJ1_indexOf_4cfef_16 : decode cJ1_indexOf_4cfef 16 = .ok (.aload_n 0, 1) := by decide +kernel
theorem dJ1_indexOf_4cfef_17 : decode cJ1_indexOf_4cfef 17 = .ok (.arraylength, 1) := by decide +kernel
theorem dJ1_indexOf_4cfef_18 : decode cJ1_indexOf_4cfef 18 = .ok (.invokestatic 38, 3) := by decide +kernel
theorem dJ1_indexOf_4cfef_21 : decode cJ1_indexOf_4cfef 21 = .ok (.istore_n 3, 1) := by decide +kernel
theorem dJ1_indexOf_4cfef_22 : decode cJ1_indexOf_4cfef 22 = .ok (.iload_n 2, 1) := by decide +kernel
theorem dJ1_indexOf_4cfef_23 : decode cJ1_indexOf_4cfef 23 = .ok (.iload_n 3, 1) := by decide +kernel
theorem dJ1_indexOf_4cfef_24 : decode cJ1_indexOf_4cfef 24 = .ok (.if_icmp .lt 5, 3) := by decide +kernel
theorem dJ1_indexOf_4cfef_27 : decode cJ1_indexOf_4cfef 27 = .ok (.iconst (-1), 1) := by decide +kernel
theorem dJ1_indexOf_4cfef_28 : decode cJ1_indexOf_4cfef 28 = .ok (.ireturn, 1) := by decide +kernel
theorem dJ1_indexOf_4cfef_29 : decode cJ1_indexOf_4cfef 29 = .ok (.aload_n 0, 1) := by decide +kernel
theorem dJ1_indexOf_4cfef_30 : decode cJ1_indexOf_4cfef 30 = .ok (.iload_n 1, 1) := by decide +kernel
theorem dJ1_indexOf_4cfef_31 : decode cJ1_indexOf_4cfef 31 = .ok (.iload_n 2, 1) := by decide +kernel
theorem dJ1_indexOf_4cfef_32 : decode cJ1_indexOf_4cfef 32 = .ok (.iload_n 3, 1) := by decide +kernel
theorem dJ1_indexOf_4cfef_33 : decode cJ1_indexOf_4cfef 33 = .ok (.invokestatic 95, 3) := by decide +kernel
theorem dJ1_indexOf_4cfef_36 : decode cJ1_indexOf_4cfef 36 = .ok (.ireturn, 1) := by decide +kernel
theorem dJ1_indexOfChar_4cfef_0 : decode cJ1_indexOfChar_4cfef 0 = .ok (.iload_n 1, 1) := by decide +kernel
theorem dJ1_indexOfChar_4cfef_1 : decode cJ1_indexOfChar_4cfef 1 = .ok (.i2b, 1) := by decide +kernel
theorem dJ1_indexOfChar_4cfef_2 : decode cJ1_indexOfChar_4cfef 2 = .ok (.istore 4, 2) := by decide +kernel
theorem dJ1_indexOfChar_4cfef_4 : decode cJ1_indexOfChar_4cfef 4 = .ok (.iload_n 2, 1) := by decide +kernel
theorem dJ1_indexOfChar_4cfef_5 : decode cJ1_indexOfChar_4cfef 5 = .ok (.istore 5, 2) := by decide +kernel
theorem dJ1_indexOfChar_4cfef_7 : decode cJ1_indexOfChar_4cfef 7 = .ok (.iload 5, 2) := by decide +kernel
theorem dJ1_indexOfChar_4cfef_9 : decode cJ1_indexOfChar_4cfef 9 = .ok (.iload_n 3, 1) := by decide +kernel
theorem dJ1_indexOfChar_4cfef_10 : decode cJ1_indexOfChar_4cfef 10 = .ok (.if_icmp .ge 21, 3) := by decide +kernel
theorem dJ1_indexOfChar_4cfef_13 : decode cJ1_indexOfChar_4cfef 13 = .ok (.aload_n 0, 1) := by decide +kernel
theorem dJ1_indexOfChar_4cfef_14 : decode cJ1_indexOfChar_4cfef 14 = .ok (.iload 5, 2) := by decide +kernel
theorem dJ1_indexOfChar_4cfef_16 : decode cJ1_indexOfChar_4cfef 16 = .ok (.baload, 1) := by decide +kernel
theorem dJ1_indexOfChar_4cfef_17 : decode cJ1_indexOfChar_4cfef 17 = .ok (.iload 4, 2) := by decide +kernel
theorem dJ1_indexOfChar_4cfef_19 : decode cJ1_indexOfChar_4cfef 19 = .ok (.if_icmp .ne 6, 3) := by decide +kernel
theorem dJ1_indexOfChar_4cfef_22 : decode cJ1_indexOfChar_4cfef 22 = .ok (.iload 5, 2) := by decide +kernel
theorem dJ1_indexOfChar_4cfef_24 : decode cJ1_indexOfChar_4cfef 24 = .ok (.ireturn, 1) := by decide +kernel
theorem dJ1_indexOfChar_4cfef_25 : decode cJ1_indexOfChar_4cfef 25 = .ok (.iinc 5 1, 3) := by decide +kernel
theorem dJ1_indexOfChar_4cfef_28 : decode cJ1_indexOfChar_4cfef 28 = .ok (.goto (-21), 3) := by decide +kernel
theorem dJ1_indexOfChar_4cfef_31 : decode cJ1_indexOfChar_4cfef 31 = .ok (.iconst (-1), 1) := by decide +kernel
theorem dJ1_indexOfChar_4cfef_32 : decode cJ1_indexOfChar_4cfef 32 = .ok (.ireturn, 1) := by decide +kernel
set_option maxRecDepth 20000 in
theorem ggJ2_getChar_3b067_J2_length_9d52b : GoodIn wsJ2_getChar_3b067 wsJ2_length_9d52b := goodIn_r _ [7] (by decide +kernel) (by decide +kernel)
set_option maxRecDepth 20000 in
theorem gJ2_getChar_3b067_J2_length_9d52b : GoodIn wsJ2_getChar_3b067 (va_wsS RJ2 48 yJ2_length_9d52b wsJ2_length_9d52b) := goodIn_app (goodIn_of _ (by decide +kernel)) ggJ2_getChar_3b067_J2_length_9d52b
theorem dJ2_getChar_3b067_0 : decode cJ2_getChar_3b067 0 = .ok (.getstatic 44, 3) := by decide +kernel
theorem dJ2_getChar_3b067_3 : decode cJ2_getChar_3b067 3 = .ok (.ifCond .ne 25, 3) := by decide +kernel
theorem dJ2_getChar_3b067_6 : decode cJ2_getChar_3b067 6 = .ok (.iload_n 1, 1) := by decide +kernel
theorem dJ2_getChar_3b067_7 : decode cJ2_getChar_3b067 7 = .ok (.ifCond .lt 11, 3) := by decide +kernel
theorem dJ2_getChar_3b067_10 : decode cJ2_getChar_3b067 10 = .ok (.iload_n 1, 1) := by decide +kernel
theorem dJ2_getChar_3b067_11 : decode cJ2_getChar_3b067 11 = .ok (.aload_n 0, 1) := by decide +kernel
theorem dJ2_getChar_3b067_12 : decode cJ2_getChar_3b067 12 = .ok (.invokestatic 48, 3) := by decide +kernel
theorem dJ2_getChar_3b067_15 : decode cJ2_getChar_3b067 15 = .ok (.if_icmp .lt 13, 3) := by decide +kernel
theorem dJ2_getChar_3b067_18 : decode cJ2_getChar_3b067 18 = .ok (.new 52, 3) := by decide +kernel
theorem dJ2_getChar_3b067_21 : decode cJ2_getChar_3b067 21 = .ok (.dup, 1) := by decide +kernel
theorem dJ2_getChar_3b067_22 : decode cJ2_getChar_3b067 22 = .ok (.ldc 54, 2) := by decide +kernel
theorem dJ2_getChar_3b067_24 : decode cJ2_getChar_3b067 24 = .ok (.invokespecial 56, 3) := by decide +kernel
theorem dJ2_getChar_3b067_27 : decode cJ2_getChar_3b067 27 = .ok (.athrow, 1) := by decide +kernel
theorem dJ2_getChar_3b067_28 : decode cJ2_getChar_3b067 28 = .ok (.iload_n 1, 1) := by decide +kernel
theorem dJ2_getChar_3b067_29 : decode cJ2_getChar_3b067 29 = .ok (.iconst 1, 1) := by decide +kernel
theorem dJ2_getChar_3b067_30 : decode cJ2_getChar_3b067 30 = .ok (.ishl, 1) := by decide +kernel
theorem dJ2_getChar_3b067_31 : decode cJ2_getChar_3b067 31 = .ok (.istore_n 1, 1) := by decide +kernel
theorem dJ2_getChar_3b067_32 : decode cJ2_getChar_3b067 32 = .ok (.aload_n 0, 1) := by decide +kernel
theorem dJ2_getChar_3b067_33 : decode cJ2_getChar_3b067 33 = .ok (.iload_n 1, 1) := by decide +kernel
theorem dJ2_getChar_3b067_34 : decode cJ2_getChar_3b067 34 = .ok (.iinc 1 1, 3) := by decide +kernel
theorem dJ2_getChar_3b067_37 : decode cJ2_getChar_3b067 37 = .ok (.baload, 1) := by decide +kernel
theorem dJ2_getChar_3b067_38 : decode cJ2_getChar_3b067 38 = .ok (.sipush 255, 3) := by decide +kernel
theorem dJ2_getChar_3b067_41 : decode cJ2_getChar_3b067 41 = .ok (.iand, 1) := by decide +kernel
theorem dJ2_getChar_3b067_42 : decode cJ2_getChar_3b067 42 = .ok (.getstatic 59, 3) := by decide +kernel
theorem dJ2_getChar_3b067_45 : decode cJ2_getChar_3b067 45 = .ok (.ishl, 1) := by decide +kernel
theorem dJ2_getChar_3b067_46 : decode cJ2_getChar_3b067 46 = .ok (.aload_n 0, 1) := by decide +kernel
theorem dJ2_getChar_3b067_47 : decode cJ2_getChar_3b067 47 = .ok (.iload_n 1, 1) := by decide +kernel
theorem dJ2_getChar_3b067_48 : decode cJ2_getChar_3b067 48 = .ok (.baload, 1) := by decide +kernel
theorem dJ2_getChar_3b067_49 : decode cJ2_getChar_3b067 49 = .ok (.sipush 255, 3) := by decide +kernel
theorem dJ2_getChar_3b067_52 : decode cJ2_getChar_3b067 52 = .ok (.iand, 1) := by decide +kernel
theorem dJ2_getChar_3b067_53 : decode cJ2_getChar_3b067 53 = .ok (.getstatic 63, 3) := by decide +kernel
theorem dJ2_getChar_3b067_56 : decode cJ2_getChar_3b067 56 = .ok (.ishl, 1) := by decide +kernel
theorem dJ2_getChar_3b067_57 : decode cJ2_getChar_3b067 57 = .ok (.ior, 1) := by decide +kernel
theorem dJ2_getChar_3b067_58 : decode cJ2_getChar_3b067 58 = .ok (.i2c, 1) := by decide +kernel
theorem dJ2_getChar_3b067_59 : decode cJ2_getChar_3b067 59 = .ok (.ireturn, 1) := by decide +kernel
theorem dJ2_length_9d52b_0 : decode cJ2_length_9d52b 0 = .ok (.aload_n 0, 1) := by decide +kernel
theorem dJ2_length_9d52b_1 : decode cJ2_length_9d52b 1 = .ok (.arraylength, 1) := by decide +kernel
theorem dJ2_length_9d52b_2 : decode cJ2_length_9d52b 2 = .ok (.iconst 1, 1) := by decide +kernel
theorem dJ2_length_9d52b_3 : decode cJ2_length_9d52b 3 = .ok (.ishr, 1) := by decide +kernel
theorem dJ2_length_9d52b_4 : decode cJ2_length_9d52b 4 = .ok (.ireturn, 1) := by decide +kernel
set_option maxRecDepth 20000 in
theorem ggJ2_indexOf_4cfef_J2_indexOfChar_4cfef : GoodIn wsJ2_indexOf_4cfef wsJ2_indexOfChar_4cfef := goodIn_r _ [12, 13, 14, 11, 15, 16, 17, 18, 19, 20, 21, 22, 23, 24, 25, 26, 27, 28, 29, 30, 31, 32, 33, 34, 35, 36] (by decide +kernel) (by decide +kernel)
set_option maxRecDepth 20000 in
theorem gJ2_indexOf_4cfef_J2_indexOfChar_4cfef : GoodIn wsJ2_indexOf_4cfef (va_wsS RJ2 228 yJ2_indexOfChar_4cfef wsJ2_indexOfChar_4cfef) := goodIn_app (goodIn_of _ (by decide +kernel)) ggJ2_indexOf_4cfef_J2_indexOfChar_4cfef
set_option maxRecDepth 20000 in
theorem ggJ2_indexOf_4cfef_J2_indexOfSupplementary_4cfef : GoodIn wsJ2_indexOf_4cfef wsJ2_indexOfSupplementary_4cfef := goodIn_r _ [39, 40, 41, 42, 43, 44, 45, 46, 47, 48, 49, 50, 51, 13, 14, 11, 15, 16, 17, 18, 19, 20, 21, 22, 23, 24, 25, 26, 27, 31, 32, 33, 34, 35, 36] (by decide +kernel) (by decide +kernel)
set_option maxRecDepth 20000 in
theorem gJ2_indexOf_4cfef_J2_indexOfSupplementary_4cfef : GoodIn wsJ2_indexOf_4cfef (va_wsS RJ2 232 yJ2_indexOfSupplementary_4cfef wsJ2_indexOfSupplementary_4cfef) := goodIn_app (goodIn_of _ (by decide +kernel)) ggJ2_indexOf_4cfef_J2_indexOfSupplementary_4cfef
theorem dJ2_indexOf_4cfef_0 : decode cJ2_indexOf_4cfef 0 = .ok (.iload_n 2, 1) := by decide +kernel
theorem dJ2_indexOf_4cfef_1 : decode cJ2_indexOf_4cfef 1 = .ok (.iconst 0, 1) := by decide +kernel
theorem dJ2_indexOf_4cfef_2 : decode cJ2_indexOf_4cfef 2 = .ok (.invokestatic 224, 3) := by decide +kernel
theorem dJ2_indexOf_4cfef_5 : decode cJ2_indexOf_4cfef 5 = .ok (.istore_n 2, 1) := by decide +kernel
theorem dJ2_indexOf_4cfef_6 : decode cJ2_indexOf_4cfef 6 = .ok (.iload_n 3, 1) := by decide +kernel
theorem dJ2_indexOf_4cfef_7 : decode cJ2_indexOf_4cfef 7 = .ok (.aload_n 0, 1) := by decide +kernel
theorem dJ2_indexOf_4cfef_8 : decode cJ2_indexOf_4cfef 8 = .ok (.arraylength, 1) := by decide +kernel
theorem dJ2_indexOf_4cfef_9 : decode cJ2_indexOf_4cfef 9 = .ok (.iconst 1, 1) := by decide +kernel
theorem dJ2_indexOf_4cfef_10 : decode cJ2_indexOf_4cfef 10 = .ok (.ishr, 1) := by decide +kernel
theorem dJ2_indexOf_4cfef_11 : decode cJ2_indexOf_4cfef 11 = .ok (.invokestatic 183, 3) := by decide +kernel
theorem dJ2_indexOf_4cfef_14 : decode cJ2_indexOf_4cfef 14 = .ok (.istore_n 3, 1) := by decide +kernel
theorem dJ2_indexOf_4cfef_15 : decode cJ2_indexOf_4cfef 15 = .ok (.iload_n 2, 1) := by decide +kernel
theorem dJ2_indexOf_4cfef_16 : decode cJ2_indexOf_4cfef 16 = .ok (.iload_n 3, 1) := by decide +kernel
theorem dJ2_indexOf_4cfef_17 : decode cJ2_indexOf_4cfef 17 = .ok (.if_icmp .lt 5, 3) := by decide +kernel
theorem dJ2_indexOf_4cfef_20 : decode cJ2_indexOf_4cfef 20 = .ok (.iconst (-1), 1) := by decide +kernel
theorem dJ2_indexOf_4cfef_21 : decode cJ2_indexOf_4cfef 21 = .ok (.ireturn, 1) := by decide +kernel
theorem dJ2_indexOf_4cfef_22 : decode cJ2_indexOf_4cfef 22 = .ok (.iload_n 1, 1) := by decide +kernel
theorem dJ2_indexOf_4cfef_23 : decode cJ2_indexOf_4cfef 23 = .ok (.ldc 227, 2) := by decide +kernel
theorem dJ2_indexOf_4cfef_25 : decode cJ2_indexOf_4cfef 25 = .ok (.if_icmp .ge 11, 3) := by decide +kernel
theorem dJ2_indexOf_4cfef_28 : decode cJ2_indexOf_4cfef 28 = .ok (.aload_n 0, 1) := by decide +kernel
theorem dJ2_indexOf_4cfef_29 : decode cJ2_indexOf_4cfef 29 = .ok (.iload_n 1, 1) := by decide +kernel
theorem dJ2_indexOf_4cfef_30 : decode cJ2_indexOf_4cfef 30 = .ok (.iload_n 2, 1) := by decide +kernel
theorem dJ2_indexOf_4cfef_31 : decode cJ2_indexOf_4cfef 31 = .ok (.iload_n 3, 1) := by decide +kernel
theorem dJ2_indexOf_4cfef_32 : decode cJ2_indexOf_4cfef 32 = .ok (.invokestatic 228, 3) := by decide +kernel
theorem dJ2_indexOf_4cfef_35 : decode cJ2_indexOf_4cfef 35 = .ok (.ireturn, 1) := by decide +kernel
theorem dJ2_indexOf_4cfef_36 : decode cJ2_indexOf_4cfef 36 = .ok (.aload_n 0, 1) := by decide +kernel
theorem dJ2_indexOf_4cfef_37 : decode cJ2_indexOf_4cfef 37 = .ok (.iload_n 1, 1) := by decide +kernel
theorem dJ2_indexOf_4cfef_38 : decode cJ2_indexOf_4cfef 38 = .ok (.iload_n 2, 1) := by decide +kernel
theorem dJ2_indexOf_4cfef_39 : decode cJ2_indexOf_4cfef 39 = .ok (.iload_n 3, 1) := by decide +kernel
theorem dJ2_indexOf_4cfef_40 : decode cJ2_indexOf_4cfef 40 = .ok (.invokestatic 232, 3) := by decide +kernel
theorem dJ2_indexOf_4cfef_43 : decode cJ2_indexOf_4cfef 43 = .ok (.ireturn, 1) := by decide +kernel
set_option maxRecDepth 20000 in
theorem ggJ2_indexOfChar_4cfef_J2_checkBoundsBeginEnd_d044e : GoodIn wsJ2_indexOfChar_4cfef wsJ2_checkBoundsBeginEnd_d044e := goodIn_r _ [4, 5, 6, 3, 7, 8, 9, 10, 11, 12, 13, 14, 15, 16] (by decide +kernel) (by decide +kernel)
set_option maxRecDepth 20000 in
theorem gJ2_indexOfChar_4cfef_J2_checkBoundsBeginEnd_d044e : GoodIn wsJ2_indexOfChar_4cfef (va_wsS RJ2 96 yJ2_checkBoundsBeginEnd_d044e wsJ2_checkBoundsBeginEnd_d044e) := goodIn_app (goodIn_of _ (by decide +kernel)) ggJ2_indexOfChar_4cfef_J2_checkBoundsBeginEnd_d044e
set_option maxRecDepth 20000 in
theorem ggJ2_indexOfChar_4cfef_J2_indexOfCharUnsafe_4cfef : GoodIn wsJ2_indexOfChar_4cfef wsJ2_indexOfCharUnsafe_4cfef := goodIn_r _ [19, 20, 21, 3, 22, 23, 24, 25, 5, 6, 7] (by decide +kernel) (by decide +kernel)
set_option maxRecDepth 20000 in
theorem gJ2_indexOfChar_4cfef_J2_indexOfCharUnsafe_4cfef : GoodIn wsJ2_indexOfChar_4cfef (va_wsS RJ2 244 yJ2_indexOfCharUnsafe_4cfef wsJ2_indexOfCharUnsafe_4cfef) := goodIn_app (goodIn_of _ (by decide +kernel)) ggJ2_indexOfChar_4cfef_J2_indexOfCharUnsafe_4cfef
theorem dJ2_indexOfChar_4cfef_0 : decode cJ2_indexOfChar_4cfef 0 = .ok (.iload_n 2, 1) := by decide +kernel
theorem dJ2_indexOfChar_4cfef_1 : decode cJ2_indexOfChar_4cfef 1 = .ok (.iload_n 3, 1) := by decide +kernel
theorem dJ2_indexOfChar_4cfef_2 : decode cJ2_indexOfChar_4cfef 2 = .ok (.aload_n 0, 1) := by decide +kernel
theorem dJ2_indexOfChar_4cfef_3 : decode cJ2_indexOfChar_4cfef 3 = .ok (.invokestatic 96, 3) := by decide +kernel
theorem dJ2_indexOfChar_4cfef_6 : decode cJ2_indexOfChar_4cfef 6 = .ok (.aload_n 0, 1) := by decide +kernel
theorem dJ2_indexOfChar_4cfef_7 : decode cJ2_indexOfChar_4cfef 7 = .ok (.iload_n 1, 1) := by decide +kernel
theorem dJ2_indexOfChar_4cfef_8 : decode cJ2_indexOfChar_4cfef 8 = .ok (.iload_n 2, 1) := by decide +kernel
theorem dJ2_indexOfChar_4cfef_9 : decode cJ2_indexOfChar_4cfef 9 = .ok (.iload_n 3, 1) := by decide +kernel
theorem dJ2_indexOfChar_4cfef_10 : decode cJ2_indexOfChar_4cfef 10 = .ok (.invokestatic 244, 3) := by decide +kernel
theorem dJ2_indexOfChar_4cfef_13 : decode cJ2_indexOfChar_4cfef 13 = .ok (.ireturn, 1) := by decide +kernel
set_option maxRecDepth 20000 in
theorem ggJ2_indexOfCharUnsafe_4cfef_J2_getChar_3b067 : GoodIn wsJ2_indexOfCharUnsafe_4cfef wsJ2_getChar_3b067 := goodIn_r _ [4, 5, 6, 7, 8, 9, 3, 10] (by decide +kernel) (by decide +kernel)
set_option maxRecDepth 20000 in
theorem gJ2_indexOfCharUnsafe_4cfef_J2_getChar_3b067 : GoodIn wsJ2_indexOfCharUnsafe_4cfef (va_wsS RJ2 71 yJ2_getChar_3b067 wsJ2_getChar_3b067) := goodIn_app (goodIn_of _ (by decide +kernel)) ggJ2_indexOfCharUnsafe_4cfef_J2_getChar_3b067
theorem dJ2_indexOfCharUnsafe_4cfef_0 : decode cJ2_indexOfCharUnsafe_4cfef 0 = .ok (.iload_n 2, 1) := by decide +kernel
theorem dJ2_indexOfCharUnsafe_4cfef_1 : decode cJ2_indexOfCharUnsafe_4cfef 1 = .ok (.istore 4, 2) := by decide +kernel
theorem dJ2_indexOfCharUnsafe_4cfef_3 : decode cJ2_indexOfCharUnsafe_4cfef 3 = .ok (.iload 4, 2) := by decide +kernel
theorem dJ2_indexOfCharUnsafe_4cfef_5 : decode cJ2_indexOfCharUnsafe_4cfef 5 = .ok (.iload_n 3, 1) := by decide +kernel
theorem dJ2_indexOfCharUnsafe_4cfef_6 : decode cJ2_indexOfCharUnsafe_4cfef 6 = .ok (.if_icmp .ge 22, 3) := by decide +kernel
theorem dJ2_indexOfCharUnsafe_4cfef_9 : decode cJ2_indexOfCharUnsafe_4cfef 9 = .ok (.aload_n 0, 1) := by decide +kernel
theorem dJ2_indexOfCharUnsafe_4cfef_10 : decode cJ2_indexOfCharUnsafe_4cfef 10 = .ok (.iload 4, 2) := by decide +kernel
theorem dJ2_indexOfCharUnsafe_4cfef_12 : decode cJ2_indexOfCharUnsafe_4cfef 12 = .ok (.invokestatic 71, 3) := by decide +kernel
theorem dJ2_indexOfCharUnsafe_4cfef_15 : decode cJ2_indexOfCharUnsafe_4cfef 15 = .ok (.iload_n 1, 1) := by decide +kernel
theorem dJ2_indexOfCharUnsafe_4cfef_16 : decode cJ2_indexOfCharUnsafe_4cfef 16 = .ok (.if_icmp .ne 6, 3) := by decide +kernel
theorem dJ2_indexOfCharUnsafe_4cfef_19 : decode cJ2_indexOfCharUnsafe_4cfef 19 = .ok (.iload 4, 2) := by decide +kernel
theorem dJ2_indexOfCharUnsafe_4cfef_21 : decode cJ2_indexOfCharUnsafe_4cfef 21 = .ok (.ireturn, 1) := by decide +kernel
theorem dJ2_indexOfCharUnsafe_4cfef_22 : decode cJ2_indexOfCharUnsafe_4cfef 22 = .ok (.iinc 4 1, 3) := by decide +kernel
theorem dJ2_indexOfCharUnsafe_4cfef_25 : decode cJ2_indexOfCharUnsafe_4cfef 25 = .ok (.goto (-22), 3) := by decide +kernel
theorem dJ2_indexOfCharUnsafe_4cfef_28 : decode cJ2_indexOfCharUnsafe_4cfef 28 = .ok (.iconst (-1), 1) := by decide +kernel
theorem dJ2_indexOfCharUnsafe_4cfef_29 : decode cJ2_indexOfCharUnsafe_4cfef 29 = .ok (.ireturn, 1) := by decide +kernel
set_option maxRecDepth 20000 in
theorem ggJ2_indexOfSupplementary_4cfef_J11_isValidCodePoint_9a6ad : GoodIn wsJ2_indexOfSupplementary_4cfef wsJ11_isValidCodePoint_9a6ad := goodIn_r _ [4] (by decide +kernel) (by decide +kernel)
set_option maxRecDepth 20000 in
theorem gJ2_indexOfSupplementary_4cfef_J11_isValidCodePoint_9a6ad : GoodIn wsJ2_indexOfSupplementary_4cfef (va_wsS RJ2 164 yJ11_isValidCodePoint_9a6ad wsJ11_isValidCodePoint_9a6ad) := goodIn_app (goodIn_of _ (by decide +kernel)) ggJ2_indexOfSupplementary_4cfef_J11_isValidCodePoint_9a6ad
set_option maxRecDepth 20000 in
theorem ggJ2_indexOfSupplementary_4cfef_J11_highSurrogate_5068e : GoodIn wsJ2_indexOfSupplementary_4cfef wsJ11_highSurrogate_5068e := goodIn_r _ [7, 8] (by decide +kernel) (by decide +kernel)
set_option maxRecDepth 20000 in
theorem gJ2_indexOfSupplementary_4cfef_J11_highSurrogate_5068e : GoodIn wsJ2_indexOfSupplementary_4cfef (va_wsS RJ2 157 yJ11_highSurrogate_5068e wsJ11_highSurrogate_5068e) := goodIn_app (goodIn_of _ (by decide +kernel)) ggJ2_indexOfSupplementary_4cfef_J11_highSurrogate_5068e
set_option maxRecDepth 20000 in
theorem ggJ2_indexOfSupplementary_4cfef_J11_lowSurrogate_5068e : GoodIn wsJ2_indexOfSupplementary_4cfef wsJ11_lowSurrogate_5068e := goodIn_r _ [11, 12] (by decide +kernel) (by decide +kernel)
set_option maxRecDepth 20000 in
theorem gJ2_indexOfSupplementary_4cfef_J11_lowSurrogate_5068e : GoodIn wsJ2_indexOfSupplementary_4cfef (va_wsS RJ2 161 yJ11_lowSurrogate_5068e wsJ11_lowSurrogate_5068e) := goodIn_app (goodIn_of _ (by decide +kernel)) ggJ2_indexOfSupplementary_4cfef_J11_lowSurrogate_5068e
set_option maxRecDepth 20000 in
theorem ggJ2_indexOfSupplementary_4cfef_J2_checkBoundsBeginEnd_d044e : GoodIn wsJ2_indexOfSupplementary_4cfef wsJ2_checkBoundsBeginEnd_d044e := goodIn_r _ [16, 17, 18, 15, 19, 20, 21, 22, 23, 24, 25, 26, 27, 28] (by decide +kernel) (by decide +kernel)
set_option maxRecDepth 20000 in
theorem gJ2_indexOfSupplementary_4cfef_J2_checkBoundsBeginEnd_d044e : GoodIn wsJ2_indexOfSupplementary_4cfef (va_wsS RJ2 96 yJ2_checkBoundsBeginEnd_d044e wsJ2_checkBoundsBeginEnd_d044e) := goodIn_app (goodIn_of _ (by decide +kernel)) ggJ2_indexOfSupplementary_4cfef_J2_checkBoundsBeginEnd_d044e
set_option maxRecDepth 20000 in
theorem ggJ2_indexOfSupplementary_4cfef_J2_getChar_3b067 : GoodIn wsJ2_indexOfSupplementary_4cfef wsJ2_getChar_3b067 := goodIn_r _ [31, 32, 33, 34, 17, 18, 15, 19] (by decide +kernel) (by decide +kernel)
set_option maxRecDepth 20000 in
theorem gJ2_indexOfSupplementary_4cfef_J2_getChar_3b067 : GoodIn wsJ2_indexOfSupplementary_4cfef (va_wsS RJ2 71 yJ2_getChar_3b067 wsJ2_getChar_3b067) := goodIn_app (goodIn_of _ (by decide +kernel)) ggJ2_indexOfSupplementary_4cfef_J2_getChar_3b067
theorem dJ2_indexOfSupplementary_4cfef_0 : decode cJ2_indexOfSupplementary_4cfef 0 = .ok (.iload_n 1, 1) := by decide +kernel
theorem dJ2_indexOfSupplementary_4cfef_1 : decode cJ2_indexOfSupplementary_4cfef 1 = .ok (.invokestatic 164, 3) := by decide +kernel
theorem dJ2_indexOfSupplementary_4cfef_4 : decode cJ2_indexOfSupplementary_4cfef 4 = .ok (.ifCond .eq 65, 3) := by decide +kernel
theorem dJ2_indexOfSupplementary_4cfef_7 : decode cJ2_indexOfSupplementary_4cfef 7 = .ok (.iload_n 1, 1) := by decide +kernel
theorem dJ2_indexOfSupplementary_4cfef_8 : decode cJ2_indexOfSupplementary_4cfef 8 = .ok (.invokestatic 157, 3) := by decide +kernel
theorem dJ2_indexOfSupplementary_4cfef_11 : decode cJ2_indexOfSupplementary_4cfef 11 = .ok (.istore 4, 2) := by decide +kernel
theorem dJ2_indexOfSupplementary_4cfef_13 : decode cJ2_indexOfSupplementary_4cfef 13 = .ok (.iload_n 1, 1) := by decide +kernel
theorem dJ2_indexOfSupplementary_4cfef_14 : decode cJ2_indexOfSupplementary_4cfef 14 = .ok (.invokestatic 161, 3) := by decide +kernel
theorem dJ2_indexOfSupplementary_4cfef_17 : decode cJ2_indexOfSupplementary_4cfef 17 = .ok (.istore 5, 2) := by decide +kernel
theorem dJ2_indexOfSupplementary_4cfef_19 : decode cJ2_indexOfSupplementary_4cfef 19 = .ok (.iload_n 2, 1) := by decide +kernel
theorem dJ2_indexOfSupplementary_4cfef_20 : decode cJ2_indexOfSupplementary_4cfef 20 = .ok (.iload_n 3, 1) := by decide +kernel
theorem dJ2_indexOfSupplementary_4cfef_21 : decode cJ2_indexOfSupplementary_4cfef 21 = .ok (.aload_n 0, 1) := by decide +kernel
theorem dJ2_indexOfSupplementary_4cfef_22 : decode cJ2_indexOfSupplementary_4cfef 22 = .ok (.invokestatic 96, 3) := by decide +kernel
theorem dJ2_indexOfSupplementary_4cfef_25 : decode cJ2_indexOfSupplementary_4cfef 25 = .ok (.iload_n 2, 1) := by decide +kernel
theorem dJ2_indexOfSupplementary_4cfef_26 : decode cJ2_indexOfSupplementary_4cfef 26 = .ok (.istore 6, 2) := by decide +kernel
theorem dJ2_indexOfSupplementary_4cfef_28 : decode cJ2_indexOfSupplementary_4cfef 28 = .ok (.iload 6, 2) := by decide +kernel
theorem dJ2_indexOfSupplementary_4cfef_30 : decode cJ2_indexOfSupplementary_4cfef 30 = .ok (.iload_n 3, 1) := by decide +kernel
theorem dJ2_indexOfSupplementary_4cfef_31 : decode cJ2_indexOfSupplementary_4cfef 31 = .ok (.iconst 1, 1) := by decide +kernel
theorem dJ2_indexOfSupplementary_4cfef_32 : decode cJ2_indexOfSupplementary_4cfef 32 = .ok (.isub, 1) := by decide +kernel
theorem dJ2_indexOfSupplementary_4cfef_33 : decode cJ2_indexOfSupplementary_4cfef 33 = .ok (.if_icmp .ge 36, 3) := by decide +kernel
theorem dJ2_indexOfSupplementary_4cfef_36 : decode cJ2_indexOfSupplementary_4cfef 36 = .ok (.aload_n 0, 1) := by decide +kernel
theorem dJ2_indexOfSupplementary_4cfef_37 : decode cJ2_indexOfSupplementary_4cfef 37 = .ok (.iload 6, 2) := by decide +kernel
theorem dJ2_indexOfSupplementary_4cfef_39 : decode cJ2_indexOfSupplementary_4cfef 39 = .ok (.invokestatic 71, 3) := by decide +kernel
theorem dJ2_indexOfSupplementary_4cfef_42 : decode cJ2_indexOfSupplementary_4cfef 42 = .ok (.iload 4, 2) := by decide +kernel
theorem dJ2_indexOfSupplementary_4cfef_44 : decode cJ2_indexOfSupplementary_4cfef 44 = .ok (.if_icmp .ne 19, 3) := by decide +kernel
theorem dJ2_indexOfSupplementary_4cfef_47 : decode cJ2_indexOfSupplementary_4cfef 47 = .ok (.aload_n 0, 1) := by decide +kernel
theorem dJ2_indexOfSupplementary_4cfef_48 : decode cJ2_indexOfSupplementary_4cfef 48 = .ok (.iload 6, 2) := by decide +kernel
theorem dJ2_indexOfSupplementary_4cfef_50 : decode cJ2_indexOfSupplementary_4cfef 50 = .ok (.iconst 1, 1) := by decide +kernel
theorem dJ2_indexOfSupplementary_4cfef_51 : decode cJ2_indexOfSupplementary_4cfef 51 = .ok (.iadd, 1) := by decide +kernel
theorem dJ2_indexOfSupplementary_4cfef_52 : decode cJ2_indexOfSupplementary_4cfef 52 = .ok (.invokestatic 71, 3) := by decide +kernel
theorem dJ2_indexOfSupplementary_4cfef_55 : decode cJ2_indexOfSupplementary_4cfef 55 = .ok (.iload 5, 2) := by decide +kernel
theorem dJ2_indexOfSupplementary_4cfef_57 : decode cJ2_indexOfSupplementary_4cfef 57 = .ok (.if_icmp .ne 6, 3) := by decide +kernel
theorem dJ2_indexOfSupplementary_4cfef_60 : decode cJ2_indexOfSupplementary_4cfef 60 = .ok (.iload 6, 2) := by decide +kernel
theorem dJ2_indexOfSupplementary_4cfef_62 : decode cJ2_indexOfSupplementary_4cfef 62 = .ok (.ireturn, 1) := by decide +kernel
theorem dJ2_indexOfSupplementary_4cfef_63 : decode cJ2_indexOfSupplementary_4cfef 63 = .ok (.iinc 6 1, 3) := by decide +kernel
theorem dJ2_indexOfSupplementary_4cfef_66 : decode cJ2_indexOfSupplementary_4cfef 66 = .ok (.goto (-38), 3) := by decide +kernel
theorem dJ2_indexOfSupplementary_4cfef_69 : decode cJ2_indexOfSupplementary_4cfef 69 = .ok (.iconst (-1), 1) := by decide +kernel
theorem dJ2_indexOfSupplementary_4cfef_70 : decode cJ2_indexOfSupplementary_4cfef 70 = .ok (.ireturn, 1) := by decide +kernel
set_option maxRecDepth 20000 in
theorem ggJ2_checkBoundsBeginEnd_d044e_J2_length_9d52b : GoodIn wsJ2_checkBoundsBeginEnd_d044e wsJ2_length_9d52b := goodIn_r _ [4] (by decide +kernel) (by decide +kernel)
set_option maxRecDepth 20000 in
theorem gJ2_checkBoundsBeginEnd_d044e_J2_length_9d52b : GoodIn wsJ2_checkBoundsBeginEnd_d044e (va_wsS RJ2 48 yJ2_length_9d52b wsJ2_length_9d52b) := goodIn_app (goodIn_of _ (by decide +kernel)) ggJ2_checkBoundsBeginEnd_d044e_J2_length_9d52b
set_option maxRecDepth 20000 in
theorem ggJ2_checkBoundsBeginEnd_d044e_J0_checkBoundsBeginEnd_23922 : GoodIn wsJ2_checkBoundsBeginEnd_d044e wsJ0_checkBoundsBeginEnd_23922 := goodIn_r _ [8, 9, 10, 11, 12, 13] (by decide +kernel) (by decide +kernel)
set_option maxRecDepth 20000 in
theorem gJ2_checkBoundsBeginEnd_d044e_J0_checkBoundsBeginEnd_23922 : GoodIn wsJ2_checkBoundsBeginEnd_d044e (va_wsS RJ2 241 yJ0_checkBoundsBeginEnd_23922 wsJ0_checkBoundsBeginEnd_23922) := goodIn_app (goodIn_of _ (by decide +kernel)) ggJ2_checkBoundsBeginEnd_d044e_J0_checkBoundsBeginEnd_23922
theorem dJ2_checkBoundsBeginEnd_d044e_0 : decode cJ2_checkBoundsBeginEnd_d044e 0 = .ok (.iload_n 0, 1) := by decide +kernel
theorem dJ2_checkBoundsBeginEnd_d044e_1 : decode cJ2_checkBoundsBeginEnd_d044e 1 = .ok (.iload_n 1, 1) := by decide +kernel
theorem dJ2_checkBoundsBeginEnd_d044e_2 : decode cJ2_checkBoundsBeginEnd_d044e 2 = .ok (.aload_n 2, 1) := by decide +kernel
theorem dJ2_checkBoundsBeginEnd_d044e_3 : decode cJ2_checkBoundsBeginEnd_d044e 3 = .ok (.invokestatic 48, 3) := by decide +kernel
theorem dJ2_checkBoundsBeginEnd_d044e_6 : decode cJ2_checkBoundsBeginEnd_d044e 6 = .ok (.invokestatic 241, 3) := by decide +kernel
theorem dJ2_checkBoundsBeginEnd_d044e_9 : decode cJ2_checkBoundsBeginEnd_d044e 9 = .ok (.return_, 1) := by decide +kernel
theorem dJ3_checkFromToIndex_8c36e_0 : decode cJ3_checkFromToIndex_8c36e 0 = .ok (.iload_n 0, 1) := by decide +kernel
theorem dJ3_checkFromToIndex_8c36e_1 : decode cJ3_checkFromToIndex_8c36e 1 = .ok (.ifCond .lt 13, 3) := by decide +kernel
theorem dJ3_checkFromToIndex_8c36e_4 : decode cJ3_checkFromToIndex_8c36e 4 = .ok (.iload_n 0, 1) := by decide +kernel
theorem dJ3_checkFromToIndex_8c36e_5 : decode cJ3_checkFromToIndex_8c36e 5 = .ok (.iload_n 1, 1) := by decide +kernel
theorem dJ3_checkFromToIndex_8c36e_6 : decode cJ3_checkFromToIndex_8c36e 6 = .ok (.if_icmp .gt 8, 3) := by decide +kernel
theorem dJ3_checkFromToIndex_8c36e_9 : decode cJ3_checkFromToIndex_8c36e 9 = .ok (.iload_n 1, 1) := by decide +kernel
theorem dJ3_checkFromToIndex_8c36e_10 : decode cJ3_checkFromToIndex_8c36e 10 = .ok (.iload_n 2, 1) := by decide +kernel
theorem dJ3_checkFromToIndex_8c36e_11 : decode cJ3_checkFromToIndex_8c36e 11 = .ok (.if_icmp .le 11, 3) := by decide +kernel
theorem dJ3_checkFromToIndex_8c36e_14 : decode cJ3_checkFromToIndex_8c36e 14 = .ok (.aload_n 3, 1) := by decide +kernel
theorem dJ3_checkFromToIndex_8c36e_15 : decode cJ3_checkFromToIndex_8c36e 15 = .ok (.iload_n 0, 1) := by decide +kernel
theorem dJ3_checkFromToIndex_8c36e_16 : decode cJ3_checkFromToIndex_8c36e 16 = .ok (.iload_n 1, 1) := by decide +kernel
theorem dJ3_checkFromToIndex_8c36e_17 : decode cJ3_checkFromToIndex_8c36e 17 = .ok (.iload_n 2, 1) := by decide +kernel
theorem dJ3_checkFromToIndex_8c36e_18 : decode cJ3_checkFromToIndex_8c36e 18 = .ok (.invokestatic 99, 3) := by decide +kernel
theorem dJ3_checkFromToIndex_8c36e_21 : decode cJ3_checkFromToIndex_8c36e 21 = .ok (.athrow, 1) := by decide +kernel
theorem dJ3_checkFromToIndex_8c36e_22 : decode cJ3_checkFromToIndex_8c36e 22 = .ok (.iload_n 0, 1) := by decide +kernel
theorem dJ3_checkFromToIndex_8c36e_23 : decode cJ3_checkFromToIndex_8c36e 23 = .ok (.ireturn, 1) := by decide +kernel
