theorem dX12_init_50 : decode cX12_init 50 = .ok (.aload_n 0, 1) := by decide +kernel
theorem dX12_init_51 : decode cX12_init 51 = .ok (.bipush 6, 2) := by decide +kernel
theorem dX12_init_53 : decode cX12_init 53 = .ok (.newarray .int, 2) := by decide +kernel
theorem dX12_init_55 : decode cX12_init 55 = .ok (.putfield 28, 3) := by decide +kernel
theorem dX12_init_58 : decode cX12_init 58 = .ok (.aload_n 0, 1) := by decide +kernel
theorem dX12_init_59 : decode cX12_init 59 = .ok (.bipush 6, 2) := by decide +kernel
theorem dX12_init_61 : decode cX12_init 61 = .ok (.newarray .int, 2) := by decide +kernel
theorem dX12_init_63 : decode cX12_init 63 = .ok (.putfield 31, 3) := by decide +kernel
theorem dX12_init_66 : decode cX12_init 66 = .ok (.aload_n 0, 1) := by decide +kernel
theorem dX12_init_67 : decode cX12_init 67 = .ok (.bipush 18, 2) := by decide +kernel
theorem dX12_init_69 : decode cX12_init 69 = .ok (.newarray .byte, 2) := by decide +kernel
theorem dX12_init_71 : decode cX12_init 71 = .ok (.putfield 34, 3) := by decide +kernel
theorem dX12_init_74 : decode cX12_init 74 = .ok (.aload_n 0, 1) := by decide +kernel
theorem dX12_init_75 : decode cX12_init 75 = .ok (.bipush 25, 2) := by decide +kernel
theorem dX12_init_77 : decode cX12_init 77 = .ok (.newarray .int, 2) := by decide +kernel
theorem dX12_init_79 : decode cX12_init 79 = .ok (.putfield 38, 3) := by decide +kernel
theorem dX12_init_82 : decode cX12_init 82 = .ok (.aload_n 0, 1) := by decide +kernel
theorem dX12_init_83 : decode cX12_init 83 = .ok (.iconst 5, 1) := by decide +kernel
theorem dX12_init_84 : decode cX12_init 84 = .ok (.newarray .int, 2) := by decide +kernel
theorem dX12_init_86 : decode cX12_init 86 = .ok (.putfield 41, 3) := by decide +kernel
theorem dX12_init_89 : decode cX12_init 89 = .ok (.aload_n 0, 1) := by decide +kernel
theorem dX12_init_90 : decode cX12_init 90 = .ok (.iconst 5, 1) := by decide +kernel
theorem dX12_init_91 : decode cX12_init 91 = .ok (.newarray .int, 2) := by decide +kernel
theorem dX12_init_93 : decode cX12_init 93 = .ok (.putfield 44, 3) := by decide +kernel
theorem dX12_init_96 : decode cX12_init 96 = .ok (.aload_n 0, 1) := by decide +kernel
theorem dX12_init_97 : decode cX12_init 97 = .ok (.iconst 5, 1) := by decide +kernel
theorem dX12_init_98 : decode cX12_init 98 = .ok (.newarray .int, 2) := by decide +kernel
theorem dX12_init_100 : decode cX12_init 100 = .ok (.putfield 47, 3) := by decide +kernel
theorem dX12_init_103 : decode cX12_init 103 = .ok (.aload_n 0, 1) := by decide +kernel
theorem dX12_init_104 : decode cX12_init 104 = .ok (.sipush 205, 3) := by decide +kernel
theorem dX12_init_107 : decode cX12_init 107 = .ok (.newarray .int, 2) := by decide +kernel
theorem dX12_init_109 : decode cX12_init 109 = .ok (.putfield 50, 3) := by decide +kernel
theorem dX12_init_112 : decode cX12_init 112 = .ok (.aload_n 0, 1) := by decide +kernel
theorem dX12_init_113 : decode cX12_init 113 = .ok (.iconst 5, 1) := by decide +kernel
theorem dX12_init_114 : decode cX12_init 114 = .ok (.newarray .int, 2) := by decide +kernel
theorem dX12_init_116 : decode cX12_init 116 = .ok (.putfield 53, 3) := by decide +kernel
theorem dX12_init_119 : decode cX12_init 119 = .ok (.aload_n 0, 1) := by decide +kernel
theorem dX12_init_120 : decode cX12_init 120 = .ok (.bipush 6, 2) := by decide +kernel
theorem dX12_init_122 : decode cX12_init 122 = .ok (.newarray .int, 2) := by decide +kernel
theorem dX12_init_124 : decode cX12_init 124 = .ok (.putfield 56, 3) := by decide +kernel
theorem dX12_init_127 : decode cX12_init 127 = .ok (.aload_n 0, 1) := by decide +kernel
theorem dX12_init_128 : decode cX12_init 128 = .ok (.bipush 6, 2) := by decide +kernel
theorem dX12_init_130 : decode cX12_init 130 = .ok (.newarray .int, 2) := by decide +kernel
theorem dX12_init_132 : decode cX12_init 132 = .ok (.putfield 59, 3) := by decide +kernel
theorem dX12_init_135 : decode cX12_init 135 = .ok (.aload_n 0, 1) := by decide +kernel
theorem dX12_init_136 : decode cX12_init 136 = .ok (.bipush 6, 2) := by decide +kernel
theorem dX12_init_138 : decode cX12_init 138 = .ok (.newarray .int, 2) := by decide +kernel
theorem dX12_init_140 : decode cX12_init 140 = .ok (.putfield 62, 3) := by decide +kernel
theorem dX12_init_143 : decode cX12_init 143 = .ok (.aload_n 0, 1) := by decide +kernel
theorem dX12_init_144 : decode cX12_init 144 = .ok (.bipush 6, 2) := by decide +kernel
theorem dX12_init_146 : decode cX12_init 146 = .ok (.newarray .int, 2) := by decide +kernel
theorem dX12_init_148 : decode cX12_init 148 = .ok (.putfield 65, 3) := by decide +kernel
theorem dX12_init_151 : decode cX12_init 151 = .ok (.return_, 1) := by decide +kernel
theorem dX12_within_0 : decode cX12_within 0 = .ok (.iload_n 0, 1) := by decide +kernel
theorem dX12_within_1 : decode cX12_within 1 = .ok (.iload_n 1, 1) := by decide +kernel
theorem dX12_within_2 : decode cX12_within 2 = .ok (.if_icmp .lt 12, 3) := by decide +kernel
theorem dX12_within_5 : decode cX12_within 5 = .ok (.iload_n 0, 1) := by decide +kernel
theorem dX12_within_6 : decode cX12_within 6 = .ok (.iload_n 2, 1) := by decide +kernel
theorem dX12_within_7 : decode cX12_within 7 = .ok (.if_icmp .gt 7, 3) := by decide +kernel
theorem dX12_within_10 : decode cX12_within 10 = .ok (.iconst 1, 1) := by decide +kernel
theorem dX12_within_11 : decode cX12_within 11 = .ok (.goto 4, 3) := by decide +kernel
theorem dX12_within_14 : decode cX12_within 14 = .ok (.iconst 0, 1) := by decide +kernel
theorem dX12_within_15 : decode cX12_within 15 = .ok (.ireturn, 1) := by decide +kernel
theorem dX12_isIn_0 : decode cX12_isIn 0 = .ok (.iload_n 0, 1) := by decide +kernel
theorem dX12_isIn_1 : decode cX12_isIn 1 = .ok (.iload_n 1, 1) := by decide +kernel
theorem dX12_isIn_2 : decode cX12_isIn 2 = .ok (.ishr, 1) := by decide +kernel
theorem dX12_isIn_3 : decode cX12_isIn 3 = .ok (.iconst 1, 1) := by decide +kernel
theorem dX12_isIn_4 : decode cX12_isIn 4 = .ok (.iand, 1) := by decide +kernel
theorem dX12_isIn_5 : decode cX12_isIn 5 = .ok (.iconst 1, 1) := by decide +kernel
theorem dX12_isIn_6 : decode cX12_isIn 6 = .ok (.if_icmp .ne 7, 3) := by decide +kernel
theorem dX12_isIn_9 : decode cX12_isIn 9 = .ok (.iconst 1, 1) := by decide +kernel
theorem dX12_isIn_10 : decode cX12_isIn 10 = .ok (.goto 4, 3) := by decide +kernel
theorem dX12_isIn_13 : decode cX12_isIn 13 = .ok (.iconst 0, 1) := by decide +kernel
theorem dX12_isIn_14 : decode cX12_isIn 14 = .ok (.ireturn, 1) := by decide +kernel
theorem dX12_size_0 : decode cX12_size 0 = .ok (.iconst 0, 1) := by decide +kernel
theorem dX12_size_1 : decode cX12_size 1 = .ok (.istore_n 1, 1) := by decide +kernel
theorem dX12_size_2 : decode cX12_size 2 = .ok (.iconst 0, 1) := by decide +kernel
theorem dX12_size_3 : decode cX12_size 3 = .ok (.istore_n 2, 1) := by decide +kernel
theorem dX12_size_4 : decode cX12_size 4 = .ok (.iload_n 2, 1) := by decide +kernel
theorem dX12_size_5 : decode cX12_size 5 = .ok (.iconst 5, 1) := by decide +kernel
theorem dX12_size_6 : decode cX12_size 6 = .ok (.if_icmp .ge 17, 3) := by decide +kernel
theorem dX12_size_9 : decode cX12_size 9 = .ok (.iload_n 1, 1) := by decide +kernel
theorem dX12_size_10 : decode cX12_size 10 = .ok (.iload_n 0, 1) := by decide +kernel
theorem dX12_size_11 : decode cX12_size 11 = .ok (.iload_n 2, 1) := by decide +kernel
theorem dX12_size_12 : decode cX12_size 12 = .ok (.ishr, 1) := by decide +kernel
theorem dX12_size_13 : decode cX12_size 13 = .ok (.iconst 1, 1) := by decide +kernel
theorem dX12_size_14 : decode cX12_size 14 = .ok (.iand, 1) := by decide +kernel
theorem dX12_size_15 : decode cX12_size 15 = .ok (.iadd, 1) := by decide +kernel
theorem dX12_size_16 : decode cX12_size 16 = .ok (.istore_n 1, 1) := by decide +kernel
theorem dX12_size_17 : decode cX12_size 17 = .ok (.iinc 2 1, 3) := by decide +kernel
theorem dX12_size_20 : decode cX12_size 20 = .ok (.goto (-16), 3) := by decide +kernel
theorem dX12_size_23 : decode cX12_size 23 = .ok (.iload_n 1, 1) := by decide +kernel
theorem dX12_size_24 : decode cX12_size 24 = .ok (.ireturn, 1) := by decide +kernel
set_option maxRecDepth 20000 in
theorem ggX12_letter_X12_within : GoodIn wsX12_letter wsX12_within := goodIn_r _ [6] (by decide +kernel) (by decide +kernel)
set_option maxRecDepth 20000 in
theorem gX12_letter_X12_within : GoodIn wsX12_letter (va_wsS RX12 68 yX12_within wsX12_within) := goodIn_app (goodIn_of _ (by decide +kernel)) ggX12_letter_X12_within
theorem dX12_letter_0 : decode cX12_letter 0 = .ok (.iload_n 1, 1) := by decide +kernel
theorem dX12_letter_1 : decode cX12_letter 1 = .ok (.bipush 32, 2) := by decide +kernel
theorem dX12_letter_3 : decode cX12_letter 3 = .ok (.bipush 126, 2) := by decide +kernel
theorem dX12_letter_5 : decode cX12_letter 5 = .ok (.invokestatic 68, 3) := by decide +kernel
theorem dX12_letter_8 : decode cX12_letter 8 = .ok (.ifCond .ne 6, 3) := by decide +kernel
theorem dX12_letter_11 : decode cX12_letter 11 = .ok (.bipush (-102), 2) := by decide +kernel
theorem dX12_letter_13 : decode cX12_letter 13 = .ok (.ireturn, 1) := by decide +kernel
theorem dX12_letter_14 : decode cX12_letter 14 = .ok (.aload_n 0, 1) := by decide +kernel
theorem dX12_letter_15 : decode cX12_letter 15 = .ok (.getfield 72, 3) := by decide +kernel
theorem dX12_letter_18 : decode cX12_letter 18 = .ok (.bipush 18, 2) := by decide +kernel
theorem dX12_letter_20 : decode cX12_letter 20 = .ok (.if_icmp .ne 6, 3) := by decide +kernel
theorem dX12_letter_23 : decode cX12_letter 23 = .ok (.bipush (-104), 2) := by decide +kernel
theorem dX12_letter_25 : decode cX12_letter 25 = .ok (.ireturn, 1) := by decide +kernel
theorem dX12_letter_26 : decode cX12_letter 26 = .ok (.aload_n 0, 1) := by decide +kernel
theorem dX12_letter_27 : decode cX12_letter 27 = .ok (.getfield 34, 3) := by decide +kernel
theorem dX12_letter_30 : decode cX12_letter 30 = .ok (.aload_n 0, 1) := by decide +kernel
theorem dX12_letter_31 : decode cX12_letter 31 = .ok (.getfield 72, 3) := by decide +kernel
theorem dX12_letter_34 : decode cX12_letter 34 = .ok (.iload_n 1, 1) := by decide +kernel
theorem dX12_letter_35 : decode cX12_letter 35 = .ok (.i2b, 1) := by decide +kernel
theorem dX12_letter_36 : decode cX12_letter 36 = .ok (.bastore, 1) := by decide +kernel
theorem dX12_letter_37 : decode cX12_letter 37 = .ok (.aload_n 0, 1) := by decide +kernel
theorem dX12_letter_38 : decode cX12_letter 38 = .ok (.dup, 1) := by decide +kernel
theorem dX12_letter_39 : decode cX12_letter 39 = .ok (.getfield 72, 3) := by decide +kernel
theorem dX12_letter_42 : decode cX12_letter 42 = .ok (.iconst 1, 1) := by decide +kernel
theorem dX12_letter_43 : decode cX12_letter 43 = .ok (.iadd, 1) := by decide +kernel
theorem dX12_letter_44 : decode cX12_letter 44 = .ok (.putfield 72, 3) := by decide +kernel
theorem dX12_letter_47 : decode cX12_letter 47 = .ok (.aload_n 0, 1) := by decide +kernel
theorem dX12_letter_48 : decode cX12_letter 48 = .ok (.getfield 72, 3) := by decide +kernel
theorem dX12_letter_51 : decode cX12_letter 51 = .ok (.ireturn, 1) := by decide +kernel
theorem dX12_blank_0 : decode cX12_blank 0 = .ok (.aload_n 0, 1) := by decide +kernel
theorem dX12_blank_1 : decode cX12_blank 1 = .ok (.getfield 72, 3) := by decide +kernel
theorem dX12_blank_4 : decode cX12_blank 4 = .ok (.istore_n 1, 1) := by decide +kernel
theorem dX12_blank_5 : decode cX12_blank 5 = .ok (.aload_n 0, 1) := by decide +kernel
theorem dX12_blank_6 : decode cX12_blank 6 = .ok (.iconst 0, 1) := by decide +kernel
theorem dX12_blank_7 : decode cX12_blank 7 = .ok (.putfield 72, 3) := by decide +kernel
theorem dX12_blank_10 : decode cX12_blank 10 = .ok (.iload_n 1, 1) := by decide +kernel
theorem dX12_blank_11 : decode cX12_blank 11 = .ok (.ireturn, 1) := by decide +kernel
theorem dX12_kindBy_0 : decode cX12_kindBy 0 = .ok (.iload_n 0, 1) := by decide +kernel
theorem dX12_kindBy_1 : decode cX12_kindBy 1 = .ok (.lookupswitch 61 #[(97, 59), (98, 53), (112, 51), (116, 55), (121, 57)], 51) := by decide +kernel
theorem dX12_kindBy_52 : decode cX12_kindBy 52 = .ok (.iconst 0, 1) := by decide +kernel
theorem dX12_kindBy_53 : decode cX12_kindBy 53 = .ok (.ireturn, 1) := by decide +kernel
theorem dX12_kindBy_54 : decode cX12_kindBy 54 = .ok (.iconst 1, 1) := by decide +kernel
theorem dX12_kindBy_55 : decode cX12_kindBy 55 = .ok (.ireturn, 1) := by decide +kernel
theorem dX12_kindBy_56 : decode cX12_kindBy 56 = .ok (.iconst 2, 1) := by decide +kernel
theorem dX12_kindBy_57 : decode cX12_kindBy 57 = .ok (.ireturn, 1) := by decide +kernel
theorem dX12_kindBy_58 : decode cX12_kindBy 58 = .ok (.iconst 3, 1) := by decide +kernel
theorem dX12_kindBy_59 : decode cX12_kindBy 59 = .ok (.ireturn, 1) := by decide +kernel
theorem dX12_kindBy_60 : decode cX12_kindBy 60 = .ok (.iconst 4, 1) := by decide +kernel
theorem dX12_kindBy_61 : decode cX12_kindBy 61 = .ok (.ireturn, 1) := by decide +kernel
theorem dX12_kindBy_62 : decode cX12_kindBy 62 = .ok (.iconst (-1), 1) := by decide +kernel
theorem dX12_kindBy_63 : decode cX12_kindBy 63 = .ok (.ireturn, 1) := by decide +kernel
set_option maxRecDepth 20000 in
theorem ggX12_isFigure_X12_within : GoodIn wsX12_isFigure wsX12_within := goodIn_r _ [6] (by decide +kernel) (by decide +kernel)
set_option maxRecDepth 20000 in
theorem gX12_isFigure_X12_within : GoodIn wsX12_isFigure (va_wsS RX12 68 yX12_within wsX12_within) := goodIn_app (goodIn_of _ (by decide +kernel)) ggX12_isFigure_X12_within
theorem dX12_isFigure_0 : decode cX12_isFigure 0 = .ok (.iload_n 1, 1) := by decide +kernel
theorem dX12_isFigure_1 : decode cX12_isFigure 1 = .ok (.aload_n 0, 1) := by decide +kernel
theorem dX12_isFigure_2 : decode cX12_isFigure 2 = .ok (.getfield 72, 3) := by decide +kernel
theorem dX12_isFigure_5 : decode cX12_isFigure 5 = .ok (.if_icmp .ge 24, 3) := by decide +kernel
theorem dX12_isFigure_8 : decode cX12_isFigure 8 = .ok (.aload_n 0, 1) := by decide +kernel
theorem dX12_isFigure_9 : decode cX12_isFigure 9 = .ok (.getfield 34, 3) := by decide +kernel
theorem dX12_isFigure_12 : decode cX12_isFigure 12 = .ok (.iload_n 1, 1) := by decide +kernel
theorem dX12_isFigure_13 : decode cX12_isFigure 13 = .ok (.baload, 1) := by decide +kernel
theorem dX12_isFigure_14 : decode cX12_isFigure 14 = .ok (.bipush 48, 2) := by decide +kernel
theorem dX12_isFigure_16 : decode cX12_isFigure 16 = .ok (.isub, 1) := by decide +kernel
theorem dX12_isFigure_17 : decode cX12_isFigure 17 = .ok (.iload_n 2, 1) := by decide +kernel
theorem dX12_isFigure_18 : decode cX12_isFigure 18 = .ok (.iload_n 3, 1) := by decide +kernel
theorem dX12_isFigure_19 : decode cX12_isFigure 19 = .ok (.invokestatic 68, 3) := by decide +kernel
theorem dX12_isFigure_22 : decode cX12_isFigure 22 = .ok (.ifCond .eq 7, 3) := by decide +kernel
theorem dX12_isFigure_25 : decode cX12_isFigure 25 = .ok (.iconst 1, 1) := by decide +kernel
theorem dX12_isFigure_26 : decode cX12_isFigure 26 = .ok (.goto 4, 3) := by decide +kernel
theorem dX12_isFigure_29 : decode cX12_isFigure 29 = .ok (.iconst 0, 1) := by decide +kernel
theorem dX12_isFigure_30 : decode cX12_isFigure 30 = .ok (.ireturn, 1) := by decide +kernel
set_option maxRecDepth 20000 in
theorem ggX12_read_X12_kindBy : GoodIn wsX12_read wsX12_kindBy := goodIn_r _ [8] (by decide +kernel) (by decide +kernel)
set_option maxRecDepth 20000 in
theorem gX12_read_X12_kindBy : GoodIn wsX12_read (va_wsS RX12 83 yX12_kindBy wsX12_kindBy) := goodIn_app (goodIn_of _ (by decide +kernel)) ggX12_read_X12_kindBy
set_option maxRecDepth 20000 in
theorem ggX12_read_X12_isFigure : GoodIn wsX12_read wsX12_isFigure := goodIn_r _ [12, 3, 4, 13, 14, 7, 15, 16, 17, 18, 19, 20, 21, 22, 23, 24, 25, 26, 27, 28, 29, 30, 31, 32, 33, 34, 35, 36, 37, 38, 39, 40, 41, 42, 43, 44, 45, 46, 47, 48, 49, 50, 51, 52] (by decide +kernel) (by decide +kernel)
set_option maxRecDepth 20000 in
theorem gX12_read_X12_isFigure : GoodIn wsX12_read (wsV RX12 87 RX12 yX12_isFigure wsX12_isFigure) := goodIn_app (goodIn_of _ (by decide +kernel)) ggX12_read_X12_isFigure
theorem dX12_read_0 : decode cX12_read 0 = .ok (.aload_n 0, 1) := by decide +kernel
theorem dX12_read_1 : decode cX12_read 1 = .ok (.iconst 0, 1) := by decide +kernel
theorem dX12_read_2 : decode cX12_read 2 = .ok (.putfield 76, 3) := by decide +kernel
theorem dX12_read_5 : decode cX12_read 5 = .ok (.aload_n 0, 1) := by decide +kernel
theorem dX12_read_6 : decode cX12_read 6 = .ok (.iconst 0, 1) := by decide +kernel
theorem dX12_read_7 : decode cX12_read 7 = .ok (.putfield 80, 3) := by decide +kernel
theorem dX12_read_10 : decode cX12_read 10 = .ok (.iconst 0, 1) := by decide +kernel
theorem dX12_read_11 : decode cX12_read 11 = .ok (.istore_n 1, 1) := by decide +kernel
theorem dX12_read_12 : decode cX12_read 12 = .ok (.aload_n 0, 1) := by decide +kernel
theorem dX12_read_13 : decode cX12_read 13 = .ok (.getfield 80, 3) := by decide +kernel
theorem dX12_read_16 : decode cX12_read 16 = .ok (.iconst 5, 1) := by decide +kernel
theorem dX12_read_17 : decode cX12_read 17 = .ok (.if_icmp .ge 171, 3) := by decide +kernel
theorem dX12_read_20 : decode cX12_read 20 = .ok (.iload_n 1, 1) := by decide +kernel
theorem dX12_read_21 : decode cX12_read 21 = .ok (.aload_n 0, 1) := by decide +kernel
theorem dX12_read_22 : decode cX12_read 22 = .ok (.getfield 72, 3) := by decide +kernel
theorem dX12_read_25 : decode cX12_read 25 = .ok (.if_icmp .eq 16, 3) := by decide +kernel
theorem dX12_read_28 : decode cX12_read 28 = .ok (.aload_n 0, 1) := by decide +kernel
theorem dX12_read_29 : decode cX12_read 29 = .ok (.getfield 34, 3) := by decide +kernel
theorem dX12_read_32 : decode cX12_read 32 = .ok (.iload_n 1, 1) := by decide +kernel
theorem dX12_read_33 : decode cX12_read 33 = .ok (.baload, 1) := by decide +kernel
theorem dX12_read_34 : decode cX12_read 34 = .ok (.invokestatic 83, 3) := by decide +kernel
theorem dX12_read_37 : decode cX12_read 37 = .ok (.iconst (-1), 1) := by decide +kernel
theorem dX12_read_38 : decode cX12_read 38 = .ok (.if_icmp .ne 5, 3) := by decide +kernel
theorem dX12_read_41 : decode cX12_read 41 = .ok (.iload_n 1, 1) := by decide +kernel
theorem dX12_read_42 : decode cX12_read 42 = .ok (.ireturn, 1) := by decide +kernel
theorem dX12_read_43 : decode cX12_read 43 = .ok (.aload_n 0, 1) := by decide +kernel
theorem dX12_read_44 : decode cX12_read 44 = .ok (.iload_n 1, 1) := by decide +kernel
theorem dX12_read_45 : decode cX12_read 45 = .ok (.iconst 1, 1) := by decide +kernel
theorem dX12_read_46 : decode cX12_read 46 = .ok (.iadd, 1) := by decide +kernel
theorem dX12_read_47 : decode cX12_read 47 = .ok (.iconst 0, 1) := by decide +kernel
theorem dX12_read_48 : decode cX12_read 48 = .ok (.bipush 9, 2) := by decide +kernel
theorem dX12_read_50 : decode cX12_read 50 = .ok (.invokevirtual 87, 3) := by decide +kernel
theorem dX12_read_53 : decode cX12_read 53 = .ok (.ifCond .ne 7, 3) := by decide +kernel
theorem dX12_read_56 : decode cX12_read 56 = .ok (.iload_n 1, 1) := by decide +kernel
theorem dX12_read_57 : decode cX12_read 57 = .ok (.iconst 1, 1) := by decide +kernel
theorem dX12_read_58 : decode cX12_read 58 = .ok (.iadd, 1) := by decide +kernel
theorem dX12_read_59 : decode cX12_read 59 = .ok (.ireturn, 1) := by decide +kernel
theorem dX12_read_60 : decode cX12_read 60 = .ok (.aload_n 0, 1) := by decide +kernel
theorem dX12_read_61 : decode cX12_read 61 = .ok (.dup, 1) := by decide +kernel
theorem dX12_read_62 : decode cX12_read 62 = .ok (.getfield 80, 3) := by decide +kernel
theorem dX12_read_65 : decode cX12_read 65 = .ok (.iconst 1, 1) := by decide +kernel
theorem dX12_read_66 : decode cX12_read 66 = .ok (.iadd, 1) := by decide +kernel
theorem dX12_read_67 : decode cX12_read 67 = .ok (.putfield 80, 3) := by decide +kernel
theorem dX12_read_70 : decode cX12_read 70 = .ok (.iinc 1 2, 3) := by decide +kernel
theorem dX12_read_73 : decode cX12_read 73 = .ok (.iload_n 1, 1) := by decide +kernel
theorem dX12_read_74 : decode cX12_read 74 = .ok (.aload_n 0, 1) := by decide +kernel
theorem dX12_read_75 : decode cX12_read 75 = .ok (.getfield 72, 3) := by decide +kernel
theorem dX12_read_78 : decode cX12_read 78 = .ok (.if_icmp .ge 75, 3) := by decide +kernel
theorem dX12_read_81 : decode cX12_read 81 = .ok (.aload_n 0, 1) := by decide +kernel
theorem dX12_read_82 : decode cX12_read 82 = .ok (.getfield 34, 3) := by decide +kernel
theorem dX12_read_85 : decode cX12_read 85 = .ok (.iload_n 1, 1) := by decide +kernel
theorem dX12_read_86 : decode cX12_read 86 = .ok (.baload, 1) := by decide +kernel
theorem dX12_read_87 : decode cX12_read 87 = .ok (.bipush 59, 2) := by decide +kernel
theorem dX12_read_89 : decode cX12_read 89 = .ok (.if_icmp .ne 64, 3) := by decide +kernel
theorem dX12_read_92 : decode cX12_read 92 = .ok (.aload_n 0, 1) := by decide +kernel
theorem dX12_read_93 : decode cX12_read 93 = .ok (.getfield 80, 3) := by decide +kernel
theorem dX12_read_96 : decode cX12_read 96 = .ok (.iconst 1, 1) := by decide +kernel
theorem dX12_read_97 : decode cX12_read 97 = .ok (.if_icmp .le 56, 3) := by decide +kernel
theorem dX12_read_100 : decode cX12_read 100 = .ok (.aload_n 0, 1) := by decide +kernel
theorem dX12_read_101 : decode cX12_read 101 = .ok (.aload_n 0, 1) := by decide +kernel
theorem dX12_read_102 : decode cX12_read 102 = .ok (.iload_n 1, 1) := by decide +kernel
theorem dX12_read_103 : decode cX12_read 103 = .ok (.iconst 1, 1) := by decide +kernel
theorem dX12_read_104 : decode cX12_read 104 = .ok (.iadd, 1) := by decide +kernel
theorem dX12_read_105 : decode cX12_read 105 = .ok (.iconst 1, 1) := by decide +kernel
theorem dX12_read_106 : decode cX12_read 106 = .ok (.iconst 5, 1) := by decide +kernel
theorem dX12_read_107 : decode cX12_read 107 = .ok (.invokevirtual 87, 3) := by decide +kernel
theorem dX12_read_110 : decode cX12_read 110 = .ok (.ifCond .eq 17, 3) := by decide +kernel
theorem dX12_read_113 : decode cX12_read 113 = .ok (.iload_n 1, 1) := by decide +kernel
theorem dX12_read_114 : decode cX12_read 114 = .ok (.iconst 2, 1) := by decide +kernel
theorem dX12_read_115 : decode cX12_read 115 = .ok (.iadd, 1) := by decide +kernel
theorem dX12_read_116 : decode cX12_read 116 = .ok (.aload_n 0, 1) := by decide +kernel
theorem dX12_read_117 : decode cX12_read 117 = .ok (.getfield 72, 3) := by decide +kernel
theorem dX12_read_120 : decode cX12_read 120 = .ok (.if_icmp .ne 7, 3) := by decide +kernel
theorem dX12_read_123 : decode cX12_read 123 = .ok (.iconst 1, 1) := by decide +kernel
theorem dX12_read_124 : decode cX12_read 124 = .ok (.goto 4, 3) := by decide +kernel
theorem dX12_read_127 : decode cX12_read 127 = .ok (.iconst 0, 1) := by decide +kernel
theorem dX12_read_128 : decode cX12_read 128 = .ok (.putfield 76, 3) := by decide +kernel
theorem dX12_read_131 : decode cX12_read 131 = .ok (.aload_n 0, 1) := by decide +kernel
theorem dX12_read_132 : decode cX12_read 132 = .ok (.iload_n 1, 1) := by decide +kernel
theorem dX12_read_133 : decode cX12_read 133 = .ok (.iconst 1, 1) := by decide +kernel
theorem dX12_read_134 : decode cX12_read 134 = .ok (.iadd, 1) := by decide +kernel
theorem dX12_read_135 : decode cX12_read 135 = .ok (.iconst 1, 1) := by decide +kernel
theorem dX12_read_136 : decode cX12_read 136 = .ok (.iconst 5, 1) := by decide +kernel
theorem dX12_read_137 : decode cX12_read 137 = .ok (.invokevirtual 87, 3) := by decide +kernel
theorem dX12_read_140 : decode cX12_read 140 = .ok (.ifCond .eq 9, 3) := by decide +kernel
theorem dX12_read_143 : decode cX12_read 143 = .ok (.iload_n 1, 1) := by decide +kernel
theorem dX12_read_144 : decode cX12_read 144 = .ok (.iconst 2, 1) := by decide +kernel
theorem dX12_read_145 : decode cX12_read 145 = .ok (.iadd, 1) := by decide +kernel
theorem dX12_read_146 : decode cX12_read 146 = .ok (.goto 6, 3) := by decide +kernel
theorem dX12_read_149 : decode cX12_read 149 = .ok (.iload_n 1, 1) := by decide +kernel
theorem dX12_read_150 : decode cX12_read 150 = .ok (.iconst 1, 1) := by decide +kernel
theorem dX12_read_151 : decode cX12_read 151 = .ok (.iadd, 1) := by decide +kernel
theorem dX12_read_152 : decode cX12_read 152 = .ok (.ireturn, 1) := by decide +kernel
theorem dX12_read_153 : decode cX12_read 153 = .ok (.iload_n 1, 1) := by decide +kernel
theorem dX12_read_154 : decode cX12_read 154 = .ok (.aload_n 0, 1) := by decide +kernel
theorem dX12_read_155 : decode cX12_read 155 = .ok (.getfield 72, 3) := by decide +kernel
theorem dX12_read_158 : decode cX12_read 158 = .ok (.if_icmp .eq 22, 3) := by decide +kernel
theorem dX12_read_161 : decode cX12_read 161 = .ok (.aload_n 0, 1) := by decide +kernel
theorem dX12_read_162 : decode cX12_read 162 = .ok (.getfield 80, 3) := by decide +kernel
theorem dX12_read_165 : decode cX12_read 165 = .ok (.iconst 5, 1) := by decide +kernel
theorem dX12_read_166 : decode cX12_read 166 = .ok (.if_icmp .eq 14, 3) := by decide +kernel
theorem dX12_read_169 : decode cX12_read 169 = .ok (.aload_n 0, 1) := by decide +kernel
theorem dX12_read_170 : decode cX12_read 170 = .ok (.getfield 34, 3) := by decide +kernel
theorem dX12_read_173 : decode cX12_read 173 = .ok (.iload_n 1, 1) := by decide +kernel
theorem dX12_read_174 : decode cX12_read 174 = .ok (.baload, 1) := by decide +kernel
theorem dX12_read_175 : decode cX12_read 175 = .ok (.bipush 44, 2) := by decide +kernel
theorem dX12_read_177 : decode cX12_read 177 = .ok (.if_icmp .eq 5, 3) := by decide +kernel
theorem dX12_read_180 : decode cX12_read 180 = .ok (.iload_n 1, 1) := by decide +kernel
theorem dX12_read_181 : decode cX12_read 181 = .ok (.ireturn, 1) := by decide +kernel
theorem dX12_read_182 : decode cX12_read 182 = .ok (.iinc 1 1, 3) := by decide +kernel
theorem dX12_read_185 : decode cX12_read 185 = .ok (.goto (-173), 3) := by decide +kernel
theorem dX12_read_188 : decode cX12_read 188 = .ok (.iload_n 1, 1) := by decide +kernel
theorem dX12_read_189 : decode cX12_read 189 = .ok (.ireturn, 1) := by decide +kernel
set_option maxRecDepth 20000 in
theorem ggX12_fault_X12_read : GoodIn wsX12_fault wsX12_read := goodIn_r _ [5, 6, 7, 8, 9, 10, 11, 4, 12, 13, 14, 15, 16, 17, 18, 19, 20, 21, 22, 23, 24, 25, 26, 27, 28, 29, 30, 31, 32, 33, 34, 35, 36, 37, 38, 39, 40, 41, 42, 43, 44, 45, 46, 47, 48, 49, 50, 51, 52, 53, 54, 55, 56] (by decide +kernel) (by decide +kernel)
set_option maxRecDepth 20000 in
theorem gX12_fault_X12_read : GoodIn wsX12_fault (wsV RX12 90 RX12 yX12_read wsX12_read) := goodIn_app (goodIn_of _ (by decide +kernel)) ggX12_fault_X12_read
theorem dX12_fault_0 : decode cX12_fault 0 = .ok (.aload_n 0, 1) := by decide +kernel
theorem dX12_fault_1 : decode cX12_fault 1 = .ok (.invokevirtual 90, 3) := by decide +kernel
theorem dX12_fault_4 : decode cX12_fault 4 = .ok (.ireturn, 1) := by decide +kernel
set_option maxRecDepth 20000 in
theorem ggX12_town_X12_read : GoodIn wsX12_town wsX12_read := goodIn_r _ [18, 1, 2, 13, 4, 19, 20, 17, 21, 22, 23, 24, 25, 26, 27, 28, 29, 30, 31, 32, 33, 34, 35, 36, 37, 38, 39, 40, 41, 42, 43, 44, 45, 46, 47, 48, 49, 50, 51, 52, 53, 54, 55, 56, 57, 58, 59, 60, 61, 62, 63, 64, 65] (by decide +kernel) (by decide +kernel)
set_option maxRecDepth 20000 in
theorem gX12_town_X12_read : GoodIn wsX12_town (wsV RX12 90 RX12 yX12_read wsX12_read) := goodIn_app (goodIn_of _ (by decide +kernel)) ggX12_town_X12_read
set_option maxRecDepth 20000 in
theorem ggX12_town_X12_kindBy : GoodIn wsX12_town wsX12_kindBy := goodIn_r _ [21] (by decide +kernel) (by decide +kernel)
set_option maxRecDepth 20000 in
theorem gX12_town_X12_kindBy : GoodIn wsX12_town (va_wsS RX12 83 yX12_kindBy wsX12_kindBy) := goodIn_app (goodIn_of _ (by decide +kernel)) ggX12_town_X12_kindBy
theorem dX12_town_0 : decode cX12_town 0 = .ok (.aload_n 0, 1) := by decide +kernel
theorem dX12_town_1 : decode cX12_town 1 = .ok (.invokevirtual 90, 3) := by decide +kernel
theorem dX12_town_4 : decode cX12_town 4 = .ok (.istore_n 1, 1) := by decide +kernel
theorem dX12_town_5 : decode cX12_town 5 = .ok (.aload_n 0, 1) := by decide +kernel
theorem dX12_town_6 : decode cX12_town 6 = .ok (.getfield 76, 3) := by decide +kernel
theorem dX12_town_9 : decode cX12_town 9 = .ok (.ifCond .ne 6, 3) := by decide +kernel
theorem dX12_town_12 : decode cX12_town 12 = .ok (.bipush (-103), 2) := by decide +kernel
theorem dX12_town_14 : decode cX12_town 14 = .ok (.ireturn, 1) := by decide +kernel
theorem dX12_town_15 : decode cX12_town 15 = .ok (.aload_n 0, 1) := by decide +kernel
theorem dX12_town_16 : decode cX12_town 16 = .ok (.aload_n 0, 1) := by decide +kernel
theorem dX12_town_17 : decode cX12_town 17 = .ok (.getfield 80, 3) := by decide +kernel
theorem dX12_town_20 : decode cX12_town 20 = .ok (.putfield 94, 3) := by decide +kernel
theorem dX12_town_23 : decode cX12_town 23 = .ok (.aload_n 0, 1) := by decide +kernel
theorem dX12_town_24 : decode cX12_town 24 = .ok (.aload_n 0, 1) := by decide +kernel
theorem dX12_town_25 : decode cX12_town 25 = .ok (.getfield 34, 3) := by decide +kernel
theorem dX12_town_28 : decode cX12_town 28 = .ok (.iload_n 1, 1) := by decide +kernel
theorem dX12_town_29 : decode cX12_town 29 = .ok (.iconst 1, 1) := by decide +kernel
theorem dX12_town_30 : decode cX12_town 30 = .ok (.isub, 1) := by decide +kernel
theorem dX12_town_31 : decode cX12_town 31 = .ok (.baload, 1) := by decide +kernel
theorem dX12_town_32 : decode cX12_town 32 = .ok (.bipush 48, 2) := by decide +kernel
theorem dX12_town_34 : decode cX12_town 34 = .ok (.isub, 1) := by decide +kernel
theorem dX12_town_35 : decode cX12_town 35 = .ok (.putfield 97, 3) := by decide +kernel
theorem dX12_town_38 : decode cX12_town 38 = .ok (.iconst 0, 1) := by decide +kernel
theorem dX12_town_39 : decode cX12_town 39 = .ok (.istore_n 2, 1) := by decide +kernel
theorem dX12_town_40 : decode cX12_town 40 = .ok (.iload_n 2, 1) := by decide +kernel
theorem dX12_town_41 : decode cX12_town 41 = .ok (.aload_n 0, 1) := by decide +kernel
theorem dX12_town_42 : decode cX12_town 42 = .ok (.getfield 94, 3) := by decide +kernel
theorem dX12_town_45 : decode cX12_town 45 = .ok (.if_icmp .ge 62, 3) := by decide +kernel
theorem dX12_town_48 : decode cX12_town 48 = .ok (.aload_n 0, 1) := by decide +kernel
theorem dX12_town_49 : decode cX12_town 49 = .ok (.getfield 7, 3) := by decide +kernel
theorem dX12_town_52 : decode cX12_town 52 = .ok (.iload_n 2, 1) := by decide +kernel
theorem dX12_town_53 : decode cX12_town 53 = .ok (.aload_n 0, 1) := by decide +kernel
theorem dX12_town_54 : decode cX12_town 54 = .ok (.getfield 34, 3) := by decide +kernel
theorem dX12_town_57 : decode cX12_town 57 = .ok (.iconst 3, 1) := by decide +kernel
theorem dX12_town_58 : decode cX12_town 58 = .ok (.iload_n 2, 1) := by decide +kernel
theorem dX12_town_59 : decode cX12_town 59 = .ok (.imul, 1) := by decide +kernel
theorem dX12_town_60 : decode cX12_town 60 = .ok (.baload, 1) := by decide +kernel
theorem dX12_town_61 : decode cX12_town 61 = .ok (.invokestatic 83, 3) := by decide +kernel
theorem dX12_town_64 : decode cX12_town 64 = .ok (.iastore, 1) := by decide +kernel
theorem dX12_town_65 : decode cX12_town 65 = .ok (.aload_n 0, 1) := by decide +kernel
theorem dX12_town_66 : decode cX12_town 66 = .ok (.getfield 13, 3) := by decide +kernel
theorem dX12_town_69 : decode cX12_town 69 = .ok (.iload_n 2, 1) := by decide +kernel
theorem dX12_town_70 : decode cX12_town 70 = .ok (.aload_n 0, 1) := by decide +kernel
theorem dX12_town_71 : decode cX12_town 71 = .ok (.getfield 34, 3) := by decide +kernel
theorem dX12_town_74 : decode cX12_town 74 = .ok (.iconst 3, 1) := by decide +kernel
theorem dX12_town_75 : decode cX12_town 75 = .ok (.iload_n 2, 1) := by decide +kernel
theorem dX12_town_76 : decode cX12_town 76 = .ok (.imul, 1) := by decide +kernel
theorem dX12_town_77 : decode cX12_town 77 = .ok (.iconst 1, 1) := by decide +kernel
theorem dX12_town_78 : decode cX12_town 78 = .ok (.iadd, 1) := by decide +kernel
theorem dX12_town_79 : decode cX12_town 79 = .ok (.baload, 1) := by decide +kernel
theorem dX12_town_80 : decode cX12_town 80 = .ok (.bipush 48, 2) := by decide +kernel
theorem dX12_town_82 : decode cX12_town 82 = .ok (.isub, 1) := by decide +kernel
theorem dX12_town_83 : decode cX12_town 83 = .ok (.iastore, 1) := by decide +kernel
theorem dX12_town_84 : decode cX12_town 84 = .ok (.aload_n 0, 1) := by decide +kernel
theorem dX12_town_85 : decode cX12_town 85 = .ok (.getfield 16, 3) := by decide +kernel
theorem dX12_town_88 : decode cX12_town 88 = .ok (.bipush 41, 2) := by decide +kernel
theorem dX12_town_90 : decode cX12_town 90 = .ok (.iload_n 2, 1) := by decide +kernel
theorem dX12_town_91 : decode cX12_town 91 = .ok (.imul, 1) := by decide +kernel
theorem dX12_town_92 : decode cX12_town 92 = .ok (.iload_n 2, 1) := by decide +kernel
theorem dX12_town_93 : decode cX12_town 93 = .ok (.iastore, 1) := by decide +kernel
theorem dX12_town_94 : decode cX12_town 94 = .ok (.aload_n 0, 1) := by decide +kernel
theorem dX12_town_95 : decode cX12_town 95 = .ok (.getfield 19, 3) := by decide +kernel
theorem dX12_town_98 : decode cX12_town 98 = .ok (.iload_n 2, 1) := by decide +kernel
theorem dX12_town_99 : decode cX12_town 99 = .ok (.iconst 0, 1) := by decide +kernel
theorem dX12_town_100 : decode cX12_town 100 = .ok (.iastore, 1) := by decide +kernel
theorem dX12_town_101 : decode cX12_town 101 = .ok (.iinc 2 1, 3) := by decide +kernel
theorem dX12_town_104 : decode cX12_town 104 = .ok (.goto (-64), 3) := by decide +kernel
theorem dX12_town_107 : decode cX12_town 107 = .ok (.aload_n 0, 1) := by decide +kernel
theorem dX12_town_108 : decode cX12_town 108 = .ok (.dup, 1) := by decide +kernel
theorem dX12_town_109 : decode cX12_town 109 = .ok (.getfield 100, 3) := by decide +kernel
theorem dX12_town_112 : decode cX12_town 112 = .ok (.iconst 1, 1) := by decide +kernel
theorem dX12_town_113 : decode cX12_town 113 = .ok (.iadd, 1) := by decide +kernel
theorem dX12_town_114 : decode cX12_town 114 = .ok (.putfield 100, 3) := by decide +kernel
theorem dX12_town_117 : decode cX12_town 117 = .ok (.aload_n 0, 1) := by decide +kernel
theorem dX12_town_118 : decode cX12_town 118 = .ok (.iconst 0, 1) := by decide +kernel
theorem dX12_town_119 : decode cX12_town 119 = .ok (.putfield 103, 3) := by decide +kernel
theorem dX12_town_122 : decode cX12_town 122 = .ok (.aload_n 0, 1) := by decide +kernel
theorem dX12_town_123 : decode cX12_town 123 = .ok (.iconst 0, 1) := by decide +kernel
theorem dX12_town_124 : decode cX12_town 124 = .ok (.putfield 106, 3) := by decide +kernel
theorem dX12_town_127 : decode cX12_town 127 = .ok (.aload_n 0, 1) := by decide +kernel
theorem dX12_town_128 : decode cX12_town 128 = .ok (.iconst 0, 1) := by decide +kernel
theorem dX12_town_129 : decode cX12_town 129 = .ok (.putfield 72, 3) := by decide +kernel
theorem dX12_town_132 : decode cX12_town 132 = .ok (.aload_n 0, 1) := by decide +kernel
theorem dX12_town_133 : decode cX12_town 133 = .ok (.getfield 94, 3) := by decide +kernel
theorem dX12_town_136 : decode cX12_town 136 = .ok (.ireturn, 1) := by decide +kernel
set_option maxRecDepth 20000 in
theorem ggX12_isOne_X12_within : GoodIn wsX12_isOne wsX12_within := goodIn_r _ [5] (by decide +kernel) (by decide +kernel)
set_option maxRecDepth 20000 in
theorem gX12_isOne_X12_within : GoodIn wsX12_isOne (va_wsS RX12 68 yX12_within wsX12_within) := goodIn_app (goodIn_of _ (by decide +kernel)) ggX12_isOne_X12_within
theorem dX12_isOne_0 : decode cX12_isOne 0 = .ok (.iload_n 1, 1) := by decide +kernel
theorem dX12_isOne_1 : decode cX12_isOne 1 = .ok (.iconst 0, 1) := by decide +kernel
theorem dX12_isOne_2 : decode cX12_isOne 2 = .ok (.aload_n 0, 1) := by decide +kernel
theorem dX12_isOne_3 : decode cX12_isOne 3 = .ok (.getfield 94, 3) := by decide +kernel
theorem dX12_isOne_6 : decode cX12_isOne 6 = .ok (.iconst 1, 1) := by decide +kernel
theorem dX12_isOne_7 : decode cX12_isOne 7 = .ok (.isub, 1) := by decide +kernel
theorem dX12_isOne_8 : decode cX12_isOne 8 = .ok (.invokestatic 68, 3) := by decide +kernel
theorem dX12_isOne_11 : decode cX12_isOne 11 = .ok (.ireturn, 1) := by decide +kernel
theorem dX12_isChurch_0 : decode cX12_isChurch 0 = .ok (.aload_n 0, 1) := by decide +kernel
theorem dX12_isChurch_1 : decode cX12_isChurch 1 = .ok (.getfield 7, 3) := by decide +kernel
theorem dX12_isChurch_4 : decode cX12_isChurch 4 = .ok (.iload_n 1, 1) := by decide +kernel
theorem dX12_isChurch_5 : decode cX12_isChurch 5 = .ok (.iaload, 1) := by decide +kernel
theorem dX12_isChurch_6 : decode cX12_isChurch 6 = .ok (.iconst 1, 1) := by decide +kernel
theorem dX12_isChurch_7 : decode cX12_isChurch 7 = .ok (.if_icmp .eq 13, 3) := by decide +kernel
theorem dX12_isChurch_10 : decode cX12_isChurch 10 = .ok (.aload_n 0, 1) := by decide +kernel
theorem dX12_isChurch_11 : decode cX12_isChurch 11 = .ok (.getfield 7, 3) := by decide +kernel
theorem dX12_isChurch_14 : decode cX12_isChurch 14 = .ok (.iload_n 1, 1) := by decide +kernel
theorem dX12_isChurch_15 : decode cX12_isChurch 15 = .ok (.iaload, 1) := by decide +kernel
theorem dX12_isChurch_16 : decode cX12_isChurch 16 = .ok (.iconst 4, 1) := by decide +kernel
theorem dX12_isChurch_17 : decode cX12_isChurch 17 = .ok (.if_icmp .ne 7, 3) := by decide +kernel
theorem dX12_isChurch_20 : decode cX12_isChurch 20 = .ok (.iconst 1, 1) := by decide +kernel
theorem dX12_isChurch_21 : decode cX12_isChurch 21 = .ok (.goto 4, 3) := by decide +kernel
theorem dX12_isChurch_24 : decode cX12_isChurch 24 = .ok (.iconst 0, 1) := by decide +kernel
theorem dX12_isChurch_25 : decode cX12_isChurch 25 = .ok (.ireturn, 1) := by decide +kernel
theorem dX12_worth_0 : decode cX12_worth 0 = .ok (.aload_n 0, 1) := by decide +kernel
theorem dX12_worth_1 : decode cX12_worth 1 = .ok (.getfield 7, 3) := by decide +kernel
theorem dX12_worth_4 : decode cX12_worth 4 = .ok (.iload_n 1, 1) := by decide +kernel
theorem dX12_worth_5 : decode cX12_worth 5 = .ok (.iaload, 1) := by decide +kernel
theorem dX12_worth_6 : decode cX12_worth 6 = .ok (.iconst 4, 1) := by decide +kernel
theorem dX12_worth_7 : decode cX12_worth 7 = .ok (.if_icmp .ne 14, 3) := by decide +kernel
theorem dX12_worth_10 : decode cX12_worth 10 = .ok (.iconst 2, 1) := by decide +kernel
theorem dX12_worth_11 : decode cX12_worth 11 = .ok (.aload_n 0, 1) := by decide +kernel
theorem dX12_worth_12 : decode cX12_worth 12 = .ok (.getfield 13, 3) := by decide +kernel
theorem dX12_worth_15 : decode cX12_worth 15 = .ok (.iload_n 1, 1) := by decide +kernel
theorem dX12_worth_16 : decode cX12_worth 16 = .ok (.iaload, 1) := by decide +kernel
theorem dX12_worth_17 : decode cX12_worth 17 = .ok (.imul, 1) := by decide +kernel
theorem dX12_worth_18 : decode cX12_worth 18 = .ok (.goto 9, 3) := by decide +kernel
theorem dX12_worth_21 : decode cX12_worth 21 = .ok (.aload_n 0, 1) := by decide +kernel
theorem dX12_worth_22 : decode cX12_worth 22 = .ok (.getfield 13, 3) := by decide +kernel
theorem dX12_worth_25 : decode cX12_worth 25 = .ok (.iload_n 1, 1) := by decide +kernel
theorem dX12_worth_26 : decode cX12_worth 26 = .ok (.iaload, 1) := by decide +kernel
theorem dX12_worth_27 : decode cX12_worth 27 = .ok (.ireturn, 1) := by decide +kernel
set_option maxRecDepth 20000 in
theorem ggX12_think_X12_isIn : GoodIn wsX12_think wsX12_isIn := goodIn_r _ [9] (by decide +kernel) (by decide +kernel)
set_option maxRecDepth 20000 in
theorem gX12_think_X12_isIn : GoodIn wsX12_think (va_wsS RX12 109 yX12_isIn wsX12_isIn) := goodIn_app (goodIn_of _ (by decide +kernel)) ggX12_think_X12_isIn
theorem dX12_think_0 : decode cX12_think 0 = .ok (.aload_n 0, 1) := by decide +kernel
theorem dX12_think_1 : decode cX12_think 1 = .ok (.getfield 41, 3) := by decide +kernel
theorem dX12_think_4 : decode cX12_think 4 = .ok (.iload_n 1, 1) := by decide +kernel
theorem dX12_think_5 : decode cX12_think 5 = .ok (.iconst 0, 1) := by decide +kernel
theorem dX12_think_6 : decode cX12_think 6 = .ok (.iastore, 1) := by decide +kernel
theorem dX12_think_7 : decode cX12_think 7 = .ok (.aload_n 0, 1) := by decide +kernel
theorem dX12_think_8 : decode cX12_think 8 = .ok (.getfield 44, 3) := by decide +kernel
theorem dX12_think_11 : decode cX12_think 11 = .ok (.iload_n 1, 1) := by decide +kernel
theorem dX12_think_12 : decode cX12_think 12 = .ok (.aload_n 0, 1) := by decide +kernel
theorem dX12_think_13 : decode cX12_think 13 = .ok (.getfield 19, 3) := by decide +kernel
theorem dX12_think_16 : decode cX12_think 16 = .ok (.iload_n 1, 1) := by decide +kernel
theorem dX12_think_17 : decode cX12_think 17 = .ok (.iaload, 1) := by decide +kernel
theorem dX12_think_18 : decode cX12_think 18 = .ok (.iastore, 1) := by decide +kernel
theorem dX12_think_19 : decode cX12_think 19 = .ok (.iconst 0, 1) := by decide +kernel
theorem dX12_think_20 : decode cX12_think 20 = .ok (.istore_n 2, 1) := by decide +kernel
theorem dX12_think_21 : decode cX12_think 21 = .ok (.aload_n 0, 1) := by decide +kernel
theorem dX12_think_22 : decode cX12_think 22 = .ok (.getfield 19, 3) := by decide +kernel
theorem dX12_think_25 : decode cX12_think 25 = .ok (.iload_n 1, 1) := by decide +kernel
theorem dX12_think_26 : decode cX12_think 26 = .ok (.iaload, 1) := by decide +kernel
theorem dX12_think_27 : decode cX12_think 27 = .ok (.istore_n 3, 1) := by decide +kernel
theorem dX12_think_28 : decode cX12_think 28 = .ok (.iload_n 3, 1) := by decide +kernel
theorem dX12_think_29 : decode cX12_think 29 = .ok (.ifCond .lt 65, 3) := by decide +kernel
theorem dX12_think_32 : decode cX12_think 32 = .ok (.aload_n 0, 1) := by decide +kernel
theorem dX12_think_33 : decode cX12_think 33 = .ok (.getfield 16, 3) := by decide +kernel
theorem dX12_think_36 : decode cX12_think 36 = .ok (.bipush 41, 2) := by decide +kernel
theorem dX12_think_38 : decode cX12_think 38 = .ok (.iload_n 1, 1) := by decide +kernel
theorem dX12_think_39 : decode cX12_think 39 = .ok (.imul, 1) := by decide +kernel
theorem dX12_think_40 : decode cX12_think 40 = .ok (.iload_n 3, 1) := by decide +kernel
theorem dX12_think_41 : decode cX12_think 41 = .ok (.iadd, 1) := by decide +kernel
theorem dX12_think_42 : decode cX12_think 42 = .ok (.iaload, 1) := by decide +kernel
theorem dX12_think_43 : decode cX12_think 43 = .ok (.istore 4, 2) := by decide +kernel
theorem dX12_think_45 : decode cX12_think 45 = .ok (.iload_n 2, 1) := by decide +kernel
theorem dX12_think_46 : decode cX12_think 46 = .ok (.iload 4, 2) := by decide +kernel
theorem dX12_think_48 : decode cX12_think 48 = .ok (.invokestatic 109, 3) := by decide +kernel
theorem dX12_think_51 : decode cX12_think 51 = .ok (.ifCond .ne 30, 3) := by decide +kernel
theorem dX12_think_54 : decode cX12_think 54 = .ok (.aload_n 0, 1) := by decide +kernel
theorem dX12_think_55 : decode cX12_think 55 = .ok (.getfield 38, 3) := by decide +kernel
theorem dX12_think_58 : decode cX12_think 58 = .ok (.iconst 5, 1) := by decide +kernel
theorem dX12_think_59 : decode cX12_think 59 = .ok (.iload_n 1, 1) := by decide +kernel
theorem dX12_think_60 : decode cX12_think 60 = .ok (.imul, 1) := by decide +kernel
theorem dX12_think_61 : decode cX12_think 61 = .ok (.aload_n 0, 1) := by decide +kernel
theorem dX12_think_62 : decode cX12_think 62 = .ok (.getfield 41, 3) := by decide +kernel
theorem dX12_think_65 : decode cX12_think 65 = .ok (.iload_n 1, 1) := by decide +kernel
theorem dX12_think_66 : decode cX12_think 66 = .ok (.iaload, 1) := by decide +kernel
theorem dX12_think_67 : decode cX12_think 67 = .ok (.iadd, 1) := by decide +kernel
theorem dX12_think_68 : decode cX12_think 68 = .ok (.iload 4, 2) := by decide +kernel
theorem dX12_think_70 : decode cX12_think 70 = .ok (.iastore, 1) := by decide +kernel
theorem dX12_think_71 : decode cX12_think 71 = .ok (.aload_n 0, 1) := by decide +kernel
theorem dX12_think_72 : decode cX12_think 72 = .ok (.getfield 41, 3) := by decide +kernel
theorem dX12_think_75 : decode cX12_think 75 = .ok (.iload_n 1, 1) := by decide +kernel
theorem dX12_think_76 : decode cX12_think 76 = .ok (.dup2, 1) := by decide +kernel
theorem dX12_think_77 : decode cX12_think 77 = .ok (.iaload, 1) := by decide +kernel
theorem dX12_think_78 : decode cX12_think 78 = .ok (.iconst 1, 1) := by decide +kernel
theorem dX12_think_79 : decode cX12_think 79 = .ok (.iadd, 1) := by decide +kernel
theorem dX12_think_80 : decode cX12_think 80 = .ok (.iastore, 1) := by decide +kernel
theorem dX12_think_81 : decode cX12_think 81 = .ok (.iload_n 2, 1) := by decide +kernel
theorem dX12_think_82 : decode cX12_think 82 = .ok (.iconst 1, 1) := by decide +kernel
theorem dX12_think_83 : decode cX12_think 83 = .ok (.iload 4, 2) := by decide +kernel
theorem dX12_think_85 : decode cX12_think 85 = .ok (.ishl, 1) := by decide +kernel
theorem dX12_think_86 : decode cX12_think 86 = .ok (.ior, 1) := by decide +kernel
theorem dX12_think_87 : decode cX12_think 87 = .ok (.istore_n 2, 1) := by decide +kernel
theorem dX12_think_88 : decode cX12_think 88 = .ok (.iinc 3 (-1), 3) := by decide +kernel
theorem dX12_think_91 : decode cX12_think 91 = .ok (.goto (-63), 3) := by decide +kernel
theorem dX12_think_94 : decode cX12_think 94 = .ok (.return_, 1) := by decide +kernel
theorem dX12_thinkLent_0 : decode cX12_thinkLent 0 = .ok (.iconst 0, 1) := by decide +kernel
theorem dX12_thinkLent_1 : decode cX12_thinkLent 1 = .ok (.istore_n 3, 1) := by decide +kernel
theorem dX12_thinkLent_2 : decode cX12_thinkLent 2 = .ok (.iload_n 3, 1) := by decide +kernel
theorem dX12_thinkLent_3 : decode cX12_thinkLent 3 = .ok (.aload_n 0, 1) := by decide +kernel
theorem dX12_thinkLent_4 : decode cX12_thinkLent 4 = .ok (.getfield 41, 3) := by decide +kernel
theorem dX12_thinkLent_7 : decode cX12_thinkLent 7 = .ok (.iload_n 1, 1) := by decide +kernel
theorem dX12_thinkLent_8 : decode cX12_thinkLent 8 = .ok (.iaload, 1) := by decide +kernel
theorem dX12_thinkLent_9 : decode cX12_thinkLent 9 = .ok (.if_icmp .ge 23, 3) := by decide +kernel
theorem dX12_thinkLent_12 : decode cX12_thinkLent 12 = .ok (.aload_n 0, 1) := by decide +kernel
theorem dX12_thinkLent_13 : decode cX12_thinkLent 13 = .ok (.getfield 38, 3) := by decide +kernel
theorem dX12_thinkLent_16 : decode cX12_thinkLent 16 = .ok (.iconst 5, 1) := by decide +kernel
theorem dX12_thinkLent_17 : decode cX12_thinkLent 17 = .ok (.iload_n 1, 1) := by decide +kernel
theorem dX12_thinkLent_18 : decode cX12_thinkLent 18 = .ok (.imul, 1) := by decide +kernel
theorem dX12_thinkLent_19 : decode cX12_thinkLent 19 = .ok (.iload_n 3, 1) := by decide +kernel
theorem dX12_thinkLent_20 : decode cX12_thinkLent 20 = .ok (.iadd, 1) := by decide +kernel
theorem dX12_thinkLent_21 : decode cX12_thinkLent 21 = .ok (.iaload, 1) := by decide +kernel
theorem dX12_thinkLent_22 : decode cX12_thinkLent 22 = .ok (.iload_n 2, 1) := by decide +kernel
theorem dX12_thinkLent_23 : decode cX12_thinkLent 23 = .ok (.if_icmp .eq 9, 3) := by decide +kernel
theorem dX12_thinkLent_26 : decode cX12_thinkLent 26 = .ok (.iinc 3 1, 3) := by decide +kernel
theorem dX12_thinkLent_29 : decode cX12_thinkLent 29 = .ok (.goto (-27), 3) := by decide +kernel
theorem dX12_thinkLent_32 : decode cX12_thinkLent 32 = .ok (.aload_n 0, 1) := by decide +kernel
theorem dX12_thinkLent_33 : decode cX12_thinkLent 33 = .ok (.getfield 41, 3) := by decide +kernel
theorem dX12_thinkLent_36 : decode cX12_thinkLent 36 = .ok (.iload_n 1, 1) := by decide +kernel
theorem dX12_thinkLent_37 : decode cX12_thinkLent 37 = .ok (.dup2, 1) := by decide +kernel
theorem dX12_thinkLent_38 : decode cX12_thinkLent 38 = .ok (.iaload, 1) := by decide +kernel
theorem dX12_thinkLent_39 : decode cX12_thinkLent 39 = .ok (.iload_n 3, 1) := by decide +kernel
theorem dX12_thinkLent_40 : decode cX12_thinkLent 40 = .ok (.aload_n 0, 1) := by decide +kernel
theorem dX12_thinkLent_41 : decode cX12_thinkLent 41 = .ok (.getfield 41, 3) := by decide +kernel
theorem dX12_thinkLent_44 : decode cX12_thinkLent 44 = .ok (.iload_n 1, 1) := by decide +kernel
theorem dX12_thinkLent_45 : decode cX12_thinkLent 45 = .ok (.iaload, 1) := by decide +kernel
theorem dX12_thinkLent_46 : decode cX12_thinkLent 46 = .ok (.if_icmp .ne 7, 3) := by decide +kernel
theorem dX12_thinkLent_49 : decode cX12_thinkLent 49 = .ok (.iconst 1, 1) := by decide +kernel
theorem dX12_thinkLent_50 : decode cX12_thinkLent 50 = .ok (.goto 4, 3) := by decide +kernel
theorem dX12_thinkLent_53 : decode cX12_thinkLent 53 = .ok (.iconst 0, 1) := by decide +kernel
theorem dX12_thinkLent_54 : decode cX12_thinkLent 54 = .ok (.iadd, 1) := by decide +kernel
theorem dX12_thinkLent_55 : decode cX12_thinkLent 55 = .ok (.iastore, 1) := by decide +kernel
theorem dX12_thinkLent_56 : decode cX12_thinkLent 56 = .ok (.iload_n 3, 1) := by decide +kernel
theorem dX12_thinkLent_57 : decode cX12_thinkLent 57 = .ok (.istore 4, 2) := by decide +kernel
theorem dX12_thinkLent_59 : decode cX12_thinkLent 59 = .ok (.iload 4, 2) := by decide +kernel
theorem dX12_thinkLent_61 : decode cX12_thinkLent 61 = .ok (.ifCond .le 33, 3) := by decide +kernel
theorem dX12_thinkLent_64 : decode cX12_thinkLent 64 = .ok (.aload_n 0, 1) := by decide +kernel
theorem dX12_thinkLent_65 : decode cX12_thinkLent 65 = .ok (.getfield 38, 3) := by decide +kernel
theorem dX12_thinkLent_68 : decode cX12_thinkLent 68 = .ok (.iconst 5, 1) := by decide +kernel
theorem dX12_thinkLent_69 : decode cX12_thinkLent 69 = .ok (.iload_n 1, 1) := by decide +kernel
theorem dX12_thinkLent_70 : decode cX12_thinkLent 70 = .ok (.imul, 1) := by decide +kernel
theorem dX12_thinkLent_71 : decode cX12_thinkLent 71 = .ok (.iload 4, 2) := by decide +kernel
theorem dX12_thinkLent_73 : decode cX12_thinkLent 73 = .ok (.iadd, 1) := by decide +kernel
theorem dX12_thinkLent_74 : decode cX12_thinkLent 74 = .ok (.aload_n 0, 1) := by decide +kernel
theorem dX12_thinkLent_75 : decode cX12_thinkLent 75 = .ok (.getfield 38, 3) := by decide +kernel
theorem dX12_thinkLent_78 : decode cX12_thinkLent 78 = .ok (.iconst 5, 1) := by decide +kernel
theorem dX12_thinkLent_79 : decode cX12_thinkLent 79 = .ok (.iload_n 1, 1) := by decide +kernel
theorem dX12_thinkLent_80 : decode cX12_thinkLent 80 = .ok (.imul, 1) := by decide +kernel
theorem dX12_thinkLent_81 : decode cX12_thinkLent 81 = .ok (.iload 4, 2) := by decide +kernel
theorem dX12_thinkLent_83 : decode cX12_thinkLent 83 = .ok (.iadd, 1) := by decide +kernel
theorem dX12_thinkLent_84 : decode cX12_thinkLent 84 = .ok (.iconst 1, 1) := by decide +kernel
theorem dX12_thinkLent_85 : decode cX12_thinkLent 85 = .ok (.isub, 1) := by decide +kernel
theorem dX12_thinkLent_86 : decode cX12_thinkLent 86 = .ok (.iaload, 1) := by decide +kernel
theorem dX12_thinkLent_87 : decode cX12_thinkLent 87 = .ok (.iastore, 1) := by decide +kernel
theorem dX12_thinkLent_88 : decode cX12_thinkLent 88 = .ok (.iinc 4 (-1), 3) := by decide +kernel
theorem dX12_thinkLent_91 : decode cX12_thinkLent 91 = .ok (.goto (-32), 3) := by decide +kernel
theorem dX12_thinkLent_94 : decode cX12_thinkLent 94 = .ok (.aload_n 0, 1) := by decide +kernel
theorem dX12_thinkLent_95 : decode cX12_thinkLent 95 = .ok (.getfield 38, 3) := by decide +kernel
theorem dX12_thinkLent_98 : decode cX12_thinkLent 98 = .ok (.iconst 5, 1) := by decide +kernel
theorem dX12_thinkLent_99 : decode cX12_thinkLent 99 = .ok (.iload_n 1, 1) := by decide +kernel
theorem dX12_thinkLent_100 : decode cX12_thinkLent 100 = .ok (.imul, 1) := by decide +kernel
theorem dX12_thinkLent_101 : decode cX12_thinkLent 101 = .ok (.iload_n 2, 1) := by decide +kernel
theorem dX12_thinkLent_102 : decode cX12_thinkLent 102 = .ok (.iastore, 1) := by decide +kernel
theorem dX12_thinkLent_103 : decode cX12_thinkLent 103 = .ok (.aload_n 0, 1) := by decide +kernel
theorem dX12_thinkLent_104 : decode cX12_thinkLent 104 = .ok (.getfield 44, 3) := by decide +kernel
theorem dX12_thinkLent_107 : decode cX12_thinkLent 107 = .ok (.iload_n 1, 1) := by decide +kernel
theorem dX12_thinkLent_108 : decode cX12_thinkLent 108 = .ok (.dup2, 1) := by decide +kernel
theorem dX12_thinkLent_109 : decode cX12_thinkLent 109 = .ok (.iaload, 1) := by decide +kernel
theorem dX12_thinkLent_110 : decode cX12_thinkLent 110 = .ok (.iconst 1, 1) := by decide +kernel
theorem dX12_thinkLent_111 : decode cX12_thinkLent 111 = .ok (.iadd, 1) := by decide +kernel
theorem dX12_thinkLent_112 : decode cX12_thinkLent 112 = .ok (.iastore, 1) := by decide +kernel
theorem dX12_thinkLent_113 : decode cX12_thinkLent 113 = .ok (.return_, 1) := by decide +kernel
set_option maxRecDepth 20000 in
theorem ggX12_mayThink_X12_isChurch : GoodIn wsX12_mayThink wsX12_isChurch := goodIn_r _ [7, 8, 9, 10, 11, 12, 13, 14, 15, 16, 17, 18, 19, 20, 21, 22, 23, 24, 25, 26, 27, 28, 29, 30, 31, 32, 33, 34, 35, 36, 37, 38, 39, 40, 41, 42, 43, 44, 45] (by decide +kernel) (by decide +kernel)
set_option maxRecDepth 20000 in
theorem gX12_mayThink_X12_isChurch : GoodIn wsX12_mayThink (wsV RX12 113 RX12 yX12_isChurch wsX12_isChurch) := goodIn_app (goodIn_of _ (by decide +kernel)) ggX12_mayThink_X12_isChurch
theorem dX12_mayThink_0 : decode cX12_mayThink 0 = .ok (.aload_n 0, 1) := by decide +kernel
theorem dX12_mayThink_1 : decode cX12_mayThink 1 = .ok (.getfield 38, 3) := by decide +kernel
theorem dX12_mayThink_4 : decode cX12_mayThink 4 = .ok (.iconst 5, 1) := by decide +kernel
theorem dX12_mayThink_5 : decode cX12_mayThink 5 = .ok (.iload_n 1, 1) := by decide +kernel
theorem dX12_mayThink_6 : decode cX12_mayThink 6 = .ok (.imul, 1) := by decide +kernel
theorem dX12_mayThink_7 : decode cX12_mayThink 7 = .ok (.iaload, 1) := by decide +kernel
theorem dX12_mayThink_8 : decode cX12_mayThink 8 = .ok (.istore_n 3, 1) := by decide +kernel
theorem dX12_mayThink_9 : decode cX12_mayThink 9 = .ok (.iload_n 3, 1) := by decide +kernel
theorem dX12_mayThink_10 : decode cX12_mayThink 10 = .ok (.iload_n 2, 1) := by decide +kernel
theorem dX12_mayThink_11 : decode cX12_mayThink 11 = .ok (.if_icmp .eq 26, 3) := by decide +kernel
theorem dX12_mayThink_14 : decode cX12_mayThink 14 = .ok (.aload_n 0, 1) := by decide +kernel
theorem dX12_mayThink_15 : decode cX12_mayThink 15 = .ok (.iload_n 3, 1) := by decide +kernel
theorem dX12_mayThink_16 : decode cX12_mayThink 16 = .ok (.invokevirtual 113, 3) := by decide +kernel
theorem dX12_mayThink_19 : decode cX12_mayThink 19 = .ok (.ifCond .ne 18, 3) := by decide +kernel
theorem dX12_mayThink_22 : decode cX12_mayThink 22 = .ok (.aload_n 0, 1) := by decide +kernel
theorem dX12_mayThink_23 : decode cX12_mayThink 23 = .ok (.getfield 44, 3) := by decide +kernel
theorem dX12_mayThink_26 : decode cX12_mayThink 26 = .ok (.iload_n 1, 1) := by decide +kernel
theorem dX12_mayThink_27 : decode cX12_mayThink 27 = .ok (.iaload, 1) := by decide +kernel
theorem dX12_mayThink_28 : decode cX12_mayThink 28 = .ok (.bipush 40, 2) := by decide +kernel
theorem dX12_mayThink_30 : decode cX12_mayThink 30 = .ok (.if_icmp .ge 7, 3) := by decide +kernel
theorem dX12_mayThink_33 : decode cX12_mayThink 33 = .ok (.iconst 1, 1) := by decide +kernel
theorem dX12_mayThink_34 : decode cX12_mayThink 34 = .ok (.goto 4, 3) := by decide +kernel
theorem dX12_mayThink_37 : decode cX12_mayThink 37 = .ok (.iconst 0, 1) := by decide +kernel
theorem dX12_mayThink_38 : decode cX12_mayThink 38 = .ok (.ireturn, 1) := by decide +kernel
theorem dX12_boundThought_0 : decode cX12_boundThought 0 = .ok (.iconst 0, 1) := by decide +kernel
theorem dX12_boundThought_1 : decode cX12_boundThought 1 = .ok (.istore_n 2, 1) := by decide +kernel
theorem dX12_boundThought_2 : decode cX12_boundThought 2 = .ok (.iconst 1, 1) := by decide +kernel
theorem dX12_boundThought_3 : decode cX12_boundThought 3 = .ok (.istore_n 3, 1) := by decide +kernel
theorem dX12_boundThought_4 : decode cX12_boundThought 4 = .ok (.iconst 0, 1) := by decide +kernel
theorem dX12_boundThought_5 : decode cX12_boundThought 5 = .ok (.istore 4, 2) := by decide +kernel
theorem dX12_boundThought_7 : decode cX12_boundThought 7 = .ok (.iload 4, 2) := by decide +kernel
theorem dX12_boundThought_9 : decode cX12_boundThought 9 = .ok (.aload_n 0, 1) := by decide +kernel
theorem dX12_boundThought_10 : decode cX12_boundThought 10 = .ok (.getfield 41, 3) := by decide +kernel
theorem dX12_boundThought_13 : decode cX12_boundThought 13 = .ok (.iload_n 1, 1) := by decide +kernel
theorem dX12_boundThought_14 : decode cX12_boundThought 14 = .ok (.iaload, 1) := by decide +kernel
theorem dX12_boundThought_15 : decode cX12_boundThought 15 = .ok (.if_icmp .ge 74, 3) := by decide +kernel
theorem dX12_boundThought_18 : decode cX12_boundThought 18 = .ok (.iload 4, 2) := by decide +kernel
theorem dX12_boundThought_20 : decode cX12_boundThought 20 = .ok (.aload_n 0, 1) := by decide +kernel
theorem dX12_boundThought_21 : decode cX12_boundThought 21 = .ok (.getfield 97, 3) := by decide +kernel
theorem dX12_boundThought_24 : decode cX12_boundThought 24 = .ok (.if_icmp .ge 65, 3) := by decide +kernel
theorem dX12_boundThought_27 : decode cX12_boundThought 27 = .ok (.iload_n 3, 1) := by decide +kernel
theorem dX12_boundThought_28 : decode cX12_boundThought 28 = .ok (.ifCond .eq 61, 3) := by decide +kernel
theorem dX12_boundThought_31 : decode cX12_boundThought 31 = .ok (.aload_n 0, 1) := by decide +kernel
theorem dX12_boundThought_32 : decode cX12_boundThought 32 = .ok (.getfield 38, 3) := by decide +kernel
theorem dX12_boundThought_35 : decode cX12_boundThought 35 = .ok (.iconst 5, 1) := by decide +kernel
theorem dX12_boundThought_36 : decode cX12_boundThought 36 = .ok (.iload_n 1, 1) := by decide +kernel
theorem dX12_boundThought_37 : decode cX12_boundThought 37 = .ok (.imul, 1) := by decide +kernel
theorem dX12_boundThought_38 : decode cX12_boundThought 38 = .ok (.iload 4, 2) := by decide +kernel
theorem dX12_boundThought_40 : decode cX12_boundThought 40 = .ok (.iadd, 1) := by decide +kernel
theorem dX12_boundThought_41 : decode cX12_boundThought 41 = .ok (.iaload, 1) := by decide +kernel
theorem dX12_boundThought_42 : decode cX12_boundThought 42 = .ok (.istore 5, 2) := by decide +kernel
theorem dX12_boundThought_44 : decode cX12_boundThought 44 = .ok (.iload_n 2, 1) := by decide +kernel
theorem dX12_boundThought_45 : decode cX12_boundThought 45 = .ok (.aload_n 0, 1) := by decide +kernel
theorem dX12_boundThought_46 : decode cX12_boundThought 46 = .ok (.getfield 7, 3) := by decide +kernel
theorem dX12_boundThought_49 : decode cX12_boundThought 49 = .ok (.iload 5, 2) := by decide +kernel
theorem dX12_boundThought_51 : decode cX12_boundThought 51 = .ok (.iaload, 1) := by decide +kernel
theorem dX12_boundThought_52 : decode cX12_boundThought 52 = .ok (.iconst 3, 1) := by decide +kernel
theorem dX12_boundThought_53 : decode cX12_boundThought 53 = .ok (.if_icmp .ne 7, 3) := by decide +kernel
theorem dX12_boundThought_56 : decode cX12_boundThought 56 = .ok (.iconst 0, 1) := by decide +kernel
theorem dX12_boundThought_57 : decode cX12_boundThought 57 = .ok (.goto 7, 3) := by decide +kernel
theorem dX12_boundThought_60 : decode cX12_boundThought 60 = .ok (.iconst 1, 1) := by decide +kernel
theorem dX12_boundThought_61 : decode cX12_boundThought 61 = .ok (.iload 5, 2) := by decide +kernel
theorem dX12_boundThought_63 : decode cX12_boundThought 63 = .ok (.ishl, 1) := by decide +kernel
theorem dX12_boundThought_64 : decode cX12_boundThought 64 = .ok (.ior, 1) := by decide +kernel
theorem dX12_boundThought_65 : decode cX12_boundThought 65 = .ok (.istore_n 2, 1) := by decide +kernel
theorem dX12_boundThought_66 : decode cX12_boundThought 66 = .ok (.aload_n 0, 1) := by decide +kernel
theorem dX12_boundThought_67 : decode cX12_boundThought 67 = .ok (.getfield 7, 3) := by decide +kernel
theorem dX12_boundThought_70 : decode cX12_boundThought 70 = .ok (.iload 5, 2) := by decide +kernel
theorem dX12_boundThought_72 : decode cX12_boundThought 72 = .ok (.iaload, 1) := by decide +kernel
theorem dX12_boundThought_73 : decode cX12_boundThought 73 = .ok (.iconst 2, 1) := by decide +kernel
theorem dX12_boundThought_74 : decode cX12_boundThought 74 = .ok (.if_icmp .eq 7, 3) := by decide +kernel
theorem dX12_boundThought_77 : decode cX12_boundThought 77 = .ok (.iconst 1, 1) := by decide +kernel
theorem dX12_boundThought_78 : decode cX12_boundThought 78 = .ok (.goto 4, 3) := by decide +kernel
theorem dX12_boundThought_81 : decode cX12_boundThought 81 = .ok (.iconst 0, 1) := by decide +kernel
theorem dX12_boundThought_82 : decode cX12_boundThought 82 = .ok (.istore_n 3, 1) := by decide +kernel
theorem dX12_boundThought_83 : decode cX12_boundThought 83 = .ok (.iinc 4 1, 3) := by decide +kernel
theorem dX12_boundThought_86 : decode cX12_boundThought 86 = .ok (.goto (-79), 3) := by decide +kernel
theorem dX12_boundThought_89 : decode cX12_boundThought 89 = .ok (.iload_n 2, 1) := by decide +kernel
theorem dX12_boundThought_90 : decode cX12_boundThought 90 = .ok (.ireturn, 1) := by decide +kernel
set_option maxRecDepth 20000 in
theorem ggX12_boundNow_X12_think : GoodIn wsX12_boundNow wsX12_think := goodIn_r _ [5, 6, 7, 8, 9, 10, 11, 12, 4, 13, 20, 21, 22, 23, 24, 25, 26, 27, 28, 29, 30, 31, 32, 33, 34, 35, 36, 37, 38, 39, 40, 41, 42, 43, 44, 45, 46, 47, 48, 49, 50, 51, 52, 53, 54, 55, 56] (by decide +kernel) (by decide +kernel)
set_option maxRecDepth 20000 in
theorem gX12_boundNow_X12_think : GoodIn wsX12_boundNow (wsV RX12 117 RX12 yX12_think wsX12_think) := goodIn_app (goodIn_of _ (by decide +kernel)) ggX12_boundNow_X12_think
set_option maxRecDepth 20000 in
theorem ggX12_boundNow_X12_boundThought : GoodIn wsX12_boundNow wsX12_boundThought := goodIn_r _ [17, 6, 18, 10, 19, 20, 21, 22, 23, 24, 25, 26, 27, 28, 29, 30, 31, 32, 33, 34, 35, 36, 37, 38, 39, 40, 41, 42, 43, 44, 45, 46, 47, 48, 49, 50, 51, 52, 53, 54, 55, 56] (by decide +kernel) (by decide +kernel)
set_option maxRecDepth 20000 in
theorem gX12_boundNow_X12_boundThought : GoodIn wsX12_boundNow (wsV RX12 121 RX12 yX12_boundThought wsX12_boundThought) := goodIn_app (goodIn_of _ (by decide +kernel)) ggX12_boundNow_X12_boundThought
theorem dX12_boundNow_0 : decode cX12_boundNow 0 = .ok (.aload_n 0, 1) := by decide +kernel
theorem dX12_boundNow_1 : decode cX12_boundNow 1 = .ok (.iload_n 1, 1) := by decide +kernel
theorem dX12_boundNow_2 : decode cX12_boundNow 2 = .ok (.invokevirtual 117, 3) := by decide +kernel
theorem dX12_boundNow_5 : decode cX12_boundNow 5 = .ok (.aload_n 0, 1) := by decide +kernel
theorem dX12_boundNow_6 : decode cX12_boundNow 6 = .ok (.iload_n 1, 1) := by decide +kernel
theorem dX12_boundNow_7 : decode cX12_boundNow 7 = .ok (.invokevirtual 121, 3) := by decide +kernel
theorem dX12_boundNow_10 : decode cX12_boundNow 10 = .ok (.ireturn, 1) := by decide +kernel
theorem dX12_holder_0 : decode cX12_holder 0 = .ok (.aload_n 0, 1) := by decide +kernel
theorem dX12_holder_1 : decode cX12_holder 1 = .ok (.getfield 16, 3) := by decide +kernel
theorem dX12_holder_4 : decode cX12_holder 4 = .ok (.bipush 41, 2) := by decide +kernel
theorem dX12_holder_6 : decode cX12_holder 6 = .ok (.iload_n 1, 1) := by decide +kernel
theorem dX12_holder_7 : decode cX12_holder 7 = .ok (.imul, 1) := by decide +kernel
theorem dX12_holder_8 : decode cX12_holder 8 = .ok (.aload_n 0, 1) := by decide +kernel
theorem dX12_holder_9 : decode cX12_holder 9 = .ok (.getfield 19, 3) := by decide +kernel
theorem dX12_holder_12 : decode cX12_holder 12 = .ok (.iload_n 1, 1) := by decide +kernel
theorem dX12_holder_13 : decode cX12_holder 13 = .ok (.iaload, 1) := by decide +kernel
theorem dX12_holder_14 : decode cX12_holder 14 = .ok (.iadd, 1) := by decide +kernel
theorem dX12_holder_15 : decode cX12_holder 15 = .ok (.iaload, 1) := by decide +kernel
theorem dX12_holder_16 : decode cX12_holder 16 = .ok (.ireturn, 1) := by decide +kernel
set_option maxRecDepth 20000 in
theorem ggX12_pensOf_X12_holder : GoodIn wsX12_pensOf wsX12_holder := goodIn_r _ [6, 7, 8, 9, 10, 11, 12, 13, 14, 15, 16, 17, 18, 19, 20, 21, 22, 23, 24, 25, 26, 27, 28, 29, 30, 31, 32, 33, 34, 35, 36, 37, 38, 39, 40, 41, 42, 43, 44, 45] (by decide +kernel) (by decide +kernel)
set_option maxRecDepth 20000 in
theorem gX12_pensOf_X12_holder : GoodIn wsX12_pensOf (wsV RX12 124 RX12 yX12_holder wsX12_holder) := goodIn_app (goodIn_of _ (by decide +kernel)) ggX12_pensOf_X12_holder
theorem dX12_pensOf_0 : decode cX12_pensOf 0 = .ok (.iconst 0, 1) := by decide +kernel
theorem dX12_pensOf_1 : decode cX12_pensOf 1 = .ok (.istore_n 2, 1) := by decide +kernel
theorem dX12_pensOf_2 : decode cX12_pensOf 2 = .ok (.iconst 0, 1) := by decide +kernel
theorem dX12_pensOf_3 : decode cX12_pensOf 3 = .ok (.istore_n 3, 1) := by decide +kernel
theorem dX12_pensOf_4 : decode cX12_pensOf 4 = .ok (.iload_n 3, 1) := by decide +kernel
theorem dX12_pensOf_5 : decode cX12_pensOf 5 = .ok (.aload_n 0, 1) := by decide +kernel
theorem dX12_pensOf_6 : decode cX12_pensOf 6 = .ok (.getfield 94, 3) := by decide +kernel
theorem dX12_pensOf_9 : decode cX12_pensOf 9 = .ok (.if_icmp .ge 26, 3) := by decide +kernel
theorem dX12_pensOf_12 : decode cX12_pensOf 12 = .ok (.iload_n 2, 1) := by decide +kernel
theorem dX12_pensOf_13 : decode cX12_pensOf 13 = .ok (.aload_n 0, 1) := by decide +kernel
theorem dX12_pensOf_14 : decode cX12_pensOf 14 = .ok (.iload_n 3, 1) := by decide +kernel
theorem dX12_pensOf_15 : decode cX12_pensOf 15 = .ok (.invokevirtual 124, 3) := by decide +kernel
theorem dX12_pensOf_18 : decode cX12_pensOf 18 = .ok (.iload_n 1, 1) := by decide +kernel
theorem dX12_pensOf_19 : decode cX12_pensOf 19 = .ok (.if_icmp .ne 7, 3) := by decide +kernel
theorem dX12_pensOf_22 : decode cX12_pensOf 22 = .ok (.iconst 1, 1) := by decide +kernel
theorem dX12_pensOf_23 : decode cX12_pensOf 23 = .ok (.goto 4, 3) := by decide +kernel
theorem dX12_pensOf_26 : decode cX12_pensOf 26 = .ok (.iconst 0, 1) := by decide +kernel
theorem dX12_pensOf_27 : decode cX12_pensOf 27 = .ok (.iadd, 1) := by decide +kernel
theorem dX12_pensOf_28 : decode cX12_pensOf 28 = .ok (.istore_n 2, 1) := by decide +kernel
theorem dX12_pensOf_29 : decode cX12_pensOf 29 = .ok (.iinc 3 1, 3) := by decide +kernel
theorem dX12_pensOf_32 : decode cX12_pensOf 32 = .ok (.goto (-28), 3) := by decide +kernel
theorem dX12_pensOf_35 : decode cX12_pensOf 35 = .ok (.iload_n 2, 1) := by decide +kernel
theorem dX12_pensOf_36 : decode cX12_pensOf 36 = .ok (.ireturn, 1) := by decide +kernel
theorem dX12_deedsOf_0 : decode cX12_deedsOf 0 = .ok (.iconst 0, 1) := by decide +kernel
theorem dX12_deedsOf_1 : decode cX12_deedsOf 1 = .ok (.istore_n 2, 1) := by decide +kernel
theorem dX12_deedsOf_2 : decode cX12_deedsOf 2 = .ok (.iconst 0, 1) := by decide +kernel
theorem dX12_deedsOf_3 : decode cX12_deedsOf 3 = .ok (.istore_n 3, 1) := by decide +kernel
theorem dX12_deedsOf_4 : decode cX12_deedsOf 4 = .ok (.iload_n 3, 1) := by decide +kernel
theorem dX12_deedsOf_5 : decode cX12_deedsOf 5 = .ok (.aload_n 0, 1) := by decide +kernel
theorem dX12_deedsOf_6 : decode cX12_deedsOf 6 = .ok (.getfield 103, 3) := by decide +kernel
theorem dX12_deedsOf_9 : decode cX12_deedsOf 9 = .ok (.if_icmp .ge 22, 3) := by decide +kernel
theorem dX12_deedsOf_12 : decode cX12_deedsOf 12 = .ok (.iload_n 2, 1) := by decide +kernel
theorem dX12_deedsOf_13 : decode cX12_deedsOf 13 = .ok (.aload_n 0, 1) := by decide +kernel
theorem dX12_deedsOf_14 : decode cX12_deedsOf 14 = .ok (.getfield 25, 3) := by decide +kernel
theorem dX12_deedsOf_17 : decode cX12_deedsOf 17 = .ok (.iload_n 3, 1) := by decide +kernel
theorem dX12_deedsOf_18 : decode cX12_deedsOf 18 = .ok (.iaload, 1) := by decide +kernel
theorem dX12_deedsOf_19 : decode cX12_deedsOf 19 = .ok (.iload_n 1, 1) := by decide +kernel
theorem dX12_deedsOf_20 : decode cX12_deedsOf 20 = .ok (.ishr, 1) := by decide +kernel
theorem dX12_deedsOf_21 : decode cX12_deedsOf 21 = .ok (.iconst 1, 1) := by decide +kernel
theorem dX12_deedsOf_22 : decode cX12_deedsOf 22 = .ok (.iand, 1) := by decide +kernel
theorem dX12_deedsOf_23 : decode cX12_deedsOf 23 = .ok (.iadd, 1) := by decide +kernel
theorem dX12_deedsOf_24 : decode cX12_deedsOf 24 = .ok (.istore_n 2, 1) := by decide +kernel
theorem dX12_deedsOf_25 : decode cX12_deedsOf 25 = .ok (.iinc 3 1, 3) := by decide +kernel
theorem dX12_deedsOf_28 : decode cX12_deedsOf 28 = .ok (.goto (-24), 3) := by decide +kernel
theorem dX12_deedsOf_31 : decode cX12_deedsOf 31 = .ok (.iload_n 2, 1) := by decide +kernel
theorem dX12_deedsOf_32 : decode cX12_deedsOf 32 = .ok (.ireturn, 1) := by decide +kernel
set_option maxRecDepth 20000 in
theorem ggX12_oneNow_X12_worth : GoodIn wsX12_oneNow wsX12_worth := goodIn_r _ [6, 1, 7, 44, 45, 46, 47, 48, 49, 50, 51, 52, 53, 54, 55, 56, 57, 58, 59, 60, 61, 62, 63, 64, 65, 66, 67, 68, 69, 70, 71, 72, 73, 74, 75, 76, 77, 78, 79, 80] (by decide +kernel) (by decide +kernel)
set_option maxRecDepth 20000 in
theorem gX12_oneNow_X12_worth : GoodIn wsX12_oneNow (wsV RX12 127 RX12 yX12_worth wsX12_worth) := goodIn_app (goodIn_of _ (by decide +kernel)) ggX12_oneNow_X12_worth
set_option maxRecDepth 20000 in
theorem ggX12_oneNow_X12_holder : GoodIn wsX12_oneNow wsX12_holder := goodIn_r _ [11, 12, 13, 44, 45, 46, 47, 48, 49, 50, 51, 52, 53, 54, 55, 56, 57, 58, 59, 60, 61, 62, 63, 64, 65, 66, 67, 68, 69, 70, 71, 72, 73, 74, 75, 76, 77, 78, 79, 80] (by decide +kernel) (by decide +kernel)
set_option maxRecDepth 20000 in
theorem gX12_oneNow_X12_holder : GoodIn wsX12_oneNow (wsV RX12 124 RX12 yX12_holder wsX12_holder) := goodIn_app (goodIn_of _ (by decide +kernel)) ggX12_oneNow_X12_holder
set_option maxRecDepth 20000 in
theorem ggX12_oneNow_X12_boundNow : GoodIn wsX12_oneNow wsX12_boundNow := goodIn_r _ [17, 18, 19, 20, 5, 21, 22, 23, 13, 12, 24, 25, 26, 27, 28, 29, 30, 31, 32, 1, 44, 45, 46, 47, 48, 49, 50, 51, 52, 53, 54, 55, 56, 57, 58, 59, 60, 61, 62, 63, 64, 65, 66, 67, 68, 69, 70, 71, 72, 73, 74, 75, 76, 77, 78, 79, 80] (by decide +kernel) (by decide +kernel)
set_option maxRecDepth 20000 in
theorem gX12_oneNow_X12_boundNow : GoodIn wsX12_oneNow (wsV RX12 130 RX12 yX12_boundNow wsX12_boundNow) := goodIn_app (goodIn_of _ (by decide +kernel)) ggX12_oneNow_X12_boundNow
set_option maxRecDepth 20000 in
theorem ggX12_oneNow_X12_pensOf : GoodIn wsX12_oneNow wsX12_pensOf := goodIn_r _ [36, 37, 8, 9, 10, 5, 11, 12, 13, 44, 45, 46, 47, 48, 49, 50, 51, 52, 53, 54, 55, 56, 57, 58, 59, 60, 61, 62, 63, 64, 65, 66, 67, 68, 69, 70, 71, 72, 73, 74, 75, 76, 77, 78, 79, 80] (by decide +kernel) (by decide +kernel)
set_option maxRecDepth 20000 in
theorem gX12_oneNow_X12_pensOf : GoodIn wsX12_oneNow (wsV RX12 133 RX12 yX12_pensOf wsX12_pensOf) := goodIn_app (goodIn_of _ (by decide +kernel)) ggX12_oneNow_X12_pensOf
set_option maxRecDepth 20000 in
theorem ggX12_oneNow_X12_deedsOf : GoodIn wsX12_oneNow wsX12_deedsOf := goodIn_r _ [41, 42, 43, 44, 45, 46, 47, 48, 49, 50, 51, 52, 53, 54, 55, 56, 57, 58, 59, 60, 61, 62, 63, 64, 65, 66, 67, 68, 69, 70, 71, 72, 73, 74, 75, 76, 77, 78, 79, 80] (by decide +kernel) (by decide +kernel)
set_option maxRecDepth 20000 in
theorem gX12_oneNow_X12_deedsOf : GoodIn wsX12_oneNow (wsV RX12 136 RX12 yX12_deedsOf wsX12_deedsOf) := goodIn_app (goodIn_of _ (by decide +kernel)) ggX12_oneNow_X12_deedsOf
theorem dX12_oneNow_0 : decode cX12_oneNow 0 = .ok (.iload_n 2, 1) := by decide +kernel
theorem dX12_oneNow_1 : decode cX12_oneNow 1 = .ok (.tableswitch 66 0 4 #[35, 42, 48, 54, 60], 35) := by decide +kernel
theorem dX12_oneNow_36 : decode cX12_oneNow 36 = .ok (.aload_n 0, 1) := by decide +kernel
theorem dX12_oneNow_37 : decode cX12_oneNow 37 = .ok (.getfield 7, 3) := by decide +kernel
theorem dX12_oneNow_40 : decode cX12_oneNow 40 = .ok (.iload_n 1, 1) := by decide +kernel
theorem dX12_oneNow_41 : decode cX12_oneNow 41 = .ok (.iaload, 1) := by decide +kernel
theorem dX12_oneNow_42 : decode cX12_oneNow 42 = .ok (.ireturn, 1) := by decide +kernel
theorem dX12_oneNow_43 : decode cX12_oneNow 43 = .ok (.aload_n 0, 1) := by decide +kernel
theorem dX12_oneNow_44 : decode cX12_oneNow 44 = .ok (.iload_n 1, 1) := by decide +kernel
theorem dX12_oneNow_45 : decode cX12_oneNow 45 = .ok (.invokevirtual 127, 3) := by decide +kernel
theorem dX12_oneNow_48 : decode cX12_oneNow 48 = .ok (.ireturn, 1) := by decide +kernel
theorem dX12_oneNow_49 : decode cX12_oneNow 49 = .ok (.aload_n 0, 1) := by decide +kernel
theorem dX12_oneNow_50 : decode cX12_oneNow 50 = .ok (.iload_n 1, 1) := by decide +kernel
theorem dX12_oneNow_51 : decode cX12_oneNow 51 = .ok (.invokevirtual 124, 3) := by decide +kernel
theorem dX12_oneNow_54 : decode cX12_oneNow 54 = .ok (.ireturn, 1) := by decide +kernel
theorem dX12_oneNow_55 : decode cX12_oneNow 55 = .ok (.aload_n 0, 1) := by decide +kernel
theorem dX12_oneNow_56 : decode cX12_oneNow 56 = .ok (.iload_n 1, 1) := by decide +kernel
theorem dX12_oneNow_57 : decode cX12_oneNow 57 = .ok (.invokevirtual 130, 3) := by decide +kernel
theorem dX12_oneNow_60 : decode cX12_oneNow 60 = .ok (.ireturn, 1) := by decide +kernel
theorem dX12_oneNow_61 : decode cX12_oneNow 61 = .ok (.aload_n 0, 1) := by decide +kernel
theorem dX12_oneNow_62 : decode cX12_oneNow 62 = .ok (.iload_n 1, 1) := by decide +kernel
theorem dX12_oneNow_63 : decode cX12_oneNow 63 = .ok (.invokevirtual 133, 3) := by decide +kernel
theorem dX12_oneNow_66 : decode cX12_oneNow 66 = .ok (.ireturn, 1) := by decide +kernel
theorem dX12_oneNow_67 : decode cX12_oneNow 67 = .ok (.aload_n 0, 1) := by decide +kernel
theorem dX12_oneNow_68 : decode cX12_oneNow 68 = .ok (.iload_n 1, 1) := by decide +kernel
theorem dX12_oneNow_69 : decode cX12_oneNow 69 = .ok (.invokevirtual 136, 3) := by decide +kernel
theorem dX12_oneNow_72 : decode cX12_oneNow 72 = .ok (.ireturn, 1) := by decide +kernel
set_option maxRecDepth 20000 in
theorem ggX12_about_X12_isOne : GoodIn wsX12_about wsX12_isOne := goodIn_r _ [5, 6, 7, 8, 4, 9, 55, 56, 57, 58, 59, 60, 61, 62, 63, 64, 65, 66, 67, 68, 69, 70, 71, 72, 73, 74, 75, 76, 77, 78, 79, 80, 81, 82, 83, 84, 85, 86, 87, 88, 89, 90, 91] (by decide +kernel) (by decide +kernel)
set_option maxRecDepth 20000 in
theorem gX12_about_X12_isOne : GoodIn wsX12_about (wsV RX12 139 RX12 yX12_isOne wsX12_isOne) := goodIn_app (goodIn_of _ (by decide +kernel)) ggX12_about_X12_isOne
set_option maxRecDepth 20000 in
theorem ggX12_about_X12_within : GoodIn wsX12_about wsX12_within := goodIn_r _ [9] (by decide +kernel) (by decide +kernel)
set_option maxRecDepth 20000 in
theorem gX12_about_X12_within : GoodIn wsX12_about (va_wsS RX12 68 yX12_within wsX12_within) := goodIn_app (goodIn_of _ (by decide +kernel)) ggX12_about_X12_within
set_option maxRecDepth 20000 in
theorem ggX12_about_X12_oneNow : GoodIn wsX12_about wsX12_oneNow := goodIn_r _ [13, 14, 15, 16, 17, 4, 18, 19, 20, 21, 22, 23, 24, 25, 26, 27, 28, 29, 30, 31, 32, 33, 34, 35, 36, 37, 38, 39, 40, 41, 42, 43, 44, 45, 46, 47, 48, 6, 49, 50, 51, 52, 53, 54, 55, 56, 57, 58, 59, 60, 61, 62, 63, 64, 65, 66, 67, 68, 69, 70, 71, 72, 73, 74, 75, 76, 77, 78, 79, 80, 81, 82, 83, 84, 85, 86, 87, 88, 89, 90, 91] (by decide +kernel) (by decide +kernel)
set_option maxRecDepth 20000 in
theorem gX12_about_X12_oneNow : GoodIn wsX12_about (wsV RX12 142 RX12 yX12_oneNow wsX12_oneNow) := goodIn_app (goodIn_of _ (by decide +kernel)) ggX12_about_X12_oneNow
theorem dX12_about_0 : decode cX12_about 0 = .ok (.aload_n 0, 1) := by decide +kernel
theorem dX12_about_1 : decode cX12_about 1 = .ok (.iload_n 1, 1) := by decide +kernel
theorem dX12_about_2 : decode cX12_about 2 = .ok (.invokevirtual 139, 3) := by decide +kernel
theorem dX12_about_5 : decode cX12_about 5 = .ok (.ifCond .ne 8, 3) := by decide +kernel
theorem dX12_about_8 : decode cX12_about 8 = .ok (.bipush (-101), 2) := by decide +kernel
theorem dX12_about_10 : decode cX12_about 10 = .ok (.goto 23, 3) := by decide +kernel
theorem dX12_about_13 : decode cX12_about 13 = .ok (.iload_n 2, 1) := by decide +kernel
theorem dX12_about_14 : decode cX12_about 14 = .ok (.iconst 0, 1) := by decide +kernel
theorem dX12_about_15 : decode cX12_about 15 = .ok (.iconst 5, 1) := by decide +kernel
theorem dX12_about_16 : decode cX12_about 16 = .ok (.invokestatic 68, 3) := by decide +kernel
theorem dX12_about_19 : decode cX12_about 19 = .ok (.ifCond .eq 12, 3) := by decide +kernel
theorem dX12_about_22 : decode cX12_about 22 = .ok (.aload_n 0, 1) := by decide +kernel
theorem dX12_about_23 : decode cX12_about 23 = .ok (.iload_n 1, 1) := by decide +kernel
theorem dX12_about_24 : decode cX12_about 24 = .ok (.iload_n 2, 1) := by decide +kernel
theorem dX12_about_25 : decode cX12_about 25 = .ok (.invokevirtual 142, 3) := by decide +kernel
theorem dX12_about_28 : decode cX12_about 28 = .ok (.goto 5, 3) := by decide +kernel
theorem dX12_about_31 : decode cX12_about 31 = .ok (.bipush (-102), 2) := by decide +kernel
theorem dX12_about_33 : decode cX12_about 33 = .ok (.ireturn, 1) := by decide +kernel
set_option maxRecDepth 20000 in
theorem ggX12_as_X12_isOne : GoodIn wsX12_as wsX12_isOne := goodIn_r _ [6, 7, 8, 9, 5, 10, 11, 12, 13, 14, 15, 16, 17, 18, 19, 20, 21, 22, 23, 24, 25, 26, 27, 28, 29, 30, 31, 32, 33, 34, 35, 36, 37, 38, 39, 40, 41, 42, 43, 44, 45, 46, 47] (by decide +kernel) (by decide +kernel)
set_option maxRecDepth 20000 in
theorem gX12_as_X12_isOne : GoodIn wsX12_as (wsV RX12 139 RX12 yX12_isOne wsX12_isOne) := goodIn_app (goodIn_of _ (by decide +kernel)) ggX12_as_X12_isOne
set_option maxRecDepth 20000 in
theorem ggX12_as_X12_within : GoodIn wsX12_as wsX12_within := goodIn_r _ [10] (by decide +kernel) (by decide +kernel)
set_option maxRecDepth 20000 in
theorem gX12_as_X12_within : GoodIn wsX12_as (va_wsS RX12 68 yX12_within wsX12_within) := goodIn_app (goodIn_of _ (by decide +kernel)) ggX12_as_X12_within
theorem dX12_as_0 : decode cX12_as 0 = .ok (.aload_n 0, 1) := by decide +kernel
theorem dX12_as_1 : decode cX12_as 1 = .ok (.iload_n 1, 1) := by decide +kernel
theorem dX12_as_2 : decode cX12_as 2 = .ok (.invokevirtual 139, 3) := by decide +kernel
theorem dX12_as_5 : decode cX12_as 5 = .ok (.ifCond .ne 6, 3) := by decide +kernel
theorem dX12_as_8 : decode cX12_as 8 = .ok (.bipush (-101), 2) := by decide +kernel
theorem dX12_as_10 : decode cX12_as 10 = .ok (.ireturn, 1) := by decide +kernel
theorem dX12_as_11 : decode cX12_as 11 = .ok (.iload_n 2, 1) := by decide +kernel
theorem dX12_as_12 : decode cX12_as 12 = .ok (.iconst 0, 1) := by decide +kernel
theorem dX12_as_13 : decode cX12_as 13 = .ok (.iconst 4, 1) := by decide +kernel
theorem dX12_as_14 : decode cX12_as 14 = .ok (.invokestatic 68, 3) := by decide +kernel
theorem dX12_as_17 : decode cX12_as 17 = .ok (.ifCond .ne 6, 3) := by decide +kernel
theorem dX12_as_20 : decode cX12_as 20 = .ok (.bipush (-102), 2) := by decide +kernel
theorem dX12_as_22 : decode cX12_as 22 = .ok (.ireturn, 1) := by decide +kernel
theorem dX12_as_23 : decode cX12_as 23 = .ok (.aload_n 0, 1) := by decide +kernel
theorem dX12_as_24 : decode cX12_as 24 = .ok (.getfield 7, 3) := by decide +kernel
theorem dX12_as_27 : decode cX12_as 27 = .ok (.iload_n 1, 1) := by decide +kernel
theorem dX12_as_28 : decode cX12_as 28 = .ok (.iaload, 1) := by decide +kernel
theorem dX12_as_29 : decode cX12_as 29 = .ok (.istore_n 3, 1) := by decide +kernel
theorem dX12_as_30 : decode cX12_as 30 = .ok (.iload_n 2, 1) := by decide +kernel
theorem dX12_as_31 : decode cX12_as 31 = .ok (.ifCond .eq 18, 3) := by decide +kernel
theorem dX12_as_34 : decode cX12_as 34 = .ok (.iload_n 3, 1) := by decide +kernel
theorem dX12_as_35 : decode cX12_as 35 = .ok (.iload_n 2, 1) := by decide +kernel
theorem dX12_as_36 : decode cX12_as 36 = .ok (.if_icmp .eq 13, 3) := by decide +kernel
theorem dX12_as_39 : decode cX12_as 39 = .ok (.iload_n 2, 1) := by decide +kernel
theorem dX12_as_40 : decode cX12_as 40 = .ok (.iconst 1, 1) := by decide +kernel
theorem dX12_as_41 : decode cX12_as 41 = .ok (.if_icmp .ne 12, 3) := by decide +kernel
theorem dX12_as_44 : decode cX12_as 44 = .ok (.iload_n 3, 1) := by decide +kernel
theorem dX12_as_45 : decode cX12_as 45 = .ok (.iconst 4, 1) := by decide +kernel
theorem dX12_as_46 : decode cX12_as 46 = .ok (.if_icmp .ne 7, 3) := by decide +kernel
theorem dX12_as_49 : decode cX12_as 49 = .ok (.iload_n 1, 1) := by decide +kernel
theorem dX12_as_50 : decode cX12_as 50 = .ok (.goto 4, 3) := by decide +kernel
theorem dX12_as_53 : decode cX12_as 53 = .ok (.iconst (-1), 1) := by decide +kernel
theorem dX12_as_54 : decode cX12_as 54 = .ok (.ireturn, 1) := by decide +kernel
set_option maxRecDepth 20000 in
theorem ggX12_lend_X12_isOne : GoodIn wsX12_lend wsX12_isOne := goodIn_r _ [7, 8, 9, 10, 6, 11, 40, 41, 42, 43, 44, 45, 46, 47, 48, 49, 50, 51, 52, 53, 54, 55, 56, 57, 58, 59, 60, 61, 62, 63, 64, 65, 66, 67, 68, 69, 70, 71, 72, 73, 74, 75, 76] (by decide +kernel) (by decide +kernel)
set_option maxRecDepth 20000 in
theorem gX12_lend_X12_isOne : GoodIn wsX12_lend (wsV RX12 139 RX12 yX12_isOne wsX12_isOne) := goodIn_app (goodIn_of _ (by decide +kernel)) ggX12_lend_X12_isOne
set_option maxRecDepth 20000 in
theorem ggX12_lend_X12_holder : GoodIn wsX12_lend wsX12_holder := goodIn_r _ [15, 2, 1, 40, 41, 42, 43, 44, 45, 46, 47, 48, 49, 50, 51, 52, 53, 54, 55, 56, 57, 58, 59, 60, 61, 62, 63, 64, 65, 66, 67, 68, 69, 70, 71, 72, 73, 74, 75, 76] (by decide +kernel) (by decide +kernel)
set_option maxRecDepth 20000 in
theorem gX12_lend_X12_holder : GoodIn wsX12_lend (wsV RX12 124 RX12 yX12_holder wsX12_holder) := goodIn_app (goodIn_of _ (by decide +kernel)) ggX12_lend_X12_holder
set_option maxRecDepth 20000 in
theorem ggX12_lend_X12_isChurch : GoodIn wsX12_lend wsX12_isChurch := goodIn_r _ [19, 20, 40, 41, 42, 43, 44, 45, 46, 47, 48, 49, 50, 51, 52, 53, 54, 55, 56, 57, 58, 59, 60, 61, 62, 63, 64, 65, 66, 67, 68, 69, 70, 71, 72, 73, 74, 75, 76] (by decide +kernel) (by decide +kernel)
set_option maxRecDepth 20000 in
theorem gX12_lend_X12_isChurch : GoodIn wsX12_lend (wsV RX12 113 RX12 yX12_isChurch wsX12_isChurch) := goodIn_app (goodIn_of _ (by decide +kernel)) ggX12_lend_X12_isChurch
set_option maxRecDepth 20000 in
theorem ggX12_lend_X12_boundNow : GoodIn wsX12_lend wsX12_boundNow := goodIn_r _ [24, 25, 26, 27, 6, 28, 29, 30, 1, 2, 31, 32, 33, 34, 35, 36, 37, 38, 39, 20, 40, 41, 42, 43, 44, 45, 46, 47, 48, 49, 50, 51, 52, 53, 54, 55, 56, 57, 58, 59, 60, 61, 62, 63, 64, 65, 66, 67, 68, 69, 70, 71, 72, 73, 74, 75, 76] (by decide +kernel) (by decide +kernel)
set_option maxRecDepth 20000 in
theorem gX12_lend_X12_boundNow : GoodIn wsX12_lend (wsV RX12 130 RX12 yX12_boundNow wsX12_boundNow) := goodIn_app (goodIn_of _ (by decide +kernel)) ggX12_lend_X12_boundNow
theorem dX12_lend_0 : decode cX12_lend 0 = .ok (.aload_n 0, 1) := by decide +kernel
theorem dX12_lend_1 : decode cX12_lend 1 = .ok (.iload_n 1, 1) := by decide +kernel
theorem dX12_lend_2 : decode cX12_lend 2 = .ok (.invokevirtual 139, 3) := by decide +kernel
theorem dX12_lend_5 : decode cX12_lend 5 = .ok (.ifCond .eq 11, 3) := by decide +kernel
theorem dX12_lend_8 : decode cX12_lend 8 = .ok (.aload_n 0, 1) := by decide +kernel
theorem dX12_lend_9 : decode cX12_lend 9 = .ok (.iload_n 2, 1) := by decide +kernel
theorem dX12_lend_10 : decode cX12_lend 10 = .ok (.invokevirtual 139, 3) := by decide +kernel
theorem dX12_lend_13 : decode cX12_lend 13 = .ok (.ifCond .ne 6, 3) := by decide +kernel
theorem dX12_lend_16 : decode cX12_lend 16 = .ok (.bipush (-101), 2) := by decide +kernel
theorem dX12_lend_18 : decode cX12_lend 18 = .ok (.ireturn, 1) := by decide +kernel
theorem dX12_lend_19 : decode cX12_lend 19 = .ok (.aload_n 0, 1) := by decide +kernel
theorem dX12_lend_20 : decode cX12_lend 20 = .ok (.iload_n 1, 1) := by decide +kernel
theorem dX12_lend_21 : decode cX12_lend 21 = .ok (.invokevirtual 124, 3) := by decide +kernel
theorem dX12_lend_24 : decode cX12_lend 24 = .ok (.iload_n 2, 1) := by decide +kernel
theorem dX12_lend_25 : decode cX12_lend 25 = .ok (.if_icmp .eq 15, 3) := by decide +kernel
theorem dX12_lend_28 : decode cX12_lend 28 = .ok (.aload_n 0, 1) := by decide +kernel
theorem dX12_lend_29 : decode cX12_lend 29 = .ok (.aload_n 0, 1) := by decide +kernel
theorem dX12_lend_30 : decode cX12_lend 30 = .ok (.iload_n 1, 1) := by decide +kernel
theorem dX12_lend_31 : decode cX12_lend 31 = .ok (.invokevirtual 124, 3) := by decide +kernel
theorem dX12_lend_34 : decode cX12_lend 34 = .ok (.invokevirtual 113, 3) := by decide +kernel
theorem dX12_lend_37 : decode cX12_lend 37 = .ok (.ifCond .eq 6, 3) := by decide +kernel
theorem dX12_lend_40 : decode cX12_lend 40 = .ok (.bipush (-103), 2) := by decide +kernel
theorem dX12_lend_42 : decode cX12_lend 42 = .ok (.ireturn, 1) := by decide +kernel
theorem dX12_lend_43 : decode cX12_lend 43 = .ok (.aload_n 0, 1) := by decide +kernel
theorem dX12_lend_44 : decode cX12_lend 44 = .ok (.getfield 19, 3) := by decide +kernel
theorem dX12_lend_47 : decode cX12_lend 47 = .ok (.iload_n 1, 1) := by decide +kernel
theorem dX12_lend_48 : decode cX12_lend 48 = .ok (.iaload, 1) := by decide +kernel
theorem dX12_lend_49 : decode cX12_lend 49 = .ok (.bipush 40, 2) := by decide +kernel
theorem dX12_lend_51 : decode cX12_lend 51 = .ok (.if_icmp .ne 6, 3) := by decide +kernel
theorem dX12_lend_54 : decode cX12_lend 54 = .ok (.bipush (-104), 2) := by decide +kernel
theorem dX12_lend_56 : decode cX12_lend 56 = .ok (.ireturn, 1) := by decide +kernel
theorem dX12_lend_57 : decode cX12_lend 57 = .ok (.aload_n 0, 1) := by decide +kernel
theorem dX12_lend_58 : decode cX12_lend 58 = .ok (.getfield 19, 3) := by decide +kernel
theorem dX12_lend_61 : decode cX12_lend 61 = .ok (.iload_n 1, 1) := by decide +kernel
theorem dX12_lend_62 : decode cX12_lend 62 = .ok (.dup2, 1) := by decide +kernel
theorem dX12_lend_63 : decode cX12_lend 63 = .ok (.iaload, 1) := by decide +kernel
theorem dX12_lend_64 : decode cX12_lend 64 = .ok (.iconst 1, 1) := by decide +kernel
theorem dX12_lend_65 : decode cX12_lend 65 = .ok (.iadd, 1) := by decide +kernel
theorem dX12_lend_66 : decode cX12_lend 66 = .ok (.iastore, 1) := by decide +kernel
theorem dX12_lend_67 : decode cX12_lend 67 = .ok (.aload_n 0, 1) := by decide +kernel
theorem dX12_lend_68 : decode cX12_lend 68 = .ok (.getfield 16, 3) := by decide +kernel
theorem dX12_lend_71 : decode cX12_lend 71 = .ok (.bipush 41, 2) := by decide +kernel
theorem dX12_lend_73 : decode cX12_lend 73 = .ok (.iload_n 1, 1) := by decide +kernel
theorem dX12_lend_74 : decode cX12_lend 74 = .ok (.imul, 1) := by decide +kernel
theorem dX12_lend_75 : decode cX12_lend 75 = .ok (.aload_n 0, 1) := by decide +kernel
theorem dX12_lend_76 : decode cX12_lend 76 = .ok (.getfield 19, 3) := by decide +kernel
theorem dX12_lend_79 : decode cX12_lend 79 = .ok (.iload_n 1, 1) := by decide +kernel
theorem dX12_lend_80 : decode cX12_lend 80 = .ok (.iaload, 1) := by decide +kernel
theorem dX12_lend_81 : decode cX12_lend 81 = .ok (.iadd, 1) := by decide +kernel
theorem dX12_lend_82 : decode cX12_lend 82 = .ok (.iload_n 2, 1) := by decide +kernel
theorem dX12_lend_83 : decode cX12_lend 83 = .ok (.iastore, 1) := by decide +kernel
theorem dX12_lend_84 : decode cX12_lend 84 = .ok (.aload_n 0, 1) := by decide +kernel
theorem dX12_lend_85 : decode cX12_lend 85 = .ok (.iload_n 1, 1) := by decide +kernel
theorem dX12_lend_86 : decode cX12_lend 86 = .ok (.invokevirtual 130, 3) := by decide +kernel
theorem dX12_lend_89 : decode cX12_lend 89 = .ok (.ireturn, 1) := by decide +kernel
set_option maxRecDepth 20000 in
theorem ggX12_had_X12_isOne : GoodIn wsX12_had wsX12_isOne := goodIn_r _ [7, 8, 9, 10, 6, 11, 12, 13, 14, 15, 16, 17, 18, 19, 20, 21, 22, 23, 24, 25, 26, 27, 28, 29, 30, 31, 32, 33, 34, 35, 36, 37, 38, 39, 40, 41, 42, 43, 44, 45, 46, 47, 48] (by decide +kernel) (by decide +kernel)
set_option maxRecDepth 20000 in
theorem gX12_had_X12_isOne : GoodIn wsX12_had (wsV RX12 139 RX12 yX12_isOne wsX12_isOne) := goodIn_app (goodIn_of _ (by decide +kernel)) ggX12_had_X12_isOne
set_option maxRecDepth 20000 in
theorem ggX12_had_X12_within : GoodIn wsX12_had wsX12_within := goodIn_r _ [11] (by decide +kernel) (by decide +kernel)
set_option maxRecDepth 20000 in
theorem gX12_had_X12_within : GoodIn wsX12_had (va_wsS RX12 68 yX12_within wsX12_within) := goodIn_app (goodIn_of _ (by decide +kernel)) ggX12_had_X12_within
theorem dX12_had_0 : decode cX12_had 0 = .ok (.aload_n 0, 1) := by decide +kernel
theorem dX12_had_1 : decode cX12_had 1 = .ok (.iload_n 1, 1) := by decide +kernel
theorem dX12_had_2 : decode cX12_had 2 = .ok (.invokevirtual 139, 3) := by decide +kernel
theorem dX12_had_5 : decode cX12_had 5 = .ok (.ifCond .ne 6, 3) := by decide +kernel
theorem dX12_had_8 : decode cX12_had 8 = .ok (.bipush (-101), 2) := by decide +kernel
theorem dX12_had_10 : decode cX12_had 10 = .ok (.ireturn, 1) := by decide +kernel
theorem dX12_had_11 : decode cX12_had 11 = .ok (.iload_n 2, 1) := by decide +kernel
theorem dX12_had_12 : decode cX12_had 12 = .ok (.iconst 0, 1) := by decide +kernel
theorem dX12_had_13 : decode cX12_had 13 = .ok (.bipush 40, 2) := by decide +kernel
theorem dX12_had_15 : decode cX12_had 15 = .ok (.invokestatic 68, 3) := by decide +kernel
theorem dX12_had_18 : decode cX12_had 18 = .ok (.ifCond .ne 6, 3) := by decide +kernel
theorem dX12_had_21 : decode cX12_had 21 = .ok (.bipush (-102), 2) := by decide +kernel
theorem dX12_had_23 : decode cX12_had 23 = .ok (.ireturn, 1) := by decide +kernel
theorem dX12_had_24 : decode cX12_had 24 = .ok (.iload_n 2, 1) := by decide +kernel
theorem dX12_had_25 : decode cX12_had 25 = .ok (.aload_n 0, 1) := by decide +kernel
theorem dX12_had_26 : decode cX12_had 26 = .ok (.getfield 19, 3) := by decide +kernel
theorem dX12_had_29 : decode cX12_had 29 = .ok (.iload_n 1, 1) := by decide +kernel
theorem dX12_had_30 : decode cX12_had 30 = .ok (.iaload, 1) := by decide +kernel
theorem dX12_had_31 : decode cX12_had 31 = .ok (.if_icmp .le 7, 3) := by decide +kernel
theorem dX12_had_34 : decode cX12_had 34 = .ok (.iconst (-1), 1) := by decide +kernel
theorem dX12_had_35 : decode cX12_had 35 = .ok (.goto 21, 3) := by decide +kernel
theorem dX12_had_38 : decode cX12_had 38 = .ok (.aload_n 0, 1) := by decide +kernel
theorem dX12_had_39 : decode cX12_had 39 = .ok (.getfield 16, 3) := by decide +kernel
theorem dX12_had_42 : decode cX12_had 42 = .ok (.bipush 41, 2) := by decide +kernel
theorem dX12_had_44 : decode cX12_had 44 = .ok (.iload_n 1, 1) := by decide +kernel
theorem dX12_had_45 : decode cX12_had 45 = .ok (.imul, 1) := by decide +kernel
theorem dX12_had_46 : decode cX12_had 46 = .ok (.aload_n 0, 1) := by decide +kernel
theorem dX12_had_47 : decode cX12_had 47 = .ok (.getfield 19, 3) := by decide +kernel
theorem dX12_had_50 : decode cX12_had 50 = .ok (.iload_n 1, 1) := by decide +kernel
theorem dX12_had_51 : decode cX12_had 51 = .ok (.iaload, 1) := by decide +kernel
theorem dX12_had_52 : decode cX12_had 52 = .ok (.iadd, 1) := by decide +kernel
theorem dX12_had_53 : decode cX12_had 53 = .ok (.iload_n 2, 1) := by decide +kernel
theorem dX12_had_54 : decode cX12_had 54 = .ok (.isub, 1) := by decide +kernel
theorem dX12_had_55 : decode cX12_had 55 = .ok (.iaload, 1) := by decide +kernel
theorem dX12_had_56 : decode cX12_had 56 = .ok (.ireturn, 1) := by decide +kernel
set_option maxRecDepth 20000 in
theorem ggX12_isDeed_X12_within : GoodIn wsX12_isDeed wsX12_within := goodIn_r _ [5] (by decide +kernel) (by decide +kernel)
set_option maxRecDepth 20000 in
theorem gX12_isDeed_X12_within : GoodIn wsX12_isDeed (va_wsS RX12 68 yX12_within wsX12_within) := goodIn_app (goodIn_of _ (by decide +kernel)) ggX12_isDeed_X12_within
theorem dX12_isDeed_0 : decode cX12_isDeed 0 = .ok (.iload_n 1, 1) := by decide +kernel
theorem dX12_isDeed_1 : decode cX12_isDeed 1 = .ok (.iconst 0, 1) := by decide +kernel
theorem dX12_isDeed_2 : decode cX12_isDeed 2 = .ok (.aload_n 0, 1) := by decide +kernel
theorem dX12_isDeed_3 : decode cX12_isDeed 3 = .ok (.getfield 103, 3) := by decide +kernel
theorem dX12_isDeed_6 : decode cX12_isDeed 6 = .ok (.iconst 1, 1) := by decide +kernel
theorem dX12_isDeed_7 : decode cX12_isDeed 7 = .ok (.isub, 1) := by decide +kernel
theorem dX12_isDeed_8 : decode cX12_isDeed 8 = .ok (.invokestatic 68, 3) := by decide +kernel
theorem dX12_isDeed_11 : decode cX12_isDeed 11 = .ok (.ireturn, 1) := by decide +kernel
set_option maxRecDepth 20000 in
theorem ggX12_sign_X12_isOne : GoodIn wsX12_sign wsX12_isOne := goodIn_r _ [8, 9, 10, 11, 7, 12, 35, 36, 37, 38, 39, 40, 41, 42, 43, 44, 45, 46, 47, 48, 49, 50, 51, 52, 53, 54, 55, 56, 57, 58, 59, 60, 61, 62, 63, 64, 65, 66, 67, 68, 69, 70, 71] (by decide +kernel) (by decide +kernel)
set_option maxRecDepth 20000 in
theorem gX12_sign_X12_isOne : GoodIn wsX12_sign (wsV RX12 139 RX12 yX12_isOne wsX12_isOne) := goodIn_app (goodIn_of _ (by decide +kernel)) ggX12_sign_X12_isOne
set_option maxRecDepth 20000 in
theorem ggX12_sign_X12_within : GoodIn wsX12_sign wsX12_within := goodIn_r _ [12] (by decide +kernel) (by decide +kernel)
set_option maxRecDepth 20000 in
theorem gX12_sign_X12_within : GoodIn wsX12_sign (va_wsS RX12 68 yX12_within wsX12_within) := goodIn_app (goodIn_of _ (by decide +kernel)) ggX12_sign_X12_within
set_option maxRecDepth 20000 in
theorem ggX12_sign_X12_boundNow : GoodIn wsX12_sign wsX12_boundNow := goodIn_r _ [16, 17, 18, 19, 7, 20, 21, 22, 23, 24, 25, 26, 27, 28, 29, 30, 31, 32, 33, 34, 35, 36, 37, 38, 39, 40, 41, 42, 43, 44, 45, 46, 47, 48, 49, 50, 51, 52, 53, 54, 55, 56, 57, 58, 59, 60, 61, 62, 63, 64, 65, 66, 67, 68, 69, 70, 71] (by decide +kernel) (by decide +kernel)
set_option maxRecDepth 20000 in
theorem gX12_sign_X12_boundNow : GoodIn wsX12_sign (wsV RX12 130 RX12 yX12_boundNow wsX12_boundNow) := goodIn_app (goodIn_of _ (by decide +kernel)) ggX12_sign_X12_boundNow
theorem dX12_sign_0 : decode cX12_sign 0 = .ok (.aload_n 0, 1) := by decide +kernel
theorem dX12_sign_1 : decode cX12_sign 1 = .ok (.iload_n 1, 1) := by decide +kernel
theorem dX12_sign_2 : decode cX12_sign 2 = .ok (.invokevirtual 139, 3) := by decide +kernel
theorem dX12_sign_5 : decode cX12_sign 5 = .ok (.ifCond .ne 6, 3) := by decide +kernel
theorem dX12_sign_8 : decode cX12_sign 8 = .ok (.bipush (-101), 2) := by decide +kernel
theorem dX12_sign_10 : decode cX12_sign 10 = .ok (.ireturn, 1) := by decide +kernel
theorem dX12_sign_11 : decode cX12_sign 11 = .ok (.iload_n 2, 1) := by decide +kernel
theorem dX12_sign_12 : decode cX12_sign 12 = .ok (.iconst 1, 1) := by decide +kernel
theorem dX12_sign_13 : decode cX12_sign 13 = .ok (.bipush 9, 2) := by decide +kernel
theorem dX12_sign_15 : decode cX12_sign 15 = .ok (.invokestatic 68, 3) := by decide +kernel
theorem dX12_sign_18 : decode cX12_sign 18 = .ok (.ifCond .ne 6, 3) := by decide +kernel
theorem dX12_sign_21 : decode cX12_sign 21 = .ok (.bipush (-102), 2) := by decide +kernel
theorem dX12_sign_23 : decode cX12_sign 23 = .ok (.ireturn, 1) := by decide +kernel
theorem dX12_sign_24 : decode cX12_sign 24 = .ok (.aload_n 0, 1) := by decide +kernel
theorem dX12_sign_25 : decode cX12_sign 25 = .ok (.iload_n 1, 1) := by decide +kernel
theorem dX12_sign_26 : decode cX12_sign 26 = .ok (.invokevirtual 130, 3) := by decide +kernel
theorem dX12_sign_29 : decode cX12_sign 29 = .ok (.istore_n 3, 1) := by decide +kernel
theorem dX12_sign_30 : decode cX12_sign 30 = .ok (.iload_n 3, 1) := by decide +kernel
theorem dX12_sign_31 : decode cX12_sign 31 = .ok (.ifCond .ne 6, 3) := by decide +kernel
theorem dX12_sign_34 : decode cX12_sign 34 = .ok (.bipush (-103), 2) := by decide +kernel
theorem dX12_sign_36 : decode cX12_sign 36 = .ok (.ireturn, 1) := by decide +kernel
theorem dX12_sign_37 : decode cX12_sign 37 = .ok (.aload_n 0, 1) := by decide +kernel
theorem dX12_sign_38 : decode cX12_sign 38 = .ok (.getfield 103, 3) := by decide +kernel
theorem dX12_sign_41 : decode cX12_sign 41 = .ok (.bipush 6, 2) := by decide +kernel
theorem dX12_sign_43 : decode cX12_sign 43 = .ok (.if_icmp .ne 6, 3) := by decide +kernel
theorem dX12_sign_46 : decode cX12_sign 46 = .ok (.bipush (-104), 2) := by decide +kernel
theorem dX12_sign_48 : decode cX12_sign 48 = .ok (.ireturn, 1) := by decide +kernel
theorem dX12_sign_49 : decode cX12_sign 49 = .ok (.aload_n 0, 1) := by decide +kernel
theorem dX12_sign_50 : decode cX12_sign 50 = .ok (.getfield 22, 3) := by decide +kernel
theorem dX12_sign_53 : decode cX12_sign 53 = .ok (.aload_n 0, 1) := by decide +kernel
theorem dX12_sign_54 : decode cX12_sign 54 = .ok (.getfield 103, 3) := by decide +kernel
theorem dX12_sign_57 : decode cX12_sign 57 = .ok (.iload_n 2, 1) := by decide +kernel
theorem dX12_sign_58 : decode cX12_sign 58 = .ok (.iastore, 1) := by decide +kernel
theorem dX12_sign_59 : decode cX12_sign 59 = .ok (.aload_n 0, 1) := by decide +kernel
theorem dX12_sign_60 : decode cX12_sign 60 = .ok (.getfield 25, 3) := by decide +kernel
theorem dX12_sign_63 : decode cX12_sign 63 = .ok (.aload_n 0, 1) := by decide +kernel
theorem dX12_sign_64 : decode cX12_sign 64 = .ok (.getfield 103, 3) := by decide +kernel
theorem dX12_sign_67 : decode cX12_sign 67 = .ok (.iload_n 3, 1) := by decide +kernel
theorem dX12_sign_68 : decode cX12_sign 68 = .ok (.iastore, 1) := by decide +kernel
theorem dX12_sign_69 : decode cX12_sign 69 = .ok (.aload_n 0, 1) := by decide +kernel
theorem dX12_sign_70 : decode cX12_sign 70 = .ok (.dup, 1) := by decide +kernel
theorem dX12_sign_71 : decode cX12_sign 71 = .ok (.getfield 103, 3) := by decide +kernel
theorem dX12_sign_74 : decode cX12_sign 74 = .ok (.iconst 1, 1) := by decide +kernel
theorem dX12_sign_75 : decode cX12_sign 75 = .ok (.iadd, 1) := by decide +kernel
theorem dX12_sign_76 : decode cX12_sign 76 = .ok (.putfield 103, 3) := by decide +kernel
theorem dX12_sign_79 : decode cX12_sign 79 = .ok (.aload_n 0, 1) := by decide +kernel
theorem dX12_sign_80 : decode cX12_sign 80 = .ok (.getfield 103, 3) := by decide +kernel
theorem dX12_sign_83 : decode cX12_sign 83 = .ok (.iconst 1, 1) := by decide +kernel
theorem dX12_sign_84 : decode cX12_sign 84 = .ok (.isub, 1) := by decide +kernel
theorem dX12_sign_85 : decode cX12_sign 85 = .ok (.ireturn, 1) := by decide +kernel
set_option maxRecDepth 20000 in
theorem ggX12_sureOf_X12_isIn : GoodIn wsX12_sureOf wsX12_isIn := goodIn_r _ [6] (by decide +kernel) (by decide +kernel)
set_option maxRecDepth 20000 in
theorem gX12_sureOf_X12_isIn : GoodIn wsX12_sureOf (va_wsS RX12 109 yX12_isIn wsX12_isIn) := goodIn_app (goodIn_of _ (by decide +kernel)) ggX12_sureOf_X12_isIn
set_option maxRecDepth 20000 in
theorem ggX12_sureOf_X12_worth : GoodIn wsX12_sureOf wsX12_worth := goodIn_r _ [10, 11, 12, 13, 14, 15, 16, 17, 18, 19, 20, 21, 22, 23, 24, 25, 26, 27, 28, 29, 30, 31, 32, 33, 34, 35, 36, 37, 38, 39, 40, 41, 42, 43, 44, 45, 46, 47, 48, 49] (by decide +kernel) (by decide +kernel)
set_option maxRecDepth 20000 in
theorem gX12_sureOf_X12_worth : GoodIn wsX12_sureOf (wsV RX12 127 RX12 yX12_worth wsX12_worth) := goodIn_app (goodIn_of _ (by decide +kernel)) ggX12_sureOf_X12_worth
theorem dX12_sureOf_0 : decode cX12_sureOf 0 = .ok (.iconst 0, 1) := by decide +kernel
theorem dX12_sureOf_1 : decode cX12_sureOf 1 = .ok (.istore_n 2, 1) := by decide +kernel
theorem dX12_sureOf_2 : decode cX12_sureOf 2 = .ok (.iconst 0, 1) := by decide +kernel
theorem dX12_sureOf_3 : decode cX12_sureOf 3 = .ok (.istore_n 3, 1) := by decide +kernel
theorem dX12_sureOf_4 : decode cX12_sureOf 4 = .ok (.iload_n 3, 1) := by decide +kernel
theorem dX12_sureOf_5 : decode cX12_sureOf 5 = .ok (.aload_n 0, 1) := by decide +kernel
theorem dX12_sureOf_6 : decode cX12_sureOf 6 = .ok (.getfield 94, 3) := by decide +kernel
theorem dX12_sureOf_9 : decode cX12_sureOf 9 = .ok (.if_icmp .ge 34, 3) := by decide +kernel
theorem dX12_sureOf_12 : decode cX12_sureOf 12 = .ok (.iload_n 2, 1) := by decide +kernel
theorem dX12_sureOf_13 : decode cX12_sureOf 13 = .ok (.aload_n 0, 1) := by decide +kernel
theorem dX12_sureOf_14 : decode cX12_sureOf 14 = .ok (.getfield 25, 3) := by decide +kernel
theorem dX12_sureOf_17 : decode cX12_sureOf 17 = .ok (.iload_n 1, 1) := by decide +kernel
theorem dX12_sureOf_18 : decode cX12_sureOf 18 = .ok (.iaload, 1) := by decide +kernel
theorem dX12_sureOf_19 : decode cX12_sureOf 19 = .ok (.iload_n 3, 1) := by decide +kernel
theorem dX12_sureOf_20 : decode cX12_sureOf 20 = .ok (.invokestatic 109, 3) := by decide +kernel
theorem dX12_sureOf_23 : decode cX12_sureOf 23 = .ok (.ifCond .eq 11, 3) := by decide +kernel
theorem dX12_sureOf_26 : decode cX12_sureOf 26 = .ok (.aload_n 0, 1) := by decide +kernel
theorem dX12_sureOf_27 : decode cX12_sureOf 27 = .ok (.iload_n 3, 1) := by decide +kernel
theorem dX12_sureOf_28 : decode cX12_sureOf 28 = .ok (.invokevirtual 127, 3) := by decide +kernel
theorem dX12_sureOf_31 : decode cX12_sureOf 31 = .ok (.goto 4, 3) := by decide +kernel
theorem dX12_sureOf_34 : decode cX12_sureOf 34 = .ok (.iconst 0, 1) := by decide +kernel
theorem dX12_sureOf_35 : decode cX12_sureOf 35 = .ok (.iadd, 1) := by decide +kernel
theorem dX12_sureOf_36 : decode cX12_sureOf 36 = .ok (.istore_n 2, 1) := by decide +kernel
theorem dX12_sureOf_37 : decode cX12_sureOf 37 = .ok (.iinc 3 1, 3) := by decide +kernel
theorem dX12_sureOf_40 : decode cX12_sureOf 40 = .ok (.goto (-36), 3) := by decide +kernel
theorem dX12_sureOf_43 : decode cX12_sureOf 43 = .ok (.iload_n 2, 1) := by decide +kernel
theorem dX12_sureOf_44 : decode cX12_sureOf 44 = .ok (.ireturn, 1) := by decide +kernel
set_option maxRecDepth 20000 in
theorem ggX12_deedNow_X12_sureOf : GoodIn wsX12_deedNow wsX12_sureOf := goodIn_r _ [7, 8, 2, 9, 10, 6, 11, 12, 13, 14, 15, 16, 17, 18, 19, 20, 21, 22, 23, 24, 25, 26, 27, 28, 29, 30, 31, 32, 33, 34, 35, 36, 37, 38, 39, 40, 41, 42, 43, 44, 45, 46, 47, 48, 49, 50, 51, 52, 53, 54] (by decide +kernel) (by decide +kernel)
set_option maxRecDepth 20000 in
theorem gX12_deedNow_X12_sureOf : GoodIn wsX12_deedNow (wsV RX12 146 RX12 yX12_sureOf wsX12_sureOf) := goodIn_app (goodIn_of _ (by decide +kernel)) ggX12_deedNow_X12_sureOf
theorem dX12_deedNow_0 : decode cX12_deedNow 0 = .ok (.iload_n 2, 1) := by decide +kernel
theorem dX12_deedNow_1 : decode cX12_deedNow 1 = .ok (.ifCond .ne 12, 3) := by decide +kernel
theorem dX12_deedNow_4 : decode cX12_deedNow 4 = .ok (.aload_n 0, 1) := by decide +kernel
theorem dX12_deedNow_5 : decode cX12_deedNow 5 = .ok (.getfield 22, 3) := by decide +kernel
theorem dX12_deedNow_8 : decode cX12_deedNow 8 = .ok (.iload_n 1, 1) := by decide +kernel
theorem dX12_deedNow_9 : decode cX12_deedNow 9 = .ok (.iaload, 1) := by decide +kernel
theorem dX12_deedNow_10 : decode cX12_deedNow 10 = .ok (.goto 22, 3) := by decide +kernel
theorem dX12_deedNow_13 : decode cX12_deedNow 13 = .ok (.iload_n 2, 1) := by decide +kernel
theorem dX12_deedNow_14 : decode cX12_deedNow 14 = .ok (.iconst 1, 1) := by decide +kernel
theorem dX12_deedNow_15 : decode cX12_deedNow 15 = .ok (.if_icmp .ne 12, 3) := by decide +kernel
theorem dX12_deedNow_18 : decode cX12_deedNow 18 = .ok (.aload_n 0, 1) := by decide +kernel
theorem dX12_deedNow_19 : decode cX12_deedNow 19 = .ok (.getfield 25, 3) := by decide +kernel
theorem dX12_deedNow_22 : decode cX12_deedNow 22 = .ok (.iload_n 1, 1) := by decide +kernel
theorem dX12_deedNow_23 : decode cX12_deedNow 23 = .ok (.iaload, 1) := by decide +kernel
theorem dX12_deedNow_24 : decode cX12_deedNow 24 = .ok (.goto 8, 3) := by decide +kernel
theorem dX12_deedNow_27 : decode cX12_deedNow 27 = .ok (.aload_n 0, 1) := by decide +kernel
theorem dX12_deedNow_28 : decode cX12_deedNow 28 = .ok (.iload_n 1, 1) := by decide +kernel
theorem dX12_deedNow_29 : decode cX12_deedNow 29 = .ok (.invokevirtual 146, 3) := by decide +kernel
theorem dX12_deedNow_32 : decode cX12_deedNow 32 = .ok (.ireturn, 1) := by decide +kernel
set_option maxRecDepth 20000 in
theorem ggX12_deed_X12_isDeed : GoodIn wsX12_deed wsX12_isDeed := goodIn_r _ [5, 6, 7, 8, 4, 9, 30, 31, 32, 33, 34, 35, 36, 37, 38, 39, 40, 41, 42, 43, 44, 45, 46, 47, 48, 49, 50, 51, 52, 53, 54, 55, 56, 57, 58, 59, 60, 61, 62, 63, 64, 65, 66] (by decide +kernel) (by decide +kernel)
set_option maxRecDepth 20000 in
theorem gX12_deed_X12_isDeed : GoodIn wsX12_deed (wsV RX12 149 RX12 yX12_isDeed wsX12_isDeed) := goodIn_app (goodIn_of _ (by decide +kernel)) ggX12_deed_X12_isDeed
set_option maxRecDepth 20000 in
theorem ggX12_deed_X12_within : GoodIn wsX12_deed wsX12_within := goodIn_r _ [9] (by decide +kernel) (by decide +kernel)
set_option maxRecDepth 20000 in
theorem gX12_deed_X12_within : GoodIn wsX12_deed (va_wsS RX12 68 yX12_within wsX12_within) := goodIn_app (goodIn_of _ (by decide +kernel)) ggX12_deed_X12_within
set_option maxRecDepth 20000 in
theorem ggX12_deed_X12_deedNow : GoodIn wsX12_deed wsX12_deedNow := goodIn_r _ [13, 14, 15, 16, 17, 18, 4, 19, 20, 21, 22, 23, 24, 25, 26, 27, 28, 29, 30, 31, 32, 33, 34, 35, 36, 37, 38, 39, 40, 41, 42, 43, 44, 45, 46, 47, 48, 49, 50, 51, 52, 53, 54, 55, 56, 57, 58, 59, 60, 61, 62, 63, 64, 65, 66] (by decide +kernel) (by decide +kernel)
set_option maxRecDepth 20000 in
theorem gX12_deed_X12_deedNow : GoodIn wsX12_deed (wsV RX12 152 RX12 yX12_deedNow wsX12_deedNow) := goodIn_app (goodIn_of _ (by decide +kernel)) ggX12_deed_X12_deedNow
theorem dX12_deed_0 : decode cX12_deed 0 = .ok (.aload_n 0, 1) := by decide +kernel
theorem dX12_deed_1 : decode cX12_deed 1 = .ok (.iload_n 1, 1) := by decide +kernel
theorem dX12_deed_2 : decode cX12_deed 2 = .ok (.invokevirtual 149, 3) := by decide +kernel
theorem dX12_deed_5 : decode cX12_deed 5 = .ok (.ifCond .ne 8, 3) := by decide +kernel
theorem dX12_deed_8 : decode cX12_deed 8 = .ok (.bipush (-101), 2) := by decide +kernel
theorem dX12_deed_10 : decode cX12_deed 10 = .ok (.goto 23, 3) := by decide +kernel
theorem dX12_deed_13 : decode cX12_deed 13 = .ok (.iload_n 2, 1) := by decide +kernel
theorem dX12_deed_14 : decode cX12_deed 14 = .ok (.iconst 0, 1) := by decide +kernel
theorem dX12_deed_15 : decode cX12_deed 15 = .ok (.iconst 2, 1) := by decide +kernel
theorem dX12_deed_16 : decode cX12_deed 16 = .ok (.invokestatic 68, 3) := by decide +kernel
theorem dX12_deed_19 : decode cX12_deed 19 = .ok (.ifCond .eq 12, 3) := by decide +kernel
theorem dX12_deed_22 : decode cX12_deed 22 = .ok (.aload_n 0, 1) := by decide +kernel
theorem dX12_deed_23 : decode cX12_deed 23 = .ok (.iload_n 1, 1) := by decide +kernel
theorem dX12_deed_24 : decode cX12_deed 24 = .ok (.iload_n 2, 1) := by decide +kernel
theorem dX12_deed_25 : decode cX12_deed 25 = .ok (.invokevirtual 152, 3) := by decide +kernel
theorem dX12_deed_28 : decode cX12_deed 28 = .ok (.goto 5, 3) := by decide +kernel
theorem dX12_deed_31 : decode cX12_deed 31 = .ok (.bipush (-102), 2) := by decide +kernel
theorem dX12_deed_33 : decode cX12_deed 33 = .ok (.ireturn, 1) := by decide +kernel
set_option maxRecDepth 20000 in
theorem ggX12_free_X12_isDeed : GoodIn wsX12_free wsX12_isDeed := goodIn_r _ [6, 7, 8, 9, 5, 10, 22, 23, 24, 25, 26, 27, 28, 29, 30, 31, 32, 33, 34, 35, 36, 37, 38, 39, 40, 41, 42, 43, 44, 45, 46, 47, 48, 49, 50, 51, 52, 53, 54, 55, 56, 57, 58] (by decide +kernel) (by decide +kernel)
set_option maxRecDepth 20000 in
theorem gX12_free_X12_isDeed : GoodIn wsX12_free (wsV RX12 149 RX12 yX12_isDeed wsX12_isDeed) := goodIn_app (goodIn_of _ (by decide +kernel)) ggX12_free_X12_isDeed
set_option maxRecDepth 20000 in
theorem ggX12_free_X12_isOne : GoodIn wsX12_free wsX12_isOne := goodIn_r _ [14, 15, 8, 9, 5, 10, 22, 23, 24, 25, 26, 27, 28, 29, 30, 31, 32, 33, 34, 35, 36, 37, 38, 39, 40, 41, 42, 43, 44, 45, 46, 47, 48, 49, 50, 51, 52, 53, 54, 55, 56, 57, 58] (by decide +kernel) (by decide +kernel)
set_option maxRecDepth 20000 in
theorem gX12_free_X12_isOne : GoodIn wsX12_free (wsV RX12 139 RX12 yX12_isOne wsX12_isOne) := goodIn_app (goodIn_of _ (by decide +kernel)) ggX12_free_X12_isOne
set_option maxRecDepth 20000 in
theorem ggX12_free_X12_isIn : GoodIn wsX12_free wsX12_isIn := goodIn_r _ [18] (by decide +kernel) (by decide +kernel)
set_option maxRecDepth 20000 in
theorem gX12_free_X12_isIn : GoodIn wsX12_free (va_wsS RX12 109 yX12_isIn wsX12_isIn) := goodIn_app (goodIn_of _ (by decide +kernel)) ggX12_free_X12_isIn
set_option maxRecDepth 20000 in
theorem ggX12_free_X12_size : GoodIn wsX12_free wsX12_size := goodIn_r _ [21] (by decide +kernel) (by decide +kernel)
set_option maxRecDepth 20000 in
theorem gX12_free_X12_size : GoodIn wsX12_free (va_wsS RX12 155 yX12_size wsX12_size) := goodIn_app (goodIn_of _ (by decide +kernel)) ggX12_free_X12_size
theorem dX12_free_0 : decode cX12_free 0 = .ok (.aload_n 0, 1) := by decide +kernel
theorem dX12_free_1 : decode cX12_free 1 = .ok (.iload_n 1, 1) := by decide +kernel
theorem dX12_free_2 : decode cX12_free 2 = .ok (.invokevirtual 149, 3) := by decide +kernel
theorem dX12_free_5 : decode cX12_free 5 = .ok (.ifCond .eq 11, 3) := by decide +kernel
theorem dX12_free_8 : decode cX12_free 8 = .ok (.aload_n 0, 1) := by decide +kernel
theorem dX12_free_9 : decode cX12_free 9 = .ok (.iload_n 2, 1) := by decide +kernel
theorem dX12_free_10 : decode cX12_free 10 = .ok (.invokevirtual 139, 3) := by decide +kernel
theorem dX12_free_13 : decode cX12_free 13 = .ok (.ifCond .ne 6, 3) := by decide +kernel
theorem dX12_free_16 : decode cX12_free 16 = .ok (.bipush (-101), 2) := by decide +kernel
theorem dX12_free_18 : decode cX12_free 18 = .ok (.ireturn, 1) := by decide +kernel
theorem dX12_free_19 : decode cX12_free 19 = .ok (.aload_n 0, 1) := by decide +kernel
theorem dX12_free_20 : decode cX12_free 20 = .ok (.getfield 25, 3) := by decide +kernel
theorem dX12_free_23 : decode cX12_free 23 = .ok (.iload_n 1, 1) := by decide +kernel
theorem dX12_free_24 : decode cX12_free 24 = .ok (.iaload, 1) := by decide +kernel
theorem dX12_free_25 : decode cX12_free 25 = .ok (.iload_n 2, 1) := by decide +kernel
theorem dX12_free_26 : decode cX12_free 26 = .ok (.invokestatic 109, 3) := by decide +kernel
theorem dX12_free_29 : decode cX12_free 29 = .ok (.ifCond .ne 6, 3) := by decide +kernel
theorem dX12_free_32 : decode cX12_free 32 = .ok (.bipush (-103), 2) := by decide +kernel
theorem dX12_free_34 : decode cX12_free 34 = .ok (.ireturn, 1) := by decide +kernel
theorem dX12_free_35 : decode cX12_free 35 = .ok (.aload_n 0, 1) := by decide +kernel
theorem dX12_free_36 : decode cX12_free 36 = .ok (.getfield 25, 3) := by decide +kernel
theorem dX12_free_39 : decode cX12_free 39 = .ok (.iload_n 1, 1) := by decide +kernel
theorem dX12_free_40 : decode cX12_free 40 = .ok (.dup2, 1) := by decide +kernel
theorem dX12_free_41 : decode cX12_free 41 = .ok (.iaload, 1) := by decide +kernel
theorem dX12_free_42 : decode cX12_free 42 = .ok (.iconst 1, 1) := by decide +kernel
theorem dX12_free_43 : decode cX12_free 43 = .ok (.iload_n 2, 1) := by decide +kernel
theorem dX12_free_44 : decode cX12_free 44 = .ok (.ishl, 1) := by decide +kernel
theorem dX12_free_45 : decode cX12_free 45 = .ok (.iconst (-1), 1) := by decide +kernel
theorem dX12_free_46 : decode cX12_free 46 = .ok (.ixor, 1) := by decide +kernel
theorem dX12_free_47 : decode cX12_free 47 = .ok (.iand, 1) := by decide +kernel
theorem dX12_free_48 : decode cX12_free 48 = .ok (.iastore, 1) := by decide +kernel
theorem dX12_free_49 : decode cX12_free 49 = .ok (.aload_n 0, 1) := by decide +kernel
theorem dX12_free_50 : decode cX12_free 50 = .ok (.getfield 25, 3) := by decide +kernel
theorem dX12_free_53 : decode cX12_free 53 = .ok (.iload_n 1, 1) := by decide +kernel
theorem dX12_free_54 : decode cX12_free 54 = .ok (.iaload, 1) := by decide +kernel
theorem dX12_free_55 : decode cX12_free 55 = .ok (.invokestatic 155, 3) := by decide +kernel
theorem dX12_free_58 : decode cX12_free 58 = .ok (.ireturn, 1) := by decide +kernel
set_option maxRecDepth 20000 in
theorem ggX12_owesNow_X12_isIn : GoodIn wsX12_owesNow wsX12_isIn := goodIn_r _ [7] (by decide +kernel) (by decide +kernel)
set_option maxRecDepth 20000 in
theorem gX12_owesNow_X12_isIn : GoodIn wsX12_owesNow (va_wsS RX12 109 yX12_isIn wsX12_isIn) := goodIn_app (goodIn_of _ (by decide +kernel)) ggX12_owesNow_X12_isIn
set_option maxRecDepth 20000 in
theorem ggX12_owesNow_X12_size : GoodIn wsX12_owesNow wsX12_size := goodIn_r _ [10] (by decide +kernel) (by decide +kernel)
set_option maxRecDepth 20000 in
theorem gX12_owesNow_X12_size : GoodIn wsX12_owesNow (va_wsS RX12 155 yX12_size wsX12_size) := goodIn_app (goodIn_of _ (by decide +kernel)) ggX12_owesNow_X12_size
theorem dX12_owesNow_0 : decode cX12_owesNow 0 = .ok (.iconst 0, 1) := by decide +kernel
theorem dX12_owesNow_1 : decode cX12_owesNow 1 = .ok (.istore_n 3, 1) := by decide +kernel
theorem dX12_owesNow_2 : decode cX12_owesNow 2 = .ok (.iconst 0, 1) := by decide +kernel
theorem dX12_owesNow_3 : decode cX12_owesNow 3 = .ok (.istore 4, 2) := by decide +kernel
theorem dX12_owesNow_5 : decode cX12_owesNow 5 = .ok (.iload 4, 2) := by decide +kernel
theorem dX12_owesNow_7 : decode cX12_owesNow 7 = .ok (.aload_n 0, 1) := by decide +kernel
theorem dX12_owesNow_8 : decode cX12_owesNow 8 = .ok (.getfield 103, 3) := by decide +kernel
theorem dX12_owesNow_11 : decode cX12_owesNow 11 = .ok (.if_icmp .ge 51, 3) := by decide +kernel
theorem dX12_owesNow_14 : decode cX12_owesNow 14 = .ok (.iload_n 3, 1) := by decide +kernel
theorem dX12_owesNow_15 : decode cX12_owesNow 15 = .ok (.aload_n 0, 1) := by decide +kernel
theorem dX12_owesNow_16 : decode cX12_owesNow 16 = .ok (.getfield 25, 3) := by decide +kernel
theorem dX12_owesNow_19 : decode cX12_owesNow 19 = .ok (.iload 4, 2) := by decide +kernel
theorem dX12_owesNow_21 : decode cX12_owesNow 21 = .ok (.iaload, 1) := by decide +kernel
theorem dX12_owesNow_22 : decode cX12_owesNow 22 = .ok (.iload_n 1, 1) := by decide +kernel
theorem dX12_owesNow_23 : decode cX12_owesNow 23 = .ok (.invokestatic 109, 3) := by decide +kernel
theorem dX12_owesNow_26 : decode cX12_owesNow 26 = .ok (.ifCond .eq 27, 3) := by decide +kernel
theorem dX12_owesNow_29 : decode cX12_owesNow 29 = .ok (.bipush 60, 2) := by decide +kernel
theorem dX12_owesNow_31 : decode cX12_owesNow 31 = .ok (.aload_n 0, 1) := by decide +kernel
theorem dX12_owesNow_32 : decode cX12_owesNow 32 = .ok (.getfield 22, 3) := by decide +kernel
theorem dX12_owesNow_35 : decode cX12_owesNow 35 = .ok (.iload 4, 2) := by decide +kernel
theorem dX12_owesNow_37 : decode cX12_owesNow 37 = .ok (.iaload, 1) := by decide +kernel
theorem dX12_owesNow_38 : decode cX12_owesNow 38 = .ok (.imul, 1) := by decide +kernel
theorem dX12_owesNow_39 : decode cX12_owesNow 39 = .ok (.aload_n 0, 1) := by decide +kernel
theorem dX12_owesNow_40 : decode cX12_owesNow 40 = .ok (.getfield 25, 3) := by decide +kernel
theorem dX12_owesNow_43 : decode cX12_owesNow 43 = .ok (.iload 4, 2) := by decide +kernel
theorem dX12_owesNow_45 : decode cX12_owesNow 45 = .ok (.iaload, 1) := by decide +kernel
theorem dX12_owesNow_46 : decode cX12_owesNow 46 = .ok (.invokestatic 155, 3) := by decide +kernel
theorem dX12_owesNow_49 : decode cX12_owesNow 49 = .ok (.idiv, 1) := by decide +kernel
theorem dX12_owesNow_50 : decode cX12_owesNow 50 = .ok (.goto 4, 3) := by decide +kernel
theorem dX12_owesNow_53 : decode cX12_owesNow 53 = .ok (.iconst 0, 1) := by decide +kernel
theorem dX12_owesNow_54 : decode cX12_owesNow 54 = .ok (.iadd, 1) := by decide +kernel
theorem dX12_owesNow_55 : decode cX12_owesNow 55 = .ok (.istore_n 3, 1) := by decide +kernel
theorem dX12_owesNow_56 : decode cX12_owesNow 56 = .ok (.iinc 4 1, 3) := by decide +kernel
theorem dX12_owesNow_59 : decode cX12_owesNow 59 = .ok (.goto (-54), 3) := by decide +kernel
theorem dX12_owesNow_62 : decode cX12_owesNow 62 = .ok (.iload_n 3, 1) := by decide +kernel
theorem dX12_owesNow_63 : decode cX12_owesNow 63 = .ok (.istore 4, 2) := by decide +kernel
theorem dX12_owesNow_65 : decode cX12_owesNow 65 = .ok (.bipush 60, 2) := by decide +kernel
theorem dX12_owesNow_67 : decode cX12_owesNow 67 = .ok (.istore 5, 2) := by decide +kernel
theorem dX12_owesNow_69 : decode cX12_owesNow 69 = .ok (.iload 5, 2) := by decide +kernel
theorem dX12_owesNow_71 : decode cX12_owesNow 71 = .ok (.ifCond .eq 21, 3) := by decide +kernel
theorem dX12_owesNow_74 : decode cX12_owesNow 74 = .ok (.iload 4, 2) := by decide +kernel
theorem dX12_owesNow_76 : decode cX12_owesNow 76 = .ok (.iload 5, 2) := by decide +kernel
theorem dX12_owesNow_78 : decode cX12_owesNow 78 = .ok (.irem, 1) := by decide +kernel
theorem dX12_owesNow_79 : decode cX12_owesNow 79 = .ok (.istore 6, 2) := by decide +kernel
theorem dX12_owesNow_81 : decode cX12_owesNow 81 = .ok (.iload 5, 2) := by decide +kernel
theorem dX12_owesNow_83 : decode cX12_owesNow 83 = .ok (.istore 4, 2) := by decide +kernel
theorem dX12_owesNow_85 : decode cX12_owesNow 85 = .ok (.iload 6, 2) := by decide +kernel
theorem dX12_owesNow_87 : decode cX12_owesNow 87 = .ok (.istore 5, 2) := by decide +kernel
theorem dX12_owesNow_89 : decode cX12_owesNow 89 = .ok (.goto (-20), 3) := by decide +kernel
theorem dX12_owesNow_92 : decode cX12_owesNow 92 = .ok (.iload_n 2, 1) := by decide +kernel
theorem dX12_owesNow_93 : decode cX12_owesNow 93 = .ok (.ifCond .ne 10, 3) := by decide +kernel
theorem dX12_owesNow_96 : decode cX12_owesNow 96 = .ok (.iload_n 3, 1) := by decide +kernel
theorem dX12_owesNow_97 : decode cX12_owesNow 97 = .ok (.iload 4, 2) := by decide +kernel
theorem dX12_owesNow_99 : decode cX12_owesNow 99 = .ok (.idiv, 1) := by decide +kernel
theorem dX12_owesNow_100 : decode cX12_owesNow 100 = .ok (.goto 8, 3) := by decide +kernel
theorem dX12_owesNow_103 : decode cX12_owesNow 103 = .ok (.bipush 60, 2) := by decide +kernel
theorem dX12_owesNow_105 : decode cX12_owesNow 105 = .ok (.iload 4, 2) := by decide +kernel
theorem dX12_owesNow_107 : decode cX12_owesNow 107 = .ok (.idiv, 1) := by decide +kernel
theorem dX12_owesNow_108 : decode cX12_owesNow 108 = .ok (.ireturn, 1) := by decide +kernel
set_option maxRecDepth 20000 in
theorem ggX12_owes_X12_isOne : GoodIn wsX12_owes wsX12_isOne := goodIn_r _ [5, 6, 7, 8, 4, 9, 23, 24, 25, 26, 27, 28, 29, 30, 31, 32, 33, 34, 35, 36, 37, 38, 39, 40, 41, 42, 43, 44, 45, 46, 47, 48, 49, 50, 51, 52, 53, 54, 55, 56, 57, 58, 59] (by decide +kernel) (by decide +kernel)
set_option maxRecDepth 20000 in
theorem gX12_owes_X12_isOne : GoodIn wsX12_owes (wsV RX12 139 RX12 yX12_isOne wsX12_isOne) := goodIn_app (goodIn_of _ (by decide +kernel)) ggX12_owes_X12_isOne
set_option maxRecDepth 20000 in
theorem ggX12_owes_X12_within : GoodIn wsX12_owes wsX12_within := goodIn_r _ [9] (by decide +kernel) (by decide +kernel)
set_option maxRecDepth 20000 in
theorem gX12_owes_X12_within : GoodIn wsX12_owes (va_wsS RX12 68 yX12_within wsX12_within) := goodIn_app (goodIn_of _ (by decide +kernel)) ggX12_owes_X12_within
set_option maxRecDepth 20000 in
theorem ggX12_owes_X12_owesNow : GoodIn wsX12_owes wsX12_owesNow := goodIn_r _ [13, 14, 15, 16, 17, 18, 4, 19, 20, 21, 22, 23, 24, 25, 26, 27, 28, 29, 30, 31, 32, 33, 34, 35, 36, 37, 38, 39, 40, 41, 42, 43, 44, 45, 46, 47, 48, 49, 50, 51, 52, 53, 54, 55, 56, 57, 58, 59] (by decide +kernel) (by decide +kernel)
set_option maxRecDepth 20000 in
theorem gX12_owes_X12_owesNow : GoodIn wsX12_owes (wsV RX12 158 RX12 yX12_owesNow wsX12_owesNow) := goodIn_app (goodIn_of _ (by decide +kernel)) ggX12_owes_X12_owesNow
theorem dX12_owes_0 : decode cX12_owes 0 = .ok (.aload_n 0, 1) := by decide +kernel
theorem dX12_owes_1 : decode cX12_owes 1 = .ok (.iload_n 1, 1) := by decide +kernel
theorem dX12_owes_2 : decode cX12_owes 2 = .ok (.invokevirtual 139, 3) := by decide +kernel
theorem dX12_owes_5 : decode cX12_owes 5 = .ok (.ifCond .ne 8, 3) := by decide +kernel
theorem dX12_owes_8 : decode cX12_owes 8 = .ok (.bipush (-101), 2) := by decide +kernel
theorem dX12_owes_10 : decode cX12_owes 10 = .ok (.goto 23, 3) := by decide +kernel
theorem dX12_owes_13 : decode cX12_owes 13 = .ok (.iload_n 2, 1) := by decide +kernel
theorem dX12_owes_14 : decode cX12_owes 14 = .ok (.iconst 0, 1) := by decide +kernel
theorem dX12_owes_15 : decode cX12_owes 15 = .ok (.iconst 1, 1) := by decide +kernel
theorem dX12_owes_16 : decode cX12_owes 16 = .ok (.invokestatic 68, 3) := by decide +kernel
theorem dX12_owes_19 : decode cX12_owes 19 = .ok (.ifCond .eq 12, 3) := by decide +kernel
theorem dX12_owes_22 : decode cX12_owes 22 = .ok (.aload_n 0, 1) := by decide +kernel
theorem dX12_owes_23 : decode cX12_owes 23 = .ok (.iload_n 1, 1) := by decide +kernel
theorem dX12_owes_24 : decode cX12_owes 24 = .ok (.iload_n 2, 1) := by decide +kernel
theorem dX12_owes_25 : decode cX12_owes 25 = .ok (.invokevirtual 158, 3) := by decide +kernel
theorem dX12_owes_28 : decode cX12_owes 28 = .ok (.goto 5, 3) := by decide +kernel
theorem dX12_owes_31 : decode cX12_owes 31 = .ok (.bipush (-102), 2) := by decide +kernel
theorem dX12_owes_33 : decode cX12_owes 33 = .ok (.ireturn, 1) := by decide +kernel
set_option maxRecDepth 20000 in
theorem ggX12_lendBy_X12_think : GoodIn wsX12_lendBy wsX12_think := goodIn_r _ [6, 7, 8, 9, 10, 11, 12, 13, 5, 14, 36, 37, 38, 39, 40, 41, 42, 43, 44, 45, 46, 47, 48, 49, 50, 51, 52, 53, 54, 55, 56, 57, 58, 59, 60, 61, 62, 63, 64, 65, 66, 67, 68, 69, 70, 71, 72] (by decide +kernel) (by decide +kernel)
set_option maxRecDepth 20000 in
theorem gX12_lendBy_X12_think : GoodIn wsX12_lendBy (wsV RX12 117 RX12 yX12_think wsX12_think) := goodIn_app (goodIn_of _ (by decide +kernel)) ggX12_lendBy_X12_think
set_option maxRecDepth 20000 in
theorem ggX12_lendBy_X12_isOne : GoodIn wsX12_lendBy wsX12_isOne := goodIn_r _ [18, 19, 20, 21, 5, 22, 36, 37, 38, 39, 40, 41, 42, 43, 44, 45, 46, 47, 48, 49, 50, 51, 52, 53, 54, 55, 56, 57, 58, 59, 60, 61, 62, 63, 64, 65, 66, 67, 68, 69, 70, 71, 72] (by decide +kernel) (by decide +kernel)
set_option maxRecDepth 20000 in
theorem gX12_lendBy_X12_isOne : GoodIn wsX12_lendBy (wsV RX12 139 RX12 yX12_isOne wsX12_isOne) := goodIn_app (goodIn_of _ (by decide +kernel)) ggX12_lendBy_X12_isOne
set_option maxRecDepth 20000 in
theorem ggX12_lendBy_X12_mayThink : GoodIn wsX12_lendBy wsX12_mayThink := goodIn_r _ [26, 11, 8, 27, 28, 29, 5, 30, 31, 36, 37, 38, 39, 40, 41, 42, 43, 44, 45, 46, 47, 48, 49, 50, 51, 52, 53, 54, 55, 56, 57, 58, 59, 60, 61, 62, 63, 64, 65, 66, 67, 68, 69, 70, 71, 72] (by decide +kernel) (by decide +kernel)
set_option maxRecDepth 20000 in
theorem gX12_lendBy_X12_mayThink : GoodIn wsX12_lendBy (wsV RX12 164 RX12 yX12_mayThink wsX12_mayThink) := goodIn_app (goodIn_of _ (by decide +kernel)) ggX12_lendBy_X12_mayThink
set_option maxRecDepth 20000 in
theorem ggX12_lendBy_X12_thinkLent : GoodIn wsX12_lendBy wsX12_thinkLent := goodIn_r _ [35, 7, 11, 8, 36, 37, 38, 39, 40, 41, 42, 43, 44, 45, 46, 47, 48, 49, 50, 51, 52, 53, 54, 55, 56, 57, 58, 59, 60, 61, 62, 63, 64, 65, 66, 67, 68, 69, 70, 71, 72] (by decide +kernel) (by decide +kernel)
set_option maxRecDepth 20000 in
theorem gX12_lendBy_X12_thinkLent : GoodIn wsX12_lendBy (wsV RX12 167 RX12 yX12_thinkLent wsX12_thinkLent) := goodIn_app (goodIn_of _ (by decide +kernel)) ggX12_lendBy_X12_thinkLent
theorem dX12_lendBy_0 : decode cX12_lendBy 0 = .ok (.aload_n 0, 1) := by decide +kernel
theorem dX12_lendBy_1 : decode cX12_lendBy 1 = .ok (.iload_n 1, 1) := by decide +kernel
theorem dX12_lendBy_2 : decode cX12_lendBy 2 = .ok (.invokevirtual 117, 3) := by decide +kernel
theorem dX12_lendBy_5 : decode cX12_lendBy 5 = .ok (.iload_n 3, 1) := by decide +kernel
theorem dX12_lendBy_6 : decode cX12_lendBy 6 = .ok (.istore 4, 2) := by decide +kernel
theorem dX12_lendBy_8 : decode cX12_lendBy 8 = .ok (.iconst 1, 1) := by decide +kernel
theorem dX12_lendBy_9 : decode cX12_lendBy 9 = .ok (.istore 5, 2) := by decide +kernel
theorem dX12_lendBy_11 : decode cX12_lendBy 11 = .ok (.iconst 0, 1) := by decide +kernel
theorem dX12_lendBy_12 : decode cX12_lendBy 12 = .ok (.istore 6, 2) := by decide +kernel
theorem dX12_lendBy_14 : decode cX12_lendBy 14 = .ok (.iload 6, 2) := by decide +kernel
theorem dX12_lendBy_16 : decode cX12_lendBy 16 = .ok (.iload_n 2, 1) := by decide +kernel
theorem dX12_lendBy_17 : decode cX12_lendBy 17 = .ok (.if_icmp .ge 15, 3) := by decide +kernel
theorem dX12_lendBy_20 : decode cX12_lendBy 20 = .ok (.iload 5, 2) := by decide +kernel
theorem dX12_lendBy_22 : decode cX12_lendBy 22 = .ok (.iconst 5, 1) := by decide +kernel
theorem dX12_lendBy_23 : decode cX12_lendBy 23 = .ok (.imul, 1) := by decide +kernel
theorem dX12_lendBy_24 : decode cX12_lendBy 24 = .ok (.istore 5, 2) := by decide +kernel
theorem dX12_lendBy_26 : decode cX12_lendBy 26 = .ok (.iinc 6 1, 3) := by decide +kernel
theorem dX12_lendBy_29 : decode cX12_lendBy 29 = .ok (.goto (-15), 3) := by decide +kernel
theorem dX12_lendBy_32 : decode cX12_lendBy 32 = .ok (.aload_n 0, 1) := by decide +kernel
theorem dX12_lendBy_33 : decode cX12_lendBy 33 = .ok (.iconst (-1), 1) := by decide +kernel
theorem dX12_lendBy_34 : decode cX12_lendBy 34 = .ok (.putfield 161, 3) := by decide +kernel
theorem dX12_lendBy_37 : decode cX12_lendBy 37 = .ok (.iconst 0, 1) := by decide +kernel
theorem dX12_lendBy_38 : decode cX12_lendBy 38 = .ok (.istore 6, 2) := by decide +kernel
theorem dX12_lendBy_40 : decode cX12_lendBy 40 = .ok (.iload 6, 2) := by decide +kernel
theorem dX12_lendBy_42 : decode cX12_lendBy 42 = .ok (.iload_n 2, 1) := by decide +kernel
theorem dX12_lendBy_43 : decode cX12_lendBy 43 = .ok (.if_icmp .ge 75, 3) := by decide +kernel
theorem dX12_lendBy_46 : decode cX12_lendBy 46 = .ok (.iload 5, 2) := by decide +kernel
theorem dX12_lendBy_48 : decode cX12_lendBy 48 = .ok (.iconst 5, 1) := by decide +kernel
theorem dX12_lendBy_49 : decode cX12_lendBy 49 = .ok (.idiv, 1) := by decide +kernel
theorem dX12_lendBy_50 : decode cX12_lendBy 50 = .ok (.istore 5, 2) := by decide +kernel
theorem dX12_lendBy_52 : decode cX12_lendBy 52 = .ok (.iload 4, 2) := by decide +kernel
theorem dX12_lendBy_54 : decode cX12_lendBy 54 = .ok (.iload 5, 2) := by decide +kernel
theorem dX12_lendBy_56 : decode cX12_lendBy 56 = .ok (.idiv, 1) := by decide +kernel
theorem dX12_lendBy_57 : decode cX12_lendBy 57 = .ok (.istore 7, 2) := by decide +kernel
theorem dX12_lendBy_59 : decode cX12_lendBy 59 = .ok (.iload 4, 2) := by decide +kernel
theorem dX12_lendBy_61 : decode cX12_lendBy 61 = .ok (.iload 5, 2) := by decide +kernel
theorem dX12_lendBy_63 : decode cX12_lendBy 63 = .ok (.irem, 1) := by decide +kernel
theorem dX12_lendBy_64 : decode cX12_lendBy 64 = .ok (.istore 4, 2) := by decide +kernel
theorem dX12_lendBy_66 : decode cX12_lendBy 66 = .ok (.aload_n 0, 1) := by decide +kernel
theorem dX12_lendBy_67 : decode cX12_lendBy 67 = .ok (.iload 7, 2) := by decide +kernel
theorem dX12_lendBy_69 : decode cX12_lendBy 69 = .ok (.invokevirtual 139, 3) := by decide +kernel
theorem dX12_lendBy_72 : decode cX12_lendBy 72 = .ok (.ifCond .eq 13, 3) := by decide +kernel
theorem dX12_lendBy_75 : decode cX12_lendBy 75 = .ok (.aload_n 0, 1) := by decide +kernel
theorem dX12_lendBy_76 : decode cX12_lendBy 76 = .ok (.iload_n 1, 1) := by decide +kernel
theorem dX12_lendBy_77 : decode cX12_lendBy 77 = .ok (.iload 7, 2) := by decide +kernel
theorem dX12_lendBy_79 : decode cX12_lendBy 79 = .ok (.invokevirtual 164, 3) := by decide +kernel
theorem dX12_lendBy_82 : decode cX12_lendBy 82 = .ok (.ifCond .ne 5, 3) := by decide +kernel
theorem dX12_lendBy_85 : decode cX12_lendBy 85 = .ok (.iconst 0, 1) := by decide +kernel
theorem dX12_lendBy_86 : decode cX12_lendBy 86 = .ok (.ireturn, 1) := by decide +kernel
theorem dX12_lendBy_87 : decode cX12_lendBy 87 = .ok (.aload_n 0, 1) := by decide +kernel
theorem dX12_lendBy_88 : decode cX12_lendBy 88 = .ok (.iload 6, 2) := by decide +kernel
theorem dX12_lendBy_90 : decode cX12_lendBy 90 = .ok (.ifCond .ne 8, 3) := by decide +kernel
theorem dX12_lendBy_93 : decode cX12_lendBy 93 = .ok (.iload 7, 2) := by decide +kernel
theorem dX12_lendBy_95 : decode cX12_lendBy 95 = .ok (.goto 7, 3) := by decide +kernel
theorem dX12_lendBy_98 : decode cX12_lendBy 98 = .ok (.aload_n 0, 1) := by decide +kernel
theorem dX12_lendBy_99 : decode cX12_lendBy 99 = .ok (.getfield 161, 3) := by decide +kernel
theorem dX12_lendBy_102 : decode cX12_lendBy 102 = .ok (.putfield 161, 3) := by decide +kernel
theorem dX12_lendBy_105 : decode cX12_lendBy 105 = .ok (.aload_n 0, 1) := by decide +kernel
theorem dX12_lendBy_106 : decode cX12_lendBy 106 = .ok (.iload_n 1, 1) := by decide +kernel
theorem dX12_lendBy_107 : decode cX12_lendBy 107 = .ok (.iload 7, 2) := by decide +kernel
theorem dX12_lendBy_109 : decode cX12_lendBy 109 = .ok (.invokevirtual 167, 3) := by decide +kernel
theorem dX12_lendBy_112 : decode cX12_lendBy 112 = .ok (.iinc 6 1, 3) := by decide +kernel
theorem dX12_lendBy_115 : decode cX12_lendBy 115 = .ok (.goto (-75), 3) := by decide +kernel
theorem dX12_lendBy_118 : decode cX12_lendBy 118 = .ok (.iconst 1, 1) := by decide +kernel
theorem dX12_lendBy_119 : decode cX12_lendBy 119 = .ok (.ireturn, 1) := by decide +kernel
theorem dX12_codes_0 : decode cX12_codes 0 = .ok (.iconst 1, 1) := by decide +kernel
theorem dX12_codes_1 : decode cX12_codes 1 = .ok (.istore_n 1, 1) := by decide +kernel
theorem dX12_codes_2 : decode cX12_codes 2 = .ok (.iconst 0, 1) := by decide +kernel
theorem dX12_codes_3 : decode cX12_codes 3 = .ok (.istore_n 2, 1) := by decide +kernel
theorem dX12_codes_4 : decode cX12_codes 4 = .ok (.iload_n 2, 1) := by decide +kernel
theorem dX12_codes_5 : decode cX12_codes 5 = .ok (.iload_n 0, 1) := by decide +kernel
theorem dX12_codes_6 : decode cX12_codes 6 = .ok (.if_icmp .ge 13, 3) := by decide +kernel
theorem dX12_codes_9 : decode cX12_codes 9 = .ok (.iload_n 1, 1) := by decide +kernel
theorem dX12_codes_10 : decode cX12_codes 10 = .ok (.iconst 5, 1) := by decide +kernel
theorem dX12_codes_11 : decode cX12_codes 11 = .ok (.imul, 1) := by decide +kernel
theorem dX12_codes_12 : decode cX12_codes 12 = .ok (.istore_n 1, 1) := by decide +kernel
theorem dX12_codes_13 : decode cX12_codes 13 = .ok (.iinc 2 1, 3) := by decide +kernel
theorem dX12_codes_16 : decode cX12_codes 16 = .ok (.goto (-12), 3) := by decide +kernel
theorem dX12_codes_19 : decode cX12_codes 19 = .ok (.iload_n 1, 1) := by decide +kernel
theorem dX12_codes_20 : decode cX12_codes 20 = .ok (.ireturn, 1) := by decide +kernel
set_option maxRecDepth 20000 in
theorem ggX12_wayNow_X12_codes : GoodIn wsX12_wayNow wsX12_codes := goodIn_r _ [5] (by decide +kernel) (by decide +kernel)
set_option maxRecDepth 20000 in
theorem gX12_wayNow_X12_codes : GoodIn wsX12_wayNow (va_wsS RX12 171 yX12_codes wsX12_codes) := goodIn_app (goodIn_of _ (by decide +kernel)) ggX12_wayNow_X12_codes
set_option maxRecDepth 20000 in
theorem ggX12_wayNow_X12_lendBy : GoodIn wsX12_wayNow wsX12_lendBy := goodIn_r _ [9, 1, 10, 11, 12, 4, 13, 14, 15, 16, 17, 18, 19, 20, 21, 22, 23, 24, 25, 26, 27, 28, 29, 30, 31, 32, 33, 34, 35, 36, 37, 38, 39, 40, 41, 42, 48, 49, 50, 51, 52, 53, 54, 55, 56, 57, 58, 59, 60, 61, 62, 63, 64, 65, 66, 67, 68, 69, 70, 71, 72, 73, 74, 75, 76, 77, 78, 79, 80, 81, 82, 83, 84] (by decide +kernel) (by decide +kernel)
set_option maxRecDepth 20000 in
theorem gX12_wayNow_X12_lendBy : GoodIn wsX12_wayNow (wsV RX12 174 RX12 yX12_lendBy wsX12_lendBy) := goodIn_app (goodIn_of _ (by decide +kernel)) ggX12_wayNow_X12_lendBy
set_option maxRecDepth 20000 in
theorem ggX12_wayNow_X12_boundThought : GoodIn wsX12_wayNow wsX12_boundThought := goodIn_r _ [46, 14, 47, 18, 38, 48, 49, 50, 51, 52, 53, 54, 55, 56, 57, 58, 59, 60, 61, 62, 63, 64, 65, 66, 67, 68, 69, 70, 71, 72, 73, 74, 75, 76, 77, 78, 79, 80, 81, 82, 83, 84] (by decide +kernel) (by decide +kernel)
set_option maxRecDepth 20000 in
theorem gX12_wayNow_X12_boundThought : GoodIn wsX12_wayNow (wsV RX12 121 RX12 yX12_boundThought wsX12_boundThought) := goodIn_app (goodIn_of _ (by decide +kernel)) ggX12_wayNow_X12_boundThought
theorem dX12_wayNow_0 : decode cX12_wayNow 0 = .ok (.iconst 0, 1) := by decide +kernel
theorem dX12_wayNow_1 : decode cX12_wayNow 1 = .ok (.istore 4, 2) := by decide +kernel
theorem dX12_wayNow_3 : decode cX12_wayNow 3 = .ok (.iload 4, 2) := by decide +kernel
theorem dX12_wayNow_5 : decode cX12_wayNow 5 = .ok (.iconst 4, 1) := by decide +kernel
theorem dX12_wayNow_6 : decode cX12_wayNow 6 = .ok (.if_icmp .gt 63, 3) := by decide +kernel
theorem dX12_wayNow_9 : decode cX12_wayNow 9 = .ok (.iconst 0, 1) := by decide +kernel
theorem dX12_wayNow_10 : decode cX12_wayNow 10 = .ok (.istore 5, 2) := by decide +kernel
theorem dX12_wayNow_12 : decode cX12_wayNow 12 = .ok (.iload 5, 2) := by decide +kernel
theorem dX12_wayNow_14 : decode cX12_wayNow 14 = .ok (.iload 4, 2) := by decide +kernel
theorem dX12_wayNow_16 : decode cX12_wayNow 16 = .ok (.invokestatic 171, 3) := by decide +kernel
theorem dX12_wayNow_19 : decode cX12_wayNow 19 = .ok (.if_icmp .ge 44, 3) := by decide +kernel
theorem dX12_wayNow_22 : decode cX12_wayNow 22 = .ok (.aload_n 0, 1) := by decide +kernel
theorem dX12_wayNow_23 : decode cX12_wayNow 23 = .ok (.iload_n 1, 1) := by decide +kernel
theorem dX12_wayNow_24 : decode cX12_wayNow 24 = .ok (.iload 4, 2) := by decide +kernel
theorem dX12_wayNow_26 : decode cX12_wayNow 26 = .ok (.iload 5, 2) := by decide +kernel
theorem dX12_wayNow_28 : decode cX12_wayNow 28 = .ok (.invokevirtual 174, 3) := by decide +kernel
theorem dX12_wayNow_31 : decode cX12_wayNow 31 = .ok (.ifCond .eq 26, 3) := by decide +kernel
theorem dX12_wayNow_34 : decode cX12_wayNow 34 = .ok (.aload_n 0, 1) := by decide +kernel
theorem dX12_wayNow_35 : decode cX12_wayNow 35 = .ok (.iload_n 1, 1) := by decide +kernel
theorem dX12_wayNow_36 : decode cX12_wayNow 36 = .ok (.invokevirtual 121, 3) := by decide +kernel
theorem dX12_wayNow_39 : decode cX12_wayNow 39 = .ok (.iload_n 2, 1) := by decide +kernel
theorem dX12_wayNow_40 : decode cX12_wayNow 40 = .ok (.if_icmp .ne 17, 3) := by decide +kernel
theorem dX12_wayNow_43 : decode cX12_wayNow 43 = .ok (.iload_n 3, 1) := by decide +kernel
theorem dX12_wayNow_44 : decode cX12_wayNow 44 = .ok (.ifCond .ne 8, 3) := by decide +kernel
theorem dX12_wayNow_47 : decode cX12_wayNow 47 = .ok (.iload 4, 2) := by decide +kernel
theorem dX12_wayNow_49 : decode cX12_wayNow 49 = .ok (.goto 7, 3) := by decide +kernel
theorem dX12_wayNow_52 : decode cX12_wayNow 52 = .ok (.aload_n 0, 1) := by decide +kernel
theorem dX12_wayNow_53 : decode cX12_wayNow 53 = .ok (.getfield 161, 3) := by decide +kernel
theorem dX12_wayNow_56 : decode cX12_wayNow 56 = .ok (.ireturn, 1) := by decide +kernel
theorem dX12_wayNow_57 : decode cX12_wayNow 57 = .ok (.iinc 5 1, 3) := by decide +kernel
theorem dX12_wayNow_60 : decode cX12_wayNow 60 = .ok (.goto (-48), 3) := by decide +kernel
theorem dX12_wayNow_63 : decode cX12_wayNow 63 = .ok (.iinc 4 1, 3) := by decide +kernel
theorem dX12_wayNow_66 : decode cX12_wayNow 66 = .ok (.goto (-63), 3) := by decide +kernel
theorem dX12_wayNow_69 : decode cX12_wayNow 69 = .ok (.iconst (-1), 1) := by decide +kernel
theorem dX12_wayNow_70 : decode cX12_wayNow 70 = .ok (.ireturn, 1) := by decide +kernel
set_option maxRecDepth 20000 in
theorem ggX12_way_X12_isOne : GoodIn wsX12_way wsX12_isOne := goodIn_r _ [7, 1, 8, 9, 6, 10, 53, 54, 55, 56, 57, 58, 59, 60, 61, 62, 63, 64, 65, 66, 67, 68, 69, 70, 71, 72, 73, 74, 75, 76, 77, 78, 79, 80, 81, 82, 83, 84, 85, 86, 87, 88, 89] (by decide +kernel) (by decide +kernel)
set_option maxRecDepth 20000 in
theorem gX12_way_X12_isOne : GoodIn wsX12_way (wsV RX12 139 RX12 yX12_isOne wsX12_isOne) := goodIn_app (goodIn_of _ (by decide +kernel)) ggX12_way_X12_isOne
set_option maxRecDepth 20000 in
theorem ggX12_way_X12_within : GoodIn wsX12_way wsX12_within := goodIn_r _ [10] (by decide +kernel) (by decide +kernel)
set_option maxRecDepth 20000 in
theorem gX12_way_X12_within : GoodIn wsX12_way (va_wsS RX12 68 yX12_within wsX12_within) := goodIn_app (goodIn_of _ (by decide +kernel)) ggX12_way_X12_within
set_option maxRecDepth 20000 in
theorem ggX12_way_X12_wayNow : GoodIn wsX12_way wsX12_wayNow := goodIn_r _ [14, 15, 16, 17, 6, 18, 19, 20, 21, 22, 23, 24, 25, 26, 27, 28, 29, 30, 31, 32, 33, 34, 3, 4, 5, 7, 1, 8, 9, 10, 35, 36, 37, 38, 39, 40, 41, 42, 43, 44, 45, 46, 47, 48, 49, 50, 51, 52, 53, 54, 55, 56, 57, 58, 59, 60, 61, 62, 63, 64, 65, 66, 67, 68, 69, 70, 71, 72, 73, 74, 75, 76, 77, 78, 79, 80, 81, 82, 83, 84, 85, 86, 87, 88, 89] (by decide +kernel) (by decide +kernel)
set_option maxRecDepth 20000 in
theorem gX12_way_X12_wayNow : GoodIn wsX12_way (wsV RX12 180 RX12 yX12_wayNow wsX12_wayNow) := goodIn_app (goodIn_of _ (by decide +kernel)) ggX12_way_X12_wayNow
theorem dX12_way_0 : decode cX12_way 0 = .ok (.aload_n 0, 1) := by decide +kernel
theorem dX12_way_1 : decode cX12_way 1 = .ok (.iload_n 1, 1) := by decide +kernel
theorem dX12_way_2 : decode cX12_way 2 = .ok (.invokevirtual 139, 3) := by decide +kernel
theorem dX12_way_5 : decode cX12_way 5 = .ok (.ifCond .ne 6, 3) := by decide +kernel
theorem dX12_way_8 : decode cX12_way 8 = .ok (.bipush (-101), 2) := by decide +kernel
theorem dX12_way_10 : decode cX12_way 10 = .ok (.ireturn, 1) := by decide +kernel
theorem dX12_way_11 : decode cX12_way 11 = .ok (.iload_n 2, 1) := by decide +kernel
theorem dX12_way_12 : decode cX12_way 12 = .ok (.iconst 0, 1) := by decide +kernel
theorem dX12_way_13 : decode cX12_way 13 = .ok (.iconst 1, 1) := by decide +kernel
theorem dX12_way_14 : decode cX12_way 14 = .ok (.aload_n 0, 1) := by decide +kernel
theorem dX12_way_15 : decode cX12_way 15 = .ok (.getfield 94, 3) := by decide +kernel
theorem dX12_way_18 : decode cX12_way 18 = .ok (.ishl, 1) := by decide +kernel
theorem dX12_way_19 : decode cX12_way 19 = .ok (.iconst 1, 1) := by decide +kernel
theorem dX12_way_20 : decode cX12_way 20 = .ok (.isub, 1) := by decide +kernel
theorem dX12_way_21 : decode cX12_way 21 = .ok (.invokestatic 68, 3) := by decide +kernel
theorem dX12_way_24 : decode cX12_way 24 = .ok (.ifCond .eq 12, 3) := by decide +kernel
theorem dX12_way_27 : decode cX12_way 27 = .ok (.iload_n 3, 1) := by decide +kernel
theorem dX12_way_28 : decode cX12_way 28 = .ok (.iconst 0, 1) := by decide +kernel
theorem dX12_way_29 : decode cX12_way 29 = .ok (.iconst 1, 1) := by decide +kernel
theorem dX12_way_30 : decode cX12_way 30 = .ok (.invokestatic 68, 3) := by decide +kernel
theorem dX12_way_33 : decode cX12_way 33 = .ok (.ifCond .ne 6, 3) := by decide +kernel
theorem dX12_way_36 : decode cX12_way 36 = .ok (.bipush (-102), 2) := by decide +kernel
theorem dX12_way_38 : decode cX12_way 38 = .ok (.ireturn, 1) := by decide +kernel
theorem dX12_way_39 : decode cX12_way 39 = .ok (.aload_n 0, 1) := by decide +kernel
theorem dX12_way_40 : decode cX12_way 40 = .ok (.getfield 177, 3) := by decide +kernel
theorem dX12_way_43 : decode cX12_way 43 = .ok (.bipush 40, 2) := by decide +kernel
theorem dX12_way_45 : decode cX12_way 45 = .ok (.if_icmp .ne 6, 3) := by decide +kernel
theorem dX12_way_48 : decode cX12_way 48 = .ok (.bipush (-103), 2) := by decide +kernel
theorem dX12_way_50 : decode cX12_way 50 = .ok (.ireturn, 1) := by decide +kernel
theorem dX12_way_51 : decode cX12_way 51 = .ok (.aload_n 0, 1) := by decide +kernel
theorem dX12_way_52 : decode cX12_way 52 = .ok (.dup, 1) := by decide +kernel
theorem dX12_way_53 : decode cX12_way 53 = .ok (.getfield 177, 3) := by decide +kernel
theorem dX12_way_56 : decode cX12_way 56 = .ok (.iconst 1, 1) := by decide +kernel
theorem dX12_way_57 : decode cX12_way 57 = .ok (.iadd, 1) := by decide +kernel
theorem dX12_way_58 : decode cX12_way 58 = .ok (.putfield 177, 3) := by decide +kernel
theorem dX12_way_61 : decode cX12_way 61 = .ok (.aload_n 0, 1) := by decide +kernel
theorem dX12_way_62 : decode cX12_way 62 = .ok (.iload_n 1, 1) := by decide +kernel
theorem dX12_way_63 : decode cX12_way 63 = .ok (.iload_n 2, 1) := by decide +kernel
theorem dX12_way_64 : decode cX12_way 64 = .ok (.iload_n 3, 1) := by decide +kernel
