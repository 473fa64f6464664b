set_option maxRecDepth 20000 in
theorem ggX0_init_X1_init : GoodIn wsX0_init wsX1_init := goodIn_r _ [4, 5, 6, 7, 8, 9, 10, 11, 12, 13, 14, 15, 16, 17] (by decide +kernel) (by decide +kernel)
set_option maxRecDepth 20000 in
theorem gX0_init_X1_init : GoodIn wsX0_init (wsX1_init) := ggX0_init_X1_init
theorem dX0_init_0 : decode cX0_init 0 = .ok (.aload_n 0, 1) := by decide +kernel
theorem dX0_init_1 : decode cX0_init 1 = .ok (.iload_n 1, 1) := by decide +kernel
theorem dX0_init_2 : decode cX0_init 2 = .ok (.invokespecial 3, 3) := by decide +kernel
theorem dX0_init_5 : decode cX0_init 5 = .ok (.return_, 1) := by decide +kernel
theorem dX0_kind_0 : decode cX0_kind 0 = .ok (.iconst 4, 1) := by decide +kernel
theorem dX0_kind_1 : decode cX0_kind 1 = .ok (.ireturn, 1) := by decide +kernel
theorem dX0_worth_0 : decode cX0_worth 0 = .ok (.iconst 2, 1) := by decide +kernel
theorem dX0_worth_1 : decode cX0_worth 1 = .ok (.aload_n 0, 1) := by decide +kernel
theorem dX0_worth_2 : decode cX0_worth 2 = .ok (.invokespecial 9, 3) := by decide +kernel
theorem dX0_worth_5 : decode cX0_worth 5 = .ok (.imul, 1) := by decide +kernel
theorem dX0_worth_6 : decode cX0_worth 6 = .ok (.ireturn, 1) := by decide +kernel
set_option maxRecDepth 20000 in
theorem ggX1_init_X7_init : GoodIn wsX1_init wsX7_init := goodIn_r _ [4, 5, 6, 7, 8, 9, 10, 11, 12, 13] (by decide +kernel) (by decide +kernel)
set_option maxRecDepth 20000 in
theorem gX1_init_X7_init : GoodIn wsX1_init (wsX7_init) := ggX1_init_X7_init
theorem dX1_init_0 : decode cX1_init 0 = .ok (.aload_n 0, 1) := by decide +kernel
theorem dX1_init_1 : decode cX1_init 1 = .ok (.iload_n 1, 1) := by decide +kernel
theorem dX1_init_2 : decode cX1_init 2 = .ok (.invokespecial 3, 3) := by decide +kernel
theorem dX1_init_5 : decode cX1_init 5 = .ok (.return_, 1) := by decide +kernel
theorem dX1_kind_0 : decode cX1_kind 0 = .ok (.iconst 1, 1) := by decide +kernel
theorem dX1_kind_1 : decode cX1_kind 1 = .ok (.ireturn, 1) := by decide +kernel
theorem dX1_keepsPens_0 : decode cX1_keepsPens 0 = .ok (.iconst 1, 1) := by decide +kernel
theorem dX1_keepsPens_1 : decode cX1_keepsPens 1 = .ok (.ireturn, 1) := by decide +kernel
set_option maxRecDepth 20000 in
theorem ggX2_init_X6_init : GoodIn wsX2_init wsX6_init := goodIn_r _ [12, 13, 2, 3, 6, 14, 22, 23] (by decide +kernel) (by decide +kernel)
set_option maxRecDepth 20000 in
theorem gX2_init_X6_init_n24 : GoodIn wsX2_init (wsX6_init) := ggX2_init_X6_init
theorem dX2_init_0 : decode cX2_init 0 = .ok (.aload_n 0, 1) := by decide +kernel
theorem dX2_init_1 : decode cX2_init 1 = .ok (.invokespecial 3, 3) := by decide +kernel
theorem dX2_init_4 : decode cX2_init 4 = .ok (.aload_n 0, 1) := by decide +kernel
theorem dX2_init_5 : decode cX2_init 5 = .ok (.iconst 5, 1) := by decide +kernel
theorem dX2_init_6 : decode cX2_init 6 = .ok (.anewarray 9, 3) := by decide +kernel
theorem dX2_init_9 : decode cX2_init 9 = .ok (.putfield 11, 3) := by decide +kernel
theorem dX2_init_12 : decode cX2_init 12 = .ok (.aload_n 0, 1) := by decide +kernel
theorem dX2_init_13 : decode cX2_init 13 = .ok (.bipush 6, 2) := by decide +kernel
theorem dX2_init_15 : decode cX2_init 15 = .ok (.newarray .int, 2) := by decide +kernel
theorem dX2_init_17 : decode cX2_init 17 = .ok (.putfield 17, 3) := by decide +kernel
theorem dX2_init_20 : decode cX2_init 20 = .ok (.aload_n 0, 1) := by decide +kernel
theorem dX2_init_21 : decode cX2_init 21 = .ok (.bipush 6, 2) := by decide +kernel
theorem dX2_init_23 : decode cX2_init 23 = .ok (.newarray .int, 2) := by decide +kernel
theorem dX2_init_25 : decode cX2_init 25 = .ok (.putfield 21, 3) := by decide +kernel
theorem dX2_init_28 : decode cX2_init 28 = .ok (.iconst 0, 1) := by decide +kernel
theorem dX2_init_29 : decode cX2_init 29 = .ok (.istore_n 1, 1) := by decide +kernel
theorem dX2_init_30 : decode cX2_init 30 = .ok (.iload_n 1, 1) := by decide +kernel
theorem dX2_init_31 : decode cX2_init 31 = .ok (.aload_n 0, 1) := by decide +kernel
theorem dX2_init_32 : decode cX2_init 32 = .ok (.getfield 11, 3) := by decide +kernel
theorem dX2_init_35 : decode cX2_init 35 = .ok (.arraylength, 1) := by decide +kernel
theorem dX2_init_36 : decode cX2_init 36 = .ok (.if_icmp .ge 22, 3) := by decide +kernel
theorem dX2_init_39 : decode cX2_init 39 = .ok (.aload_n 0, 1) := by decide +kernel
theorem dX2_init_40 : decode cX2_init 40 = .ok (.getfield 11, 3) := by decide +kernel
theorem dX2_init_43 : decode cX2_init 43 = .ok (.iload_n 1, 1) := by decide +kernel
theorem dX2_init_44 : decode cX2_init 44 = .ok (.new 9, 3) := by decide +kernel
theorem dX2_init_47 : decode cX2_init 47 = .ok (.dup, 1) := by decide +kernel
theorem dX2_init_48 : decode cX2_init 48 = .ok (.invokespecial 24, 3) := by decide +kernel
theorem dX2_init_51 : decode cX2_init 51 = .ok (.aastore, 1) := by decide +kernel
theorem dX2_init_52 : decode cX2_init 52 = .ok (.iinc 1 1, 3) := by decide +kernel
theorem dX2_init_55 : decode cX2_init 55 = .ok (.goto (-25), 3) := by decide +kernel
theorem dX2_init_58 : decode cX2_init 58 = .ok (.return_, 1) := by decide +kernel
set_option maxRecDepth 20000 in
theorem ggX2_clear_X2_pen : GoodIn wsX2_clear wsX2_pen := goodIn_r _ [7, 1, 22, 23, 24, 25, 26, 27, 28] (by decide +kernel) (by decide +kernel)
set_option maxRecDepth 20000 in
theorem gX2_clear_X2_pen : GoodIn wsX2_clear (wsV RX2 25 RX2 yX2_pen wsX2_pen) := goodIn_app (goodIn_of _ (by decide +kernel)) ggX2_clear_X2_pen
set_option maxRecDepth 20000 in
theorem ggX2_clear_X6_startWith : GoodIn wsX2_clear wsX6_startWith := goodIn_r _ [12, 13, 14, 29, 30] (by decide +kernel) (by decide +kernel)
set_option maxRecDepth 20000 in
theorem gX2_clear_X6_startWith : GoodIn wsX2_clear (wsV RX2 29 RX6 yX6_startWith wsX6_startWith) := goodIn_app (goodIn_of _ (by decide +kernel)) ggX2_clear_X6_startWith
set_option maxRecDepth 20000 in
theorem ggX2_clear_X2_clearHeard : GoodIn wsX2_clear wsX2_clearHeard := goodIn_r _ [18, 19, 20, 21, 22, 23, 24, 25, 26, 27, 28] (by decide +kernel) (by decide +kernel)
set_option maxRecDepth 20000 in
theorem gX2_clear_X2_clearHeard : GoodIn wsX2_clear (wsV RX2 37 RX2 yX2_clearHeard wsX2_clearHeard) := goodIn_app (goodIn_of _ (by decide +kernel)) ggX2_clear_X2_clearHeard
theorem dX2_clear_0 : decode cX2_clear 0 = .ok (.iconst 0, 1) := by decide +kernel
theorem dX2_clear_1 : decode cX2_clear 1 = .ok (.istore_n 1, 1) := by decide +kernel
theorem dX2_clear_2 : decode cX2_clear 2 = .ok (.iload_n 1, 1) := by decide +kernel
theorem dX2_clear_3 : decode cX2_clear 3 = .ok (.aload_n 0, 1) := by decide +kernel
theorem dX2_clear_4 : decode cX2_clear 4 = .ok (.getfield 11, 3) := by decide +kernel
theorem dX2_clear_7 : decode cX2_clear 7 = .ok (.arraylength, 1) := by decide +kernel
theorem dX2_clear_8 : decode cX2_clear 8 = .ok (.if_icmp .ge 24, 3) := by decide +kernel
theorem dX2_clear_11 : decode cX2_clear 11 = .ok (.aload_n 0, 1) := by decide +kernel
theorem dX2_clear_12 : decode cX2_clear 12 = .ok (.iload_n 1, 1) := by decide +kernel
theorem dX2_clear_13 : decode cX2_clear 13 = .ok (.invokevirtual 25, 3) := by decide +kernel
theorem dX2_clear_16 : decode cX2_clear 16 = .ok (.astore_n 2, 1) := by decide +kernel
theorem dX2_clear_17 : decode cX2_clear 17 = .ok (.aload_n 2, 1) := by decide +kernel
theorem dX2_clear_18 : decode cX2_clear 18 = .ok (.ifnull 8, 3) := by decide +kernel
theorem dX2_clear_21 : decode cX2_clear 21 = .ok (.aload_n 2, 1) := by decide +kernel
theorem dX2_clear_22 : decode cX2_clear 22 = .ok (.iload_n 1, 1) := by decide +kernel
theorem dX2_clear_23 : decode cX2_clear 23 = .ok (.invokevirtual 29, 3) := by decide +kernel
theorem dX2_clear_26 : decode cX2_clear 26 = .ok (.iinc 1 1, 3) := by decide +kernel
theorem dX2_clear_29 : decode cX2_clear 29 = .ok (.goto (-27), 3) := by decide +kernel
theorem dX2_clear_32 : decode cX2_clear 32 = .ok (.aload_n 0, 1) := by decide +kernel
theorem dX2_clear_33 : decode cX2_clear 33 = .ok (.iconst 0, 1) := by decide +kernel
theorem dX2_clear_34 : decode cX2_clear 34 = .ok (.putfield 33, 3) := by decide +kernel
theorem dX2_clear_37 : decode cX2_clear 37 = .ok (.aload_n 0, 1) := by decide +kernel
theorem dX2_clear_38 : decode cX2_clear 38 = .ok (.invokevirtual 37, 3) := by decide +kernel
theorem dX2_clear_41 : decode cX2_clear 41 = .ok (.return_, 1) := by decide +kernel
set_option maxRecDepth 20000 in
theorem ggX2_copyFrom_X2_pen : GoodIn wsX2_copyFrom wsX2_pen := goodIn_r _ [16, 1, 25, 26, 27, 28, 29, 30, 31] (by decide +kernel) (by decide +kernel)
set_option maxRecDepth 20000 in
theorem gX2_copyFrom_X2_pen : GoodIn wsX2_copyFrom (wsV RX2 25 RX2 yX2_pen wsX2_pen) := goodIn_app (goodIn_of _ (by decide +kernel)) ggX2_copyFrom_X2_pen
set_option maxRecDepth 20000 in
theorem ggX2_copyFrom_X6_copyFrom : GoodIn wsX2_copyFrom wsX6_copyFrom := goodIn_r _ [21, 22, 23, 4, 5, 6, 24, 32, 33] (by decide +kernel) (by decide +kernel)
set_option maxRecDepth 20000 in
theorem gX2_copyFrom_X6_copyFrom : GoodIn wsX2_copyFrom (wsV RX2 40 RX6 yX6_copyFrom wsX6_copyFrom) := goodIn_app (goodIn_of _ (by decide +kernel)) ggX2_copyFrom_X6_copyFrom
theorem dX2_copyFrom_0 : decode cX2_copyFrom 0 = .ok (.iconst 0, 1) := by decide +kernel
theorem dX2_copyFrom_1 : decode cX2_copyFrom 1 = .ok (.istore_n 2, 1) := by decide +kernel
theorem dX2_copyFrom_2 : decode cX2_copyFrom 2 = .ok (.iload_n 2, 1) := by decide +kernel
theorem dX2_copyFrom_3 : decode cX2_copyFrom 3 = .ok (.aload_n 0, 1) := by decide +kernel
theorem dX2_copyFrom_4 : decode cX2_copyFrom 4 = .ok (.getfield 11, 3) := by decide +kernel
theorem dX2_copyFrom_7 : decode cX2_copyFrom 7 = .ok (.arraylength, 1) := by decide +kernel
theorem dX2_copyFrom_8 : decode cX2_copyFrom 8 = .ok (.if_icmp .ge 37, 3) := by decide +kernel
theorem dX2_copyFrom_11 : decode cX2_copyFrom 11 = .ok (.aload_n 0, 1) := by decide +kernel
theorem dX2_copyFrom_12 : decode cX2_copyFrom 12 = .ok (.iload_n 2, 1) := by decide +kernel
theorem dX2_copyFrom_13 : decode cX2_copyFrom 13 = .ok (.invokevirtual 25, 3) := by decide +kernel
theorem dX2_copyFrom_16 : decode cX2_copyFrom 16 = .ok (.astore_n 3, 1) := by decide +kernel
theorem dX2_copyFrom_17 : decode cX2_copyFrom 17 = .ok (.aload_n 1, 1) := by decide +kernel
theorem dX2_copyFrom_18 : decode cX2_copyFrom 18 = .ok (.iload_n 2, 1) := by decide +kernel
theorem dX2_copyFrom_19 : decode cX2_copyFrom 19 = .ok (.invokevirtual 25, 3) := by decide +kernel
theorem dX2_copyFrom_22 : decode cX2_copyFrom 22 = .ok (.astore 4, 2) := by decide +kernel
theorem dX2_copyFrom_24 : decode cX2_copyFrom 24 = .ok (.aload_n 3, 1) := by decide +kernel
theorem dX2_copyFrom_25 : decode cX2_copyFrom 25 = .ok (.ifnull 14, 3) := by decide +kernel
theorem dX2_copyFrom_28 : decode cX2_copyFrom 28 = .ok (.aload 4, 2) := by decide +kernel
theorem dX2_copyFrom_30 : decode cX2_copyFrom 30 = .ok (.ifnull 9, 3) := by decide +kernel
theorem dX2_copyFrom_33 : decode cX2_copyFrom 33 = .ok (.aload_n 3, 1) := by decide +kernel
theorem dX2_copyFrom_34 : decode cX2_copyFrom 34 = .ok (.aload 4, 2) := by decide +kernel
theorem dX2_copyFrom_36 : decode cX2_copyFrom 36 = .ok (.invokevirtual 40, 3) := by decide +kernel
theorem dX2_copyFrom_39 : decode cX2_copyFrom 39 = .ok (.iinc 2 1, 3) := by decide +kernel
theorem dX2_copyFrom_42 : decode cX2_copyFrom 42 = .ok (.goto (-40), 3) := by decide +kernel
theorem dX2_copyFrom_45 : decode cX2_copyFrom 45 = .ok (.aload_n 1, 1) := by decide +kernel
theorem dX2_copyFrom_46 : decode cX2_copyFrom 46 = .ok (.getfield 17, 3) := by decide +kernel
theorem dX2_copyFrom_49 : decode cX2_copyFrom 49 = .ok (.iconst 0, 1) := by decide +kernel
theorem dX2_copyFrom_50 : decode cX2_copyFrom 50 = .ok (.aload_n 0, 1) := by decide +kernel
theorem dX2_copyFrom_51 : decode cX2_copyFrom 51 = .ok (.getfield 17, 3) := by decide +kernel
theorem dX2_copyFrom_54 : decode cX2_copyFrom 54 = .ok (.iconst 0, 1) := by decide +kernel
theorem dX2_copyFrom_55 : decode cX2_copyFrom 55 = .ok (.aload_n 0, 1) := by decide +kernel
theorem dX2_copyFrom_56 : decode cX2_copyFrom 56 = .ok (.getfield 17, 3) := by decide +kernel
theorem dX2_copyFrom_59 : decode cX2_copyFrom 59 = .ok (.arraylength, 1) := by decide +kernel
theorem dX2_copyFrom_60 : decode cX2_copyFrom 60 = .ok (.invokestatic 44, 3) := by decide +kernel
theorem dX2_copyFrom_63 : decode cX2_copyFrom 63 = .ok (.aload_n 1, 1) := by decide +kernel
theorem dX2_copyFrom_64 : decode cX2_copyFrom 64 = .ok (.getfield 21, 3) := by decide +kernel
theorem dX2_copyFrom_67 : decode cX2_copyFrom 67 = .ok (.iconst 0, 1) := by decide +kernel
theorem dX2_copyFrom_68 : decode cX2_copyFrom 68 = .ok (.aload_n 0, 1) := by decide +kernel
theorem dX2_copyFrom_69 : decode cX2_copyFrom 69 = .ok (.getfield 21, 3) := by decide +kernel
theorem dX2_copyFrom_72 : decode cX2_copyFrom 72 = .ok (.iconst 0, 1) := by decide +kernel
theorem dX2_copyFrom_73 : decode cX2_copyFrom 73 = .ok (.aload_n 0, 1) := by decide +kernel
theorem dX2_copyFrom_74 : decode cX2_copyFrom 74 = .ok (.getfield 21, 3) := by decide +kernel
theorem dX2_copyFrom_77 : decode cX2_copyFrom 77 = .ok (.arraylength, 1) := by decide +kernel
theorem dX2_copyFrom_78 : decode cX2_copyFrom 78 = .ok (.invokestatic 44, 3) := by decide +kernel
theorem dX2_copyFrom_81 : decode cX2_copyFrom 81 = .ok (.aload_n 0, 1) := by decide +kernel
theorem dX2_copyFrom_82 : decode cX2_copyFrom 82 = .ok (.aload_n 1, 1) := by decide +kernel
theorem dX2_copyFrom_83 : decode cX2_copyFrom 83 = .ok (.getfield 33, 3) := by decide +kernel
theorem dX2_copyFrom_86 : decode cX2_copyFrom 86 = .ok (.putfield 33, 3) := by decide +kernel
theorem dX2_copyFrom_89 : decode cX2_copyFrom 89 = .ok (.aload_n 0, 1) := by decide +kernel
theorem dX2_copyFrom_90 : decode cX2_copyFrom 90 = .ok (.aload_n 1, 1) := by decide +kernel
theorem dX2_copyFrom_91 : decode cX2_copyFrom 91 = .ok (.getfield 50, 3) := by decide +kernel
theorem dX2_copyFrom_94 : decode cX2_copyFrom 94 = .ok (.putfield 50, 3) := by decide +kernel
theorem dX2_copyFrom_97 : decode cX2_copyFrom 97 = .ok (.aload_n 0, 1) := by decide +kernel
theorem dX2_copyFrom_98 : decode cX2_copyFrom 98 = .ok (.aload_n 1, 1) := by decide +kernel
theorem dX2_copyFrom_99 : decode cX2_copyFrom 99 = .ok (.getfield 53, 3) := by decide +kernel
theorem dX2_copyFrom_102 : decode cX2_copyFrom 102 = .ok (.putfield 53, 3) := by decide +kernel
theorem dX2_copyFrom_105 : decode cX2_copyFrom 105 = .ok (.aload_n 0, 1) := by decide +kernel
theorem dX2_copyFrom_106 : decode cX2_copyFrom 106 = .ok (.aload_n 1, 1) := by decide +kernel
theorem dX2_copyFrom_107 : decode cX2_copyFrom 107 = .ok (.getfield 56, 3) := by decide +kernel
theorem dX2_copyFrom_110 : decode cX2_copyFrom 110 = .ok (.putfield 56, 3) := by decide +kernel
theorem dX2_copyFrom_113 : decode cX2_copyFrom 113 = .ok (.return_, 1) := by decide +kernel
theorem dX2_pen_0 : decode cX2_pen 0 = .ok (.iload_n 1, 1) := by decide +kernel
theorem dX2_pen_1 : decode cX2_pen 1 = .ok (.ifCond .lt 12, 3) := by decide +kernel
theorem dX2_pen_4 : decode cX2_pen 4 = .ok (.iload_n 1, 1) := by decide +kernel
theorem dX2_pen_5 : decode cX2_pen 5 = .ok (.aload_n 0, 1) := by decide +kernel
theorem dX2_pen_6 : decode cX2_pen 6 = .ok (.getfield 11, 3) := by decide +kernel
theorem dX2_pen_9 : decode cX2_pen 9 = .ok (.arraylength, 1) := by decide +kernel
theorem dX2_pen_10 : decode cX2_pen 10 = .ok (.if_icmp .lt 7, 3) := by decide +kernel
theorem dX2_pen_13 : decode cX2_pen 13 = .ok (.aconst_null, 1) := by decide +kernel
theorem dX2_pen_14 : decode cX2_pen 14 = .ok (.goto 9, 3) := by decide +kernel
theorem dX2_pen_17 : decode cX2_pen 17 = .ok (.aload_n 0, 1) := by decide +kernel
theorem dX2_pen_18 : decode cX2_pen 18 = .ok (.getfield 11, 3) := by decide +kernel
theorem dX2_pen_21 : decode cX2_pen 21 = .ok (.iload_n 1, 1) := by decide +kernel
theorem dX2_pen_22 : decode cX2_pen 22 = .ok (.aaload, 1) := by decide +kernel
theorem dX2_pen_23 : decode cX2_pen 23 = .ok (.areturn, 1) := by decide +kernel
set_option maxRecDepth 20000 in
theorem ggX2_timesLent_X6_timesLent : GoodIn wsX2_timesLent wsX6_timesLent := goodIn_r _ [6, 7, 15, 16] (by decide +kernel) (by decide +kernel)
set_option maxRecDepth 20000 in
theorem gX2_timesLent_X6_timesLent : GoodIn wsX2_timesLent (wsV RX2 59 RX6 yX6_timesLent wsX6_timesLent) := goodIn_app (goodIn_of _ (by decide +kernel)) ggX2_timesLent_X6_timesLent
theorem dX2_timesLent_0 : decode cX2_timesLent 0 = .ok (.iconst 0, 1) := by decide +kernel
theorem dX2_timesLent_1 : decode cX2_timesLent 1 = .ok (.istore_n 1, 1) := by decide +kernel
theorem dX2_timesLent_2 : decode cX2_timesLent 2 = .ok (.aload_n 0, 1) := by decide +kernel
theorem dX2_timesLent_3 : decode cX2_timesLent 3 = .ok (.getfield 11, 3) := by decide +kernel
theorem dX2_timesLent_6 : decode cX2_timesLent 6 = .ok (.astore_n 2, 1) := by decide +kernel
theorem dX2_timesLent_7 : decode cX2_timesLent 7 = .ok (.aload_n 2, 1) := by decide +kernel
theorem dX2_timesLent_8 : decode cX2_timesLent 8 = .ok (.arraylength, 1) := by decide +kernel
theorem dX2_timesLent_9 : decode cX2_timesLent 9 = .ok (.istore_n 3, 1) := by decide +kernel
theorem dX2_timesLent_10 : decode cX2_timesLent 10 = .ok (.iconst 0, 1) := by decide +kernel
theorem dX2_timesLent_11 : decode cX2_timesLent 11 = .ok (.istore 4, 2) := by decide +kernel
theorem dX2_timesLent_13 : decode cX2_timesLent 13 = .ok (.iload 4, 2) := by decide +kernel
theorem dX2_timesLent_15 : decode cX2_timesLent 15 = .ok (.iload_n 3, 1) := by decide +kernel
theorem dX2_timesLent_16 : decode cX2_timesLent 16 = .ok (.if_icmp .ge 32, 3) := by decide +kernel
theorem dX2_timesLent_19 : decode cX2_timesLent 19 = .ok (.aload_n 2, 1) := by decide +kernel
theorem dX2_timesLent_20 : decode cX2_timesLent 20 = .ok (.iload 4, 2) := by decide +kernel
theorem dX2_timesLent_22 : decode cX2_timesLent 22 = .ok (.aaload, 1) := by decide +kernel
theorem dX2_timesLent_23 : decode cX2_timesLent 23 = .ok (.astore 5, 2) := by decide +kernel
theorem dX2_timesLent_25 : decode cX2_timesLent 25 = .ok (.iload_n 1, 1) := by decide +kernel
theorem dX2_timesLent_26 : decode cX2_timesLent 26 = .ok (.aload 5, 2) := by decide +kernel
theorem dX2_timesLent_28 : decode cX2_timesLent 28 = .ok (.ifnonnull 7, 3) := by decide +kernel
theorem dX2_timesLent_31 : decode cX2_timesLent 31 = .ok (.iconst 0, 1) := by decide +kernel
theorem dX2_timesLent_32 : decode cX2_timesLent 32 = .ok (.goto 8, 3) := by decide +kernel
theorem dX2_timesLent_35 : decode cX2_timesLent 35 = .ok (.aload 5, 2) := by decide +kernel
theorem dX2_timesLent_37 : decode cX2_timesLent 37 = .ok (.invokevirtual 59, 3) := by decide +kernel
theorem dX2_timesLent_40 : decode cX2_timesLent 40 = .ok (.iadd, 1) := by decide +kernel
theorem dX2_timesLent_41 : decode cX2_timesLent 41 = .ok (.istore_n 1, 1) := by decide +kernel
theorem dX2_timesLent_42 : decode cX2_timesLent 42 = .ok (.iinc 4 1, 3) := by decide +kernel
theorem dX2_timesLent_45 : decode cX2_timesLent 45 = .ok (.goto (-32), 3) := by decide +kernel
theorem dX2_timesLent_48 : decode cX2_timesLent 48 = .ok (.iload_n 1, 1) := by decide +kernel
theorem dX2_timesLent_49 : decode cX2_timesLent 49 = .ok (.ireturn, 1) := by decide +kernel
set_option maxRecDepth 20000 in
theorem ggX2_pensWith_X6_holder : GoodIn wsX2_pensWith wsX6_holder := goodIn_r _ [6, 7, 8, 16, 17] (by decide +kernel) (by decide +kernel)
set_option maxRecDepth 20000 in
theorem gX2_pensWith_X6_holder : GoodIn wsX2_pensWith (wsV RX2 63 RX6 yX6_holder wsX6_holder) := goodIn_app (goodIn_of _ (by decide +kernel)) ggX2_pensWith_X6_holder
theorem dX2_pensWith_0 : decode cX2_pensWith 0 = .ok (.iconst 0, 1) := by decide +kernel
theorem dX2_pensWith_1 : decode cX2_pensWith 1 = .ok (.istore_n 2, 1) := by decide +kernel
theorem dX2_pensWith_2 : decode cX2_pensWith 2 = .ok (.aload_n 0, 1) := by decide +kernel
theorem dX2_pensWith_3 : decode cX2_pensWith 3 = .ok (.getfield 11, 3) := by decide +kernel
theorem dX2_pensWith_6 : decode cX2_pensWith 6 = .ok (.astore_n 3, 1) := by decide +kernel
theorem dX2_pensWith_7 : decode cX2_pensWith 7 = .ok (.aload_n 3, 1) := by decide +kernel
theorem dX2_pensWith_8 : decode cX2_pensWith 8 = .ok (.arraylength, 1) := by decide +kernel
theorem dX2_pensWith_9 : decode cX2_pensWith 9 = .ok (.istore 4, 2) := by decide +kernel
theorem dX2_pensWith_11 : decode cX2_pensWith 11 = .ok (.iconst 0, 1) := by decide +kernel
theorem dX2_pensWith_12 : decode cX2_pensWith 12 = .ok (.istore 5, 2) := by decide +kernel
theorem dX2_pensWith_14 : decode cX2_pensWith 14 = .ok (.iload 5, 2) := by decide +kernel
theorem dX2_pensWith_16 : decode cX2_pensWith 16 = .ok (.iload 4, 2) := by decide +kernel
theorem dX2_pensWith_18 : decode cX2_pensWith 18 = .ok (.if_icmp .ge 37, 3) := by decide +kernel
theorem dX2_pensWith_21 : decode cX2_pensWith 21 = .ok (.aload_n 3, 1) := by decide +kernel
theorem dX2_pensWith_22 : decode cX2_pensWith 22 = .ok (.iload 5, 2) := by decide +kernel
theorem dX2_pensWith_24 : decode cX2_pensWith 24 = .ok (.aaload, 1) := by decide +kernel
theorem dX2_pensWith_25 : decode cX2_pensWith 25 = .ok (.astore 6, 2) := by decide +kernel
theorem dX2_pensWith_27 : decode cX2_pensWith 27 = .ok (.iload_n 2, 1) := by decide +kernel
theorem dX2_pensWith_28 : decode cX2_pensWith 28 = .ok (.aload 6, 2) := by decide +kernel
theorem dX2_pensWith_30 : decode cX2_pensWith 30 = .ok (.ifnull 16, 3) := by decide +kernel
theorem dX2_pensWith_33 : decode cX2_pensWith 33 = .ok (.aload 6, 2) := by decide +kernel
theorem dX2_pensWith_35 : decode cX2_pensWith 35 = .ok (.invokevirtual 63, 3) := by decide +kernel
theorem dX2_pensWith_38 : decode cX2_pensWith 38 = .ok (.iload_n 1, 1) := by decide +kernel
theorem dX2_pensWith_39 : decode cX2_pensWith 39 = .ok (.if_icmp .ne 7, 3) := by decide +kernel
theorem dX2_pensWith_42 : decode cX2_pensWith 42 = .ok (.iconst 1, 1) := by decide +kernel
theorem dX2_pensWith_43 : decode cX2_pensWith 43 = .ok (.goto 4, 3) := by decide +kernel
theorem dX2_pensWith_46 : decode cX2_pensWith 46 = .ok (.iconst 0, 1) := by decide +kernel
theorem dX2_pensWith_47 : decode cX2_pensWith 47 = .ok (.iadd, 1) := by decide +kernel
theorem dX2_pensWith_48 : decode cX2_pensWith 48 = .ok (.istore_n 2, 1) := by decide +kernel
theorem dX2_pensWith_49 : decode cX2_pensWith 49 = .ok (.iinc 5 1, 3) := by decide +kernel
theorem dX2_pensWith_52 : decode cX2_pensWith 52 = .ok (.goto (-38), 3) := by decide +kernel
theorem dX2_pensWith_55 : decode cX2_pensWith 55 = .ok (.iload_n 2, 1) := by decide +kernel
theorem dX2_pensWith_56 : decode cX2_pensWith 56 = .ok (.ireturn, 1) := by decide +kernel
theorem dX2_deeds_0 : decode cX2_deeds 0 = .ok (.aload_n 0, 1) := by decide +kernel
theorem dX2_deeds_1 : decode cX2_deeds 1 = .ok (.getfield 33, 3) := by decide +kernel
theorem dX2_deeds_4 : decode cX2_deeds 4 = .ok (.ireturn, 1) := by decide +kernel
theorem dX2_isDeed_0 : decode cX2_isDeed 0 = .ok (.iload_n 1, 1) := by decide +kernel
theorem dX2_isDeed_1 : decode cX2_isDeed 1 = .ok (.ifCond .lt 33, 3) := by decide +kernel
theorem dX2_isDeed_4 : decode cX2_isDeed 4 = .ok (.iload_n 1, 1) := by decide +kernel
theorem dX2_isDeed_5 : decode cX2_isDeed 5 = .ok (.aload_n 0, 1) := by decide +kernel
theorem dX2_isDeed_6 : decode cX2_isDeed 6 = .ok (.getfield 33, 3) := by decide +kernel
theorem dX2_isDeed_9 : decode cX2_isDeed 9 = .ok (.if_icmp .ge 25, 3) := by decide +kernel
theorem dX2_isDeed_12 : decode cX2_isDeed 12 = .ok (.iload_n 1, 1) := by decide +kernel
theorem dX2_isDeed_13 : decode cX2_isDeed 13 = .ok (.aload_n 0, 1) := by decide +kernel
theorem dX2_isDeed_14 : decode cX2_isDeed 14 = .ok (.getfield 17, 3) := by decide +kernel
theorem dX2_isDeed_17 : decode cX2_isDeed 17 = .ok (.arraylength, 1) := by decide +kernel
theorem dX2_isDeed_18 : decode cX2_isDeed 18 = .ok (.if_icmp .ge 16, 3) := by decide +kernel
theorem dX2_isDeed_21 : decode cX2_isDeed 21 = .ok (.iload_n 1, 1) := by decide +kernel
theorem dX2_isDeed_22 : decode cX2_isDeed 22 = .ok (.aload_n 0, 1) := by decide +kernel
theorem dX2_isDeed_23 : decode cX2_isDeed 23 = .ok (.getfield 21, 3) := by decide +kernel
theorem dX2_isDeed_26 : decode cX2_isDeed 26 = .ok (.arraylength, 1) := by decide +kernel
theorem dX2_isDeed_27 : decode cX2_isDeed 27 = .ok (.if_icmp .ge 7, 3) := by decide +kernel
theorem dX2_isDeed_30 : decode cX2_isDeed 30 = .ok (.iconst 1, 1) := by decide +kernel
theorem dX2_isDeed_31 : decode cX2_isDeed 31 = .ok (.goto 4, 3) := by decide +kernel
theorem dX2_isDeed_34 : decode cX2_isDeed 34 = .ok (.iconst 0, 1) := by decide +kernel
theorem dX2_isDeed_35 : decode cX2_isDeed 35 = .ok (.ireturn, 1) := by decide +kernel
theorem dX2_addDeed_0 : decode cX2_addDeed 0 = .ok (.aload_n 0, 1) := by decide +kernel
theorem dX2_addDeed_1 : decode cX2_addDeed 1 = .ok (.getfield 33, 3) := by decide +kernel
theorem dX2_addDeed_4 : decode cX2_addDeed 4 = .ok (.aload_n 0, 1) := by decide +kernel
theorem dX2_addDeed_5 : decode cX2_addDeed 5 = .ok (.getfield 17, 3) := by decide +kernel
theorem dX2_addDeed_8 : decode cX2_addDeed 8 = .ok (.arraylength, 1) := by decide +kernel
theorem dX2_addDeed_9 : decode cX2_addDeed 9 = .ok (.if_icmp .ge 15, 3) := by decide +kernel
theorem dX2_addDeed_12 : decode cX2_addDeed 12 = .ok (.aload_n 0, 1) := by decide +kernel
theorem dX2_addDeed_13 : decode cX2_addDeed 13 = .ok (.getfield 33, 3) := by decide +kernel
theorem dX2_addDeed_16 : decode cX2_addDeed 16 = .ok (.aload_n 0, 1) := by decide +kernel
theorem dX2_addDeed_17 : decode cX2_addDeed 17 = .ok (.getfield 21, 3) := by decide +kernel
theorem dX2_addDeed_20 : decode cX2_addDeed 20 = .ok (.arraylength, 1) := by decide +kernel
theorem dX2_addDeed_21 : decode cX2_addDeed 21 = .ok (.if_icmp .lt 5, 3) := by decide +kernel
theorem dX2_addDeed_24 : decode cX2_addDeed 24 = .ok (.iconst 0, 1) := by decide +kernel
theorem dX2_addDeed_25 : decode cX2_addDeed 25 = .ok (.ireturn, 1) := by decide +kernel
theorem dX2_addDeed_26 : decode cX2_addDeed 26 = .ok (.aload_n 0, 1) := by decide +kernel
theorem dX2_addDeed_27 : decode cX2_addDeed 27 = .ok (.getfield 17, 3) := by decide +kernel
theorem dX2_addDeed_30 : decode cX2_addDeed 30 = .ok (.aload_n 0, 1) := by decide +kernel
theorem dX2_addDeed_31 : decode cX2_addDeed 31 = .ok (.getfield 33, 3) := by decide +kernel
theorem dX2_addDeed_34 : decode cX2_addDeed 34 = .ok (.iload_n 1, 1) := by decide +kernel
theorem dX2_addDeed_35 : decode cX2_addDeed 35 = .ok (.iastore, 1) := by decide +kernel
theorem dX2_addDeed_36 : decode cX2_addDeed 36 = .ok (.aload_n 0, 1) := by decide +kernel
theorem dX2_addDeed_37 : decode cX2_addDeed 37 = .ok (.getfield 21, 3) := by decide +kernel
theorem dX2_addDeed_40 : decode cX2_addDeed 40 = .ok (.aload_n 0, 1) := by decide +kernel
theorem dX2_addDeed_41 : decode cX2_addDeed 41 = .ok (.getfield 33, 3) := by decide +kernel
theorem dX2_addDeed_44 : decode cX2_addDeed 44 = .ok (.iload_n 2, 1) := by decide +kernel
theorem dX2_addDeed_45 : decode cX2_addDeed 45 = .ok (.iastore, 1) := by decide +kernel
theorem dX2_addDeed_46 : decode cX2_addDeed 46 = .ok (.aload_n 0, 1) := by decide +kernel
theorem dX2_addDeed_47 : decode cX2_addDeed 47 = .ok (.dup, 1) := by decide +kernel
theorem dX2_addDeed_48 : decode cX2_addDeed 48 = .ok (.getfield 33, 3) := by decide +kernel
theorem dX2_addDeed_51 : decode cX2_addDeed 51 = .ok (.iconst 1, 1) := by decide +kernel
theorem dX2_addDeed_52 : decode cX2_addDeed 52 = .ok (.iadd, 1) := by decide +kernel
theorem dX2_addDeed_53 : decode cX2_addDeed 53 = .ok (.putfield 33, 3) := by decide +kernel
theorem dX2_addDeed_56 : decode cX2_addDeed 56 = .ok (.iconst 1, 1) := by decide +kernel
theorem dX2_addDeed_57 : decode cX2_addDeed 57 = .ok (.ireturn, 1) := by decide +kernel
set_option maxRecDepth 20000 in
theorem ggX2_debtOf_X2_isDeed : GoodIn wsX2_debtOf wsX2_isDeed := goodIn_r _ [6, 7, 1, 8, 9, 10, 11, 12, 13, 14, 15] (by decide +kernel) (by decide +kernel)
set_option maxRecDepth 20000 in
theorem gX2_debtOf_X2_isDeed : GoodIn wsX2_debtOf (wsV RX2 66 RX2 yX2_isDeed wsX2_isDeed) := goodIn_app (goodIn_of _ (by decide +kernel)) ggX2_debtOf_X2_isDeed
theorem dX2_debtOf_0 : decode cX2_debtOf 0 = .ok (.aload_n 0, 1) := by decide +kernel
theorem dX2_debtOf_1 : decode cX2_debtOf 1 = .ok (.iload_n 1, 1) := by decide +kernel
theorem dX2_debtOf_2 : decode cX2_debtOf 2 = .ok (.invokevirtual 66, 3) := by decide +kernel
theorem dX2_debtOf_5 : decode cX2_debtOf 5 = .ok (.ifCond .eq 12, 3) := by decide +kernel
theorem dX2_debtOf_8 : decode cX2_debtOf 8 = .ok (.aload_n 0, 1) := by decide +kernel
theorem dX2_debtOf_9 : decode cX2_debtOf 9 = .ok (.getfield 17, 3) := by decide +kernel
theorem dX2_debtOf_12 : decode cX2_debtOf 12 = .ok (.iload_n 1, 1) := by decide +kernel
theorem dX2_debtOf_13 : decode cX2_debtOf 13 = .ok (.iaload, 1) := by decide +kernel
theorem dX2_debtOf_14 : decode cX2_debtOf 14 = .ok (.goto 4, 3) := by decide +kernel
theorem dX2_debtOf_17 : decode cX2_debtOf 17 = .ok (.iconst 0, 1) := by decide +kernel
theorem dX2_debtOf_18 : decode cX2_debtOf 18 = .ok (.ireturn, 1) := by decide +kernel
set_option maxRecDepth 20000 in
theorem ggX2_boundByDeed_X2_isDeed : GoodIn wsX2_boundByDeed wsX2_isDeed := goodIn_r _ [6, 7, 8, 1, 9, 10, 11, 12, 13, 14, 15] (by decide +kernel) (by decide +kernel)
set_option maxRecDepth 20000 in
theorem gX2_boundByDeed_X2_isDeed : GoodIn wsX2_boundByDeed (wsV RX2 66 RX2 yX2_isDeed wsX2_isDeed) := goodIn_app (goodIn_of _ (by decide +kernel)) ggX2_boundByDeed_X2_isDeed
theorem dX2_boundByDeed_0 : decode cX2_boundByDeed 0 = .ok (.aload_n 0, 1) := by decide +kernel
theorem dX2_boundByDeed_1 : decode cX2_boundByDeed 1 = .ok (.iload_n 1, 1) := by decide +kernel
theorem dX2_boundByDeed_2 : decode cX2_boundByDeed 2 = .ok (.invokevirtual 66, 3) := by decide +kernel
theorem dX2_boundByDeed_5 : decode cX2_boundByDeed 5 = .ok (.ifCond .eq 12, 3) := by decide +kernel
theorem dX2_boundByDeed_8 : decode cX2_boundByDeed 8 = .ok (.aload_n 0, 1) := by decide +kernel
theorem dX2_boundByDeed_9 : decode cX2_boundByDeed 9 = .ok (.getfield 21, 3) := by decide +kernel
theorem dX2_boundByDeed_12 : decode cX2_boundByDeed 12 = .ok (.iload_n 1, 1) := by decide +kernel
theorem dX2_boundByDeed_13 : decode cX2_boundByDeed 13 = .ok (.iaload, 1) := by decide +kernel
theorem dX2_boundByDeed_14 : decode cX2_boundByDeed 14 = .ok (.goto 4, 3) := by decide +kernel
theorem dX2_boundByDeed_17 : decode cX2_boundByDeed 17 = .ok (.iconst 0, 1) := by decide +kernel
theorem dX2_boundByDeed_18 : decode cX2_boundByDeed 18 = .ok (.ireturn, 1) := by decide +kernel
set_option maxRecDepth 20000 in
theorem ggX2_unbind_X2_isDeed : GoodIn wsX2_unbind wsX2_isDeed := goodIn_r _ [6, 7, 8, 1, 9, 10, 11, 12, 13, 14, 15] (by decide +kernel) (by decide +kernel)
set_option maxRecDepth 20000 in
theorem gX2_unbind_X2_isDeed : GoodIn wsX2_unbind (wsV RX2 66 RX2 yX2_isDeed wsX2_isDeed) := goodIn_app (goodIn_of _ (by decide +kernel)) ggX2_unbind_X2_isDeed
theorem dX2_unbind_0 : decode cX2_unbind 0 = .ok (.aload_n 0, 1) := by decide +kernel
theorem dX2_unbind_1 : decode cX2_unbind 1 = .ok (.iload_n 1, 1) := by decide +kernel
theorem dX2_unbind_2 : decode cX2_unbind 2 = .ok (.invokevirtual 66, 3) := by decide +kernel
theorem dX2_unbind_5 : decode cX2_unbind 5 = .ok (.ifCond .eq 17, 3) := by decide +kernel
theorem dX2_unbind_8 : decode cX2_unbind 8 = .ok (.aload_n 0, 1) := by decide +kernel
theorem dX2_unbind_9 : decode cX2_unbind 9 = .ok (.getfield 21, 3) := by decide +kernel
theorem dX2_unbind_12 : decode cX2_unbind 12 = .ok (.iload_n 1, 1) := by decide +kernel
theorem dX2_unbind_13 : decode cX2_unbind 13 = .ok (.dup2, 1) := by decide +kernel
theorem dX2_unbind_14 : decode cX2_unbind 14 = .ok (.iaload, 1) := by decide +kernel
theorem dX2_unbind_15 : decode cX2_unbind 15 = .ok (.iconst 1, 1) := by decide +kernel
theorem dX2_unbind_16 : decode cX2_unbind 16 = .ok (.iload_n 2, 1) := by decide +kernel
theorem dX2_unbind_17 : decode cX2_unbind 17 = .ok (.ishl, 1) := by decide +kernel
theorem dX2_unbind_18 : decode cX2_unbind 18 = .ok (.iconst (-1), 1) := by decide +kernel
theorem dX2_unbind_19 : decode cX2_unbind 19 = .ok (.ixor, 1) := by decide +kernel
theorem dX2_unbind_20 : decode cX2_unbind 20 = .ok (.iand, 1) := by decide +kernel
theorem dX2_unbind_21 : decode cX2_unbind 21 = .ok (.iastore, 1) := by decide +kernel
theorem dX2_unbind_22 : decode cX2_unbind 22 = .ok (.return_, 1) := by decide +kernel
set_option maxRecDepth 20000 in
theorem ggX2_voidDeeds_X2_boundByDeed : GoodIn wsX2_voidDeeds wsX2_boundByDeed := goodIn_r _ [6, 7, 8, 9, 10, 5, 11, 1, 12, 13, 14, 15, 16, 17, 18, 19] (by decide +kernel) (by decide +kernel)
set_option maxRecDepth 20000 in
theorem gX2_voidDeeds_X2_boundByDeed : GoodIn wsX2_voidDeeds (wsV RX2 70 RX2 yX2_boundByDeed wsX2_boundByDeed) := goodIn_app (goodIn_of _ (by decide +kernel)) ggX2_voidDeeds_X2_boundByDeed
theorem dX2_voidDeeds_0 : decode cX2_voidDeeds 0 = .ok (.iconst 0, 1) := by decide +kernel
theorem dX2_voidDeeds_1 : decode cX2_voidDeeds 1 = .ok (.istore_n 1, 1) := by decide +kernel
theorem dX2_voidDeeds_2 : decode cX2_voidDeeds 2 = .ok (.iconst 0, 1) := by decide +kernel
theorem dX2_voidDeeds_3 : decode cX2_voidDeeds 3 = .ok (.istore_n 2, 1) := by decide +kernel
theorem dX2_voidDeeds_4 : decode cX2_voidDeeds 4 = .ok (.iload_n 2, 1) := by decide +kernel
theorem dX2_voidDeeds_5 : decode cX2_voidDeeds 5 = .ok (.aload_n 0, 1) := by decide +kernel
theorem dX2_voidDeeds_6 : decode cX2_voidDeeds 6 = .ok (.getfield 33, 3) := by decide +kernel
theorem dX2_voidDeeds_9 : decode cX2_voidDeeds 9 = .ok (.if_icmp .ge 25, 3) := by decide +kernel
theorem dX2_voidDeeds_12 : decode cX2_voidDeeds 12 = .ok (.iload_n 1, 1) := by decide +kernel
theorem dX2_voidDeeds_13 : decode cX2_voidDeeds 13 = .ok (.aload_n 0, 1) := by decide +kernel
theorem dX2_voidDeeds_14 : decode cX2_voidDeeds 14 = .ok (.iload_n 2, 1) := by decide +kernel
theorem dX2_voidDeeds_15 : decode cX2_voidDeeds 15 = .ok (.invokevirtual 70, 3) := by decide +kernel
theorem dX2_voidDeeds_18 : decode cX2_voidDeeds 18 = .ok (.ifCond .ne 7, 3) := by decide +kernel
theorem dX2_voidDeeds_21 : decode cX2_voidDeeds 21 = .ok (.iconst 1, 1) := by decide +kernel
theorem dX2_voidDeeds_22 : decode cX2_voidDeeds 22 = .ok (.goto 4, 3) := by decide +kernel
theorem dX2_voidDeeds_25 : decode cX2_voidDeeds 25 = .ok (.iconst 0, 1) := by decide +kernel
theorem dX2_voidDeeds_26 : decode cX2_voidDeeds 26 = .ok (.iadd, 1) := by decide +kernel
theorem dX2_voidDeeds_27 : decode cX2_voidDeeds 27 = .ok (.istore_n 1, 1) := by decide +kernel
theorem dX2_voidDeeds_28 : decode cX2_voidDeeds 28 = .ok (.iinc 2 1, 3) := by decide +kernel
theorem dX2_voidDeeds_31 : decode cX2_voidDeeds 31 = .ok (.goto (-27), 3) := by decide +kernel
theorem dX2_voidDeeds_34 : decode cX2_voidDeeds 34 = .ok (.iload_n 1, 1) := by decide +kernel
theorem dX2_voidDeeds_35 : decode cX2_voidDeeds 35 = .ok (.ireturn, 1) := by decide +kernel
set_option maxRecDepth 20000 in
theorem ggX2_deedsBinding_X2_boundByDeed : GoodIn wsX2_deedsBinding wsX2_boundByDeed := goodIn_r _ [6, 7, 8, 9, 10, 5, 11, 1, 12, 16, 17, 18, 19, 20, 21, 22] (by decide +kernel) (by decide +kernel)
set_option maxRecDepth 20000 in
theorem gX2_deedsBinding_X2_boundByDeed : GoodIn wsX2_deedsBinding (wsV RX2 70 RX2 yX2_boundByDeed wsX2_boundByDeed) := goodIn_app (goodIn_of _ (by decide +kernel)) ggX2_deedsBinding_X2_boundByDeed
set_option maxRecDepth 20000 in
theorem ggX2_deedsBinding_X11_holds : GoodIn wsX2_deedsBinding wsX11_holds := goodIn_r _ [15] (by decide +kernel) (by decide +kernel)
set_option maxRecDepth 20000 in
theorem gX2_deedsBinding_X11_holds_n74 : GoodIn wsX2_deedsBinding (wsX11_holds) := ggX2_deedsBinding_X11_holds
theorem dX2_deedsBinding_0 : decode cX2_deedsBinding 0 = .ok (.iconst 0, 1) := by decide +kernel
theorem dX2_deedsBinding_1 : decode cX2_deedsBinding 1 = .ok (.istore_n 2, 1) := by decide +kernel
theorem dX2_deedsBinding_2 : decode cX2_deedsBinding 2 = .ok (.iconst 0, 1) := by decide +kernel
theorem dX2_deedsBinding_3 : decode cX2_deedsBinding 3 = .ok (.istore_n 3, 1) := by decide +kernel
theorem dX2_deedsBinding_4 : decode cX2_deedsBinding 4 = .ok (.iload_n 3, 1) := by decide +kernel
theorem dX2_deedsBinding_5 : decode cX2_deedsBinding 5 = .ok (.aload_n 0, 1) := by decide +kernel
theorem dX2_deedsBinding_6 : decode cX2_deedsBinding 6 = .ok (.getfield 33, 3) := by decide +kernel
theorem dX2_deedsBinding_9 : decode cX2_deedsBinding 9 = .ok (.if_icmp .ge 29, 3) := by decide +kernel
theorem dX2_deedsBinding_12 : decode cX2_deedsBinding 12 = .ok (.iload_n 2, 1) := by decide +kernel
theorem dX2_deedsBinding_13 : decode cX2_deedsBinding 13 = .ok (.aload_n 0, 1) := by decide +kernel
theorem dX2_deedsBinding_14 : decode cX2_deedsBinding 14 = .ok (.iload_n 3, 1) := by decide +kernel
theorem dX2_deedsBinding_15 : decode cX2_deedsBinding 15 = .ok (.invokevirtual 70, 3) := by decide +kernel
theorem dX2_deedsBinding_18 : decode cX2_deedsBinding 18 = .ok (.iload_n 1, 1) := by decide +kernel
theorem dX2_deedsBinding_19 : decode cX2_deedsBinding 19 = .ok (.invokestatic 74, 3) := by decide +kernel
theorem dX2_deedsBinding_22 : decode cX2_deedsBinding 22 = .ok (.ifCond .eq 7, 3) := by decide +kernel
theorem dX2_deedsBinding_25 : decode cX2_deedsBinding 25 = .ok (.iconst 1, 1) := by decide +kernel
theorem dX2_deedsBinding_26 : decode cX2_deedsBinding 26 = .ok (.goto 4, 3) := by decide +kernel
theorem dX2_deedsBinding_29 : decode cX2_deedsBinding 29 = .ok (.iconst 0, 1) := by decide +kernel
theorem dX2_deedsBinding_30 : decode cX2_deedsBinding 30 = .ok (.iadd, 1) := by decide +kernel
theorem dX2_deedsBinding_31 : decode cX2_deedsBinding 31 = .ok (.istore_n 2, 1) := by decide +kernel
theorem dX2_deedsBinding_32 : decode cX2_deedsBinding 32 = .ok (.iinc 3 1, 3) := by decide +kernel
theorem dX2_deedsBinding_35 : decode cX2_deedsBinding 35 = .ok (.goto (-31), 3) := by decide +kernel
theorem dX2_deedsBinding_38 : decode cX2_deedsBinding 38 = .ok (.iload_n 2, 1) := by decide +kernel
theorem dX2_deedsBinding_39 : decode cX2_deedsBinding 39 = .ok (.ireturn, 1) := by decide +kernel
set_option maxRecDepth 20000 in
theorem ggX2_partsOwedBy_X2_boundByDeed : GoodIn wsX2_partsOwedBy wsX2_boundByDeed := goodIn_r _ [6, 7, 8, 9, 10, 5, 11, 1, 12, 29, 30, 31, 32, 33, 34, 35] (by decide +kernel) (by decide +kernel)
set_option maxRecDepth 20000 in
theorem gX2_partsOwedBy_X2_boundByDeed : GoodIn wsX2_partsOwedBy (wsV RX2 70 RX2 yX2_boundByDeed wsX2_boundByDeed) := goodIn_app (goodIn_of _ (by decide +kernel)) ggX2_partsOwedBy_X2_boundByDeed
set_option maxRecDepth 20000 in
theorem ggX2_partsOwedBy_X11_holds : GoodIn wsX2_partsOwedBy wsX11_holds := goodIn_r _ [15] (by decide +kernel) (by decide +kernel)
set_option maxRecDepth 20000 in
theorem gX2_partsOwedBy_X11_holds_n74 : GoodIn wsX2_partsOwedBy (wsX11_holds) := ggX2_partsOwedBy_X11_holds
set_option maxRecDepth 20000 in
theorem ggX2_partsOwedBy_X2_debtOf : GoodIn wsX2_partsOwedBy wsX2_debtOf := goodIn_r _ [19, 12, 8, 9, 10, 5, 11, 1, 7, 29, 30, 31, 32, 33, 34, 35] (by decide +kernel) (by decide +kernel)
set_option maxRecDepth 20000 in
theorem gX2_partsOwedBy_X2_debtOf : GoodIn wsX2_partsOwedBy (wsV RX2 78 RX2 yX2_debtOf wsX2_debtOf) := goodIn_app (goodIn_of _ (by decide +kernel)) ggX2_partsOwedBy_X2_debtOf
set_option maxRecDepth 20000 in
theorem ggX2_partsOwedBy_X11_shareOf : GoodIn wsX2_partsOwedBy wsX11_shareOf := goodIn_r _ [21, 22, 23, 24, 25, 26, 27, 28] (by decide +kernel) (by decide +kernel)
set_option maxRecDepth 20000 in
theorem gX2_partsOwedBy_X11_shareOf_n81 : GoodIn wsX2_partsOwedBy (wsX11_shareOf) := ggX2_partsOwedBy_X11_shareOf
theorem dX2_partsOwedBy_0 : decode cX2_partsOwedBy 0 = .ok (.iconst 0, 1) := by decide +kernel
theorem dX2_partsOwedBy_1 : decode cX2_partsOwedBy 1 = .ok (.istore_n 2, 1) := by decide +kernel
theorem dX2_partsOwedBy_2 : decode cX2_partsOwedBy 2 = .ok (.iconst 0, 1) := by decide +kernel
theorem dX2_partsOwedBy_3 : decode cX2_partsOwedBy 3 = .ok (.istore_n 3, 1) := by decide +kernel
theorem dX2_partsOwedBy_4 : decode cX2_partsOwedBy 4 = .ok (.iload_n 3, 1) := by decide +kernel
theorem dX2_partsOwedBy_5 : decode cX2_partsOwedBy 5 = .ok (.aload_n 0, 1) := by decide +kernel
theorem dX2_partsOwedBy_6 : decode cX2_partsOwedBy 6 = .ok (.getfield 33, 3) := by decide +kernel
theorem dX2_partsOwedBy_9 : decode cX2_partsOwedBy 9 = .ok (.if_icmp .ge 42, 3) := by decide +kernel
theorem dX2_partsOwedBy_12 : decode cX2_partsOwedBy 12 = .ok (.aload_n 0, 1) := by decide +kernel
theorem dX2_partsOwedBy_13 : decode cX2_partsOwedBy 13 = .ok (.iload_n 3, 1) := by decide +kernel
theorem dX2_partsOwedBy_14 : decode cX2_partsOwedBy 14 = .ok (.invokevirtual 70, 3) := by decide +kernel
theorem dX2_partsOwedBy_17 : decode cX2_partsOwedBy 17 = .ok (.istore 4, 2) := by decide +kernel
theorem dX2_partsOwedBy_19 : decode cX2_partsOwedBy 19 = .ok (.iload_n 2, 1) := by decide +kernel
theorem dX2_partsOwedBy_20 : decode cX2_partsOwedBy 20 = .ok (.iload 4, 2) := by decide +kernel
theorem dX2_partsOwedBy_22 : decode cX2_partsOwedBy 22 = .ok (.iload_n 1, 1) := by decide +kernel
theorem dX2_partsOwedBy_23 : decode cX2_partsOwedBy 23 = .ok (.invokestatic 74, 3) := by decide +kernel
theorem dX2_partsOwedBy_26 : decode cX2_partsOwedBy 26 = .ok (.ifCond .eq 16, 3) := by decide +kernel
theorem dX2_partsOwedBy_29 : decode cX2_partsOwedBy 29 = .ok (.aload_n 0, 1) := by decide +kernel
theorem dX2_partsOwedBy_30 : decode cX2_partsOwedBy 30 = .ok (.iload_n 3, 1) := by decide +kernel
theorem dX2_partsOwedBy_31 : decode cX2_partsOwedBy 31 = .ok (.invokevirtual 78, 3) := by decide +kernel
theorem dX2_partsOwedBy_34 : decode cX2_partsOwedBy 34 = .ok (.iload 4, 2) := by decide +kernel
theorem dX2_partsOwedBy_36 : decode cX2_partsOwedBy 36 = .ok (.invokestatic 81, 3) := by decide +kernel
theorem dX2_partsOwedBy_39 : decode cX2_partsOwedBy 39 = .ok (.goto 4, 3) := by decide +kernel
theorem dX2_partsOwedBy_42 : decode cX2_partsOwedBy 42 = .ok (.iconst 0, 1) := by decide +kernel
theorem dX2_partsOwedBy_43 : decode cX2_partsOwedBy 43 = .ok (.iadd, 1) := by decide +kernel
theorem dX2_partsOwedBy_44 : decode cX2_partsOwedBy 44 = .ok (.istore_n 2, 1) := by decide +kernel
theorem dX2_partsOwedBy_45 : decode cX2_partsOwedBy 45 = .ok (.iinc 3 1, 3) := by decide +kernel
theorem dX2_partsOwedBy_48 : decode cX2_partsOwedBy 48 = .ok (.goto (-44), 3) := by decide +kernel
theorem dX2_partsOwedBy_51 : decode cX2_partsOwedBy 51 = .ok (.iload_n 2, 1) := by decide +kernel
theorem dX2_partsOwedBy_52 : decode cX2_partsOwedBy 52 = .ok (.ireturn, 1) := by decide +kernel
set_option maxRecDepth 20000 in
theorem ggX2_fewestBreakers_J6_bitCount_0f7a4 : GoodIn wsX2_fewestBreakers wsJ6_bitCount_0f7a4 := goodIn_r _ [4, 5, 6, 7] (by decide +kernel) (by decide +kernel)
set_option maxRecDepth 20000 in
theorem gX2_fewestBreakers_J6_bitCount_0f7a4 : GoodIn wsX2_fewestBreakers (va_wsS RX2 85 yJ6_bitCount_0f7a4 wsJ6_bitCount_0f7a4) := goodIn_app (goodIn_of _ (by decide +kernel)) ggX2_fewestBreakers_J6_bitCount_0f7a4
set_option maxRecDepth 20000 in
theorem ggX2_fewestBreakers_X2_breaksAll : GoodIn wsX2_fewestBreakers wsX2_breaksAll := goodIn_r _ [12, 13, 14, 15, 16, 11, 17, 18, 19, 20, 21, 22, 23, 24, 25, 26, 27, 28, 29, 30] (by decide +kernel) (by decide +kernel)
set_option maxRecDepth 20000 in
theorem gX2_fewestBreakers_X2_breaksAll : GoodIn wsX2_fewestBreakers (wsV RX2 90 RX2 yX2_breaksAll wsX2_breaksAll) := goodIn_app (goodIn_of _ (by decide +kernel)) ggX2_fewestBreakers_X2_breaksAll
theorem dX2_fewestBreakers_0 : decode cX2_fewestBreakers 0 = .ok (.iload_n 1, 1) := by decide +kernel
theorem dX2_fewestBreakers_1 : decode cX2_fewestBreakers 1 = .ok (.istore_n 2, 1) := by decide +kernel
theorem dX2_fewestBreakers_2 : decode cX2_fewestBreakers 2 = .ok (.iconst 0, 1) := by decide +kernel
theorem dX2_fewestBreakers_3 : decode cX2_fewestBreakers 3 = .ok (.istore_n 3, 1) := by decide +kernel
theorem dX2_fewestBreakers_4 : decode cX2_fewestBreakers 4 = .ok (.iload_n 3, 1) := by decide +kernel
theorem dX2_fewestBreakers_5 : decode cX2_fewestBreakers 5 = .ok (.iload_n 1, 1) := by decide +kernel
theorem dX2_fewestBreakers_6 : decode cX2_fewestBreakers 6 = .ok (.if_icmp .ge 30, 3) := by decide +kernel
theorem dX2_fewestBreakers_9 : decode cX2_fewestBreakers 9 = .ok (.iload_n 3, 1) := by decide +kernel
theorem dX2_fewestBreakers_10 : decode cX2_fewestBreakers 10 = .ok (.invokestatic 85, 3) := by decide +kernel
theorem dX2_fewestBreakers_13 : decode cX2_fewestBreakers 13 = .ok (.iload_n 2, 1) := by decide +kernel
theorem dX2_fewestBreakers_14 : decode cX2_fewestBreakers 14 = .ok (.invokestatic 85, 3) := by decide +kernel
theorem dX2_fewestBreakers_17 : decode cX2_fewestBreakers 17 = .ok (.if_icmp .ge 13, 3) := by decide +kernel
theorem dX2_fewestBreakers_20 : decode cX2_fewestBreakers 20 = .ok (.aload_n 0, 1) := by decide +kernel
theorem dX2_fewestBreakers_21 : decode cX2_fewestBreakers 21 = .ok (.iload_n 3, 1) := by decide +kernel
theorem dX2_fewestBreakers_22 : decode cX2_fewestBreakers 22 = .ok (.invokevirtual 90, 3) := by decide +kernel
theorem dX2_fewestBreakers_25 : decode cX2_fewestBreakers 25 = .ok (.ifCond .eq 5, 3) := by decide +kernel
theorem dX2_fewestBreakers_28 : decode cX2_fewestBreakers 28 = .ok (.iload_n 3, 1) := by decide +kernel
theorem dX2_fewestBreakers_29 : decode cX2_fewestBreakers 29 = .ok (.istore_n 2, 1) := by decide +kernel
theorem dX2_fewestBreakers_30 : decode cX2_fewestBreakers 30 = .ok (.iinc 3 1, 3) := by decide +kernel
theorem dX2_fewestBreakers_33 : decode cX2_fewestBreakers 33 = .ok (.goto (-29), 3) := by decide +kernel
theorem dX2_fewestBreakers_36 : decode cX2_fewestBreakers 36 = .ok (.iload_n 2, 1) := by decide +kernel
theorem dX2_fewestBreakers_37 : decode cX2_fewestBreakers 37 = .ok (.ireturn, 1) := by decide +kernel
set_option maxRecDepth 20000 in
theorem ggX2_breaksAll_X2_boundByDeed : GoodIn wsX2_breaksAll wsX2_boundByDeed := goodIn_r _ [6, 7, 8, 9, 10, 5, 11, 1, 12, 13, 14, 15, 16, 17, 18, 19] (by decide +kernel) (by decide +kernel)
set_option maxRecDepth 20000 in
theorem gX2_breaksAll_X2_boundByDeed : GoodIn wsX2_breaksAll (wsV RX2 70 RX2 yX2_boundByDeed wsX2_boundByDeed) := goodIn_app (goodIn_of _ (by decide +kernel)) ggX2_breaksAll_X2_boundByDeed
theorem dX2_breaksAll_0 : decode cX2_breaksAll 0 = .ok (.iconst 0, 1) := by decide +kernel
theorem dX2_breaksAll_1 : decode cX2_breaksAll 1 = .ok (.istore_n 2, 1) := by decide +kernel
theorem dX2_breaksAll_2 : decode cX2_breaksAll 2 = .ok (.iload_n 2, 1) := by decide +kernel
theorem dX2_breaksAll_3 : decode cX2_breaksAll 3 = .ok (.aload_n 0, 1) := by decide +kernel
theorem dX2_breaksAll_4 : decode cX2_breaksAll 4 = .ok (.getfield 33, 3) := by decide +kernel
theorem dX2_breaksAll_7 : decode cX2_breaksAll 7 = .ok (.if_icmp .ge 27, 3) := by decide +kernel
theorem dX2_breaksAll_10 : decode cX2_breaksAll 10 = .ok (.aload_n 0, 1) := by decide +kernel
theorem dX2_breaksAll_11 : decode cX2_breaksAll 11 = .ok (.iload_n 2, 1) := by decide +kernel
theorem dX2_breaksAll_12 : decode cX2_breaksAll 12 = .ok (.invokevirtual 70, 3) := by decide +kernel
theorem dX2_breaksAll_15 : decode cX2_breaksAll 15 = .ok (.istore_n 3, 1) := by decide +kernel
theorem dX2_breaksAll_16 : decode cX2_breaksAll 16 = .ok (.iload_n 3, 1) := by decide +kernel
theorem dX2_breaksAll_17 : decode cX2_breaksAll 17 = .ok (.ifCond .eq 11, 3) := by decide +kernel
theorem dX2_breaksAll_20 : decode cX2_breaksAll 20 = .ok (.iload_n 3, 1) := by decide +kernel
theorem dX2_breaksAll_21 : decode cX2_breaksAll 21 = .ok (.iload_n 1, 1) := by decide +kernel
theorem dX2_breaksAll_22 : decode cX2_breaksAll 22 = .ok (.iand, 1) := by decide +kernel
theorem dX2_breaksAll_23 : decode cX2_breaksAll 23 = .ok (.ifCond .ne 5, 3) := by decide +kernel
theorem dX2_breaksAll_26 : decode cX2_breaksAll 26 = .ok (.iconst 0, 1) := by decide +kernel
theorem dX2_breaksAll_27 : decode cX2_breaksAll 27 = .ok (.ireturn, 1) := by decide +kernel
theorem dX2_breaksAll_28 : decode cX2_breaksAll 28 = .ok (.iinc 2 1, 3) := by decide +kernel
theorem dX2_breaksAll_31 : decode cX2_breaksAll 31 = .ok (.goto (-29), 3) := by decide +kernel
theorem dX2_breaksAll_34 : decode cX2_breaksAll 34 = .ok (.iconst 1, 1) := by decide +kernel
theorem dX2_breaksAll_35 : decode cX2_breaksAll 35 = .ok (.ireturn, 1) := by decide +kernel
theorem dX2_heard_0 : decode cX2_heard 0 = .ok (.aload_n 0, 1) := by decide +kernel
theorem dX2_heard_1 : decode cX2_heard 1 = .ok (.getfield 50, 3) := by decide +kernel
theorem dX2_heard_4 : decode cX2_heard 4 = .ok (.ireturn, 1) := by decide +kernel
theorem dX2_addHeard_0 : decode cX2_addHeard 0 = .ok (.aload_n 0, 1) := by decide +kernel
theorem dX2_addHeard_1 : decode cX2_addHeard 1 = .ok (.getfield 50, 3) := by decide +kernel
theorem dX2_addHeard_4 : decode cX2_addHeard 4 = .ok (.bipush 6, 2) := by decide +kernel
theorem dX2_addHeard_6 : decode cX2_addHeard 6 = .ok (.if_icmp .lt 5, 3) := by decide +kernel
theorem dX2_addHeard_9 : decode cX2_addHeard 9 = .ok (.iconst 0, 1) := by decide +kernel
theorem dX2_addHeard_10 : decode cX2_addHeard 10 = .ok (.ireturn, 1) := by decide +kernel
theorem dX2_addHeard_11 : decode cX2_addHeard 11 = .ok (.aload_n 0, 1) := by decide +kernel
theorem dX2_addHeard_12 : decode cX2_addHeard 12 = .ok (.dup, 1) := by decide +kernel
theorem dX2_addHeard_13 : decode cX2_addHeard 13 = .ok (.getfield 50, 3) := by decide +kernel
theorem dX2_addHeard_16 : decode cX2_addHeard 16 = .ok (.iconst 1, 1) := by decide +kernel
theorem dX2_addHeard_17 : decode cX2_addHeard 17 = .ok (.iadd, 1) := by decide +kernel
theorem dX2_addHeard_18 : decode cX2_addHeard 18 = .ok (.putfield 50, 3) := by decide +kernel
theorem dX2_addHeard_21 : decode cX2_addHeard 21 = .ok (.iload_n 2, 1) := by decide +kernel
theorem dX2_addHeard_22 : decode cX2_addHeard 22 = .ok (.ifCond .eq 18, 3) := by decide +kernel
theorem dX2_addHeard_25 : decode cX2_addHeard 25 = .ok (.aload_n 0, 1) := by decide +kernel
theorem dX2_addHeard_26 : decode cX2_addHeard 26 = .ok (.dup, 1) := by decide +kernel
theorem dX2_addHeard_27 : decode cX2_addHeard 27 = .ok (.getfield 53, 3) := by decide +kernel
theorem dX2_addHeard_30 : decode cX2_addHeard 30 = .ok (.iconst 1, 1) := by decide +kernel
theorem dX2_addHeard_31 : decode cX2_addHeard 31 = .ok (.iload_n 1, 1) := by decide +kernel
theorem dX2_addHeard_32 : decode cX2_addHeard 32 = .ok (.ishl, 1) := by decide +kernel
theorem dX2_addHeard_33 : decode cX2_addHeard 33 = .ok (.ior, 1) := by decide +kernel
theorem dX2_addHeard_34 : decode cX2_addHeard 34 = .ok (.putfield 53, 3) := by decide +kernel
theorem dX2_addHeard_37 : decode cX2_addHeard 37 = .ok (.goto 15, 3) := by decide +kernel
theorem dX2_addHeard_40 : decode cX2_addHeard 40 = .ok (.aload_n 0, 1) := by decide +kernel
theorem dX2_addHeard_41 : decode cX2_addHeard 41 = .ok (.dup, 1) := by decide +kernel
theorem dX2_addHeard_42 : decode cX2_addHeard 42 = .ok (.getfield 56, 3) := by decide +kernel
theorem dX2_addHeard_45 : decode cX2_addHeard 45 = .ok (.iconst 1, 1) := by decide +kernel
theorem dX2_addHeard_46 : decode cX2_addHeard 46 = .ok (.iload_n 1, 1) := by decide +kernel
theorem dX2_addHeard_47 : decode cX2_addHeard 47 = .ok (.ishl, 1) := by decide +kernel
theorem dX2_addHeard_48 : decode cX2_addHeard 48 = .ok (.ior, 1) := by decide +kernel
theorem dX2_addHeard_49 : decode cX2_addHeard 49 = .ok (.putfield 56, 3) := by decide +kernel
theorem dX2_addHeard_52 : decode cX2_addHeard 52 = .ok (.iconst 1, 1) := by decide +kernel
theorem dX2_addHeard_53 : decode cX2_addHeard 53 = .ok (.ireturn, 1) := by decide +kernel
theorem dX2_clearHeard_0 : decode cX2_clearHeard 0 = .ok (.aload_n 0, 1) := by decide +kernel
theorem dX2_clearHeard_1 : decode cX2_clearHeard 1 = .ok (.iconst 0, 1) := by decide +kernel
theorem dX2_clearHeard_2 : decode cX2_clearHeard 2 = .ok (.putfield 50, 3) := by decide +kernel
theorem dX2_clearHeard_5 : decode cX2_clearHeard 5 = .ok (.aload_n 0, 1) := by decide +kernel
theorem dX2_clearHeard_6 : decode cX2_clearHeard 6 = .ok (.iconst 0, 1) := by decide +kernel
theorem dX2_clearHeard_7 : decode cX2_clearHeard 7 = .ok (.putfield 53, 3) := by decide +kernel
theorem dX2_clearHeard_10 : decode cX2_clearHeard 10 = .ok (.aload_n 0, 1) := by decide +kernel
theorem dX2_clearHeard_11 : decode cX2_clearHeard 11 = .ok (.iconst 0, 1) := by decide +kernel
theorem dX2_clearHeard_12 : decode cX2_clearHeard 12 = .ok (.putfield 56, 3) := by decide +kernel
theorem dX2_clearHeard_15 : decode cX2_clearHeard 15 = .ok (.return_, 1) := by decide +kernel
theorem dX2_agreesWithHeard_0 : decode cX2_agreesWithHeard 0 = .ok (.iload_n 1, 1) := by decide +kernel
theorem dX2_agreesWithHeard_1 : decode cX2_agreesWithHeard 1 = .ok (.aload_n 0, 1) := by decide +kernel
theorem dX2_agreesWithHeard_2 : decode cX2_agreesWithHeard 2 = .ok (.getfield 53, 3) := by decide +kernel
theorem dX2_agreesWithHeard_5 : decode cX2_agreesWithHeard 5 = .ok (.iand, 1) := by decide +kernel
theorem dX2_agreesWithHeard_6 : decode cX2_agreesWithHeard 6 = .ok (.aload_n 0, 1) := by decide +kernel
theorem dX2_agreesWithHeard_7 : decode cX2_agreesWithHeard 7 = .ok (.getfield 53, 3) := by decide +kernel
theorem dX2_agreesWithHeard_10 : decode cX2_agreesWithHeard 10 = .ok (.if_icmp .ne 16, 3) := by decide +kernel
theorem dX2_agreesWithHeard_13 : decode cX2_agreesWithHeard 13 = .ok (.iload_n 1, 1) := by decide +kernel
theorem dX2_agreesWithHeard_14 : decode cX2_agreesWithHeard 14 = .ok (.aload_n 0, 1) := by decide +kernel
theorem dX2_agreesWithHeard_15 : decode cX2_agreesWithHeard 15 = .ok (.getfield 56, 3) := by decide +kernel
theorem dX2_agreesWithHeard_18 : decode cX2_agreesWithHeard 18 = .ok (.iand, 1) := by decide +kernel
theorem dX2_agreesWithHeard_19 : decode cX2_agreesWithHeard 19 = .ok (.ifCond .ne 7, 3) := by decide +kernel
theorem dX2_agreesWithHeard_22 : decode cX2_agreesWithHeard 22 = .ok (.iconst 1, 1) := by decide +kernel
theorem dX2_agreesWithHeard_23 : decode cX2_agreesWithHeard 23 = .ok (.goto 4, 3) := by decide +kernel
theorem dX2_agreesWithHeard_26 : decode cX2_agreesWithHeard 26 = .ok (.iconst 0, 1) := by decide +kernel
theorem dX2_agreesWithHeard_27 : decode cX2_agreesWithHeard 27 = .ok (.ireturn, 1) := by decide +kernel
set_option maxRecDepth 20000 in
theorem ggX3_init_X7_init : GoodIn wsX3_init wsX7_init := goodIn_r _ [4, 5, 6, 7, 8, 9, 10, 11, 12, 13] (by decide +kernel) (by decide +kernel)
set_option maxRecDepth 20000 in
theorem gX3_init_X7_init : GoodIn wsX3_init (wsX7_init) := ggX3_init_X7_init
theorem dX3_init_0 : decode cX3_init 0 = .ok (.aload_n 0, 1) := by decide +kernel
theorem dX3_init_1 : decode cX3_init 1 = .ok (.iload_n 1, 1) := by decide +kernel
theorem dX3_init_2 : decode cX3_init 2 = .ok (.invokespecial 3, 3) := by decide +kernel
theorem dX3_init_5 : decode cX3_init 5 = .ok (.return_, 1) := by decide +kernel
theorem dX3_kind_0 : decode cX3_kind 0 = .ok (.iconst 3, 1) := by decide +kernel
theorem dX3_kind_1 : decode cX3_kind 1 = .ok (.ireturn, 1) := by decide +kernel
theorem dX3_canBeBound_0 : decode cX3_canBeBound 0 = .ok (.iconst 0, 1) := by decide +kernel
theorem dX3_canBeBound_1 : decode cX3_canBeBound 1 = .ok (.ireturn, 1) := by decide +kernel
set_option maxRecDepth 20000 in
theorem ggX4_init_X2_init : GoodIn wsX4_init wsX2_init := goodIn_r _ [10, 11, 2, 3, 12, 13, 14, 15, 16, 17, 18, 19, 20, 21, 22, 23, 24, 25, 26, 27, 28, 29, 34, 35] (by decide +kernel) (by decide +kernel)
set_option maxRecDepth 20000 in
theorem gX4_init_X2_init : GoodIn wsX4_init (wsX2_init) := ggX4_init_X2_init
theorem dX4_init_0 : decode cX4_init 0 = .ok (.aload_n 0, 1) := by decide +kernel
theorem dX4_init_1 : decode cX4_init 1 = .ok (.invokespecial 3, 3) := by decide +kernel
theorem dX4_init_4 : decode cX4_init 4 = .ok (.aload_n 0, 1) := by decide +kernel
theorem dX4_init_5 : decode cX4_init 5 = .ok (.new 9, 3) := by decide +kernel
theorem dX4_init_8 : decode cX4_init 8 = .ok (.dup, 1) := by decide +kernel
theorem dX4_init_9 : decode cX4_init 9 = .ok (.invokespecial 11, 3) := by decide +kernel
theorem dX4_init_12 : decode cX4_init 12 = .ok (.putfield 12, 3) := by decide +kernel
theorem dX4_init_15 : decode cX4_init 15 = .ok (.return_, 1) := by decide +kernel
theorem dX4_seed_0 : decode cX4_seed 0 = .ok (.aload_n 0, 1) := by decide +kernel
theorem dX4_seed_1 : decode cX4_seed 1 = .ok (.getfield 18, 3) := by decide +kernel
theorem dX4_seed_4 : decode cX4_seed 4 = .ok (.ireturn, 1) := by decide +kernel
theorem dX4_unsigned_0 : decode cX4_unsigned 0 = .ok (.aload_n 0, 1) := by decide +kernel
theorem dX4_unsigned_1 : decode cX4_unsigned 1 = .ok (.getfield 22, 3) := by decide +kernel
theorem dX4_unsigned_4 : decode cX4_unsigned 4 = .ok (.ireturn, 1) := by decide +kernel
theorem dX4_partsOwed_0 : decode cX4_partsOwed 0 = .ok (.aload_n 0, 1) := by decide +kernel
theorem dX4_partsOwed_1 : decode cX4_partsOwed 1 = .ok (.getfield 25, 3) := by decide +kernel
theorem dX4_partsOwed_4 : decode cX4_partsOwed 4 = .ok (.ireturn, 1) := by decide +kernel
set_option maxRecDepth 20000 in
theorem ggX4_open_X2_copyFrom : GoodIn wsX4_open wsX2_copyFrom := goodIn_r _ [9, 10, 11, 12, 13, 14, 15, 16, 17, 18, 19, 20, 21, 22, 23, 8, 24, 25, 26, 27, 28, 29, 30, 31, 32, 37, 38, 39, 40, 41, 42, 43, 44, 45] (by decide +kernel) (by decide +kernel)
set_option maxRecDepth 20000 in
theorem gX4_open_X2_copyFrom : GoodIn wsX4_open (wsV RX4 28 RX2 yX2_copyFrom wsX2_copyFrom) := goodIn_app (goodIn_of _ (by decide +kernel)) ggX4_open_X2_copyFrom
theorem dX4_open_0 : decode cX4_open 0 = .ok (.aload_n 0, 1) := by decide +kernel
theorem dX4_open_1 : decode cX4_open 1 = .ok (.getfield 12, 3) := by decide +kernel
theorem dX4_open_4 : decode cX4_open 4 = .ok (.aload_n 1, 1) := by decide +kernel
theorem dX4_open_5 : decode cX4_open 5 = .ok (.invokevirtual 28, 3) := by decide +kernel
theorem dX4_open_8 : decode cX4_open 8 = .ok (.aload_n 0, 1) := by decide +kernel
theorem dX4_open_9 : decode cX4_open 9 = .ok (.iload_n 2, 1) := by decide +kernel
theorem dX4_open_10 : decode cX4_open 10 = .ok (.putfield 18, 3) := by decide +kernel
theorem dX4_open_13 : decode cX4_open 13 = .ok (.aload_n 0, 1) := by decide +kernel
theorem dX4_open_14 : decode cX4_open 14 = .ok (.iconst 0, 1) := by decide +kernel
theorem dX4_open_15 : decode cX4_open 15 = .ok (.putfield 22, 3) := by decide +kernel
theorem dX4_open_18 : decode cX4_open 18 = .ok (.aload_n 0, 1) := by decide +kernel
theorem dX4_open_19 : decode cX4_open 19 = .ok (.iconst 0, 1) := by decide +kernel
theorem dX4_open_20 : decode cX4_open 20 = .ok (.putfield 25, 3) := by decide +kernel
theorem dX4_open_23 : decode cX4_open 23 = .ok (.return_, 1) := by decide +kernel
set_option maxRecDepth 20000 in
theorem ggX4_holdOne_X10_size : GoodIn wsX4_holdOne wsX10_size := goodIn_r _ [8, 9, 127, 128, 129] (by decide +kernel) (by decide +kernel)
set_option maxRecDepth 20000 in
theorem gX4_holdOne_X10_size : GoodIn wsX4_holdOne (wsV RX4 32 RX10 yX10_size wsX10_size) := goodIn_app (goodIn_of _ (by decide +kernel)) ggX4_holdOne_X10_size
set_option maxRecDepth 20000 in
theorem ggX4_holdOne_X4_draw : GoodIn wsX4_holdOne wsX4_draw := goodIn_r _ [14, 15, 16, 17, 18, 19, 123, 124, 125, 126] (by decide +kernel) (by decide +kernel)
set_option maxRecDepth 20000 in
theorem gX4_holdOne_X4_draw : GoodIn wsX4_holdOne (wsV RX4 38 RX4 yX4_draw wsX4_draw) := goodIn_app (goodIn_of _ (by decide +kernel)) ggX4_holdOne_X4_draw
set_option maxRecDepth 20000 in
theorem ggX4_holdOne_X2_pen : GoodIn wsX4_holdOne wsX2_pen := goodIn_r _ [24, 25, 130, 131, 132, 133, 134, 135, 136] (by decide +kernel) (by decide +kernel)
set_option maxRecDepth 20000 in
theorem gX4_holdOne_X2_pen : GoodIn wsX4_holdOne (wsV RX4 42 RX2 yX2_pen wsX2_pen) := goodIn_app (goodIn_of _ (by decide +kernel)) ggX4_holdOne_X2_pen
set_option maxRecDepth 20000 in
theorem ggX4_holdOne_X10_canBeLent : GoodIn wsX4_holdOne wsX10_canBeLent := goodIn_r _ [29, 30, 31, 32, 7, 33, 34, 35, 36, 37, 38, 39, 40, 41, 42, 43, 44, 9, 45, 46, 47, 48, 49, 50, 51, 52, 53, 54, 55, 56, 57, 58, 59, 60, 61, 62, 63, 64, 137, 138, 127, 128, 129] (by decide +kernel) (by decide +kernel)
set_option maxRecDepth 20000 in
theorem gX4_holdOne_X10_canBeLent : GoodIn wsX4_holdOne (wsV RX4 46 RX10 yX10_canBeLent wsX10_canBeLent) := goodIn_app (goodIn_of _ (by decide +kernel)) ggX4_holdOne_X10_canBeLent
set_option maxRecDepth 20000 in
theorem ggX4_holdOne_X6_passTo : GoodIn wsX4_holdOne wsX6_passTo := goodIn_r _ [68, 39, 40, 137, 138] (by decide +kernel) (by decide +kernel)
set_option maxRecDepth 20000 in
theorem gX4_holdOne_X6_passTo : GoodIn wsX4_holdOne (wsV RX4 50 RX6 yX6_passTo wsX6_passTo) := goodIn_app (goodIn_of _ (by decide +kernel)) ggX4_holdOne_X6_passTo
set_option maxRecDepth 20000 in
theorem ggX4_holdOne_X10_boundBy : GoodIn wsX4_holdOne wsX10_boundBy := goodIn_r _ [72, 73, 74, 75, 76, 37, 77, 39, 78, 79, 80, 81, 82, 83, 84, 85, 86, 87, 88, 40, 41, 42, 43, 7, 44, 9, 45, 89, 90, 91, 92, 93, 94, 95, 57, 96, 97, 98, 99, 100, 101, 102, 103, 104, 105, 106, 107, 108, 109, 110, 111, 112, 113, 114, 115, 116, 117, 118, 119, 127, 128, 129, 137, 138] (by decide +kernel) (by decide +kernel)
set_option maxRecDepth 20000 in
theorem gX4_holdOne_X10_boundBy : GoodIn wsX4_holdOne (wsV RX4 56 RX10 yX10_boundBy wsX10_boundBy) := goodIn_app (goodIn_of _ (by decide +kernel)) ggX4_holdOne_X10_boundBy
set_option maxRecDepth 20000 in
theorem ggX4_holdOne_X11_holds : GoodIn wsX4_holdOne wsX11_holds := goodIn_r _ [91] (by decide +kernel) (by decide +kernel)
set_option maxRecDepth 20000 in
theorem gX4_holdOne_X11_holds_n60 : GoodIn wsX4_holdOne (wsX11_holds) := ggX4_holdOne_X11_holds
set_option maxRecDepth 20000 in
theorem ggX4_holdOne_X11_shareOf : GoodIn wsX4_holdOne wsX11_shareOf := goodIn_r _ [121, 122, 79, 80, 81, 82, 83, 84] (by decide +kernel) (by decide +kernel)
set_option maxRecDepth 20000 in
theorem gX4_holdOne_X11_shareOf_n64 : GoodIn wsX4_holdOne (wsX11_shareOf) := ggX4_holdOne_X11_shareOf
theorem dX4_holdOne_0 : decode cX4_holdOne 0 = .ok (.aload_n 0, 1) := by decide +kernel
theorem dX4_holdOne_1 : decode cX4_holdOne 1 = .ok (.getfield 12, 3) := by decide +kernel
theorem dX4_holdOne_4 : decode cX4_holdOne 4 = .ok (.aload_n 0, 1) := by decide +kernel
theorem dX4_holdOne_5 : decode cX4_holdOne 5 = .ok (.aload_n 1, 1) := by decide +kernel
theorem dX4_holdOne_6 : decode cX4_holdOne 6 = .ok (.invokevirtual 32, 3) := by decide +kernel
theorem dX4_holdOne_9 : decode cX4_holdOne 9 = .ok (.invokevirtual 38, 3) := by decide +kernel
theorem dX4_holdOne_12 : decode cX4_holdOne 12 = .ok (.invokevirtual 42, 3) := by decide +kernel
theorem dX4_holdOne_15 : decode cX4_holdOne 15 = .ok (.astore_n 2, 1) := by decide +kernel
theorem dX4_holdOne_16 : decode cX4_holdOne 16 = .ok (.aload_n 0, 1) := by decide +kernel
theorem dX4_holdOne_17 : decode cX4_holdOne 17 = .ok (.aload_n 1, 1) := by decide +kernel
theorem dX4_holdOne_18 : decode cX4_holdOne 18 = .ok (.invokevirtual 32, 3) := by decide +kernel
theorem dX4_holdOne_21 : decode cX4_holdOne 21 = .ok (.invokevirtual 38, 3) := by decide +kernel
theorem dX4_holdOne_24 : decode cX4_holdOne 24 = .ok (.istore_n 3, 1) := by decide +kernel
theorem dX4_holdOne_25 : decode cX4_holdOne 25 = .ok (.iconst 1, 1) := by decide +kernel
theorem dX4_holdOne_26 : decode cX4_holdOne 26 = .ok (.aload_n 0, 1) := by decide +kernel
theorem dX4_holdOne_27 : decode cX4_holdOne 27 = .ok (.bipush 9, 2) := by decide +kernel
theorem dX4_holdOne_29 : decode cX4_holdOne 29 = .ok (.invokevirtual 38, 3) := by decide +kernel
theorem dX4_holdOne_32 : decode cX4_holdOne 32 = .ok (.iadd, 1) := by decide +kernel
theorem dX4_holdOne_33 : decode cX4_holdOne 33 = .ok (.istore 4, 2) := by decide +kernel
theorem dX4_holdOne_35 : decode cX4_holdOne 35 = .ok (.aload_n 2, 1) := by decide +kernel
theorem dX4_holdOne_36 : decode cX4_holdOne 36 = .ok (.ifnonnull 4, 3) := by decide +kernel
theorem dX4_holdOne_39 : decode cX4_holdOne 39 = .ok (.return_, 1) := by decide +kernel
theorem dX4_holdOne_40 : decode cX4_holdOne 40 = .ok (.aload_n 1, 1) := by decide +kernel
theorem dX4_holdOne_41 : decode cX4_holdOne 41 = .ok (.aload_n 2, 1) := by decide +kernel
theorem dX4_holdOne_42 : decode cX4_holdOne 42 = .ok (.iload_n 3, 1) := by decide +kernel
theorem dX4_holdOne_43 : decode cX4_holdOne 43 = .ok (.invokevirtual 46, 3) := by decide +kernel
theorem dX4_holdOne_46 : decode cX4_holdOne 46 = .ok (.ifCond .eq 8, 3) := by decide +kernel
theorem dX4_holdOne_49 : decode cX4_holdOne 49 = .ok (.aload_n 2, 1) := by decide +kernel
theorem dX4_holdOne_50 : decode cX4_holdOne 50 = .ok (.iload_n 3, 1) := by decide +kernel
theorem dX4_holdOne_51 : decode cX4_holdOne 51 = .ok (.invokevirtual 50, 3) := by decide +kernel
theorem dX4_holdOne_54 : decode cX4_holdOne 54 = .ok (.aload_n 1, 1) := by decide +kernel
theorem dX4_holdOne_55 : decode cX4_holdOne 55 = .ok (.aload_n 2, 1) := by decide +kernel
theorem dX4_holdOne_56 : decode cX4_holdOne 56 = .ok (.invokevirtual 56, 3) := by decide +kernel
theorem dX4_holdOne_59 : decode cX4_holdOne 59 = .ok (.istore 5, 2) := by decide +kernel
theorem dX4_holdOne_61 : decode cX4_holdOne 61 = .ok (.iload 5, 2) := by decide +kernel
theorem dX4_holdOne_63 : decode cX4_holdOne 63 = .ok (.ifCond .ne 16, 3) := by decide +kernel
theorem dX4_holdOne_66 : decode cX4_holdOne 66 = .ok (.aload_n 0, 1) := by decide +kernel
theorem dX4_holdOne_67 : decode cX4_holdOne 67 = .ok (.dup, 1) := by decide +kernel
theorem dX4_holdOne_68 : decode cX4_holdOne 68 = .ok (.getfield 22, 3) := by decide +kernel
theorem dX4_holdOne_71 : decode cX4_holdOne 71 = .ok (.iconst 1, 1) := by decide +kernel
theorem dX4_holdOne_72 : decode cX4_holdOne 72 = .ok (.iadd, 1) := by decide +kernel
theorem dX4_holdOne_73 : decode cX4_holdOne 73 = .ok (.putfield 22, 3) := by decide +kernel
theorem dX4_holdOne_76 : decode cX4_holdOne 76 = .ok (.goto 28, 3) := by decide +kernel
theorem dX4_holdOne_79 : decode cX4_holdOne 79 = .ok (.iload 5, 2) := by decide +kernel
theorem dX4_holdOne_81 : decode cX4_holdOne 81 = .ok (.iconst 0, 1) := by decide +kernel
theorem dX4_holdOne_82 : decode cX4_holdOne 82 = .ok (.invokestatic 60, 3) := by decide +kernel
theorem dX4_holdOne_85 : decode cX4_holdOne 85 = .ok (.ifCond .eq 19, 3) := by decide +kernel
theorem dX4_holdOne_88 : decode cX4_holdOne 88 = .ok (.aload_n 0, 1) := by decide +kernel
theorem dX4_holdOne_89 : decode cX4_holdOne 89 = .ok (.dup, 1) := by decide +kernel
theorem dX4_holdOne_90 : decode cX4_holdOne 90 = .ok (.getfield 25, 3) := by decide +kernel
theorem dX4_holdOne_93 : decode cX4_holdOne 93 = .ok (.iload 4, 2) := by decide +kernel
theorem dX4_holdOne_95 : decode cX4_holdOne 95 = .ok (.iload 5, 2) := by decide +kernel
theorem dX4_holdOne_97 : decode cX4_holdOne 97 = .ok (.invokestatic 64, 3) := by decide +kernel
theorem dX4_holdOne_100 : decode cX4_holdOne 100 = .ok (.iadd, 1) := by decide +kernel
theorem dX4_holdOne_101 : decode cX4_holdOne 101 = .ok (.putfield 25, 3) := by decide +kernel
theorem dX4_holdOne_104 : decode cX4_holdOne 104 = .ok (.return_, 1) := by decide +kernel
theorem dX4_draw_0 : decode cX4_draw 0 = .ok (.aload_n 0, 1) := by decide +kernel
theorem dX4_draw_1 : decode cX4_draw 1 = .ok (.ldc2_w 68, 3) := by decide +kernel
theorem dX4_draw_4 : decode cX4_draw 4 = .ok (.aload_n 0, 1) := by decide +kernel
theorem dX4_draw_5 : decode cX4_draw 5 = .ok (.getfield 18, 3) := by decide +kernel
theorem dX4_draw_8 : decode cX4_draw 8 = .ok (.i2l, 1) := by decide +kernel
theorem dX4_draw_9 : decode cX4_draw 9 = .ok (.lmul, 1) := by decide +kernel
theorem dX4_draw_10 : decode cX4_draw 10 = .ok (.ldc2_w 70, 3) := by decide +kernel
theorem dX4_draw_13 : decode cX4_draw 13 = .ok (.ladd, 1) := by decide +kernel
theorem dX4_draw_14 : decode cX4_draw 14 = .ok (.ldc2_w 72, 3) := by decide +kernel
theorem dX4_draw_17 : decode cX4_draw 17 = .ok (.lrem, 1) := by decide +kernel
theorem dX4_draw_18 : decode cX4_draw 18 = .ok (.l2i, 1) := by decide +kernel
theorem dX4_draw_19 : decode cX4_draw 19 = .ok (.putfield 18, 3) := by decide +kernel
theorem dX4_draw_22 : decode cX4_draw 22 = .ok (.iload_n 1, 1) := by decide +kernel
theorem dX4_draw_23 : decode cX4_draw 23 = .ok (.iconst 1, 1) := by decide +kernel
theorem dX4_draw_24 : decode cX4_draw 24 = .ok (.if_icmp .ge 7, 3) := by decide +kernel
theorem dX4_draw_27 : decode cX4_draw 27 = .ok (.iconst 0, 1) := by decide +kernel
theorem dX4_draw_28 : decode cX4_draw 28 = .ok (.goto 12, 3) := by decide +kernel
theorem dX4_draw_31 : decode cX4_draw 31 = .ok (.aload_n 0, 1) := by decide +kernel
theorem dX4_draw_32 : decode cX4_draw 32 = .ok (.getfield 18, 3) := by decide +kernel
theorem dX4_draw_35 : decode cX4_draw 35 = .ok (.ldc 74, 2) := by decide +kernel
theorem dX4_draw_37 : decode cX4_draw 37 = .ok (.idiv, 1) := by decide +kernel
theorem dX4_draw_38 : decode cX4_draw 38 = .ok (.iload_n 1, 1) := by decide +kernel
theorem dX4_draw_39 : decode cX4_draw 39 = .ok (.irem, 1) := by decide +kernel
theorem dX4_draw_40 : decode cX4_draw 40 = .ok (.ireturn, 1) := by decide +kernel
theorem dX5_init_0 : decode cX5_init 0 = .ok (.aload_n 0, 1) := by decide +kernel
theorem dX5_init_1 : decode cX5_init 1 = .ok (.invokespecial 3, 3) := by decide +kernel
theorem dX5_init_4 : decode cX5_init 4 = .ok (.aload_n 0, 1) := by decide +kernel
theorem dX5_init_5 : decode cX5_init 5 = .ok (.bipush 18, 2) := by decide +kernel
theorem dX5_init_7 : decode cX5_init 7 = .ok (.newarray .int, 2) := by decide +kernel
theorem dX5_init_9 : decode cX5_init 9 = .ok (.putfield 9, 3) := by decide +kernel
theorem dX5_init_12 : decode cX5_init 12 = .ok (.return_, 1) := by decide +kernel
theorem dX5_size_0 : decode cX5_size 0 = .ok (.aload_n 0, 1) := by decide +kernel
theorem dX5_size_1 : decode cX5_size 1 = .ok (.getfield 15, 3) := by decide +kernel
theorem dX5_size_4 : decode cX5_size 4 = .ok (.ireturn, 1) := by decide +kernel
theorem dX5_codeAt_0 : decode cX5_codeAt 0 = .ok (.iload_n 1, 1) := by decide +kernel
theorem dX5_codeAt_1 : decode cX5_codeAt 1 = .ok (.ifCond .lt 20, 3) := by decide +kernel
theorem dX5_codeAt_4 : decode cX5_codeAt 4 = .ok (.iload_n 1, 1) := by decide +kernel
theorem dX5_codeAt_5 : decode cX5_codeAt 5 = .ok (.aload_n 0, 1) := by decide +kernel
theorem dX5_codeAt_6 : decode cX5_codeAt 6 = .ok (.getfield 15, 3) := by decide +kernel
theorem dX5_codeAt_9 : decode cX5_codeAt 9 = .ok (.if_icmp .ge 12, 3) := by decide +kernel
theorem dX5_codeAt_12 : decode cX5_codeAt 12 = .ok (.iload_n 1, 1) := by decide +kernel
theorem dX5_codeAt_13 : decode cX5_codeAt 13 = .ok (.aload_n 0, 1) := by decide +kernel
theorem dX5_codeAt_14 : decode cX5_codeAt 14 = .ok (.getfield 9, 3) := by decide +kernel
theorem dX5_codeAt_17 : decode cX5_codeAt 17 = .ok (.arraylength, 1) := by decide +kernel
theorem dX5_codeAt_18 : decode cX5_codeAt 18 = .ok (.if_icmp .lt 7, 3) := by decide +kernel
theorem dX5_codeAt_21 : decode cX5_codeAt 21 = .ok (.iconst 0, 1) := by decide +kernel
theorem dX5_codeAt_22 : decode cX5_codeAt 22 = .ok (.goto 9, 3) := by decide +kernel
theorem dX5_codeAt_25 : decode cX5_codeAt 25 = .ok (.aload_n 0, 1) := by decide +kernel
theorem dX5_codeAt_26 : decode cX5_codeAt 26 = .ok (.getfield 9, 3) := by decide +kernel
theorem dX5_codeAt_29 : decode cX5_codeAt 29 = .ok (.iload_n 1, 1) := by decide +kernel
theorem dX5_codeAt_30 : decode cX5_codeAt 30 = .ok (.iaload, 1) := by decide +kernel
theorem dX5_codeAt_31 : decode cX5_codeAt 31 = .ok (.ireturn, 1) := by decide +kernel
theorem dX5_add_0 : decode cX5_add 0 = .ok (.aload_n 0, 1) := by decide +kernel
theorem dX5_add_1 : decode cX5_add 1 = .ok (.getfield 15, 3) := by decide +kernel
theorem dX5_add_4 : decode cX5_add 4 = .ok (.aload_n 0, 1) := by decide +kernel
theorem dX5_add_5 : decode cX5_add 5 = .ok (.getfield 9, 3) := by decide +kernel
theorem dX5_add_8 : decode cX5_add 8 = .ok (.arraylength, 1) := by decide +kernel
theorem dX5_add_9 : decode cX5_add 9 = .ok (.if_icmp .lt 5, 3) := by decide +kernel
theorem dX5_add_12 : decode cX5_add 12 = .ok (.iconst 0, 1) := by decide +kernel
theorem dX5_add_13 : decode cX5_add 13 = .ok (.ireturn, 1) := by decide +kernel
theorem dX5_add_14 : decode cX5_add 14 = .ok (.aload_n 0, 1) := by decide +kernel
theorem dX5_add_15 : decode cX5_add 15 = .ok (.getfield 9, 3) := by decide +kernel
theorem dX5_add_18 : decode cX5_add 18 = .ok (.aload_n 0, 1) := by decide +kernel
theorem dX5_add_19 : decode cX5_add 19 = .ok (.getfield 15, 3) := by decide +kernel
theorem dX5_add_22 : decode cX5_add 22 = .ok (.iload_n 1, 1) := by decide +kernel
theorem dX5_add_23 : decode cX5_add 23 = .ok (.iastore, 1) := by decide +kernel
theorem dX5_add_24 : decode cX5_add 24 = .ok (.aload_n 0, 1) := by decide +kernel
theorem dX5_add_25 : decode cX5_add 25 = .ok (.dup, 1) := by decide +kernel
theorem dX5_add_26 : decode cX5_add 26 = .ok (.getfield 15, 3) := by decide +kernel
theorem dX5_add_29 : decode cX5_add 29 = .ok (.iconst 1, 1) := by decide +kernel
theorem dX5_add_30 : decode cX5_add 30 = .ok (.iadd, 1) := by decide +kernel
theorem dX5_add_31 : decode cX5_add 31 = .ok (.putfield 15, 3) := by decide +kernel
theorem dX5_add_34 : decode cX5_add 34 = .ok (.iconst 1, 1) := by decide +kernel
theorem dX5_add_35 : decode cX5_add 35 = .ok (.ireturn, 1) := by decide +kernel
theorem dX5_clear_0 : decode cX5_clear 0 = .ok (.aload_n 0, 1) := by decide +kernel
theorem dX5_clear_1 : decode cX5_clear 1 = .ok (.iconst 0, 1) := by decide +kernel
theorem dX5_clear_2 : decode cX5_clear 2 = .ok (.putfield 15, 3) := by decide +kernel
theorem dX5_clear_5 : decode cX5_clear 5 = .ok (.return_, 1) := by decide +kernel
set_option maxRecDepth 20000 in
theorem ggX5_firstFault_X5_codeAt : GoodIn wsX5_firstFault wsX5_codeAt := goodIn_r _ [6, 1, 7, 104, 105] (by decide +kernel) (by decide +kernel)
set_option maxRecDepth 20000 in
theorem gX5_firstFault_X5_codeAt : GoodIn wsX5_firstFault (wsV RX5 19 RX5 yX5_codeAt wsX5_codeAt) := goodIn_app (goodIn_of _ (by decide +kernel)) ggX5_firstFault_X5_codeAt
set_option maxRecDepth 20000 in
theorem ggX5_firstFault_X5_isLimit : GoodIn wsX5_firstFault wsX5_isLimit := goodIn_r _ [10] (by decide +kernel) (by decide +kernel)
set_option maxRecDepth 20000 in
theorem gX5_firstFault_X5_isLimit : GoodIn wsX5_firstFault (va_wsS RX5 23 yX5_isLimit wsX5_isLimit) := goodIn_app (goodIn_of _ (by decide +kernel)) ggX5_firstFault_X5_isLimit
set_option maxRecDepth 20000 in
theorem ggX5_firstFault_X5_fitsPeople : GoodIn wsX5_firstFault wsX5_fitsPeople := goodIn_r _ [14, 2, 3, 4, 5, 6, 1, 7, 15, 16, 17, 18, 19, 20, 21, 22, 23, 24, 25, 26, 27, 28, 29, 30, 31, 32, 33, 34, 35, 36, 37, 38, 39, 40, 41, 42, 43, 44, 45, 46, 47, 48, 49, 50, 51, 52, 53, 54, 55, 56, 57, 58, 59, 60, 61, 62, 63, 64, 65, 66, 67, 68, 69, 70, 71, 72, 73, 74, 75, 76, 77, 78, 79, 80, 81, 82, 83, 84, 85, 86, 87, 88, 89, 90, 91, 92, 93, 94, 95, 96, 97, 98, 99, 100, 101, 102, 103, 104, 105] (by decide +kernel) (by decide +kernel)
set_option maxRecDepth 20000 in
theorem gX5_firstFault_X5_fitsPeople : GoodIn wsX5_firstFault (wsV RX5 27 RX5 yX5_fitsPeople wsX5_fitsPeople) := goodIn_app (goodIn_of _ (by decide +kernel)) ggX5_firstFault_X5_fitsPeople
theorem dX5_firstFault_0 : decode cX5_firstFault 0 = .ok (.iconst 0, 1) := by decide +kernel
theorem dX5_firstFault_1 : decode cX5_firstFault 1 = .ok (.istore_n 1, 1) := by decide +kernel
theorem dX5_firstFault_2 : decode cX5_firstFault 2 = .ok (.iconst 0, 1) := by decide +kernel
theorem dX5_firstFault_3 : decode cX5_firstFault 3 = .ok (.istore_n 2, 1) := by decide +kernel
theorem dX5_firstFault_4 : decode cX5_firstFault 4 = .ok (.iload_n 2, 1) := by decide +kernel
theorem dX5_firstFault_5 : decode cX5_firstFault 5 = .ok (.aload_n 0, 1) := by decide +kernel
theorem dX5_firstFault_6 : decode cX5_firstFault 6 = .ok (.getfield 15, 3) := by decide +kernel
theorem dX5_firstFault_9 : decode cX5_firstFault 9 = .ok (.if_icmp .ge 58, 3) := by decide +kernel
theorem dX5_firstFault_12 : decode cX5_firstFault 12 = .ok (.iload_n 1, 1) := by decide +kernel
theorem dX5_firstFault_13 : decode cX5_firstFault 13 = .ok (.ifCond .eq 22, 3) := by decide +kernel
theorem dX5_firstFault_16 : decode cX5_firstFault 16 = .ok (.aload_n 0, 1) := by decide +kernel
theorem dX5_firstFault_17 : decode cX5_firstFault 17 = .ok (.iload_n 2, 1) := by decide +kernel
theorem dX5_firstFault_18 : decode cX5_firstFault 18 = .ok (.invokevirtual 19, 3) := by decide +kernel
theorem dX5_firstFault_21 : decode cX5_firstFault 21 = .ok (.invokestatic 23, 3) := by decide +kernel
theorem dX5_firstFault_24 : decode cX5_firstFault 24 = .ok (.ifCond .eq 9, 3) := by decide +kernel
theorem dX5_firstFault_27 : decode cX5_firstFault 27 = .ok (.iload_n 2, 1) := by decide +kernel
theorem dX5_firstFault_28 : decode cX5_firstFault 28 = .ok (.iconst 1, 1) := by decide +kernel
theorem dX5_firstFault_29 : decode cX5_firstFault 29 = .ok (.iadd, 1) := by decide +kernel
theorem dX5_firstFault_30 : decode cX5_firstFault 30 = .ok (.goto 4, 3) := by decide +kernel
theorem dX5_firstFault_33 : decode cX5_firstFault 33 = .ok (.iload_n 2, 1) := by decide +kernel
theorem dX5_firstFault_34 : decode cX5_firstFault 34 = .ok (.ireturn, 1) := by decide +kernel
theorem dX5_firstFault_35 : decode cX5_firstFault 35 = .ok (.aload_n 0, 1) := by decide +kernel
theorem dX5_firstFault_36 : decode cX5_firstFault 36 = .ok (.iload_n 2, 1) := by decide +kernel
theorem dX5_firstFault_37 : decode cX5_firstFault 37 = .ok (.invokevirtual 27, 3) := by decide +kernel
theorem dX5_firstFault_40 : decode cX5_firstFault 40 = .ok (.ifCond .ne 5, 3) := by decide +kernel
theorem dX5_firstFault_43 : decode cX5_firstFault 43 = .ok (.iload_n 2, 1) := by decide +kernel
theorem dX5_firstFault_44 : decode cX5_firstFault 44 = .ok (.ireturn, 1) := by decide +kernel
theorem dX5_firstFault_45 : decode cX5_firstFault 45 = .ok (.aload_n 0, 1) := by decide +kernel
theorem dX5_firstFault_46 : decode cX5_firstFault 46 = .ok (.iload_n 2, 1) := by decide +kernel
theorem dX5_firstFault_47 : decode cX5_firstFault 47 = .ok (.invokevirtual 19, 3) := by decide +kernel
theorem dX5_firstFault_50 : decode cX5_firstFault 50 = .ok (.bipush 59, 2) := by decide +kernel
theorem dX5_firstFault_52 : decode cX5_firstFault 52 = .ok (.if_icmp .ne 7, 3) := by decide +kernel
theorem dX5_firstFault_55 : decode cX5_firstFault 55 = .ok (.iconst 1, 1) := by decide +kernel
theorem dX5_firstFault_56 : decode cX5_firstFault 56 = .ok (.goto 4, 3) := by decide +kernel
theorem dX5_firstFault_59 : decode cX5_firstFault 59 = .ok (.iconst 0, 1) := by decide +kernel
theorem dX5_firstFault_60 : decode cX5_firstFault 60 = .ok (.istore_n 1, 1) := by decide +kernel
theorem dX5_firstFault_61 : decode cX5_firstFault 61 = .ok (.iinc 2 1, 3) := by decide +kernel
theorem dX5_firstFault_64 : decode cX5_firstFault 64 = .ok (.goto (-60), 3) := by decide +kernel
theorem dX5_firstFault_67 : decode cX5_firstFault 67 = .ok (.aload_n 0, 1) := by decide +kernel
theorem dX5_firstFault_68 : decode cX5_firstFault 68 = .ok (.getfield 15, 3) := by decide +kernel
theorem dX5_firstFault_71 : decode cX5_firstFault 71 = .ok (.ireturn, 1) := by decide +kernel
set_option maxRecDepth 20000 in
theorem ggX5_isTown_X5_codeAt : GoodIn wsX5_isTown wsX5_codeAt := goodIn_r _ [6, 1, 7, 108, 109] (by decide +kernel) (by decide +kernel)
set_option maxRecDepth 20000 in
theorem gX5_isTown_X5_codeAt : GoodIn wsX5_isTown (wsV RX5 19 RX5 yX5_codeAt wsX5_codeAt) := goodIn_app (goodIn_of _ (by decide +kernel)) ggX5_isTown_X5_codeAt
set_option maxRecDepth 20000 in
theorem ggX5_isTown_X5_firstFault : GoodIn wsX5_isTown wsX5_firstFault := goodIn_r _ [11, 1, 2, 3, 4, 5, 6, 7, 12, 13, 14, 15, 16, 17, 18, 19, 20, 21, 22, 23, 24, 25, 26, 27, 28, 29, 30, 31, 32, 33, 34, 35, 36, 37, 38, 39, 40, 41, 42, 43, 44, 45, 46, 47, 48, 49, 50, 51, 52, 53, 54, 55, 56, 57, 58, 59, 60, 61, 62, 63, 64, 65, 66, 67, 68, 69, 70, 71, 72, 73, 74, 75, 76, 77, 78, 79, 80, 81, 82, 83, 84, 85, 86, 87, 88, 89, 90, 91, 92, 93, 94, 95, 96, 97, 98, 99, 100, 101, 102, 103, 104, 105, 106, 107, 108, 109] (by decide +kernel) (by decide +kernel)
set_option maxRecDepth 20000 in
theorem gX5_isTown_X5_firstFault : GoodIn wsX5_isTown (wsV RX5 30 RX5 yX5_firstFault wsX5_firstFault) := goodIn_app (goodIn_of _ (by decide +kernel)) ggX5_isTown_X5_firstFault
theorem dX5_isTown_0 : decode cX5_isTown 0 = .ok (.aload_n 0, 1) := by decide +kernel
theorem dX5_isTown_1 : decode cX5_isTown 1 = .ok (.getfield 15, 3) := by decide +kernel
theorem dX5_isTown_4 : decode cX5_isTown 4 = .ok (.iconst 2, 1) := by decide +kernel
theorem dX5_isTown_5 : decode cX5_isTown 5 = .ok (.if_icmp .lt 33, 3) := by decide +kernel
theorem dX5_isTown_8 : decode cX5_isTown 8 = .ok (.aload_n 0, 1) := by decide +kernel
theorem dX5_isTown_9 : decode cX5_isTown 9 = .ok (.aload_n 0, 1) := by decide +kernel
theorem dX5_isTown_10 : decode cX5_isTown 10 = .ok (.getfield 15, 3) := by decide +kernel
theorem dX5_isTown_13 : decode cX5_isTown 13 = .ok (.iconst 2, 1) := by decide +kernel
theorem dX5_isTown_14 : decode cX5_isTown 14 = .ok (.isub, 1) := by decide +kernel
theorem dX5_isTown_15 : decode cX5_isTown 15 = .ok (.invokevirtual 19, 3) := by decide +kernel
theorem dX5_isTown_18 : decode cX5_isTown 18 = .ok (.bipush 59, 2) := by decide +kernel
theorem dX5_isTown_20 : decode cX5_isTown 20 = .ok (.if_icmp .ne 18, 3) := by decide +kernel
theorem dX5_isTown_23 : decode cX5_isTown 23 = .ok (.aload_n 0, 1) := by decide +kernel
theorem dX5_isTown_24 : decode cX5_isTown 24 = .ok (.invokevirtual 30, 3) := by decide +kernel
theorem dX5_isTown_27 : decode cX5_isTown 27 = .ok (.aload_n 0, 1) := by decide +kernel
theorem dX5_isTown_28 : decode cX5_isTown 28 = .ok (.getfield 15, 3) := by decide +kernel
theorem dX5_isTown_31 : decode cX5_isTown 31 = .ok (.if_icmp .ne 7, 3) := by decide +kernel
theorem dX5_isTown_34 : decode cX5_isTown 34 = .ok (.iconst 1, 1) := by decide +kernel
theorem dX5_isTown_35 : decode cX5_isTown 35 = .ok (.goto 4, 3) := by decide +kernel
theorem dX5_isTown_38 : decode cX5_isTown 38 = .ok (.iconst 0, 1) := by decide +kernel
theorem dX5_isTown_39 : decode cX5_isTown 39 = .ok (.ireturn, 1) := by decide +kernel
set_option maxRecDepth 20000 in
theorem ggX5_fitsPeople_X5_codeAt : GoodIn wsX5_fitsPeople wsX5_codeAt := goodIn_r _ [5, 6, 7, 97, 98] (by decide +kernel) (by decide +kernel)
set_option maxRecDepth 20000 in
theorem gX5_fitsPeople_X5_codeAt : GoodIn wsX5_fitsPeople (wsV RX5 19 RX5 yX5_codeAt wsX5_codeAt) := goodIn_app (goodIn_of _ (by decide +kernel)) ggX5_fitsPeople_X5_codeAt
set_option maxRecDepth 20000 in
theorem ggX5_fitsPeople_J0_indexOf_0f7a4 : GoodIn wsX5_fitsPeople wsJ0_indexOf_0f7a4 := goodIn_r _ [12, 13, 14, 15, 11, 16, 17, 18, 19, 20, 21, 22, 23, 24, 25, 26, 27, 28, 29, 30, 31, 32, 33, 34, 35, 36, 37, 38, 39, 40, 41, 42, 43, 44, 45, 46, 47, 48, 49, 50, 51, 52, 53, 54, 55, 56, 57, 58, 59, 60, 61, 62, 63, 64, 65, 66, 67, 68, 69, 70, 71, 72, 73, 74, 75, 76, 77, 78, 79, 80, 81, 82, 83, 84, 85, 86, 87, 88, 89, 90, 91, 92, 93, 94, 95, 96] (by decide +kernel) (by decide +kernel)
set_option maxRecDepth 20000 in
theorem gX5_fitsPeople_J0_indexOf_0f7a4 : GoodIn wsX5_fitsPeople (wsV RX5 36 RJ0 yJ0_indexOf_0f7a4 wsJ0_indexOf_0f7a4) := goodIn_app (goodIn_of _ (by decide +kernel)) ggX5_fitsPeople_J0_indexOf_0f7a4
theorem dX5_fitsPeople_0 : decode cX5_fitsPeople 0 = .ok (.aload_n 0, 1) := by decide +kernel
theorem dX5_fitsPeople_1 : decode cX5_fitsPeople 1 = .ok (.iload_n 1, 1) := by decide +kernel
theorem dX5_fitsPeople_2 : decode cX5_fitsPeople 2 = .ok (.invokevirtual 19, 3) := by decide +kernel
theorem dX5_fitsPeople_5 : decode cX5_fitsPeople 5 = .ok (.istore_n 2, 1) := by decide +kernel
theorem dX5_fitsPeople_6 : decode cX5_fitsPeople 6 = .ok (.iload_n 1, 1) := by decide +kernel
theorem dX5_fitsPeople_7 : decode cX5_fitsPeople 7 = .ok (.iconst 3, 1) := by decide +kernel
theorem dX5_fitsPeople_8 : decode cX5_fitsPeople 8 = .ok (.idiv, 1) := by decide +kernel
theorem dX5_fitsPeople_9 : decode cX5_fitsPeople 9 = .ok (.iconst 1, 1) := by decide +kernel
theorem dX5_fitsPeople_10 : decode cX5_fitsPeople 10 = .ok (.iadd, 1) := by decide +kernel
theorem dX5_fitsPeople_11 : decode cX5_fitsPeople 11 = .ok (.istore_n 3, 1) := by decide +kernel
theorem dX5_fitsPeople_12 : decode cX5_fitsPeople 12 = .ok (.iload_n 1, 1) := by decide +kernel
theorem dX5_fitsPeople_13 : decode cX5_fitsPeople 13 = .ok (.iconst 3, 1) := by decide +kernel
theorem dX5_fitsPeople_14 : decode cX5_fitsPeople 14 = .ok (.irem, 1) := by decide +kernel
theorem dX5_fitsPeople_15 : decode cX5_fitsPeople 15 = .ok (.lookupswitch 59 #[(0, 25), (1, 41)], 25) := by decide +kernel
theorem dX5_fitsPeople_40 : decode cX5_fitsPeople 40 = .ok (.ldc 34, 2) := by decide +kernel
theorem dX5_fitsPeople_42 : decode cX5_fitsPeople 42 = .ok (.iload_n 2, 1) := by decide +kernel
theorem dX5_fitsPeople_43 : decode cX5_fitsPeople 43 = .ok (.i2c, 1) := by decide +kernel
theorem dX5_fitsPeople_44 : decode cX5_fitsPeople 44 = .ok (.invokevirtual 36, 3) := by decide +kernel
theorem dX5_fitsPeople_47 : decode cX5_fitsPeople 47 = .ok (.ifCond .lt 7, 3) := by decide +kernel
theorem dX5_fitsPeople_50 : decode cX5_fitsPeople 50 = .ok (.iconst 1, 1) := by decide +kernel
theorem dX5_fitsPeople_51 : decode cX5_fitsPeople 51 = .ok (.goto 4, 3) := by decide +kernel
theorem dX5_fitsPeople_54 : decode cX5_fitsPeople 54 = .ok (.iconst 0, 1) := by decide +kernel
theorem dX5_fitsPeople_55 : decode cX5_fitsPeople 55 = .ok (.ireturn, 1) := by decide +kernel
theorem dX5_fitsPeople_56 : decode cX5_fitsPeople 56 = .ok (.iload_n 2, 1) := by decide +kernel
theorem dX5_fitsPeople_57 : decode cX5_fitsPeople 57 = .ok (.bipush 48, 2) := by decide +kernel
theorem dX5_fitsPeople_59 : decode cX5_fitsPeople 59 = .ok (.if_icmp .lt 13, 3) := by decide +kernel
theorem dX5_fitsPeople_62 : decode cX5_fitsPeople 62 = .ok (.iload_n 2, 1) := by decide +kernel
theorem dX5_fitsPeople_63 : decode cX5_fitsPeople 63 = .ok (.bipush 57, 2) := by decide +kernel
theorem dX5_fitsPeople_65 : decode cX5_fitsPeople 65 = .ok (.if_icmp .gt 7, 3) := by decide +kernel
theorem dX5_fitsPeople_68 : decode cX5_fitsPeople 68 = .ok (.iconst 1, 1) := by decide +kernel
theorem dX5_fitsPeople_69 : decode cX5_fitsPeople 69 = .ok (.goto 4, 3) := by decide +kernel
theorem dX5_fitsPeople_72 : decode cX5_fitsPeople 72 = .ok (.iconst 0, 1) := by decide +kernel
theorem dX5_fitsPeople_73 : decode cX5_fitsPeople 73 = .ok (.ireturn, 1) := by decide +kernel
theorem dX5_fitsPeople_74 : decode cX5_fitsPeople 74 = .ok (.iload_n 2, 1) := by decide +kernel
theorem dX5_fitsPeople_75 : decode cX5_fitsPeople 75 = .ok (.bipush 44, 2) := by decide +kernel
theorem dX5_fitsPeople_77 : decode cX5_fitsPeople 77 = .ok (.if_icmp .ne 8, 3) := by decide +kernel
theorem dX5_fitsPeople_80 : decode cX5_fitsPeople 80 = .ok (.iload_n 3, 1) := by decide +kernel
theorem dX5_fitsPeople_81 : decode cX5_fitsPeople 81 = .ok (.iconst 5, 1) := by decide +kernel
theorem dX5_fitsPeople_82 : decode cX5_fitsPeople 82 = .ok (.if_icmp .lt 14, 3) := by decide +kernel
theorem dX5_fitsPeople_85 : decode cX5_fitsPeople 85 = .ok (.iload_n 2, 1) := by decide +kernel
theorem dX5_fitsPeople_86 : decode cX5_fitsPeople 86 = .ok (.bipush 59, 2) := by decide +kernel
theorem dX5_fitsPeople_88 : decode cX5_fitsPeople 88 = .ok (.if_icmp .ne 12, 3) := by decide +kernel
theorem dX5_fitsPeople_91 : decode cX5_fitsPeople 91 = .ok (.iload_n 3, 1) := by decide +kernel
theorem dX5_fitsPeople_92 : decode cX5_fitsPeople 92 = .ok (.iconst 2, 1) := by decide +kernel
theorem dX5_fitsPeople_93 : decode cX5_fitsPeople 93 = .ok (.if_icmp .lt 7, 3) := by decide +kernel
theorem dX5_fitsPeople_96 : decode cX5_fitsPeople 96 = .ok (.iconst 1, 1) := by decide +kernel
theorem dX5_fitsPeople_97 : decode cX5_fitsPeople 97 = .ok (.goto 4, 3) := by decide +kernel
theorem dX5_fitsPeople_100 : decode cX5_fitsPeople 100 = .ok (.iconst 0, 1) := by decide +kernel
theorem dX5_fitsPeople_101 : decode cX5_fitsPeople 101 = .ok (.ireturn, 1) := by decide +kernel
theorem dX5_isLimit_0 : decode cX5_isLimit 0 = .ok (.iload_n 0, 1) := by decide +kernel
theorem dX5_isLimit_1 : decode cX5_isLimit 1 = .ok (.bipush 49, 2) := by decide +kernel
theorem dX5_isLimit_3 : decode cX5_isLimit 3 = .ok (.if_icmp .lt 13, 3) := by decide +kernel
theorem dX5_isLimit_6 : decode cX5_isLimit 6 = .ok (.iload_n 0, 1) := by decide +kernel
theorem dX5_isLimit_7 : decode cX5_isLimit 7 = .ok (.bipush 53, 2) := by decide +kernel
theorem dX5_isLimit_9 : decode cX5_isLimit 9 = .ok (.if_icmp .gt 7, 3) := by decide +kernel
theorem dX5_isLimit_12 : decode cX5_isLimit 12 = .ok (.iconst 1, 1) := by decide +kernel
theorem dX5_isLimit_13 : decode cX5_isLimit 13 = .ok (.goto 4, 3) := by decide +kernel
theorem dX5_isLimit_16 : decode cX5_isLimit 16 = .ok (.iconst 0, 1) := by decide +kernel
theorem dX5_isLimit_17 : decode cX5_isLimit 17 = .ok (.ireturn, 1) := by decide +kernel
theorem dX6_init_0 : decode cX6_init 0 = .ok (.aload_n 0, 1) := by decide +kernel
theorem dX6_init_1 : decode cX6_init 1 = .ok (.invokespecial 3, 3) := by decide +kernel
theorem dX6_init_4 : decode cX6_init 4 = .ok (.aload_n 0, 1) := by decide +kernel
theorem dX6_init_5 : decode cX6_init 5 = .ok (.bipush 41, 2) := by decide +kernel
theorem dX6_init_7 : decode cX6_init 7 = .ok (.newarray .int, 2) := by decide +kernel
theorem dX6_init_9 : decode cX6_init 9 = .ok (.putfield 9, 3) := by decide +kernel
theorem dX6_init_12 : decode cX6_init 12 = .ok (.return_, 1) := by decide +kernel
theorem dX6_startWith_0 : decode cX6_startWith 0 = .ok (.aload_n 0, 1) := by decide +kernel
theorem dX6_startWith_1 : decode cX6_startWith 1 = .ok (.getfield 9, 3) := by decide +kernel
theorem dX6_startWith_4 : decode cX6_startWith 4 = .ok (.iconst 0, 1) := by decide +kernel
theorem dX6_startWith_5 : decode cX6_startWith 5 = .ok (.iload_n 1, 1) := by decide +kernel
theorem dX6_startWith_6 : decode cX6_startWith 6 = .ok (.iastore, 1) := by decide +kernel
theorem dX6_startWith_7 : decode cX6_startWith 7 = .ok (.aload_n 0, 1) := by decide +kernel
theorem dX6_startWith_8 : decode cX6_startWith 8 = .ok (.iconst 0, 1) := by decide +kernel
theorem dX6_startWith_9 : decode cX6_startWith 9 = .ok (.putfield 15, 3) := by decide +kernel
theorem dX6_startWith_12 : decode cX6_startWith 12 = .ok (.return_, 1) := by decide +kernel
theorem dX6_copyFrom_0 : decode cX6_copyFrom 0 = .ok (.aload_n 1, 1) := by decide +kernel
theorem dX6_copyFrom_1 : decode cX6_copyFrom 1 = .ok (.getfield 9, 3) := by decide +kernel
theorem dX6_copyFrom_4 : decode cX6_copyFrom 4 = .ok (.iconst 0, 1) := by decide +kernel
theorem dX6_copyFrom_5 : decode cX6_copyFrom 5 = .ok (.aload_n 0, 1) := by decide +kernel
theorem dX6_copyFrom_6 : decode cX6_copyFrom 6 = .ok (.getfield 9, 3) := by decide +kernel
theorem dX6_copyFrom_9 : decode cX6_copyFrom 9 = .ok (.iconst 0, 1) := by decide +kernel
theorem dX6_copyFrom_10 : decode cX6_copyFrom 10 = .ok (.aload_n 0, 1) := by decide +kernel
theorem dX6_copyFrom_11 : decode cX6_copyFrom 11 = .ok (.getfield 9, 3) := by decide +kernel
theorem dX6_copyFrom_14 : decode cX6_copyFrom 14 = .ok (.arraylength, 1) := by decide +kernel
theorem dX6_copyFrom_15 : decode cX6_copyFrom 15 = .ok (.invokestatic 19, 3) := by decide +kernel
theorem dX6_copyFrom_18 : decode cX6_copyFrom 18 = .ok (.aload_n 0, 1) := by decide +kernel
theorem dX6_copyFrom_19 : decode cX6_copyFrom 19 = .ok (.aload_n 1, 1) := by decide +kernel
theorem dX6_copyFrom_20 : decode cX6_copyFrom 20 = .ok (.getfield 15, 3) := by decide +kernel
theorem dX6_copyFrom_23 : decode cX6_copyFrom 23 = .ok (.putfield 15, 3) := by decide +kernel
theorem dX6_copyFrom_26 : decode cX6_copyFrom 26 = .ok (.return_, 1) := by decide +kernel
theorem dX6_timesLent_0 : decode cX6_timesLent 0 = .ok (.aload_n 0, 1) := by decide +kernel
theorem dX6_timesLent_1 : decode cX6_timesLent 1 = .ok (.getfield 15, 3) := by decide +kernel
theorem dX6_timesLent_4 : decode cX6_timesLent 4 = .ok (.ireturn, 1) := by decide +kernel
theorem dX6_isLentOut_0 : decode cX6_isLentOut 0 = .ok (.aload_n 0, 1) := by decide +kernel
theorem dX6_isLentOut_1 : decode cX6_isLentOut 1 = .ok (.getfield 15, 3) := by decide +kernel
theorem dX6_isLentOut_4 : decode cX6_isLentOut 4 = .ok (.bipush 40, 2) := by decide +kernel
theorem dX6_isLentOut_6 : decode cX6_isLentOut 6 = .ok (.if_icmp .lt 7, 3) := by decide +kernel
theorem dX6_isLentOut_9 : decode cX6_isLentOut 9 = .ok (.iconst 1, 1) := by decide +kernel
theorem dX6_isLentOut_10 : decode cX6_isLentOut 10 = .ok (.goto 4, 3) := by decide +kernel
theorem dX6_isLentOut_13 : decode cX6_isLentOut 13 = .ok (.iconst 0, 1) := by decide +kernel
theorem dX6_isLentOut_14 : decode cX6_isLentOut 14 = .ok (.ireturn, 1) := by decide +kernel
theorem dX6_holder_0 : decode cX6_holder 0 = .ok (.aload_n 0, 1) := by decide +kernel
theorem dX6_holder_1 : decode cX6_holder 1 = .ok (.getfield 15, 3) := by decide +kernel
theorem dX6_holder_4 : decode cX6_holder 4 = .ok (.ifCond .lt 15, 3) := by decide +kernel
theorem dX6_holder_7 : decode cX6_holder 7 = .ok (.aload_n 0, 1) := by decide +kernel
theorem dX6_holder_8 : decode cX6_holder 8 = .ok (.getfield 15, 3) := by decide +kernel
theorem dX6_holder_11 : decode cX6_holder 11 = .ok (.aload_n 0, 1) := by decide +kernel
theorem dX6_holder_12 : decode cX6_holder 12 = .ok (.getfield 9, 3) := by decide +kernel
theorem dX6_holder_15 : decode cX6_holder 15 = .ok (.arraylength, 1) := by decide +kernel
theorem dX6_holder_16 : decode cX6_holder 16 = .ok (.if_icmp .lt 7, 3) := by decide +kernel
theorem dX6_holder_19 : decode cX6_holder 19 = .ok (.iconst (-1), 1) := by decide +kernel
theorem dX6_holder_20 : decode cX6_holder 20 = .ok (.goto 12, 3) := by decide +kernel
theorem dX6_holder_23 : decode cX6_holder 23 = .ok (.aload_n 0, 1) := by decide +kernel
theorem dX6_holder_24 : decode cX6_holder 24 = .ok (.getfield 9, 3) := by decide +kernel
theorem dX6_holder_27 : decode cX6_holder 27 = .ok (.aload_n 0, 1) := by decide +kernel
theorem dX6_holder_28 : decode cX6_holder 28 = .ok (.getfield 15, 3) := by decide +kernel
theorem dX6_holder_31 : decode cX6_holder 31 = .ok (.iaload, 1) := by decide +kernel
theorem dX6_holder_32 : decode cX6_holder 32 = .ok (.ireturn, 1) := by decide +kernel
theorem dX6_holderBefore_0 : decode cX6_holderBefore 0 = .ok (.aload_n 0, 1) := by decide +kernel
theorem dX6_holderBefore_1 : decode cX6_holderBefore 1 = .ok (.getfield 15, 3) := by decide +kernel
theorem dX6_holderBefore_4 : decode cX6_holderBefore 4 = .ok (.iload_n 1, 1) := by decide +kernel
theorem dX6_holderBefore_5 : decode cX6_holderBefore 5 = .ok (.isub, 1) := by decide +kernel
theorem dX6_holderBefore_6 : decode cX6_holderBefore 6 = .ok (.istore_n 2, 1) := by decide +kernel
theorem dX6_holderBefore_7 : decode cX6_holderBefore 7 = .ok (.iload_n 1, 1) := by decide +kernel
theorem dX6_holderBefore_8 : decode cX6_holderBefore 8 = .ok (.ifCond .lt 16, 3) := by decide +kernel
theorem dX6_holderBefore_11 : decode cX6_holderBefore 11 = .ok (.iload_n 2, 1) := by decide +kernel
theorem dX6_holderBefore_12 : decode cX6_holderBefore 12 = .ok (.ifCond .lt 12, 3) := by decide +kernel
theorem dX6_holderBefore_15 : decode cX6_holderBefore 15 = .ok (.iload_n 2, 1) := by decide +kernel
theorem dX6_holderBefore_16 : decode cX6_holderBefore 16 = .ok (.aload_n 0, 1) := by decide +kernel
theorem dX6_holderBefore_17 : decode cX6_holderBefore 17 = .ok (.getfield 9, 3) := by decide +kernel
theorem dX6_holderBefore_20 : decode cX6_holderBefore 20 = .ok (.arraylength, 1) := by decide +kernel
theorem dX6_holderBefore_21 : decode cX6_holderBefore 21 = .ok (.if_icmp .lt 7, 3) := by decide +kernel
theorem dX6_holderBefore_24 : decode cX6_holderBefore 24 = .ok (.iconst (-1), 1) := by decide +kernel
theorem dX6_holderBefore_25 : decode cX6_holderBefore 25 = .ok (.goto 9, 3) := by decide +kernel
theorem dX6_holderBefore_28 : decode cX6_holderBefore 28 = .ok (.aload_n 0, 1) := by decide +kernel
theorem dX6_holderBefore_29 : decode cX6_holderBefore 29 = .ok (.getfield 9, 3) := by decide +kernel
theorem dX6_holderBefore_32 : decode cX6_holderBefore 32 = .ok (.iload_n 2, 1) := by decide +kernel
theorem dX6_holderBefore_33 : decode cX6_holderBefore 33 = .ok (.iaload, 1) := by decide +kernel
theorem dX6_holderBefore_34 : decode cX6_holderBefore 34 = .ok (.ireturn, 1) := by decide +kernel
theorem dX6_passTo_0 : decode cX6_passTo 0 = .ok (.aload_n 0, 1) := by decide +kernel
theorem dX6_passTo_1 : decode cX6_passTo 1 = .ok (.getfield 15, 3) := by decide +kernel
theorem dX6_passTo_4 : decode cX6_passTo 4 = .ok (.iconst 1, 1) := by decide +kernel
theorem dX6_passTo_5 : decode cX6_passTo 5 = .ok (.iadd, 1) := by decide +kernel
theorem dX6_passTo_6 : decode cX6_passTo 6 = .ok (.aload_n 0, 1) := by decide +kernel
theorem dX6_passTo_7 : decode cX6_passTo 7 = .ok (.getfield 9, 3) := by decide +kernel
theorem dX6_passTo_10 : decode cX6_passTo 10 = .ok (.arraylength, 1) := by decide +kernel
theorem dX6_passTo_11 : decode cX6_passTo 11 = .ok (.if_icmp .ge 23, 3) := by decide +kernel
theorem dX6_passTo_14 : decode cX6_passTo 14 = .ok (.aload_n 0, 1) := by decide +kernel
theorem dX6_passTo_15 : decode cX6_passTo 15 = .ok (.dup, 1) := by decide +kernel
theorem dX6_passTo_16 : decode cX6_passTo 16 = .ok (.getfield 15, 3) := by decide +kernel
theorem dX6_passTo_19 : decode cX6_passTo 19 = .ok (.iconst 1, 1) := by decide +kernel
theorem dX6_passTo_20 : decode cX6_passTo 20 = .ok (.iadd, 1) := by decide +kernel
theorem dX6_passTo_21 : decode cX6_passTo 21 = .ok (.putfield 15, 3) := by decide +kernel
theorem dX6_passTo_24 : decode cX6_passTo 24 = .ok (.aload_n 0, 1) := by decide +kernel
theorem dX6_passTo_25 : decode cX6_passTo 25 = .ok (.getfield 9, 3) := by decide +kernel
theorem dX6_passTo_28 : decode cX6_passTo 28 = .ok (.aload_n 0, 1) := by decide +kernel
theorem dX6_passTo_29 : decode cX6_passTo 29 = .ok (.getfield 15, 3) := by decide +kernel
theorem dX6_passTo_32 : decode cX6_passTo 32 = .ok (.iload_n 1, 1) := by decide +kernel
theorem dX6_passTo_33 : decode cX6_passTo 33 = .ok (.iastore, 1) := by decide +kernel
theorem dX6_passTo_34 : decode cX6_passTo 34 = .ok (.return_, 1) := by decide +kernel
theorem dX6_takeBack_0 : decode cX6_takeBack 0 = .ok (.aload_n 0, 1) := by decide +kernel
theorem dX6_takeBack_1 : decode cX6_takeBack 1 = .ok (.getfield 15, 3) := by decide +kernel
theorem dX6_takeBack_4 : decode cX6_takeBack 4 = .ok (.ifCond .le 13, 3) := by decide +kernel
theorem dX6_takeBack_7 : decode cX6_takeBack 7 = .ok (.aload_n 0, 1) := by decide +kernel
theorem dX6_takeBack_8 : decode cX6_takeBack 8 = .ok (.dup, 1) := by decide +kernel
theorem dX6_takeBack_9 : decode cX6_takeBack 9 = .ok (.getfield 15, 3) := by decide +kernel
theorem dX6_takeBack_12 : decode cX6_takeBack 12 = .ok (.iconst 1, 1) := by decide +kernel
theorem dX6_takeBack_13 : decode cX6_takeBack 13 = .ok (.isub, 1) := by decide +kernel
theorem dX6_takeBack_14 : decode cX6_takeBack 14 = .ok (.putfield 15, 3) := by decide +kernel
theorem dX6_takeBack_17 : decode cX6_takeBack 17 = .ok (.return_, 1) := by decide +kernel
theorem dX7_init_0 : decode cX7_init 0 = .ok (.aload_n 0, 1) := by decide +kernel
theorem dX7_init_1 : decode cX7_init 1 = .ok (.invokespecial 3, 3) := by decide +kernel
theorem dX7_init_4 : decode cX7_init 4 = .ok (.aload_n 0, 1) := by decide +kernel
theorem dX7_init_5 : decode cX7_init 5 = .ok (.iload_n 1, 1) := by decide +kernel
theorem dX7_init_6 : decode cX7_init 6 = .ok (.putfield 9, 3) := by decide +kernel
theorem dX7_init_9 : decode cX7_init 9 = .ok (.return_, 1) := by decide +kernel
theorem dX7_kind_0 : decode cX7_kind 0 = .ok (.iconst 0, 1) := by decide +kernel
theorem dX7_kind_1 : decode cX7_kind 1 = .ok (.ireturn, 1) := by decide +kernel
theorem dX7_worth_0 : decode cX7_worth 0 = .ok (.aload_n 0, 1) := by decide +kernel
theorem dX7_worth_1 : decode cX7_worth 1 = .ok (.getfield 9, 3) := by decide +kernel
theorem dX7_worth_4 : decode cX7_worth 4 = .ok (.ireturn, 1) := by decide +kernel
theorem dX7_keepsPens_0 : decode cX7_keepsPens 0 = .ok (.iconst 0, 1) := by decide +kernel
theorem dX7_keepsPens_1 : decode cX7_keepsPens 1 = .ok (.ireturn, 1) := by decide +kernel
theorem dX7_endsTheRow_0 : decode cX7_endsTheRow 0 = .ok (.iconst 0, 1) := by decide +kernel
theorem dX7_endsTheRow_1 : decode cX7_endsTheRow 1 = .ok (.ireturn, 1) := by decide +kernel
theorem dX7_canBeBound_0 : decode cX7_canBeBound 0 = .ok (.iconst 1, 1) := by decide +kernel
theorem dX7_canBeBound_1 : decode cX7_canBeBound 1 = .ok (.ireturn, 1) := by decide +kernel
set_option maxRecDepth 20000 in
theorem ggX8_init_X6_init : GoodIn wsX8_init wsX6_init := goodIn_r _ [11, 12, 2, 3, 8, 13, 14, 15] (by decide +kernel) (by decide +kernel)
set_option maxRecDepth 20000 in
theorem gX8_init_X6_init_n11 : GoodIn wsX8_init (wsX6_init) := ggX8_init_X6_init
theorem dX8_init_0 : decode cX8_init 0 = .ok (.aload_n 0, 1) := by decide +kernel
theorem dX8_init_1 : decode cX8_init 1 = .ok (.invokespecial 3, 3) := by decide +kernel
theorem dX8_init_4 : decode cX8_init 4 = .ok (.aload_n 0, 1) := by decide +kernel
theorem dX8_init_5 : decode cX8_init 5 = .ok (.new 9, 3) := by decide +kernel
theorem dX8_init_8 : decode cX8_init 8 = .ok (.dup, 1) := by decide +kernel
theorem dX8_init_9 : decode cX8_init 9 = .ok (.invokespecial 11, 3) := by decide +kernel
theorem dX8_init_12 : decode cX8_init 12 = .ok (.putfield 12, 3) := by decide +kernel
theorem dX8_init_15 : decode cX8_init 15 = .ok (.aload_n 0, 1) := by decide +kernel
theorem dX8_init_16 : decode cX8_init 16 = .ok (.iconst 5, 1) := by decide +kernel
theorem dX8_init_17 : decode cX8_init 17 = .ok (.newarray .int, 2) := by decide +kernel
theorem dX8_init_19 : decode cX8_init 19 = .ok (.putfield 18, 3) := by decide +kernel
theorem dX8_init_22 : decode cX8_init 22 = .ok (.return_, 1) := by decide +kernel
theorem dX8_ways_0 : decode cX8_ways 0 = .ok (.aload_n 0, 1) := by decide +kernel
theorem dX8_ways_1 : decode cX8_ways 1 = .ok (.getfield 22, 3) := by decide +kernel
theorem dX8_ways_4 : decode cX8_ways 4 = .ok (.ireturn, 1) := by decide +kernel
theorem dX8_holders_0 : decode cX8_holders 0 = .ok (.aload_n 0, 1) := by decide +kernel
theorem dX8_holders_1 : decode cX8_holders 1 = .ok (.getfield 26, 3) := by decide +kernel
theorem dX8_holders_4 : decode cX8_holders 4 = .ok (.ireturn, 1) := by decide +kernel
theorem dX8_fewest_0 : decode cX8_fewest 0 = .ok (.aload_n 0, 1) := by decide +kernel
theorem dX8_fewest_1 : decode cX8_fewest 1 = .ok (.getfield 29, 3) := by decide +kernel
theorem dX8_fewest_4 : decode cX8_fewest 4 = .ok (.ireturn, 1) := by decide +kernel
theorem dX8_first_0 : decode cX8_first 0 = .ok (.aload_n 0, 1) := by decide +kernel
theorem dX8_first_1 : decode cX8_first 1 = .ok (.getfield 32, 3) := by decide +kernel
theorem dX8_first_4 : decode cX8_first 4 = .ok (.ireturn, 1) := by decide +kernel
set_option maxRecDepth 20000 in
theorem ggX8_tally_X6_copyFrom : GoodIn wsX8_tally wsX6_copyFrom := goodIn_r _ [13, 14, 15, 16, 17, 18, 19, 144, 145] (by decide +kernel) (by decide +kernel)
set_option maxRecDepth 20000 in
theorem gX8_tally_X6_copyFrom : GoodIn wsX8_tally (wsV RX8 35 RX6 yX6_copyFrom wsX6_copyFrom) := goodIn_app (goodIn_of _ (by decide +kernel)) ggX8_tally_X6_copyFrom
set_option maxRecDepth 20000 in
theorem ggX8_tally_X8_follow : GoodIn wsX8_tally wsX8_follow := goodIn_r _ [24, 1, 25, 26, 27, 28, 29, 30, 31, 32, 33, 12, 34, 19, 35, 36, 37, 38, 39, 40, 41, 42, 43, 44, 45, 14, 46, 47, 48, 49, 50, 51, 52, 53, 54, 55, 56, 57, 58, 59, 60, 61, 62, 63, 64, 65, 66, 67, 68, 69, 70, 71, 72, 73, 74, 75, 76, 77, 78, 79, 80, 81, 82, 83, 84, 85, 86, 23, 87, 2, 3, 4, 88, 89, 90, 91, 92, 93, 94, 95, 96, 97, 98, 99, 100, 101, 102, 103, 104, 105, 106, 107, 108, 109, 110, 111, 112, 113, 114, 115, 116, 117, 118, 119, 120, 121, 122, 123, 124, 125, 126, 127, 128, 129, 130, 131, 132, 133, 20, 21, 22, 134, 135, 136, 137, 138, 139, 140, 141, 142, 143, 146, 147, 148, 144, 145, 149, 150, 151, 152, 153, 154, 155] (by decide +kernel) (by decide +kernel)
set_option maxRecDepth 20000 in
theorem gX8_tally_X8_follow : GoodIn wsX8_tally (wsV RX8 45 RX8 yX8_follow wsX8_follow) := goodIn_app (goodIn_of _ (by decide +kernel)) ggX8_tally_X8_follow
theorem dX8_tally_0 : decode cX8_tally 0 = .ok (.aload_n 0, 1) := by decide +kernel
theorem dX8_tally_1 : decode cX8_tally 1 = .ok (.getfield 12, 3) := by decide +kernel
theorem dX8_tally_4 : decode cX8_tally 4 = .ok (.aload_n 2, 1) := by decide +kernel
theorem dX8_tally_5 : decode cX8_tally 5 = .ok (.invokevirtual 35, 3) := by decide +kernel
theorem dX8_tally_8 : decode cX8_tally 8 = .ok (.aload_n 0, 1) := by decide +kernel
theorem dX8_tally_9 : decode cX8_tally 9 = .ok (.iconst 0, 1) := by decide +kernel
theorem dX8_tally_10 : decode cX8_tally 10 = .ok (.putfield 22, 3) := by decide +kernel
theorem dX8_tally_13 : decode cX8_tally 13 = .ok (.aload_n 0, 1) := by decide +kernel
theorem dX8_tally_14 : decode cX8_tally 14 = .ok (.iconst 0, 1) := by decide +kernel
theorem dX8_tally_15 : decode cX8_tally 15 = .ok (.putfield 26, 3) := by decide +kernel
theorem dX8_tally_18 : decode cX8_tally 18 = .ok (.iconst 0, 1) := by decide +kernel
theorem dX8_tally_19 : decode cX8_tally 19 = .ok (.istore 5, 2) := by decide +kernel
theorem dX8_tally_21 : decode cX8_tally 21 = .ok (.iload 5, 2) := by decide +kernel
theorem dX8_tally_23 : decode cX8_tally 23 = .ok (.aload_n 0, 1) := by decide +kernel
theorem dX8_tally_24 : decode cX8_tally 24 = .ok (.getfield 18, 3) := by decide +kernel
theorem dX8_tally_27 : decode cX8_tally 27 = .ok (.arraylength, 1) := by decide +kernel
theorem dX8_tally_28 : decode cX8_tally 28 = .ok (.if_icmp .ge 17, 3) := by decide +kernel
theorem dX8_tally_31 : decode cX8_tally 31 = .ok (.aload_n 0, 1) := by decide +kernel
theorem dX8_tally_32 : decode cX8_tally 32 = .ok (.getfield 18, 3) := by decide +kernel
theorem dX8_tally_35 : decode cX8_tally 35 = .ok (.iload 5, 2) := by decide +kernel
theorem dX8_tally_37 : decode cX8_tally 37 = .ok (.iconst 0, 1) := by decide +kernel
theorem dX8_tally_38 : decode cX8_tally 38 = .ok (.iastore, 1) := by decide +kernel
theorem dX8_tally_39 : decode cX8_tally 39 = .ok (.iinc 5 1, 3) := by decide +kernel
theorem dX8_tally_42 : decode cX8_tally 42 = .ok (.goto (-21), 3) := by decide +kernel
theorem dX8_tally_45 : decode cX8_tally 45 = .ok (.aload_n 0, 1) := by decide +kernel
theorem dX8_tally_46 : decode cX8_tally 46 = .ok (.aload_n 1, 1) := by decide +kernel
theorem dX8_tally_47 : decode cX8_tally 47 = .ok (.aload 4, 2) := by decide +kernel
theorem dX8_tally_49 : decode cX8_tally 49 = .ok (.iload_n 3, 1) := by decide +kernel
theorem dX8_tally_50 : decode cX8_tally 50 = .ok (.iconst 4, 1) := by decide +kernel
theorem dX8_tally_51 : decode cX8_tally 51 = .ok (.invokestatic 39, 3) := by decide +kernel
theorem dX8_tally_54 : decode cX8_tally 54 = .ok (.invokevirtual 45, 3) := by decide +kernel
theorem dX8_tally_57 : decode cX8_tally 57 = .ok (.return_, 1) := by decide +kernel
set_option maxRecDepth 20000 in
theorem ggX8_follow_X10_boundBy : GoodIn wsX8_follow wsX10_boundBy := goodIn_r _ [6, 7, 8, 9, 10, 11, 12, 13, 14, 15, 16, 17, 18, 19, 20, 21, 22, 23, 24, 25, 26, 27, 28, 5, 29, 30, 31, 32, 33, 34, 35, 36, 37, 38, 39, 40, 41, 42, 43, 44, 45, 46, 47, 48, 49, 50, 51, 52, 53, 54, 55, 56, 57, 58, 59, 60, 61, 62, 63, 131, 132, 133, 134, 135] (by decide +kernel) (by decide +kernel)
set_option maxRecDepth 20000 in
theorem gX8_follow_X10_boundBy : GoodIn wsX8_follow (wsV RX8 49 RX10 yX10_boundBy wsX10_boundBy) := goodIn_app (goodIn_of _ (by decide +kernel)) ggX8_follow_X10_boundBy
set_option maxRecDepth 20000 in
theorem ggX8_follow_X8_tallyEnd : GoodIn wsX8_follow wsX8_tallyEnd := goodIn_r _ [68, 69, 70, 1, 71, 72, 73, 74, 75, 76, 77, 78, 79, 80, 81, 11, 82, 13, 25, 32, 33, 34, 125, 126, 127, 128, 129, 130, 136, 137, 138, 139, 140, 141, 142, 134, 135] (by decide +kernel) (by decide +kernel)
set_option maxRecDepth 20000 in
theorem gX8_follow_X8_tallyEnd : GoodIn wsX8_follow (wsV RX8 55 RX8 yX8_tallyEnd wsX8_tallyEnd) := goodIn_app (goodIn_of _ (by decide +kernel)) ggX8_follow_X8_tallyEnd
set_option maxRecDepth 20000 in
theorem ggX8_follow_X10_size : GoodIn wsX8_follow wsX10_size := goodIn_r _ [86, 30, 131, 132, 133] (by decide +kernel) (by decide +kernel)
set_option maxRecDepth 20000 in
theorem gX8_follow_X10_size : GoodIn wsX8_follow (wsV RX8 59 RX10 yX10_size wsX10_size) := goodIn_app (goodIn_of _ (by decide +kernel)) ggX8_follow_X10_size
set_option maxRecDepth 20000 in
theorem ggX8_follow_X10_canBeLent : GoodIn wsX8_follow wsX10_canBeLent := goodIn_r _ [90, 91, 92, 93, 5, 94, 95, 80, 81, 11, 82, 13, 25, 26, 27, 28, 29, 30, 31, 96, 97, 98, 99, 100, 101, 102, 103, 104, 105, 106, 39, 107, 108, 109, 110, 111, 112, 113, 134, 135, 131, 132, 133] (by decide +kernel) (by decide +kernel)
set_option maxRecDepth 20000 in
theorem gX8_follow_X10_canBeLent : GoodIn wsX8_follow (wsV RX8 63 RX10 yX10_canBeLent wsX10_canBeLent) := goodIn_app (goodIn_of _ (by decide +kernel)) ggX8_follow_X10_canBeLent
set_option maxRecDepth 20000 in
theorem ggX8_follow_X6_passTo : GoodIn wsX8_follow wsX6_passTo := goodIn_r _ [117, 13, 25, 134, 135] (by decide +kernel) (by decide +kernel)
set_option maxRecDepth 20000 in
theorem gX8_follow_X6_passTo : GoodIn wsX8_follow (wsV RX8 67 RX6 yX6_passTo wsX6_passTo) := goodIn_app (goodIn_of _ (by decide +kernel)) ggX8_follow_X6_passTo
set_option maxRecDepth 20000 in
theorem ggX8_follow_X8_follow : GoodIn wsX8_follow wsX8_follow := goodIn_r _ [0, 1, 2, 3, 4, 5, 6, 7, 8, 9, 10, 11, 12, 13, 14, 15, 16, 17, 18, 19, 20, 21, 22, 23, 24, 25, 26, 27, 28, 29, 30, 31, 32, 33, 34, 35, 36, 37, 38, 39, 40, 41, 42, 43, 44, 45, 46, 47, 48, 49, 50, 51, 52, 53, 54, 55, 56, 57, 58, 59, 60, 61, 62, 63, 64, 65, 66, 67, 68, 69, 70, 71, 72, 73, 74, 75, 76, 77, 78, 79, 80, 81, 82, 83, 84, 85, 86, 87, 88, 89, 90, 91, 92, 93, 94, 95, 96, 97, 98, 99, 100, 101, 102, 103, 104, 105, 106, 107, 108, 109, 110, 111, 112, 113, 114, 115, 116, 117, 118, 119, 120, 121, 122, 123, 124, 125, 126, 127, 128, 129, 130, 131, 132, 133, 134, 135, 136, 137, 138, 139, 140, 141, 142] (by decide +kernel) (by decide +kernel)
set_option maxRecDepth 20000 in
theorem gX8_follow_X8_follow : GoodIn wsX8_follow (wsV RX8 45 RX8 yX8_follow wsX8_follow) := goodIn_app (goodIn_of _ (by decide +kernel)) ggX8_follow_X8_follow
set_option maxRecDepth 20000 in
theorem ggX8_follow_X6_takeBack : GoodIn wsX8_follow wsX6_takeBack := goodIn_r _ [124, 13, 134, 135] (by decide +kernel) (by decide +kernel)
set_option maxRecDepth 20000 in
theorem gX8_follow_X6_takeBack : GoodIn wsX8_follow (wsV RX8 71 RX6 yX6_takeBack wsX6_takeBack) := goodIn_app (goodIn_of _ (by decide +kernel)) ggX8_follow_X6_takeBack
theorem dX8_follow_0 : decode cX8_follow 0 = .ok (.iload_n 3, 1) := by decide +kernel
theorem dX8_follow_1 : decode cX8_follow 1 = .ok (.ifCond .gt 17, 3) := by decide +kernel
theorem dX8_follow_4 : decode cX8_follow 4 = .ok (.aload_n 0, 1) := by decide +kernel
theorem dX8_follow_5 : decode cX8_follow 5 = .ok (.aload_n 1, 1) := by decide +kernel
theorem dX8_follow_6 : decode cX8_follow 6 = .ok (.aload_n 0, 1) := by decide +kernel
theorem dX8_follow_7 : decode cX8_follow 7 = .ok (.getfield 12, 3) := by decide +kernel
theorem dX8_follow_10 : decode cX8_follow 10 = .ok (.invokevirtual 49, 3) := by decide +kernel
theorem dX8_follow_13 : decode cX8_follow 13 = .ok (.aload_n 2, 1) := by decide +kernel
theorem dX8_follow_14 : decode cX8_follow 14 = .ok (.invokevirtual 55, 3) := by decide +kernel
theorem dX8_follow_17 : decode cX8_follow 17 = .ok (.return_, 1) := by decide +kernel
theorem dX8_follow_18 : decode cX8_follow 18 = .ok (.iconst 0, 1) := by decide +kernel
theorem dX8_follow_19 : decode cX8_follow 19 = .ok (.istore 4, 2) := by decide +kernel
theorem dX8_follow_21 : decode cX8_follow 21 = .ok (.iload 4, 2) := by decide +kernel
theorem dX8_follow_23 : decode cX8_follow 23 = .ok (.aload_n 1, 1) := by decide +kernel
theorem dX8_follow_24 : decode cX8_follow 24 = .ok (.invokevirtual 59, 3) := by decide +kernel
theorem dX8_follow_27 : decode cX8_follow 27 = .ok (.if_icmp .ge 47, 3) := by decide +kernel
theorem dX8_follow_30 : decode cX8_follow 30 = .ok (.aload_n 1, 1) := by decide +kernel
theorem dX8_follow_31 : decode cX8_follow 31 = .ok (.aload_n 0, 1) := by decide +kernel
theorem dX8_follow_32 : decode cX8_follow 32 = .ok (.getfield 12, 3) := by decide +kernel
theorem dX8_follow_35 : decode cX8_follow 35 = .ok (.iload 4, 2) := by decide +kernel
theorem dX8_follow_37 : decode cX8_follow 37 = .ok (.invokevirtual 63, 3) := by decide +kernel
theorem dX8_follow_40 : decode cX8_follow 40 = .ok (.ifCond .eq 28, 3) := by decide +kernel
theorem dX8_follow_43 : decode cX8_follow 43 = .ok (.aload_n 0, 1) := by decide +kernel
theorem dX8_follow_44 : decode cX8_follow 44 = .ok (.getfield 12, 3) := by decide +kernel
theorem dX8_follow_47 : decode cX8_follow 47 = .ok (.iload 4, 2) := by decide +kernel
theorem dX8_follow_49 : decode cX8_follow 49 = .ok (.invokevirtual 67, 3) := by decide +kernel
theorem dX8_follow_52 : decode cX8_follow 52 = .ok (.aload_n 0, 1) := by decide +kernel
theorem dX8_follow_53 : decode cX8_follow 53 = .ok (.aload_n 1, 1) := by decide +kernel
theorem dX8_follow_54 : decode cX8_follow 54 = .ok (.aload_n 2, 1) := by decide +kernel
theorem dX8_follow_55 : decode cX8_follow 55 = .ok (.iload_n 3, 1) := by decide +kernel
theorem dX8_follow_56 : decode cX8_follow 56 = .ok (.iconst 1, 1) := by decide +kernel
theorem dX8_follow_57 : decode cX8_follow 57 = .ok (.isub, 1) := by decide +kernel
theorem dX8_follow_58 : decode cX8_follow 58 = .ok (.invokevirtual 45, 3) := by decide +kernel
theorem dX8_follow_61 : decode cX8_follow 61 = .ok (.aload_n 0, 1) := by decide +kernel
theorem dX8_follow_62 : decode cX8_follow 62 = .ok (.getfield 12, 3) := by decide +kernel
theorem dX8_follow_65 : decode cX8_follow 65 = .ok (.invokevirtual 71, 3) := by decide +kernel
theorem dX8_follow_68 : decode cX8_follow 68 = .ok (.iinc 4 1, 3) := by decide +kernel
theorem dX8_follow_71 : decode cX8_follow 71 = .ok (.goto (-50), 3) := by decide +kernel
theorem dX8_follow_74 : decode cX8_follow 74 = .ok (.return_, 1) := by decide +kernel
set_option maxRecDepth 20000 in
theorem ggX8_tallyEnd_X2_agreesWithHeard : GoodIn wsX8_tallyEnd wsX2_agreesWithHeard := goodIn_r _ [9, 10, 11, 28, 29, 30, 31, 32, 33, 34] (by decide +kernel) (by decide +kernel)
set_option maxRecDepth 20000 in
theorem gX8_tallyEnd_X2_agreesWithHeard : GoodIn wsX8_tallyEnd (wsV RX8 74 RX2 yX2_agreesWithHeard wsX2_agreesWithHeard) := goodIn_app (goodIn_of _ (by decide +kernel)) ggX8_tallyEnd_X2_agreesWithHeard
set_option maxRecDepth 20000 in
theorem ggX8_tallyEnd_X6_holder : GoodIn wsX8_tallyEnd wsX6_holder := goodIn_r _ [16, 17, 18, 35, 36] (by decide +kernel) (by decide +kernel)
set_option maxRecDepth 20000 in
theorem gX8_tallyEnd_X6_holder : GoodIn wsX8_tallyEnd (wsV RX8 80 RX6 yX6_holder wsX6_holder) := goodIn_app (goodIn_of _ (by decide +kernel)) ggX8_tallyEnd_X6_holder
set_option maxRecDepth 20000 in
theorem ggX8_tallyEnd_X11_holds : GoodIn wsX8_tallyEnd wsX11_holds := goodIn_r _ [21] (by decide +kernel) (by decide +kernel)
set_option maxRecDepth 20000 in
theorem gX8_tallyEnd_X11_holds_n83 : GoodIn wsX8_tallyEnd (wsX11_holds) := ggX8_tallyEnd_X11_holds
theorem dX8_tallyEnd_0 : decode cX8_tallyEnd 0 = .ok (.aload_n 2, 1) := by decide +kernel
theorem dX8_tallyEnd_1 : decode cX8_tallyEnd 1 = .ok (.iload_n 1, 1) := by decide +kernel
theorem dX8_tallyEnd_2 : decode cX8_tallyEnd 2 = .ok (.invokevirtual 74, 3) := by decide +kernel
theorem dX8_tallyEnd_5 : decode cX8_tallyEnd 5 = .ok (.ifCond .ne 4, 3) := by decide +kernel
theorem dX8_tallyEnd_8 : decode cX8_tallyEnd 8 = .ok (.return_, 1) := by decide +kernel
theorem dX8_tallyEnd_9 : decode cX8_tallyEnd 9 = .ok (.aload_n 0, 1) := by decide +kernel
theorem dX8_tallyEnd_10 : decode cX8_tallyEnd 10 = .ok (.dup, 1) := by decide +kernel
theorem dX8_tallyEnd_11 : decode cX8_tallyEnd 11 = .ok (.getfield 22, 3) := by decide +kernel
theorem dX8_tallyEnd_14 : decode cX8_tallyEnd 14 = .ok (.iconst 1, 1) := by decide +kernel
theorem dX8_tallyEnd_15 : decode cX8_tallyEnd 15 = .ok (.iadd, 1) := by decide +kernel
theorem dX8_tallyEnd_16 : decode cX8_tallyEnd 16 = .ok (.putfield 22, 3) := by decide +kernel
theorem dX8_tallyEnd_19 : decode cX8_tallyEnd 19 = .ok (.aload_n 0, 1) := by decide +kernel
theorem dX8_tallyEnd_20 : decode cX8_tallyEnd 20 = .ok (.dup, 1) := by decide +kernel
theorem dX8_tallyEnd_21 : decode cX8_tallyEnd 21 = .ok (.getfield 26, 3) := by decide +kernel
theorem dX8_tallyEnd_24 : decode cX8_tallyEnd 24 = .ok (.iconst 1, 1) := by decide +kernel
theorem dX8_tallyEnd_25 : decode cX8_tallyEnd 25 = .ok (.aload_n 0, 1) := by decide +kernel
theorem dX8_tallyEnd_26 : decode cX8_tallyEnd 26 = .ok (.getfield 12, 3) := by decide +kernel
theorem dX8_tallyEnd_29 : decode cX8_tallyEnd 29 = .ok (.invokevirtual 80, 3) := by decide +kernel
theorem dX8_tallyEnd_32 : decode cX8_tallyEnd 32 = .ok (.ishl, 1) := by decide +kernel
theorem dX8_tallyEnd_33 : decode cX8_tallyEnd 33 = .ok (.ior, 1) := by decide +kernel
theorem dX8_tallyEnd_34 : decode cX8_tallyEnd 34 = .ok (.putfield 26, 3) := by decide +kernel
theorem dX8_tallyEnd_37 : decode cX8_tallyEnd 37 = .ok (.iconst 0, 1) := by decide +kernel
theorem dX8_tallyEnd_38 : decode cX8_tallyEnd 38 = .ok (.istore_n 3, 1) := by decide +kernel
theorem dX8_tallyEnd_39 : decode cX8_tallyEnd 39 = .ok (.iload_n 3, 1) := by decide +kernel
theorem dX8_tallyEnd_40 : decode cX8_tallyEnd 40 = .ok (.aload_n 0, 1) := by decide +kernel
theorem dX8_tallyEnd_41 : decode cX8_tallyEnd 41 = .ok (.getfield 18, 3) := by decide +kernel
theorem dX8_tallyEnd_44 : decode cX8_tallyEnd 44 = .ok (.arraylength, 1) := by decide +kernel
theorem dX8_tallyEnd_45 : decode cX8_tallyEnd 45 = .ok (.if_icmp .ge 31, 3) := by decide +kernel
theorem dX8_tallyEnd_48 : decode cX8_tallyEnd 48 = .ok (.aload_n 0, 1) := by decide +kernel
theorem dX8_tallyEnd_49 : decode cX8_tallyEnd 49 = .ok (.getfield 18, 3) := by decide +kernel
theorem dX8_tallyEnd_52 : decode cX8_tallyEnd 52 = .ok (.iload_n 3, 1) := by decide +kernel
theorem dX8_tallyEnd_53 : decode cX8_tallyEnd 53 = .ok (.dup2, 1) := by decide +kernel
theorem dX8_tallyEnd_54 : decode cX8_tallyEnd 54 = .ok (.iaload, 1) := by decide +kernel
theorem dX8_tallyEnd_55 : decode cX8_tallyEnd 55 = .ok (.iload_n 1, 1) := by decide +kernel
theorem dX8_tallyEnd_56 : decode cX8_tallyEnd 56 = .ok (.iload_n 3, 1) := by decide +kernel
theorem dX8_tallyEnd_57 : decode cX8_tallyEnd 57 = .ok (.invokestatic 83, 3) := by decide +kernel
theorem dX8_tallyEnd_60 : decode cX8_tallyEnd 60 = .ok (.ifCond .eq 7, 3) := by decide +kernel
theorem dX8_tallyEnd_63 : decode cX8_tallyEnd 63 = .ok (.iconst 1, 1) := by decide +kernel
theorem dX8_tallyEnd_64 : decode cX8_tallyEnd 64 = .ok (.goto 4, 3) := by decide +kernel
theorem dX8_tallyEnd_67 : decode cX8_tallyEnd 67 = .ok (.iconst 0, 1) := by decide +kernel
theorem dX8_tallyEnd_68 : decode cX8_tallyEnd 68 = .ok (.iadd, 1) := by decide +kernel
theorem dX8_tallyEnd_69 : decode cX8_tallyEnd 69 = .ok (.iastore, 1) := by decide +kernel
theorem dX8_tallyEnd_70 : decode cX8_tallyEnd 70 = .ok (.iinc 3 1, 3) := by decide +kernel
theorem dX8_tallyEnd_73 : decode cX8_tallyEnd 73 = .ok (.goto (-34), 3) := by decide +kernel
theorem dX8_tallyEnd_76 : decode cX8_tallyEnd 76 = .ok (.return_, 1) := by decide +kernel
theorem dX8_bestAsked_0 : decode cX8_bestAsked 0 = .ok (.iconst (-1), 1) := by decide +kernel
theorem dX8_bestAsked_1 : decode cX8_bestAsked 1 = .ok (.istore_n 2, 1) := by decide +kernel
theorem dX8_bestAsked_2 : decode cX8_bestAsked 2 = .ok (.aload_n 0, 1) := by decide +kernel
theorem dX8_bestAsked_3 : decode cX8_bestAsked 3 = .ok (.getfield 22, 3) := by decide +kernel
theorem dX8_bestAsked_6 : decode cX8_bestAsked 6 = .ok (.istore_n 3, 1) := by decide +kernel
theorem dX8_bestAsked_7 : decode cX8_bestAsked 7 = .ok (.iconst 0, 1) := by decide +kernel
theorem dX8_bestAsked_8 : decode cX8_bestAsked 8 = .ok (.istore 4, 2) := by decide +kernel
theorem dX8_bestAsked_10 : decode cX8_bestAsked 10 = .ok (.iload 4, 2) := by decide +kernel
theorem dX8_bestAsked_12 : decode cX8_bestAsked 12 = .ok (.iload_n 1, 1) := by decide +kernel
theorem dX8_bestAsked_13 : decode cX8_bestAsked 13 = .ok (.if_icmp .ge 67, 3) := by decide +kernel
theorem dX8_bestAsked_16 : decode cX8_bestAsked 16 = .ok (.iload 4, 2) := by decide +kernel
theorem dX8_bestAsked_18 : decode cX8_bestAsked 18 = .ok (.aload_n 0, 1) := by decide +kernel
theorem dX8_bestAsked_19 : decode cX8_bestAsked 19 = .ok (.getfield 18, 3) := by decide +kernel
theorem dX8_bestAsked_22 : decode cX8_bestAsked 22 = .ok (.arraylength, 1) := by decide +kernel
theorem dX8_bestAsked_23 : decode cX8_bestAsked 23 = .ok (.if_icmp .ge 57, 3) := by decide +kernel
theorem dX8_bestAsked_26 : decode cX8_bestAsked 26 = .ok (.aload_n 0, 1) := by decide +kernel
theorem dX8_bestAsked_27 : decode cX8_bestAsked 27 = .ok (.getfield 22, 3) := by decide +kernel
theorem dX8_bestAsked_30 : decode cX8_bestAsked 30 = .ok (.ifCond .le 50, 3) := by decide +kernel
theorem dX8_bestAsked_33 : decode cX8_bestAsked 33 = .ok (.aload_n 0, 1) := by decide +kernel
theorem dX8_bestAsked_34 : decode cX8_bestAsked 34 = .ok (.getfield 18, 3) := by decide +kernel
theorem dX8_bestAsked_37 : decode cX8_bestAsked 37 = .ok (.iload 4, 2) := by decide +kernel
theorem dX8_bestAsked_39 : decode cX8_bestAsked 39 = .ok (.iaload, 1) := by decide +kernel
theorem dX8_bestAsked_40 : decode cX8_bestAsked 40 = .ok (.aload_n 0, 1) := by decide +kernel
theorem dX8_bestAsked_41 : decode cX8_bestAsked 41 = .ok (.getfield 22, 3) := by decide +kernel
theorem dX8_bestAsked_44 : decode cX8_bestAsked 44 = .ok (.aload_n 0, 1) := by decide +kernel
theorem dX8_bestAsked_45 : decode cX8_bestAsked 45 = .ok (.getfield 18, 3) := by decide +kernel
theorem dX8_bestAsked_48 : decode cX8_bestAsked 48 = .ok (.iload 4, 2) := by decide +kernel
theorem dX8_bestAsked_50 : decode cX8_bestAsked 50 = .ok (.iaload, 1) := by decide +kernel
theorem dX8_bestAsked_51 : decode cX8_bestAsked 51 = .ok (.isub, 1) := by decide +kernel
theorem dX8_bestAsked_52 : decode cX8_bestAsked 52 = .ok (.invokestatic 87, 3) := by decide +kernel
theorem dX8_bestAsked_55 : decode cX8_bestAsked 55 = .ok (.istore 5, 2) := by decide +kernel
theorem dX8_bestAsked_57 : decode cX8_bestAsked 57 = .ok (.iload_n 2, 1) := by decide +kernel
theorem dX8_bestAsked_58 : decode cX8_bestAsked 58 = .ok (.iconst (-1), 1) := by decide +kernel
theorem dX8_bestAsked_59 : decode cX8_bestAsked 59 = .ok (.if_icmp .eq 9, 3) := by decide +kernel
theorem dX8_bestAsked_62 : decode cX8_bestAsked 62 = .ok (.iload 5, 2) := by decide +kernel
theorem dX8_bestAsked_64 : decode cX8_bestAsked 64 = .ok (.iload_n 3, 1) := by decide +kernel
theorem dX8_bestAsked_65 : decode cX8_bestAsked 65 = .ok (.if_icmp .ge 9, 3) := by decide +kernel
theorem dX8_bestAsked_68 : decode cX8_bestAsked 68 = .ok (.iload 4, 2) := by decide +kernel
theorem dX8_bestAsked_70 : decode cX8_bestAsked 70 = .ok (.istore_n 2, 1) := by decide +kernel
theorem dX8_bestAsked_71 : decode cX8_bestAsked 71 = .ok (.iload 5, 2) := by decide +kernel
theorem dX8_bestAsked_73 : decode cX8_bestAsked 73 = .ok (.istore_n 3, 1) := by decide +kernel
theorem dX8_bestAsked_74 : decode cX8_bestAsked 74 = .ok (.iinc 4 1, 3) := by decide +kernel
theorem dX8_bestAsked_77 : decode cX8_bestAsked 77 = .ok (.goto (-67), 3) := by decide +kernel
theorem dX8_bestAsked_80 : decode cX8_bestAsked 80 = .ok (.iload_n 2, 1) := by decide +kernel
theorem dX8_bestAsked_81 : decode cX8_bestAsked 81 = .ok (.ireturn, 1) := by decide +kernel
set_option maxRecDepth 20000 in
theorem ggX8_seek_X6_copyFrom : GoodIn wsX8_seek wsX6_copyFrom := goodIn_r _ [8, 9, 10, 11, 12, 13, 14, 127, 128] (by decide +kernel) (by decide +kernel)
set_option maxRecDepth 20000 in
theorem gX8_seek_X6_copyFrom : GoodIn wsX8_seek (wsV RX8 35 RX6 yX6_copyFrom wsX6_copyFrom) := goodIn_app (goodIn_of _ (by decide +kernel)) ggX8_seek_X6_copyFrom
set_option maxRecDepth 20000 in
theorem ggX8_seek_X8_reaches : GoodIn wsX8_seek wsX8_reaches := goodIn_r _ [19, 1, 3, 20, 21, 22, 23, 24, 25, 26, 27, 28, 7, 29, 14, 30, 31, 32, 33, 34, 35, 36, 37, 38, 39, 40, 9, 41, 42, 43, 44, 45, 46, 47, 48, 49, 50, 51, 52, 53, 54, 55, 56, 57, 58, 59, 60, 61, 62, 63, 64, 65, 66, 67, 68, 69, 70, 71, 72, 73, 74, 75, 76, 77, 78, 79, 80, 81, 82, 83, 84, 85, 86, 87, 88, 89, 90, 91, 92, 93, 94, 95, 96, 97, 98, 99, 100, 101, 102, 103, 104, 105, 106, 107, 108, 109, 110, 111, 112, 113, 114, 115, 116, 15, 16, 17, 18, 117, 118, 119, 120, 121, 122, 123, 124, 125, 126, 129, 130, 131, 127, 128] (by decide +kernel) (by decide +kernel)
set_option maxRecDepth 20000 in
theorem gX8_seek_X8_reaches : GoodIn wsX8_seek (wsV RX8 90 RX8 yX8_reaches wsX8_reaches) := goodIn_app (goodIn_of _ (by decide +kernel)) ggX8_seek_X8_reaches
theorem dX8_seek_0 : decode cX8_seek 0 = .ok (.aload_n 0, 1) := by decide +kernel
theorem dX8_seek_1 : decode cX8_seek 1 = .ok (.getfield 12, 3) := by decide +kernel
theorem dX8_seek_4 : decode cX8_seek 4 = .ok (.aload_n 2, 1) := by decide +kernel
theorem dX8_seek_5 : decode cX8_seek 5 = .ok (.invokevirtual 35, 3) := by decide +kernel
theorem dX8_seek_8 : decode cX8_seek 8 = .ok (.aload_n 0, 1) := by decide +kernel
theorem dX8_seek_9 : decode cX8_seek 9 = .ok (.iconst (-1), 1) := by decide +kernel
theorem dX8_seek_10 : decode cX8_seek 10 = .ok (.putfield 29, 3) := by decide +kernel
theorem dX8_seek_13 : decode cX8_seek 13 = .ok (.aload_n 0, 1) := by decide +kernel
theorem dX8_seek_14 : decode cX8_seek 14 = .ok (.iconst (-1), 1) := by decide +kernel
theorem dX8_seek_15 : decode cX8_seek 15 = .ok (.putfield 32, 3) := by decide +kernel
theorem dX8_seek_18 : decode cX8_seek 18 = .ok (.iconst 0, 1) := by decide +kernel
theorem dX8_seek_19 : decode cX8_seek 19 = .ok (.istore 4, 2) := by decide +kernel
theorem dX8_seek_21 : decode cX8_seek 21 = .ok (.iload 4, 2) := by decide +kernel
theorem dX8_seek_23 : decode cX8_seek 23 = .ok (.iconst 4, 1) := by decide +kernel
theorem dX8_seek_24 : decode cX8_seek 24 = .ok (.if_icmp .gt 34, 3) := by decide +kernel
theorem dX8_seek_27 : decode cX8_seek 27 = .ok (.aload_n 0, 1) := by decide +kernel
theorem dX8_seek_28 : decode cX8_seek 28 = .ok (.getfield 29, 3) := by decide +kernel
theorem dX8_seek_31 : decode cX8_seek 31 = .ok (.iconst (-1), 1) := by decide +kernel
theorem dX8_seek_32 : decode cX8_seek 32 = .ok (.if_icmp .ne 26, 3) := by decide +kernel
theorem dX8_seek_35 : decode cX8_seek 35 = .ok (.aload_n 0, 1) := by decide +kernel
theorem dX8_seek_36 : decode cX8_seek 36 = .ok (.aload_n 1, 1) := by decide +kernel
theorem dX8_seek_37 : decode cX8_seek 37 = .ok (.iload_n 3, 1) := by decide +kernel
theorem dX8_seek_38 : decode cX8_seek 38 = .ok (.iload 4, 2) := by decide +kernel
theorem dX8_seek_40 : decode cX8_seek 40 = .ok (.invokevirtual 90, 3) := by decide +kernel
theorem dX8_seek_43 : decode cX8_seek 43 = .ok (.ifCond .eq 9, 3) := by decide +kernel
theorem dX8_seek_46 : decode cX8_seek 46 = .ok (.aload_n 0, 1) := by decide +kernel
theorem dX8_seek_47 : decode cX8_seek 47 = .ok (.iload 4, 2) := by decide +kernel
theorem dX8_seek_49 : decode cX8_seek 49 = .ok (.putfield 29, 3) := by decide +kernel
theorem dX8_seek_52 : decode cX8_seek 52 = .ok (.iinc 4 1, 3) := by decide +kernel
theorem dX8_seek_55 : decode cX8_seek 55 = .ok (.goto (-34), 3) := by decide +kernel
theorem dX8_seek_58 : decode cX8_seek 58 = .ok (.return_, 1) := by decide +kernel
set_option maxRecDepth 20000 in
theorem ggX8_reaches_X10_boundBy : GoodIn wsX8_reaches wsX10_boundBy := goodIn_r _ [7, 8, 9, 10, 11, 12, 13, 14, 15, 16, 17, 18, 19, 20, 21, 22, 23, 24, 25, 26, 27, 28, 29, 6, 30, 31, 32, 33, 34, 35, 36, 37, 38, 39, 40, 41, 42, 43, 44, 45, 46, 47, 48, 49, 50, 51, 52, 53, 54, 55, 56, 57, 58, 59, 60, 61, 62, 63, 64, 117, 118, 119, 120, 121] (by decide +kernel) (by decide +kernel)
set_option maxRecDepth 20000 in
theorem gX8_reaches_X10_boundBy : GoodIn wsX8_reaches (wsV RX8 49 RX10 yX10_boundBy wsX10_boundBy) := goodIn_app (goodIn_of _ (by decide +kernel)) ggX8_reaches_X10_boundBy
set_option maxRecDepth 20000 in
theorem ggX8_reaches_X10_size : GoodIn wsX8_reaches wsX10_size := goodIn_r _ [68, 31, 117, 118, 119] (by decide +kernel) (by decide +kernel)
set_option maxRecDepth 20000 in
theorem gX8_reaches_X10_size : GoodIn wsX8_reaches (wsV RX8 59 RX10 yX10_size wsX10_size) := goodIn_app (goodIn_of _ (by decide +kernel)) ggX8_reaches_X10_size
set_option maxRecDepth 20000 in
theorem ggX8_reaches_X10_canBeLent : GoodIn wsX8_reaches wsX10_canBeLent := goodIn_r _ [72, 73, 74, 75, 6, 76, 77, 78, 79, 12, 80, 14, 26, 27, 28, 29, 30, 31, 32, 81, 82, 83, 84, 85, 86, 87, 88, 89, 90, 91, 40, 92, 93, 94, 95, 96, 97, 98, 120, 121, 117, 118, 119] (by decide +kernel) (by decide +kernel)
set_option maxRecDepth 20000 in
theorem gX8_reaches_X10_canBeLent : GoodIn wsX8_reaches (wsV RX8 63 RX10 yX10_canBeLent wsX10_canBeLent) := goodIn_app (goodIn_of _ (by decide +kernel)) ggX8_reaches_X10_canBeLent
set_option maxRecDepth 20000 in
theorem ggX8_reaches_X6_passTo : GoodIn wsX8_reaches wsX6_passTo := goodIn_r _ [102, 14, 26, 120, 121] (by decide +kernel) (by decide +kernel)
set_option maxRecDepth 20000 in
theorem gX8_reaches_X6_passTo : GoodIn wsX8_reaches (wsV RX8 67 RX6 yX6_passTo wsX6_passTo) := goodIn_app (goodIn_of _ (by decide +kernel)) ggX8_reaches_X6_passTo
set_option maxRecDepth 20000 in
theorem ggX8_reaches_X8_reaches : GoodIn wsX8_reaches wsX8_reaches := goodIn_r _ [0, 1, 2, 3, 4, 5, 6, 7, 8, 9, 10, 11, 12, 13, 14, 15, 16, 17, 18, 19, 20, 21, 22, 23, 24, 25, 26, 27, 28, 29, 30, 31, 32, 33, 34, 35, 36, 37, 38, 39, 40, 41, 42, 43, 44, 45, 46, 47, 48, 49, 50, 51, 52, 53, 54, 55, 56, 57, 58, 59, 60, 61, 62, 63, 64, 65, 66, 67, 68, 69, 70, 71, 72, 73, 74, 75, 76, 77, 78, 79, 80, 81, 82, 83, 84, 85, 86, 87, 88, 89, 90, 91, 92, 93, 94, 95, 96, 97, 98, 99, 100, 101, 102, 103, 104, 105, 106, 107, 108, 109, 110, 111, 112, 113, 114, 115, 116, 117, 118, 119, 120, 121] (by decide +kernel) (by decide +kernel)
set_option maxRecDepth 20000 in
theorem gX8_reaches_X8_reaches : GoodIn wsX8_reaches (wsV RX8 90 RX8 yX8_reaches wsX8_reaches) := goodIn_app (goodIn_of _ (by decide +kernel)) ggX8_reaches_X8_reaches
set_option maxRecDepth 20000 in
theorem ggX8_reaches_X6_takeBack : GoodIn wsX8_reaches wsX6_takeBack := goodIn_r _ [110, 14, 120, 121] (by decide +kernel) (by decide +kernel)
set_option maxRecDepth 20000 in
theorem gX8_reaches_X6_takeBack : GoodIn wsX8_reaches (wsV RX8 71 RX6 yX6_takeBack wsX6_takeBack) := goodIn_app (goodIn_of _ (by decide +kernel)) ggX8_reaches_X6_takeBack
theorem dX8_reaches_0 : decode cX8_reaches 0 = .ok (.iload_n 3, 1) := by decide +kernel
theorem dX8_reaches_1 : decode cX8_reaches 1 = .ok (.ifCond .gt 21, 3) := by decide +kernel
theorem dX8_reaches_4 : decode cX8_reaches 4 = .ok (.aload_n 1, 1) := by decide +kernel
theorem dX8_reaches_5 : decode cX8_reaches 5 = .ok (.aload_n 0, 1) := by decide +kernel
theorem dX8_reaches_6 : decode cX8_reaches 6 = .ok (.getfield 12, 3) := by decide +kernel
theorem dX8_reaches_9 : decode cX8_reaches 9 = .ok (.invokevirtual 49, 3) := by decide +kernel
theorem dX8_reaches_12 : decode cX8_reaches 12 = .ok (.iload_n 2, 1) := by decide +kernel
theorem dX8_reaches_13 : decode cX8_reaches 13 = .ok (.if_icmp .ne 7, 3) := by decide +kernel
theorem dX8_reaches_16 : decode cX8_reaches 16 = .ok (.iconst 1, 1) := by decide +kernel
theorem dX8_reaches_17 : decode cX8_reaches 17 = .ok (.goto 4, 3) := by decide +kernel
theorem dX8_reaches_20 : decode cX8_reaches 20 = .ok (.iconst 0, 1) := by decide +kernel
theorem dX8_reaches_21 : decode cX8_reaches 21 = .ok (.ireturn, 1) := by decide +kernel
theorem dX8_reaches_22 : decode cX8_reaches 22 = .ok (.iconst 0, 1) := by decide +kernel
theorem dX8_reaches_23 : decode cX8_reaches 23 = .ok (.istore 4, 2) := by decide +kernel
theorem dX8_reaches_25 : decode cX8_reaches 25 = .ok (.iload 4, 2) := by decide +kernel
theorem dX8_reaches_27 : decode cX8_reaches 27 = .ok (.aload_n 1, 1) := by decide +kernel
theorem dX8_reaches_28 : decode cX8_reaches 28 = .ok (.invokevirtual 59, 3) := by decide +kernel
theorem dX8_reaches_31 : decode cX8_reaches 31 = .ok (.if_icmp .ge 62, 3) := by decide +kernel
theorem dX8_reaches_34 : decode cX8_reaches 34 = .ok (.aload_n 1, 1) := by decide +kernel
theorem dX8_reaches_35 : decode cX8_reaches 35 = .ok (.aload_n 0, 1) := by decide +kernel
theorem dX8_reaches_36 : decode cX8_reaches 36 = .ok (.getfield 12, 3) := by decide +kernel
theorem dX8_reaches_39 : decode cX8_reaches 39 = .ok (.iload 4, 2) := by decide +kernel
theorem dX8_reaches_41 : decode cX8_reaches 41 = .ok (.invokevirtual 63, 3) := by decide +kernel
theorem dX8_reaches_44 : decode cX8_reaches 44 = .ok (.ifCond .eq 43, 3) := by decide +kernel
theorem dX8_reaches_47 : decode cX8_reaches 47 = .ok (.aload_n 0, 1) := by decide +kernel
theorem dX8_reaches_48 : decode cX8_reaches 48 = .ok (.getfield 12, 3) := by decide +kernel
theorem dX8_reaches_51 : decode cX8_reaches 51 = .ok (.iload 4, 2) := by decide +kernel
theorem dX8_reaches_53 : decode cX8_reaches 53 = .ok (.invokevirtual 67, 3) := by decide +kernel
theorem dX8_reaches_56 : decode cX8_reaches 56 = .ok (.aload_n 0, 1) := by decide +kernel
theorem dX8_reaches_57 : decode cX8_reaches 57 = .ok (.aload_n 1, 1) := by decide +kernel
theorem dX8_reaches_58 : decode cX8_reaches 58 = .ok (.iload_n 2, 1) := by decide +kernel
theorem dX8_reaches_59 : decode cX8_reaches 59 = .ok (.iload_n 3, 1) := by decide +kernel
theorem dX8_reaches_60 : decode cX8_reaches 60 = .ok (.iconst 1, 1) := by decide +kernel
theorem dX8_reaches_61 : decode cX8_reaches 61 = .ok (.isub, 1) := by decide +kernel
theorem dX8_reaches_62 : decode cX8_reaches 62 = .ok (.invokevirtual 90, 3) := by decide +kernel
theorem dX8_reaches_65 : decode cX8_reaches 65 = .ok (.istore 5, 2) := by decide +kernel
theorem dX8_reaches_67 : decode cX8_reaches 67 = .ok (.aload_n 0, 1) := by decide +kernel
theorem dX8_reaches_68 : decode cX8_reaches 68 = .ok (.getfield 12, 3) := by decide +kernel
theorem dX8_reaches_71 : decode cX8_reaches 71 = .ok (.invokevirtual 71, 3) := by decide +kernel
theorem dX8_reaches_74 : decode cX8_reaches 74 = .ok (.iload 5, 2) := by decide +kernel
theorem dX8_reaches_76 : decode cX8_reaches 76 = .ok (.ifCond .eq 11, 3) := by decide +kernel
theorem dX8_reaches_79 : decode cX8_reaches 79 = .ok (.aload_n 0, 1) := by decide +kernel
theorem dX8_reaches_80 : decode cX8_reaches 80 = .ok (.iload 4, 2) := by decide +kernel
theorem dX8_reaches_82 : decode cX8_reaches 82 = .ok (.putfield 32, 3) := by decide +kernel
theorem dX8_reaches_85 : decode cX8_reaches 85 = .ok (.iconst 1, 1) := by decide +kernel
theorem dX8_reaches_86 : decode cX8_reaches 86 = .ok (.ireturn, 1) := by decide +kernel
theorem dX8_reaches_87 : decode cX8_reaches 87 = .ok (.iinc 4 1, 3) := by decide +kernel
theorem dX8_reaches_90 : decode cX8_reaches 90 = .ok (.goto (-65), 3) := by decide +kernel
theorem dX8_reaches_93 : decode cX8_reaches 93 = .ok (.iconst 0, 1) := by decide +kernel
theorem dX8_reaches_94 : decode cX8_reaches 94 = .ok (.ireturn, 1) := by decide +kernel
set_option maxRecDepth 20000 in
theorem ggX9_init_X7_init : GoodIn wsX9_init wsX7_init := goodIn_r _ [4, 5, 6, 7, 8, 9, 10, 11, 12, 13] (by decide +kernel) (by decide +kernel)
set_option maxRecDepth 20000 in
theorem gX9_init_X7_init : GoodIn wsX9_init (wsX7_init) := ggX9_init_X7_init
theorem dX9_init_0 : decode cX9_init 0 = .ok (.aload_n 0, 1) := by decide +kernel
theorem dX9_init_1 : decode cX9_init 1 = .ok (.iload_n 1, 1) := by decide +kernel
theorem dX9_init_2 : decode cX9_init 2 = .ok (.invokespecial 3, 3) := by decide +kernel
theorem dX9_init_5 : decode cX9_init 5 = .ok (.return_, 1) := by decide +kernel
theorem dX9_kind_0 : decode cX9_kind 0 = .ok (.iconst 2, 1) := by decide +kernel
theorem dX9_kind_1 : decode cX9_kind 1 = .ok (.ireturn, 1) := by decide +kernel
theorem dX9_endsTheRow_0 : decode cX9_endsTheRow 0 = .ok (.iconst 1, 1) := by decide +kernel
theorem dX9_endsTheRow_1 : decode cX9_endsTheRow 1 = .ok (.ireturn, 1) := by decide +kernel
theorem dX10_init_0 : decode cX10_init 0 = .ok (.aload_n 0, 1) := by decide +kernel
theorem dX10_init_1 : decode cX10_init 1 = .ok (.invokespecial 3, 3) := by decide +kernel
theorem dX10_init_4 : decode cX10_init 4 = .ok (.aload_n 0, 1) := by decide +kernel
theorem dX10_init_5 : decode cX10_init 5 = .ok (.iconst 5, 1) := by decide +kernel
theorem dX10_init_6 : decode cX10_init 6 = .ok (.anewarray 9, 3) := by decide +kernel
theorem dX10_init_9 : decode cX10_init 9 = .ok (.putfield 11, 3) := by decide +kernel
theorem dX10_init_12 : decode cX10_init 12 = .ok (.return_, 1) := by decide +kernel
theorem dX10_size_0 : decode cX10_size 0 = .ok (.aload_n 0, 1) := by decide +kernel
theorem dX10_size_1 : decode cX10_size 1 = .ok (.getfield 17, 3) := by decide +kernel
theorem dX10_size_4 : decode cX10_size 4 = .ok (.ireturn, 1) := by decide +kernel
theorem dX10_limit_0 : decode cX10_limit 0 = .ok (.aload_n 0, 1) := by decide +kernel
theorem dX10_limit_1 : decode cX10_limit 1 = .ok (.getfield 21, 3) := by decide +kernel
theorem dX10_limit_4 : decode cX10_limit 4 = .ok (.ireturn, 1) := by decide +kernel
theorem dX10_isEmpty_0 : decode cX10_isEmpty 0 = .ok (.aload_n 0, 1) := by decide +kernel
theorem dX10_isEmpty_1 : decode cX10_isEmpty 1 = .ok (.getfield 17, 3) := by decide +kernel
theorem dX10_isEmpty_4 : decode cX10_isEmpty 4 = .ok (.ifCond .ne 7, 3) := by decide +kernel
theorem dX10_isEmpty_7 : decode cX10_isEmpty 7 = .ok (.iconst 1, 1) := by decide +kernel
theorem dX10_isEmpty_8 : decode cX10_isEmpty 8 = .ok (.goto 4, 3) := by decide +kernel
theorem dX10_isEmpty_11 : decode cX10_isEmpty 11 = .ok (.iconst 0, 1) := by decide +kernel
theorem dX10_isEmpty_12 : decode cX10_isEmpty 12 = .ok (.ireturn, 1) := by decide +kernel
theorem dX10_everyone_0 : decode cX10_everyone 0 = .ok (.iconst 1, 1) := by decide +kernel
theorem dX10_everyone_1 : decode cX10_everyone 1 = .ok (.aload_n 0, 1) := by decide +kernel
theorem dX10_everyone_2 : decode cX10_everyone 2 = .ok (.getfield 17, 3) := by decide +kernel
theorem dX10_everyone_5 : decode cX10_everyone 5 = .ok (.ishl, 1) := by decide +kernel
theorem dX10_everyone_6 : decode cX10_everyone 6 = .ok (.iconst 1, 1) := by decide +kernel
theorem dX10_everyone_7 : decode cX10_everyone 7 = .ok (.isub, 1) := by decide +kernel
theorem dX10_everyone_8 : decode cX10_everyone 8 = .ok (.ireturn, 1) := by decide +kernel
theorem dX10_one_0 : decode cX10_one 0 = .ok (.iload_n 1, 1) := by decide +kernel
theorem dX10_one_1 : decode cX10_one 1 = .ok (.ifCond .lt 20, 3) := by decide +kernel
theorem dX10_one_4 : decode cX10_one 4 = .ok (.iload_n 1, 1) := by decide +kernel
theorem dX10_one_5 : decode cX10_one 5 = .ok (.aload_n 0, 1) := by decide +kernel
theorem dX10_one_6 : decode cX10_one 6 = .ok (.getfield 17, 3) := by decide +kernel
theorem dX10_one_9 : decode cX10_one 9 = .ok (.if_icmp .ge 12, 3) := by decide +kernel
theorem dX10_one_12 : decode cX10_one 12 = .ok (.iload_n 1, 1) := by decide +kernel
theorem dX10_one_13 : decode cX10_one 13 = .ok (.aload_n 0, 1) := by decide +kernel
theorem dX10_one_14 : decode cX10_one 14 = .ok (.getfield 11, 3) := by decide +kernel
theorem dX10_one_17 : decode cX10_one 17 = .ok (.arraylength, 1) := by decide +kernel
theorem dX10_one_18 : decode cX10_one 18 = .ok (.if_icmp .lt 7, 3) := by decide +kernel
theorem dX10_one_21 : decode cX10_one 21 = .ok (.aconst_null, 1) := by decide +kernel
theorem dX10_one_22 : decode cX10_one 22 = .ok (.goto 9, 3) := by decide +kernel
theorem dX10_one_25 : decode cX10_one 25 = .ok (.aload_n 0, 1) := by decide +kernel
theorem dX10_one_26 : decode cX10_one 26 = .ok (.getfield 11, 3) := by decide +kernel
theorem dX10_one_29 : decode cX10_one 29 = .ok (.iload_n 1, 1) := by decide +kernel
theorem dX10_one_30 : decode cX10_one 30 = .ok (.aaload, 1) := by decide +kernel
theorem dX10_one_31 : decode cX10_one 31 = .ok (.areturn, 1) := by decide +kernel
set_option maxRecDepth 20000 in
theorem ggX10_readFrom_X5_size : GoodIn wsX10_readFrom wsX5_size := goodIn_r _ [12, 13, 150, 151] (by decide +kernel) (by decide +kernel)
set_option maxRecDepth 20000 in
theorem gX10_readFrom_X5_size : GoodIn wsX10_readFrom (wsV RX10 24 RX5 yX5_size wsX5_size) := goodIn_app (goodIn_of _ (by decide +kernel)) ggX10_readFrom_X5_size
set_option maxRecDepth 20000 in
theorem ggX10_readFrom_X5_codeAt : GoodIn wsX10_readFrom wsX5_codeAt := goodIn_r _ [17, 13, 18, 150, 151] (by decide +kernel) (by decide +kernel)
set_option maxRecDepth 20000 in
theorem gX10_readFrom_X5_codeAt : GoodIn wsX10_readFrom (wsV RX10 35 RX5 yX5_codeAt wsX5_codeAt) := goodIn_app (goodIn_of _ (by decide +kernel)) ggX10_readFrom_X5_codeAt
set_option maxRecDepth 20000 in
theorem ggX10_readFrom_X10_newPerson : GoodIn wsX10_readFrom wsX10_newPerson := goodIn_r _ [22, 23, 24, 25, 26, 27, 28, 29, 30, 31, 32, 33, 34, 35, 36, 37, 38, 39, 40, 41, 42, 43, 44, 45, 46, 47, 48, 49, 50, 51, 52, 53, 54, 55, 56, 57, 58, 59, 60, 61, 62, 63, 64, 65, 66, 67, 4, 68, 69, 3, 5, 70, 71, 72, 73, 74, 75, 76, 77, 78, 79, 80, 81, 82, 83, 84, 85, 86, 87, 88, 89, 90, 91, 92, 93, 94, 95, 96, 97, 98, 99, 100, 101, 102, 103, 104, 105, 106, 107, 108, 109, 110, 111, 112, 113, 114, 115, 116, 117, 118, 119, 120, 121, 122, 123, 124, 125, 126, 127, 128, 129, 130, 131, 132, 133, 134, 135, 136, 137, 138, 139, 140, 141, 142, 143, 144, 145, 146, 152, 153, 154, 155, 156] (by decide +kernel) (by decide +kernel)
set_option maxRecDepth 20000 in
theorem gX10_readFrom_X10_newPerson : GoodIn wsX10_readFrom (va_wsS RX10 39 yX10_newPerson wsX10_newPerson) := goodIn_app (goodIn_of _ (by decide +kernel)) ggX10_readFrom_X10_newPerson
