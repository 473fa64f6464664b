theorem dX10_readFrom_0 : decode cX10_readFrom 0 = .ok (.aload_n 0, 1) := by decide +kernel
theorem dX10_readFrom_1 : decode cX10_readFrom 1 = .ok (.aload_n 1, 1) := by decide +kernel
theorem dX10_readFrom_2 : decode cX10_readFrom 2 = .ok (.invokevirtual 24, 3) := by decide +kernel
theorem dX10_readFrom_5 : decode cX10_readFrom 5 = .ok (.iconst 3, 1) := by decide +kernel
theorem dX10_readFrom_6 : decode cX10_readFrom 6 = .ok (.idiv, 1) := by decide +kernel
theorem dX10_readFrom_7 : decode cX10_readFrom 7 = .ok (.aload_n 0, 1) := by decide +kernel
theorem dX10_readFrom_8 : decode cX10_readFrom 8 = .ok (.getfield 11, 3) := by decide +kernel
theorem dX10_readFrom_11 : decode cX10_readFrom 11 = .ok (.arraylength, 1) := by decide +kernel
theorem dX10_readFrom_12 : decode cX10_readFrom 12 = .ok (.invokestatic 29, 3) := by decide +kernel
theorem dX10_readFrom_15 : decode cX10_readFrom 15 = .ok (.putfield 17, 3) := by decide +kernel
theorem dX10_readFrom_18 : decode cX10_readFrom 18 = .ok (.iconst 0, 1) := by decide +kernel
theorem dX10_readFrom_19 : decode cX10_readFrom 19 = .ok (.istore_n 2, 1) := by decide +kernel
theorem dX10_readFrom_20 : decode cX10_readFrom 20 = .ok (.iload_n 2, 1) := by decide +kernel
theorem dX10_readFrom_21 : decode cX10_readFrom 21 = .ok (.aload_n 0, 1) := by decide +kernel
theorem dX10_readFrom_22 : decode cX10_readFrom 22 = .ok (.getfield 17, 3) := by decide +kernel
theorem dX10_readFrom_25 : decode cX10_readFrom 25 = .ok (.if_icmp .ge 37, 3) := by decide +kernel
theorem dX10_readFrom_28 : decode cX10_readFrom 28 = .ok (.aload_n 0, 1) := by decide +kernel
theorem dX10_readFrom_29 : decode cX10_readFrom 29 = .ok (.getfield 11, 3) := by decide +kernel
theorem dX10_readFrom_32 : decode cX10_readFrom 32 = .ok (.iload_n 2, 1) := by decide +kernel
theorem dX10_readFrom_33 : decode cX10_readFrom 33 = .ok (.aload_n 1, 1) := by decide +kernel
theorem dX10_readFrom_34 : decode cX10_readFrom 34 = .ok (.iconst 3, 1) := by decide +kernel
theorem dX10_readFrom_35 : decode cX10_readFrom 35 = .ok (.iload_n 2, 1) := by decide +kernel
theorem dX10_readFrom_36 : decode cX10_readFrom 36 = .ok (.imul, 1) := by decide +kernel
theorem dX10_readFrom_37 : decode cX10_readFrom 37 = .ok (.invokevirtual 35, 3) := by decide +kernel
theorem dX10_readFrom_40 : decode cX10_readFrom 40 = .ok (.aload_n 1, 1) := by decide +kernel
theorem dX10_readFrom_41 : decode cX10_readFrom 41 = .ok (.iconst 3, 1) := by decide +kernel
theorem dX10_readFrom_42 : decode cX10_readFrom 42 = .ok (.iload_n 2, 1) := by decide +kernel
theorem dX10_readFrom_43 : decode cX10_readFrom 43 = .ok (.imul, 1) := by decide +kernel
theorem dX10_readFrom_44 : decode cX10_readFrom 44 = .ok (.iconst 1, 1) := by decide +kernel
theorem dX10_readFrom_45 : decode cX10_readFrom 45 = .ok (.iadd, 1) := by decide +kernel
theorem dX10_readFrom_46 : decode cX10_readFrom 46 = .ok (.invokevirtual 35, 3) := by decide +kernel
theorem dX10_readFrom_49 : decode cX10_readFrom 49 = .ok (.bipush 48, 2) := by decide +kernel
theorem dX10_readFrom_51 : decode cX10_readFrom 51 = .ok (.isub, 1) := by decide +kernel
theorem dX10_readFrom_52 : decode cX10_readFrom 52 = .ok (.invokestatic 39, 3) := by decide +kernel
theorem dX10_readFrom_55 : decode cX10_readFrom 55 = .ok (.aastore, 1) := by decide +kernel
theorem dX10_readFrom_56 : decode cX10_readFrom 56 = .ok (.iinc 2 1, 3) := by decide +kernel
theorem dX10_readFrom_59 : decode cX10_readFrom 59 = .ok (.goto (-39), 3) := by decide +kernel
theorem dX10_readFrom_62 : decode cX10_readFrom 62 = .ok (.aload_n 0, 1) := by decide +kernel
theorem dX10_readFrom_63 : decode cX10_readFrom 63 = .ok (.aload_n 1, 1) := by decide +kernel
theorem dX10_readFrom_64 : decode cX10_readFrom 64 = .ok (.aload_n 1, 1) := by decide +kernel
theorem dX10_readFrom_65 : decode cX10_readFrom 65 = .ok (.invokevirtual 24, 3) := by decide +kernel
theorem dX10_readFrom_68 : decode cX10_readFrom 68 = .ok (.iconst 1, 1) := by decide +kernel
theorem dX10_readFrom_69 : decode cX10_readFrom 69 = .ok (.isub, 1) := by decide +kernel
theorem dX10_readFrom_70 : decode cX10_readFrom 70 = .ok (.invokevirtual 35, 3) := by decide +kernel
theorem dX10_readFrom_73 : decode cX10_readFrom 73 = .ok (.bipush 48, 2) := by decide +kernel
theorem dX10_readFrom_75 : decode cX10_readFrom 75 = .ok (.isub, 1) := by decide +kernel
theorem dX10_readFrom_76 : decode cX10_readFrom 76 = .ok (.putfield 21, 3) := by decide +kernel
theorem dX10_readFrom_79 : decode cX10_readFrom 79 = .ok (.return_, 1) := by decide +kernel
set_option maxRecDepth 20000 in
theorem ggX10_newPerson_J0_indexOf_0f7a4 : GoodIn wsX10_newPerson wsJ0_indexOf_0f7a4 := goodIn_r _ [20, 21, 22, 23, 19, 24, 25, 26, 27, 28, 29, 30, 31, 32, 33, 34, 35, 36, 37, 38, 39, 40, 41, 42, 43, 44, 45, 46, 47, 48, 49, 50, 51, 52, 53, 54, 55, 56, 57, 58, 59, 60, 61, 62, 63, 64, 65, 66, 67, 68, 69, 70, 71, 72, 73, 74, 75, 76, 77, 78, 79, 80, 81, 82, 83, 84, 85, 86, 87, 88, 89, 90, 91, 92, 93, 94, 95, 96, 97, 98, 99, 100, 101, 102, 103, 104] (by decide +kernel) (by decide +kernel)
set_option maxRecDepth 20000 in
theorem gX10_newPerson_J0_indexOf_0f7a4 : GoodIn wsX10_newPerson (wsV RX10 45 RJ0 yJ0_indexOf_0f7a4 wsJ0_indexOf_0f7a4) := goodIn_app (goodIn_of _ (by decide +kernel)) ggX10_newPerson_J0_indexOf_0f7a4
set_option maxRecDepth 20000 in
theorem ggX10_newPerson_X1_init : GoodIn wsX10_newPerson wsX1_init := goodIn_r _ [107, 108, 109, 15, 110, 111, 112, 113, 114, 131, 128, 130, 132, 129] (by decide +kernel) (by decide +kernel)
set_option maxRecDepth 20000 in
theorem gX10_newPerson_X1_init : GoodIn wsX10_newPerson (wsX1_init) := ggX10_newPerson_X1_init
set_option maxRecDepth 20000 in
theorem ggX10_newPerson_X9_init : GoodIn wsX10_newPerson wsX9_init := goodIn_r _ [117, 118, 109, 15, 110, 111, 112, 113, 114, 131, 128, 130, 132, 129] (by decide +kernel) (by decide +kernel)
set_option maxRecDepth 20000 in
theorem gX10_newPerson_X9_init : GoodIn wsX10_newPerson (wsX9_init) := ggX10_newPerson_X9_init
set_option maxRecDepth 20000 in
theorem ggX10_newPerson_X3_init : GoodIn wsX10_newPerson wsX3_init := goodIn_r _ [121, 122, 109, 15, 110, 111, 112, 113, 114, 131, 128, 130, 132, 129] (by decide +kernel) (by decide +kernel)
set_option maxRecDepth 20000 in
theorem gX10_newPerson_X3_init : GoodIn wsX10_newPerson (wsX3_init) := ggX10_newPerson_X3_init
set_option maxRecDepth 20000 in
theorem ggX10_newPerson_X0_init : GoodIn wsX10_newPerson wsX0_init := goodIn_r _ [125, 126, 106, 3, 107, 108, 109, 15, 110, 111, 112, 113, 114, 131, 128, 130, 132, 129] (by decide +kernel) (by decide +kernel)
set_option maxRecDepth 20000 in
theorem gX10_newPerson_X0_init : GoodIn wsX10_newPerson (wsX0_init) := ggX10_newPerson_X0_init
set_option maxRecDepth 20000 in
theorem ggX10_newPerson_X7_init : GoodIn wsX10_newPerson wsX7_init := goodIn_r _ [110, 111, 112, 113, 114, 131, 128, 130, 132, 129] (by decide +kernel) (by decide +kernel)
set_option maxRecDepth 20000 in
theorem gX10_newPerson_X7_init : GoodIn wsX10_newPerson (wsX7_init) := ggX10_newPerson_X7_init
theorem dX10_newPerson_0 : decode cX10_newPerson 0 = .ok (.ldc 43, 2) := by decide +kernel
theorem dX10_newPerson_2 : decode cX10_newPerson 2 = .ok (.iload_n 0, 1) := by decide +kernel
theorem dX10_newPerson_3 : decode cX10_newPerson 3 = .ok (.i2c, 1) := by decide +kernel
theorem dX10_newPerson_4 : decode cX10_newPerson 4 = .ok (.invokevirtual 45, 3) := by decide +kernel
theorem dX10_newPerson_7 : decode cX10_newPerson 7 = .ok (.tableswitch 65 1 4 #[29, 38, 47, 56], 29) := by decide +kernel
theorem dX10_newPerson_36 : decode cX10_newPerson 36 = .ok (.new 50, 3) := by decide +kernel
theorem dX10_newPerson_39 : decode cX10_newPerson 39 = .ok (.dup, 1) := by decide +kernel
theorem dX10_newPerson_40 : decode cX10_newPerson 40 = .ok (.iload_n 1, 1) := by decide +kernel
theorem dX10_newPerson_41 : decode cX10_newPerson 41 = .ok (.invokespecial 52, 3) := by decide +kernel
theorem dX10_newPerson_44 : decode cX10_newPerson 44 = .ok (.areturn, 1) := by decide +kernel
theorem dX10_newPerson_45 : decode cX10_newPerson 45 = .ok (.new 55, 3) := by decide +kernel
theorem dX10_newPerson_48 : decode cX10_newPerson 48 = .ok (.dup, 1) := by decide +kernel
theorem dX10_newPerson_49 : decode cX10_newPerson 49 = .ok (.iload_n 1, 1) := by decide +kernel
theorem dX10_newPerson_50 : decode cX10_newPerson 50 = .ok (.invokespecial 57, 3) := by decide +kernel
theorem dX10_newPerson_53 : decode cX10_newPerson 53 = .ok (.areturn, 1) := by decide +kernel
theorem dX10_newPerson_54 : decode cX10_newPerson 54 = .ok (.new 58, 3) := by decide +kernel
theorem dX10_newPerson_57 : decode cX10_newPerson 57 = .ok (.dup, 1) := by decide +kernel
theorem dX10_newPerson_58 : decode cX10_newPerson 58 = .ok (.iload_n 1, 1) := by decide +kernel
theorem dX10_newPerson_59 : decode cX10_newPerson 59 = .ok (.invokespecial 60, 3) := by decide +kernel
theorem dX10_newPerson_62 : decode cX10_newPerson 62 = .ok (.areturn, 1) := by decide +kernel
theorem dX10_newPerson_63 : decode cX10_newPerson 63 = .ok (.new 61, 3) := by decide +kernel
theorem dX10_newPerson_66 : decode cX10_newPerson 66 = .ok (.dup, 1) := by decide +kernel
theorem dX10_newPerson_67 : decode cX10_newPerson 67 = .ok (.iload_n 1, 1) := by decide +kernel
theorem dX10_newPerson_68 : decode cX10_newPerson 68 = .ok (.invokespecial 63, 3) := by decide +kernel
theorem dX10_newPerson_71 : decode cX10_newPerson 71 = .ok (.areturn, 1) := by decide +kernel
theorem dX10_newPerson_72 : decode cX10_newPerson 72 = .ok (.new 9, 3) := by decide +kernel
theorem dX10_newPerson_75 : decode cX10_newPerson 75 = .ok (.dup, 1) := by decide +kernel
theorem dX10_newPerson_76 : decode cX10_newPerson 76 = .ok (.iload_n 1, 1) := by decide +kernel
theorem dX10_newPerson_77 : decode cX10_newPerson 77 = .ok (.invokespecial 64, 3) := by decide +kernel
theorem dX10_newPerson_80 : decode cX10_newPerson 80 = .ok (.areturn, 1) := by decide +kernel
set_option maxRecDepth 20000 in
theorem ggX10_wouldPass_X6_holder : GoodIn wsX10_wouldPass wsX6_holder := goodIn_r _ [5, 6, 7, 30, 31] (by decide +kernel) (by decide +kernel)
set_option maxRecDepth 20000 in
theorem gX10_wouldPass_X6_holder : GoodIn wsX10_wouldPass (wsV RX10 65 RX6 yX6_holder wsX6_holder) := goodIn_app (goodIn_of _ (by decide +kernel)) ggX10_wouldPass_X6_holder
set_option maxRecDepth 20000 in
theorem ggX10_wouldPass_X10_one : GoodIn wsX10_wouldPass wsX10_one := goodIn_r _ [12, 13, 14, 32, 33, 34] (by decide +kernel) (by decide +kernel)
set_option maxRecDepth 20000 in
theorem gX10_wouldPass_X10_one : GoodIn wsX10_wouldPass (wsV RX10 70 RX10 yX10_one wsX10_one) := goodIn_app (goodIn_of _ (by decide +kernel)) ggX10_wouldPass_X10_one
set_option maxRecDepth 20000 in
theorem ggX10_wouldPass_X1_keepsPens : GoodIn wsX10_wouldPass wsX1_keepsPens := goodIn_r _ [21] (by decide +kernel) (by decide +kernel)
set_option maxRecDepth 20000 in
theorem gX10_wouldPass_X1_keepsPens_u74X0 : GoodIn wsX10_wouldPass (va_wsO RX10 74 RX0 "LentQuill$Person" ⟨"LentQuill$Person", "keepsPens", "()Z"⟩ yX1_keepsPens wsX1_keepsPens) := goodIn_app (goodIn_of _ (by decide +kernel)) ggX10_wouldPass_X1_keepsPens
set_option maxRecDepth 20000 in
theorem gX10_wouldPass_X1_keepsPens_u74X1 : GoodIn wsX10_wouldPass (va_wsO RX10 74 RX1 "LentQuill$Person" ⟨"LentQuill$Person", "keepsPens", "()Z"⟩ yX1_keepsPens wsX1_keepsPens) := goodIn_app (goodIn_of _ (by decide +kernel)) ggX10_wouldPass_X1_keepsPens
set_option maxRecDepth 20000 in
theorem ggX10_wouldPass_X7_keepsPens : GoodIn wsX10_wouldPass wsX7_keepsPens := goodIn_r _ [22] (by decide +kernel) (by decide +kernel)
set_option maxRecDepth 20000 in
theorem gX10_wouldPass_X7_keepsPens_u74X3 : GoodIn wsX10_wouldPass (va_wsU RX10 74 RX3 "LentQuill$Person" ⟨"LentQuill$Person", "keepsPens", "()Z"⟩ yX7_keepsPens wsX7_keepsPens) := goodIn_app (goodIn_of _ (by decide +kernel)) ggX10_wouldPass_X7_keepsPens
set_option maxRecDepth 20000 in
theorem gX10_wouldPass_X7_keepsPens : GoodIn wsX10_wouldPass (wsV RX10 74 RX7 yX7_keepsPens wsX7_keepsPens) := goodIn_app (goodIn_of _ (by decide +kernel)) ggX10_wouldPass_X7_keepsPens
set_option maxRecDepth 20000 in
theorem gX10_wouldPass_X7_keepsPens_u74X9 : GoodIn wsX10_wouldPass (va_wsU RX10 74 RX9 "LentQuill$Person" ⟨"LentQuill$Person", "keepsPens", "()Z"⟩ yX7_keepsPens wsX7_keepsPens) := goodIn_app (goodIn_of _ (by decide +kernel)) ggX10_wouldPass_X7_keepsPens
theorem dX10_wouldPass_0 : decode cX10_wouldPass 0 = .ok (.aload_n 0, 1) := by decide +kernel
theorem dX10_wouldPass_1 : decode cX10_wouldPass 1 = .ok (.aload_n 1, 1) := by decide +kernel
theorem dX10_wouldPass_2 : decode cX10_wouldPass 2 = .ok (.invokevirtual 65, 3) := by decide +kernel
theorem dX10_wouldPass_5 : decode cX10_wouldPass 5 = .ok (.invokevirtual 70, 3) := by decide +kernel
theorem dX10_wouldPass_8 : decode cX10_wouldPass 8 = .ok (.astore_n 3, 1) := by decide +kernel
theorem dX10_wouldPass_9 : decode cX10_wouldPass 9 = .ok (.aload_n 3, 1) := by decide +kernel
theorem dX10_wouldPass_10 : decode cX10_wouldPass 10 = .ok (.ifnull 22, 3) := by decide +kernel
theorem dX10_wouldPass_13 : decode cX10_wouldPass 13 = .ok (.aload_n 3, 1) := by decide +kernel
theorem dX10_wouldPass_14 : decode cX10_wouldPass 14 = .ok (.invokevirtual 74, 3) := by decide +kernel
theorem dX10_wouldPass_17 : decode cX10_wouldPass 17 = .ok (.ifCond .ne 15, 3) := by decide +kernel
theorem dX10_wouldPass_20 : decode cX10_wouldPass 20 = .ok (.aload_n 1, 1) := by decide +kernel
theorem dX10_wouldPass_21 : decode cX10_wouldPass 21 = .ok (.invokevirtual 65, 3) := by decide +kernel
theorem dX10_wouldPass_24 : decode cX10_wouldPass 24 = .ok (.iload_n 2, 1) := by decide +kernel
theorem dX10_wouldPass_25 : decode cX10_wouldPass 25 = .ok (.if_icmp .eq 7, 3) := by decide +kernel
theorem dX10_wouldPass_28 : decode cX10_wouldPass 28 = .ok (.iconst 1, 1) := by decide +kernel
theorem dX10_wouldPass_29 : decode cX10_wouldPass 29 = .ok (.goto 4, 3) := by decide +kernel
theorem dX10_wouldPass_32 : decode cX10_wouldPass 32 = .ok (.iconst 0, 1) := by decide +kernel
theorem dX10_wouldPass_33 : decode cX10_wouldPass 33 = .ok (.ireturn, 1) := by decide +kernel
set_option maxRecDepth 20000 in
theorem ggX10_canBeLent_X10_wouldPass : GoodIn wsX10_canBeLent wsX10_wouldPass := goodIn_r _ [5, 6, 7, 8, 9, 10, 11, 12, 13, 14, 15, 4, 16, 17, 18, 19, 20, 21, 22, 23, 24, 25, 26, 27, 28, 29, 30, 31, 32, 33, 38, 39, 40, 41, 42] (by decide +kernel) (by decide +kernel)
set_option maxRecDepth 20000 in
theorem gX10_canBeLent_X10_wouldPass : GoodIn wsX10_canBeLent (wsV RX10 78 RX10 yX10_wouldPass wsX10_wouldPass) := goodIn_app (goodIn_of _ (by decide +kernel)) ggX10_canBeLent_X10_wouldPass
set_option maxRecDepth 20000 in
theorem ggX10_canBeLent_X6_isLentOut : GoodIn wsX10_canBeLent wsX6_isLentOut := goodIn_r _ [37, 11, 38, 39] (by decide +kernel) (by decide +kernel)
set_option maxRecDepth 20000 in
theorem gX10_canBeLent_X6_isLentOut : GoodIn wsX10_canBeLent (wsV RX10 82 RX6 yX6_isLentOut wsX6_isLentOut) := goodIn_app (goodIn_of _ (by decide +kernel)) ggX10_canBeLent_X6_isLentOut
theorem dX10_canBeLent_0 : decode cX10_canBeLent 0 = .ok (.aload_n 0, 1) := by decide +kernel
theorem dX10_canBeLent_1 : decode cX10_canBeLent 1 = .ok (.aload_n 1, 1) := by decide +kernel
theorem dX10_canBeLent_2 : decode cX10_canBeLent 2 = .ok (.iload_n 2, 1) := by decide +kernel
theorem dX10_canBeLent_3 : decode cX10_canBeLent 3 = .ok (.invokevirtual 78, 3) := by decide +kernel
theorem dX10_canBeLent_6 : decode cX10_canBeLent 6 = .ok (.ifCond .eq 14, 3) := by decide +kernel
theorem dX10_canBeLent_9 : decode cX10_canBeLent 9 = .ok (.aload_n 1, 1) := by decide +kernel
theorem dX10_canBeLent_10 : decode cX10_canBeLent 10 = .ok (.invokevirtual 82, 3) := by decide +kernel
theorem dX10_canBeLent_13 : decode cX10_canBeLent 13 = .ok (.ifCond .ne 7, 3) := by decide +kernel
theorem dX10_canBeLent_16 : decode cX10_canBeLent 16 = .ok (.iconst 1, 1) := by decide +kernel
theorem dX10_canBeLent_17 : decode cX10_canBeLent 17 = .ok (.goto 4, 3) := by decide +kernel
theorem dX10_canBeLent_20 : decode cX10_canBeLent 20 = .ok (.iconst 0, 1) := by decide +kernel
theorem dX10_canBeLent_21 : decode cX10_canBeLent 21 = .ok (.ireturn, 1) := by decide +kernel
set_option maxRecDepth 20000 in
theorem ggX10_boundBy_X6_timesLent : GoodIn wsX10_boundBy wsX6_timesLent := goodIn_r _ [6, 7, 62, 63] (by decide +kernel) (by decide +kernel)
set_option maxRecDepth 20000 in
theorem gX10_boundBy_X6_timesLent : GoodIn wsX10_boundBy (wsV RX10 85 RX6 yX6_timesLent wsX6_timesLent) := goodIn_app (goodIn_of _ (by decide +kernel)) ggX10_boundBy_X6_timesLent
set_option maxRecDepth 20000 in
theorem ggX10_boundBy_J6_bitCount_0f7a4 : GoodIn wsX10_boundBy wsJ6_bitCount_0f7a4 := goodIn_r _ [11, 12, 13, 14] (by decide +kernel) (by decide +kernel)
set_option maxRecDepth 20000 in
theorem gX10_boundBy_J6_bitCount_0f7a4 : GoodIn wsX10_boundBy (va_wsS RX10 88 yJ6_bitCount_0f7a4 wsJ6_bitCount_0f7a4) := goodIn_app (goodIn_of _ (by decide +kernel)) ggX10_boundBy_J6_bitCount_0f7a4
set_option maxRecDepth 20000 in
theorem ggX10_boundBy_X6_holderBefore : GoodIn wsX10_boundBy wsX6_holderBefore := goodIn_r _ [18, 7, 19, 62, 63] (by decide +kernel) (by decide +kernel)
set_option maxRecDepth 20000 in
theorem gX10_boundBy_X6_holderBefore : GoodIn wsX10_boundBy (wsV RX10 93 RX6 yX6_holderBefore wsX6_holderBefore) := goodIn_app (goodIn_of _ (by decide +kernel)) ggX10_boundBy_X6_holderBefore
set_option maxRecDepth 20000 in
theorem ggX10_boundBy_X10_one : GoodIn wsX10_boundBy wsX10_one := goodIn_r _ [24, 25, 26, 59, 60, 61] (by decide +kernel) (by decide +kernel)
set_option maxRecDepth 20000 in
theorem gX10_boundBy_X10_one : GoodIn wsX10_boundBy (wsV RX10 70 RX10 yX10_one wsX10_one) := goodIn_app (goodIn_of _ (by decide +kernel)) ggX10_boundBy_X10_one
set_option maxRecDepth 20000 in
theorem ggX10_boundBy_X11_holds : GoodIn wsX10_boundBy wsX11_holds := goodIn_r _ [29] (by decide +kernel) (by decide +kernel)
set_option maxRecDepth 20000 in
theorem gX10_boundBy_X11_holds_n96 : GoodIn wsX10_boundBy (wsX11_holds) := ggX10_boundBy_X11_holds
set_option maxRecDepth 20000 in
theorem ggX10_boundBy_X7_canBeBound : GoodIn wsX10_boundBy wsX7_canBeBound := goodIn_r _ [35] (by decide +kernel) (by decide +kernel)
set_option maxRecDepth 20000 in
theorem gX10_boundBy_X7_canBeBound_u100X0 : GoodIn wsX10_boundBy (va_wsU RX10 100 RX0 "LentQuill$Person" ⟨"LentQuill$Person", "canBeBound", "()Z"⟩ yX7_canBeBound wsX7_canBeBound) := goodIn_app (goodIn_of _ (by decide +kernel)) ggX10_boundBy_X7_canBeBound
set_option maxRecDepth 20000 in
theorem gX10_boundBy_X7_canBeBound_u100X1 : GoodIn wsX10_boundBy (va_wsU RX10 100 RX1 "LentQuill$Person" ⟨"LentQuill$Person", "canBeBound", "()Z"⟩ yX7_canBeBound wsX7_canBeBound) := goodIn_app (goodIn_of _ (by decide +kernel)) ggX10_boundBy_X7_canBeBound
set_option maxRecDepth 20000 in
theorem ggX10_boundBy_X3_canBeBound : GoodIn wsX10_boundBy wsX3_canBeBound := goodIn_r _ [41] (by decide +kernel) (by decide +kernel)
set_option maxRecDepth 20000 in
theorem gX10_boundBy_X3_canBeBound_u100X3 : GoodIn wsX10_boundBy (va_wsO RX10 100 RX3 "LentQuill$Person" ⟨"LentQuill$Person", "canBeBound", "()Z"⟩ yX3_canBeBound wsX3_canBeBound) := goodIn_app (goodIn_of _ (by decide +kernel)) ggX10_boundBy_X3_canBeBound
set_option maxRecDepth 20000 in
theorem gX10_boundBy_X7_canBeBound : GoodIn wsX10_boundBy (wsV RX10 100 RX7 yX7_canBeBound wsX7_canBeBound) := goodIn_app (goodIn_of _ (by decide +kernel)) ggX10_boundBy_X7_canBeBound
set_option maxRecDepth 20000 in
theorem gX10_boundBy_X7_canBeBound_u100X9 : GoodIn wsX10_boundBy (va_wsU RX10 100 RX9 "LentQuill$Person" ⟨"LentQuill$Person", "canBeBound", "()Z"⟩ yX7_canBeBound wsX7_canBeBound) := goodIn_app (goodIn_of _ (by decide +kernel)) ggX10_boundBy_X7_canBeBound
set_option maxRecDepth 20000 in
theorem ggX10_boundBy_X7_endsTheRow : GoodIn wsX10_boundBy wsX7_endsTheRow := goodIn_r _ [49] (by decide +kernel) (by decide +kernel)
set_option maxRecDepth 20000 in
theorem gX10_boundBy_X7_endsTheRow_u103X0 : GoodIn wsX10_boundBy (va_wsU RX10 103 RX0 "LentQuill$Person" ⟨"LentQuill$Person", "endsTheRow", "()Z"⟩ yX7_endsTheRow wsX7_endsTheRow) := goodIn_app (goodIn_of _ (by decide +kernel)) ggX10_boundBy_X7_endsTheRow
set_option maxRecDepth 20000 in
theorem gX10_boundBy_X7_endsTheRow_u103X1 : GoodIn wsX10_boundBy (va_wsU RX10 103 RX1 "LentQuill$Person" ⟨"LentQuill$Person", "endsTheRow", "()Z"⟩ yX7_endsTheRow wsX7_endsTheRow) := goodIn_app (goodIn_of _ (by decide +kernel)) ggX10_boundBy_X7_endsTheRow
set_option maxRecDepth 20000 in
theorem gX10_boundBy_X7_endsTheRow_u103X3 : GoodIn wsX10_boundBy (va_wsU RX10 103 RX3 "LentQuill$Person" ⟨"LentQuill$Person", "endsTheRow", "()Z"⟩ yX7_endsTheRow wsX7_endsTheRow) := goodIn_app (goodIn_of _ (by decide +kernel)) ggX10_boundBy_X7_endsTheRow
set_option maxRecDepth 20000 in
theorem gX10_boundBy_X7_endsTheRow : GoodIn wsX10_boundBy (wsV RX10 103 RX7 yX7_endsTheRow wsX7_endsTheRow) := goodIn_app (goodIn_of _ (by decide +kernel)) ggX10_boundBy_X7_endsTheRow
set_option maxRecDepth 20000 in
theorem ggX10_boundBy_X9_endsTheRow : GoodIn wsX10_boundBy wsX9_endsTheRow := goodIn_r _ [58] (by decide +kernel) (by decide +kernel)
set_option maxRecDepth 20000 in
theorem gX10_boundBy_X9_endsTheRow_u103X9 : GoodIn wsX10_boundBy (va_wsO RX10 103 RX9 "LentQuill$Person" ⟨"LentQuill$Person", "endsTheRow", "()Z"⟩ yX9_endsTheRow wsX9_endsTheRow) := goodIn_app (goodIn_of _ (by decide +kernel)) ggX10_boundBy_X9_endsTheRow
theorem dX10_boundBy_0 : decode cX10_boundBy 0 = .ok (.iconst 0, 1) := by decide +kernel
theorem dX10_boundBy_1 : decode cX10_boundBy 1 = .ok (.istore_n 2, 1) := by decide +kernel
theorem dX10_boundBy_2 : decode cX10_boundBy 2 = .ok (.iconst 0, 1) := by decide +kernel
theorem dX10_boundBy_3 : decode cX10_boundBy 3 = .ok (.istore_n 3, 1) := by decide +kernel
theorem dX10_boundBy_4 : decode cX10_boundBy 4 = .ok (.iconst 0, 1) := by decide +kernel
theorem dX10_boundBy_5 : decode cX10_boundBy 5 = .ok (.istore 4, 2) := by decide +kernel
theorem dX10_boundBy_7 : decode cX10_boundBy 7 = .ok (.iload 4, 2) := by decide +kernel
theorem dX10_boundBy_9 : decode cX10_boundBy 9 = .ok (.aload_n 1, 1) := by decide +kernel
theorem dX10_boundBy_10 : decode cX10_boundBy 10 = .ok (.invokevirtual 85, 3) := by decide +kernel
theorem dX10_boundBy_13 : decode cX10_boundBy 13 = .ok (.if_icmp .gt 86, 3) := by decide +kernel
theorem dX10_boundBy_16 : decode cX10_boundBy 16 = .ok (.iload_n 2, 1) := by decide +kernel
theorem dX10_boundBy_17 : decode cX10_boundBy 17 = .ok (.invokestatic 88, 3) := by decide +kernel
theorem dX10_boundBy_20 : decode cX10_boundBy 20 = .ok (.aload_n 0, 1) := by decide +kernel
theorem dX10_boundBy_21 : decode cX10_boundBy 21 = .ok (.getfield 21, 3) := by decide +kernel
theorem dX10_boundBy_24 : decode cX10_boundBy 24 = .ok (.if_icmp .ge 75, 3) := by decide +kernel
theorem dX10_boundBy_27 : decode cX10_boundBy 27 = .ok (.aload_n 1, 1) := by decide +kernel
theorem dX10_boundBy_28 : decode cX10_boundBy 28 = .ok (.iload 4, 2) := by decide +kernel
theorem dX10_boundBy_30 : decode cX10_boundBy 30 = .ok (.invokevirtual 93, 3) := by decide +kernel
theorem dX10_boundBy_33 : decode cX10_boundBy 33 = .ok (.istore 5, 2) := by decide +kernel
theorem dX10_boundBy_35 : decode cX10_boundBy 35 = .ok (.aload_n 0, 1) := by decide +kernel
theorem dX10_boundBy_36 : decode cX10_boundBy 36 = .ok (.iload 5, 2) := by decide +kernel
theorem dX10_boundBy_38 : decode cX10_boundBy 38 = .ok (.invokevirtual 70, 3) := by decide +kernel
theorem dX10_boundBy_41 : decode cX10_boundBy 41 = .ok (.astore 6, 2) := by decide +kernel
theorem dX10_boundBy_43 : decode cX10_boundBy 43 = .ok (.aload 6, 2) := by decide +kernel
theorem dX10_boundBy_45 : decode cX10_boundBy 45 = .ok (.ifnull 48, 3) := by decide +kernel
theorem dX10_boundBy_48 : decode cX10_boundBy 48 = .ok (.iload_n 2, 1) := by decide +kernel
theorem dX10_boundBy_49 : decode cX10_boundBy 49 = .ok (.iload 5, 2) := by decide +kernel
theorem dX10_boundBy_51 : decode cX10_boundBy 51 = .ok (.invokestatic 96, 3) := by decide +kernel
theorem dX10_boundBy_54 : decode cX10_boundBy 54 = .ok (.ifCond .eq 6, 3) := by decide +kernel
theorem dX10_boundBy_57 : decode cX10_boundBy 57 = .ok (.goto 36, 3) := by decide +kernel
theorem dX10_boundBy_60 : decode cX10_boundBy 60 = .ok (.iload_n 2, 1) := by decide +kernel
theorem dX10_boundBy_61 : decode cX10_boundBy 61 = .ok (.iconst 1, 1) := by decide +kernel
theorem dX10_boundBy_62 : decode cX10_boundBy 62 = .ok (.iload 5, 2) := by decide +kernel
theorem dX10_boundBy_64 : decode cX10_boundBy 64 = .ok (.ishl, 1) := by decide +kernel
theorem dX10_boundBy_65 : decode cX10_boundBy 65 = .ok (.ior, 1) := by decide +kernel
theorem dX10_boundBy_66 : decode cX10_boundBy 66 = .ok (.istore_n 2, 1) := by decide +kernel
theorem dX10_boundBy_67 : decode cX10_boundBy 67 = .ok (.aload 6, 2) := by decide +kernel
theorem dX10_boundBy_69 : decode cX10_boundBy 69 = .ok (.invokevirtual 100, 3) := by decide +kernel
theorem dX10_boundBy_72 : decode cX10_boundBy 72 = .ok (.ifCond .eq 10, 3) := by decide +kernel
theorem dX10_boundBy_75 : decode cX10_boundBy 75 = .ok (.iload_n 3, 1) := by decide +kernel
theorem dX10_boundBy_76 : decode cX10_boundBy 76 = .ok (.iconst 1, 1) := by decide +kernel
theorem dX10_boundBy_77 : decode cX10_boundBy 77 = .ok (.iload 5, 2) := by decide +kernel
theorem dX10_boundBy_79 : decode cX10_boundBy 79 = .ok (.ishl, 1) := by decide +kernel
theorem dX10_boundBy_80 : decode cX10_boundBy 80 = .ok (.ior, 1) := by decide +kernel
theorem dX10_boundBy_81 : decode cX10_boundBy 81 = .ok (.istore_n 3, 1) := by decide +kernel
theorem dX10_boundBy_82 : decode cX10_boundBy 82 = .ok (.aload 6, 2) := by decide +kernel
theorem dX10_boundBy_84 : decode cX10_boundBy 84 = .ok (.invokevirtual 103, 3) := by decide +kernel
theorem dX10_boundBy_87 : decode cX10_boundBy 87 = .ok (.ifCond .eq 6, 3) := by decide +kernel
theorem dX10_boundBy_90 : decode cX10_boundBy 90 = .ok (.goto 9, 3) := by decide +kernel
theorem dX10_boundBy_93 : decode cX10_boundBy 93 = .ok (.iinc 4 1, 3) := by decide +kernel
theorem dX10_boundBy_96 : decode cX10_boundBy 96 = .ok (.goto (-89), 3) := by decide +kernel
theorem dX10_boundBy_99 : decode cX10_boundBy 99 = .ok (.iload_n 3, 1) := by decide +kernel
theorem dX10_boundBy_100 : decode cX10_boundBy 100 = .ok (.ireturn, 1) := by decide +kernel
set_option maxRecDepth 20000 in
theorem ggX10_worthOf_X10_one : GoodIn wsX10_worthOf wsX10_one := goodIn_r _ [6, 1, 7, 27, 28, 29] (by decide +kernel) (by decide +kernel)
set_option maxRecDepth 20000 in
theorem gX10_worthOf_X10_one : GoodIn wsX10_worthOf (wsV RX10 70 RX10 yX10_one wsX10_one) := goodIn_app (goodIn_of _ (by decide +kernel)) ggX10_worthOf_X10_one
set_option maxRecDepth 20000 in
theorem ggX10_worthOf_X11_holds : GoodIn wsX10_worthOf wsX11_holds := goodIn_r _ [10] (by decide +kernel) (by decide +kernel)
set_option maxRecDepth 20000 in
theorem gX10_worthOf_X11_holds_n96 : GoodIn wsX10_worthOf (wsX11_holds) := ggX10_worthOf_X11_holds
set_option maxRecDepth 20000 in
theorem ggX10_worthOf_X0_worth : GoodIn wsX10_worthOf wsX0_worth := goodIn_r _ [17] (by decide +kernel) (by decide +kernel)
set_option maxRecDepth 20000 in
theorem gX10_worthOf_X0_worth_u106X0 : GoodIn wsX10_worthOf (va_wsO RX10 106 RX0 "LentQuill$Person" ⟨"LentQuill$Person", "worth", "()I"⟩ yX0_worth wsX0_worth) := goodIn_app (goodIn_of _ (by decide +kernel)) ggX10_worthOf_X0_worth
set_option maxRecDepth 20000 in
theorem ggX10_worthOf_X7_worth : GoodIn wsX10_worthOf wsX7_worth := goodIn_r _ [18, 22, 30, 31, 32, 33, 34] (by decide +kernel) (by decide +kernel)
set_option maxRecDepth 20000 in
theorem gX10_worthOf_X7_worth_u106X1 : GoodIn wsX10_worthOf (va_wsU RX10 106 RX1 "LentQuill$Person" ⟨"LentQuill$Person", "worth", "()I"⟩ yX7_worth wsX7_worth) := goodIn_app (goodIn_of _ (by decide +kernel)) ggX10_worthOf_X7_worth
set_option maxRecDepth 20000 in
theorem gX10_worthOf_X7_worth_u106X3 : GoodIn wsX10_worthOf (va_wsU RX10 106 RX3 "LentQuill$Person" ⟨"LentQuill$Person", "worth", "()I"⟩ yX7_worth wsX7_worth) := goodIn_app (goodIn_of _ (by decide +kernel)) ggX10_worthOf_X7_worth
set_option maxRecDepth 20000 in
theorem gX10_worthOf_X7_worth : GoodIn wsX10_worthOf (wsV RX10 106 RX7 yX7_worth wsX7_worth) := goodIn_app (goodIn_of _ (by decide +kernel)) ggX10_worthOf_X7_worth
set_option maxRecDepth 20000 in
theorem gX10_worthOf_X7_worth_u106X9 : GoodIn wsX10_worthOf (va_wsU RX10 106 RX9 "LentQuill$Person" ⟨"LentQuill$Person", "worth", "()I"⟩ yX7_worth wsX7_worth) := goodIn_app (goodIn_of _ (by decide +kernel)) ggX10_worthOf_X7_worth
theorem dX10_worthOf_0 : decode cX10_worthOf 0 = .ok (.iconst 0, 1) := by decide +kernel
theorem dX10_worthOf_1 : decode cX10_worthOf 1 = .ok (.istore_n 2, 1) := by decide +kernel
theorem dX10_worthOf_2 : decode cX10_worthOf 2 = .ok (.iconst 0, 1) := by decide +kernel
theorem dX10_worthOf_3 : decode cX10_worthOf 3 = .ok (.istore_n 3, 1) := by decide +kernel
theorem dX10_worthOf_4 : decode cX10_worthOf 4 = .ok (.iload_n 3, 1) := by decide +kernel
theorem dX10_worthOf_5 : decode cX10_worthOf 5 = .ok (.aload_n 0, 1) := by decide +kernel
theorem dX10_worthOf_6 : decode cX10_worthOf 6 = .ok (.getfield 17, 3) := by decide +kernel
theorem dX10_worthOf_9 : decode cX10_worthOf 9 = .ok (.if_icmp .ge 37, 3) := by decide +kernel
theorem dX10_worthOf_12 : decode cX10_worthOf 12 = .ok (.aload_n 0, 1) := by decide +kernel
theorem dX10_worthOf_13 : decode cX10_worthOf 13 = .ok (.iload_n 3, 1) := by decide +kernel
theorem dX10_worthOf_14 : decode cX10_worthOf 14 = .ok (.invokevirtual 70, 3) := by decide +kernel
theorem dX10_worthOf_17 : decode cX10_worthOf 17 = .ok (.astore 4, 2) := by decide +kernel
theorem dX10_worthOf_19 : decode cX10_worthOf 19 = .ok (.aload 4, 2) := by decide +kernel
theorem dX10_worthOf_21 : decode cX10_worthOf 21 = .ok (.ifnull 19, 3) := by decide +kernel
theorem dX10_worthOf_24 : decode cX10_worthOf 24 = .ok (.iload_n 1, 1) := by decide +kernel
theorem dX10_worthOf_25 : decode cX10_worthOf 25 = .ok (.iload_n 3, 1) := by decide +kernel
theorem dX10_worthOf_26 : decode cX10_worthOf 26 = .ok (.invokestatic 96, 3) := by decide +kernel
theorem dX10_worthOf_29 : decode cX10_worthOf 29 = .ok (.ifCond .eq 11, 3) := by decide +kernel
theorem dX10_worthOf_32 : decode cX10_worthOf 32 = .ok (.iload_n 2, 1) := by decide +kernel
theorem dX10_worthOf_33 : decode cX10_worthOf 33 = .ok (.aload 4, 2) := by decide +kernel
theorem dX10_worthOf_35 : decode cX10_worthOf 35 = .ok (.invokevirtual 106, 3) := by decide +kernel
theorem dX10_worthOf_38 : decode cX10_worthOf 38 = .ok (.iadd, 1) := by decide +kernel
theorem dX10_worthOf_39 : decode cX10_worthOf 39 = .ok (.istore_n 2, 1) := by decide +kernel
theorem dX10_worthOf_40 : decode cX10_worthOf 40 = .ok (.iinc 3 1, 3) := by decide +kernel
theorem dX10_worthOf_43 : decode cX10_worthOf 43 = .ok (.goto (-39), 3) := by decide +kernel
theorem dX10_worthOf_46 : decode cX10_worthOf 46 = .ok (.iload_n 2, 1) := by decide +kernel
theorem dX10_worthOf_47 : decode cX10_worthOf 47 = .ok (.ireturn, 1) := by decide +kernel
set_option maxRecDepth 20000 in
theorem ggX11_init_X5_init : GoodIn wsX11_init wsX5_init := goodIn_r _ [26, 27, 2, 3, 28, 29, 61, 62] (by decide +kernel) (by decide +kernel)
set_option maxRecDepth 20000 in
theorem gX11_init_X5_init_n9 : GoodIn wsX11_init (wsX5_init) := ggX11_init_X5_init
set_option maxRecDepth 20000 in
theorem ggX11_init_X10_init : GoodIn wsX11_init wsX10_init := goodIn_r _ [31, 32, 2, 3, 33, 34, 72, 73, 74] (by decide +kernel) (by decide +kernel)
set_option maxRecDepth 20000 in
theorem gX11_init_X10_init_n18 : GoodIn wsX11_init (wsX10_init) := ggX11_init_X10_init
set_option maxRecDepth 20000 in
theorem ggX11_init_X2_init : GoodIn wsX11_init wsX2_init := goodIn_r _ [37, 38, 2, 3, 39, 40, 28, 41, 42, 43, 44, 45, 46, 47, 48, 75, 76, 77, 78, 79, 80, 81, 92, 93] (by decide +kernel) (by decide +kernel)
set_option maxRecDepth 20000 in
theorem gX11_init_X2_init : GoodIn wsX11_init (wsX2_init) := ggX11_init_X2_init
set_option maxRecDepth 20000 in
theorem ggX11_init_X8_init : GoodIn wsX11_init wsX8_init := goodIn_r _ [50, 51, 2, 3, 52, 43, 44, 53, 28, 54, 45, 46, 47, 48, 92, 93, 82, 83, 84, 85, 86, 87] (by decide +kernel) (by decide +kernel)
set_option maxRecDepth 20000 in
theorem gX11_init_X8_init_n35 : GoodIn wsX11_init (wsX8_init) := ggX11_init_X8_init
set_option maxRecDepth 20000 in
theorem ggX11_init_X4_init : GoodIn wsX11_init wsX4_init := goodIn_r _ [56, 57, 2, 3, 58, 13, 14, 59, 60, 36, 37, 38, 39, 40, 28, 41, 42, 43, 44, 45, 46, 47, 48, 75, 76, 77, 78, 79, 80, 81, 88, 89, 90, 91, 92, 93] (by decide +kernel) (by decide +kernel)
set_option maxRecDepth 20000 in
theorem gX11_init_X4_init_n42 : GoodIn wsX11_init (wsX4_init) := ggX11_init_X4_init
theorem dX11_init_0 : decode cX11_init 0 = .ok (.aload_n 0, 1) := by decide +kernel
theorem dX11_init_1 : decode cX11_init 1 = .ok (.invokespecial 1, 3) := by decide +kernel
theorem dX11_init_4 : decode cX11_init 4 = .ok (.aload_n 0, 1) := by decide +kernel
theorem dX11_init_5 : decode cX11_init 5 = .ok (.new 7, 3) := by decide +kernel
theorem dX11_init_8 : decode cX11_init 8 = .ok (.dup, 1) := by decide +kernel
theorem dX11_init_9 : decode cX11_init 9 = .ok (.invokespecial 9, 3) := by decide +kernel
theorem dX11_init_12 : decode cX11_init 12 = .ok (.putfield 10, 3) := by decide +kernel
theorem dX11_init_15 : decode cX11_init 15 = .ok (.aload_n 0, 1) := by decide +kernel
theorem dX11_init_16 : decode cX11_init 16 = .ok (.new 16, 3) := by decide +kernel
theorem dX11_init_19 : decode cX11_init 19 = .ok (.dup, 1) := by decide +kernel
theorem dX11_init_20 : decode cX11_init 20 = .ok (.invokespecial 18, 3) := by decide +kernel
theorem dX11_init_23 : decode cX11_init 23 = .ok (.putfield 19, 3) := by decide +kernel
theorem dX11_init_26 : decode cX11_init 26 = .ok (.aload_n 0, 1) := by decide +kernel
theorem dX11_init_27 : decode cX11_init 27 = .ok (.new 23, 3) := by decide +kernel
theorem dX11_init_30 : decode cX11_init 30 = .ok (.dup, 1) := by decide +kernel
theorem dX11_init_31 : decode cX11_init 31 = .ok (.invokespecial 25, 3) := by decide +kernel
theorem dX11_init_34 : decode cX11_init 34 = .ok (.putfield 26, 3) := by decide +kernel
theorem dX11_init_37 : decode cX11_init 37 = .ok (.aload_n 0, 1) := by decide +kernel
theorem dX11_init_38 : decode cX11_init 38 = .ok (.new 23, 3) := by decide +kernel
theorem dX11_init_41 : decode cX11_init 41 = .ok (.dup, 1) := by decide +kernel
theorem dX11_init_42 : decode cX11_init 42 = .ok (.invokespecial 25, 3) := by decide +kernel
theorem dX11_init_45 : decode cX11_init 45 = .ok (.putfield 30, 3) := by decide +kernel
theorem dX11_init_48 : decode cX11_init 48 = .ok (.aload_n 0, 1) := by decide +kernel
theorem dX11_init_49 : decode cX11_init 49 = .ok (.new 33, 3) := by decide +kernel
theorem dX11_init_52 : decode cX11_init 52 = .ok (.dup, 1) := by decide +kernel
theorem dX11_init_53 : decode cX11_init 53 = .ok (.invokespecial 35, 3) := by decide +kernel
theorem dX11_init_56 : decode cX11_init 56 = .ok (.putfield 36, 3) := by decide +kernel
theorem dX11_init_59 : decode cX11_init 59 = .ok (.aload_n 0, 1) := by decide +kernel
theorem dX11_init_60 : decode cX11_init 60 = .ok (.new 40, 3) := by decide +kernel
theorem dX11_init_63 : decode cX11_init 63 = .ok (.dup, 1) := by decide +kernel
theorem dX11_init_64 : decode cX11_init 64 = .ok (.invokespecial 42, 3) := by decide +kernel
theorem dX11_init_67 : decode cX11_init 67 = .ok (.putfield 43, 3) := by decide +kernel
theorem dX11_init_70 : decode cX11_init 70 = .ok (.return_, 1) := by decide +kernel
set_option maxRecDepth 20000 in
theorem ggX11_letter_X5_add : GoodIn wsX11_letter wsX5_add := goodIn_r _ [6, 7, 8, 22, 23] (by decide +kernel) (by decide +kernel)
set_option maxRecDepth 20000 in
theorem gX11_letter_X5_add : GoodIn wsX11_letter (wsV RX11 47 RX5 yX5_add wsX5_add) := goodIn_app (goodIn_of _ (by decide +kernel)) ggX11_letter_X5_add
set_option maxRecDepth 20000 in
theorem ggX11_letter_X5_size : GoodIn wsX11_letter wsX5_size := goodIn_r _ [12, 7, 22, 23] (by decide +kernel) (by decide +kernel)
set_option maxRecDepth 20000 in
theorem gX11_letter_X5_size : GoodIn wsX11_letter (wsV RX11 51 RX5 yX5_size wsX5_size) := goodIn_app (goodIn_of _ (by decide +kernel)) ggX11_letter_X5_size
theorem dX11_letter_0 : decode cX11_letter 0 = .ok (.iload_n 1, 1) := by decide +kernel
theorem dX11_letter_1 : decode cX11_letter 1 = .ok (.bipush 32, 2) := by decide +kernel
theorem dX11_letter_3 : decode cX11_letter 3 = .ok (.if_icmp .lt 9, 3) := by decide +kernel
theorem dX11_letter_6 : decode cX11_letter 6 = .ok (.iload_n 1, 1) := by decide +kernel
theorem dX11_letter_7 : decode cX11_letter 7 = .ok (.bipush 126, 2) := by decide +kernel
theorem dX11_letter_9 : decode cX11_letter 9 = .ok (.if_icmp .le 6, 3) := by decide +kernel
theorem dX11_letter_12 : decode cX11_letter 12 = .ok (.bipush (-102), 2) := by decide +kernel
theorem dX11_letter_14 : decode cX11_letter 14 = .ok (.ireturn, 1) := by decide +kernel
theorem dX11_letter_15 : decode cX11_letter 15 = .ok (.aload_n 0, 1) := by decide +kernel
theorem dX11_letter_16 : decode cX11_letter 16 = .ok (.getfield 10, 3) := by decide +kernel
theorem dX11_letter_19 : decode cX11_letter 19 = .ok (.iload_n 1, 1) := by decide +kernel
theorem dX11_letter_20 : decode cX11_letter 20 = .ok (.invokevirtual 47, 3) := by decide +kernel
theorem dX11_letter_23 : decode cX11_letter 23 = .ok (.ifCond .eq 13, 3) := by decide +kernel
theorem dX11_letter_26 : decode cX11_letter 26 = .ok (.aload_n 0, 1) := by decide +kernel
theorem dX11_letter_27 : decode cX11_letter 27 = .ok (.getfield 10, 3) := by decide +kernel
theorem dX11_letter_30 : decode cX11_letter 30 = .ok (.invokevirtual 51, 3) := by decide +kernel
theorem dX11_letter_33 : decode cX11_letter 33 = .ok (.goto 5, 3) := by decide +kernel
theorem dX11_letter_36 : decode cX11_letter 36 = .ok (.bipush (-104), 2) := by decide +kernel
theorem dX11_letter_38 : decode cX11_letter 38 = .ok (.ireturn, 1) := by decide +kernel
set_option maxRecDepth 20000 in
theorem ggX11_blank_X5_size : GoodIn wsX11_blank wsX5_size := goodIn_r _ [6, 7, 21, 22] (by decide +kernel) (by decide +kernel)
set_option maxRecDepth 20000 in
theorem gX11_blank_X5_size : GoodIn wsX11_blank (wsV RX11 51 RX5 yX5_size wsX5_size) := goodIn_app (goodIn_of _ (by decide +kernel)) ggX11_blank_X5_size
set_option maxRecDepth 20000 in
theorem ggX11_blank_X5_clear : GoodIn wsX11_blank wsX5_clear := goodIn_r _ [11, 7, 21, 22] (by decide +kernel) (by decide +kernel)
set_option maxRecDepth 20000 in
theorem gX11_blank_X5_clear : GoodIn wsX11_blank (wsV RX11 55 RX5 yX5_clear wsX5_clear) := goodIn_app (goodIn_of _ (by decide +kernel)) ggX11_blank_X5_clear
theorem dX11_blank_0 : decode cX11_blank 0 = .ok (.aload_n 0, 1) := by decide +kernel
theorem dX11_blank_1 : decode cX11_blank 1 = .ok (.getfield 10, 3) := by decide +kernel
theorem dX11_blank_4 : decode cX11_blank 4 = .ok (.invokevirtual 51, 3) := by decide +kernel
theorem dX11_blank_7 : decode cX11_blank 7 = .ok (.istore_n 1, 1) := by decide +kernel
theorem dX11_blank_8 : decode cX11_blank 8 = .ok (.aload_n 0, 1) := by decide +kernel
theorem dX11_blank_9 : decode cX11_blank 9 = .ok (.getfield 10, 3) := by decide +kernel
theorem dX11_blank_12 : decode cX11_blank 12 = .ok (.invokevirtual 55, 3) := by decide +kernel
theorem dX11_blank_15 : decode cX11_blank 15 = .ok (.iload_n 1, 1) := by decide +kernel
theorem dX11_blank_16 : decode cX11_blank 16 = .ok (.ireturn, 1) := by decide +kernel
set_option maxRecDepth 20000 in
theorem ggX11_fault_X5_firstFault : GoodIn wsX11_fault wsX5_firstFault := goodIn_r _ [6, 7, 8, 9, 10, 5, 11, 12, 13, 14, 15, 16, 17, 18, 19, 20, 21, 22, 23, 24, 25, 26, 27, 28, 29, 30, 31, 32, 33, 34, 35, 36, 37, 38, 39, 40, 41, 42, 43, 44, 45, 46, 47, 48, 49, 50, 51, 52, 53, 54, 55, 56, 57, 58, 59, 60, 61, 62, 63, 64, 65, 66, 67, 68, 69, 70, 71, 72, 73, 74, 75, 76, 77, 78, 79, 80, 81, 82, 83, 84, 85, 86, 87, 88, 89, 90, 91, 92, 93, 94, 95, 96, 97, 98, 99, 100, 101, 102, 103, 104, 105, 106, 107, 108, 118, 119] (by decide +kernel) (by decide +kernel)
set_option maxRecDepth 20000 in
theorem gX11_fault_X5_firstFault : GoodIn wsX11_fault (wsV RX11 58 RX5 yX5_firstFault wsX5_firstFault) := goodIn_app (goodIn_of _ (by decide +kernel)) ggX11_fault_X5_firstFault
theorem dX11_fault_0 : decode cX11_fault 0 = .ok (.aload_n 0, 1) := by decide +kernel
theorem dX11_fault_1 : decode cX11_fault 1 = .ok (.getfield 10, 3) := by decide +kernel
theorem dX11_fault_4 : decode cX11_fault 4 = .ok (.invokevirtual 58, 3) := by decide +kernel
theorem dX11_fault_7 : decode cX11_fault 7 = .ok (.ireturn, 1) := by decide +kernel
set_option maxRecDepth 20000 in
theorem ggX11_town_X5_isTown : GoodIn wsX11_town wsX5_isTown := goodIn_r _ [10, 11, 12, 13, 14, 9, 15, 16, 17, 18, 19, 20, 21, 22, 23, 24, 25, 26, 27, 28, 29, 30, 31, 32, 33, 34, 35, 36, 37, 38, 39, 40, 41, 42, 43, 44, 45, 46, 47, 48, 49, 50, 51, 52, 53, 54, 55, 56, 57, 58, 59, 60, 61, 62, 63, 64, 65, 66, 67, 68, 69, 70, 71, 72, 73, 74, 75, 76, 77, 78, 79, 80, 81, 82, 83, 84, 85, 86, 87, 88, 89, 90, 91, 92, 93, 94, 95, 96, 97, 98, 99, 100, 101, 102, 103, 104, 105, 106, 107, 108, 109, 110, 111, 112, 113, 114, 115, 116, 215, 216] (by decide +kernel) (by decide +kernel)
set_option maxRecDepth 20000 in
theorem gX11_town_X5_isTown : GoodIn wsX11_town (wsV RX11 61 RX5 yX5_isTown wsX5_isTown) := goodIn_app (goodIn_of _ (by decide +kernel)) ggX11_town_X5_isTown
set_option maxRecDepth 20000 in
theorem ggX11_town_X10_readFrom : GoodIn wsX11_town wsX10_readFrom := goodIn_r _ [121, 122, 123, 61, 58, 62, 124, 125, 126, 127, 128, 9, 129, 11, 130, 13, 14, 15, 16, 131, 132, 120, 133, 134, 135, 136, 137, 138, 139, 140, 141, 142, 143, 144, 145, 146, 147, 148, 149, 29, 30, 31, 32, 33, 34, 35, 36, 37, 38, 39, 40, 41, 42, 43, 44, 45, 46, 47, 48, 49, 50, 51, 52, 53, 54, 55, 56, 57, 59, 60, 63, 64, 65, 66, 67, 68, 69, 70, 71, 72, 73, 74, 75, 76, 77, 78, 79, 80, 81, 82, 83, 84, 85, 86, 87, 88, 89, 90, 91, 92, 93, 94, 95, 96, 97, 98, 99, 100, 101, 102, 103, 104, 105, 106, 107, 108, 109, 110, 111, 112, 113, 114, 115, 116, 150, 151, 152, 153, 154, 155, 156, 157, 158, 159, 160, 161, 162, 163, 164, 165, 166, 167, 168, 169, 170, 171, 172, 217, 218, 219, 215, 216, 220, 221, 222, 223, 224] (by decide +kernel) (by decide +kernel)
set_option maxRecDepth 20000 in
theorem gX11_town_X10_readFrom : GoodIn wsX11_town (wsV RX11 65 RX10 yX10_readFrom wsX10_readFrom) := goodIn_app (goodIn_of _ (by decide +kernel)) ggX11_town_X10_readFrom
set_option maxRecDepth 20000 in
theorem ggX11_town_X5_clear : GoodIn wsX11_town wsX5_clear := goodIn_r _ [176, 11, 215, 216] (by decide +kernel) (by decide +kernel)
set_option maxRecDepth 20000 in
theorem gX11_town_X5_clear : GoodIn wsX11_town (wsV RX11 55 RX5 yX5_clear wsX5_clear) := goodIn_app (goodIn_of _ (by decide +kernel)) ggX11_town_X5_clear
set_option maxRecDepth 20000 in
theorem ggX11_town_X2_clear : GoodIn wsX11_town wsX2_clear := goodIn_r _ [181, 182, 183, 184, 185, 186, 180, 187, 188, 189, 190, 191, 192, 193, 194, 195, 196, 197, 198, 199, 200, 201, 225, 226, 227, 228, 229, 230, 231, 232, 233] (by decide +kernel) (by decide +kernel)
set_option maxRecDepth 20000 in
theorem gX11_town_X2_clear : GoodIn wsX11_town (wsV RX11 69 RX2 yX2_clear wsX2_clear) := goodIn_app (goodIn_of _ (by decide +kernel)) ggX11_town_X2_clear
set_option maxRecDepth 20000 in
theorem ggX11_town_X10_size : GoodIn wsX11_town wsX10_size := goodIn_r _ [205, 124, 217, 218, 219] (by decide +kernel) (by decide +kernel)
set_option maxRecDepth 20000 in
theorem gX11_town_X10_size : GoodIn wsX11_town (wsV RX11 78 RX10 yX10_size wsX10_size) := goodIn_app (goodIn_of _ (by decide +kernel)) ggX11_town_X10_size
theorem dX11_town_0 : decode cX11_town 0 = .ok (.aload_n 0, 1) := by decide +kernel
theorem dX11_town_1 : decode cX11_town 1 = .ok (.getfield 10, 3) := by decide +kernel
theorem dX11_town_4 : decode cX11_town 4 = .ok (.invokevirtual 61, 3) := by decide +kernel
theorem dX11_town_7 : decode cX11_town 7 = .ok (.ifCond .ne 6, 3) := by decide +kernel
theorem dX11_town_10 : decode cX11_town 10 = .ok (.bipush (-103), 2) := by decide +kernel
theorem dX11_town_12 : decode cX11_town 12 = .ok (.ireturn, 1) := by decide +kernel
theorem dX11_town_13 : decode cX11_town 13 = .ok (.aload_n 0, 1) := by decide +kernel
theorem dX11_town_14 : decode cX11_town 14 = .ok (.getfield 19, 3) := by decide +kernel
theorem dX11_town_17 : decode cX11_town 17 = .ok (.aload_n 0, 1) := by decide +kernel
theorem dX11_town_18 : decode cX11_town 18 = .ok (.getfield 10, 3) := by decide +kernel
theorem dX11_town_21 : decode cX11_town 21 = .ok (.invokevirtual 65, 3) := by decide +kernel
theorem dX11_town_24 : decode cX11_town 24 = .ok (.aload_n 0, 1) := by decide +kernel
theorem dX11_town_25 : decode cX11_town 25 = .ok (.getfield 10, 3) := by decide +kernel
theorem dX11_town_28 : decode cX11_town 28 = .ok (.invokevirtual 55, 3) := by decide +kernel
theorem dX11_town_31 : decode cX11_town 31 = .ok (.aload_n 0, 1) := by decide +kernel
theorem dX11_town_32 : decode cX11_town 32 = .ok (.getfield 26, 3) := by decide +kernel
theorem dX11_town_35 : decode cX11_town 35 = .ok (.invokevirtual 69, 3) := by decide +kernel
theorem dX11_town_38 : decode cX11_town 38 = .ok (.aload_n 0, 1) := by decide +kernel
theorem dX11_town_39 : decode cX11_town 39 = .ok (.iconst 0, 1) := by decide +kernel
theorem dX11_town_40 : decode cX11_town 40 = .ok (.putfield 70, 3) := by decide +kernel
theorem dX11_town_43 : decode cX11_town 43 = .ok (.aload_n 0, 1) := by decide +kernel
theorem dX11_town_44 : decode cX11_town 44 = .ok (.dup, 1) := by decide +kernel
theorem dX11_town_45 : decode cX11_town 45 = .ok (.getfield 74, 3) := by decide +kernel
theorem dX11_town_48 : decode cX11_town 48 = .ok (.iconst 1, 1) := by decide +kernel
theorem dX11_town_49 : decode cX11_town 49 = .ok (.iadd, 1) := by decide +kernel
theorem dX11_town_50 : decode cX11_town 50 = .ok (.putfield 74, 3) := by decide +kernel
theorem dX11_town_53 : decode cX11_town 53 = .ok (.aload_n 0, 1) := by decide +kernel
theorem dX11_town_54 : decode cX11_town 54 = .ok (.getfield 19, 3) := by decide +kernel
theorem dX11_town_57 : decode cX11_town 57 = .ok (.invokevirtual 78, 3) := by decide +kernel
theorem dX11_town_60 : decode cX11_town 60 = .ok (.ireturn, 1) := by decide +kernel
set_option maxRecDepth 20000 in
theorem ggX11_about_X10_one : GoodIn wsX11_about wsX10_one := goodIn_r _ [7, 8, 9, 144, 145, 146] (by decide +kernel) (by decide +kernel)
set_option maxRecDepth 20000 in
theorem gX11_about_X10_one : GoodIn wsX11_about (wsV RX11 79 RX10 yX10_one wsX10_one) := goodIn_app (goodIn_of _ (by decide +kernel)) ggX11_about_X10_one
set_option maxRecDepth 20000 in
theorem ggX11_about_X11_penOf : GoodIn wsX11_about wsX11_penOf := goodIn_r _ [14, 1, 2, 3, 4, 5, 6, 7, 8, 9, 15, 16, 17, 18, 19, 20, 135, 136, 137, 138, 139, 140, 141, 142, 143, 144, 145, 146, 147, 148, 149, 150, 151, 152, 153] (by decide +kernel) (by decide +kernel)
set_option maxRecDepth 20000 in
theorem gX11_about_X11_penOf : GoodIn wsX11_about (wsV RX11 83 RX11 yX11_penOf wsX11_penOf) := goodIn_app (goodIn_of _ (by decide +kernel)) ggX11_about_X11_penOf
set_option maxRecDepth 20000 in
theorem ggX11_about_X0_kind : GoodIn wsX11_about wsX0_kind := goodIn_r _ [27] (by decide +kernel) (by decide +kernel)
set_option maxRecDepth 20000 in
theorem gX11_about_X0_kind_u87X0 : GoodIn wsX11_about (va_wsO RX11 87 RX0 "LentQuill$Person" ⟨"LentQuill$Person", "kind", "()I"⟩ yX0_kind wsX0_kind) := goodIn_app (goodIn_of _ (by decide +kernel)) ggX11_about_X0_kind
set_option maxRecDepth 20000 in
theorem ggX11_about_X1_kind : GoodIn wsX11_about wsX1_kind := goodIn_r _ [32] (by decide +kernel) (by decide +kernel)
set_option maxRecDepth 20000 in
theorem gX11_about_X1_kind_u87X1 : GoodIn wsX11_about (va_wsO RX11 87 RX1 "LentQuill$Person" ⟨"LentQuill$Person", "kind", "()I"⟩ yX1_kind wsX1_kind) := goodIn_app (goodIn_of _ (by decide +kernel)) ggX11_about_X1_kind
set_option maxRecDepth 20000 in
theorem ggX11_about_X3_kind : GoodIn wsX11_about wsX3_kind := goodIn_r _ [36] (by decide +kernel) (by decide +kernel)
set_option maxRecDepth 20000 in
theorem gX11_about_X3_kind_u87X3 : GoodIn wsX11_about (va_wsO RX11 87 RX3 "LentQuill$Person" ⟨"LentQuill$Person", "kind", "()I"⟩ yX3_kind wsX3_kind) := goodIn_app (goodIn_of _ (by decide +kernel)) ggX11_about_X3_kind
set_option maxRecDepth 20000 in
theorem ggX11_about_X7_kind : GoodIn wsX11_about wsX7_kind := goodIn_r _ [28] (by decide +kernel) (by decide +kernel)
set_option maxRecDepth 20000 in
theorem gX11_about_X7_kind : GoodIn wsX11_about (wsV RX11 87 RX7 yX7_kind wsX7_kind) := goodIn_app (goodIn_of _ (by decide +kernel)) ggX11_about_X7_kind
set_option maxRecDepth 20000 in
theorem ggX11_about_X9_kind : GoodIn wsX11_about wsX9_kind := goodIn_r _ [44] (by decide +kernel) (by decide +kernel)
set_option maxRecDepth 20000 in
theorem gX11_about_X9_kind_u87X9 : GoodIn wsX11_about (va_wsO RX11 87 RX9 "LentQuill$Person" ⟨"LentQuill$Person", "kind", "()I"⟩ yX9_kind wsX9_kind) := goodIn_app (goodIn_of _ (by decide +kernel)) ggX11_about_X9_kind
set_option maxRecDepth 20000 in
theorem ggX11_about_X0_worth : GoodIn wsX11_about wsX0_worth := goodIn_r _ [50] (by decide +kernel) (by decide +kernel)
set_option maxRecDepth 20000 in
theorem gX11_about_X0_worth_u92X0 : GoodIn wsX11_about (va_wsO RX11 92 RX0 "LentQuill$Person" ⟨"LentQuill$Person", "worth", "()I"⟩ yX0_worth wsX0_worth) := goodIn_app (goodIn_of _ (by decide +kernel)) ggX11_about_X0_worth
set_option maxRecDepth 20000 in
theorem ggX11_about_X7_worth : GoodIn wsX11_about wsX7_worth := goodIn_r _ [51, 54, 154, 155, 156, 157, 158] (by decide +kernel) (by decide +kernel)
set_option maxRecDepth 20000 in
theorem gX11_about_X7_worth_u92X1 : GoodIn wsX11_about (va_wsU RX11 92 RX1 "LentQuill$Person" ⟨"LentQuill$Person", "worth", "()I"⟩ yX7_worth wsX7_worth) := goodIn_app (goodIn_of _ (by decide +kernel)) ggX11_about_X7_worth
set_option maxRecDepth 20000 in
theorem gX11_about_X7_worth_u92X3 : GoodIn wsX11_about (va_wsU RX11 92 RX3 "LentQuill$Person" ⟨"LentQuill$Person", "worth", "()I"⟩ yX7_worth wsX7_worth) := goodIn_app (goodIn_of _ (by decide +kernel)) ggX11_about_X7_worth
set_option maxRecDepth 20000 in
theorem gX11_about_X7_worth : GoodIn wsX11_about (wsV RX11 92 RX7 yX7_worth wsX7_worth) := goodIn_app (goodIn_of _ (by decide +kernel)) ggX11_about_X7_worth
set_option maxRecDepth 20000 in
theorem gX11_about_X7_worth_u92X9 : GoodIn wsX11_about (va_wsU RX11 92 RX9 "LentQuill$Person" ⟨"LentQuill$Person", "worth", "()I"⟩ yX7_worth wsX7_worth) := goodIn_app (goodIn_of _ (by decide +kernel)) ggX11_about_X7_worth
set_option maxRecDepth 20000 in
theorem ggX11_about_X6_holder : GoodIn wsX11_about wsX6_holder := goodIn_r _ [63, 64, 65, 159, 160] (by decide +kernel) (by decide +kernel)
set_option maxRecDepth 20000 in
theorem gX11_about_X6_holder : GoodIn wsX11_about (wsV RX11 95 RX6 yX6_holder wsX6_holder) := goodIn_app (goodIn_of _ (by decide +kernel)) ggX11_about_X6_holder
set_option maxRecDepth 20000 in
theorem ggX11_about_X10_boundBy : GoodIn wsX11_about wsX10_boundBy := goodIn_r _ [69, 70, 71, 72, 73, 62, 74, 64, 75, 76, 77, 78, 79, 80, 81, 82, 83, 84, 85, 65, 86, 4, 5, 6, 7, 8, 9, 87, 13, 88, 89, 90, 91, 92, 40, 93, 94, 95, 96, 97, 35, 98, 99, 100, 101, 102, 103, 104, 105, 106, 107, 108, 109, 110, 111, 112, 113, 43, 114, 144, 145, 146, 159, 160] (by decide +kernel) (by decide +kernel)
set_option maxRecDepth 20000 in
theorem gX11_about_X10_boundBy : GoodIn wsX11_about (wsV RX11 100 RX10 yX10_boundBy wsX10_boundBy) := goodIn_app (goodIn_of _ (by decide +kernel)) ggX11_about_X10_boundBy
set_option maxRecDepth 20000 in
theorem ggX11_about_X2_pensWith : GoodIn wsX11_about wsX2_pensWith := goodIn_r _ [118, 20, 119, 60, 61, 62, 63, 64, 65, 147, 148, 149, 150, 151, 152, 153, 159, 160] (by decide +kernel) (by decide +kernel)
set_option maxRecDepth 20000 in
theorem gX11_about_X2_pensWith : GoodIn wsX11_about (wsV RX11 104 RX2 yX2_pensWith wsX2_pensWith) := goodIn_app (goodIn_of _ (by decide +kernel)) ggX11_about_X2_pensWith
set_option maxRecDepth 20000 in
theorem ggX11_about_X2_deedsBinding : GoodIn wsX11_about wsX2_deedsBinding := goodIn_r _ [123, 124, 125, 126, 127, 18, 128, 129, 130, 131, 132, 133, 134, 87, 13, 88, 147, 148, 149, 150, 151, 152, 153] (by decide +kernel) (by decide +kernel)
set_option maxRecDepth 20000 in
theorem gX11_about_X2_deedsBinding : GoodIn wsX11_about (wsV RX11 108 RX2 yX2_deedsBinding wsX2_deedsBinding) := goodIn_app (goodIn_of _ (by decide +kernel)) ggX11_about_X2_deedsBinding
theorem dX11_about_0 : decode cX11_about 0 = .ok (.aload_n 0, 1) := by decide +kernel
theorem dX11_about_1 : decode cX11_about 1 = .ok (.getfield 19, 3) := by decide +kernel
theorem dX11_about_4 : decode cX11_about 4 = .ok (.iload_n 1, 1) := by decide +kernel
theorem dX11_about_5 : decode cX11_about 5 = .ok (.invokevirtual 79, 3) := by decide +kernel
theorem dX11_about_8 : decode cX11_about 8 = .ok (.astore_n 3, 1) := by decide +kernel
theorem dX11_about_9 : decode cX11_about 9 = .ok (.aload_n 0, 1) := by decide +kernel
theorem dX11_about_10 : decode cX11_about 10 = .ok (.iload_n 1, 1) := by decide +kernel
theorem dX11_about_11 : decode cX11_about 11 = .ok (.invokevirtual 83, 3) := by decide +kernel
theorem dX11_about_14 : decode cX11_about 14 = .ok (.astore 4, 2) := by decide +kernel
theorem dX11_about_16 : decode cX11_about 16 = .ok (.aload_n 3, 1) := by decide +kernel
theorem dX11_about_17 : decode cX11_about 17 = .ok (.ifnull 8, 3) := by decide +kernel
theorem dX11_about_20 : decode cX11_about 20 = .ok (.aload 4, 2) := by decide +kernel
theorem dX11_about_22 : decode cX11_about 22 = .ok (.ifnonnull 6, 3) := by decide +kernel
theorem dX11_about_25 : decode cX11_about 25 = .ok (.bipush (-101), 2) := by decide +kernel
theorem dX11_about_27 : decode cX11_about 27 = .ok (.ireturn, 1) := by decide +kernel
theorem dX11_about_28 : decode cX11_about 28 = .ok (.iload_n 2, 1) := by decide +kernel
theorem dX11_about_29 : decode cX11_about 29 = .ok (.tableswitch 83 0 5 #[39, 44, 49, 55, 65, 74], 39) := by decide +kernel
theorem dX11_about_68 : decode cX11_about 68 = .ok (.aload_n 3, 1) := by decide +kernel
theorem dX11_about_69 : decode cX11_about 69 = .ok (.invokevirtual 87, 3) := by decide +kernel
theorem dX11_about_72 : decode cX11_about 72 = .ok (.ireturn, 1) := by decide +kernel
theorem dX11_about_73 : decode cX11_about 73 = .ok (.aload_n 3, 1) := by decide +kernel
theorem dX11_about_74 : decode cX11_about 74 = .ok (.invokevirtual 92, 3) := by decide +kernel
theorem dX11_about_77 : decode cX11_about 77 = .ok (.ireturn, 1) := by decide +kernel
theorem dX11_about_78 : decode cX11_about 78 = .ok (.aload 4, 2) := by decide +kernel
theorem dX11_about_80 : decode cX11_about 80 = .ok (.invokevirtual 95, 3) := by decide +kernel
theorem dX11_about_83 : decode cX11_about 83 = .ok (.ireturn, 1) := by decide +kernel
theorem dX11_about_84 : decode cX11_about 84 = .ok (.aload_n 0, 1) := by decide +kernel
theorem dX11_about_85 : decode cX11_about 85 = .ok (.getfield 19, 3) := by decide +kernel
theorem dX11_about_88 : decode cX11_about 88 = .ok (.aload 4, 2) := by decide +kernel
theorem dX11_about_90 : decode cX11_about 90 = .ok (.invokevirtual 100, 3) := by decide +kernel
theorem dX11_about_93 : decode cX11_about 93 = .ok (.ireturn, 1) := by decide +kernel
theorem dX11_about_94 : decode cX11_about 94 = .ok (.aload_n 0, 1) := by decide +kernel
theorem dX11_about_95 : decode cX11_about 95 = .ok (.getfield 26, 3) := by decide +kernel
theorem dX11_about_98 : decode cX11_about 98 = .ok (.iload_n 1, 1) := by decide +kernel
theorem dX11_about_99 : decode cX11_about 99 = .ok (.invokevirtual 104, 3) := by decide +kernel
theorem dX11_about_102 : decode cX11_about 102 = .ok (.ireturn, 1) := by decide +kernel
theorem dX11_about_103 : decode cX11_about 103 = .ok (.aload_n 0, 1) := by decide +kernel
theorem dX11_about_104 : decode cX11_about 104 = .ok (.getfield 26, 3) := by decide +kernel
theorem dX11_about_107 : decode cX11_about 107 = .ok (.iload_n 1, 1) := by decide +kernel
theorem dX11_about_108 : decode cX11_about 108 = .ok (.invokevirtual 108, 3) := by decide +kernel
theorem dX11_about_111 : decode cX11_about 111 = .ok (.ireturn, 1) := by decide +kernel
theorem dX11_about_112 : decode cX11_about 112 = .ok (.bipush (-102), 2) := by decide +kernel
theorem dX11_about_114 : decode cX11_about 114 = .ok (.ireturn, 1) := by decide +kernel
set_option maxRecDepth 20000 in
theorem ggX11_as_X10_one : GoodIn wsX11_as wsX10_one := goodIn_r _ [10, 11, 12, 22, 23, 24] (by decide +kernel) (by decide +kernel)
set_option maxRecDepth 20000 in
theorem gX11_as_X10_one : GoodIn wsX11_as (wsV RX11 79 RX10 yX10_one wsX10_one) := goodIn_app (goodIn_of _ (by decide +kernel)) ggX11_as_X10_one
theorem dX11_as_0 : decode cX11_as 0 = .ok (.aload_n 0, 1) := by decide +kernel
theorem dX11_as_1 : decode cX11_as 1 = .ok (.getfield 19, 3) := by decide +kernel
theorem dX11_as_4 : decode cX11_as 4 = .ok (.iload_n 1, 1) := by decide +kernel
theorem dX11_as_5 : decode cX11_as 5 = .ok (.invokevirtual 79, 3) := by decide +kernel
theorem dX11_as_8 : decode cX11_as 8 = .ok (.astore_n 3, 1) := by decide +kernel
theorem dX11_as_9 : decode cX11_as 9 = .ok (.aload_n 3, 1) := by decide +kernel
theorem dX11_as_10 : decode cX11_as 10 = .ok (.ifnonnull 6, 3) := by decide +kernel
theorem dX11_as_13 : decode cX11_as 13 = .ok (.bipush (-101), 2) := by decide +kernel
theorem dX11_as_15 : decode cX11_as 15 = .ok (.ireturn, 1) := by decide +kernel
theorem dX11_as_16 : decode cX11_as 16 = .ok (.iload_n 2, 1) := by decide +kernel
theorem dX11_as_17 : decode cX11_as 17 = .ok (.tableswitch 89 0 4 #[35, 37, 50, 63, 76], 35) := by decide +kernel
theorem dX11_as_52 : decode cX11_as 52 = .ok (.iload_n 1, 1) := by decide +kernel
theorem dX11_as_53 : decode cX11_as 53 = .ok (.ireturn, 1) := by decide +kernel
theorem dX11_as_54 : decode cX11_as 54 = .ok (.aload_n 3, 1) := by decide +kernel
theorem dX11_as_55 : decode cX11_as 55 = .ok (.instanceof 111, 3) := by decide +kernel
theorem dX11_as_58 : decode cX11_as 58 = .ok (.ifCond .eq 7, 3) := by decide +kernel
theorem dX11_as_61 : decode cX11_as 61 = .ok (.iload_n 1, 1) := by decide +kernel
theorem dX11_as_62 : decode cX11_as 62 = .ok (.goto 4, 3) := by decide +kernel
theorem dX11_as_65 : decode cX11_as 65 = .ok (.iconst (-1), 1) := by decide +kernel
theorem dX11_as_66 : decode cX11_as 66 = .ok (.ireturn, 1) := by decide +kernel
theorem dX11_as_67 : decode cX11_as 67 = .ok (.aload_n 3, 1) := by decide +kernel
theorem dX11_as_68 : decode cX11_as 68 = .ok (.instanceof 113, 3) := by decide +kernel
theorem dX11_as_71 : decode cX11_as 71 = .ok (.ifCond .eq 7, 3) := by decide +kernel
theorem dX11_as_74 : decode cX11_as 74 = .ok (.iload_n 1, 1) := by decide +kernel
theorem dX11_as_75 : decode cX11_as 75 = .ok (.goto 4, 3) := by decide +kernel
theorem dX11_as_78 : decode cX11_as 78 = .ok (.iconst (-1), 1) := by decide +kernel
theorem dX11_as_79 : decode cX11_as 79 = .ok (.ireturn, 1) := by decide +kernel
theorem dX11_as_80 : decode cX11_as 80 = .ok (.aload_n 3, 1) := by decide +kernel
theorem dX11_as_81 : decode cX11_as 81 = .ok (.instanceof 115, 3) := by decide +kernel
theorem dX11_as_84 : decode cX11_as 84 = .ok (.ifCond .eq 7, 3) := by decide +kernel
theorem dX11_as_87 : decode cX11_as 87 = .ok (.iload_n 1, 1) := by decide +kernel
theorem dX11_as_88 : decode cX11_as 88 = .ok (.goto 4, 3) := by decide +kernel
theorem dX11_as_91 : decode cX11_as 91 = .ok (.iconst (-1), 1) := by decide +kernel
theorem dX11_as_92 : decode cX11_as 92 = .ok (.ireturn, 1) := by decide +kernel
theorem dX11_as_93 : decode cX11_as 93 = .ok (.aload_n 3, 1) := by decide +kernel
theorem dX11_as_94 : decode cX11_as 94 = .ok (.instanceof 117, 3) := by decide +kernel
theorem dX11_as_97 : decode cX11_as 97 = .ok (.ifCond .eq 7, 3) := by decide +kernel
theorem dX11_as_100 : decode cX11_as 100 = .ok (.iload_n 1, 1) := by decide +kernel
theorem dX11_as_101 : decode cX11_as 101 = .ok (.goto 4, 3) := by decide +kernel
theorem dX11_as_104 : decode cX11_as 104 = .ok (.iconst (-1), 1) := by decide +kernel
theorem dX11_as_105 : decode cX11_as 105 = .ok (.ireturn, 1) := by decide +kernel
theorem dX11_as_106 : decode cX11_as 106 = .ok (.bipush (-102), 2) := by decide +kernel
theorem dX11_as_108 : decode cX11_as 108 = .ok (.ireturn, 1) := by decide +kernel
set_option maxRecDepth 20000 in
theorem ggX11_lend_X11_penOf : GoodIn wsX11_lend wsX11_penOf := goodIn_r _ [6, 1, 7, 8, 9, 10, 11, 12, 13, 14, 15, 16, 17, 18, 19, 20, 106, 107, 108, 109, 110, 111, 112, 113, 114, 115, 116, 117, 118, 119, 120, 121, 122, 123, 124] (by decide +kernel) (by decide +kernel)
set_option maxRecDepth 20000 in
theorem gX11_lend_X11_penOf : GoodIn wsX11_lend (wsV RX11 83 RX11 yX11_penOf wsX11_penOf) := goodIn_app (goodIn_of _ (by decide +kernel)) ggX11_lend_X11_penOf
set_option maxRecDepth 20000 in
theorem ggX11_lend_X10_one : GoodIn wsX11_lend wsX10_one := goodIn_r _ [12, 13, 14, 115, 116, 117] (by decide +kernel) (by decide +kernel)
set_option maxRecDepth 20000 in
theorem gX11_lend_X10_one : GoodIn wsX11_lend (wsV RX11 79 RX10 yX10_one wsX10_one) := goodIn_app (goodIn_of _ (by decide +kernel)) ggX11_lend_X10_one
set_option maxRecDepth 20000 in
theorem ggX11_lend_X10_wouldPass : GoodIn wsX11_lend wsX10_wouldPass := goodIn_r _ [24, 25, 26, 27, 28, 29, 30, 31, 32, 9, 10, 11, 12, 13, 14, 33, 34, 35, 36, 37, 38, 39, 40, 41, 42, 43, 44, 45, 46, 47, 125, 126, 115, 116, 117] (by decide +kernel) (by decide +kernel)
set_option maxRecDepth 20000 in
theorem gX11_lend_X10_wouldPass : GoodIn wsX11_lend (wsV RX11 119 RX10 yX10_wouldPass wsX10_wouldPass) := goodIn_app (goodIn_of _ (by decide +kernel)) ggX11_lend_X10_wouldPass
set_option maxRecDepth 20000 in
theorem ggX11_lend_X6_isLentOut : GoodIn wsX11_lend wsX6_isLentOut := goodIn_r _ [51, 30, 125, 126] (by decide +kernel) (by decide +kernel)
set_option maxRecDepth 20000 in
theorem gX11_lend_X6_isLentOut : GoodIn wsX11_lend (wsV RX11 123 RX6 yX6_isLentOut wsX6_isLentOut) := goodIn_app (goodIn_of _ (by decide +kernel)) ggX11_lend_X6_isLentOut
set_option maxRecDepth 20000 in
theorem ggX11_lend_X6_passTo : GoodIn wsX11_lend wsX6_passTo := goodIn_r _ [55, 30, 31, 125, 126] (by decide +kernel) (by decide +kernel)
set_option maxRecDepth 20000 in
theorem gX11_lend_X6_passTo : GoodIn wsX11_lend (wsV RX11 126 RX6 yX6_passTo wsX6_passTo) := goodIn_app (goodIn_of _ (by decide +kernel)) ggX11_lend_X6_passTo
set_option maxRecDepth 20000 in
theorem ggX11_lend_X10_boundBy : GoodIn wsX11_lend wsX10_boundBy := goodIn_r _ [59, 60, 61, 62, 63, 28, 64, 30, 65, 66, 67, 68, 69, 70, 71, 72, 73, 74, 75, 31, 32, 9, 10, 11, 12, 13, 14, 76, 5, 77, 78, 79, 80, 81, 44, 82, 83, 84, 85, 86, 87, 88, 89, 90, 91, 92, 93, 94, 95, 96, 97, 98, 99, 100, 101, 102, 103, 104, 105, 115, 116, 117, 125, 126] (by decide +kernel) (by decide +kernel)
set_option maxRecDepth 20000 in
theorem gX11_lend_X10_boundBy : GoodIn wsX11_lend (wsV RX11 100 RX10 yX10_boundBy wsX10_boundBy) := goodIn_app (goodIn_of _ (by decide +kernel)) ggX11_lend_X10_boundBy
theorem dX11_lend_0 : decode cX11_lend 0 = .ok (.aload_n 0, 1) := by decide +kernel
theorem dX11_lend_1 : decode cX11_lend 1 = .ok (.iload_n 1, 1) := by decide +kernel
theorem dX11_lend_2 : decode cX11_lend 2 = .ok (.invokevirtual 83, 3) := by decide +kernel
theorem dX11_lend_5 : decode cX11_lend 5 = .ok (.astore_n 3, 1) := by decide +kernel
theorem dX11_lend_6 : decode cX11_lend 6 = .ok (.aload_n 3, 1) := by decide +kernel
theorem dX11_lend_7 : decode cX11_lend 7 = .ok (.ifnull 14, 3) := by decide +kernel
theorem dX11_lend_10 : decode cX11_lend 10 = .ok (.aload_n 0, 1) := by decide +kernel
theorem dX11_lend_11 : decode cX11_lend 11 = .ok (.getfield 19, 3) := by decide +kernel
theorem dX11_lend_14 : decode cX11_lend 14 = .ok (.iload_n 2, 1) := by decide +kernel
theorem dX11_lend_15 : decode cX11_lend 15 = .ok (.invokevirtual 79, 3) := by decide +kernel
theorem dX11_lend_18 : decode cX11_lend 18 = .ok (.ifnonnull 6, 3) := by decide +kernel
theorem dX11_lend_21 : decode cX11_lend 21 = .ok (.bipush (-101), 2) := by decide +kernel
theorem dX11_lend_23 : decode cX11_lend 23 = .ok (.ireturn, 1) := by decide +kernel
theorem dX11_lend_24 : decode cX11_lend 24 = .ok (.aload_n 0, 1) := by decide +kernel
theorem dX11_lend_25 : decode cX11_lend 25 = .ok (.getfield 19, 3) := by decide +kernel
theorem dX11_lend_28 : decode cX11_lend 28 = .ok (.aload_n 3, 1) := by decide +kernel
theorem dX11_lend_29 : decode cX11_lend 29 = .ok (.iload_n 2, 1) := by decide +kernel
theorem dX11_lend_30 : decode cX11_lend 30 = .ok (.invokevirtual 119, 3) := by decide +kernel
theorem dX11_lend_33 : decode cX11_lend 33 = .ok (.ifCond .ne 6, 3) := by decide +kernel
theorem dX11_lend_36 : decode cX11_lend 36 = .ok (.bipush (-103), 2) := by decide +kernel
theorem dX11_lend_38 : decode cX11_lend 38 = .ok (.ireturn, 1) := by decide +kernel
theorem dX11_lend_39 : decode cX11_lend 39 = .ok (.aload_n 3, 1) := by decide +kernel
theorem dX11_lend_40 : decode cX11_lend 40 = .ok (.invokevirtual 123, 3) := by decide +kernel
theorem dX11_lend_43 : decode cX11_lend 43 = .ok (.ifCond .eq 6, 3) := by decide +kernel
theorem dX11_lend_46 : decode cX11_lend 46 = .ok (.bipush (-104), 2) := by decide +kernel
theorem dX11_lend_48 : decode cX11_lend 48 = .ok (.ireturn, 1) := by decide +kernel
theorem dX11_lend_49 : decode cX11_lend 49 = .ok (.aload_n 3, 1) := by decide +kernel
theorem dX11_lend_50 : decode cX11_lend 50 = .ok (.iload_n 2, 1) := by decide +kernel
theorem dX11_lend_51 : decode cX11_lend 51 = .ok (.invokevirtual 126, 3) := by decide +kernel
theorem dX11_lend_54 : decode cX11_lend 54 = .ok (.aload_n 0, 1) := by decide +kernel
theorem dX11_lend_55 : decode cX11_lend 55 = .ok (.getfield 19, 3) := by decide +kernel
theorem dX11_lend_58 : decode cX11_lend 58 = .ok (.aload_n 3, 1) := by decide +kernel
theorem dX11_lend_59 : decode cX11_lend 59 = .ok (.invokevirtual 100, 3) := by decide +kernel
theorem dX11_lend_62 : decode cX11_lend 62 = .ok (.ireturn, 1) := by decide +kernel
set_option maxRecDepth 20000 in
theorem ggX11_had_X11_penOf : GoodIn wsX11_had wsX11_penOf := goodIn_r _ [5, 6, 7, 8, 9, 10, 11, 12, 13, 14, 15, 16, 17, 18, 19, 20, 28, 29, 30, 31, 32, 33, 34, 35, 36, 37, 38, 39, 40, 41, 42, 43, 44, 45, 46] (by decide +kernel) (by decide +kernel)
set_option maxRecDepth 20000 in
theorem gX11_had_X11_penOf : GoodIn wsX11_had (wsV RX11 83 RX11 yX11_penOf wsX11_penOf) := goodIn_app (goodIn_of _ (by decide +kernel)) ggX11_had_X11_penOf
set_option maxRecDepth 20000 in
theorem ggX11_had_X6_holderBefore : GoodIn wsX11_had wsX6_holderBefore := goodIn_r _ [25, 26, 27, 47, 48] (by decide +kernel) (by decide +kernel)
set_option maxRecDepth 20000 in
theorem gX11_had_X6_holderBefore : GoodIn wsX11_had (wsV RX11 130 RX6 yX6_holderBefore wsX6_holderBefore) := goodIn_app (goodIn_of _ (by decide +kernel)) ggX11_had_X6_holderBefore
theorem dX11_had_0 : decode cX11_had 0 = .ok (.aload_n 0, 1) := by decide +kernel
theorem dX11_had_1 : decode cX11_had 1 = .ok (.iload_n 1, 1) := by decide +kernel
theorem dX11_had_2 : decode cX11_had 2 = .ok (.invokevirtual 83, 3) := by decide +kernel
theorem dX11_had_5 : decode cX11_had 5 = .ok (.astore_n 3, 1) := by decide +kernel
theorem dX11_had_6 : decode cX11_had 6 = .ok (.aload_n 3, 1) := by decide +kernel
theorem dX11_had_7 : decode cX11_had 7 = .ok (.ifnonnull 6, 3) := by decide +kernel
theorem dX11_had_10 : decode cX11_had 10 = .ok (.bipush (-101), 2) := by decide +kernel
theorem dX11_had_12 : decode cX11_had 12 = .ok (.ireturn, 1) := by decide +kernel
theorem dX11_had_13 : decode cX11_had 13 = .ok (.iload_n 2, 1) := by decide +kernel
theorem dX11_had_14 : decode cX11_had 14 = .ok (.ifCond .lt 9, 3) := by decide +kernel
theorem dX11_had_17 : decode cX11_had 17 = .ok (.iload_n 2, 1) := by decide +kernel
theorem dX11_had_18 : decode cX11_had 18 = .ok (.bipush 40, 2) := by decide +kernel
theorem dX11_had_20 : decode cX11_had 20 = .ok (.if_icmp .le 6, 3) := by decide +kernel
theorem dX11_had_23 : decode cX11_had 23 = .ok (.bipush (-102), 2) := by decide +kernel
theorem dX11_had_25 : decode cX11_had 25 = .ok (.ireturn, 1) := by decide +kernel
theorem dX11_had_26 : decode cX11_had 26 = .ok (.aload_n 3, 1) := by decide +kernel
theorem dX11_had_27 : decode cX11_had 27 = .ok (.iload_n 2, 1) := by decide +kernel
theorem dX11_had_28 : decode cX11_had 28 = .ok (.invokevirtual 130, 3) := by decide +kernel
theorem dX11_had_31 : decode cX11_had 31 = .ok (.ireturn, 1) := by decide +kernel
set_option maxRecDepth 20000 in
theorem ggX11_sign_X11_penOf : GoodIn wsX11_sign wsX11_penOf := goodIn_r _ [7, 1, 2, 8, 9, 10, 11, 12, 13, 14, 15, 16, 17, 18, 19, 20, 87, 88, 89, 90, 91, 92, 93, 94, 95, 96, 97, 98, 99, 100, 101, 102, 103, 104, 105] (by decide +kernel) (by decide +kernel)
set_option maxRecDepth 20000 in
theorem gX11_sign_X11_penOf : GoodIn wsX11_sign (wsV RX11 83 RX11 yX11_penOf wsX11_penOf) := goodIn_app (goodIn_of _ (by decide +kernel)) ggX11_sign_X11_penOf
set_option maxRecDepth 20000 in
theorem ggX11_sign_X10_boundBy : GoodIn wsX11_sign wsX10_boundBy := goodIn_r _ [24, 25, 26, 27, 28, 29, 30, 31, 32, 33, 34, 35, 36, 37, 38, 39, 40, 41, 42, 43, 44, 9, 10, 11, 12, 13, 14, 45, 6, 46, 47, 48, 49, 50, 51, 52, 53, 54, 55, 56, 57, 58, 59, 60, 61, 62, 63, 64, 65, 66, 67, 68, 69, 70, 71, 72, 73, 74, 75, 96, 97, 98, 106, 107] (by decide +kernel) (by decide +kernel)
set_option maxRecDepth 20000 in
theorem gX11_sign_X10_boundBy : GoodIn wsX11_sign (wsV RX11 100 RX10 yX10_boundBy wsX10_boundBy) := goodIn_app (goodIn_of _ (by decide +kernel)) ggX11_sign_X10_boundBy
set_option maxRecDepth 20000 in
theorem ggX11_sign_X2_deeds : GoodIn wsX11_sign wsX2_deeds := goodIn_r _ [79, 80, 99, 100, 101, 102, 103, 104, 105] (by decide +kernel) (by decide +kernel)
set_option maxRecDepth 20000 in
theorem gX11_sign_X2_deeds : GoodIn wsX11_sign (wsV RX11 133 RX2 yX2_deeds wsX2_deeds) := goodIn_app (goodIn_of _ (by decide +kernel)) ggX11_sign_X2_deeds
set_option maxRecDepth 20000 in
theorem ggX11_sign_X2_addDeed : GoodIn wsX11_sign wsX2_addDeed := goodIn_r _ [84, 80, 85, 86, 99, 100, 101, 102, 103, 104, 105] (by decide +kernel) (by decide +kernel)
set_option maxRecDepth 20000 in
theorem gX11_sign_X2_addDeed : GoodIn wsX11_sign (wsV RX11 136 RX2 yX2_addDeed wsX2_addDeed) := goodIn_app (goodIn_of _ (by decide +kernel)) ggX11_sign_X2_addDeed
theorem dX11_sign_0 : decode cX11_sign 0 = .ok (.aload_n 0, 1) := by decide +kernel
theorem dX11_sign_1 : decode cX11_sign 1 = .ok (.iload_n 1, 1) := by decide +kernel
theorem dX11_sign_2 : decode cX11_sign 2 = .ok (.invokevirtual 83, 3) := by decide +kernel
theorem dX11_sign_5 : decode cX11_sign 5 = .ok (.astore_n 3, 1) := by decide +kernel
theorem dX11_sign_6 : decode cX11_sign 6 = .ok (.aload_n 3, 1) := by decide +kernel
theorem dX11_sign_7 : decode cX11_sign 7 = .ok (.ifnonnull 6, 3) := by decide +kernel
theorem dX11_sign_10 : decode cX11_sign 10 = .ok (.bipush (-101), 2) := by decide +kernel
theorem dX11_sign_12 : decode cX11_sign 12 = .ok (.ireturn, 1) := by decide +kernel
theorem dX11_sign_13 : decode cX11_sign 13 = .ok (.iload_n 2, 1) := by decide +kernel
theorem dX11_sign_14 : decode cX11_sign 14 = .ok (.iconst 1, 1) := by decide +kernel
theorem dX11_sign_15 : decode cX11_sign 15 = .ok (.if_icmp .lt 9, 3) := by decide +kernel
theorem dX11_sign_18 : decode cX11_sign 18 = .ok (.iload_n 2, 1) := by decide +kernel
theorem dX11_sign_19 : decode cX11_sign 19 = .ok (.bipush 9, 2) := by decide +kernel
theorem dX11_sign_21 : decode cX11_sign 21 = .ok (.if_icmp .le 6, 3) := by decide +kernel
theorem dX11_sign_24 : decode cX11_sign 24 = .ok (.bipush (-102), 2) := by decide +kernel
theorem dX11_sign_26 : decode cX11_sign 26 = .ok (.ireturn, 1) := by decide +kernel
theorem dX11_sign_27 : decode cX11_sign 27 = .ok (.aload_n 0, 1) := by decide +kernel
theorem dX11_sign_28 : decode cX11_sign 28 = .ok (.getfield 19, 3) := by decide +kernel
theorem dX11_sign_31 : decode cX11_sign 31 = .ok (.aload_n 3, 1) := by decide +kernel
theorem dX11_sign_32 : decode cX11_sign 32 = .ok (.invokevirtual 100, 3) := by decide +kernel
theorem dX11_sign_35 : decode cX11_sign 35 = .ok (.istore 4, 2) := by decide +kernel
theorem dX11_sign_37 : decode cX11_sign 37 = .ok (.iload 4, 2) := by decide +kernel
theorem dX11_sign_39 : decode cX11_sign 39 = .ok (.ifCond .ne 6, 3) := by decide +kernel
theorem dX11_sign_42 : decode cX11_sign 42 = .ok (.bipush (-103), 2) := by decide +kernel
theorem dX11_sign_44 : decode cX11_sign 44 = .ok (.ireturn, 1) := by decide +kernel
theorem dX11_sign_45 : decode cX11_sign 45 = .ok (.aload_n 0, 1) := by decide +kernel
theorem dX11_sign_46 : decode cX11_sign 46 = .ok (.getfield 26, 3) := by decide +kernel
theorem dX11_sign_49 : decode cX11_sign 49 = .ok (.invokevirtual 133, 3) := by decide +kernel
theorem dX11_sign_52 : decode cX11_sign 52 = .ok (.istore 5, 2) := by decide +kernel
theorem dX11_sign_54 : decode cX11_sign 54 = .ok (.aload_n 0, 1) := by decide +kernel
theorem dX11_sign_55 : decode cX11_sign 55 = .ok (.getfield 26, 3) := by decide +kernel
theorem dX11_sign_58 : decode cX11_sign 58 = .ok (.iload_n 2, 1) := by decide +kernel
theorem dX11_sign_59 : decode cX11_sign 59 = .ok (.iload 4, 2) := by decide +kernel
theorem dX11_sign_61 : decode cX11_sign 61 = .ok (.invokevirtual 136, 3) := by decide +kernel
theorem dX11_sign_64 : decode cX11_sign 64 = .ok (.ifCond .eq 8, 3) := by decide +kernel
theorem dX11_sign_67 : decode cX11_sign 67 = .ok (.iload 5, 2) := by decide +kernel
theorem dX11_sign_69 : decode cX11_sign 69 = .ok (.goto 5, 3) := by decide +kernel
theorem dX11_sign_72 : decode cX11_sign 72 = .ok (.bipush (-104), 2) := by decide +kernel
theorem dX11_sign_74 : decode cX11_sign 74 = .ok (.ireturn, 1) := by decide +kernel
set_option maxRecDepth 20000 in
theorem ggX11_deed_X2_isDeed : GoodIn wsX11_deed wsX2_isDeed := goodIn_r _ [7, 8, 9, 10, 59, 60, 61, 62, 63, 64, 65] (by decide +kernel) (by decide +kernel)
set_option maxRecDepth 20000 in
theorem gX11_deed_X2_isDeed : GoodIn wsX11_deed (wsV RX11 140 RX2 yX2_isDeed wsX2_isDeed) := goodIn_app (goodIn_of _ (by decide +kernel)) ggX11_deed_X2_isDeed
set_option maxRecDepth 20000 in
theorem ggX11_deed_X2_debtOf : GoodIn wsX11_deed wsX2_debtOf := goodIn_r _ [14, 9, 15, 4, 5, 6, 7, 8, 10, 59, 60, 61, 62, 63, 64, 65] (by decide +kernel) (by decide +kernel)
set_option maxRecDepth 20000 in
theorem gX11_deed_X2_debtOf : GoodIn wsX11_deed (wsV RX11 143 RX2 yX2_debtOf wsX2_debtOf) := goodIn_app (goodIn_of _ (by decide +kernel)) ggX11_deed_X2_debtOf
set_option maxRecDepth 20000 in
theorem ggX11_deed_X2_boundByDeed : GoodIn wsX11_deed wsX2_boundByDeed := goodIn_r _ [19, 10, 15, 4, 5, 6, 7, 8, 9, 59, 60, 61, 62, 63, 64, 65] (by decide +kernel) (by decide +kernel)
set_option maxRecDepth 20000 in
theorem gX11_deed_X2_boundByDeed : GoodIn wsX11_deed (wsV RX11 146 RX2 yX2_boundByDeed wsX2_boundByDeed) := goodIn_app (goodIn_of _ (by decide +kernel)) ggX11_deed_X2_boundByDeed
set_option maxRecDepth 20000 in
theorem ggX11_deed_X10_worthOf : GoodIn wsX11_deed wsX10_worthOf := goodIn_r _ [24, 25, 26, 27, 28, 23, 29, 30, 31, 32, 33, 34, 35, 36, 37, 38, 39, 40, 41, 42, 43, 44, 45, 46, 47, 48, 49, 66, 67, 68, 69, 70, 71, 72, 73] (by decide +kernel) (by decide +kernel)
set_option maxRecDepth 20000 in
theorem gX11_deed_X10_worthOf : GoodIn wsX11_deed (wsV RX11 149 RX10 yX10_worthOf wsX10_worthOf) := goodIn_app (goodIn_of _ (by decide +kernel)) ggX11_deed_X10_worthOf
theorem dX11_deed_0 : decode cX11_deed 0 = .ok (.aload_n 0, 1) := by decide +kernel
theorem dX11_deed_1 : decode cX11_deed 1 = .ok (.getfield 26, 3) := by decide +kernel
theorem dX11_deed_4 : decode cX11_deed 4 = .ok (.iload_n 1, 1) := by decide +kernel
theorem dX11_deed_5 : decode cX11_deed 5 = .ok (.invokevirtual 140, 3) := by decide +kernel
theorem dX11_deed_8 : decode cX11_deed 8 = .ok (.ifCond .ne 6, 3) := by decide +kernel
theorem dX11_deed_11 : decode cX11_deed 11 = .ok (.bipush (-101), 2) := by decide +kernel
theorem dX11_deed_13 : decode cX11_deed 13 = .ok (.ireturn, 1) := by decide +kernel
theorem dX11_deed_14 : decode cX11_deed 14 = .ok (.iload_n 2, 1) := by decide +kernel
theorem dX11_deed_15 : decode cX11_deed 15 = .ok (.tableswitch 59 0 2 #[25, 34, 43], 25) := by decide +kernel
theorem dX11_deed_40 : decode cX11_deed 40 = .ok (.aload_n 0, 1) := by decide +kernel
theorem dX11_deed_41 : decode cX11_deed 41 = .ok (.getfield 26, 3) := by decide +kernel
theorem dX11_deed_44 : decode cX11_deed 44 = .ok (.iload_n 1, 1) := by decide +kernel
theorem dX11_deed_45 : decode cX11_deed 45 = .ok (.invokevirtual 143, 3) := by decide +kernel
theorem dX11_deed_48 : decode cX11_deed 48 = .ok (.ireturn, 1) := by decide +kernel
theorem dX11_deed_49 : decode cX11_deed 49 = .ok (.aload_n 0, 1) := by decide +kernel
theorem dX11_deed_50 : decode cX11_deed 50 = .ok (.getfield 26, 3) := by decide +kernel
theorem dX11_deed_53 : decode cX11_deed 53 = .ok (.iload_n 1, 1) := by decide +kernel
theorem dX11_deed_54 : decode cX11_deed 54 = .ok (.invokevirtual 146, 3) := by decide +kernel
theorem dX11_deed_57 : decode cX11_deed 57 = .ok (.ireturn, 1) := by decide +kernel
theorem dX11_deed_58 : decode cX11_deed 58 = .ok (.aload_n 0, 1) := by decide +kernel
theorem dX11_deed_59 : decode cX11_deed 59 = .ok (.getfield 19, 3) := by decide +kernel
theorem dX11_deed_62 : decode cX11_deed 62 = .ok (.aload_n 0, 1) := by decide +kernel
theorem dX11_deed_63 : decode cX11_deed 63 = .ok (.getfield 26, 3) := by decide +kernel
theorem dX11_deed_66 : decode cX11_deed 66 = .ok (.iload_n 1, 1) := by decide +kernel
theorem dX11_deed_67 : decode cX11_deed 67 = .ok (.invokevirtual 146, 3) := by decide +kernel
theorem dX11_deed_70 : decode cX11_deed 70 = .ok (.invokevirtual 149, 3) := by decide +kernel
theorem dX11_deed_73 : decode cX11_deed 73 = .ok (.ireturn, 1) := by decide +kernel
theorem dX11_deed_74 : decode cX11_deed 74 = .ok (.bipush (-102), 2) := by decide +kernel
theorem dX11_deed_76 : decode cX11_deed 76 = .ok (.ireturn, 1) := by decide +kernel
set_option maxRecDepth 20000 in
theorem ggX11_free_X2_isDeed : GoodIn wsX11_free wsX2_isDeed := goodIn_r _ [7, 8, 9, 10, 47, 48, 49, 50, 51, 52, 53] (by decide +kernel) (by decide +kernel)
set_option maxRecDepth 20000 in
theorem gX11_free_X2_isDeed : GoodIn wsX11_free (wsV RX11 140 RX2 yX2_isDeed wsX2_isDeed) := goodIn_app (goodIn_of _ (by decide +kernel)) ggX11_free_X2_isDeed
set_option maxRecDepth 20000 in
theorem ggX11_free_X10_one : GoodIn wsX11_free wsX10_one := goodIn_r _ [15, 16, 17, 54, 55, 56] (by decide +kernel) (by decide +kernel)
set_option maxRecDepth 20000 in
theorem gX11_free_X10_one : GoodIn wsX11_free (wsV RX11 79 RX10 yX10_one wsX10_one) := goodIn_app (goodIn_of _ (by decide +kernel)) ggX11_free_X10_one
set_option maxRecDepth 20000 in
theorem ggX11_free_X2_boundByDeed : GoodIn wsX11_free wsX2_boundByDeed := goodIn_r _ [21, 10, 22, 4, 5, 6, 7, 8, 9, 47, 48, 49, 50, 51, 52, 53] (by decide +kernel) (by decide +kernel)
set_option maxRecDepth 20000 in
theorem gX11_free_X2_boundByDeed : GoodIn wsX11_free (wsV RX11 146 RX2 yX2_boundByDeed wsX2_boundByDeed) := goodIn_app (goodIn_of _ (by decide +kernel)) ggX11_free_X2_boundByDeed
set_option maxRecDepth 20000 in
theorem ggX11_free_X11_holds : GoodIn wsX11_free wsX11_holds := goodIn_r _ [26] (by decide +kernel) (by decide +kernel)
set_option maxRecDepth 20000 in
theorem gX11_free_X11_holds : GoodIn wsX11_free (va_wsS RX11 152 yX11_holds wsX11_holds) := goodIn_app (goodIn_of _ (by decide +kernel)) ggX11_free_X11_holds
set_option maxRecDepth 20000 in
theorem ggX11_free_X2_unbind : GoodIn wsX11_free wsX2_unbind := goodIn_r _ [30, 10, 22, 4, 5, 6, 7, 8, 9, 47, 48, 49, 50, 51, 52, 53] (by decide +kernel) (by decide +kernel)
set_option maxRecDepth 20000 in
theorem gX11_free_X2_unbind : GoodIn wsX11_free (wsV RX11 155 RX2 yX2_unbind wsX2_unbind) := goodIn_app (goodIn_of _ (by decide +kernel)) ggX11_free_X2_unbind
set_option maxRecDepth 20000 in
theorem ggX11_free_J6_bitCount_0f7a4 : GoodIn wsX11_free wsJ6_bitCount_0f7a4 := goodIn_r _ [34, 35, 36, 37] (by decide +kernel) (by decide +kernel)
set_option maxRecDepth 20000 in
theorem gX11_free_J6_bitCount_0f7a4 : GoodIn wsX11_free (va_wsS RX11 159 yJ6_bitCount_0f7a4 wsJ6_bitCount_0f7a4) := goodIn_app (goodIn_of _ (by decide +kernel)) ggX11_free_J6_bitCount_0f7a4
theorem dX11_free_0 : decode cX11_free 0 = .ok (.aload_n 0, 1) := by decide +kernel
theorem dX11_free_1 : decode cX11_free 1 = .ok (.getfield 26, 3) := by decide +kernel
theorem dX11_free_4 : decode cX11_free 4 = .ok (.iload_n 1, 1) := by decide +kernel
theorem dX11_free_5 : decode cX11_free 5 = .ok (.invokevirtual 140, 3) := by decide +kernel
theorem dX11_free_8 : decode cX11_free 8 = .ok (.ifCond .eq 14, 3) := by decide +kernel
theorem dX11_free_11 : decode cX11_free 11 = .ok (.aload_n 0, 1) := by decide +kernel
theorem dX11_free_12 : decode cX11_free 12 = .ok (.getfield 19, 3) := by decide +kernel
theorem dX11_free_15 : decode cX11_free 15 = .ok (.iload_n 2, 1) := by decide +kernel
theorem dX11_free_16 : decode cX11_free 16 = .ok (.invokevirtual 79, 3) := by decide +kernel
theorem dX11_free_19 : decode cX11_free 19 = .ok (.ifnonnull 6, 3) := by decide +kernel
theorem dX11_free_22 : decode cX11_free 22 = .ok (.bipush (-101), 2) := by decide +kernel
theorem dX11_free_24 : decode cX11_free 24 = .ok (.ireturn, 1) := by decide +kernel
theorem dX11_free_25 : decode cX11_free 25 = .ok (.aload_n 0, 1) := by decide +kernel
theorem dX11_free_26 : decode cX11_free 26 = .ok (.getfield 26, 3) := by decide +kernel
theorem dX11_free_29 : decode cX11_free 29 = .ok (.iload_n 1, 1) := by decide +kernel
theorem dX11_free_30 : decode cX11_free 30 = .ok (.invokevirtual 146, 3) := by decide +kernel
theorem dX11_free_33 : decode cX11_free 33 = .ok (.istore_n 3, 1) := by decide +kernel
theorem dX11_free_34 : decode cX11_free 34 = .ok (.iload_n 3, 1) := by decide +kernel
theorem dX11_free_35 : decode cX11_free 35 = .ok (.iload_n 2, 1) := by decide +kernel
theorem dX11_free_36 : decode cX11_free 36 = .ok (.invokestatic 152, 3) := by decide +kernel
theorem dX11_free_39 : decode cX11_free 39 = .ok (.ifCond .ne 6, 3) := by decide +kernel
theorem dX11_free_42 : decode cX11_free 42 = .ok (.bipush (-103), 2) := by decide +kernel
theorem dX11_free_44 : decode cX11_free 44 = .ok (.ireturn, 1) := by decide +kernel
theorem dX11_free_45 : decode cX11_free 45 = .ok (.aload_n 0, 1) := by decide +kernel
theorem dX11_free_46 : decode cX11_free 46 = .ok (.getfield 26, 3) := by decide +kernel
theorem dX11_free_49 : decode cX11_free 49 = .ok (.iload_n 1, 1) := by decide +kernel
theorem dX11_free_50 : decode cX11_free 50 = .ok (.iload_n 2, 1) := by decide +kernel
theorem dX11_free_51 : decode cX11_free 51 = .ok (.invokevirtual 155, 3) := by decide +kernel
theorem dX11_free_54 : decode cX11_free 54 = .ok (.aload_n 0, 1) := by decide +kernel
theorem dX11_free_55 : decode cX11_free 55 = .ok (.getfield 26, 3) := by decide +kernel
theorem dX11_free_58 : decode cX11_free 58 = .ok (.iload_n 1, 1) := by decide +kernel
theorem dX11_free_59 : decode cX11_free 59 = .ok (.invokevirtual 146, 3) := by decide +kernel
theorem dX11_free_62 : decode cX11_free 62 = .ok (.invokestatic 159, 3) := by decide +kernel
theorem dX11_free_65 : decode cX11_free 65 = .ok (.ireturn, 1) := by decide +kernel
set_option maxRecDepth 20000 in
theorem ggX11_owes_X10_one : GoodIn wsX11_owes wsX10_one := goodIn_r _ [7, 8, 9, 54, 55, 56] (by decide +kernel) (by decide +kernel)
set_option maxRecDepth 20000 in
theorem gX11_owes_X10_one : GoodIn wsX11_owes (wsV RX11 79 RX10 yX10_one wsX10_one) := goodIn_app (goodIn_of _ (by decide +kernel)) ggX11_owes_X10_one
set_option maxRecDepth 20000 in
theorem ggX11_owes_X2_partsOwedBy : GoodIn wsX11_owes wsX2_partsOwedBy := goodIn_r _ [14, 15, 16, 17, 18, 13, 19, 20, 21, 22, 23, 24, 25, 26, 27, 28, 29, 30, 31, 32, 33, 34, 35, 36, 37, 38, 39, 40, 41, 57, 58, 59, 60, 61, 62, 63] (by decide +kernel) (by decide +kernel)
set_option maxRecDepth 20000 in
theorem gX11_owes_X2_partsOwedBy : GoodIn wsX11_owes (wsV RX11 164 RX2 yX2_partsOwedBy wsX2_partsOwedBy) := goodIn_app (goodIn_of _ (by decide +kernel)) ggX11_owes_X2_partsOwedBy
set_option maxRecDepth 20000 in
theorem ggX11_owes_X11_lowest : GoodIn wsX11_owes wsX11_lowest := goodIn_r _ [44] (by decide +kernel) (by decide +kernel)
set_option maxRecDepth 20000 in
theorem gX11_owes_X11_lowest : GoodIn wsX11_owes (va_wsS RX11 167 yX11_lowest wsX11_lowest) := goodIn_app (goodIn_of _ (by decide +kernel)) ggX11_owes_X11_lowest
theorem dX11_owes_0 : decode cX11_owes 0 = .ok (.aload_n 0, 1) := by decide +kernel
theorem dX11_owes_1 : decode cX11_owes 1 = .ok (.getfield 19, 3) := by decide +kernel
theorem dX11_owes_4 : decode cX11_owes 4 = .ok (.iload_n 1, 1) := by decide +kernel
theorem dX11_owes_5 : decode cX11_owes 5 = .ok (.invokevirtual 79, 3) := by decide +kernel
theorem dX11_owes_8 : decode cX11_owes 8 = .ok (.ifnonnull 6, 3) := by decide +kernel
theorem dX11_owes_11 : decode cX11_owes 11 = .ok (.bipush (-101), 2) := by decide +kernel
theorem dX11_owes_13 : decode cX11_owes 13 = .ok (.ireturn, 1) := by decide +kernel
theorem dX11_owes_14 : decode cX11_owes 14 = .ok (.iload_n 2, 1) := by decide +kernel
theorem dX11_owes_15 : decode cX11_owes 15 = .ok (.ifCond .lt 8, 3) := by decide +kernel
theorem dX11_owes_18 : decode cX11_owes 18 = .ok (.iload_n 2, 1) := by decide +kernel
theorem dX11_owes_19 : decode cX11_owes 19 = .ok (.iconst 1, 1) := by decide +kernel
theorem dX11_owes_20 : decode cX11_owes 20 = .ok (.if_icmp .le 6, 3) := by decide +kernel
theorem dX11_owes_23 : decode cX11_owes 23 = .ok (.bipush (-102), 2) := by decide +kernel
theorem dX11_owes_25 : decode cX11_owes 25 = .ok (.ireturn, 1) := by decide +kernel
theorem dX11_owes_26 : decode cX11_owes 26 = .ok (.aload_n 0, 1) := by decide +kernel
theorem dX11_owes_27 : decode cX11_owes 27 = .ok (.getfield 26, 3) := by decide +kernel
theorem dX11_owes_30 : decode cX11_owes 30 = .ok (.iload_n 1, 1) := by decide +kernel
theorem dX11_owes_31 : decode cX11_owes 31 = .ok (.invokevirtual 164, 3) := by decide +kernel
theorem dX11_owes_34 : decode cX11_owes 34 = .ok (.istore_n 3, 1) := by decide +kernel
theorem dX11_owes_35 : decode cX11_owes 35 = .ok (.iload_n 2, 1) := by decide +kernel
theorem dX11_owes_36 : decode cX11_owes 36 = .ok (.ifCond .ne 7, 3) := by decide +kernel
theorem dX11_owes_39 : decode cX11_owes 39 = .ok (.iload_n 3, 1) := by decide +kernel
theorem dX11_owes_40 : decode cX11_owes 40 = .ok (.goto 5, 3) := by decide +kernel
theorem dX11_owes_43 : decode cX11_owes 43 = .ok (.bipush 60, 2) := by decide +kernel
theorem dX11_owes_45 : decode cX11_owes 45 = .ok (.iload_n 3, 1) := by decide +kernel
theorem dX11_owes_46 : decode cX11_owes 46 = .ok (.invokestatic 167, 3) := by decide +kernel
theorem dX11_owes_49 : decode cX11_owes 49 = .ok (.ireturn, 1) := by decide +kernel
set_option maxRecDepth 20000 in
theorem ggX11_way_X11_penOf : GoodIn wsX11_way wsX11_penOf := goodIn_r _ [8, 1, 9, 10, 11, 12, 13, 14, 15, 16, 17, 18, 19, 20, 21, 22, 152, 153, 154, 155, 156, 157, 158, 159, 160, 161, 162, 163, 164, 165, 166, 167, 168, 169, 170] (by decide +kernel) (by decide +kernel)
set_option maxRecDepth 20000 in
theorem gX11_way_X11_penOf : GoodIn wsX11_way (wsV RX11 83 RX11 yX11_penOf wsX11_penOf) := goodIn_app (goodIn_of _ (by decide +kernel)) ggX11_way_X11_penOf
set_option maxRecDepth 20000 in
theorem ggX11_way_X10_everyone : GoodIn wsX11_way wsX10_everyone := goodIn_r _ [26, 15, 161, 162, 163] (by decide +kernel) (by decide +kernel)
set_option maxRecDepth 20000 in
theorem gX11_way_X10_everyone : GoodIn wsX11_way (wsV RX11 171 RX10 yX10_everyone wsX10_everyone) := goodIn_app (goodIn_of _ (by decide +kernel)) ggX11_way_X10_everyone
set_option maxRecDepth 20000 in
theorem ggX11_way_X8_seek : GoodIn wsX11_way wsX8_seek := goodIn_r _ [31, 32, 33, 34, 35, 36, 37, 38, 39, 40, 41, 42, 43, 44, 45, 46, 47, 48, 30, 49, 50, 51, 52, 13, 53, 54, 55, 56, 57, 58, 59, 60, 61, 62, 63, 64, 65, 66, 67, 68, 69, 70, 11, 12, 14, 15, 16, 71, 7, 72, 73, 74, 75, 76, 77, 78, 79, 80, 81, 82, 83, 84, 85, 86, 87, 88, 89, 90, 91, 92, 93, 94, 95, 96, 97, 98, 99, 100, 101, 102, 103, 104, 105, 106, 107, 108, 109, 110, 111, 112, 113, 114, 115, 116, 117, 118, 119, 120, 121, 122, 123, 124, 125, 126, 127, 128, 129, 130, 131, 132, 133, 134, 135, 136, 137, 138, 139, 140, 141, 142, 143, 171, 172, 173, 174, 175, 176, 177, 178, 161, 162, 163] (by decide +kernel) (by decide +kernel)
set_option maxRecDepth 20000 in
theorem gX11_way_X8_seek : GoodIn wsX11_way (wsV RX11 177 RX8 yX8_seek wsX8_seek) := goodIn_app (goodIn_of _ (by decide +kernel)) ggX11_way_X8_seek
set_option maxRecDepth 20000 in
theorem ggX11_way_X8_fewest : GoodIn wsX11_way wsX8_fewest := goodIn_r _ [147, 33, 171, 172, 173, 174, 175, 176] (by decide +kernel) (by decide +kernel)
set_option maxRecDepth 20000 in
theorem gX11_way_X8_fewest : GoodIn wsX11_way (wsV RX11 181 RX8 yX8_fewest wsX8_fewest) := goodIn_app (goodIn_of _ (by decide +kernel)) ggX11_way_X8_fewest
set_option maxRecDepth 20000 in
theorem ggX11_way_X8_first : GoodIn wsX11_way wsX8_first := goodIn_r _ [151, 34, 171, 172, 173, 174, 175, 176] (by decide +kernel) (by decide +kernel)
set_option maxRecDepth 20000 in
theorem gX11_way_X8_first : GoodIn wsX11_way (wsV RX11 184 RX8 yX8_first wsX8_first) := goodIn_app (goodIn_of _ (by decide +kernel)) ggX11_way_X8_first
theorem dX11_way_0 : decode cX11_way 0 = .ok (.aload_n 0, 1) := by decide +kernel
theorem dX11_way_1 : decode cX11_way 1 = .ok (.iload_n 1, 1) := by decide +kernel
theorem dX11_way_2 : decode cX11_way 2 = .ok (.invokevirtual 83, 3) := by decide +kernel
theorem dX11_way_5 : decode cX11_way 5 = .ok (.astore 4, 2) := by decide +kernel
theorem dX11_way_7 : decode cX11_way 7 = .ok (.aload 4, 2) := by decide +kernel
theorem dX11_way_9 : decode cX11_way 9 = .ok (.ifnonnull 6, 3) := by decide +kernel
theorem dX11_way_12 : decode cX11_way 12 = .ok (.bipush (-101), 2) := by decide +kernel
theorem dX11_way_14 : decode cX11_way 14 = .ok (.ireturn, 1) := by decide +kernel
theorem dX11_way_15 : decode cX11_way 15 = .ok (.iload_n 2, 1) := by decide +kernel
theorem dX11_way_16 : decode cX11_way 16 = .ok (.ifCond .lt 23, 3) := by decide +kernel
theorem dX11_way_19 : decode cX11_way 19 = .ok (.iload_n 2, 1) := by decide +kernel
theorem dX11_way_20 : decode cX11_way 20 = .ok (.aload_n 0, 1) := by decide +kernel
theorem dX11_way_21 : decode cX11_way 21 = .ok (.getfield 19, 3) := by decide +kernel
theorem dX11_way_24 : decode cX11_way 24 = .ok (.invokevirtual 171, 3) := by decide +kernel
theorem dX11_way_27 : decode cX11_way 27 = .ok (.if_icmp .gt 12, 3) := by decide +kernel
theorem dX11_way_30 : decode cX11_way 30 = .ok (.iload_n 3, 1) := by decide +kernel
theorem dX11_way_31 : decode cX11_way 31 = .ok (.ifCond .lt 8, 3) := by decide +kernel
theorem dX11_way_34 : decode cX11_way 34 = .ok (.iload_n 3, 1) := by decide +kernel
theorem dX11_way_35 : decode cX11_way 35 = .ok (.iconst 1, 1) := by decide +kernel
theorem dX11_way_36 : decode cX11_way 36 = .ok (.if_icmp .le 6, 3) := by decide +kernel
theorem dX11_way_39 : decode cX11_way 39 = .ok (.bipush (-102), 2) := by decide +kernel
theorem dX11_way_41 : decode cX11_way 41 = .ok (.ireturn, 1) := by decide +kernel
theorem dX11_way_42 : decode cX11_way 42 = .ok (.aload_n 0, 1) := by decide +kernel
theorem dX11_way_43 : decode cX11_way 43 = .ok (.getfield 174, 3) := by decide +kernel
theorem dX11_way_46 : decode cX11_way 46 = .ok (.bipush 40, 2) := by decide +kernel
theorem dX11_way_48 : decode cX11_way 48 = .ok (.if_icmp .lt 6, 3) := by decide +kernel
theorem dX11_way_51 : decode cX11_way 51 = .ok (.bipush (-103), 2) := by decide +kernel
theorem dX11_way_53 : decode cX11_way 53 = .ok (.ireturn, 1) := by decide +kernel
theorem dX11_way_54 : decode cX11_way 54 = .ok (.aload_n 0, 1) := by decide +kernel
theorem dX11_way_55 : decode cX11_way 55 = .ok (.dup, 1) := by decide +kernel
theorem dX11_way_56 : decode cX11_way 56 = .ok (.getfield 174, 3) := by decide +kernel
theorem dX11_way_59 : decode cX11_way 59 = .ok (.iconst 1, 1) := by decide +kernel
theorem dX11_way_60 : decode cX11_way 60 = .ok (.iadd, 1) := by decide +kernel
theorem dX11_way_61 : decode cX11_way 61 = .ok (.putfield 174, 3) := by decide +kernel
theorem dX11_way_64 : decode cX11_way 64 = .ok (.aload_n 0, 1) := by decide +kernel
theorem dX11_way_65 : decode cX11_way 65 = .ok (.getfield 36, 3) := by decide +kernel
theorem dX11_way_68 : decode cX11_way 68 = .ok (.aload_n 0, 1) := by decide +kernel
theorem dX11_way_69 : decode cX11_way 69 = .ok (.getfield 19, 3) := by decide +kernel
theorem dX11_way_72 : decode cX11_way 72 = .ok (.aload 4, 2) := by decide +kernel
theorem dX11_way_74 : decode cX11_way 74 = .ok (.iload_n 2, 1) := by decide +kernel
theorem dX11_way_75 : decode cX11_way 75 = .ok (.invokevirtual 177, 3) := by decide +kernel
theorem dX11_way_78 : decode cX11_way 78 = .ok (.iload_n 3, 1) := by decide +kernel
theorem dX11_way_79 : decode cX11_way 79 = .ok (.ifCond .ne 13, 3) := by decide +kernel
theorem dX11_way_82 : decode cX11_way 82 = .ok (.aload_n 0, 1) := by decide +kernel
theorem dX11_way_83 : decode cX11_way 83 = .ok (.getfield 36, 3) := by decide +kernel
theorem dX11_way_86 : decode cX11_way 86 = .ok (.invokevirtual 181, 3) := by decide +kernel
theorem dX11_way_89 : decode cX11_way 89 = .ok (.goto 10, 3) := by decide +kernel
theorem dX11_way_92 : decode cX11_way 92 = .ok (.aload_n 0, 1) := by decide +kernel
theorem dX11_way_93 : decode cX11_way 93 = .ok (.getfield 36, 3) := by decide +kernel
theorem dX11_way_96 : decode cX11_way 96 = .ok (.invokevirtual 184, 3) := by decide +kernel
theorem dX11_way_99 : decode cX11_way 99 = .ok (.ireturn, 1) := by decide +kernel
set_option maxRecDepth 20000 in
theorem ggX11_find_X10_isEmpty : GoodIn wsX11_find wsX10_isEmpty := goodIn_r _ [7, 8, 50, 51, 52] (by decide +kernel) (by decide +kernel)
set_option maxRecDepth 20000 in
theorem gX11_find_X10_isEmpty : GoodIn wsX11_find (wsV RX11 187 RX10 yX10_isEmpty wsX10_isEmpty) := goodIn_app (goodIn_of _ (by decide +kernel)) ggX11_find_X10_isEmpty
set_option maxRecDepth 20000 in
theorem ggX11_find_X10_everyone : GoodIn wsX11_find wsX10_everyone := goodIn_r _ [12, 8, 50, 51, 52] (by decide +kernel) (by decide +kernel)
set_option maxRecDepth 20000 in
theorem gX11_find_X10_everyone : GoodIn wsX11_find (wsV RX11 171 RX10 yX10_everyone wsX10_everyone) := goodIn_app (goodIn_of _ (by decide +kernel)) ggX11_find_X10_everyone
set_option maxRecDepth 20000 in
theorem ggX11_find_X2_fewestBreakers : GoodIn wsX11_find wsX2_fewestBreakers := goodIn_r _ [17, 18, 19, 20, 21, 22, 23, 24, 25, 26, 27, 16, 28, 29, 30, 31, 32, 33, 34, 35, 36, 37, 38, 39, 53, 54, 55, 56, 57, 58, 59] (by decide +kernel) (by decide +kernel)
set_option maxRecDepth 20000 in
theorem gX11_find_X2_fewestBreakers : GoodIn wsX11_find (wsV RX11 190 RX2 yX2_fewestBreakers wsX2_fewestBreakers) := goodIn_app (goodIn_of _ (by decide +kernel)) ggX11_find_X2_fewestBreakers
set_option maxRecDepth 20000 in
theorem ggX11_find_J6_bitCount_0f7a4 : GoodIn wsX11_find wsJ6_bitCount_0f7a4 := goodIn_r _ [21, 22, 23, 24] (by decide +kernel) (by decide +kernel)
set_option maxRecDepth 20000 in
theorem gX11_find_J6_bitCount_0f7a4 : GoodIn wsX11_find (va_wsS RX11 159 yJ6_bitCount_0f7a4 wsJ6_bitCount_0f7a4) := goodIn_app (goodIn_of _ (by decide +kernel)) ggX11_find_J6_bitCount_0f7a4
theorem dX11_find_0 : decode cX11_find 0 = .ok (.iload_n 1, 1) := by decide +kernel
theorem dX11_find_1 : decode cX11_find 1 = .ok (.ifCond .lt 8, 3) := by decide +kernel
theorem dX11_find_4 : decode cX11_find 4 = .ok (.iload_n 1, 1) := by decide +kernel
theorem dX11_find_5 : decode cX11_find 5 = .ok (.iconst 1, 1) := by decide +kernel
theorem dX11_find_6 : decode cX11_find 6 = .ok (.if_icmp .le 6, 3) := by decide +kernel
theorem dX11_find_9 : decode cX11_find 9 = .ok (.bipush (-102), 2) := by decide +kernel
theorem dX11_find_11 : decode cX11_find 11 = .ok (.ireturn, 1) := by decide +kernel
theorem dX11_find_12 : decode cX11_find 12 = .ok (.aload_n 0, 1) := by decide +kernel
theorem dX11_find_13 : decode cX11_find 13 = .ok (.getfield 19, 3) := by decide +kernel
theorem dX11_find_16 : decode cX11_find 16 = .ok (.invokevirtual 187, 3) := by decide +kernel
theorem dX11_find_19 : decode cX11_find 19 = .ok (.ifCond .eq 6, 3) := by decide +kernel
theorem dX11_find_22 : decode cX11_find 22 = .ok (.bipush (-103), 2) := by decide +kernel
theorem dX11_find_24 : decode cX11_find 24 = .ok (.ireturn, 1) := by decide +kernel
theorem dX11_find_25 : decode cX11_find 25 = .ok (.aload_n 0, 1) := by decide +kernel
theorem dX11_find_26 : decode cX11_find 26 = .ok (.getfield 26, 3) := by decide +kernel
theorem dX11_find_29 : decode cX11_find 29 = .ok (.aload_n 0, 1) := by decide +kernel
theorem dX11_find_30 : decode cX11_find 30 = .ok (.getfield 19, 3) := by decide +kernel
theorem dX11_find_33 : decode cX11_find 33 = .ok (.invokevirtual 171, 3) := by decide +kernel
theorem dX11_find_36 : decode cX11_find 36 = .ok (.invokevirtual 190, 3) := by decide +kernel
theorem dX11_find_39 : decode cX11_find 39 = .ok (.istore_n 2, 1) := by decide +kernel
theorem dX11_find_40 : decode cX11_find 40 = .ok (.iload_n 1, 1) := by decide +kernel
theorem dX11_find_41 : decode cX11_find 41 = .ok (.ifCond .ne 10, 3) := by decide +kernel
theorem dX11_find_44 : decode cX11_find 44 = .ok (.iload_n 2, 1) := by decide +kernel
theorem dX11_find_45 : decode cX11_find 45 = .ok (.invokestatic 159, 3) := by decide +kernel
theorem dX11_find_48 : decode cX11_find 48 = .ok (.goto 4, 3) := by decide +kernel
theorem dX11_find_51 : decode cX11_find 51 = .ok (.iload_n 2, 1) := by decide +kernel
theorem dX11_find_52 : decode cX11_find 52 = .ok (.ireturn, 1) := by decide +kernel
set_option maxRecDepth 20000 in
theorem ggX11_hear_X10_one : GoodIn wsX11_hear wsX10_one := goodIn_r _ [7, 8, 9, 31, 32, 33] (by decide +kernel) (by decide +kernel)
set_option maxRecDepth 20000 in
theorem gX11_hear_X10_one : GoodIn wsX11_hear (wsV RX11 79 RX10 yX10_one wsX10_one) := goodIn_app (goodIn_of _ (by decide +kernel)) ggX11_hear_X10_one
set_option maxRecDepth 20000 in
theorem ggX11_hear_X2_addHeard : GoodIn wsX11_hear wsX2_addHeard := goodIn_r _ [14, 15, 16, 17, 34, 35, 36, 37, 38, 39, 40] (by decide +kernel) (by decide +kernel)
set_option maxRecDepth 20000 in
theorem gX11_hear_X2_addHeard : GoodIn wsX11_hear (wsV RX11 193 RX2 yX2_addHeard wsX2_addHeard) := goodIn_app (goodIn_of _ (by decide +kernel)) ggX11_hear_X2_addHeard
set_option maxRecDepth 20000 in
theorem ggX11_hear_X2_heard : GoodIn wsX11_hear wsX2_heard := goodIn_r _ [21, 15, 34, 35, 36, 37, 38, 39, 40] (by decide +kernel) (by decide +kernel)
set_option maxRecDepth 20000 in
theorem gX11_hear_X2_heard : GoodIn wsX11_hear (wsV RX11 197 RX2 yX2_heard wsX2_heard) := goodIn_app (goodIn_of _ (by decide +kernel)) ggX11_hear_X2_heard
theorem dX11_hear_0 : decode cX11_hear 0 = .ok (.aload_n 0, 1) := by decide +kernel
theorem dX11_hear_1 : decode cX11_hear 1 = .ok (.getfield 19, 3) := by decide +kernel
theorem dX11_hear_4 : decode cX11_hear 4 = .ok (.iload_n 1, 1) := by decide +kernel
theorem dX11_hear_5 : decode cX11_hear 5 = .ok (.invokevirtual 79, 3) := by decide +kernel
theorem dX11_hear_8 : decode cX11_hear 8 = .ok (.ifnonnull 6, 3) := by decide +kernel
theorem dX11_hear_11 : decode cX11_hear 11 = .ok (.bipush (-101), 2) := by decide +kernel
theorem dX11_hear_13 : decode cX11_hear 13 = .ok (.ireturn, 1) := by decide +kernel
theorem dX11_hear_14 : decode cX11_hear 14 = .ok (.aload_n 0, 1) := by decide +kernel
theorem dX11_hear_15 : decode cX11_hear 15 = .ok (.getfield 26, 3) := by decide +kernel
theorem dX11_hear_18 : decode cX11_hear 18 = .ok (.iload_n 1, 1) := by decide +kernel
theorem dX11_hear_19 : decode cX11_hear 19 = .ok (.iload_n 2, 1) := by decide +kernel
theorem dX11_hear_20 : decode cX11_hear 20 = .ok (.invokevirtual 193, 3) := by decide +kernel
theorem dX11_hear_23 : decode cX11_hear 23 = .ok (.ifCond .eq 13, 3) := by decide +kernel
theorem dX11_hear_26 : decode cX11_hear 26 = .ok (.aload_n 0, 1) := by decide +kernel
theorem dX11_hear_27 : decode cX11_hear 27 = .ok (.getfield 26, 3) := by decide +kernel
theorem dX11_hear_30 : decode cX11_hear 30 = .ok (.invokevirtual 197, 3) := by decide +kernel
theorem dX11_hear_33 : decode cX11_hear 33 = .ok (.goto 5, 3) := by decide +kernel
theorem dX11_hear_36 : decode cX11_hear 36 = .ok (.bipush (-104), 2) := by decide +kernel
theorem dX11_hear_38 : decode cX11_hear 38 = .ok (.ireturn, 1) := by decide +kernel
set_option maxRecDepth 20000 in
theorem ggX11_forget_X2_heard : GoodIn wsX11_forget wsX2_heard := goodIn_r _ [6, 7, 23, 24, 25, 26, 27, 28, 29] (by decide +kernel) (by decide +kernel)
set_option maxRecDepth 20000 in
theorem gX11_forget_X2_heard : GoodIn wsX11_forget (wsV RX11 197 RX2 yX2_heard wsX2_heard) := goodIn_app (goodIn_of _ (by decide +kernel)) ggX11_forget_X2_heard
set_option maxRecDepth 20000 in
theorem ggX11_forget_X2_clearHeard : GoodIn wsX11_forget wsX2_clearHeard := goodIn_r _ [11, 7, 12, 13, 23, 24, 25, 26, 27, 28, 29] (by decide +kernel) (by decide +kernel)
set_option maxRecDepth 20000 in
theorem gX11_forget_X2_clearHeard : GoodIn wsX11_forget (wsV RX11 200 RX2 yX2_clearHeard wsX2_clearHeard) := goodIn_app (goodIn_of _ (by decide +kernel)) ggX11_forget_X2_clearHeard
theorem dX11_forget_0 : decode cX11_forget 0 = .ok (.aload_n 0, 1) := by decide +kernel
theorem dX11_forget_1 : decode cX11_forget 1 = .ok (.getfield 26, 3) := by decide +kernel
theorem dX11_forget_4 : decode cX11_forget 4 = .ok (.invokevirtual 197, 3) := by decide +kernel
theorem dX11_forget_7 : decode cX11_forget 7 = .ok (.istore_n 1, 1) := by decide +kernel
theorem dX11_forget_8 : decode cX11_forget 8 = .ok (.aload_n 0, 1) := by decide +kernel
theorem dX11_forget_9 : decode cX11_forget 9 = .ok (.getfield 26, 3) := by decide +kernel
theorem dX11_forget_12 : decode cX11_forget 12 = .ok (.invokevirtual 200, 3) := by decide +kernel
theorem dX11_forget_15 : decode cX11_forget 15 = .ok (.iload_n 1, 1) := by decide +kernel
theorem dX11_forget_16 : decode cX11_forget 16 = .ok (.ireturn, 1) := by decide +kernel
set_option maxRecDepth 20000 in
theorem ggX11_hands_X11_penOf : GoodIn wsX11_hands wsX11_penOf := goodIn_r _ [8, 2, 3, 9, 10, 11, 12, 13, 14, 15, 16, 17, 18, 19, 20, 21, 163, 164, 165, 166, 167, 168, 169, 170, 171, 172, 173, 174, 175, 176, 177, 178, 179, 180, 181] (by decide +kernel) (by decide +kernel)
set_option maxRecDepth 20000 in
theorem gX11_hands_X11_penOf : GoodIn wsX11_hands (wsV RX11 83 RX11 yX11_penOf wsX11_penOf) := goodIn_app (goodIn_of _ (by decide +kernel)) ggX11_hands_X11_penOf
set_option maxRecDepth 20000 in
theorem ggX11_hands_X8_tally : GoodIn wsX11_hands wsX8_tally := goodIn_r _ [26, 27, 28, 29, 30, 31, 32, 33, 34, 35, 36, 37, 38, 39, 40, 41, 42, 43, 44, 45, 46, 47, 48, 25, 49, 50, 51, 52, 12, 53, 54, 55, 56, 57, 58, 59, 60, 61, 62, 63, 64, 65, 66, 67, 68, 69, 70, 10, 11, 13, 14, 15, 71, 7, 72, 73, 74, 75, 76, 77, 78, 79, 80, 81, 82, 83, 84, 85, 86, 87, 88, 89, 90, 91, 92, 93, 94, 95, 96, 97, 98, 99, 100, 101, 102, 103, 104, 105, 106, 107, 108, 19, 109, 110, 111, 112, 113, 114, 115, 116, 117, 118, 119, 120, 121, 122, 123, 124, 125, 126, 127, 128, 129, 130, 131, 132, 133, 134, 135, 136, 137, 138, 139, 140, 141, 142, 143, 144, 145, 146, 147, 148, 149, 150, 151, 152, 153, 154, 182, 183, 184, 185, 186, 187, 188, 189, 172, 173, 174, 175, 176, 177, 178, 179, 180, 181] (by decide +kernel) (by decide +kernel)
set_option maxRecDepth 20000 in
theorem gX11_hands_X8_tally : GoodIn wsX11_hands (wsV RX11 203 RX8 yX8_tally wsX8_tally) := goodIn_app (goodIn_of _ (by decide +kernel)) ggX11_hands_X8_tally
set_option maxRecDepth 20000 in
theorem ggX11_hands_X8_ways : GoodIn wsX11_hands wsX8_ways := goodIn_r _ [158, 28, 182, 183, 184, 185, 186, 187] (by decide +kernel) (by decide +kernel)
set_option maxRecDepth 20000 in
theorem gX11_hands_X8_ways : GoodIn wsX11_hands (wsV RX11 207 RX8 yX8_ways wsX8_ways) := goodIn_app (goodIn_of _ (by decide +kernel)) ggX11_hands_X8_ways
set_option maxRecDepth 20000 in
theorem ggX11_hands_X8_holders : GoodIn wsX11_hands wsX8_holders := goodIn_r _ [162, 29, 182, 183, 184, 185, 186, 187] (by decide +kernel) (by decide +kernel)
set_option maxRecDepth 20000 in
theorem gX11_hands_X8_holders : GoodIn wsX11_hands (wsV RX11 210 RX8 yX8_holders wsX8_holders) := goodIn_app (goodIn_of _ (by decide +kernel)) ggX11_hands_X8_holders
theorem dX11_hands_0 : decode cX11_hands 0 = .ok (.aload_n 0, 1) := by decide +kernel
theorem dX11_hands_1 : decode cX11_hands 1 = .ok (.iload_n 1, 1) := by decide +kernel
theorem dX11_hands_2 : decode cX11_hands 2 = .ok (.invokevirtual 83, 3) := by decide +kernel
theorem dX11_hands_5 : decode cX11_hands 5 = .ok (.astore 4, 2) := by decide +kernel
theorem dX11_hands_7 : decode cX11_hands 7 = .ok (.aload 4, 2) := by decide +kernel
theorem dX11_hands_9 : decode cX11_hands 9 = .ok (.ifnonnull 6, 3) := by decide +kernel
theorem dX11_hands_12 : decode cX11_hands 12 = .ok (.bipush (-101), 2) := by decide +kernel
theorem dX11_hands_14 : decode cX11_hands 14 = .ok (.ireturn, 1) := by decide +kernel
theorem dX11_hands_15 : decode cX11_hands 15 = .ok (.iload_n 2, 1) := by decide +kernel
theorem dX11_hands_16 : decode cX11_hands 16 = .ok (.ifCond .lt 17, 3) := by decide +kernel
theorem dX11_hands_19 : decode cX11_hands 19 = .ok (.iload_n 2, 1) := by decide +kernel
theorem dX11_hands_20 : decode cX11_hands 20 = .ok (.iconst 4, 1) := by decide +kernel
theorem dX11_hands_21 : decode cX11_hands 21 = .ok (.if_icmp .gt 12, 3) := by decide +kernel
theorem dX11_hands_24 : decode cX11_hands 24 = .ok (.iload_n 3, 1) := by decide +kernel
theorem dX11_hands_25 : decode cX11_hands 25 = .ok (.ifCond .lt 8, 3) := by decide +kernel
theorem dX11_hands_28 : decode cX11_hands 28 = .ok (.iload_n 3, 1) := by decide +kernel
theorem dX11_hands_29 : decode cX11_hands 29 = .ok (.iconst 1, 1) := by decide +kernel
theorem dX11_hands_30 : decode cX11_hands 30 = .ok (.if_icmp .le 6, 3) := by decide +kernel
theorem dX11_hands_33 : decode cX11_hands 33 = .ok (.bipush (-102), 2) := by decide +kernel
theorem dX11_hands_35 : decode cX11_hands 35 = .ok (.ireturn, 1) := by decide +kernel
theorem dX11_hands_36 : decode cX11_hands 36 = .ok (.aload_n 0, 1) := by decide +kernel
theorem dX11_hands_37 : decode cX11_hands 37 = .ok (.getfield 36, 3) := by decide +kernel
theorem dX11_hands_40 : decode cX11_hands 40 = .ok (.aload_n 0, 1) := by decide +kernel
theorem dX11_hands_41 : decode cX11_hands 41 = .ok (.getfield 19, 3) := by decide +kernel
theorem dX11_hands_44 : decode cX11_hands 44 = .ok (.aload 4, 2) := by decide +kernel
theorem dX11_hands_46 : decode cX11_hands 46 = .ok (.iload_n 2, 1) := by decide +kernel
theorem dX11_hands_47 : decode cX11_hands 47 = .ok (.aload_n 0, 1) := by decide +kernel
theorem dX11_hands_48 : decode cX11_hands 48 = .ok (.getfield 26, 3) := by decide +kernel
theorem dX11_hands_51 : decode cX11_hands 51 = .ok (.invokevirtual 203, 3) := by decide +kernel
theorem dX11_hands_54 : decode cX11_hands 54 = .ok (.iload_n 3, 1) := by decide +kernel
theorem dX11_hands_55 : decode cX11_hands 55 = .ok (.ifCond .ne 13, 3) := by decide +kernel
theorem dX11_hands_58 : decode cX11_hands 58 = .ok (.aload_n 0, 1) := by decide +kernel
theorem dX11_hands_59 : decode cX11_hands 59 = .ok (.getfield 36, 3) := by decide +kernel
theorem dX11_hands_62 : decode cX11_hands 62 = .ok (.invokevirtual 207, 3) := by decide +kernel
theorem dX11_hands_65 : decode cX11_hands 65 = .ok (.goto 10, 3) := by decide +kernel
theorem dX11_hands_68 : decode cX11_hands 68 = .ok (.aload_n 0, 1) := by decide +kernel
theorem dX11_hands_69 : decode cX11_hands 69 = .ok (.getfield 36, 3) := by decide +kernel
theorem dX11_hands_72 : decode cX11_hands 72 = .ok (.invokevirtual 210, 3) := by decide +kernel
theorem dX11_hands_75 : decode cX11_hands 75 = .ok (.ireturn, 1) := by decide +kernel
set_option maxRecDepth 20000 in
theorem ggX11_ask_X11_penOf : GoodIn wsX11_ask wsX11_penOf := goodIn_r _ [8, 2, 3, 9, 10, 11, 12, 13, 14, 15, 16, 17, 18, 19, 20, 21, 163, 164, 165, 166, 167, 168, 169, 170, 171, 172, 173, 174, 175, 176, 177, 178, 179, 180, 181] (by decide +kernel) (by decide +kernel)
set_option maxRecDepth 20000 in
theorem gX11_ask_X11_penOf : GoodIn wsX11_ask (wsV RX11 83 RX11 yX11_penOf wsX11_penOf) := goodIn_app (goodIn_of _ (by decide +kernel)) ggX11_ask_X11_penOf
set_option maxRecDepth 20000 in
theorem ggX11_ask_X8_tally : GoodIn wsX11_ask wsX8_tally := goodIn_r _ [26, 27, 28, 29, 30, 31, 32, 33, 34, 35, 36, 37, 38, 39, 40, 41, 42, 43, 44, 45, 46, 47, 48, 25, 49, 50, 51, 52, 12, 53, 54, 55, 56, 57, 58, 59, 60, 61, 62, 63, 64, 65, 66, 67, 68, 69, 70, 10, 11, 13, 14, 15, 71, 7, 72, 73, 74, 75, 76, 77, 78, 79, 80, 81, 82, 83, 84, 85, 86, 87, 88, 89, 90, 91, 92, 93, 94, 95, 96, 97, 98, 99, 100, 101, 102, 103, 104, 105, 106, 107, 108, 19, 109, 110, 111, 112, 113, 114, 115, 116, 117, 118, 119, 120, 121, 122, 123, 124, 125, 126, 127, 128, 129, 130, 131, 132, 133, 134, 135, 136, 137, 138, 139, 140, 141, 142, 143, 144, 145, 146, 147, 148, 149, 150, 151, 152, 153, 154, 182, 183, 184, 185, 186, 187, 188, 189, 172, 173, 174, 175, 176, 177, 178, 179, 180, 181] (by decide +kernel) (by decide +kernel)
set_option maxRecDepth 20000 in
theorem gX11_ask_X8_tally : GoodIn wsX11_ask (wsV RX11 203 RX8 yX8_tally wsX8_tally) := goodIn_app (goodIn_of _ (by decide +kernel)) ggX11_ask_X8_tally
set_option maxRecDepth 20000 in
theorem ggX11_ask_X10_size : GoodIn wsX11_ask wsX10_size := goodIn_r _ [119, 14, 172, 173, 174] (by decide +kernel) (by decide +kernel)
set_option maxRecDepth 20000 in
theorem gX11_ask_X10_size : GoodIn wsX11_ask (wsV RX11 78 RX10 yX10_size wsX10_size) := goodIn_app (goodIn_of _ (by decide +kernel)) ggX11_ask_X10_size
set_option maxRecDepth 20000 in
theorem ggX11_ask_X8_bestAsked : GoodIn wsX11_ask wsX8_bestAsked := goodIn_r _ [159, 28, 30, 160, 161, 33, 162, 182, 183, 184, 185, 186, 187] (by decide +kernel) (by decide +kernel)
set_option maxRecDepth 20000 in
theorem gX11_ask_X8_bestAsked : GoodIn wsX11_ask (wsV RX11 213 RX8 yX8_bestAsked wsX8_bestAsked) := goodIn_app (goodIn_of _ (by decide +kernel)) ggX11_ask_X8_bestAsked
theorem dX11_ask_0 : decode cX11_ask 0 = .ok (.aload_n 0, 1) := by decide +kernel
theorem dX11_ask_1 : decode cX11_ask 1 = .ok (.iload_n 1, 1) := by decide +kernel
theorem dX11_ask_2 : decode cX11_ask 2 = .ok (.invokevirtual 83, 3) := by decide +kernel
theorem dX11_ask_5 : decode cX11_ask 5 = .ok (.astore_n 3, 1) := by decide +kernel
theorem dX11_ask_6 : decode cX11_ask 6 = .ok (.aload_n 3, 1) := by decide +kernel
theorem dX11_ask_7 : decode cX11_ask 7 = .ok (.ifnonnull 6, 3) := by decide +kernel
theorem dX11_ask_10 : decode cX11_ask 10 = .ok (.bipush (-101), 2) := by decide +kernel
theorem dX11_ask_12 : decode cX11_ask 12 = .ok (.ireturn, 1) := by decide +kernel
theorem dX11_ask_13 : decode cX11_ask 13 = .ok (.iload_n 2, 1) := by decide +kernel
theorem dX11_ask_14 : decode cX11_ask 14 = .ok (.ifCond .lt 8, 3) := by decide +kernel
theorem dX11_ask_17 : decode cX11_ask 17 = .ok (.iload_n 2, 1) := by decide +kernel
theorem dX11_ask_18 : decode cX11_ask 18 = .ok (.iconst 4, 1) := by decide +kernel
theorem dX11_ask_19 : decode cX11_ask 19 = .ok (.if_icmp .le 6, 3) := by decide +kernel
theorem dX11_ask_22 : decode cX11_ask 22 = .ok (.bipush (-102), 2) := by decide +kernel
theorem dX11_ask_24 : decode cX11_ask 24 = .ok (.ireturn, 1) := by decide +kernel
theorem dX11_ask_25 : decode cX11_ask 25 = .ok (.aload_n 0, 1) := by decide +kernel
theorem dX11_ask_26 : decode cX11_ask 26 = .ok (.getfield 36, 3) := by decide +kernel
theorem dX11_ask_29 : decode cX11_ask 29 = .ok (.aload_n 0, 1) := by decide +kernel
theorem dX11_ask_30 : decode cX11_ask 30 = .ok (.getfield 19, 3) := by decide +kernel
theorem dX11_ask_33 : decode cX11_ask 33 = .ok (.aload_n 3, 1) := by decide +kernel
theorem dX11_ask_34 : decode cX11_ask 34 = .ok (.iload_n 2, 1) := by decide +kernel
theorem dX11_ask_35 : decode cX11_ask 35 = .ok (.aload_n 0, 1) := by decide +kernel
theorem dX11_ask_36 : decode cX11_ask 36 = .ok (.getfield 26, 3) := by decide +kernel
theorem dX11_ask_39 : decode cX11_ask 39 = .ok (.invokevirtual 203, 3) := by decide +kernel
theorem dX11_ask_42 : decode cX11_ask 42 = .ok (.aload_n 0, 1) := by decide +kernel
theorem dX11_ask_43 : decode cX11_ask 43 = .ok (.getfield 36, 3) := by decide +kernel
theorem dX11_ask_46 : decode cX11_ask 46 = .ok (.aload_n 0, 1) := by decide +kernel
theorem dX11_ask_47 : decode cX11_ask 47 = .ok (.getfield 19, 3) := by decide +kernel
theorem dX11_ask_50 : decode cX11_ask 50 = .ok (.invokevirtual 78, 3) := by decide +kernel
theorem dX11_ask_53 : decode cX11_ask 53 = .ok (.invokevirtual 213, 3) := by decide +kernel
theorem dX11_ask_56 : decode cX11_ask 56 = .ok (.ireturn, 1) := by decide +kernel
set_option maxRecDepth 20000 in
theorem ggX11_fairs_X10_isEmpty : GoodIn wsX11_fairs wsX10_isEmpty := goodIn_r _ [8, 9, 179, 180, 181] (by decide +kernel) (by decide +kernel)
set_option maxRecDepth 20000 in
theorem gX11_fairs_X10_isEmpty : GoodIn wsX11_fairs (wsV RX11 187 RX10 yX10_isEmpty wsX10_isEmpty) := goodIn_app (goodIn_of _ (by decide +kernel)) ggX11_fairs_X10_isEmpty
set_option maxRecDepth 20000 in
theorem ggX11_fairs_X4_open : GoodIn wsX11_fairs wsX4_open := goodIn_r _ [14, 15, 16, 17, 18, 19, 20, 21, 22, 23, 24, 25, 26, 27, 28, 29, 30, 31, 32, 33, 34, 35, 36, 37, 38, 39, 40, 41, 42, 43, 44, 45, 46, 182, 183, 184, 185, 186, 187, 188, 189, 190, 191, 192, 193, 194] (by decide +kernel) (by decide +kernel)
set_option maxRecDepth 20000 in
theorem gX11_fairs_X4_open : GoodIn wsX11_fairs (wsV RX11 216 RX4 yX4_open wsX4_open) := goodIn_app (goodIn_of _ (by decide +kernel)) ggX11_fairs_X4_open
set_option maxRecDepth 20000 in
theorem ggX11_fairs_X4_holdOne : GoodIn wsX11_fairs wsX4_holdOne := goodIn_r _ [50, 15, 17, 18, 51, 52, 53, 7, 54, 9, 55, 56, 57, 13, 58, 59, 16, 60, 61, 62, 63, 36, 37, 22, 38, 24, 64, 65, 66, 67, 68, 69, 70, 71, 72, 73, 74, 42, 75, 46, 44, 76, 77, 78, 79, 80, 81, 82, 83, 84, 85, 86, 87, 88, 89, 90, 91, 92, 93, 94, 95, 96, 97, 98, 99, 100, 101, 102, 103, 104, 105, 106, 107, 108, 109, 110, 111, 112, 113, 114, 115, 116, 117, 118, 119, 120, 121, 122, 123, 124, 125, 126, 127, 128, 129, 130, 131, 132, 133, 134, 135, 136, 137, 138, 139, 140, 141, 142, 143, 144, 145, 146, 147, 148, 149, 150, 151, 152, 153, 154, 155, 156, 157, 182, 183, 184, 185, 179, 180, 181, 186, 187, 188, 189, 190, 191, 192, 193, 194] (by decide +kernel) (by decide +kernel)
set_option maxRecDepth 20000 in
theorem gX11_fairs_X4_holdOne : GoodIn wsX11_fairs (wsV RX11 220 RX4 yX4_holdOne wsX4_holdOne) := goodIn_app (goodIn_of _ (by decide +kernel)) ggX11_fairs_X4_holdOne
set_option maxRecDepth 20000 in
theorem ggX11_fairs_X4_unsigned : GoodIn wsX11_fairs wsX4_unsigned := goodIn_r _ [161, 17, 182, 183, 184, 185] (by decide +kernel) (by decide +kernel)
set_option maxRecDepth 20000 in
theorem gX11_fairs_X4_unsigned : GoodIn wsX11_fairs (wsV RX11 224 RX4 yX4_unsigned wsX4_unsigned) := goodIn_app (goodIn_of _ (by decide +kernel)) ggX11_fairs_X4_unsigned
set_option maxRecDepth 20000 in
theorem ggX11_fairs_X4_partsOwed : GoodIn wsX11_fairs wsX4_partsOwed := goodIn_r _ [165, 18, 182, 183, 184, 185] (by decide +kernel) (by decide +kernel)
set_option maxRecDepth 20000 in
theorem gX11_fairs_X4_partsOwed : GoodIn wsX11_fairs (wsV RX11 227 RX4 yX4_partsOwed wsX4_partsOwed) := goodIn_app (goodIn_of _ (by decide +kernel)) ggX11_fairs_X4_partsOwed
set_option maxRecDepth 20000 in
theorem ggX11_fairs_X4_seed : GoodIn wsX11_fairs wsX4_seed := goodIn_r _ [169, 16, 182, 183, 184, 185] (by decide +kernel) (by decide +kernel)
set_option maxRecDepth 20000 in
theorem gX11_fairs_X4_seed : GoodIn wsX11_fairs (wsV RX11 230 RX4 yX4_seed wsX4_seed) := goodIn_app (goodIn_of _ (by decide +kernel)) ggX11_fairs_X4_seed
theorem dX11_fairs_0 : decode cX11_fairs 0 = .ok (.iload_n 1, 1) := by decide +kernel
theorem dX11_fairs_1 : decode cX11_fairs 1 = .ok (.iconst 1, 1) := by decide +kernel
theorem dX11_fairs_2 : decode cX11_fairs 2 = .ok (.if_icmp .lt 22, 3) := by decide +kernel
theorem dX11_fairs_5 : decode cX11_fairs 5 = .ok (.iload_n 1, 1) := by decide +kernel
theorem dX11_fairs_6 : decode cX11_fairs 6 = .ok (.bipush 60, 2) := by decide +kernel
theorem dX11_fairs_8 : decode cX11_fairs 8 = .ok (.if_icmp .gt 16, 3) := by decide +kernel
theorem dX11_fairs_11 : decode cX11_fairs 11 = .ok (.iload_n 2, 1) := by decide +kernel
theorem dX11_fairs_12 : decode cX11_fairs 12 = .ok (.ifCond .lt 12, 3) := by decide +kernel
theorem dX11_fairs_15 : decode cX11_fairs 15 = .ok (.iload_n 3, 1) := by decide +kernel
theorem dX11_fairs_16 : decode cX11_fairs 16 = .ok (.ifCond .lt 8, 3) := by decide +kernel
theorem dX11_fairs_19 : decode cX11_fairs 19 = .ok (.iload_n 3, 1) := by decide +kernel
theorem dX11_fairs_20 : decode cX11_fairs 20 = .ok (.iconst 2, 1) := by decide +kernel
theorem dX11_fairs_21 : decode cX11_fairs 21 = .ok (.if_icmp .le 6, 3) := by decide +kernel
theorem dX11_fairs_24 : decode cX11_fairs 24 = .ok (.bipush (-102), 2) := by decide +kernel
theorem dX11_fairs_26 : decode cX11_fairs 26 = .ok (.ireturn, 1) := by decide +kernel
theorem dX11_fairs_27 : decode cX11_fairs 27 = .ok (.aload_n 0, 1) := by decide +kernel
theorem dX11_fairs_28 : decode cX11_fairs 28 = .ok (.getfield 19, 3) := by decide +kernel
theorem dX11_fairs_31 : decode cX11_fairs 31 = .ok (.invokevirtual 187, 3) := by decide +kernel
theorem dX11_fairs_34 : decode cX11_fairs 34 = .ok (.ifCond .eq 6, 3) := by decide +kernel
theorem dX11_fairs_37 : decode cX11_fairs 37 = .ok (.bipush (-103), 2) := by decide +kernel
theorem dX11_fairs_39 : decode cX11_fairs 39 = .ok (.ireturn, 1) := by decide +kernel
theorem dX11_fairs_40 : decode cX11_fairs 40 = .ok (.aload_n 0, 1) := by decide +kernel
theorem dX11_fairs_41 : decode cX11_fairs 41 = .ok (.getfield 43, 3) := by decide +kernel
theorem dX11_fairs_44 : decode cX11_fairs 44 = .ok (.aload_n 0, 1) := by decide +kernel
theorem dX11_fairs_45 : decode cX11_fairs 45 = .ok (.getfield 26, 3) := by decide +kernel
theorem dX11_fairs_48 : decode cX11_fairs 48 = .ok (.iload_n 2, 1) := by decide +kernel
theorem dX11_fairs_49 : decode cX11_fairs 49 = .ok (.invokevirtual 216, 3) := by decide +kernel
theorem dX11_fairs_52 : decode cX11_fairs 52 = .ok (.iconst 0, 1) := by decide +kernel
theorem dX11_fairs_53 : decode cX11_fairs 53 = .ok (.istore 4, 2) := by decide +kernel
theorem dX11_fairs_55 : decode cX11_fairs 55 = .ok (.iload 4, 2) := by decide +kernel
theorem dX11_fairs_57 : decode cX11_fairs 57 = .ok (.iload_n 1, 1) := by decide +kernel
theorem dX11_fairs_58 : decode cX11_fairs 58 = .ok (.if_icmp .ge 20, 3) := by decide +kernel
theorem dX11_fairs_61 : decode cX11_fairs 61 = .ok (.aload_n 0, 1) := by decide +kernel
theorem dX11_fairs_62 : decode cX11_fairs 62 = .ok (.getfield 43, 3) := by decide +kernel
theorem dX11_fairs_65 : decode cX11_fairs 65 = .ok (.aload_n 0, 1) := by decide +kernel
theorem dX11_fairs_66 : decode cX11_fairs 66 = .ok (.getfield 19, 3) := by decide +kernel
theorem dX11_fairs_69 : decode cX11_fairs 69 = .ok (.invokevirtual 220, 3) := by decide +kernel
theorem dX11_fairs_72 : decode cX11_fairs 72 = .ok (.iinc 4 1, 3) := by decide +kernel
theorem dX11_fairs_75 : decode cX11_fairs 75 = .ok (.goto (-20), 3) := by decide +kernel
theorem dX11_fairs_78 : decode cX11_fairs 78 = .ok (.iload_n 3, 1) := by decide +kernel
theorem dX11_fairs_79 : decode cX11_fairs 79 = .ok (.lookupswitch 41 #[(0, 25), (1, 33)], 25) := by decide +kernel
theorem dX11_fairs_104 : decode cX11_fairs 104 = .ok (.aload_n 0, 1) := by decide +kernel
theorem dX11_fairs_105 : decode cX11_fairs 105 = .ok (.getfield 43, 3) := by decide +kernel
theorem dX11_fairs_108 : decode cX11_fairs 108 = .ok (.invokevirtual 224, 3) := by decide +kernel
theorem dX11_fairs_111 : decode cX11_fairs 111 = .ok (.ireturn, 1) := by decide +kernel
theorem dX11_fairs_112 : decode cX11_fairs 112 = .ok (.aload_n 0, 1) := by decide +kernel
theorem dX11_fairs_113 : decode cX11_fairs 113 = .ok (.getfield 43, 3) := by decide +kernel
theorem dX11_fairs_116 : decode cX11_fairs 116 = .ok (.invokevirtual 227, 3) := by decide +kernel
theorem dX11_fairs_119 : decode cX11_fairs 119 = .ok (.ireturn, 1) := by decide +kernel
theorem dX11_fairs_120 : decode cX11_fairs 120 = .ok (.aload_n 0, 1) := by decide +kernel
theorem dX11_fairs_121 : decode cX11_fairs 121 = .ok (.getfield 43, 3) := by decide +kernel
theorem dX11_fairs_124 : decode cX11_fairs 124 = .ok (.invokevirtual 230, 3) := by decide +kernel
theorem dX11_fairs_127 : decode cX11_fairs 127 = .ok (.ireturn, 1) := by decide +kernel
set_option maxRecDepth 20000 in
theorem ggX11_image_X10_isEmpty : GoodIn wsX11_image wsX10_isEmpty := goodIn_r _ [9, 10, 56, 57, 58] (by decide +kernel) (by decide +kernel)
set_option maxRecDepth 20000 in
theorem gX11_image_X10_isEmpty : GoodIn wsX11_image (wsV RX11 187 RX10 yX10_isEmpty wsX10_isEmpty) := goodIn_app (goodIn_of _ (by decide +kernel)) ggX11_image_X10_isEmpty
set_option maxRecDepth 20000 in
theorem ggX11_image_X2_copyFrom : GoodIn wsX11_image wsX2_copyFrom := goodIn_r _ [15, 16, 17, 18, 19, 20, 21, 22, 23, 24, 25, 26, 27, 28, 29, 14, 30, 31, 32, 33, 34, 35, 36, 37, 38, 59, 60, 61, 62, 63, 64, 65, 66, 67] (by decide +kernel) (by decide +kernel)
set_option maxRecDepth 20000 in
theorem gX11_image_X2_copyFrom : GoodIn wsX11_image (wsV RX11 233 RX2 yX2_copyFrom wsX2_copyFrom) := goodIn_app (goodIn_of _ (by decide +kernel)) ggX11_image_X2_copyFrom
set_option maxRecDepth 20000 in
theorem ggX11_image_X2_timesLent : GoodIn wsX11_image wsX2_timesLent := goodIn_r _ [42, 16, 43, 44, 45, 34, 46, 38, 59, 60, 61, 62, 63, 64, 65, 66, 67] (by decide +kernel) (by decide +kernel)
set_option maxRecDepth 20000 in
theorem gX11_image_X2_timesLent : GoodIn wsX11_image (wsV RX11 237 RX2 yX2_timesLent wsX2_timesLent) := goodIn_app (goodIn_of _ (by decide +kernel)) ggX11_image_X2_timesLent
theorem dX11_image_0 : decode cX11_image 0 = .ok (.aload_n 0, 1) := by decide +kernel
theorem dX11_image_1 : decode cX11_image 1 = .ok (.getfield 19, 3) := by decide +kernel
theorem dX11_image_4 : decode cX11_image 4 = .ok (.invokevirtual 187, 3) := by decide +kernel
theorem dX11_image_7 : decode cX11_image 7 = .ok (.ifCond .eq 6, 3) := by decide +kernel
theorem dX11_image_10 : decode cX11_image 10 = .ok (.bipush (-103), 2) := by decide +kernel
theorem dX11_image_12 : decode cX11_image 12 = .ok (.ireturn, 1) := by decide +kernel
theorem dX11_image_13 : decode cX11_image 13 = .ok (.aload_n 0, 1) := by decide +kernel
theorem dX11_image_14 : decode cX11_image 14 = .ok (.getfield 30, 3) := by decide +kernel
theorem dX11_image_17 : decode cX11_image 17 = .ok (.aload_n 0, 1) := by decide +kernel
theorem dX11_image_18 : decode cX11_image 18 = .ok (.getfield 26, 3) := by decide +kernel
theorem dX11_image_21 : decode cX11_image 21 = .ok (.invokevirtual 233, 3) := by decide +kernel
theorem dX11_image_24 : decode cX11_image 24 = .ok (.aload_n 0, 1) := by decide +kernel
theorem dX11_image_25 : decode cX11_image 25 = .ok (.iconst 1, 1) := by decide +kernel
theorem dX11_image_26 : decode cX11_image 26 = .ok (.putfield 70, 3) := by decide +kernel
theorem dX11_image_29 : decode cX11_image 29 = .ok (.aload_n 0, 1) := by decide +kernel
theorem dX11_image_30 : decode cX11_image 30 = .ok (.getfield 26, 3) := by decide +kernel
theorem dX11_image_33 : decode cX11_image 33 = .ok (.invokevirtual 237, 3) := by decide +kernel
theorem dX11_image_36 : decode cX11_image 36 = .ok (.ireturn, 1) := by decide +kernel
set_option maxRecDepth 20000 in
theorem ggX11_restore_X2_copyFrom : GoodIn wsX11_restore wsX2_copyFrom := goodIn_r _ [8, 9, 10, 11, 12, 13, 14, 15, 16, 17, 18, 19, 20, 21, 22, 7, 23, 24, 25, 26, 27, 28, 29, 30, 31, 49, 50, 51, 52, 53, 54, 55, 56, 57] (by decide +kernel) (by decide +kernel)
set_option maxRecDepth 20000 in
theorem gX11_restore_X2_copyFrom : GoodIn wsX11_restore (wsV RX11 233 RX2 yX2_copyFrom wsX2_copyFrom) := goodIn_app (goodIn_of _ (by decide +kernel)) ggX11_restore_X2_copyFrom
set_option maxRecDepth 20000 in
theorem ggX11_restore_X2_timesLent : GoodIn wsX11_restore wsX2_timesLent := goodIn_r _ [35, 9, 36, 37, 38, 27, 39, 31, 49, 50, 51, 52, 53, 54, 55, 56, 57] (by decide +kernel) (by decide +kernel)
set_option maxRecDepth 20000 in
theorem gX11_restore_X2_timesLent : GoodIn wsX11_restore (wsV RX11 237 RX2 yX2_timesLent wsX2_timesLent) := goodIn_app (goodIn_of _ (by decide +kernel)) ggX11_restore_X2_timesLent
theorem dX11_restore_0 : decode cX11_restore 0 = .ok (.aload_n 0, 1) := by decide +kernel
theorem dX11_restore_1 : decode cX11_restore 1 = .ok (.getfield 70, 3) := by decide +kernel
theorem dX11_restore_4 : decode cX11_restore 4 = .ok (.ifCond .ne 6, 3) := by decide +kernel
theorem dX11_restore_7 : decode cX11_restore 7 = .ok (.bipush (-103), 2) := by decide +kernel
theorem dX11_restore_9 : decode cX11_restore 9 = .ok (.ireturn, 1) := by decide +kernel
theorem dX11_restore_10 : decode cX11_restore 10 = .ok (.aload_n 0, 1) := by decide +kernel
theorem dX11_restore_11 : decode cX11_restore 11 = .ok (.getfield 26, 3) := by decide +kernel
theorem dX11_restore_14 : decode cX11_restore 14 = .ok (.aload_n 0, 1) := by decide +kernel
theorem dX11_restore_15 : decode cX11_restore 15 = .ok (.getfield 30, 3) := by decide +kernel
theorem dX11_restore_18 : decode cX11_restore 18 = .ok (.invokevirtual 233, 3) := by decide +kernel
theorem dX11_restore_21 : decode cX11_restore 21 = .ok (.aload_n 0, 1) := by decide +kernel
theorem dX11_restore_22 : decode cX11_restore 22 = .ok (.getfield 26, 3) := by decide +kernel
theorem dX11_restore_25 : decode cX11_restore 25 = .ok (.invokevirtual 237, 3) := by decide +kernel
theorem dX11_restore_28 : decode cX11_restore 28 = .ok (.ireturn, 1) := by decide +kernel
set_option maxRecDepth 20000 in
theorem ggX11_count_X10_size : GoodIn wsX11_count wsX10_size := goodIn_r _ [10, 11, 68, 69, 70] (by decide +kernel) (by decide +kernel)
set_option maxRecDepth 20000 in
theorem gX11_count_X10_size : GoodIn wsX11_count (wsV RX11 78 RX10 yX10_size wsX10_size) := goodIn_app (goodIn_of _ (by decide +kernel)) ggX11_count_X10_size
set_option maxRecDepth 20000 in
theorem ggX11_count_X10_limit : GoodIn wsX11_count wsX10_limit := goodIn_r _ [15, 16, 68, 69, 70] (by decide +kernel) (by decide +kernel)
set_option maxRecDepth 20000 in
theorem gX11_count_X10_limit : GoodIn wsX11_count (wsV RX11 240 RX10 yX10_limit wsX10_limit) := goodIn_app (goodIn_of _ (by decide +kernel)) ggX11_count_X10_limit
set_option maxRecDepth 20000 in
theorem ggX11_count_X2_timesLent : GoodIn wsX11_count wsX2_timesLent := goodIn_r _ [21, 22, 23, 24, 25, 26, 27, 28, 71, 72, 73, 74, 75, 76, 77, 78, 79] (by decide +kernel) (by decide +kernel)
set_option maxRecDepth 20000 in
theorem gX11_count_X2_timesLent : GoodIn wsX11_count (wsV RX11 237 RX2 yX2_timesLent wsX2_timesLent) := goodIn_app (goodIn_of _ (by decide +kernel)) ggX11_count_X2_timesLent
set_option maxRecDepth 20000 in
theorem ggX11_count_X2_deeds : GoodIn wsX11_count wsX2_deeds := goodIn_r _ [32, 33, 71, 72, 73, 74, 75, 76, 77] (by decide +kernel) (by decide +kernel)
set_option maxRecDepth 20000 in
theorem gX11_count_X2_deeds : GoodIn wsX11_count (wsV RX11 133 RX2 yX2_deeds wsX2_deeds) := goodIn_app (goodIn_of _ (by decide +kernel)) ggX11_count_X2_deeds
set_option maxRecDepth 20000 in
theorem ggX11_count_X2_voidDeeds : GoodIn wsX11_count wsX2_voidDeeds := goodIn_r _ [37, 33, 38, 39, 40, 20, 41, 42, 43, 44, 45, 46, 47, 71, 72, 73, 74, 75, 76, 77] (by decide +kernel) (by decide +kernel)
set_option maxRecDepth 20000 in
theorem gX11_count_X2_voidDeeds : GoodIn wsX11_count (wsV RX11 243 RX2 yX2_voidDeeds wsX2_voidDeeds) := goodIn_app (goodIn_of _ (by decide +kernel)) ggX11_count_X2_voidDeeds
set_option maxRecDepth 20000 in
theorem ggX11_count_X2_heard : GoodIn wsX11_count wsX2_heard := goodIn_r _ [51, 52, 71, 72, 73, 74, 75, 76, 77] (by decide +kernel) (by decide +kernel)
set_option maxRecDepth 20000 in
theorem gX11_count_X2_heard : GoodIn wsX11_count (wsV RX11 197 RX2 yX2_heard wsX2_heard) := goodIn_app (goodIn_of _ (by decide +kernel)) ggX11_count_X2_heard
set_option maxRecDepth 20000 in
theorem ggX11_count_X5_size : GoodIn wsX11_count wsX5_size := goodIn_r _ [57, 58, 80, 81] (by decide +kernel) (by decide +kernel)
set_option maxRecDepth 20000 in
theorem gX11_count_X5_size : GoodIn wsX11_count (wsV RX11 51 RX5 yX5_size wsX5_size) := goodIn_app (goodIn_of _ (by decide +kernel)) ggX11_count_X5_size
theorem dX11_count_0 : decode cX11_count 0 = .ok (.iload_n 1, 1) := by decide +kernel
theorem dX11_count_1 : decode cX11_count 1 = .ok (.tableswitch 117 0 8 #[51, 59, 67, 75, 83, 91, 99, 107, 112], 51) := by decide +kernel
theorem dX11_count_52 : decode cX11_count 52 = .ok (.aload_n 0, 1) := by decide +kernel
theorem dX11_count_53 : decode cX11_count 53 = .ok (.getfield 19, 3) := by decide +kernel
theorem dX11_count_56 : decode cX11_count 56 = .ok (.invokevirtual 78, 3) := by decide +kernel
theorem dX11_count_59 : decode cX11_count 59 = .ok (.ireturn, 1) := by decide +kernel
theorem dX11_count_60 : decode cX11_count 60 = .ok (.aload_n 0, 1) := by decide +kernel
theorem dX11_count_61 : decode cX11_count 61 = .ok (.getfield 19, 3) := by decide +kernel
theorem dX11_count_64 : decode cX11_count 64 = .ok (.invokevirtual 240, 3) := by decide +kernel
theorem dX11_count_67 : decode cX11_count 67 = .ok (.ireturn, 1) := by decide +kernel
theorem dX11_count_68 : decode cX11_count 68 = .ok (.aload_n 0, 1) := by decide +kernel
theorem dX11_count_69 : decode cX11_count 69 = .ok (.getfield 26, 3) := by decide +kernel
theorem dX11_count_72 : decode cX11_count 72 = .ok (.invokevirtual 237, 3) := by decide +kernel
theorem dX11_count_75 : decode cX11_count 75 = .ok (.ireturn, 1) := by decide +kernel
theorem dX11_count_76 : decode cX11_count 76 = .ok (.aload_n 0, 1) := by decide +kernel
theorem dX11_count_77 : decode cX11_count 77 = .ok (.getfield 26, 3) := by decide +kernel
theorem dX11_count_80 : decode cX11_count 80 = .ok (.invokevirtual 133, 3) := by decide +kernel
theorem dX11_count_83 : decode cX11_count 83 = .ok (.ireturn, 1) := by decide +kernel
theorem dX11_count_84 : decode cX11_count 84 = .ok (.aload_n 0, 1) := by decide +kernel
theorem dX11_count_85 : decode cX11_count 85 = .ok (.getfield 26, 3) := by decide +kernel
theorem dX11_count_88 : decode cX11_count 88 = .ok (.invokevirtual 243, 3) := by decide +kernel
theorem dX11_count_91 : decode cX11_count 91 = .ok (.ireturn, 1) := by decide +kernel
theorem dX11_count_92 : decode cX11_count 92 = .ok (.aload_n 0, 1) := by decide +kernel
theorem dX11_count_93 : decode cX11_count 93 = .ok (.getfield 26, 3) := by decide +kernel
theorem dX11_count_96 : decode cX11_count 96 = .ok (.invokevirtual 197, 3) := by decide +kernel
theorem dX11_count_99 : decode cX11_count 99 = .ok (.ireturn, 1) := by decide +kernel
theorem dX11_count_100 : decode cX11_count 100 = .ok (.aload_n 0, 1) := by decide +kernel
theorem dX11_count_101 : decode cX11_count 101 = .ok (.getfield 10, 3) := by decide +kernel
theorem dX11_count_104 : decode cX11_count 104 = .ok (.invokevirtual 51, 3) := by decide +kernel
theorem dX11_count_107 : decode cX11_count 107 = .ok (.ireturn, 1) := by decide +kernel
theorem dX11_count_108 : decode cX11_count 108 = .ok (.aload_n 0, 1) := by decide +kernel
theorem dX11_count_109 : decode cX11_count 109 = .ok (.getfield 74, 3) := by decide +kernel
theorem dX11_count_112 : decode cX11_count 112 = .ok (.ireturn, 1) := by decide +kernel
theorem dX11_count_113 : decode cX11_count 113 = .ok (.aload_n 0, 1) := by decide +kernel
theorem dX11_count_114 : decode cX11_count 114 = .ok (.getfield 174, 3) := by decide +kernel
theorem dX11_count_117 : decode cX11_count 117 = .ok (.ireturn, 1) := by decide +kernel
theorem dX11_count_118 : decode cX11_count 118 = .ok (.bipush (-102), 2) := by decide +kernel
theorem dX11_count_120 : decode cX11_count 120 = .ok (.ireturn, 1) := by decide +kernel
set_option maxRecDepth 20000 in
theorem ggX11_digest_X10_size : GoodIn wsX11_digest wsX10_size := goodIn_r _ [9, 10, 349, 350, 351] (by decide +kernel) (by decide +kernel)
set_option maxRecDepth 20000 in
theorem gX11_digest_X10_size : GoodIn wsX11_digest (wsV RX11 78 RX10 yX10_size wsX10_size) := goodIn_app (goodIn_of _ (by decide +kernel)) ggX11_digest_X10_size
set_option maxRecDepth 20000 in
theorem ggX11_digest_X11_mixPerson : GoodIn wsX11_digest wsX11_mixPerson := goodIn_r _ [15, 16, 17, 18, 14, 19, 2, 3, 20, 21, 22, 8, 23, 10, 24, 25, 26, 27, 28, 29, 30, 31, 32, 33, 34, 35, 36, 37, 38, 39, 40, 41, 42, 43, 44, 45, 46, 47, 48, 49, 50, 51, 52, 53, 54, 55, 56, 57, 58, 59, 60, 61, 62, 63, 64, 65, 66, 67, 68, 69, 70, 71, 72, 73, 74, 75, 76, 77, 78, 79, 80, 81, 82, 83, 84, 85, 86, 87, 88, 89, 90, 91, 92, 93, 94, 95, 96, 97, 98, 99, 100, 101, 102, 103, 104, 105, 106, 107, 108, 109, 110, 111, 112, 113, 114, 115, 116, 117, 118, 119, 120, 121, 122, 123, 124, 125, 126, 127, 128, 129, 130, 131, 132, 133, 134, 135, 136, 137, 138, 139, 140, 141, 142, 143, 144, 145, 146, 147, 148, 149, 150, 151, 152, 153, 154, 155, 156, 157, 158, 159, 160, 161, 162, 163, 164, 165, 166, 167, 168, 169, 170, 171, 172, 173, 174, 175, 176, 177, 178, 179, 180, 181, 182, 183, 184, 185, 186, 187, 188, 189, 190, 191, 192, 193, 194, 195, 196, 197, 198, 199, 200, 201, 202, 203, 204, 205, 206, 207, 208, 209, 210, 211, 212, 213, 6, 7, 9, 214, 215, 216, 217, 218, 219, 220, 221, 222, 223, 224, 225, 226, 227, 228, 229, 230, 231, 232, 233, 234, 235, 236, 237, 238, 239, 240, 241, 242, 243, 244, 245, 246, 247, 248, 249, 250, 251, 252, 253, 254, 255, 256, 257, 258, 259, 5, 260, 261, 262, 263, 264, 265, 266, 340, 341, 342, 343, 344, 345, 346, 347, 348, 349, 350, 351, 352, 353, 354, 355, 356, 357, 358, 359, 360, 361, 362, 363, 364, 365, 366, 367, 368, 369, 370, 371] (by decide +kernel) (by decide +kernel)
set_option maxRecDepth 20000 in
theorem gX11_digest_X11_mixPerson : GoodIn wsX11_digest (wsV RX11 248 RX11 yX11_mixPerson wsX11_mixPerson) := goodIn_app (goodIn_of _ (by decide +kernel)) ggX11_digest_X11_mixPerson
set_option maxRecDepth 20000 in
theorem ggX11_digest_X2_deeds : GoodIn wsX11_digest wsX2_deeds := goodIn_r _ [270, 138, 352, 353, 354, 355, 356, 357, 358] (by decide +kernel) (by decide +kernel)
set_option maxRecDepth 20000 in
theorem gX11_digest_X2_deeds : GoodIn wsX11_digest (wsV RX11 133 RX2 yX2_deeds wsX2_deeds) := goodIn_app (goodIn_of _ (by decide +kernel)) ggX11_digest_X2_deeds
set_option maxRecDepth 20000 in
theorem ggX11_digest_X11_deed : GoodIn wsX11_digest wsX11_deed := goodIn_r _ [274, 3, 2, 275, 145, 146, 32, 147, 138, 148, 143, 276, 162, 163, 164, 144, 277, 140, 141, 142, 278, 279, 280, 8, 281, 10, 100, 21, 22, 23, 24, 101, 14, 102, 282, 60, 61, 62, 63, 40, 64, 65, 66, 67, 54, 68, 69, 283, 71, 72, 340, 341, 342, 343, 344, 345, 346, 347, 348, 352, 353, 354, 355, 356, 357, 358, 349, 350, 351, 359, 360, 361, 362, 363] (by decide +kernel) (by decide +kernel)
set_option maxRecDepth 20000 in
theorem gX11_digest_X11_deed : GoodIn wsX11_digest (wsV RX11 252 RX11 yX11_deed wsX11_deed) := goodIn_app (goodIn_of _ (by decide +kernel)) ggX11_digest_X11_deed
set_option maxRecDepth 20000 in
theorem ggX11_digest_X11_mix : GoodIn wsX11_digest wsX11_mix := goodIn_r _ [151, 152] (by decide +kernel) (by decide +kernel)
set_option maxRecDepth 20000 in
theorem gX11_digest_X11_mix : GoodIn wsX11_digest (va_wsS RX11 255 yX11_mix wsX11_mix) := goodIn_app (goodIn_of _ (by decide +kernel)) ggX11_digest_X11_mix
set_option maxRecDepth 20000 in
theorem ggX11_digest_X10_isEmpty : GoodIn wsX11_digest wsX10_isEmpty := goodIn_r _ [287, 10, 349, 350, 351] (by decide +kernel) (by decide +kernel)
set_option maxRecDepth 20000 in
theorem gX11_digest_X10_isEmpty : GoodIn wsX11_digest (wsV RX11 187 RX10 yX10_isEmpty wsX10_isEmpty) := goodIn_app (goodIn_of _ (by decide +kernel)) ggX11_digest_X10_isEmpty
set_option maxRecDepth 20000 in
theorem ggX11_digest_X11_find : GoodIn wsX11_digest wsX11_find := goodIn_r _ [291, 2, 3, 284, 285, 286, 8, 287, 10, 292, 293, 294, 295, 296, 297, 298, 32, 299, 300, 90, 91, 92, 93, 94, 95, 301, 302, 303, 304, 138, 139, 140, 141, 142, 143, 144, 145, 146, 147, 148, 167, 340, 341, 342, 343, 344, 345, 346, 347, 348, 349, 350, 351, 352, 353, 354, 355, 356, 357, 358] (by decide +kernel) (by decide +kernel)
set_option maxRecDepth 20000 in
theorem gX11_digest_X11_find : GoodIn wsX11_digest (wsV RX11 258 RX11 yX11_find wsX11_find) := goodIn_app (goodIn_of _ (by decide +kernel)) ggX11_digest_X11_find
set_option maxRecDepth 20000 in
theorem ggX11_digest_X5_size : GoodIn wsX11_digest wsX5_size := goodIn_r _ [309, 310, 372, 373] (by decide +kernel) (by decide +kernel)
set_option maxRecDepth 20000 in
theorem gX11_digest_X5_size : GoodIn wsX11_digest (wsV RX11 51 RX5 yX5_size wsX5_size) := goodIn_app (goodIn_of _ (by decide +kernel)) ggX11_digest_X5_size
set_option maxRecDepth 20000 in
theorem ggX11_digest_X5_codeAt : GoodIn wsX11_digest wsX5_codeAt := goodIn_r _ [314, 310, 315, 372, 373] (by decide +kernel) (by decide +kernel)
set_option maxRecDepth 20000 in
theorem gX11_digest_X5_codeAt : GoodIn wsX11_digest (wsV RX11 261 RX5 yX5_codeAt wsX5_codeAt) := goodIn_app (goodIn_of _ (by decide +kernel)) ggX11_digest_X5_codeAt
set_option maxRecDepth 20000 in
theorem ggX11_digest_X11_count : GoodIn wsX11_digest wsX11_count := goodIn_r _ [319, 2, 3, 4, 320, 321, 5, 6, 7, 8, 9, 10, 322, 323, 324, 325, 84, 326, 327, 328, 32, 329, 34, 330, 86, 87, 76, 88, 78, 267, 268, 269, 270, 138, 331, 332, 333, 334, 139, 140, 141, 142, 143, 144, 145, 146, 147, 148, 335, 336, 337, 338, 339, 305, 306, 307, 308, 309, 310, 340, 341, 342, 343, 344, 345, 346, 347, 348, 349, 350, 351, 352, 353, 354, 355, 356, 357, 358, 364, 365, 372, 373] (by decide +kernel) (by decide +kernel)
set_option maxRecDepth 20000 in
theorem gX11_digest_X11_count : GoodIn wsX11_digest (wsV RX11 264 RX11 yX11_count wsX11_count) := goodIn_app (goodIn_of _ (by decide +kernel)) ggX11_digest_X11_count
theorem dX11_digest_0 : decode cX11_digest 0 = .ok (.ldc2_w 246, 3) := by decide +kernel
theorem dX11_digest_3 : decode cX11_digest 3 = .ok (.lstore_n 1, 1) := by decide +kernel
theorem dX11_digest_4 : decode cX11_digest 4 = .ok (.iconst 0, 1) := by decide +kernel
theorem dX11_digest_5 : decode cX11_digest 5 = .ok (.istore_n 3, 1) := by decide +kernel
theorem dX11_digest_6 : decode cX11_digest 6 = .ok (.iload_n 3, 1) := by decide +kernel
theorem dX11_digest_7 : decode cX11_digest 7 = .ok (.aload_n 0, 1) := by decide +kernel
theorem dX11_digest_8 : decode cX11_digest 8 = .ok (.getfield 19, 3) := by decide +kernel
theorem dX11_digest_11 : decode cX11_digest 11 = .ok (.invokevirtual 78, 3) := by decide +kernel
theorem dX11_digest_14 : decode cX11_digest 14 = .ok (.if_icmp .ge 16, 3) := by decide +kernel
theorem dX11_digest_17 : decode cX11_digest 17 = .ok (.aload_n 0, 1) := by decide +kernel
theorem dX11_digest_18 : decode cX11_digest 18 = .ok (.lload_n 1, 1) := by decide +kernel
theorem dX11_digest_19 : decode cX11_digest 19 = .ok (.iload_n 3, 1) := by decide +kernel
theorem dX11_digest_20 : decode cX11_digest 20 = .ok (.invokevirtual 248, 3) := by decide +kernel
theorem dX11_digest_23 : decode cX11_digest 23 = .ok (.lstore_n 1, 1) := by decide +kernel
theorem dX11_digest_24 : decode cX11_digest 24 = .ok (.iinc 3 1, 3) := by decide +kernel
theorem dX11_digest_27 : decode cX11_digest 27 = .ok (.goto (-21), 3) := by decide +kernel
theorem dX11_digest_30 : decode cX11_digest 30 = .ok (.iconst 0, 1) := by decide +kernel
theorem dX11_digest_31 : decode cX11_digest 31 = .ok (.istore_n 3, 1) := by decide +kernel
theorem dX11_digest_32 : decode cX11_digest 32 = .ok (.iload_n 3, 1) := by decide +kernel
theorem dX11_digest_33 : decode cX11_digest 33 = .ok (.aload_n 0, 1) := by decide +kernel
theorem dX11_digest_34 : decode cX11_digest 34 = .ok (.getfield 26, 3) := by decide +kernel
theorem dX11_digest_37 : decode cX11_digest 37 = .ok (.invokevirtual 133, 3) := by decide +kernel
theorem dX11_digest_40 : decode cX11_digest 40 = .ok (.if_icmp .ge 36, 3) := by decide +kernel
theorem dX11_digest_43 : decode cX11_digest 43 = .ok (.iconst 0, 1) := by decide +kernel
theorem dX11_digest_44 : decode cX11_digest 44 = .ok (.istore 4, 2) := by decide +kernel
theorem dX11_digest_46 : decode cX11_digest 46 = .ok (.iload 4, 2) := by decide +kernel
theorem dX11_digest_48 : decode cX11_digest 48 = .ok (.iconst 2, 1) := by decide +kernel
theorem dX11_digest_49 : decode cX11_digest 49 = .ok (.if_icmp .gt 21, 3) := by decide +kernel
theorem dX11_digest_52 : decode cX11_digest 52 = .ok (.lload_n 1, 1) := by decide +kernel
theorem dX11_digest_53 : decode cX11_digest 53 = .ok (.aload_n 0, 1) := by decide +kernel
theorem dX11_digest_54 : decode cX11_digest 54 = .ok (.iload_n 3, 1) := by decide +kernel
theorem dX11_digest_55 : decode cX11_digest 55 = .ok (.iload 4, 2) := by decide +kernel
theorem dX11_digest_57 : decode cX11_digest 57 = .ok (.invokevirtual 252, 3) := by decide +kernel
theorem dX11_digest_60 : decode cX11_digest 60 = .ok (.invokestatic 255, 3) := by decide +kernel
theorem dX11_digest_63 : decode cX11_digest 63 = .ok (.lstore_n 1, 1) := by decide +kernel
theorem dX11_digest_64 : decode cX11_digest 64 = .ok (.iinc 4 1, 3) := by decide +kernel
theorem dX11_digest_67 : decode cX11_digest 67 = .ok (.goto (-21), 3) := by decide +kernel
theorem dX11_digest_70 : decode cX11_digest 70 = .ok (.iinc 3 1, 3) := by decide +kernel
theorem dX11_digest_73 : decode cX11_digest 73 = .ok (.goto (-41), 3) := by decide +kernel
theorem dX11_digest_76 : decode cX11_digest 76 = .ok (.aload_n 0, 1) := by decide +kernel
theorem dX11_digest_77 : decode cX11_digest 77 = .ok (.getfield 19, 3) := by decide +kernel
theorem dX11_digest_80 : decode cX11_digest 80 = .ok (.invokevirtual 187, 3) := by decide +kernel
theorem dX11_digest_83 : decode cX11_digest 83 = .ok (.ifCond .ne 21, 3) := by decide +kernel
theorem dX11_digest_86 : decode cX11_digest 86 = .ok (.lload_n 1, 1) := by decide +kernel
theorem dX11_digest_87 : decode cX11_digest 87 = .ok (.aload_n 0, 1) := by decide +kernel
theorem dX11_digest_88 : decode cX11_digest 88 = .ok (.iconst 0, 1) := by decide +kernel
theorem dX11_digest_89 : decode cX11_digest 89 = .ok (.invokevirtual 258, 3) := by decide +kernel
theorem dX11_digest_92 : decode cX11_digest 92 = .ok (.invokestatic 255, 3) := by decide +kernel
theorem dX11_digest_95 : decode cX11_digest 95 = .ok (.aload_n 0, 1) := by decide +kernel
theorem dX11_digest_96 : decode cX11_digest 96 = .ok (.iconst 1, 1) := by decide +kernel
theorem dX11_digest_97 : decode cX11_digest 97 = .ok (.invokevirtual 258, 3) := by decide +kernel
theorem dX11_digest_100 : decode cX11_digest 100 = .ok (.invokestatic 255, 3) := by decide +kernel
theorem dX11_digest_103 : decode cX11_digest 103 = .ok (.lstore_n 1, 1) := by decide +kernel
theorem dX11_digest_104 : decode cX11_digest 104 = .ok (.iconst 0, 1) := by decide +kernel
theorem dX11_digest_105 : decode cX11_digest 105 = .ok (.istore_n 3, 1) := by decide +kernel
theorem dX11_digest_106 : decode cX11_digest 106 = .ok (.iload_n 3, 1) := by decide +kernel
theorem dX11_digest_107 : decode cX11_digest 107 = .ok (.aload_n 0, 1) := by decide +kernel
theorem dX11_digest_108 : decode cX11_digest 108 = .ok (.getfield 10, 3) := by decide +kernel
theorem dX11_digest_111 : decode cX11_digest 111 = .ok (.invokevirtual 51, 3) := by decide +kernel
theorem dX11_digest_114 : decode cX11_digest 114 = .ok (.if_icmp .ge 22, 3) := by decide +kernel
theorem dX11_digest_117 : decode cX11_digest 117 = .ok (.lload_n 1, 1) := by decide +kernel
theorem dX11_digest_118 : decode cX11_digest 118 = .ok (.aload_n 0, 1) := by decide +kernel
theorem dX11_digest_119 : decode cX11_digest 119 = .ok (.getfield 10, 3) := by decide +kernel
theorem dX11_digest_122 : decode cX11_digest 122 = .ok (.iload_n 3, 1) := by decide +kernel
theorem dX11_digest_123 : decode cX11_digest 123 = .ok (.invokevirtual 261, 3) := by decide +kernel
theorem dX11_digest_126 : decode cX11_digest 126 = .ok (.invokestatic 255, 3) := by decide +kernel
theorem dX11_digest_129 : decode cX11_digest 129 = .ok (.lstore_n 1, 1) := by decide +kernel
theorem dX11_digest_130 : decode cX11_digest 130 = .ok (.iinc 3 1, 3) := by decide +kernel
theorem dX11_digest_133 : decode cX11_digest 133 = .ok (.goto (-27), 3) := by decide +kernel
theorem dX11_digest_136 : decode cX11_digest 136 = .ok (.iconst 0, 1) := by decide +kernel
theorem dX11_digest_137 : decode cX11_digest 137 = .ok (.istore_n 3, 1) := by decide +kernel
theorem dX11_digest_138 : decode cX11_digest 138 = .ok (.iload_n 3, 1) := by decide +kernel
theorem dX11_digest_139 : decode cX11_digest 139 = .ok (.bipush 9, 2) := by decide +kernel
theorem dX11_digest_141 : decode cX11_digest 141 = .ok (.if_icmp .ge 19, 3) := by decide +kernel
theorem dX11_digest_144 : decode cX11_digest 144 = .ok (.lload_n 1, 1) := by decide +kernel
theorem dX11_digest_145 : decode cX11_digest 145 = .ok (.aload_n 0, 1) := by decide +kernel
theorem dX11_digest_146 : decode cX11_digest 146 = .ok (.iload_n 3, 1) := by decide +kernel
theorem dX11_digest_147 : decode cX11_digest 147 = .ok (.invokevirtual 264, 3) := by decide +kernel
theorem dX11_digest_150 : decode cX11_digest 150 = .ok (.invokestatic 255, 3) := by decide +kernel
theorem dX11_digest_153 : decode cX11_digest 153 = .ok (.lstore_n 1, 1) := by decide +kernel
theorem dX11_digest_154 : decode cX11_digest 154 = .ok (.iinc 3 1, 3) := by decide +kernel
theorem dX11_digest_157 : decode cX11_digest 157 = .ok (.goto (-19), 3) := by decide +kernel
theorem dX11_digest_160 : decode cX11_digest 160 = .ok (.lload_n 1, 1) := by decide +kernel
theorem dX11_digest_161 : decode cX11_digest 161 = .ok (.lreturn, 1) := by decide +kernel
set_option maxRecDepth 20000 in
theorem ggX11_mixPerson_X11_about : GoodIn wsX11_mixPerson wsX11_about := goodIn_r _ [5, 6, 7, 8, 9, 10, 11, 12, 13, 14, 15, 16, 17, 4, 18, 19, 20, 21, 22, 23, 24, 25, 26, 27, 28, 29, 30, 31, 32, 33, 34, 35, 36, 37, 38, 39, 40, 41, 42, 43, 44, 45, 46, 47, 48, 49, 50, 51, 52, 53, 54, 55, 56, 57, 58, 59, 60, 61, 62, 63, 64, 65, 66, 67, 68, 69, 70, 71, 72, 73, 74, 75, 76, 77, 78, 79, 80, 81, 82, 83, 84, 85, 86, 87, 88, 89, 90, 91, 92, 93, 94, 95, 96, 97, 98, 99, 100, 101, 102, 103, 104, 105, 106, 107, 108, 109, 110, 111, 112, 113, 114, 115, 116, 117, 118, 119, 120, 121, 122, 123, 124, 125, 126, 127, 128, 129, 130, 131, 132, 133, 134, 135, 136, 137, 138, 261, 262, 263, 264, 265, 266, 267, 268, 269, 270, 271, 272, 273, 274, 275, 276, 277, 278, 279, 280, 281, 282, 283, 284, 285, 286] (by decide +kernel) (by decide +kernel)
set_option maxRecDepth 20000 in
theorem gX11_mixPerson_X11_about : GoodIn wsX11_mixPerson (wsV RX11 267 RX11 yX11_about wsX11_about) := goodIn_app (goodIn_of _ (by decide +kernel)) ggX11_mixPerson_X11_about
set_option maxRecDepth 20000 in
theorem ggX11_mixPerson_X11_mix : GoodIn wsX11_mixPerson wsX11_mix := goodIn_r _ [141, 142] (by decide +kernel) (by decide +kernel)
set_option maxRecDepth 20000 in
theorem gX11_mixPerson_X11_mix : GoodIn wsX11_mixPerson (va_wsS RX11 255 yX11_mix wsX11_mix) := goodIn_app (goodIn_of _ (by decide +kernel)) ggX11_mixPerson_X11_mix
set_option maxRecDepth 20000 in
theorem ggX11_mixPerson_X11_owes : GoodIn wsX11_mixPerson wsX11_owes := goodIn_r _ [146, 6, 7, 8, 9, 10, 11, 12, 13, 14, 147, 148, 149, 22, 150, 128, 129, 130, 131, 132, 133, 134, 135, 136, 137, 138, 91, 4, 92, 151, 152, 153, 154, 155, 156, 157, 80, 81, 82, 83, 84, 85, 158, 159, 160, 261, 262, 263, 264, 265, 266, 267, 268, 269, 270, 271, 272, 273, 274, 275, 276, 277, 278, 279] (by decide +kernel) (by decide +kernel)
set_option maxRecDepth 20000 in
theorem gX11_mixPerson_X11_owes : GoodIn wsX11_mixPerson (wsV RX11 270 RX11 yX11_owes wsX11_owes) := goodIn_app (goodIn_of _ (by decide +kernel)) ggX11_mixPerson_X11_owes
set_option maxRecDepth 20000 in
theorem ggX11_mixPerson_X11_hands : GoodIn wsX11_mixPerson wsX11_hands := goodIn_r _ [164, 165, 6, 7, 15, 16, 17, 4, 18, 8, 9, 10, 11, 12, 13, 14, 19, 20, 21, 22, 23, 24, 166, 167, 168, 169, 170, 171, 172, 173, 174, 175, 176, 177, 178, 179, 180, 181, 66, 182, 69, 183, 184, 185, 186, 68, 187, 188, 189, 190, 191, 71, 72, 73, 74, 75, 76, 77, 78, 79, 80, 81, 82, 83, 84, 85, 86, 87, 88, 89, 90, 91, 92, 93, 94, 95, 96, 44, 97, 98, 99, 100, 101, 39, 102, 103, 104, 105, 106, 107, 108, 109, 110, 111, 112, 113, 114, 115, 116, 117, 47, 118, 192, 193, 194, 195, 196, 197, 198, 199, 200, 201, 202, 64, 65, 67, 203, 204, 205, 206, 207, 208, 209, 210, 211, 212, 213, 214, 215, 216, 217, 218, 219, 220, 35, 221, 222, 223, 224, 225, 226, 227, 228, 229, 230, 231, 232, 233, 234, 235, 236, 237, 238, 239, 240, 241, 242, 243, 244, 245, 246, 247, 248, 261, 262, 263, 264, 265, 266, 267, 268, 269, 270, 271, 272, 273, 274, 275, 276, 277, 278, 279, 287, 288, 289, 290, 291, 292, 285, 286] (by decide +kernel) (by decide +kernel)
set_option maxRecDepth 20000 in
theorem gX11_mixPerson_X11_hands : GoodIn wsX11_mixPerson (wsV RX11 273 RX11 yX11_hands wsX11_hands) := goodIn_app (goodIn_of _ (by decide +kernel)) ggX11_mixPerson_X11_hands
set_option maxRecDepth 20000 in
theorem ggX11_mixPerson_X11_ask : GoodIn wsX11_mixPerson wsX11_ask := goodIn_r _ [252, 165, 6, 7, 15, 16, 17, 4, 18, 8, 9, 10, 11, 12, 13, 14, 19, 20, 21, 22, 23, 24, 166, 167, 168, 169, 170, 171, 172, 173, 174, 175, 176, 177, 178, 179, 180, 181, 66, 182, 69, 183, 184, 185, 186, 68, 187, 188, 189, 190, 191, 71, 72, 73, 74, 75, 76, 77, 78, 79, 80, 81, 82, 83, 84, 85, 86, 87, 88, 89, 90, 91, 92, 93, 94, 95, 96, 44, 97, 98, 99, 100, 101, 39, 102, 103, 104, 105, 106, 107, 108, 109, 110, 111, 112, 113, 114, 115, 116, 117, 47, 118, 192, 193, 194, 195, 196, 197, 198, 199, 200, 201, 202, 64, 65, 67, 203, 204, 205, 206, 207, 208, 209, 210, 211, 212, 213, 214, 215, 216, 217, 218, 219, 220, 35, 221, 222, 223, 224, 225, 226, 227, 228, 229, 230, 231, 232, 233, 234, 235, 236, 237, 238, 239, 240, 253, 254, 255, 256, 257, 258, 259, 260, 261, 262, 263, 264, 265, 266, 267, 268, 269, 270, 271, 272, 273, 274, 275, 276, 277, 278, 279, 287, 288, 289, 290, 291, 292, 285, 286] (by decide +kernel) (by decide +kernel)
set_option maxRecDepth 20000 in
theorem gX11_mixPerson_X11_ask : GoodIn wsX11_mixPerson (wsV RX11 277 RX11 yX11_ask wsX11_ask) := goodIn_app (goodIn_of _ (by decide +kernel)) ggX11_mixPerson_X11_ask
theorem dX11_mixPerson_0 : decode cX11_mixPerson 0 = .ok (.lload_n 1, 1) := by decide +kernel
theorem dX11_mixPerson_1 : decode cX11_mixPerson 1 = .ok (.lstore 4, 2) := by decide +kernel
theorem dX11_mixPerson_3 : decode cX11_mixPerson 3 = .ok (.iconst 0, 1) := by decide +kernel
theorem dX11_mixPerson_4 : decode cX11_mixPerson 4 = .ok (.istore 6, 2) := by decide +kernel
theorem dX11_mixPerson_6 : decode cX11_mixPerson 6 = .ok (.iload 6, 2) := by decide +kernel
theorem dX11_mixPerson_8 : decode cX11_mixPerson 8 = .ok (.iconst 5, 1) := by decide +kernel
theorem dX11_mixPerson_9 : decode cX11_mixPerson 9 = .ok (.if_icmp .gt 23, 3) := by decide +kernel
theorem dX11_mixPerson_12 : decode cX11_mixPerson 12 = .ok (.lload 4, 2) := by decide +kernel
theorem dX11_mixPerson_14 : decode cX11_mixPerson 14 = .ok (.aload_n 0, 1) := by decide +kernel
theorem dX11_mixPerson_15 : decode cX11_mixPerson 15 = .ok (.iload_n 3, 1) := by decide +kernel
theorem dX11_mixPerson_16 : decode cX11_mixPerson 16 = .ok (.iload 6, 2) := by decide +kernel
theorem dX11_mixPerson_18 : decode cX11_mixPerson 18 = .ok (.invokevirtual 267, 3) := by decide +kernel
theorem dX11_mixPerson_21 : decode cX11_mixPerson 21 = .ok (.invokestatic 255, 3) := by decide +kernel
theorem dX11_mixPerson_24 : decode cX11_mixPerson 24 = .ok (.lstore 4, 2) := by decide +kernel
theorem dX11_mixPerson_26 : decode cX11_mixPerson 26 = .ok (.iinc 6 1, 3) := by decide +kernel
theorem dX11_mixPerson_29 : decode cX11_mixPerson 29 = .ok (.goto (-23), 3) := by decide +kernel
theorem dX11_mixPerson_32 : decode cX11_mixPerson 32 = .ok (.lload 4, 2) := by decide +kernel
theorem dX11_mixPerson_34 : decode cX11_mixPerson 34 = .ok (.aload_n 0, 1) := by decide +kernel
theorem dX11_mixPerson_35 : decode cX11_mixPerson 35 = .ok (.iload_n 3, 1) := by decide +kernel
theorem dX11_mixPerson_36 : decode cX11_mixPerson 36 = .ok (.iconst 0, 1) := by decide +kernel
theorem dX11_mixPerson_37 : decode cX11_mixPerson 37 = .ok (.invokevirtual 270, 3) := by decide +kernel
theorem dX11_mixPerson_40 : decode cX11_mixPerson 40 = .ok (.invokestatic 255, 3) := by decide +kernel
theorem dX11_mixPerson_43 : decode cX11_mixPerson 43 = .ok (.aload_n 0, 1) := by decide +kernel
theorem dX11_mixPerson_44 : decode cX11_mixPerson 44 = .ok (.iload_n 3, 1) := by decide +kernel
theorem dX11_mixPerson_45 : decode cX11_mixPerson 45 = .ok (.iconst 1, 1) := by decide +kernel
theorem dX11_mixPerson_46 : decode cX11_mixPerson 46 = .ok (.invokevirtual 270, 3) := by decide +kernel
theorem dX11_mixPerson_49 : decode cX11_mixPerson 49 = .ok (.invokestatic 255, 3) := by decide +kernel
theorem dX11_mixPerson_52 : decode cX11_mixPerson 52 = .ok (.lstore 4, 2) := by decide +kernel
theorem dX11_mixPerson_54 : decode cX11_mixPerson 54 = .ok (.lload 4, 2) := by decide +kernel
theorem dX11_mixPerson_56 : decode cX11_mixPerson 56 = .ok (.aload_n 0, 1) := by decide +kernel
theorem dX11_mixPerson_57 : decode cX11_mixPerson 57 = .ok (.iload_n 3, 1) := by decide +kernel
theorem dX11_mixPerson_58 : decode cX11_mixPerson 58 = .ok (.iconst 2, 1) := by decide +kernel
theorem dX11_mixPerson_59 : decode cX11_mixPerson 59 = .ok (.iconst 0, 1) := by decide +kernel
theorem dX11_mixPerson_60 : decode cX11_mixPerson 60 = .ok (.invokevirtual 273, 3) := by decide +kernel
theorem dX11_mixPerson_63 : decode cX11_mixPerson 63 = .ok (.invokestatic 255, 3) := by decide +kernel
theorem dX11_mixPerson_66 : decode cX11_mixPerson 66 = .ok (.aload_n 0, 1) := by decide +kernel
theorem dX11_mixPerson_67 : decode cX11_mixPerson 67 = .ok (.iload_n 3, 1) := by decide +kernel
theorem dX11_mixPerson_68 : decode cX11_mixPerson 68 = .ok (.iconst 2, 1) := by decide +kernel
theorem dX11_mixPerson_69 : decode cX11_mixPerson 69 = .ok (.iconst 1, 1) := by decide +kernel
theorem dX11_mixPerson_70 : decode cX11_mixPerson 70 = .ok (.invokevirtual 273, 3) := by decide +kernel
theorem dX11_mixPerson_73 : decode cX11_mixPerson 73 = .ok (.invokestatic 255, 3) := by decide +kernel
theorem dX11_mixPerson_76 : decode cX11_mixPerson 76 = .ok (.lstore 4, 2) := by decide +kernel
theorem dX11_mixPerson_78 : decode cX11_mixPerson 78 = .ok (.lload 4, 2) := by decide +kernel
theorem dX11_mixPerson_80 : decode cX11_mixPerson 80 = .ok (.aload_n 0, 1) := by decide +kernel
theorem dX11_mixPerson_81 : decode cX11_mixPerson 81 = .ok (.iload_n 3, 1) := by decide +kernel
theorem dX11_mixPerson_82 : decode cX11_mixPerson 82 = .ok (.iconst 2, 1) := by decide +kernel
theorem dX11_mixPerson_83 : decode cX11_mixPerson 83 = .ok (.invokevirtual 277, 3) := by decide +kernel
theorem dX11_mixPerson_86 : decode cX11_mixPerson 86 = .ok (.invokestatic 255, 3) := by decide +kernel
theorem dX11_mixPerson_89 : decode cX11_mixPerson 89 = .ok (.lreturn, 1) := by decide +kernel
theorem dX11_mix_0 : decode cX11_mix 0 = .ok (.ldc2_w 280, 3) := by decide +kernel
theorem dX11_mix_3 : decode cX11_mix 3 = .ok (.lload_n 0, 1) := by decide +kernel
theorem dX11_mix_4 : decode cX11_mix 4 = .ok (.lmul, 1) := by decide +kernel
theorem dX11_mix_5 : decode cX11_mix 5 = .ok (.iload_n 2, 1) := by decide +kernel
theorem dX11_mix_6 : decode cX11_mix 6 = .ok (.i2l, 1) := by decide +kernel
theorem dX11_mix_7 : decode cX11_mix 7 = .ok (.ladd, 1) := by decide +kernel
theorem dX11_mix_8 : decode cX11_mix 8 = .ok (.lreturn, 1) := by decide +kernel
set_option maxRecDepth 20000 in
theorem ggX11_penOf_X10_one : GoodIn wsX11_penOf wsX10_one := goodIn_r _ [7, 8, 9, 25, 26, 27] (by decide +kernel) (by decide +kernel)
set_option maxRecDepth 20000 in
theorem gX11_penOf_X10_one : GoodIn wsX11_penOf (wsV RX11 79 RX10 yX10_one wsX10_one) := goodIn_app (goodIn_of _ (by decide +kernel)) ggX11_penOf_X10_one
set_option maxRecDepth 20000 in
theorem ggX11_penOf_X2_pen : GoodIn wsX11_penOf wsX2_pen := goodIn_r _ [14, 15, 28, 29, 30, 31, 32, 33, 34] (by decide +kernel) (by decide +kernel)
set_option maxRecDepth 20000 in
theorem gX11_penOf_X2_pen : GoodIn wsX11_penOf (wsV RX11 282 RX2 yX2_pen wsX2_pen) := goodIn_app (goodIn_of _ (by decide +kernel)) ggX11_penOf_X2_pen
theorem dX11_penOf_0 : decode cX11_penOf 0 = .ok (.aload_n 0, 1) := by decide +kernel
theorem dX11_penOf_1 : decode cX11_penOf 1 = .ok (.getfield 19, 3) := by decide +kernel
theorem dX11_penOf_4 : decode cX11_penOf 4 = .ok (.iload_n 1, 1) := by decide +kernel
theorem dX11_penOf_5 : decode cX11_penOf 5 = .ok (.invokevirtual 79, 3) := by decide +kernel
theorem dX11_penOf_8 : decode cX11_penOf 8 = .ok (.ifnonnull 7, 3) := by decide +kernel
theorem dX11_penOf_11 : decode cX11_penOf 11 = .ok (.aconst_null, 1) := by decide +kernel
theorem dX11_penOf_12 : decode cX11_penOf 12 = .ok (.goto 11, 3) := by decide +kernel
theorem dX11_penOf_15 : decode cX11_penOf 15 = .ok (.aload_n 0, 1) := by decide +kernel
theorem dX11_penOf_16 : decode cX11_penOf 16 = .ok (.getfield 26, 3) := by decide +kernel
theorem dX11_penOf_19 : decode cX11_penOf 19 = .ok (.iload_n 1, 1) := by decide +kernel
theorem dX11_penOf_20 : decode cX11_penOf 20 = .ok (.invokevirtual 282, 3) := by decide +kernel
theorem dX11_penOf_23 : decode cX11_penOf 23 = .ok (.areturn, 1) := by decide +kernel
theorem dX11_holds_0 : decode cX11_holds 0 = .ok (.iload_n 0, 1) := by decide +kernel
theorem dX11_holds_1 : decode cX11_holds 1 = .ok (.iload_n 1, 1) := by decide +kernel
theorem dX11_holds_2 : decode cX11_holds 2 = .ok (.ishr, 1) := by decide +kernel
theorem dX11_holds_3 : decode cX11_holds 3 = .ok (.iconst 1, 1) := by decide +kernel
theorem dX11_holds_4 : decode cX11_holds 4 = .ok (.iand, 1) := by decide +kernel
theorem dX11_holds_5 : decode cX11_holds 5 = .ok (.iconst 1, 1) := by decide +kernel
theorem dX11_holds_6 : decode cX11_holds 6 = .ok (.if_icmp .ne 7, 3) := by decide +kernel
theorem dX11_holds_9 : decode cX11_holds 9 = .ok (.iconst 1, 1) := by decide +kernel
theorem dX11_holds_10 : decode cX11_holds 10 = .ok (.goto 4, 3) := by decide +kernel
theorem dX11_holds_13 : decode cX11_holds 13 = .ok (.iconst 0, 1) := by decide +kernel
theorem dX11_holds_14 : decode cX11_holds 14 = .ok (.ireturn, 1) := by decide +kernel
theorem dX11_lowest_0 : decode cX11_lowest 0 = .ok (.bipush 60, 2) := by decide +kernel
theorem dX11_lowest_2 : decode cX11_lowest 2 = .ok (.istore_n 2, 1) := by decide +kernel
theorem dX11_lowest_3 : decode cX11_lowest 3 = .ok (.iload_n 2, 1) := by decide +kernel
theorem dX11_lowest_4 : decode cX11_lowest 4 = .ok (.iconst 1, 1) := by decide +kernel
theorem dX11_lowest_5 : decode cX11_lowest 5 = .ok (.if_icmp .le 26, 3) := by decide +kernel
theorem dX11_lowest_8 : decode cX11_lowest 8 = .ok (.iload_n 1, 1) := by decide +kernel
theorem dX11_lowest_9 : decode cX11_lowest 9 = .ok (.iload_n 2, 1) := by decide +kernel
theorem dX11_lowest_10 : decode cX11_lowest 10 = .ok (.irem, 1) := by decide +kernel
theorem dX11_lowest_11 : decode cX11_lowest 11 = .ok (.ifCond .ne 14, 3) := by decide +kernel
theorem dX11_lowest_14 : decode cX11_lowest 14 = .ok (.bipush 60, 2) := by decide +kernel
theorem dX11_lowest_16 : decode cX11_lowest 16 = .ok (.iload_n 2, 1) := by decide +kernel
theorem dX11_lowest_17 : decode cX11_lowest 17 = .ok (.irem, 1) := by decide +kernel
theorem dX11_lowest_18 : decode cX11_lowest 18 = .ok (.ifCond .ne 7, 3) := by decide +kernel
theorem dX11_lowest_21 : decode cX11_lowest 21 = .ok (.iload_n 0, 1) := by decide +kernel
theorem dX11_lowest_22 : decode cX11_lowest 22 = .ok (.iload_n 2, 1) := by decide +kernel
theorem dX11_lowest_23 : decode cX11_lowest 23 = .ok (.idiv, 1) := by decide +kernel
theorem dX11_lowest_24 : decode cX11_lowest 24 = .ok (.ireturn, 1) := by decide +kernel
theorem dX11_lowest_25 : decode cX11_lowest 25 = .ok (.iinc 2 (-1), 3) := by decide +kernel
theorem dX11_lowest_28 : decode cX11_lowest 28 = .ok (.goto (-25), 3) := by decide +kernel
theorem dX11_lowest_31 : decode cX11_lowest 31 = .ok (.iload_n 0, 1) := by decide +kernel
theorem dX11_lowest_32 : decode cX11_lowest 32 = .ok (.ireturn, 1) := by decide +kernel
set_option maxRecDepth 20000 in
theorem ggX11_shareOf_J6_bitCount_0f7a4 : GoodIn wsX11_shareOf wsJ6_bitCount_0f7a4 := goodIn_r _ [4, 5, 6, 7] (by decide +kernel) (by decide +kernel)
set_option maxRecDepth 20000 in
theorem gX11_shareOf_J6_bitCount_0f7a4 : GoodIn wsX11_shareOf (va_wsS RX11 159 yJ6_bitCount_0f7a4 wsJ6_bitCount_0f7a4) := goodIn_app (goodIn_of _ (by decide +kernel)) ggX11_shareOf_J6_bitCount_0f7a4
theorem dX11_shareOf_0 : decode cX11_shareOf 0 = .ok (.iload_n 1, 1) := by decide +kernel
theorem dX11_shareOf_1 : decode cX11_shareOf 1 = .ok (.invokestatic 159, 3) := by decide +kernel
theorem dX11_shareOf_4 : decode cX11_shareOf 4 = .ok (.istore_n 2, 1) := by decide +kernel
theorem dX11_shareOf_5 : decode cX11_shareOf 5 = .ok (.iload_n 2, 1) := by decide +kernel
theorem dX11_shareOf_6 : decode cX11_shareOf 6 = .ok (.iconst 1, 1) := by decide +kernel
theorem dX11_shareOf_7 : decode cX11_shareOf 7 = .ok (.if_icmp .ge 7, 3) := by decide +kernel
theorem dX11_shareOf_10 : decode cX11_shareOf 10 = .ok (.iconst 0, 1) := by decide +kernel
theorem dX11_shareOf_11 : decode cX11_shareOf 11 = .ok (.goto 9, 3) := by decide +kernel
theorem dX11_shareOf_14 : decode cX11_shareOf 14 = .ok (.iload_n 0, 1) := by decide +kernel
theorem dX11_shareOf_15 : decode cX11_shareOf 15 = .ok (.bipush 60, 2) := by decide +kernel
theorem dX11_shareOf_17 : decode cX11_shareOf 17 = .ok (.imul, 1) := by decide +kernel
theorem dX11_shareOf_18 : decode cX11_shareOf 18 = .ok (.iload_n 2, 1) := by decide +kernel
theorem dX11_shareOf_19 : decode cX11_shareOf 19 = .ok (.idiv, 1) := by decide +kernel
theorem dX11_shareOf_20 : decode cX11_shareOf 20 = .ok (.ireturn, 1) := by decide +kernel
theorem dX12_init_0 : decode cX12_init 0 = .ok (.aload_n 0, 1) := by decide +kernel
theorem dX12_init_1 : decode cX12_init 1 = .ok (.invokespecial 1, 3) := by decide +kernel
theorem dX12_init_4 : decode cX12_init 4 = .ok (.aload_n 0, 1) := by decide +kernel
theorem dX12_init_5 : decode cX12_init 5 = .ok (.iconst 5, 1) := by decide +kernel
theorem dX12_init_6 : decode cX12_init 6 = .ok (.newarray .int, 2) := by decide +kernel
theorem dX12_init_8 : decode cX12_init 8 = .ok (.putfield 7, 3) := by decide +kernel
theorem dX12_init_11 : decode cX12_init 11 = .ok (.aload_n 0, 1) := by decide +kernel
theorem dX12_init_12 : decode cX12_init 12 = .ok (.iconst 5, 1) := by decide +kernel
theorem dX12_init_13 : decode cX12_init 13 = .ok (.newarray .int, 2) := by decide +kernel
theorem dX12_init_15 : decode cX12_init 15 = .ok (.putfield 13, 3) := by decide +kernel
theorem dX12_init_18 : decode cX12_init 18 = .ok (.aload_n 0, 1) := by decide +kernel
theorem dX12_init_19 : decode cX12_init 19 = .ok (.sipush 205, 3) := by decide +kernel
theorem dX12_init_22 : decode cX12_init 22 = .ok (.newarray .int, 2) := by decide +kernel
theorem dX12_init_24 : decode cX12_init 24 = .ok (.putfield 16, 3) := by decide +kernel
theorem dX12_init_27 : decode cX12_init 27 = .ok (.aload_n 0, 1) := by decide +kernel
theorem dX12_init_28 : decode cX12_init 28 = .ok (.iconst 5, 1) := by decide +kernel
theorem dX12_init_29 : decode cX12_init 29 = .ok (.newarray .int, 2) := by decide +kernel
theorem dX12_init_31 : decode cX12_init 31 = .ok (.putfield 19, 3) := by decide +kernel
theorem dX12_init_34 : decode cX12_init 34 = .ok (.aload_n 0, 1) := by decide +kernel
theorem dX12_init_35 : decode cX12_init 35 = .ok (.bipush 6, 2) := by decide +kernel
theorem dX12_init_37 : decode cX12_init 37 = .ok (.newarray .int, 2) := by decide +kernel
theorem dX12_init_39 : decode cX12_init 39 = .ok (.putfield 22, 3) := by decide +kernel
theorem dX12_init_42 : decode cX12_init 42 = .ok (.aload_n 0, 1) := by decide +kernel
theorem dX12_init_43 : decode cX12_init 43 = .ok (.bipush 6, 2) := by decide +kernel
theorem dX12_init_45 : decode cX12_init 45 = .ok (.newarray .int, 2) := by decide +kernel
theorem dX12_init_47 : decode cX12_init 47 = .ok (.putfield 25, 3) := by decide +kernel
