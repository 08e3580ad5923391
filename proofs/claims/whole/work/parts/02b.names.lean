set_option maxRecDepth 20000 in
theorem ggX0_init_X6_init : GoodIn wsX0_init wsX6_init := goodIn_r _ [4, 5, 6, 7, 8, 9, 10, 11, 12, 13, 14] (by decide +kernel) (by decide +kernel)
set_option maxRecDepth 20000 in
theorem gX0_init_X6_init : GoodIn wsX0_init (wsX6_init) := ggX0_init_X6_init
theorem dX0_init_0 : decode cX0_init 0 = .ok (.aload_n 0, 1) := by decide +kernel
theorem dX0_init_1 : decode cX0_init 1 = .ok (.bipush 20, 2) := by decide +kernel
theorem dX0_init_3 : decode cX0_init 3 = .ok (.invokespecial 3, 3) := by decide +kernel
theorem dX0_init_6 : decode cX0_init 6 = .ok (.return_, 1) := by decide +kernel
set_option maxRecDepth 20000 in
theorem ggX0_firstFault_X0_goesOnAt : GoodIn wsX0_firstFault wsX0_goesOnAt := goodIn_r _ [7, 8, 9, 10, 11, 12, 13, 14, 15, 16, 17, 6, 18, 19, 20, 21, 22] (by decide +kernel) (by decide +kernel)
set_option maxRecDepth 20000 in
theorem gX0_firstFault_X0_goesOnAt : GoodIn wsX0_firstFault (wsV RX0 15 RX0 yX0_goesOnAt wsX0_goesOnAt) := goodIn_app (goodIn_of _ (by decide +kernel)) ggX0_firstFault_X0_goesOnAt
theorem dX0_firstFault_0 : decode cX0_firstFault 0 = .ok (.iconst 0, 1) := by decide +kernel
theorem dX0_firstFault_1 : decode cX0_firstFault 1 = .ok (.istore_n 1, 1) := by decide +kernel
theorem dX0_firstFault_2 : decode cX0_firstFault 2 = .ok (.iload_n 1, 1) := by decide +kernel
theorem dX0_firstFault_3 : decode cX0_firstFault 3 = .ok (.aload_n 0, 1) := by decide +kernel
theorem dX0_firstFault_4 : decode cX0_firstFault 4 = .ok (.getfield 9, 3) := by decide +kernel
theorem dX0_firstFault_7 : decode cX0_firstFault 7 = .ok (.if_icmp .ge 25, 3) := by decide +kernel
theorem dX0_firstFault_10 : decode cX0_firstFault 10 = .ok (.iload_n 1, 1) := by decide +kernel
theorem dX0_firstFault_11 : decode cX0_firstFault 11 = .ok (.bipush 18, 2) := by decide +kernel
theorem dX0_firstFault_13 : decode cX0_firstFault 13 = .ok (.if_icmp .ge 11, 3) := by decide +kernel
theorem dX0_firstFault_16 : decode cX0_firstFault 16 = .ok (.aload_n 0, 1) := by decide +kernel
theorem dX0_firstFault_17 : decode cX0_firstFault 17 = .ok (.iload_n 1, 1) := by decide +kernel
theorem dX0_firstFault_18 : decode cX0_firstFault 18 = .ok (.invokevirtual 15, 3) := by decide +kernel
theorem dX0_firstFault_21 : decode cX0_firstFault 21 = .ok (.ifCond .ne 5, 3) := by decide +kernel
theorem dX0_firstFault_24 : decode cX0_firstFault 24 = .ok (.iload_n 1, 1) := by decide +kernel
theorem dX0_firstFault_25 : decode cX0_firstFault 25 = .ok (.ireturn, 1) := by decide +kernel
theorem dX0_firstFault_26 : decode cX0_firstFault 26 = .ok (.iinc 1 1, 3) := by decide +kernel
theorem dX0_firstFault_29 : decode cX0_firstFault 29 = .ok (.goto (-27), 3) := by decide +kernel
theorem dX0_firstFault_32 : decode cX0_firstFault 32 = .ok (.aload_n 0, 1) := by decide +kernel
theorem dX0_firstFault_33 : decode cX0_firstFault 33 = .ok (.getfield 9, 3) := by decide +kernel
theorem dX0_firstFault_36 : decode cX0_firstFault 36 = .ok (.ifCond .eq 13, 3) := by decide +kernel
theorem dX0_firstFault_39 : decode cX0_firstFault 39 = .ok (.aload_n 0, 1) := by decide +kernel
theorem dX0_firstFault_40 : decode cX0_firstFault 40 = .ok (.getfield 9, 3) := by decide +kernel
theorem dX0_firstFault_43 : decode cX0_firstFault 43 = .ok (.iconst 3, 1) := by decide +kernel
theorem dX0_firstFault_44 : decode cX0_firstFault 44 = .ok (.irem, 1) := by decide +kernel
theorem dX0_firstFault_45 : decode cX0_firstFault 45 = .ok (.iconst 2, 1) := by decide +kernel
theorem dX0_firstFault_46 : decode cX0_firstFault 46 = .ok (.if_icmp .ne 7, 3) := by decide +kernel
theorem dX0_firstFault_49 : decode cX0_firstFault 49 = .ok (.iconst 1, 1) := by decide +kernel
theorem dX0_firstFault_50 : decode cX0_firstFault 50 = .ok (.goto 4, 3) := by decide +kernel
theorem dX0_firstFault_53 : decode cX0_firstFault 53 = .ok (.iconst 0, 1) := by decide +kernel
theorem dX0_firstFault_54 : decode cX0_firstFault 54 = .ok (.istore_n 1, 1) := by decide +kernel
theorem dX0_firstFault_55 : decode cX0_firstFault 55 = .ok (.iload_n 1, 1) := by decide +kernel
theorem dX0_firstFault_56 : decode cX0_firstFault 56 = .ok (.ifCond .eq 7, 3) := by decide +kernel
theorem dX0_firstFault_59 : decode cX0_firstFault 59 = .ok (.iconst (-1), 1) := by decide +kernel
theorem dX0_firstFault_60 : decode cX0_firstFault 60 = .ok (.goto 7, 3) := by decide +kernel
theorem dX0_firstFault_63 : decode cX0_firstFault 63 = .ok (.aload_n 0, 1) := by decide +kernel
theorem dX0_firstFault_64 : decode cX0_firstFault 64 = .ok (.getfield 9, 3) := by decide +kernel
theorem dX0_firstFault_67 : decode cX0_firstFault 67 = .ok (.ireturn, 1) := by decide +kernel
set_option maxRecDepth 20000 in
theorem ggX0_goesOnAt_X6_byteAt : GoodIn wsX0_goesOnAt wsX6_byteAt := goodIn_r _ [6, 7, 8, 13, 14, 15, 16] (by decide +kernel) (by decide +kernel)
set_option maxRecDepth 20000 in
theorem gX0_goesOnAt_X6_byteAt_u19X0 : GoodIn wsX0_goesOnAt (va_wsU RX0 19 RX0 "SecondSunrise$Text" ⟨"SecondSunrise$Calendar", "byteAt", "(I)I"⟩ yX6_byteAt wsX6_byteAt) := goodIn_app (goodIn_of _ (by decide +kernel)) ggX0_goesOnAt_X6_byteAt
set_option maxRecDepth 20000 in
theorem ggX0_goesOnAt_X0_isFigure : GoodIn wsX0_goesOnAt wsX0_isFigure := goodIn_r _ [12] (by decide +kernel) (by decide +kernel)
set_option maxRecDepth 20000 in
theorem gX0_goesOnAt_X0_isFigure : GoodIn wsX0_goesOnAt (va_wsS RX0 23 yX0_isFigure wsX0_isFigure) := goodIn_app (goodIn_of _ (by decide +kernel)) ggX0_goesOnAt_X0_isFigure
theorem dX0_goesOnAt_0 : decode cX0_goesOnAt 0 = .ok (.aload_n 0, 1) := by decide +kernel
theorem dX0_goesOnAt_1 : decode cX0_goesOnAt 1 = .ok (.iload_n 1, 1) := by decide +kernel
theorem dX0_goesOnAt_2 : decode cX0_goesOnAt 2 = .ok (.invokevirtual 19, 3) := by decide +kernel
theorem dX0_goesOnAt_5 : decode cX0_goesOnAt 5 = .ok (.istore_n 2, 1) := by decide +kernel
theorem dX0_goesOnAt_6 : decode cX0_goesOnAt 6 = .ok (.iload_n 1, 1) := by decide +kernel
theorem dX0_goesOnAt_7 : decode cX0_goesOnAt 7 = .ok (.iconst 3, 1) := by decide +kernel
theorem dX0_goesOnAt_8 : decode cX0_goesOnAt 8 = .ok (.irem, 1) := by decide +kernel
theorem dX0_goesOnAt_9 : decode cX0_goesOnAt 9 = .ok (.lookupswitch 63 #[(0, 27), (1, 32)], 27) := by decide +kernel
theorem dX0_goesOnAt_36 : decode cX0_goesOnAt 36 = .ok (.iload_n 2, 1) := by decide +kernel
theorem dX0_goesOnAt_37 : decode cX0_goesOnAt 37 = .ok (.invokestatic 23, 3) := by decide +kernel
theorem dX0_goesOnAt_40 : decode cX0_goesOnAt 40 = .ok (.ireturn, 1) := by decide +kernel
theorem dX0_goesOnAt_41 : decode cX0_goesOnAt 41 = .ok (.iload_n 2, 1) := by decide +kernel
theorem dX0_goesOnAt_42 : decode cX0_goesOnAt 42 = .ok (.invokestatic 23, 3) := by decide +kernel
theorem dX0_goesOnAt_45 : decode cX0_goesOnAt 45 = .ok (.ifCond .eq 25, 3) := by decide +kernel
theorem dX0_goesOnAt_48 : decode cX0_goesOnAt 48 = .ok (.iload_n 2, 1) := by decide +kernel
theorem dX0_goesOnAt_49 : decode cX0_goesOnAt 49 = .ok (.bipush 48, 2) := by decide +kernel
theorem dX0_goesOnAt_51 : decode cX0_goesOnAt 51 = .ok (.if_icmp .ne 15, 3) := by decide +kernel
theorem dX0_goesOnAt_54 : decode cX0_goesOnAt 54 = .ok (.aload_n 0, 1) := by decide +kernel
theorem dX0_goesOnAt_55 : decode cX0_goesOnAt 55 = .ok (.iload_n 1, 1) := by decide +kernel
theorem dX0_goesOnAt_56 : decode cX0_goesOnAt 56 = .ok (.iconst 1, 1) := by decide +kernel
theorem dX0_goesOnAt_57 : decode cX0_goesOnAt 57 = .ok (.isub, 1) := by decide +kernel
theorem dX0_goesOnAt_58 : decode cX0_goesOnAt 58 = .ok (.invokevirtual 19, 3) := by decide +kernel
theorem dX0_goesOnAt_61 : decode cX0_goesOnAt 61 = .ok (.bipush 48, 2) := by decide +kernel
theorem dX0_goesOnAt_63 : decode cX0_goesOnAt 63 = .ok (.if_icmp .eq 7, 3) := by decide +kernel
theorem dX0_goesOnAt_66 : decode cX0_goesOnAt 66 = .ok (.iconst 1, 1) := by decide +kernel
theorem dX0_goesOnAt_67 : decode cX0_goesOnAt 67 = .ok (.goto 4, 3) := by decide +kernel
theorem dX0_goesOnAt_70 : decode cX0_goesOnAt 70 = .ok (.iconst 0, 1) := by decide +kernel
theorem dX0_goesOnAt_71 : decode cX0_goesOnAt 71 = .ok (.ireturn, 1) := by decide +kernel
theorem dX0_goesOnAt_72 : decode cX0_goesOnAt 72 = .ok (.iload_n 2, 1) := by decide +kernel
theorem dX0_goesOnAt_73 : decode cX0_goesOnAt 73 = .ok (.bipush 59, 2) := by decide +kernel
theorem dX0_goesOnAt_75 : decode cX0_goesOnAt 75 = .ok (.if_icmp .ne 7, 3) := by decide +kernel
theorem dX0_goesOnAt_78 : decode cX0_goesOnAt 78 = .ok (.iconst 1, 1) := by decide +kernel
theorem dX0_goesOnAt_79 : decode cX0_goesOnAt 79 = .ok (.goto 4, 3) := by decide +kernel
theorem dX0_goesOnAt_82 : decode cX0_goesOnAt 82 = .ok (.iconst 0, 1) := by decide +kernel
theorem dX0_goesOnAt_83 : decode cX0_goesOnAt 83 = .ok (.ireturn, 1) := by decide +kernel
theorem dX0_isFigure_0 : decode cX0_isFigure 0 = .ok (.iload_n 0, 1) := by decide +kernel
theorem dX0_isFigure_1 : decode cX0_isFigure 1 = .ok (.bipush 48, 2) := by decide +kernel
theorem dX0_isFigure_3 : decode cX0_isFigure 3 = .ok (.if_icmp .lt 13, 3) := by decide +kernel
theorem dX0_isFigure_6 : decode cX0_isFigure 6 = .ok (.iload_n 0, 1) := by decide +kernel
theorem dX0_isFigure_7 : decode cX0_isFigure 7 = .ok (.bipush 57, 2) := by decide +kernel
theorem dX0_isFigure_9 : decode cX0_isFigure 9 = .ok (.if_icmp .gt 7, 3) := by decide +kernel
theorem dX0_isFigure_12 : decode cX0_isFigure 12 = .ok (.iconst 1, 1) := by decide +kernel
theorem dX0_isFigure_13 : decode cX0_isFigure 13 = .ok (.goto 4, 3) := by decide +kernel
theorem dX0_isFigure_16 : decode cX0_isFigure 16 = .ok (.iconst 0, 1) := by decide +kernel
theorem dX0_isFigure_17 : decode cX0_isFigure 17 = .ok (.ireturn, 1) := by decide +kernel
set_option maxRecDepth 20000 in
theorem ggX0_months_X0_firstFault : GoodIn wsX0_months wsX0_firstFault := goodIn_r _ [7, 1, 2, 8, 9, 10, 6, 11, 12, 13, 14, 15, 16, 17, 18, 19, 20, 21, 22, 23, 24, 25, 26] (by decide +kernel) (by decide +kernel)
set_option maxRecDepth 20000 in
theorem gX0_months_X0_firstFault : GoodIn wsX0_months (wsV RX0 26 RX0 yX0_firstFault wsX0_firstFault) := goodIn_app (goodIn_of _ (by decide +kernel)) ggX0_months_X0_firstFault
theorem dX0_months_0 : decode cX0_months 0 = .ok (.aload_n 0, 1) := by decide +kernel
theorem dX0_months_1 : decode cX0_months 1 = .ok (.invokevirtual 26, 3) := by decide +kernel
theorem dX0_months_4 : decode cX0_months 4 = .ok (.iconst (-1), 1) := by decide +kernel
theorem dX0_months_5 : decode cX0_months 5 = .ok (.if_icmp .ne 14, 3) := by decide +kernel
theorem dX0_months_8 : decode cX0_months 8 = .ok (.aload_n 0, 1) := by decide +kernel
theorem dX0_months_9 : decode cX0_months 9 = .ok (.getfield 9, 3) := by decide +kernel
theorem dX0_months_12 : decode cX0_months 12 = .ok (.iconst 1, 1) := by decide +kernel
theorem dX0_months_13 : decode cX0_months 13 = .ok (.iadd, 1) := by decide +kernel
theorem dX0_months_14 : decode cX0_months 14 = .ok (.iconst 3, 1) := by decide +kernel
theorem dX0_months_15 : decode cX0_months 15 = .ok (.idiv, 1) := by decide +kernel
theorem dX0_months_16 : decode cX0_months 16 = .ok (.goto 4, 3) := by decide +kernel
theorem dX0_months_19 : decode cX0_months 19 = .ok (.iconst 0, 1) := by decide +kernel
theorem dX0_months_20 : decode cX0_months 20 = .ok (.ireturn, 1) := by decide +kernel
set_option maxRecDepth 20000 in
theorem ggX0_lengthOf_X6_byteAt : GoodIn wsX0_lengthOf wsX6_byteAt := goodIn_r _ [6, 7, 8, 9, 10, 11, 12] (by decide +kernel) (by decide +kernel)
set_option maxRecDepth 20000 in
theorem gX0_lengthOf_X6_byteAt_u19X0 : GoodIn wsX0_lengthOf (va_wsU RX0 19 RX0 "SecondSunrise$Text" ⟨"SecondSunrise$Calendar", "byteAt", "(I)I"⟩ yX6_byteAt wsX6_byteAt) := goodIn_app (goodIn_of _ (by decide +kernel)) ggX0_lengthOf_X6_byteAt
theorem dX0_lengthOf_0 : decode cX0_lengthOf 0 = .ok (.iconst 3, 1) := by decide +kernel
theorem dX0_lengthOf_1 : decode cX0_lengthOf 1 = .ok (.iload_n 1, 1) := by decide +kernel
theorem dX0_lengthOf_2 : decode cX0_lengthOf 2 = .ok (.imul, 1) := by decide +kernel
theorem dX0_lengthOf_3 : decode cX0_lengthOf 3 = .ok (.istore_n 2, 1) := by decide +kernel
theorem dX0_lengthOf_4 : decode cX0_lengthOf 4 = .ok (.bipush 10, 2) := by decide +kernel
theorem dX0_lengthOf_6 : decode cX0_lengthOf 6 = .ok (.aload_n 0, 1) := by decide +kernel
theorem dX0_lengthOf_7 : decode cX0_lengthOf 7 = .ok (.iload_n 2, 1) := by decide +kernel
theorem dX0_lengthOf_8 : decode cX0_lengthOf 8 = .ok (.invokevirtual 19, 3) := by decide +kernel
theorem dX0_lengthOf_11 : decode cX0_lengthOf 11 = .ok (.bipush 48, 2) := by decide +kernel
theorem dX0_lengthOf_13 : decode cX0_lengthOf 13 = .ok (.isub, 1) := by decide +kernel
theorem dX0_lengthOf_14 : decode cX0_lengthOf 14 = .ok (.imul, 1) := by decide +kernel
theorem dX0_lengthOf_15 : decode cX0_lengthOf 15 = .ok (.aload_n 0, 1) := by decide +kernel
theorem dX0_lengthOf_16 : decode cX0_lengthOf 16 = .ok (.iload_n 2, 1) := by decide +kernel
theorem dX0_lengthOf_17 : decode cX0_lengthOf 17 = .ok (.iconst 1, 1) := by decide +kernel
theorem dX0_lengthOf_18 : decode cX0_lengthOf 18 = .ok (.iadd, 1) := by decide +kernel
theorem dX0_lengthOf_19 : decode cX0_lengthOf 19 = .ok (.invokevirtual 19, 3) := by decide +kernel
theorem dX0_lengthOf_22 : decode cX0_lengthOf 22 = .ok (.iadd, 1) := by decide +kernel
theorem dX0_lengthOf_23 : decode cX0_lengthOf 23 = .ok (.bipush 48, 2) := by decide +kernel
theorem dX0_lengthOf_25 : decode cX0_lengthOf 25 = .ok (.isub, 1) := by decide +kernel
theorem dX0_lengthOf_26 : decode cX0_lengthOf 26 = .ok (.ireturn, 1) := by decide +kernel
set_option maxRecDepth 20000 in
theorem ggX0_hoursOfAll_X0_months : GoodIn wsX0_hoursOfAll wsX0_months := goodIn_r _ [5, 6, 7, 8, 9, 10, 4, 11, 12, 13, 14, 15, 16, 17, 18, 19, 20, 21, 22, 23, 24, 25, 26, 31, 32, 33, 34] (by decide +kernel) (by decide +kernel)
set_option maxRecDepth 20000 in
theorem gX0_hoursOfAll_X0_months : GoodIn wsX0_hoursOfAll (wsV RX0 30 RX0 yX0_months wsX0_months) := goodIn_app (goodIn_of _ (by decide +kernel)) ggX0_hoursOfAll_X0_months
set_option maxRecDepth 20000 in
theorem ggX0_hoursOfAll_X0_lengthOf : GoodIn wsX0_hoursOfAll wsX0_lengthOf := goodIn_r _ [30, 16, 17, 18, 19, 20, 21, 22, 23, 31, 32, 33, 34] (by decide +kernel) (by decide +kernel)
set_option maxRecDepth 20000 in
theorem gX0_hoursOfAll_X0_lengthOf : GoodIn wsX0_hoursOfAll (wsV RX0 33 RX0 yX0_lengthOf wsX0_lengthOf) := goodIn_app (goodIn_of _ (by decide +kernel)) ggX0_hoursOfAll_X0_lengthOf
theorem dX0_hoursOfAll_0 : decode cX0_hoursOfAll 0 = .ok (.aload_n 0, 1) := by decide +kernel
theorem dX0_hoursOfAll_1 : decode cX0_hoursOfAll 1 = .ok (.invokevirtual 30, 3) := by decide +kernel
theorem dX0_hoursOfAll_4 : decode cX0_hoursOfAll 4 = .ok (.istore_n 1, 1) := by decide +kernel
theorem dX0_hoursOfAll_5 : decode cX0_hoursOfAll 5 = .ok (.iconst 0, 1) := by decide +kernel
theorem dX0_hoursOfAll_6 : decode cX0_hoursOfAll 6 = .ok (.istore_n 2, 1) := by decide +kernel
theorem dX0_hoursOfAll_7 : decode cX0_hoursOfAll 7 = .ok (.iconst 0, 1) := by decide +kernel
theorem dX0_hoursOfAll_8 : decode cX0_hoursOfAll 8 = .ok (.istore_n 3, 1) := by decide +kernel
theorem dX0_hoursOfAll_9 : decode cX0_hoursOfAll 9 = .ok (.iload_n 3, 1) := by decide +kernel
theorem dX0_hoursOfAll_10 : decode cX0_hoursOfAll 10 = .ok (.iload_n 1, 1) := by decide +kernel
theorem dX0_hoursOfAll_11 : decode cX0_hoursOfAll 11 = .ok (.if_icmp .ge 17, 3) := by decide +kernel
theorem dX0_hoursOfAll_14 : decode cX0_hoursOfAll 14 = .ok (.iload_n 2, 1) := by decide +kernel
theorem dX0_hoursOfAll_15 : decode cX0_hoursOfAll 15 = .ok (.aload_n 0, 1) := by decide +kernel
theorem dX0_hoursOfAll_16 : decode cX0_hoursOfAll 16 = .ok (.iload_n 3, 1) := by decide +kernel
theorem dX0_hoursOfAll_17 : decode cX0_hoursOfAll 17 = .ok (.invokevirtual 33, 3) := by decide +kernel
theorem dX0_hoursOfAll_20 : decode cX0_hoursOfAll 20 = .ok (.iadd, 1) := by decide +kernel
theorem dX0_hoursOfAll_21 : decode cX0_hoursOfAll 21 = .ok (.istore_n 2, 1) := by decide +kernel
theorem dX0_hoursOfAll_22 : decode cX0_hoursOfAll 22 = .ok (.iinc 3 1, 3) := by decide +kernel
theorem dX0_hoursOfAll_25 : decode cX0_hoursOfAll 25 = .ok (.goto (-16), 3) := by decide +kernel
theorem dX0_hoursOfAll_28 : decode cX0_hoursOfAll 28 = .ok (.iload_n 2, 1) := by decide +kernel
theorem dX0_hoursOfAll_29 : decode cX0_hoursOfAll 29 = .ok (.ireturn, 1) := by decide +kernel
set_option maxRecDepth 20000 in
theorem ggX1_init_X6_init : GoodIn wsX1_init wsX6_init := goodIn_r _ [4, 5, 6, 7, 8, 9, 10, 11, 12, 13, 14] (by decide +kernel) (by decide +kernel)
set_option maxRecDepth 20000 in
theorem gX1_init_X6_init : GoodIn wsX1_init (wsX6_init) := ggX1_init_X6_init
theorem dX1_init_0 : decode cX1_init 0 = .ok (.aload_n 0, 1) := by decide +kernel
theorem dX1_init_1 : decode cX1_init 1 = .ok (.bipush 60, 2) := by decide +kernel
theorem dX1_init_3 : decode cX1_init 3 = .ok (.invokespecial 3, 3) := by decide +kernel
theorem dX1_init_6 : decode cX1_init 6 = .ok (.return_, 1) := by decide +kernel
set_option maxRecDepth 20000 in
theorem ggX1_firstFault_X6_byteAt : GoodIn wsX1_firstFault wsX6_byteAt := goodIn_r _ [8, 9, 10, 16, 17, 18, 19] (by decide +kernel) (by decide +kernel)
set_option maxRecDepth 20000 in
theorem gX1_firstFault_X6_byteAt_u15X1 : GoodIn wsX1_firstFault (va_wsU RX1 15 RX1 "SecondSunrise$Text" ⟨"SecondSunrise$Diary", "byteAt", "(I)I"⟩ yX6_byteAt wsX6_byteAt) := goodIn_app (goodIn_of _ (by decide +kernel)) ggX1_firstFault_X6_byteAt
set_option maxRecDepth 20000 in
theorem ggX1_firstFault_X1_seenIn : GoodIn wsX1_firstFault wsX1_seenIn := goodIn_r _ [15, 3, 4, 5, 6, 7, 8, 9, 10, 16, 17, 18, 19] (by decide +kernel) (by decide +kernel)
set_option maxRecDepth 20000 in
theorem gX1_firstFault_X1_seenIn : GoodIn wsX1_firstFault (wsV RX1 19 RX1 yX1_seenIn wsX1_seenIn) := goodIn_app (goodIn_of _ (by decide +kernel)) ggX1_firstFault_X1_seenIn
theorem dX1_firstFault_0 : decode cX1_firstFault 0 = .ok (.iconst 0, 1) := by decide +kernel
theorem dX1_firstFault_1 : decode cX1_firstFault 1 = .ok (.istore_n 1, 1) := by decide +kernel
theorem dX1_firstFault_2 : decode cX1_firstFault 2 = .ok (.iload_n 1, 1) := by decide +kernel
theorem dX1_firstFault_3 : decode cX1_firstFault 3 = .ok (.aload_n 0, 1) := by decide +kernel
theorem dX1_firstFault_4 : decode cX1_firstFault 4 = .ok (.getfield 9, 3) := by decide +kernel
theorem dX1_firstFault_7 : decode cX1_firstFault 7 = .ok (.if_icmp .ge 30, 3) := by decide +kernel
theorem dX1_firstFault_10 : decode cX1_firstFault 10 = .ok (.aload_n 0, 1) := by decide +kernel
theorem dX1_firstFault_11 : decode cX1_firstFault 11 = .ok (.iload_n 1, 1) := by decide +kernel
theorem dX1_firstFault_12 : decode cX1_firstFault 12 = .ok (.invokevirtual 15, 3) := by decide +kernel
theorem dX1_firstFault_15 : decode cX1_firstFault 15 = .ok (.bipush 46, 2) := by decide +kernel
theorem dX1_firstFault_17 : decode cX1_firstFault 17 = .ok (.if_icmp .eq 14, 3) := by decide +kernel
theorem dX1_firstFault_20 : decode cX1_firstFault 20 = .ok (.aload_n 0, 1) := by decide +kernel
theorem dX1_firstFault_21 : decode cX1_firstFault 21 = .ok (.iload_n 1, 1) := by decide +kernel
theorem dX1_firstFault_22 : decode cX1_firstFault 22 = .ok (.invokevirtual 19, 3) := by decide +kernel
theorem dX1_firstFault_25 : decode cX1_firstFault 25 = .ok (.iconst (-1), 1) := by decide +kernel
theorem dX1_firstFault_26 : decode cX1_firstFault 26 = .ok (.if_icmp .ne 5, 3) := by decide +kernel
theorem dX1_firstFault_29 : decode cX1_firstFault 29 = .ok (.iload_n 1, 1) := by decide +kernel
theorem dX1_firstFault_30 : decode cX1_firstFault 30 = .ok (.ireturn, 1) := by decide +kernel
theorem dX1_firstFault_31 : decode cX1_firstFault 31 = .ok (.iinc 1 1, 3) := by decide +kernel
theorem dX1_firstFault_34 : decode cX1_firstFault 34 = .ok (.goto (-32), 3) := by decide +kernel
theorem dX1_firstFault_37 : decode cX1_firstFault 37 = .ok (.iconst (-1), 1) := by decide +kernel
theorem dX1_firstFault_38 : decode cX1_firstFault 38 = .ok (.ireturn, 1) := by decide +kernel
set_option maxRecDepth 20000 in
theorem ggX1_seenIn_X6_byteAt : GoodIn wsX1_seenIn wsX6_byteAt := goodIn_r _ [6, 7, 8, 9, 10, 11, 12] (by decide +kernel) (by decide +kernel)
set_option maxRecDepth 20000 in
theorem gX1_seenIn_X6_byteAt_u15X1 : GoodIn wsX1_seenIn (va_wsU RX1 15 RX1 "SecondSunrise$Text" ⟨"SecondSunrise$Diary", "byteAt", "(I)I"⟩ yX6_byteAt wsX6_byteAt) := goodIn_app (goodIn_of _ (by decide +kernel)) ggX1_seenIn_X6_byteAt
theorem dX1_seenIn_0 : decode cX1_seenIn 0 = .ok (.aload_n 0, 1) := by decide +kernel
theorem dX1_seenIn_1 : decode cX1_seenIn 1 = .ok (.iload_n 1, 1) := by decide +kernel
theorem dX1_seenIn_2 : decode cX1_seenIn 2 = .ok (.invokevirtual 15, 3) := by decide +kernel
theorem dX1_seenIn_5 : decode cX1_seenIn 5 = .ok (.lookupswitch 51 #[(98, 47), (100, 49), (110, 43), (114, 45)], 43) := by decide +kernel
theorem dX1_seenIn_48 : decode cX1_seenIn 48 = .ok (.iconst 0, 1) := by decide +kernel
theorem dX1_seenIn_49 : decode cX1_seenIn 49 = .ok (.ireturn, 1) := by decide +kernel
theorem dX1_seenIn_50 : decode cX1_seenIn 50 = .ok (.iconst 1, 1) := by decide +kernel
theorem dX1_seenIn_51 : decode cX1_seenIn 51 = .ok (.ireturn, 1) := by decide +kernel
theorem dX1_seenIn_52 : decode cX1_seenIn 52 = .ok (.iconst 2, 1) := by decide +kernel
theorem dX1_seenIn_53 : decode cX1_seenIn 53 = .ok (.ireturn, 1) := by decide +kernel
theorem dX1_seenIn_54 : decode cX1_seenIn 54 = .ok (.iconst 3, 1) := by decide +kernel
theorem dX1_seenIn_55 : decode cX1_seenIn 55 = .ok (.ireturn, 1) := by decide +kernel
theorem dX1_seenIn_56 : decode cX1_seenIn 56 = .ok (.iconst (-1), 1) := by decide +kernel
theorem dX1_seenIn_57 : decode cX1_seenIn 57 = .ok (.ireturn, 1) := by decide +kernel
set_option maxRecDepth 20000 in
theorem ggX1_hours_X1_firstFault : GoodIn wsX1_hours wsX1_firstFault := goodIn_r _ [7, 1, 2, 8, 9, 10, 11, 12, 13, 14, 15, 16, 17, 18, 6, 19, 20, 21, 22, 23] (by decide +kernel) (by decide +kernel)
set_option maxRecDepth 20000 in
theorem gX1_hours_X1_firstFault : GoodIn wsX1_hours (wsV RX1 22 RX1 yX1_firstFault wsX1_firstFault) := goodIn_app (goodIn_of _ (by decide +kernel)) ggX1_hours_X1_firstFault
theorem dX1_hours_0 : decode cX1_hours 0 = .ok (.aload_n 0, 1) := by decide +kernel
theorem dX1_hours_1 : decode cX1_hours 1 = .ok (.invokevirtual 22, 3) := by decide +kernel
theorem dX1_hours_4 : decode cX1_hours 4 = .ok (.iconst (-1), 1) := by decide +kernel
theorem dX1_hours_5 : decode cX1_hours 5 = .ok (.if_icmp .ne 10, 3) := by decide +kernel
theorem dX1_hours_8 : decode cX1_hours 8 = .ok (.aload_n 0, 1) := by decide +kernel
theorem dX1_hours_9 : decode cX1_hours 9 = .ok (.getfield 9, 3) := by decide +kernel
theorem dX1_hours_12 : decode cX1_hours 12 = .ok (.goto 4, 3) := by decide +kernel
theorem dX1_hours_15 : decode cX1_hours 15 = .ok (.iconst 0, 1) := by decide +kernel
theorem dX1_hours_16 : decode cX1_hours 16 = .ok (.ireturn, 1) := by decide +kernel
set_option maxRecDepth 20000 in
theorem ggX1_hoursLooked_X1_hours : GoodIn wsX1_hoursLooked wsX1_hours := goodIn_r _ [5, 6, 7, 8, 9, 10, 4, 11, 12, 13, 14, 15, 16, 17, 18, 19, 20, 21, 22, 23, 24, 25, 26, 27] (by decide +kernel) (by decide +kernel)
set_option maxRecDepth 20000 in
theorem gX1_hoursLooked_X1_hours : GoodIn wsX1_hoursLooked (wsV RX1 26 RX1 yX1_hours wsX1_hours) := goodIn_app (goodIn_of _ (by decide +kernel)) ggX1_hoursLooked_X1_hours
set_option maxRecDepth 20000 in
theorem ggX1_hoursLooked_X1_seenIn : GoodIn wsX1_hoursLooked wsX1_seenIn := goodIn_r _ [23, 12, 13, 14, 15, 16, 17, 18, 19, 24, 25, 26, 27] (by decide +kernel) (by decide +kernel)
set_option maxRecDepth 20000 in
theorem gX1_hoursLooked_X1_seenIn : GoodIn wsX1_hoursLooked (wsV RX1 19 RX1 yX1_seenIn wsX1_seenIn) := goodIn_app (goodIn_of _ (by decide +kernel)) ggX1_hoursLooked_X1_seenIn
theorem dX1_hoursLooked_0 : decode cX1_hoursLooked 0 = .ok (.aload_n 0, 1) := by decide +kernel
theorem dX1_hoursLooked_1 : decode cX1_hoursLooked 1 = .ok (.invokevirtual 26, 3) := by decide +kernel
theorem dX1_hoursLooked_4 : decode cX1_hoursLooked 4 = .ok (.istore_n 1, 1) := by decide +kernel
theorem dX1_hoursLooked_5 : decode cX1_hoursLooked 5 = .ok (.iconst 0, 1) := by decide +kernel
theorem dX1_hoursLooked_6 : decode cX1_hoursLooked 6 = .ok (.istore_n 2, 1) := by decide +kernel
theorem dX1_hoursLooked_7 : decode cX1_hoursLooked 7 = .ok (.iconst 0, 1) := by decide +kernel
theorem dX1_hoursLooked_8 : decode cX1_hoursLooked 8 = .ok (.istore_n 3, 1) := by decide +kernel
theorem dX1_hoursLooked_9 : decode cX1_hoursLooked 9 = .ok (.iload_n 3, 1) := by decide +kernel
theorem dX1_hoursLooked_10 : decode cX1_hoursLooked 10 = .ok (.iload_n 1, 1) := by decide +kernel
theorem dX1_hoursLooked_11 : decode cX1_hoursLooked 11 = .ok (.if_icmp .ge 21, 3) := by decide +kernel
theorem dX1_hoursLooked_14 : decode cX1_hoursLooked 14 = .ok (.aload_n 0, 1) := by decide +kernel
theorem dX1_hoursLooked_15 : decode cX1_hoursLooked 15 = .ok (.iload_n 3, 1) := by decide +kernel
theorem dX1_hoursLooked_16 : decode cX1_hoursLooked 16 = .ok (.invokevirtual 19, 3) := by decide +kernel
theorem dX1_hoursLooked_19 : decode cX1_hoursLooked 19 = .ok (.iconst (-1), 1) := by decide +kernel
theorem dX1_hoursLooked_20 : decode cX1_hoursLooked 20 = .ok (.if_icmp .eq 6, 3) := by decide +kernel
theorem dX1_hoursLooked_23 : decode cX1_hoursLooked 23 = .ok (.iinc 2 1, 3) := by decide +kernel
theorem dX1_hoursLooked_26 : decode cX1_hoursLooked 26 = .ok (.iinc 3 1, 3) := by decide +kernel
theorem dX1_hoursLooked_29 : decode cX1_hoursLooked 29 = .ok (.goto (-20), 3) := by decide +kernel
theorem dX1_hoursLooked_32 : decode cX1_hoursLooked 32 = .ok (.iload_n 2, 1) := by decide +kernel
theorem dX1_hoursLooked_33 : decode cX1_hoursLooked 33 = .ok (.ireturn, 1) := by decide +kernel
theorem dX2_init_0 : decode cX2_init 0 = .ok (.aload_n 0, 1) := by decide +kernel
theorem dX2_init_1 : decode cX2_init 1 = .ok (.invokespecial 1, 3) := by decide +kernel
theorem dX2_init_4 : decode cX2_init 4 = .ok (.aload_n 0, 1) := by decide +kernel
theorem dX2_init_5 : decode cX2_init 5 = .ok (.iconst 4, 1) := by decide +kernel
theorem dX2_init_6 : decode cX2_init 6 = .ok (.putfield 7, 3) := by decide +kernel
theorem dX2_init_9 : decode cX2_init 9 = .ok (.aload_n 0, 1) := by decide +kernel
theorem dX2_init_10 : decode cX2_init 10 = .ok (.iconst 4, 1) := by decide +kernel
theorem dX2_init_11 : decode cX2_init 11 = .ok (.newarray .int, 2) := by decide +kernel
theorem dX2_init_13 : decode cX2_init 13 = .ok (.dup, 1) := by decide +kernel
theorem dX2_init_14 : decode cX2_init 14 = .ok (.iconst 0, 1) := by decide +kernel
theorem dX2_init_15 : decode cX2_init 15 = .ok (.iconst 0, 1) := by decide +kernel
theorem dX2_init_16 : decode cX2_init 16 = .ok (.iastore, 1) := by decide +kernel
theorem dX2_init_17 : decode cX2_init 17 = .ok (.dup, 1) := by decide +kernel
theorem dX2_init_18 : decode cX2_init 18 = .ok (.iconst 1, 1) := by decide +kernel
theorem dX2_init_19 : decode cX2_init 19 = .ok (.iconst 1, 1) := by decide +kernel
theorem dX2_init_20 : decode cX2_init 20 = .ok (.iastore, 1) := by decide +kernel
theorem dX2_init_21 : decode cX2_init 21 = .ok (.dup, 1) := by decide +kernel
theorem dX2_init_22 : decode cX2_init 22 = .ok (.iconst 2, 1) := by decide +kernel
theorem dX2_init_23 : decode cX2_init 23 = .ok (.iconst 1, 1) := by decide +kernel
theorem dX2_init_24 : decode cX2_init 24 = .ok (.iastore, 1) := by decide +kernel
theorem dX2_init_25 : decode cX2_init 25 = .ok (.dup, 1) := by decide +kernel
theorem dX2_init_26 : decode cX2_init 26 = .ok (.iconst 3, 1) := by decide +kernel
theorem dX2_init_27 : decode cX2_init 27 = .ok (.iconst 2, 1) := by decide +kernel
theorem dX2_init_28 : decode cX2_init 28 = .ok (.iastore, 1) := by decide +kernel
theorem dX2_init_29 : decode cX2_init 29 = .ok (.putfield 13, 3) := by decide +kernel
theorem dX2_init_32 : decode cX2_init 32 = .ok (.return_, 1) := by decide +kernel
set_option maxRecDepth 20000 in
theorem ggX2_yieldFrom_X4_lightIn : GoodIn wsX2_yieldFrom wsX4_lightIn := goodIn_r _ [11, 12, 13, 14, 15, 16, 17, 18, 19, 20, 21, 24, 25, 26, 27, 28, 29, 30] (by decide +kernel) (by decide +kernel)
set_option maxRecDepth 20000 in
theorem gX2_yieldFrom_X4_lightIn : GoodIn wsX2_yieldFrom (wsV RX2 17 RX4 yX4_lightIn wsX4_lightIn) := goodIn_app (goodIn_of _ (by decide +kernel)) ggX2_yieldFrom_X4_lightIn
theorem dX2_yieldFrom_0 : decode cX2_yieldFrom 0 = .ok (.iconst 0, 1) := by decide +kernel
theorem dX2_yieldFrom_1 : decode cX2_yieldFrom 1 = .ok (.istore_n 3, 1) := by decide +kernel
theorem dX2_yieldFrom_2 : decode cX2_yieldFrom 2 = .ok (.iconst 0, 1) := by decide +kernel
theorem dX2_yieldFrom_3 : decode cX2_yieldFrom 3 = .ok (.istore 4, 2) := by decide +kernel
theorem dX2_yieldFrom_5 : decode cX2_yieldFrom 5 = .ok (.iload 4, 2) := by decide +kernel
theorem dX2_yieldFrom_7 : decode cX2_yieldFrom 7 = .ok (.aload_n 0, 1) := by decide +kernel
theorem dX2_yieldFrom_8 : decode cX2_yieldFrom 8 = .ok (.getfield 7, 3) := by decide +kernel
theorem dX2_yieldFrom_11 : decode cX2_yieldFrom 11 = .ok (.if_icmp .ge 44, 3) := by decide +kernel
theorem dX2_yieldFrom_14 : decode cX2_yieldFrom 14 = .ok (.aload_n 1, 1) := by decide +kernel
theorem dX2_yieldFrom_15 : decode cX2_yieldFrom 15 = .ok (.iload_n 2, 1) := by decide +kernel
theorem dX2_yieldFrom_16 : decode cX2_yieldFrom 16 = .ok (.iload 4, 2) := by decide +kernel
theorem dX2_yieldFrom_18 : decode cX2_yieldFrom 18 = .ok (.iadd, 1) := by decide +kernel
theorem dX2_yieldFrom_19 : decode cX2_yieldFrom 19 = .ok (.invokevirtual 17, 3) := by decide +kernel
theorem dX2_yieldFrom_22 : decode cX2_yieldFrom 22 = .ok (.istore 5, 2) := by decide +kernel
theorem dX2_yieldFrom_24 : decode cX2_yieldFrom 24 = .ok (.iload 5, 2) := by decide +kernel
theorem dX2_yieldFrom_26 : decode cX2_yieldFrom 26 = .ok (.ifCond .lt 23, 3) := by decide +kernel
theorem dX2_yieldFrom_29 : decode cX2_yieldFrom 29 = .ok (.iload 5, 2) := by decide +kernel
theorem dX2_yieldFrom_31 : decode cX2_yieldFrom 31 = .ok (.aload_n 0, 1) := by decide +kernel
theorem dX2_yieldFrom_32 : decode cX2_yieldFrom 32 = .ok (.getfield 13, 3) := by decide +kernel
theorem dX2_yieldFrom_35 : decode cX2_yieldFrom 35 = .ok (.arraylength, 1) := by decide +kernel
theorem dX2_yieldFrom_36 : decode cX2_yieldFrom 36 = .ok (.if_icmp .ge 13, 3) := by decide +kernel
theorem dX2_yieldFrom_39 : decode cX2_yieldFrom 39 = .ok (.iload_n 3, 1) := by decide +kernel
theorem dX2_yieldFrom_40 : decode cX2_yieldFrom 40 = .ok (.aload_n 0, 1) := by decide +kernel
theorem dX2_yieldFrom_41 : decode cX2_yieldFrom 41 = .ok (.getfield 13, 3) := by decide +kernel
theorem dX2_yieldFrom_44 : decode cX2_yieldFrom 44 = .ok (.iload 5, 2) := by decide +kernel
theorem dX2_yieldFrom_46 : decode cX2_yieldFrom 46 = .ok (.iaload, 1) := by decide +kernel
theorem dX2_yieldFrom_47 : decode cX2_yieldFrom 47 = .ok (.iadd, 1) := by decide +kernel
theorem dX2_yieldFrom_48 : decode cX2_yieldFrom 48 = .ok (.istore_n 3, 1) := by decide +kernel
theorem dX2_yieldFrom_49 : decode cX2_yieldFrom 49 = .ok (.iinc 4 1, 3) := by decide +kernel
theorem dX2_yieldFrom_52 : decode cX2_yieldFrom 52 = .ok (.goto (-47), 3) := by decide +kernel
theorem dX2_yieldFrom_55 : decode cX2_yieldFrom 55 = .ok (.iload_n 3, 1) := by decide +kernel
theorem dX2_yieldFrom_56 : decode cX2_yieldFrom 56 = .ok (.iconst 0, 1) := by decide +kernel
theorem dX2_yieldFrom_57 : decode cX2_yieldFrom 57 = .ok (.invokestatic 23, 3) := by decide +kernel
theorem dX2_yieldFrom_60 : decode cX2_yieldFrom 60 = .ok (.ireturn, 1) := by decide +kernel
theorem dX3_init_0 : decode cX3_init 0 = .ok (.aload_n 0, 1) := by decide +kernel
theorem dX3_init_1 : decode cX3_init 1 = .ok (.invokespecial 3, 3) := by decide +kernel
theorem dX3_init_4 : decode cX3_init 4 = .ok (.aload_n 0, 1) := by decide +kernel
theorem dX3_init_5 : decode cX3_init 5 = .ok (.iconst (-1), 1) := by decide +kernel
theorem dX3_init_6 : decode cX3_init 6 = .ok (.putfield 9, 3) := by decide +kernel
theorem dX3_init_9 : decode cX3_init 9 = .ok (.aload_n 0, 1) := by decide +kernel
theorem dX3_init_10 : decode cX3_init 10 = .ok (.iconst 0, 1) := by decide +kernel
theorem dX3_init_11 : decode cX3_init 11 = .ok (.putfield 15, 3) := by decide +kernel
theorem dX3_init_14 : decode cX3_init 14 = .ok (.aload_n 0, 1) := by decide +kernel
theorem dX3_init_15 : decode cX3_init 15 = .ok (.bipush 48, 2) := by decide +kernel
theorem dX3_init_17 : decode cX3_init 17 = .ok (.newarray .int, 2) := by decide +kernel
theorem dX3_init_19 : decode cX3_init 19 = .ok (.putfield 18, 3) := by decide +kernel
theorem dX3_init_22 : decode cX3_init 22 = .ok (.return_, 1) := by decide +kernel
theorem dX3_begin_0 : decode cX3_begin 0 = .ok (.aload_n 0, 1) := by decide +kernel
theorem dX3_begin_1 : decode cX3_begin 1 = .ok (.iload_n 1, 1) := by decide +kernel
theorem dX3_begin_2 : decode cX3_begin 2 = .ok (.putfield 9, 3) := by decide +kernel
theorem dX3_begin_5 : decode cX3_begin 5 = .ok (.aload_n 0, 1) := by decide +kernel
theorem dX3_begin_6 : decode cX3_begin 6 = .ok (.iload_n 2, 1) := by decide +kernel
theorem dX3_begin_7 : decode cX3_begin 7 = .ok (.putfield 15, 3) := by decide +kernel
theorem dX3_begin_10 : decode cX3_begin 10 = .ok (.iconst 0, 1) := by decide +kernel
theorem dX3_begin_11 : decode cX3_begin 11 = .ok (.istore_n 3, 1) := by decide +kernel
theorem dX3_begin_12 : decode cX3_begin 12 = .ok (.iload_n 3, 1) := by decide +kernel
theorem dX3_begin_13 : decode cX3_begin 13 = .ok (.bipush 48, 2) := by decide +kernel
theorem dX3_begin_15 : decode cX3_begin 15 = .ok (.if_icmp .ge 16, 3) := by decide +kernel
theorem dX3_begin_18 : decode cX3_begin 18 = .ok (.aload_n 0, 1) := by decide +kernel
theorem dX3_begin_19 : decode cX3_begin 19 = .ok (.getfield 18, 3) := by decide +kernel
theorem dX3_begin_22 : decode cX3_begin 22 = .ok (.iload_n 3, 1) := by decide +kernel
theorem dX3_begin_23 : decode cX3_begin 23 = .ok (.iconst 0, 1) := by decide +kernel
theorem dX3_begin_24 : decode cX3_begin 24 = .ok (.iastore, 1) := by decide +kernel
theorem dX3_begin_25 : decode cX3_begin 25 = .ok (.iinc 3 1, 3) := by decide +kernel
theorem dX3_begin_28 : decode cX3_begin 28 = .ok (.goto (-16), 3) := by decide +kernel
theorem dX3_begin_31 : decode cX3_begin 31 = .ok (.return_, 1) := by decide +kernel
theorem dX3_findingOf_0 : decode cX3_findingOf 0 = .ok (.aload_n 0, 1) := by decide +kernel
theorem dX3_findingOf_1 : decode cX3_findingOf 1 = .ok (.getfield 9, 3) := by decide +kernel
theorem dX3_findingOf_4 : decode cX3_findingOf 4 = .ok (.iconst (-1), 1) := by decide +kernel
theorem dX3_findingOf_5 : decode cX3_findingOf 5 = .ok (.if_icmp .ne 5, 3) := by decide +kernel
theorem dX3_findingOf_8 : decode cX3_findingOf 8 = .ok (.iconst 1, 1) := by decide +kernel
theorem dX3_findingOf_9 : decode cX3_findingOf 9 = .ok (.ireturn, 1) := by decide +kernel
theorem dX3_findingOf_10 : decode cX3_findingOf 10 = .ok (.aload_n 0, 1) := by decide +kernel
theorem dX3_findingOf_11 : decode cX3_findingOf 11 = .ok (.getfield 9, 3) := by decide +kernel
theorem dX3_findingOf_14 : decode cX3_findingOf 14 = .ok (.iload_n 1, 1) := by decide +kernel
theorem dX3_findingOf_15 : decode cX3_findingOf 15 = .ok (.if_icmp .eq 5, 3) := by decide +kernel
theorem dX3_findingOf_18 : decode cX3_findingOf 18 = .ok (.iconst 3, 1) := by decide +kernel
theorem dX3_findingOf_19 : decode cX3_findingOf 19 = .ok (.ireturn, 1) := by decide +kernel
theorem dX3_findingOf_20 : decode cX3_findingOf 20 = .ok (.iload_n 2, 1) := by decide +kernel
theorem dX3_findingOf_21 : decode cX3_findingOf 21 = .ok (.ifCond .lt 11, 3) := by decide +kernel
theorem dX3_findingOf_24 : decode cX3_findingOf 24 = .ok (.iload_n 2, 1) := by decide +kernel
theorem dX3_findingOf_25 : decode cX3_findingOf 25 = .ok (.aload_n 0, 1) := by decide +kernel
theorem dX3_findingOf_26 : decode cX3_findingOf 26 = .ok (.getfield 15, 3) := by decide +kernel
theorem dX3_findingOf_29 : decode cX3_findingOf 29 = .ok (.if_icmp .lt 7, 3) := by decide +kernel
theorem dX3_findingOf_32 : decode cX3_findingOf 32 = .ok (.iconst 2, 1) := by decide +kernel
theorem dX3_findingOf_33 : decode cX3_findingOf 33 = .ok (.goto 4, 3) := by decide +kernel
theorem dX3_findingOf_36 : decode cX3_findingOf 36 = .ok (.iconst 0, 1) := by decide +kernel
theorem dX3_findingOf_37 : decode cX3_findingOf 37 = .ok (.ireturn, 1) := by decide +kernel
theorem dX3_lowestBits_0 : decode cX3_lowestBits 0 = .ok (.aload_n 0, 1) := by decide +kernel
theorem dX3_lowestBits_1 : decode cX3_lowestBits 1 = .ok (.getfield 9, 3) := by decide +kernel
theorem dX3_lowestBits_4 : decode cX3_lowestBits 4 = .ok (.ifCond .ne 6, 3) := by decide +kernel
theorem dX3_lowestBits_7 : decode cX3_lowestBits 7 = .ok (.iload_n 1, 1) := by decide +kernel
theorem dX3_lowestBits_8 : decode cX3_lowestBits 8 = .ok (.i2b, 1) := by decide +kernel
theorem dX3_lowestBits_9 : decode cX3_lowestBits 9 = .ok (.ireturn, 1) := by decide +kernel
theorem dX3_lowestBits_10 : decode cX3_lowestBits 10 = .ok (.aload_n 0, 1) := by decide +kernel
theorem dX3_lowestBits_11 : decode cX3_lowestBits 11 = .ok (.getfield 9, 3) := by decide +kernel
theorem dX3_lowestBits_14 : decode cX3_lowestBits 14 = .ok (.iconst 1, 1) := by decide +kernel
theorem dX3_lowestBits_15 : decode cX3_lowestBits 15 = .ok (.if_icmp .ne 8, 3) := by decide +kernel
theorem dX3_lowestBits_18 : decode cX3_lowestBits 18 = .ok (.iload_n 1, 1) := by decide +kernel
theorem dX3_lowestBits_19 : decode cX3_lowestBits 19 = .ok (.i2s, 1) := by decide +kernel
theorem dX3_lowestBits_20 : decode cX3_lowestBits 20 = .ok (.goto 4, 3) := by decide +kernel
theorem dX3_lowestBits_23 : decode cX3_lowestBits 23 = .ok (.iload_n 1, 1) := by decide +kernel
theorem dX3_lowestBits_24 : decode cX3_lowestBits 24 = .ok (.ireturn, 1) := by decide +kernel
theorem dX3_holds_0 : decode cX3_holds 0 = .ok (.iload_n 1, 1) := by decide +kernel
theorem dX3_holds_1 : decode cX3_holds 1 = .ok (.ifCond .lt 29, 3) := by decide +kernel
theorem dX3_holds_4 : decode cX3_holds 4 = .ok (.iload_n 2, 1) := by decide +kernel
theorem dX3_holds_5 : decode cX3_holds 5 = .ok (.ifCond .lt 25, 3) := by decide +kernel
theorem dX3_holds_8 : decode cX3_holds 8 = .ok (.iload_n 1, 1) := by decide +kernel
theorem dX3_holds_9 : decode cX3_holds 9 = .ok (.aload_n 0, 1) := by decide +kernel
theorem dX3_holds_10 : decode cX3_holds 10 = .ok (.getfield 15, 3) := by decide +kernel
theorem dX3_holds_13 : decode cX3_holds 13 = .ok (.if_icmp .gt 17, 3) := by decide +kernel
theorem dX3_holds_16 : decode cX3_holds 16 = .ok (.iload_n 2, 1) := by decide +kernel
theorem dX3_holds_17 : decode cX3_holds 17 = .ok (.aload_n 0, 1) := by decide +kernel
theorem dX3_holds_18 : decode cX3_holds 18 = .ok (.getfield 15, 3) := by decide +kernel
theorem dX3_holds_21 : decode cX3_holds 21 = .ok (.iload_n 1, 1) := by decide +kernel
theorem dX3_holds_22 : decode cX3_holds 22 = .ok (.isub, 1) := by decide +kernel
theorem dX3_holds_23 : decode cX3_holds 23 = .ok (.if_icmp .gt 7, 3) := by decide +kernel
theorem dX3_holds_26 : decode cX3_holds 26 = .ok (.iconst 1, 1) := by decide +kernel
theorem dX3_holds_27 : decode cX3_holds 27 = .ok (.goto 4, 3) := by decide +kernel
theorem dX3_holds_30 : decode cX3_holds 30 = .ok (.iconst 0, 1) := by decide +kernel
theorem dX3_holds_31 : decode cX3_holds 31 = .ok (.ireturn, 1) := by decide +kernel
theorem dX4_init_0 : decode cX4_init 0 = .ok (.aload_n 0, 1) := by decide +kernel
theorem dX4_init_1 : decode cX4_init 1 = .ok (.invokespecial 3, 3) := by decide +kernel
theorem dX4_init_4 : decode cX4_init 4 = .ok (.aload_n 0, 1) := by decide +kernel
theorem dX4_init_5 : decode cX4_init 5 = .ok (.aload_n 1, 1) := by decide +kernel
theorem dX4_init_6 : decode cX4_init 6 = .ok (.putfield 9, 3) := by decide +kernel
theorem dX4_init_9 : decode cX4_init 9 = .ok (.aload_n 0, 1) := by decide +kernel
theorem dX4_init_10 : decode cX4_init 10 = .ok (.aload_n 2, 1) := by decide +kernel
theorem dX4_init_11 : decode cX4_init 11 = .ok (.putfield 15, 3) := by decide +kernel
theorem dX4_init_14 : decode cX4_init 14 = .ok (.return_, 1) := by decide +kernel
set_option maxRecDepth 20000 in
theorem ggX4_lightIn_X5_placeIn : GoodIn wsX4_lightIn wsX5_placeIn := goodIn_r _ [8, 9, 10, 13, 14, 15, 16, 17] (by decide +kernel) (by decide +kernel)
set_option maxRecDepth 20000 in
theorem gX4_lightIn_X5_placeIn : GoodIn wsX4_lightIn (wsV RX4 18 RX5 yX5_placeIn wsX5_placeIn) := goodIn_app (goodIn_of _ (by decide +kernel)) ggX4_lightIn_X5_placeIn
theorem dX4_lightIn_0 : decode cX4_lightIn 0 = .ok (.aload_n 0, 1) := by decide +kernel
theorem dX4_lightIn_1 : decode cX4_lightIn 1 = .ok (.getfield 9, 3) := by decide +kernel
theorem dX4_lightIn_4 : decode cX4_lightIn 4 = .ok (.iload_n 1, 1) := by decide +kernel
theorem dX4_lightIn_5 : decode cX4_lightIn 5 = .ok (.invokevirtual 18, 3) := by decide +kernel
theorem dX4_lightIn_8 : decode cX4_lightIn 8 = .ok (.aload_n 0, 1) := by decide +kernel
theorem dX4_lightIn_9 : decode cX4_lightIn 9 = .ok (.getfield 9, 3) := by decide +kernel
theorem dX4_lightIn_12 : decode cX4_lightIn 12 = .ok (.getfield 24, 3) := by decide +kernel
theorem dX4_lightIn_15 : decode cX4_lightIn 15 = .ok (.if_icmp .ge 7, 3) := by decide +kernel
theorem dX4_lightIn_18 : decode cX4_lightIn 18 = .ok (.iconst 1, 1) := by decide +kernel
theorem dX4_lightIn_19 : decode cX4_lightIn 19 = .ok (.goto 4, 3) := by decide +kernel
theorem dX4_lightIn_22 : decode cX4_lightIn 22 = .ok (.iconst 0, 1) := by decide +kernel
theorem dX4_lightIn_23 : decode cX4_lightIn 23 = .ok (.aload_n 0, 1) := by decide +kernel
theorem dX4_lightIn_24 : decode cX4_lightIn 24 = .ok (.getfield 15, 3) := by decide +kernel
theorem dX4_lightIn_27 : decode cX4_lightIn 27 = .ok (.iload_n 1, 1) := by decide +kernel
theorem dX4_lightIn_28 : decode cX4_lightIn 28 = .ok (.invokevirtual 18, 3) := by decide +kernel
theorem dX4_lightIn_31 : decode cX4_lightIn 31 = .ok (.aload_n 0, 1) := by decide +kernel
theorem dX4_lightIn_32 : decode cX4_lightIn 32 = .ok (.getfield 15, 3) := by decide +kernel
theorem dX4_lightIn_35 : decode cX4_lightIn 35 = .ok (.getfield 24, 3) := by decide +kernel
theorem dX4_lightIn_38 : decode cX4_lightIn 38 = .ok (.if_icmp .ge 7, 3) := by decide +kernel
theorem dX4_lightIn_41 : decode cX4_lightIn 41 = .ok (.iconst 2, 1) := by decide +kernel
theorem dX4_lightIn_42 : decode cX4_lightIn 42 = .ok (.goto 4, 3) := by decide +kernel
theorem dX4_lightIn_45 : decode cX4_lightIn 45 = .ok (.iconst 0, 1) := by decide +kernel
theorem dX4_lightIn_46 : decode cX4_lightIn 46 = .ok (.iadd, 1) := by decide +kernel
theorem dX4_lightIn_47 : decode cX4_lightIn 47 = .ok (.ireturn, 1) := by decide +kernel
theorem dX4_hoursOfRound_0 : decode cX4_hoursOfRound 0 = .ok (.aload_n 0, 1) := by decide +kernel
theorem dX4_hoursOfRound_1 : decode cX4_hoursOfRound 1 = .ok (.getfield 9, 3) := by decide +kernel
theorem dX4_hoursOfRound_4 : decode cX4_hoursOfRound 4 = .ok (.getfield 28, 3) := by decide +kernel
theorem dX4_hoursOfRound_7 : decode cX4_hoursOfRound 7 = .ok (.istore_n 1, 1) := by decide +kernel
theorem dX4_hoursOfRound_8 : decode cX4_hoursOfRound 8 = .ok (.iconst 1, 1) := by decide +kernel
theorem dX4_hoursOfRound_9 : decode cX4_hoursOfRound 9 = .ok (.istore_n 2, 1) := by decide +kernel
theorem dX4_hoursOfRound_10 : decode cX4_hoursOfRound 10 = .ok (.iload_n 2, 1) := by decide +kernel
theorem dX4_hoursOfRound_11 : decode cX4_hoursOfRound 11 = .ok (.bipush 40, 2) := by decide +kernel
theorem dX4_hoursOfRound_13 : decode cX4_hoursOfRound 13 = .ok (.if_icmp .ge 41, 3) := by decide +kernel
theorem dX4_hoursOfRound_16 : decode cX4_hoursOfRound 16 = .ok (.aload_n 0, 1) := by decide +kernel
theorem dX4_hoursOfRound_17 : decode cX4_hoursOfRound 17 = .ok (.getfield 15, 3) := by decide +kernel
theorem dX4_hoursOfRound_20 : decode cX4_hoursOfRound 20 = .ok (.getfield 28, 3) := by decide +kernel
theorem dX4_hoursOfRound_23 : decode cX4_hoursOfRound 23 = .ok (.ifCond .le 31, 3) := by decide +kernel
theorem dX4_hoursOfRound_26 : decode cX4_hoursOfRound 26 = .ok (.iload_n 1, 1) := by decide +kernel
theorem dX4_hoursOfRound_27 : decode cX4_hoursOfRound 27 = .ok (.aload_n 0, 1) := by decide +kernel
theorem dX4_hoursOfRound_28 : decode cX4_hoursOfRound 28 = .ok (.getfield 15, 3) := by decide +kernel
theorem dX4_hoursOfRound_31 : decode cX4_hoursOfRound 31 = .ok (.getfield 28, 3) := by decide +kernel
theorem dX4_hoursOfRound_34 : decode cX4_hoursOfRound 34 = .ok (.irem, 1) := by decide +kernel
theorem dX4_hoursOfRound_35 : decode cX4_hoursOfRound 35 = .ok (.ifCond .eq 19, 3) := by decide +kernel
theorem dX4_hoursOfRound_38 : decode cX4_hoursOfRound 38 = .ok (.iload_n 1, 1) := by decide +kernel
theorem dX4_hoursOfRound_39 : decode cX4_hoursOfRound 39 = .ok (.aload_n 0, 1) := by decide +kernel
theorem dX4_hoursOfRound_40 : decode cX4_hoursOfRound 40 = .ok (.getfield 9, 3) := by decide +kernel
theorem dX4_hoursOfRound_43 : decode cX4_hoursOfRound 43 = .ok (.getfield 28, 3) := by decide +kernel
theorem dX4_hoursOfRound_46 : decode cX4_hoursOfRound 46 = .ok (.iadd, 1) := by decide +kernel
theorem dX4_hoursOfRound_47 : decode cX4_hoursOfRound 47 = .ok (.istore_n 1, 1) := by decide +kernel
theorem dX4_hoursOfRound_48 : decode cX4_hoursOfRound 48 = .ok (.iinc 2 1, 3) := by decide +kernel
theorem dX4_hoursOfRound_51 : decode cX4_hoursOfRound 51 = .ok (.goto (-41), 3) := by decide +kernel
theorem dX4_hoursOfRound_54 : decode cX4_hoursOfRound 54 = .ok (.iload_n 1, 1) := by decide +kernel
theorem dX4_hoursOfRound_55 : decode cX4_hoursOfRound 55 = .ok (.ireturn, 1) := by decide +kernel
set_option maxRecDepth 20000 in
theorem ggX4_firstWith_X4_hoursOfRound : GoodIn wsX4_firstWith wsX4_hoursOfRound := goodIn_r _ [5, 6, 7, 8, 21, 22, 23, 24, 25, 26, 27] (by decide +kernel) (by decide +kernel)
set_option maxRecDepth 20000 in
theorem gX4_firstWith_X4_hoursOfRound : GoodIn wsX4_firstWith (wsV RX4 31 RX4 yX4_hoursOfRound wsX4_hoursOfRound) := goodIn_app (goodIn_of _ (by decide +kernel)) ggX4_firstWith_X4_hoursOfRound
set_option maxRecDepth 20000 in
theorem ggX4_firstWith_X4_lightIn : GoodIn wsX4_firstWith wsX4_lightIn := goodIn_r _ [12, 6, 13, 8, 14, 15, 16, 17, 18, 19, 20, 21, 22, 23, 24, 25, 26, 27] (by decide +kernel) (by decide +kernel)
set_option maxRecDepth 20000 in
theorem gX4_firstWith_X4_lightIn : GoodIn wsX4_firstWith (wsV RX4 35 RX4 yX4_lightIn wsX4_lightIn) := goodIn_app (goodIn_of _ (by decide +kernel)) ggX4_firstWith_X4_lightIn
theorem dX4_firstWith_0 : decode cX4_firstWith 0 = .ok (.aload_n 0, 1) := by decide +kernel
theorem dX4_firstWith_1 : decode cX4_firstWith 1 = .ok (.invokevirtual 31, 3) := by decide +kernel
theorem dX4_firstWith_4 : decode cX4_firstWith 4 = .ok (.istore_n 3, 1) := by decide +kernel
theorem dX4_firstWith_5 : decode cX4_firstWith 5 = .ok (.iconst 0, 1) := by decide +kernel
theorem dX4_firstWith_6 : decode cX4_firstWith 6 = .ok (.istore 4, 2) := by decide +kernel
theorem dX4_firstWith_8 : decode cX4_firstWith 8 = .ok (.iload 4, 2) := by decide +kernel
theorem dX4_firstWith_10 : decode cX4_firstWith 10 = .ok (.iload_n 3, 1) := by decide +kernel
theorem dX4_firstWith_11 : decode cX4_firstWith 11 = .ok (.if_icmp .ge 26, 3) := by decide +kernel
theorem dX4_firstWith_14 : decode cX4_firstWith 14 = .ok (.aload_n 0, 1) := by decide +kernel
theorem dX4_firstWith_15 : decode cX4_firstWith 15 = .ok (.iload_n 1, 1) := by decide +kernel
theorem dX4_firstWith_16 : decode cX4_firstWith 16 = .ok (.iload 4, 2) := by decide +kernel
theorem dX4_firstWith_18 : decode cX4_firstWith 18 = .ok (.iadd, 1) := by decide +kernel
theorem dX4_firstWith_19 : decode cX4_firstWith 19 = .ok (.invokevirtual 35, 3) := by decide +kernel
theorem dX4_firstWith_22 : decode cX4_firstWith 22 = .ok (.iload_n 2, 1) := by decide +kernel
theorem dX4_firstWith_23 : decode cX4_firstWith 23 = .ok (.if_icmp .ne 8, 3) := by decide +kernel
theorem dX4_firstWith_26 : decode cX4_firstWith 26 = .ok (.iload_n 1, 1) := by decide +kernel
theorem dX4_firstWith_27 : decode cX4_firstWith 27 = .ok (.iload 4, 2) := by decide +kernel
theorem dX4_firstWith_29 : decode cX4_firstWith 29 = .ok (.iadd, 1) := by decide +kernel
theorem dX4_firstWith_30 : decode cX4_firstWith 30 = .ok (.ireturn, 1) := by decide +kernel
theorem dX4_firstWith_31 : decode cX4_firstWith 31 = .ok (.iinc 4 1, 3) := by decide +kernel
theorem dX4_firstWith_34 : decode cX4_firstWith 34 = .ok (.goto (-26), 3) := by decide +kernel
theorem dX4_firstWith_37 : decode cX4_firstWith 37 = .ok (.iconst (-1), 1) := by decide +kernel
theorem dX4_firstWith_38 : decode cX4_firstWith 38 = .ok (.ireturn, 1) := by decide +kernel
set_option maxRecDepth 20000 in
theorem ggX4_unchangedFrom_X4_hoursOfRound : GoodIn wsX4_unchangedFrom wsX4_hoursOfRound := goodIn_r _ [5, 6, 7, 8, 21, 22, 23, 24, 25, 26, 27] (by decide +kernel) (by decide +kernel)
set_option maxRecDepth 20000 in
theorem gX4_unchangedFrom_X4_hoursOfRound : GoodIn wsX4_unchangedFrom (wsV RX4 31 RX4 yX4_hoursOfRound wsX4_hoursOfRound) := goodIn_app (goodIn_of _ (by decide +kernel)) ggX4_unchangedFrom_X4_hoursOfRound
set_option maxRecDepth 20000 in
theorem ggX4_unchangedFrom_X4_lightIn : GoodIn wsX4_unchangedFrom wsX4_lightIn := goodIn_r _ [12, 6, 13, 8, 14, 15, 16, 17, 18, 19, 20, 21, 22, 23, 24, 25, 26, 27] (by decide +kernel) (by decide +kernel)
set_option maxRecDepth 20000 in
theorem gX4_unchangedFrom_X4_lightIn : GoodIn wsX4_unchangedFrom (wsV RX4 35 RX4 yX4_lightIn wsX4_lightIn) := goodIn_app (goodIn_of _ (by decide +kernel)) ggX4_unchangedFrom_X4_lightIn
theorem dX4_unchangedFrom_0 : decode cX4_unchangedFrom 0 = .ok (.aload_n 0, 1) := by decide +kernel
theorem dX4_unchangedFrom_1 : decode cX4_unchangedFrom 1 = .ok (.invokevirtual 31, 3) := by decide +kernel
theorem dX4_unchangedFrom_4 : decode cX4_unchangedFrom 4 = .ok (.istore_n 2, 1) := by decide +kernel
theorem dX4_unchangedFrom_5 : decode cX4_unchangedFrom 5 = .ok (.aload_n 0, 1) := by decide +kernel
theorem dX4_unchangedFrom_6 : decode cX4_unchangedFrom 6 = .ok (.iload_n 1, 1) := by decide +kernel
theorem dX4_unchangedFrom_7 : decode cX4_unchangedFrom 7 = .ok (.invokevirtual 35, 3) := by decide +kernel
theorem dX4_unchangedFrom_10 : decode cX4_unchangedFrom 10 = .ok (.istore_n 3, 1) := by decide +kernel
theorem dX4_unchangedFrom_11 : decode cX4_unchangedFrom 11 = .ok (.iconst 0, 1) := by decide +kernel
theorem dX4_unchangedFrom_12 : decode cX4_unchangedFrom 12 = .ok (.istore 4, 2) := by decide +kernel
theorem dX4_unchangedFrom_14 : decode cX4_unchangedFrom 14 = .ok (.iload 4, 2) := by decide +kernel
theorem dX4_unchangedFrom_16 : decode cX4_unchangedFrom 16 = .ok (.iload_n 2, 1) := by decide +kernel
theorem dX4_unchangedFrom_17 : decode cX4_unchangedFrom 17 = .ok (.if_icmp .ge 21, 3) := by decide +kernel
theorem dX4_unchangedFrom_20 : decode cX4_unchangedFrom 20 = .ok (.aload_n 0, 1) := by decide +kernel
theorem dX4_unchangedFrom_21 : decode cX4_unchangedFrom 21 = .ok (.iload_n 1, 1) := by decide +kernel
theorem dX4_unchangedFrom_22 : decode cX4_unchangedFrom 22 = .ok (.iload 4, 2) := by decide +kernel
theorem dX4_unchangedFrom_24 : decode cX4_unchangedFrom 24 = .ok (.iadd, 1) := by decide +kernel
theorem dX4_unchangedFrom_25 : decode cX4_unchangedFrom 25 = .ok (.invokevirtual 35, 3) := by decide +kernel
theorem dX4_unchangedFrom_28 : decode cX4_unchangedFrom 28 = .ok (.iload_n 3, 1) := by decide +kernel
theorem dX4_unchangedFrom_29 : decode cX4_unchangedFrom 29 = .ok (.if_icmp .ne 9, 3) := by decide +kernel
theorem dX4_unchangedFrom_32 : decode cX4_unchangedFrom 32 = .ok (.iinc 4 1, 3) := by decide +kernel
theorem dX4_unchangedFrom_35 : decode cX4_unchangedFrom 35 = .ok (.goto (-21), 3) := by decide +kernel
theorem dX4_unchangedFrom_38 : decode cX4_unchangedFrom 38 = .ok (.iload 4, 2) := by decide +kernel
theorem dX4_unchangedFrom_40 : decode cX4_unchangedFrom 40 = .ok (.ireturn, 1) := by decide +kernel
set_option maxRecDepth 20000 in
theorem ggX4_hoursWith_X4_hoursOfRound : GoodIn wsX4_hoursWith wsX4_hoursOfRound := goodIn_r _ [5, 6, 7, 8, 21, 22, 23, 24, 25, 26, 27] (by decide +kernel) (by decide +kernel)
set_option maxRecDepth 20000 in
theorem gX4_hoursWith_X4_hoursOfRound : GoodIn wsX4_hoursWith (wsV RX4 31 RX4 yX4_hoursOfRound wsX4_hoursOfRound) := goodIn_app (goodIn_of _ (by decide +kernel)) ggX4_hoursWith_X4_hoursOfRound
set_option maxRecDepth 20000 in
theorem ggX4_hoursWith_X4_lightIn : GoodIn wsX4_hoursWith wsX4_lightIn := goodIn_r _ [12, 6, 13, 8, 14, 15, 16, 17, 18, 19, 20, 21, 22, 23, 24, 25, 26, 27] (by decide +kernel) (by decide +kernel)
set_option maxRecDepth 20000 in
theorem gX4_hoursWith_X4_lightIn : GoodIn wsX4_hoursWith (wsV RX4 35 RX4 yX4_lightIn wsX4_lightIn) := goodIn_app (goodIn_of _ (by decide +kernel)) ggX4_hoursWith_X4_lightIn
theorem dX4_hoursWith_0 : decode cX4_hoursWith 0 = .ok (.aload_n 0, 1) := by decide +kernel
theorem dX4_hoursWith_1 : decode cX4_hoursWith 1 = .ok (.invokevirtual 31, 3) := by decide +kernel
theorem dX4_hoursWith_4 : decode cX4_hoursWith 4 = .ok (.istore_n 2, 1) := by decide +kernel
theorem dX4_hoursWith_5 : decode cX4_hoursWith 5 = .ok (.iconst 0, 1) := by decide +kernel
theorem dX4_hoursWith_6 : decode cX4_hoursWith 6 = .ok (.istore_n 3, 1) := by decide +kernel
theorem dX4_hoursWith_7 : decode cX4_hoursWith 7 = .ok (.iconst 0, 1) := by decide +kernel
theorem dX4_hoursWith_8 : decode cX4_hoursWith 8 = .ok (.istore 4, 2) := by decide +kernel
theorem dX4_hoursWith_10 : decode cX4_hoursWith 10 = .ok (.iload 4, 2) := by decide +kernel
theorem dX4_hoursWith_12 : decode cX4_hoursWith 12 = .ok (.iload_n 2, 1) := by decide +kernel
theorem dX4_hoursWith_13 : decode cX4_hoursWith 13 = .ok (.if_icmp .ge 22, 3) := by decide +kernel
theorem dX4_hoursWith_16 : decode cX4_hoursWith 16 = .ok (.aload_n 0, 1) := by decide +kernel
theorem dX4_hoursWith_17 : decode cX4_hoursWith 17 = .ok (.iload 4, 2) := by decide +kernel
theorem dX4_hoursWith_19 : decode cX4_hoursWith 19 = .ok (.invokevirtual 35, 3) := by decide +kernel
theorem dX4_hoursWith_22 : decode cX4_hoursWith 22 = .ok (.iload_n 1, 1) := by decide +kernel
theorem dX4_hoursWith_23 : decode cX4_hoursWith 23 = .ok (.if_icmp .ne 6, 3) := by decide +kernel
theorem dX4_hoursWith_26 : decode cX4_hoursWith 26 = .ok (.iinc 3 1, 3) := by decide +kernel
theorem dX4_hoursWith_29 : decode cX4_hoursWith 29 = .ok (.iinc 4 1, 3) := by decide +kernel
theorem dX4_hoursWith_32 : decode cX4_hoursWith 32 = .ok (.goto (-22), 3) := by decide +kernel
theorem dX4_hoursWith_35 : decode cX4_hoursWith 35 = .ok (.iload_n 3, 1) := by decide +kernel
theorem dX4_hoursWith_36 : decode cX4_hoursWith 36 = .ok (.ireturn, 1) := by decide +kernel
set_option maxRecDepth 20000 in
theorem ggX4_rowsOf_X4_hoursOfRound : GoodIn wsX4_rowsOf wsX4_hoursOfRound := goodIn_r _ [5, 6, 7, 8, 21, 22, 23, 24, 25, 26, 27] (by decide +kernel) (by decide +kernel)
set_option maxRecDepth 20000 in
theorem gX4_rowsOf_X4_hoursOfRound : GoodIn wsX4_rowsOf (wsV RX4 31 RX4 yX4_hoursOfRound wsX4_hoursOfRound) := goodIn_app (goodIn_of _ (by decide +kernel)) ggX4_rowsOf_X4_hoursOfRound
set_option maxRecDepth 20000 in
theorem ggX4_rowsOf_X4_lightIn : GoodIn wsX4_rowsOf wsX4_lightIn := goodIn_r _ [12, 6, 13, 8, 14, 15, 16, 17, 18, 19, 20, 21, 22, 23, 24, 25, 26, 27] (by decide +kernel) (by decide +kernel)
set_option maxRecDepth 20000 in
theorem gX4_rowsOf_X4_lightIn : GoodIn wsX4_rowsOf (wsV RX4 35 RX4 yX4_lightIn wsX4_lightIn) := goodIn_app (goodIn_of _ (by decide +kernel)) ggX4_rowsOf_X4_lightIn
theorem dX4_rowsOf_0 : decode cX4_rowsOf 0 = .ok (.aload_n 0, 1) := by decide +kernel
theorem dX4_rowsOf_1 : decode cX4_rowsOf 1 = .ok (.invokevirtual 31, 3) := by decide +kernel
theorem dX4_rowsOf_4 : decode cX4_rowsOf 4 = .ok (.istore_n 2, 1) := by decide +kernel
theorem dX4_rowsOf_5 : decode cX4_rowsOf 5 = .ok (.iconst 0, 1) := by decide +kernel
theorem dX4_rowsOf_6 : decode cX4_rowsOf 6 = .ok (.istore_n 3, 1) := by decide +kernel
theorem dX4_rowsOf_7 : decode cX4_rowsOf 7 = .ok (.iconst 0, 1) := by decide +kernel
theorem dX4_rowsOf_8 : decode cX4_rowsOf 8 = .ok (.istore 4, 2) := by decide +kernel
theorem dX4_rowsOf_10 : decode cX4_rowsOf 10 = .ok (.iload 4, 2) := by decide +kernel
theorem dX4_rowsOf_12 : decode cX4_rowsOf 12 = .ok (.iload_n 2, 1) := by decide +kernel
theorem dX4_rowsOf_13 : decode cX4_rowsOf 13 = .ok (.if_icmp .ge 34, 3) := by decide +kernel
theorem dX4_rowsOf_16 : decode cX4_rowsOf 16 = .ok (.aload_n 0, 1) := by decide +kernel
theorem dX4_rowsOf_17 : decode cX4_rowsOf 17 = .ok (.iload 4, 2) := by decide +kernel
theorem dX4_rowsOf_19 : decode cX4_rowsOf 19 = .ok (.invokevirtual 35, 3) := by decide +kernel
theorem dX4_rowsOf_22 : decode cX4_rowsOf 22 = .ok (.iload_n 1, 1) := by decide +kernel
theorem dX4_rowsOf_23 : decode cX4_rowsOf 23 = .ok (.if_icmp .ne 18, 3) := by decide +kernel
theorem dX4_rowsOf_26 : decode cX4_rowsOf 26 = .ok (.aload_n 0, 1) := by decide +kernel
theorem dX4_rowsOf_27 : decode cX4_rowsOf 27 = .ok (.iload 4, 2) := by decide +kernel
theorem dX4_rowsOf_29 : decode cX4_rowsOf 29 = .ok (.iconst 1, 1) := by decide +kernel
theorem dX4_rowsOf_30 : decode cX4_rowsOf 30 = .ok (.iadd, 1) := by decide +kernel
theorem dX4_rowsOf_31 : decode cX4_rowsOf 31 = .ok (.invokevirtual 35, 3) := by decide +kernel
theorem dX4_rowsOf_34 : decode cX4_rowsOf 34 = .ok (.iload_n 1, 1) := by decide +kernel
theorem dX4_rowsOf_35 : decode cX4_rowsOf 35 = .ok (.if_icmp .eq 6, 3) := by decide +kernel
theorem dX4_rowsOf_38 : decode cX4_rowsOf 38 = .ok (.iinc 3 1, 3) := by decide +kernel
theorem dX4_rowsOf_41 : decode cX4_rowsOf 41 = .ok (.iinc 4 1, 3) := by decide +kernel
theorem dX4_rowsOf_44 : decode cX4_rowsOf 44 = .ok (.goto (-34), 3) := by decide +kernel
theorem dX4_rowsOf_47 : decode cX4_rowsOf 47 = .ok (.iload_n 3, 1) := by decide +kernel
theorem dX4_rowsOf_48 : decode cX4_rowsOf 48 = .ok (.ifCond .ne 16, 3) := by decide +kernel
theorem dX4_rowsOf_51 : decode cX4_rowsOf 51 = .ok (.aload_n 0, 1) := by decide +kernel
theorem dX4_rowsOf_52 : decode cX4_rowsOf 52 = .ok (.iconst 0, 1) := by decide +kernel
theorem dX4_rowsOf_53 : decode cX4_rowsOf 53 = .ok (.invokevirtual 35, 3) := by decide +kernel
theorem dX4_rowsOf_56 : decode cX4_rowsOf 56 = .ok (.iload_n 1, 1) := by decide +kernel
theorem dX4_rowsOf_57 : decode cX4_rowsOf 57 = .ok (.if_icmp .ne 7, 3) := by decide +kernel
theorem dX4_rowsOf_60 : decode cX4_rowsOf 60 = .ok (.iconst 1, 1) := by decide +kernel
theorem dX4_rowsOf_61 : decode cX4_rowsOf 61 = .ok (.goto 4, 3) := by decide +kernel
theorem dX4_rowsOf_64 : decode cX4_rowsOf 64 = .ok (.iload_n 3, 1) := by decide +kernel
theorem dX4_rowsOf_65 : decode cX4_rowsOf 65 = .ok (.ireturn, 1) := by decide +kernel
set_option maxRecDepth 20000 in
theorem ggX4_longestRowOf_X4_hoursOfRound : GoodIn wsX4_longestRowOf wsX4_hoursOfRound := goodIn_r _ [12, 13, 14, 15, 28, 29, 30, 31, 32, 33, 34] (by decide +kernel) (by decide +kernel)
set_option maxRecDepth 20000 in
theorem gX4_longestRowOf_X4_hoursOfRound : GoodIn wsX4_longestRowOf (wsV RX4 31 RX4 yX4_hoursOfRound wsX4_hoursOfRound) := goodIn_app (goodIn_of _ (by decide +kernel)) ggX4_longestRowOf_X4_hoursOfRound
set_option maxRecDepth 20000 in
theorem ggX4_longestRowOf_X4_lightIn : GoodIn wsX4_longestRowOf wsX4_lightIn := goodIn_r _ [19, 13, 20, 15, 21, 22, 23, 24, 25, 26, 27, 28, 29, 30, 31, 32, 33, 34] (by decide +kernel) (by decide +kernel)
set_option maxRecDepth 20000 in
theorem gX4_longestRowOf_X4_lightIn : GoodIn wsX4_longestRowOf (wsV RX4 35 RX4 yX4_lightIn wsX4_lightIn) := goodIn_app (goodIn_of _ (by decide +kernel)) ggX4_longestRowOf_X4_lightIn
theorem dX4_longestRowOf_0 : decode cX4_longestRowOf 0 = .ok (.aload_n 0, 1) := by decide +kernel
theorem dX4_longestRowOf_1 : decode cX4_longestRowOf 1 = .ok (.invokevirtual 31, 3) := by decide +kernel
theorem dX4_longestRowOf_4 : decode cX4_longestRowOf 4 = .ok (.istore_n 2, 1) := by decide +kernel
theorem dX4_longestRowOf_5 : decode cX4_longestRowOf 5 = .ok (.iconst 0, 1) := by decide +kernel
theorem dX4_longestRowOf_6 : decode cX4_longestRowOf 6 = .ok (.istore_n 3, 1) := by decide +kernel
theorem dX4_longestRowOf_7 : decode cX4_longestRowOf 7 = .ok (.iconst 0, 1) := by decide +kernel
theorem dX4_longestRowOf_8 : decode cX4_longestRowOf 8 = .ok (.istore 4, 2) := by decide +kernel
theorem dX4_longestRowOf_10 : decode cX4_longestRowOf 10 = .ok (.iconst 0, 1) := by decide +kernel
theorem dX4_longestRowOf_11 : decode cX4_longestRowOf 11 = .ok (.istore 5, 2) := by decide +kernel
theorem dX4_longestRowOf_13 : decode cX4_longestRowOf 13 = .ok (.iload 5, 2) := by decide +kernel
theorem dX4_longestRowOf_15 : decode cX4_longestRowOf 15 = .ok (.iconst 2, 1) := by decide +kernel
theorem dX4_longestRowOf_16 : decode cX4_longestRowOf 16 = .ok (.iload_n 2, 1) := by decide +kernel
theorem dX4_longestRowOf_17 : decode cX4_longestRowOf 17 = .ok (.imul, 1) := by decide +kernel
theorem dX4_longestRowOf_18 : decode cX4_longestRowOf 18 = .ok (.if_icmp .ge 36, 3) := by decide +kernel
theorem dX4_longestRowOf_21 : decode cX4_longestRowOf 21 = .ok (.aload_n 0, 1) := by decide +kernel
theorem dX4_longestRowOf_22 : decode cX4_longestRowOf 22 = .ok (.iload 5, 2) := by decide +kernel
theorem dX4_longestRowOf_24 : decode cX4_longestRowOf 24 = .ok (.invokevirtual 35, 3) := by decide +kernel
theorem dX4_longestRowOf_27 : decode cX4_longestRowOf 27 = .ok (.iload_n 1, 1) := by decide +kernel
theorem dX4_longestRowOf_28 : decode cX4_longestRowOf 28 = .ok (.if_icmp .ne 10, 3) := by decide +kernel
theorem dX4_longestRowOf_31 : decode cX4_longestRowOf 31 = .ok (.iload 4, 2) := by decide +kernel
theorem dX4_longestRowOf_33 : decode cX4_longestRowOf 33 = .ok (.iconst 1, 1) := by decide +kernel
theorem dX4_longestRowOf_34 : decode cX4_longestRowOf 34 = .ok (.iadd, 1) := by decide +kernel
theorem dX4_longestRowOf_35 : decode cX4_longestRowOf 35 = .ok (.goto 4, 3) := by decide +kernel
theorem dX4_longestRowOf_38 : decode cX4_longestRowOf 38 = .ok (.iconst 0, 1) := by decide +kernel
theorem dX4_longestRowOf_39 : decode cX4_longestRowOf 39 = .ok (.istore 4, 2) := by decide +kernel
theorem dX4_longestRowOf_41 : decode cX4_longestRowOf 41 = .ok (.iload_n 3, 1) := by decide +kernel
theorem dX4_longestRowOf_42 : decode cX4_longestRowOf 42 = .ok (.iload 4, 2) := by decide +kernel
theorem dX4_longestRowOf_44 : decode cX4_longestRowOf 44 = .ok (.invokestatic 38, 3) := by decide +kernel
theorem dX4_longestRowOf_47 : decode cX4_longestRowOf 47 = .ok (.istore_n 3, 1) := by decide +kernel
theorem dX4_longestRowOf_48 : decode cX4_longestRowOf 48 = .ok (.iinc 5 1, 3) := by decide +kernel
theorem dX4_longestRowOf_51 : decode cX4_longestRowOf 51 = .ok (.goto (-38), 3) := by decide +kernel
theorem dX4_longestRowOf_54 : decode cX4_longestRowOf 54 = .ok (.iload_n 3, 1) := by decide +kernel
theorem dX4_longestRowOf_55 : decode cX4_longestRowOf 55 = .ok (.iload_n 2, 1) := by decide +kernel
theorem dX4_longestRowOf_56 : decode cX4_longestRowOf 56 = .ok (.invokestatic 44, 3) := by decide +kernel
theorem dX4_longestRowOf_59 : decode cX4_longestRowOf 59 = .ok (.ireturn, 1) := by decide +kernel
set_option maxRecDepth 20000 in
theorem ggX4_hasOneOf_X4_lightIn : GoodIn wsX4_hasOneOf wsX4_lightIn := goodIn_r _ [5, 6, 7, 8, 9, 10, 11, 12, 13, 14, 15, 16, 17, 18, 19, 20, 21, 22] (by decide +kernel) (by decide +kernel)
set_option maxRecDepth 20000 in
theorem gX4_hasOneOf_X4_lightIn : GoodIn wsX4_hasOneOf (wsV RX4 35 RX4 yX4_lightIn wsX4_lightIn) := goodIn_app (goodIn_of _ (by decide +kernel)) ggX4_hasOneOf_X4_lightIn
theorem dX4_hasOneOf_0 : decode cX4_hasOneOf 0 = .ok (.iload_n 1, 1) := by decide +kernel
theorem dX4_hasOneOf_1 : decode cX4_hasOneOf 1 = .ok (.aload_n 0, 1) := by decide +kernel
theorem dX4_hasOneOf_2 : decode cX4_hasOneOf 2 = .ok (.iload_n 2, 1) := by decide +kernel
theorem dX4_hasOneOf_3 : decode cX4_hasOneOf 3 = .ok (.invokevirtual 35, 3) := by decide +kernel
theorem dX4_hasOneOf_6 : decode cX4_hasOneOf 6 = .ok (.ishr, 1) := by decide +kernel
theorem dX4_hasOneOf_7 : decode cX4_hasOneOf 7 = .ok (.iconst 1, 1) := by decide +kernel
theorem dX4_hasOneOf_8 : decode cX4_hasOneOf 8 = .ok (.iand, 1) := by decide +kernel
theorem dX4_hasOneOf_9 : decode cX4_hasOneOf 9 = .ok (.ireturn, 1) := by decide +kernel
set_option maxRecDepth 20000 in
theorem ggX4_hoursWithin_X4_hasOneOf : GoodIn wsX4_hoursWithin wsX4_hasOneOf := goodIn_r _ [5, 6, 7, 8, 4, 9, 10, 11, 12, 13, 14, 15, 16, 17, 18, 19, 20, 21, 22, 23, 24, 25, 26] (by decide +kernel) (by decide +kernel)
set_option maxRecDepth 20000 in
theorem gX4_hoursWithin_X4_hasOneOf : GoodIn wsX4_hoursWithin (wsV RX4 47 RX4 yX4_hasOneOf wsX4_hasOneOf) := goodIn_app (goodIn_of _ (by decide +kernel)) ggX4_hoursWithin_X4_hasOneOf
theorem dX4_hoursWithin_0 : decode cX4_hoursWithin 0 = .ok (.iconst 0, 1) := by decide +kernel
theorem dX4_hoursWithin_1 : decode cX4_hoursWithin 1 = .ok (.istore 4, 2) := by decide +kernel
theorem dX4_hoursWithin_3 : decode cX4_hoursWithin 3 = .ok (.iconst 0, 1) := by decide +kernel
theorem dX4_hoursWithin_4 : decode cX4_hoursWithin 4 = .ok (.istore 5, 2) := by decide +kernel
theorem dX4_hoursWithin_6 : decode cX4_hoursWithin 6 = .ok (.iload 5, 2) := by decide +kernel
theorem dX4_hoursWithin_8 : decode cX4_hoursWithin 8 = .ok (.iload_n 3, 1) := by decide +kernel
theorem dX4_hoursWithin_9 : decode cX4_hoursWithin 9 = .ok (.if_icmp .ge 23, 3) := by decide +kernel
theorem dX4_hoursWithin_12 : decode cX4_hoursWithin 12 = .ok (.iload 4, 2) := by decide +kernel
theorem dX4_hoursWithin_14 : decode cX4_hoursWithin 14 = .ok (.aload_n 0, 1) := by decide +kernel
theorem dX4_hoursWithin_15 : decode cX4_hoursWithin 15 = .ok (.iload_n 1, 1) := by decide +kernel
theorem dX4_hoursWithin_16 : decode cX4_hoursWithin 16 = .ok (.iload_n 2, 1) := by decide +kernel
theorem dX4_hoursWithin_17 : decode cX4_hoursWithin 17 = .ok (.iload 5, 2) := by decide +kernel
theorem dX4_hoursWithin_19 : decode cX4_hoursWithin 19 = .ok (.iadd, 1) := by decide +kernel
theorem dX4_hoursWithin_20 : decode cX4_hoursWithin 20 = .ok (.invokevirtual 47, 3) := by decide +kernel
theorem dX4_hoursWithin_23 : decode cX4_hoursWithin 23 = .ok (.iadd, 1) := by decide +kernel
theorem dX4_hoursWithin_24 : decode cX4_hoursWithin 24 = .ok (.istore 4, 2) := by decide +kernel
theorem dX4_hoursWithin_26 : decode cX4_hoursWithin 26 = .ok (.iinc 5 1, 3) := by decide +kernel
theorem dX4_hoursWithin_29 : decode cX4_hoursWithin 29 = .ok (.goto (-23), 3) := by decide +kernel
theorem dX4_hoursWithin_32 : decode cX4_hoursWithin 32 = .ok (.iload 4, 2) := by decide +kernel
theorem dX4_hoursWithin_34 : decode cX4_hoursWithin 34 = .ok (.ireturn, 1) := by decide +kernel
set_option maxRecDepth 20000 in
theorem ggX4_bestStart_X4_hoursOfRound : GoodIn wsX4_bestStart wsX4_hoursOfRound := goodIn_r _ [5, 6, 7, 8, 29, 30, 31, 32, 33, 34, 35] (by decide +kernel) (by decide +kernel)
set_option maxRecDepth 20000 in
theorem gX4_bestStart_X4_hoursOfRound : GoodIn wsX4_bestStart (wsV RX4 31 RX4 yX4_hoursOfRound wsX4_hoursOfRound) := goodIn_app (goodIn_of _ (by decide +kernel)) ggX4_bestStart_X4_hoursOfRound
set_option maxRecDepth 20000 in
theorem ggX4_bestStart_X4_hoursWithin : GoodIn wsX4_bestStart wsX4_hoursWithin := goodIn_r _ [12, 13, 14, 15, 4, 16, 17, 18, 19, 20, 6, 21, 8, 22, 23, 24, 25, 26, 27, 28, 29, 30, 31, 32, 33, 34, 35] (by decide +kernel) (by decide +kernel)
set_option maxRecDepth 20000 in
theorem gX4_bestStart_X4_hoursWithin : GoodIn wsX4_bestStart (wsV RX4 50 RX4 yX4_hoursWithin wsX4_hoursWithin) := goodIn_app (goodIn_of _ (by decide +kernel)) ggX4_bestStart_X4_hoursWithin
set_option maxRecDepth 20000 in
theorem ggX4_bestStart_X4_hasOneOf : GoodIn wsX4_bestStart wsX4_hasOneOf := goodIn_r _ [16, 17, 18, 19, 4, 20, 6, 21, 8, 22, 23, 24, 25, 26, 27, 28, 29, 30, 31, 32, 33, 34, 35] (by decide +kernel) (by decide +kernel)
set_option maxRecDepth 20000 in
theorem gX4_bestStart_X4_hasOneOf : GoodIn wsX4_bestStart (wsV RX4 47 RX4 yX4_hasOneOf wsX4_hasOneOf) := goodIn_app (goodIn_of _ (by decide +kernel)) ggX4_bestStart_X4_hasOneOf
theorem dX4_bestStart_0 : decode cX4_bestStart 0 = .ok (.aload_n 0, 1) := by decide +kernel
theorem dX4_bestStart_1 : decode cX4_bestStart 1 = .ok (.invokevirtual 31, 3) := by decide +kernel
theorem dX4_bestStart_4 : decode cX4_bestStart 4 = .ok (.istore 4, 2) := by decide +kernel
theorem dX4_bestStart_6 : decode cX4_bestStart 6 = .ok (.aload_n 0, 1) := by decide +kernel
theorem dX4_bestStart_7 : decode cX4_bestStart 7 = .ok (.iload_n 1, 1) := by decide +kernel
theorem dX4_bestStart_8 : decode cX4_bestStart 8 = .ok (.iload_n 2, 1) := by decide +kernel
theorem dX4_bestStart_9 : decode cX4_bestStart 9 = .ok (.iload_n 3, 1) := by decide +kernel
theorem dX4_bestStart_10 : decode cX4_bestStart 10 = .ok (.invokevirtual 50, 3) := by decide +kernel
theorem dX4_bestStart_13 : decode cX4_bestStart 13 = .ok (.istore 5, 2) := by decide +kernel
theorem dX4_bestStart_15 : decode cX4_bestStart 15 = .ok (.iload 5, 2) := by decide +kernel
theorem dX4_bestStart_17 : decode cX4_bestStart 17 = .ok (.istore 6, 2) := by decide +kernel
theorem dX4_bestStart_19 : decode cX4_bestStart 19 = .ok (.iload_n 2, 1) := by decide +kernel
theorem dX4_bestStart_20 : decode cX4_bestStart 20 = .ok (.istore 7, 2) := by decide +kernel
theorem dX4_bestStart_22 : decode cX4_bestStart 22 = .ok (.iload_n 2, 1) := by decide +kernel
theorem dX4_bestStart_23 : decode cX4_bestStart 23 = .ok (.iconst 1, 1) := by decide +kernel
theorem dX4_bestStart_24 : decode cX4_bestStart 24 = .ok (.iadd, 1) := by decide +kernel
theorem dX4_bestStart_25 : decode cX4_bestStart 25 = .ok (.istore 8, 2) := by decide +kernel
theorem dX4_bestStart_27 : decode cX4_bestStart 27 = .ok (.iload 8, 2) := by decide +kernel
theorem dX4_bestStart_29 : decode cX4_bestStart 29 = .ok (.iload_n 2, 1) := by decide +kernel
theorem dX4_bestStart_30 : decode cX4_bestStart 30 = .ok (.iload 4, 2) := by decide +kernel
theorem dX4_bestStart_32 : decode cX4_bestStart 32 = .ok (.iadd, 1) := by decide +kernel
theorem dX4_bestStart_33 : decode cX4_bestStart 33 = .ok (.if_icmp .ge 50, 3) := by decide +kernel
theorem dX4_bestStart_36 : decode cX4_bestStart 36 = .ok (.iload 5, 2) := by decide +kernel
theorem dX4_bestStart_38 : decode cX4_bestStart 38 = .ok (.aload_n 0, 1) := by decide +kernel
theorem dX4_bestStart_39 : decode cX4_bestStart 39 = .ok (.iload_n 1, 1) := by decide +kernel
theorem dX4_bestStart_40 : decode cX4_bestStart 40 = .ok (.iload 8, 2) := by decide +kernel
theorem dX4_bestStart_42 : decode cX4_bestStart 42 = .ok (.iload_n 3, 1) := by decide +kernel
theorem dX4_bestStart_43 : decode cX4_bestStart 43 = .ok (.iadd, 1) := by decide +kernel
theorem dX4_bestStart_44 : decode cX4_bestStart 44 = .ok (.iconst 1, 1) := by decide +kernel
theorem dX4_bestStart_45 : decode cX4_bestStart 45 = .ok (.isub, 1) := by decide +kernel
theorem dX4_bestStart_46 : decode cX4_bestStart 46 = .ok (.invokevirtual 47, 3) := by decide +kernel
theorem dX4_bestStart_49 : decode cX4_bestStart 49 = .ok (.aload_n 0, 1) := by decide +kernel
theorem dX4_bestStart_50 : decode cX4_bestStart 50 = .ok (.iload_n 1, 1) := by decide +kernel
theorem dX4_bestStart_51 : decode cX4_bestStart 51 = .ok (.iload 8, 2) := by decide +kernel
theorem dX4_bestStart_53 : decode cX4_bestStart 53 = .ok (.iconst 1, 1) := by decide +kernel
theorem dX4_bestStart_54 : decode cX4_bestStart 54 = .ok (.isub, 1) := by decide +kernel
theorem dX4_bestStart_55 : decode cX4_bestStart 55 = .ok (.invokevirtual 47, 3) := by decide +kernel
theorem dX4_bestStart_58 : decode cX4_bestStart 58 = .ok (.isub, 1) := by decide +kernel
theorem dX4_bestStart_59 : decode cX4_bestStart 59 = .ok (.iadd, 1) := by decide +kernel
theorem dX4_bestStart_60 : decode cX4_bestStart 60 = .ok (.istore 5, 2) := by decide +kernel
theorem dX4_bestStart_62 : decode cX4_bestStart 62 = .ok (.iload 5, 2) := by decide +kernel
theorem dX4_bestStart_64 : decode cX4_bestStart 64 = .ok (.iload 6, 2) := by decide +kernel
theorem dX4_bestStart_66 : decode cX4_bestStart 66 = .ok (.if_icmp .le 11, 3) := by decide +kernel
theorem dX4_bestStart_69 : decode cX4_bestStart 69 = .ok (.iload 5, 2) := by decide +kernel
theorem dX4_bestStart_71 : decode cX4_bestStart 71 = .ok (.istore 6, 2) := by decide +kernel
theorem dX4_bestStart_73 : decode cX4_bestStart 73 = .ok (.iload 8, 2) := by decide +kernel
theorem dX4_bestStart_75 : decode cX4_bestStart 75 = .ok (.istore 7, 2) := by decide +kernel
theorem dX4_bestStart_77 : decode cX4_bestStart 77 = .ok (.iinc 8 1, 3) := by decide +kernel
theorem dX4_bestStart_80 : decode cX4_bestStart 80 = .ok (.goto (-53), 3) := by decide +kernel
theorem dX4_bestStart_83 : decode cX4_bestStart 83 = .ok (.iload 7, 2) := by decide +kernel
theorem dX4_bestStart_85 : decode cX4_bestStart 85 = .ok (.ireturn, 1) := by decide +kernel
set_option maxRecDepth 20000 in
theorem ggX4_dialsShow_X5_shownIn : GoodIn wsX4_dialsShow wsX5_shownIn := goodIn_r _ [7, 8, 9, 10, 11, 6, 12, 13, 14, 17, 18, 19, 20, 21] (by decide +kernel) (by decide +kernel)
set_option maxRecDepth 20000 in
theorem gX4_dialsShow_X5_shownIn : GoodIn wsX4_dialsShow (wsV RX4 54 RX5 yX5_shownIn wsX5_shownIn) := goodIn_app (goodIn_of _ (by decide +kernel)) ggX4_dialsShow_X5_shownIn
theorem dX4_dialsShow_0 : decode cX4_dialsShow 0 = .ok (.aload_n 0, 1) := by decide +kernel
theorem dX4_dialsShow_1 : decode cX4_dialsShow 1 = .ok (.getfield 9, 3) := by decide +kernel
theorem dX4_dialsShow_4 : decode cX4_dialsShow 4 = .ok (.iload_n 3, 1) := by decide +kernel
theorem dX4_dialsShow_5 : decode cX4_dialsShow 5 = .ok (.invokevirtual 54, 3) := by decide +kernel
theorem dX4_dialsShow_8 : decode cX4_dialsShow 8 = .ok (.iload_n 1, 1) := by decide +kernel
theorem dX4_dialsShow_9 : decode cX4_dialsShow 9 = .ok (.if_icmp .ne 19, 3) := by decide +kernel
theorem dX4_dialsShow_12 : decode cX4_dialsShow 12 = .ok (.aload_n 0, 1) := by decide +kernel
theorem dX4_dialsShow_13 : decode cX4_dialsShow 13 = .ok (.getfield 15, 3) := by decide +kernel
theorem dX4_dialsShow_16 : decode cX4_dialsShow 16 = .ok (.iload_n 3, 1) := by decide +kernel
theorem dX4_dialsShow_17 : decode cX4_dialsShow 17 = .ok (.invokevirtual 54, 3) := by decide +kernel
theorem dX4_dialsShow_20 : decode cX4_dialsShow 20 = .ok (.iload_n 2, 1) := by decide +kernel
theorem dX4_dialsShow_21 : decode cX4_dialsShow 21 = .ok (.if_icmp .ne 7, 3) := by decide +kernel
theorem dX4_dialsShow_24 : decode cX4_dialsShow 24 = .ok (.iconst 1, 1) := by decide +kernel
theorem dX4_dialsShow_25 : decode cX4_dialsShow 25 = .ok (.goto 4, 3) := by decide +kernel
theorem dX4_dialsShow_28 : decode cX4_dialsShow 28 = .ok (.iconst 0, 1) := by decide +kernel
theorem dX4_dialsShow_29 : decode cX4_dialsShow 29 = .ok (.ireturn, 1) := by decide +kernel
set_option maxRecDepth 20000 in
theorem ggX4_hoursByDials_X4_hoursOfRound : GoodIn wsX4_hoursByDials wsX4_hoursOfRound := goodIn_r _ [5, 6, 7, 8, 25, 26, 27, 28, 29, 30, 31] (by decide +kernel) (by decide +kernel)
set_option maxRecDepth 20000 in
theorem gX4_hoursByDials_X4_hoursOfRound : GoodIn wsX4_hoursByDials (wsV RX4 31 RX4 yX4_hoursOfRound wsX4_hoursOfRound) := goodIn_app (goodIn_of _ (by decide +kernel)) ggX4_hoursByDials_X4_hoursOfRound
set_option maxRecDepth 20000 in
theorem ggX4_hoursByDials_X4_dialsShow : GoodIn wsX4_hoursByDials wsX4_dialsShow := goodIn_r _ [12, 6, 8, 13, 14, 15, 16, 17, 18, 19, 20, 21, 22, 23, 24, 25, 26, 27, 28, 29, 30, 31] (by decide +kernel) (by decide +kernel)
set_option maxRecDepth 20000 in
theorem gX4_hoursByDials_X4_dialsShow : GoodIn wsX4_hoursByDials (wsV RX4 57 RX4 yX4_dialsShow wsX4_dialsShow) := goodIn_app (goodIn_of _ (by decide +kernel)) ggX4_hoursByDials_X4_dialsShow
theorem dX4_hoursByDials_0 : decode cX4_hoursByDials 0 = .ok (.aload_n 0, 1) := by decide +kernel
theorem dX4_hoursByDials_1 : decode cX4_hoursByDials 1 = .ok (.invokevirtual 31, 3) := by decide +kernel
theorem dX4_hoursByDials_4 : decode cX4_hoursByDials 4 = .ok (.istore_n 3, 1) := by decide +kernel
theorem dX4_hoursByDials_5 : decode cX4_hoursByDials 5 = .ok (.iconst 0, 1) := by decide +kernel
theorem dX4_hoursByDials_6 : decode cX4_hoursByDials 6 = .ok (.istore 4, 2) := by decide +kernel
theorem dX4_hoursByDials_8 : decode cX4_hoursByDials 8 = .ok (.iconst 0, 1) := by decide +kernel
theorem dX4_hoursByDials_9 : decode cX4_hoursByDials 9 = .ok (.istore 5, 2) := by decide +kernel
theorem dX4_hoursByDials_11 : decode cX4_hoursByDials 11 = .ok (.iload 5, 2) := by decide +kernel
theorem dX4_hoursByDials_13 : decode cX4_hoursByDials 13 = .ok (.iload_n 3, 1) := by decide +kernel
theorem dX4_hoursByDials_14 : decode cX4_hoursByDials 14 = .ok (.if_icmp .ge 23, 3) := by decide +kernel
theorem dX4_hoursByDials_17 : decode cX4_hoursByDials 17 = .ok (.aload_n 0, 1) := by decide +kernel
theorem dX4_hoursByDials_18 : decode cX4_hoursByDials 18 = .ok (.iload_n 1, 1) := by decide +kernel
theorem dX4_hoursByDials_19 : decode cX4_hoursByDials 19 = .ok (.iload_n 2, 1) := by decide +kernel
theorem dX4_hoursByDials_20 : decode cX4_hoursByDials 20 = .ok (.iload 5, 2) := by decide +kernel
theorem dX4_hoursByDials_22 : decode cX4_hoursByDials 22 = .ok (.invokevirtual 57, 3) := by decide +kernel
theorem dX4_hoursByDials_25 : decode cX4_hoursByDials 25 = .ok (.ifCond .eq 6, 3) := by decide +kernel
theorem dX4_hoursByDials_28 : decode cX4_hoursByDials 28 = .ok (.iinc 4 1, 3) := by decide +kernel
theorem dX4_hoursByDials_31 : decode cX4_hoursByDials 31 = .ok (.iinc 5 1, 3) := by decide +kernel
theorem dX4_hoursByDials_34 : decode cX4_hoursByDials 34 = .ok (.goto (-23), 3) := by decide +kernel
theorem dX4_hoursByDials_37 : decode cX4_hoursByDials 37 = .ok (.iload 4, 2) := by decide +kernel
theorem dX4_hoursByDials_39 : decode cX4_hoursByDials 39 = .ok (.ireturn, 1) := by decide +kernel
set_option maxRecDepth 20000 in
theorem ggX4_firstByDials_X4_hoursOfRound : GoodIn wsX4_firstByDials wsX4_hoursOfRound := goodIn_r _ [5, 6, 7, 8, 25, 26, 27, 28, 29, 30, 31] (by decide +kernel) (by decide +kernel)
set_option maxRecDepth 20000 in
theorem gX4_firstByDials_X4_hoursOfRound : GoodIn wsX4_firstByDials (wsV RX4 31 RX4 yX4_hoursOfRound wsX4_hoursOfRound) := goodIn_app (goodIn_of _ (by decide +kernel)) ggX4_firstByDials_X4_hoursOfRound
set_option maxRecDepth 20000 in
theorem ggX4_firstByDials_X4_dialsShow : GoodIn wsX4_firstByDials wsX4_dialsShow := goodIn_r _ [12, 6, 8, 13, 14, 15, 16, 17, 18, 19, 20, 21, 22, 23, 24, 25, 26, 27, 28, 29, 30, 31] (by decide +kernel) (by decide +kernel)
set_option maxRecDepth 20000 in
theorem gX4_firstByDials_X4_dialsShow : GoodIn wsX4_firstByDials (wsV RX4 57 RX4 yX4_dialsShow wsX4_dialsShow) := goodIn_app (goodIn_of _ (by decide +kernel)) ggX4_firstByDials_X4_dialsShow
theorem dX4_firstByDials_0 : decode cX4_firstByDials 0 = .ok (.aload_n 0, 1) := by decide +kernel
theorem dX4_firstByDials_1 : decode cX4_firstByDials 1 = .ok (.invokevirtual 31, 3) := by decide +kernel
theorem dX4_firstByDials_4 : decode cX4_firstByDials 4 = .ok (.istore_n 3, 1) := by decide +kernel
theorem dX4_firstByDials_5 : decode cX4_firstByDials 5 = .ok (.iconst 0, 1) := by decide +kernel
theorem dX4_firstByDials_6 : decode cX4_firstByDials 6 = .ok (.istore 4, 2) := by decide +kernel
theorem dX4_firstByDials_8 : decode cX4_firstByDials 8 = .ok (.iload 4, 2) := by decide +kernel
theorem dX4_firstByDials_10 : decode cX4_firstByDials 10 = .ok (.iload_n 3, 1) := by decide +kernel
theorem dX4_firstByDials_11 : decode cX4_firstByDials 11 = .ok (.if_icmp .ge 23, 3) := by decide +kernel
theorem dX4_firstByDials_14 : decode cX4_firstByDials 14 = .ok (.aload_n 0, 1) := by decide +kernel
theorem dX4_firstByDials_15 : decode cX4_firstByDials 15 = .ok (.iload_n 1, 1) := by decide +kernel
theorem dX4_firstByDials_16 : decode cX4_firstByDials 16 = .ok (.iload_n 2, 1) := by decide +kernel
theorem dX4_firstByDials_17 : decode cX4_firstByDials 17 = .ok (.iload 4, 2) := by decide +kernel
theorem dX4_firstByDials_19 : decode cX4_firstByDials 19 = .ok (.invokevirtual 57, 3) := by decide +kernel
theorem dX4_firstByDials_22 : decode cX4_firstByDials 22 = .ok (.ifCond .eq 6, 3) := by decide +kernel
theorem dX4_firstByDials_25 : decode cX4_firstByDials 25 = .ok (.iload 4, 2) := by decide +kernel
theorem dX4_firstByDials_27 : decode cX4_firstByDials 27 = .ok (.ireturn, 1) := by decide +kernel
theorem dX4_firstByDials_28 : decode cX4_firstByDials 28 = .ok (.iinc 4 1, 3) := by decide +kernel
theorem dX4_firstByDials_31 : decode cX4_firstByDials 31 = .ok (.goto (-23), 3) := by decide +kernel
theorem dX4_firstByDials_34 : decode cX4_firstByDials 34 = .ok (.iconst (-1), 1) := by decide +kernel
theorem dX4_firstByDials_35 : decode cX4_firstByDials 35 = .ok (.ireturn, 1) := by decide +kernel
set_option maxRecDepth 20000 in
theorem ggX4_leftAtWorst_X5_leftAtWorst : GoodIn wsX4_leftAtWorst wsX5_leftAtWorst := goodIn_r _ [7, 8, 9, 10, 11, 6, 12, 13, 16, 17, 18, 19, 20] (by decide +kernel) (by decide +kernel)
set_option maxRecDepth 20000 in
theorem gX4_leftAtWorst_X5_leftAtWorst : GoodIn wsX4_leftAtWorst (wsV RX4 61 RX5 yX5_leftAtWorst wsX5_leftAtWorst) := goodIn_app (goodIn_of _ (by decide +kernel)) ggX4_leftAtWorst_X5_leftAtWorst
theorem dX4_leftAtWorst_0 : decode cX4_leftAtWorst 0 = .ok (.aload_n 0, 1) := by decide +kernel
theorem dX4_leftAtWorst_1 : decode cX4_leftAtWorst 1 = .ok (.getfield 9, 3) := by decide +kernel
theorem dX4_leftAtWorst_4 : decode cX4_leftAtWorst 4 = .ok (.iload_n 1, 1) := by decide +kernel
theorem dX4_leftAtWorst_5 : decode cX4_leftAtWorst 5 = .ok (.invokevirtual 61, 3) := by decide +kernel
theorem dX4_leftAtWorst_8 : decode cX4_leftAtWorst 8 = .ok (.aload_n 0, 1) := by decide +kernel
theorem dX4_leftAtWorst_9 : decode cX4_leftAtWorst 9 = .ok (.getfield 15, 3) := by decide +kernel
theorem dX4_leftAtWorst_12 : decode cX4_leftAtWorst 12 = .ok (.iload_n 1, 1) := by decide +kernel
theorem dX4_leftAtWorst_13 : decode cX4_leftAtWorst 13 = .ok (.invokevirtual 61, 3) := by decide +kernel
theorem dX4_leftAtWorst_16 : decode cX4_leftAtWorst 16 = .ok (.imul, 1) := by decide +kernel
theorem dX4_leftAtWorst_17 : decode cX4_leftAtWorst 17 = .ok (.ireturn, 1) := by decide +kernel
set_option maxRecDepth 20000 in
theorem ggX4_hourToWatch_X4_hoursOfRound : GoodIn wsX4_hourToWatch wsX4_hoursOfRound := goodIn_r _ [5, 6, 7, 8, 24, 25, 26, 27, 28, 29, 30] (by decide +kernel) (by decide +kernel)
set_option maxRecDepth 20000 in
theorem gX4_hourToWatch_X4_hoursOfRound : GoodIn wsX4_hourToWatch (wsV RX4 31 RX4 yX4_hoursOfRound wsX4_hoursOfRound) := goodIn_app (goodIn_of _ (by decide +kernel)) ggX4_hourToWatch_X4_hoursOfRound
set_option maxRecDepth 20000 in
theorem ggX4_hourToWatch_X4_leftAtWorst : GoodIn wsX4_hourToWatch wsX4_leftAtWorst := goodIn_r _ [12, 6, 8, 13, 14, 15, 16, 17, 18, 19, 20, 21, 22, 23, 24, 25, 26, 27, 28, 29, 30] (by decide +kernel) (by decide +kernel)
set_option maxRecDepth 20000 in
theorem gX4_hourToWatch_X4_leftAtWorst : GoodIn wsX4_hourToWatch (wsV RX4 64 RX4 yX4_leftAtWorst wsX4_leftAtWorst) := goodIn_app (goodIn_of _ (by decide +kernel)) ggX4_hourToWatch_X4_leftAtWorst
theorem dX4_hourToWatch_0 : decode cX4_hourToWatch 0 = .ok (.aload_n 0, 1) := by decide +kernel
theorem dX4_hourToWatch_1 : decode cX4_hourToWatch 1 = .ok (.invokevirtual 31, 3) := by decide +kernel
theorem dX4_hourToWatch_4 : decode cX4_hourToWatch 4 = .ok (.istore_n 2, 1) := by decide +kernel
theorem dX4_hourToWatch_5 : decode cX4_hourToWatch 5 = .ok (.iload_n 1, 1) := by decide +kernel
theorem dX4_hourToWatch_6 : decode cX4_hourToWatch 6 = .ok (.istore_n 3, 1) := by decide +kernel
theorem dX4_hourToWatch_7 : decode cX4_hourToWatch 7 = .ok (.aload_n 0, 1) := by decide +kernel
theorem dX4_hourToWatch_8 : decode cX4_hourToWatch 8 = .ok (.iload_n 1, 1) := by decide +kernel
theorem dX4_hourToWatch_9 : decode cX4_hourToWatch 9 = .ok (.invokevirtual 64, 3) := by decide +kernel
theorem dX4_hourToWatch_12 : decode cX4_hourToWatch 12 = .ok (.istore 4, 2) := by decide +kernel
theorem dX4_hourToWatch_14 : decode cX4_hourToWatch 14 = .ok (.iload_n 1, 1) := by decide +kernel
theorem dX4_hourToWatch_15 : decode cX4_hourToWatch 15 = .ok (.iconst 1, 1) := by decide +kernel
theorem dX4_hourToWatch_16 : decode cX4_hourToWatch 16 = .ok (.iadd, 1) := by decide +kernel
theorem dX4_hourToWatch_17 : decode cX4_hourToWatch 17 = .ok (.istore 5, 2) := by decide +kernel
theorem dX4_hourToWatch_19 : decode cX4_hourToWatch 19 = .ok (.iload 5, 2) := by decide +kernel
theorem dX4_hourToWatch_21 : decode cX4_hourToWatch 21 = .ok (.iload_n 1, 1) := by decide +kernel
theorem dX4_hourToWatch_22 : decode cX4_hourToWatch 22 = .ok (.iload_n 2, 1) := by decide +kernel
theorem dX4_hourToWatch_23 : decode cX4_hourToWatch 23 = .ok (.iadd, 1) := by decide +kernel
theorem dX4_hourToWatch_24 : decode cX4_hourToWatch 24 = .ok (.if_icmp .ge 31, 3) := by decide +kernel
theorem dX4_hourToWatch_27 : decode cX4_hourToWatch 27 = .ok (.aload_n 0, 1) := by decide +kernel
theorem dX4_hourToWatch_28 : decode cX4_hourToWatch 28 = .ok (.iload 5, 2) := by decide +kernel
theorem dX4_hourToWatch_30 : decode cX4_hourToWatch 30 = .ok (.invokevirtual 64, 3) := by decide +kernel
theorem dX4_hourToWatch_33 : decode cX4_hourToWatch 33 = .ok (.istore 6, 2) := by decide +kernel
theorem dX4_hourToWatch_35 : decode cX4_hourToWatch 35 = .ok (.iload 6, 2) := by decide +kernel
theorem dX4_hourToWatch_37 : decode cX4_hourToWatch 37 = .ok (.iload 4, 2) := by decide +kernel
theorem dX4_hourToWatch_39 : decode cX4_hourToWatch 39 = .ok (.if_icmp .ge 10, 3) := by decide +kernel
theorem dX4_hourToWatch_42 : decode cX4_hourToWatch 42 = .ok (.iload 6, 2) := by decide +kernel
theorem dX4_hourToWatch_44 : decode cX4_hourToWatch 44 = .ok (.istore 4, 2) := by decide +kernel
theorem dX4_hourToWatch_46 : decode cX4_hourToWatch 46 = .ok (.iload 5, 2) := by decide +kernel
theorem dX4_hourToWatch_48 : decode cX4_hourToWatch 48 = .ok (.istore_n 3, 1) := by decide +kernel
theorem dX4_hourToWatch_49 : decode cX4_hourToWatch 49 = .ok (.iinc 5 1, 3) := by decide +kernel
theorem dX4_hourToWatch_52 : decode cX4_hourToWatch 52 = .ok (.goto (-33), 3) := by decide +kernel
theorem dX4_hourToWatch_55 : decode cX4_hourToWatch 55 = .ok (.iload_n 3, 1) := by decide +kernel
theorem dX4_hourToWatch_56 : decode cX4_hourToWatch 56 = .ok (.ireturn, 1) := by decide +kernel
theorem dX5_init_0 : decode cX5_init 0 = .ok (.aload_n 0, 1) := by decide +kernel
theorem dX5_init_1 : decode cX5_init 1 = .ok (.invokespecial 3, 3) := by decide +kernel
theorem dX5_init_4 : decode cX5_init 4 = .ok (.aload_n 0, 1) := by decide +kernel
theorem dX5_init_5 : decode cX5_init 5 = .ok (.iconst 0, 1) := by decide +kernel
theorem dX5_init_6 : decode cX5_init 6 = .ok (.putfield 9, 3) := by decide +kernel
theorem dX5_init_9 : decode cX5_init 9 = .ok (.aload_n 0, 1) := by decide +kernel
theorem dX5_init_10 : decode cX5_init 10 = .ok (.bipush 40, 2) := by decide +kernel
theorem dX5_init_12 : decode cX5_init 12 = .ok (.newarray .boolean, 2) := by decide +kernel
theorem dX5_init_14 : decode cX5_init 14 = .ok (.putfield 15, 3) := by decide +kernel
theorem dX5_init_17 : decode cX5_init 17 = .ok (.aload_n 0, 1) := by decide +kernel
theorem dX5_init_18 : decode cX5_init 18 = .ok (.bipush 40, 2) := by decide +kernel
theorem dX5_init_20 : decode cX5_init 20 = .ok (.newarray .int, 2) := by decide +kernel
theorem dX5_init_22 : decode cX5_init 22 = .ok (.putfield 19, 3) := by decide +kernel
theorem dX5_init_25 : decode cX5_init 25 = .ok (.aload_n 0, 1) := by decide +kernel
theorem dX5_init_26 : decode cX5_init 26 = .ok (.iload_n 1, 1) := by decide +kernel
theorem dX5_init_27 : decode cX5_init 27 = .ok (.putfield 23, 3) := by decide +kernel
theorem dX5_init_30 : decode cX5_init 30 = .ok (.aload_n 0, 1) := by decide +kernel
theorem dX5_init_31 : decode cX5_init 31 = .ok (.iload_n 2, 1) := by decide +kernel
theorem dX5_init_32 : decode cX5_init 32 = .ok (.putfield 26, 3) := by decide +kernel
theorem dX5_init_35 : decode cX5_init 35 = .ok (.return_, 1) := by decide +kernel
set_option maxRecDepth 20000 in
theorem ggX5_changeTurn_X5_placeBy : GoodIn wsX5_changeTurn wsX5_placeBy := goodIn_r _ [12, 1, 13, 14, 15, 16, 17] (by decide +kernel) (by decide +kernel)
set_option maxRecDepth 20000 in
theorem gX5_changeTurn_X5_placeBy : GoodIn wsX5_changeTurn (wsV RX5 29 RX5 yX5_placeBy wsX5_placeBy) := goodIn_app (goodIn_of _ (by decide +kernel)) ggX5_changeTurn_X5_placeBy
theorem dX5_changeTurn_0 : decode cX5_changeTurn 0 = .ok (.aload_n 0, 1) := by decide +kernel
theorem dX5_changeTurn_1 : decode cX5_changeTurn 1 = .ok (.getfield 23, 3) := by decide +kernel
theorem dX5_changeTurn_4 : decode cX5_changeTurn 4 = .ok (.istore_n 2, 1) := by decide +kernel
theorem dX5_changeTurn_5 : decode cX5_changeTurn 5 = .ok (.aload_n 0, 1) := by decide +kernel
theorem dX5_changeTurn_6 : decode cX5_changeTurn 6 = .ok (.iload_n 1, 1) := by decide +kernel
theorem dX5_changeTurn_7 : decode cX5_changeTurn 7 = .ok (.putfield 23, 3) := by decide +kernel
theorem dX5_changeTurn_10 : decode cX5_changeTurn 10 = .ok (.aload_n 0, 1) := by decide +kernel
theorem dX5_changeTurn_11 : decode cX5_changeTurn 11 = .ok (.aload_n 0, 1) := by decide +kernel
theorem dX5_changeTurn_12 : decode cX5_changeTurn 12 = .ok (.iconst 0, 1) := by decide +kernel
theorem dX5_changeTurn_13 : decode cX5_changeTurn 13 = .ok (.aload_n 0, 1) := by decide +kernel
theorem dX5_changeTurn_14 : decode cX5_changeTurn 14 = .ok (.getfield 9, 3) := by decide +kernel
theorem dX5_changeTurn_17 : decode cX5_changeTurn 17 = .ok (.invokevirtual 29, 3) := by decide +kernel
theorem dX5_changeTurn_20 : decode cX5_changeTurn 20 = .ok (.putfield 9, 3) := by decide +kernel
theorem dX5_changeTurn_23 : decode cX5_changeTurn 23 = .ok (.aload_n 0, 1) := by decide +kernel
theorem dX5_changeTurn_24 : decode cX5_changeTurn 24 = .ok (.aload_n 0, 1) := by decide +kernel
theorem dX5_changeTurn_25 : decode cX5_changeTurn 25 = .ok (.getfield 26, 3) := by decide +kernel
theorem dX5_changeTurn_28 : decode cX5_changeTurn 28 = .ok (.iload_n 1, 1) := by decide +kernel
theorem dX5_changeTurn_29 : decode cX5_changeTurn 29 = .ok (.invokestatic 33, 3) := by decide +kernel
theorem dX5_changeTurn_32 : decode cX5_changeTurn 32 = .ok (.putfield 26, 3) := by decide +kernel
theorem dX5_changeTurn_35 : decode cX5_changeTurn 35 = .ok (.iload_n 2, 1) := by decide +kernel
theorem dX5_changeTurn_36 : decode cX5_changeTurn 36 = .ok (.ireturn, 1) := by decide +kernel
theorem dX5_changePhase_0 : decode cX5_changePhase 0 = .ok (.aload_n 0, 1) := by decide +kernel
theorem dX5_changePhase_1 : decode cX5_changePhase 1 = .ok (.getfield 9, 3) := by decide +kernel
theorem dX5_changePhase_4 : decode cX5_changePhase 4 = .ok (.istore_n 2, 1) := by decide +kernel
theorem dX5_changePhase_5 : decode cX5_changePhase 5 = .ok (.aload_n 0, 1) := by decide +kernel
theorem dX5_changePhase_6 : decode cX5_changePhase 6 = .ok (.iload_n 1, 1) := by decide +kernel
theorem dX5_changePhase_7 : decode cX5_changePhase 7 = .ok (.putfield 9, 3) := by decide +kernel
theorem dX5_changePhase_10 : decode cX5_changePhase 10 = .ok (.iload_n 2, 1) := by decide +kernel
theorem dX5_changePhase_11 : decode cX5_changePhase 11 = .ok (.ireturn, 1) := by decide +kernel
theorem dX5_changeUp_0 : decode cX5_changeUp 0 = .ok (.aload_n 0, 1) := by decide +kernel
theorem dX5_changeUp_1 : decode cX5_changeUp 1 = .ok (.getfield 26, 3) := by decide +kernel
theorem dX5_changeUp_4 : decode cX5_changeUp 4 = .ok (.istore_n 2, 1) := by decide +kernel
theorem dX5_changeUp_5 : decode cX5_changeUp 5 = .ok (.aload_n 0, 1) := by decide +kernel
theorem dX5_changeUp_6 : decode cX5_changeUp 6 = .ok (.iload_n 1, 1) := by decide +kernel
theorem dX5_changeUp_7 : decode cX5_changeUp 7 = .ok (.putfield 26, 3) := by decide +kernel
theorem dX5_changeUp_10 : decode cX5_changeUp 10 = .ok (.iload_n 2, 1) := by decide +kernel
theorem dX5_changeUp_11 : decode cX5_changeUp 11 = .ok (.ireturn, 1) := by decide +kernel
theorem dX5_placeIn_0 : decode cX5_placeIn 0 = .ok (.aload_n 0, 1) := by decide +kernel
theorem dX5_placeIn_1 : decode cX5_placeIn 1 = .ok (.getfield 23, 3) := by decide +kernel
theorem dX5_placeIn_4 : decode cX5_placeIn 4 = .ok (.iconst 2, 1) := by decide +kernel
theorem dX5_placeIn_5 : decode cX5_placeIn 5 = .ok (.if_icmp .ge 7, 3) := by decide +kernel
theorem dX5_placeIn_8 : decode cX5_placeIn 8 = .ok (.iconst 0, 1) := by decide +kernel
theorem dX5_placeIn_9 : decode cX5_placeIn 9 = .ok (.goto 14, 3) := by decide +kernel
theorem dX5_placeIn_12 : decode cX5_placeIn 12 = .ok (.iload_n 1, 1) := by decide +kernel
theorem dX5_placeIn_13 : decode cX5_placeIn 13 = .ok (.aload_n 0, 1) := by decide +kernel
theorem dX5_placeIn_14 : decode cX5_placeIn 14 = .ok (.getfield 9, 3) := by decide +kernel
theorem dX5_placeIn_17 : decode cX5_placeIn 17 = .ok (.iadd, 1) := by decide +kernel
theorem dX5_placeIn_18 : decode cX5_placeIn 18 = .ok (.aload_n 0, 1) := by decide +kernel
theorem dX5_placeIn_19 : decode cX5_placeIn 19 = .ok (.getfield 23, 3) := by decide +kernel
theorem dX5_placeIn_22 : decode cX5_placeIn 22 = .ok (.irem, 1) := by decide +kernel
theorem dX5_placeIn_23 : decode cX5_placeIn 23 = .ok (.ireturn, 1) := by decide +kernel
theorem dX5_placeBy_0 : decode cX5_placeBy 0 = .ok (.aload_n 0, 1) := by decide +kernel
theorem dX5_placeBy_1 : decode cX5_placeBy 1 = .ok (.getfield 23, 3) := by decide +kernel
theorem dX5_placeBy_4 : decode cX5_placeBy 4 = .ok (.iconst 2, 1) := by decide +kernel
theorem dX5_placeBy_5 : decode cX5_placeBy 5 = .ok (.if_icmp .ge 7, 3) := by decide +kernel
theorem dX5_placeBy_8 : decode cX5_placeBy 8 = .ok (.iconst 0, 1) := by decide +kernel
theorem dX5_placeBy_9 : decode cX5_placeBy 9 = .ok (.goto 11, 3) := by decide +kernel
theorem dX5_placeBy_12 : decode cX5_placeBy 12 = .ok (.iload_n 2, 1) := by decide +kernel
theorem dX5_placeBy_13 : decode cX5_placeBy 13 = .ok (.iload_n 1, 1) := by decide +kernel
theorem dX5_placeBy_14 : decode cX5_placeBy 14 = .ok (.iadd, 1) := by decide +kernel
theorem dX5_placeBy_15 : decode cX5_placeBy 15 = .ok (.aload_n 0, 1) := by decide +kernel
theorem dX5_placeBy_16 : decode cX5_placeBy 16 = .ok (.getfield 23, 3) := by decide +kernel
theorem dX5_placeBy_19 : decode cX5_placeBy 19 = .ok (.irem, 1) := by decide +kernel
theorem dX5_placeBy_20 : decode cX5_placeBy 20 = .ok (.ireturn, 1) := by decide +kernel
set_option maxRecDepth 20000 in
theorem ggX5_isUpIn_X5_placeIn : GoodIn wsX5_isUpIn wsX5_placeIn := goodIn_r _ [6, 7, 8, 9, 10, 11, 12, 13] (by decide +kernel) (by decide +kernel)
set_option maxRecDepth 20000 in
theorem gX5_isUpIn_X5_placeIn : GoodIn wsX5_isUpIn (wsV RX5 38 RX5 yX5_placeIn wsX5_placeIn) := goodIn_app (goodIn_of _ (by decide +kernel)) ggX5_isUpIn_X5_placeIn
theorem dX5_isUpIn_0 : decode cX5_isUpIn 0 = .ok (.aload_n 0, 1) := by decide +kernel
theorem dX5_isUpIn_1 : decode cX5_isUpIn 1 = .ok (.iload_n 1, 1) := by decide +kernel
theorem dX5_isUpIn_2 : decode cX5_isUpIn 2 = .ok (.invokevirtual 38, 3) := by decide +kernel
theorem dX5_isUpIn_5 : decode cX5_isUpIn 5 = .ok (.aload_n 0, 1) := by decide +kernel
theorem dX5_isUpIn_6 : decode cX5_isUpIn 6 = .ok (.getfield 26, 3) := by decide +kernel
theorem dX5_isUpIn_9 : decode cX5_isUpIn 9 = .ok (.if_icmp .ge 7, 3) := by decide +kernel
theorem dX5_isUpIn_12 : decode cX5_isUpIn 12 = .ok (.iconst 1, 1) := by decide +kernel
theorem dX5_isUpIn_13 : decode cX5_isUpIn 13 = .ok (.goto 4, 3) := by decide +kernel
theorem dX5_isUpIn_16 : decode cX5_isUpIn 16 = .ok (.iconst 0, 1) := by decide +kernel
theorem dX5_isUpIn_17 : decode cX5_isUpIn 17 = .ok (.ireturn, 1) := by decide +kernel
set_option maxRecDepth 20000 in
theorem ggX5_shownIn_X5_placeIn : GoodIn wsX5_shownIn wsX5_placeIn := goodIn_r _ [6, 7, 8, 9, 10, 11, 12, 13] (by decide +kernel) (by decide +kernel)
set_option maxRecDepth 20000 in
theorem gX5_shownIn_X5_placeIn : GoodIn wsX5_shownIn (wsV RX5 38 RX5 yX5_placeIn wsX5_placeIn) := goodIn_app (goodIn_of _ (by decide +kernel)) ggX5_shownIn_X5_placeIn
theorem dX5_shownIn_0 : decode cX5_shownIn 0 = .ok (.aload_n 0, 1) := by decide +kernel
theorem dX5_shownIn_1 : decode cX5_shownIn 1 = .ok (.iload_n 1, 1) := by decide +kernel
theorem dX5_shownIn_2 : decode cX5_shownIn 2 = .ok (.invokevirtual 38, 3) := by decide +kernel
theorem dX5_shownIn_5 : decode cX5_shownIn 5 = .ok (.istore_n 2, 1) := by decide +kernel
theorem dX5_shownIn_6 : decode cX5_shownIn 6 = .ok (.iload_n 2, 1) := by decide +kernel
theorem dX5_shownIn_7 : decode cX5_shownIn 7 = .ok (.aload_n 0, 1) := by decide +kernel
theorem dX5_shownIn_8 : decode cX5_shownIn 8 = .ok (.getfield 26, 3) := by decide +kernel
theorem dX5_shownIn_11 : decode cX5_shownIn 11 = .ok (.if_icmp .ge 7, 3) := by decide +kernel
theorem dX5_shownIn_14 : decode cX5_shownIn 14 = .ok (.iload_n 2, 1) := by decide +kernel
theorem dX5_shownIn_15 : decode cX5_shownIn 15 = .ok (.goto 4, 3) := by decide +kernel
theorem dX5_shownIn_18 : decode cX5_shownIn 18 = .ok (.iconst (-1), 1) := by decide +kernel
theorem dX5_shownIn_19 : decode cX5_shownIn 19 = .ok (.ireturn, 1) := by decide +kernel
set_option maxRecDepth 20000 in
theorem ggX5_awayFromRise_X5_placeIn : GoodIn wsX5_awayFromRise wsX5_placeIn := goodIn_r _ [10, 1, 11, 12, 13, 14, 15, 16] (by decide +kernel) (by decide +kernel)
set_option maxRecDepth 20000 in
theorem gX5_awayFromRise_X5_placeIn : GoodIn wsX5_awayFromRise (wsV RX5 38 RX5 yX5_placeIn wsX5_placeIn) := goodIn_app (goodIn_of _ (by decide +kernel)) ggX5_awayFromRise_X5_placeIn
theorem dX5_awayFromRise_0 : decode cX5_awayFromRise 0 = .ok (.aload_n 0, 1) := by decide +kernel
theorem dX5_awayFromRise_1 : decode cX5_awayFromRise 1 = .ok (.iload_n 1, 1) := by decide +kernel
theorem dX5_awayFromRise_2 : decode cX5_awayFromRise 2 = .ok (.invokevirtual 38, 3) := by decide +kernel
theorem dX5_awayFromRise_5 : decode cX5_awayFromRise 5 = .ok (.istore_n 2, 1) := by decide +kernel
theorem dX5_awayFromRise_6 : decode cX5_awayFromRise 6 = .ok (.iload_n 2, 1) := by decide +kernel
theorem dX5_awayFromRise_7 : decode cX5_awayFromRise 7 = .ok (.aload_n 0, 1) := by decide +kernel
theorem dX5_awayFromRise_8 : decode cX5_awayFromRise 8 = .ok (.getfield 23, 3) := by decide +kernel
theorem dX5_awayFromRise_11 : decode cX5_awayFromRise 11 = .ok (.iload_n 2, 1) := by decide +kernel
theorem dX5_awayFromRise_12 : decode cX5_awayFromRise 12 = .ok (.isub, 1) := by decide +kernel
theorem dX5_awayFromRise_13 : decode cX5_awayFromRise 13 = .ok (.invokestatic 33, 3) := by decide +kernel
theorem dX5_awayFromRise_16 : decode cX5_awayFromRise 16 = .ok (.ireturn, 1) := by decide +kernel
set_option maxRecDepth 20000 in
theorem ggX5_findFitting_X5_fitsWith : GoodIn wsX5_findFitting wsX5_fitsWith := goodIn_r _ [7, 8, 9, 10, 11, 12, 13, 14, 15, 16, 17, 18, 19, 20, 21, 22, 23, 24, 6, 25, 1, 26, 27, 28, 29, 30, 31, 32, 33, 34] (by decide +kernel) (by decide +kernel)
set_option maxRecDepth 20000 in
theorem gX5_findFitting_X5_fitsWith : GoodIn wsX5_findFitting (wsV RX5 42 RX5 yX5_fitsWith wsX5_fitsWith) := goodIn_app (goodIn_of _ (by decide +kernel)) ggX5_findFitting_X5_fitsWith
theorem dX5_findFitting_0 : decode cX5_findFitting 0 = .ok (.iconst 0, 1) := by decide +kernel
theorem dX5_findFitting_1 : decode cX5_findFitting 1 = .ok (.istore 4, 2) := by decide +kernel
theorem dX5_findFitting_3 : decode cX5_findFitting 3 = .ok (.iload 4, 2) := by decide +kernel
theorem dX5_findFitting_5 : decode cX5_findFitting 5 = .ok (.aload_n 0, 1) := by decide +kernel
theorem dX5_findFitting_6 : decode cX5_findFitting 6 = .ok (.getfield 23, 3) := by decide +kernel
theorem dX5_findFitting_9 : decode cX5_findFitting 9 = .ok (.if_icmp .ge 32, 3) := by decide +kernel
theorem dX5_findFitting_12 : decode cX5_findFitting 12 = .ok (.iload 4, 2) := by decide +kernel
theorem dX5_findFitting_14 : decode cX5_findFitting 14 = .ok (.bipush 40, 2) := by decide +kernel
theorem dX5_findFitting_16 : decode cX5_findFitting 16 = .ok (.if_icmp .ge 25, 3) := by decide +kernel
theorem dX5_findFitting_19 : decode cX5_findFitting 19 = .ok (.aload_n 0, 1) := by decide +kernel
theorem dX5_findFitting_20 : decode cX5_findFitting 20 = .ok (.getfield 15, 3) := by decide +kernel
theorem dX5_findFitting_23 : decode cX5_findFitting 23 = .ok (.iload 4, 2) := by decide +kernel
theorem dX5_findFitting_25 : decode cX5_findFitting 25 = .ok (.aload_n 0, 1) := by decide +kernel
theorem dX5_findFitting_26 : decode cX5_findFitting 26 = .ok (.iload 4, 2) := by decide +kernel
theorem dX5_findFitting_28 : decode cX5_findFitting 28 = .ok (.aload_n 1, 1) := by decide +kernel
theorem dX5_findFitting_29 : decode cX5_findFitting 29 = .ok (.iload_n 2, 1) := by decide +kernel
theorem dX5_findFitting_30 : decode cX5_findFitting 30 = .ok (.iload_n 3, 1) := by decide +kernel
theorem dX5_findFitting_31 : decode cX5_findFitting 31 = .ok (.invokevirtual 42, 3) := by decide +kernel
theorem dX5_findFitting_34 : decode cX5_findFitting 34 = .ok (.bastore, 1) := by decide +kernel
theorem dX5_findFitting_35 : decode cX5_findFitting 35 = .ok (.iinc 4 1, 3) := by decide +kernel
theorem dX5_findFitting_38 : decode cX5_findFitting 38 = .ok (.goto (-35), 3) := by decide +kernel
theorem dX5_findFitting_41 : decode cX5_findFitting 41 = .ok (.return_, 1) := by decide +kernel
set_option maxRecDepth 20000 in
theorem ggX5_fitsWith_X1_seenIn : GoodIn wsX5_fitsWith wsX1_seenIn := goodIn_r _ [6, 7, 8, 9, 10, 11, 12, 13, 14, 26, 27, 28, 29] (by decide +kernel) (by decide +kernel)
set_option maxRecDepth 20000 in
theorem gX5_fitsWith_X1_seenIn : GoodIn wsX5_fitsWith (wsV RX5 46 RX1 yX1_seenIn wsX1_seenIn) := goodIn_app (goodIn_of _ (by decide +kernel)) ggX5_fitsWith_X1_seenIn
set_option maxRecDepth 20000 in
theorem ggX5_fitsWith_X5_placeBy : GoodIn wsX5_fitsWith wsX5_placeBy := goodIn_r _ [19, 20, 21, 22, 23, 24, 25] (by decide +kernel) (by decide +kernel)
set_option maxRecDepth 20000 in
theorem gX5_fitsWith_X5_placeBy : GoodIn wsX5_fitsWith (wsV RX5 29 RX5 yX5_placeBy wsX5_placeBy) := goodIn_app (goodIn_of _ (by decide +kernel)) ggX5_fitsWith_X5_placeBy
theorem dX5_fitsWith_0 : decode cX5_fitsWith 0 = .ok (.iconst 0, 1) := by decide +kernel
theorem dX5_fitsWith_1 : decode cX5_fitsWith 1 = .ok (.istore 5, 2) := by decide +kernel
theorem dX5_fitsWith_3 : decode cX5_fitsWith 3 = .ok (.iload 5, 2) := by decide +kernel
theorem dX5_fitsWith_5 : decode cX5_fitsWith 5 = .ok (.iload_n 3, 1) := by decide +kernel
theorem dX5_fitsWith_6 : decode cX5_fitsWith 6 = .ok (.if_icmp .ge 67, 3) := by decide +kernel
theorem dX5_fitsWith_9 : decode cX5_fitsWith 9 = .ok (.aload_n 2, 1) := by decide +kernel
theorem dX5_fitsWith_10 : decode cX5_fitsWith 10 = .ok (.iload 5, 2) := by decide +kernel
theorem dX5_fitsWith_12 : decode cX5_fitsWith 12 = .ok (.invokevirtual 46, 3) := by decide +kernel
theorem dX5_fitsWith_15 : decode cX5_fitsWith 15 = .ok (.istore 6, 2) := by decide +kernel
theorem dX5_fitsWith_17 : decode cX5_fitsWith 17 = .ok (.iload 6, 2) := by decide +kernel
theorem dX5_fitsWith_19 : decode cX5_fitsWith 19 = .ok (.iload 4, 2) := by decide +kernel
theorem dX5_fitsWith_21 : decode cX5_fitsWith 21 = .ok (.ishr, 1) := by decide +kernel
theorem dX5_fitsWith_22 : decode cX5_fitsWith 22 = .ok (.iconst 1, 1) := by decide +kernel
theorem dX5_fitsWith_23 : decode cX5_fitsWith 23 = .ok (.iand, 1) := by decide +kernel
theorem dX5_fitsWith_24 : decode cX5_fitsWith 24 = .ok (.iconst 1, 1) := by decide +kernel
theorem dX5_fitsWith_25 : decode cX5_fitsWith 25 = .ok (.if_icmp .ne 7, 3) := by decide +kernel
theorem dX5_fitsWith_28 : decode cX5_fitsWith 28 = .ok (.iconst 1, 1) := by decide +kernel
theorem dX5_fitsWith_29 : decode cX5_fitsWith 29 = .ok (.goto 4, 3) := by decide +kernel
theorem dX5_fitsWith_32 : decode cX5_fitsWith 32 = .ok (.iconst 0, 1) := by decide +kernel
theorem dX5_fitsWith_33 : decode cX5_fitsWith 33 = .ok (.istore 7, 2) := by decide +kernel
theorem dX5_fitsWith_35 : decode cX5_fitsWith 35 = .ok (.iload 6, 2) := by decide +kernel
theorem dX5_fitsWith_37 : decode cX5_fitsWith 37 = .ok (.iconst (-1), 1) := by decide +kernel
theorem dX5_fitsWith_38 : decode cX5_fitsWith 38 = .ok (.if_icmp .eq 29, 3) := by decide +kernel
theorem dX5_fitsWith_41 : decode cX5_fitsWith 41 = .ok (.iload 7, 2) := by decide +kernel
theorem dX5_fitsWith_43 : decode cX5_fitsWith 43 = .ok (.aload_n 0, 1) := by decide +kernel
theorem dX5_fitsWith_44 : decode cX5_fitsWith 44 = .ok (.iload_n 1, 1) := by decide +kernel
theorem dX5_fitsWith_45 : decode cX5_fitsWith 45 = .ok (.iload 5, 2) := by decide +kernel
theorem dX5_fitsWith_47 : decode cX5_fitsWith 47 = .ok (.invokevirtual 29, 3) := by decide +kernel
theorem dX5_fitsWith_50 : decode cX5_fitsWith 50 = .ok (.aload_n 0, 1) := by decide +kernel
theorem dX5_fitsWith_51 : decode cX5_fitsWith 51 = .ok (.getfield 26, 3) := by decide +kernel
theorem dX5_fitsWith_54 : decode cX5_fitsWith 54 = .ok (.if_icmp .ge 7, 3) := by decide +kernel
theorem dX5_fitsWith_57 : decode cX5_fitsWith 57 = .ok (.iconst 1, 1) := by decide +kernel
theorem dX5_fitsWith_58 : decode cX5_fitsWith 58 = .ok (.goto 4, 3) := by decide +kernel
theorem dX5_fitsWith_61 : decode cX5_fitsWith 61 = .ok (.iconst 0, 1) := by decide +kernel
theorem dX5_fitsWith_62 : decode cX5_fitsWith 62 = .ok (.if_icmp .eq 5, 3) := by decide +kernel
theorem dX5_fitsWith_65 : decode cX5_fitsWith 65 = .ok (.iconst 0, 1) := by decide +kernel
theorem dX5_fitsWith_66 : decode cX5_fitsWith 66 = .ok (.ireturn, 1) := by decide +kernel
theorem dX5_fitsWith_67 : decode cX5_fitsWith 67 = .ok (.iinc 5 1, 3) := by decide +kernel
theorem dX5_fitsWith_70 : decode cX5_fitsWith 70 = .ok (.goto (-67), 3) := by decide +kernel
theorem dX5_fitsWith_73 : decode cX5_fitsWith 73 = .ok (.iconst 1, 1) := by decide +kernel
theorem dX5_fitsWith_74 : decode cX5_fitsWith 74 = .ok (.ireturn, 1) := by decide +kernel
theorem dX5_fittingPhases_0 : decode cX5_fittingPhases 0 = .ok (.iconst 0, 1) := by decide +kernel
theorem dX5_fittingPhases_1 : decode cX5_fittingPhases 1 = .ok (.istore_n 1, 1) := by decide +kernel
theorem dX5_fittingPhases_2 : decode cX5_fittingPhases 2 = .ok (.iconst 0, 1) := by decide +kernel
theorem dX5_fittingPhases_3 : decode cX5_fittingPhases 3 = .ok (.istore_n 2, 1) := by decide +kernel
theorem dX5_fittingPhases_4 : decode cX5_fittingPhases 4 = .ok (.iload_n 2, 1) := by decide +kernel
theorem dX5_fittingPhases_5 : decode cX5_fittingPhases 5 = .ok (.aload_n 0, 1) := by decide +kernel
theorem dX5_fittingPhases_6 : decode cX5_fittingPhases 6 = .ok (.getfield 23, 3) := by decide +kernel
theorem dX5_fittingPhases_9 : decode cX5_fittingPhases 9 = .ok (.if_icmp .ge 27, 3) := by decide +kernel
theorem dX5_fittingPhases_12 : decode cX5_fittingPhases 12 = .ok (.iload_n 2, 1) := by decide +kernel
theorem dX5_fittingPhases_13 : decode cX5_fittingPhases 13 = .ok (.bipush 40, 2) := by decide +kernel
theorem dX5_fittingPhases_15 : decode cX5_fittingPhases 15 = .ok (.if_icmp .ge 21, 3) := by decide +kernel
theorem dX5_fittingPhases_18 : decode cX5_fittingPhases 18 = .ok (.aload_n 0, 1) := by decide +kernel
theorem dX5_fittingPhases_19 : decode cX5_fittingPhases 19 = .ok (.getfield 15, 3) := by decide +kernel
theorem dX5_fittingPhases_22 : decode cX5_fittingPhases 22 = .ok (.iload_n 2, 1) := by decide +kernel
theorem dX5_fittingPhases_23 : decode cX5_fittingPhases 23 = .ok (.baload, 1) := by decide +kernel
theorem dX5_fittingPhases_24 : decode cX5_fittingPhases 24 = .ok (.ifCond .eq 6, 3) := by decide +kernel
theorem dX5_fittingPhases_27 : decode cX5_fittingPhases 27 = .ok (.iinc 1 1, 3) := by decide +kernel
theorem dX5_fittingPhases_30 : decode cX5_fittingPhases 30 = .ok (.iinc 2 1, 3) := by decide +kernel
theorem dX5_fittingPhases_33 : decode cX5_fittingPhases 33 = .ok (.goto (-29), 3) := by decide +kernel
theorem dX5_fittingPhases_36 : decode cX5_fittingPhases 36 = .ok (.iload_n 1, 1) := by decide +kernel
theorem dX5_fittingPhases_37 : decode cX5_fittingPhases 37 = .ok (.ireturn, 1) := by decide +kernel
theorem dX5_firstFittingPhase_0 : decode cX5_firstFittingPhase 0 = .ok (.iconst 0, 1) := by decide +kernel
theorem dX5_firstFittingPhase_1 : decode cX5_firstFittingPhase 1 = .ok (.istore_n 1, 1) := by decide +kernel
theorem dX5_firstFittingPhase_2 : decode cX5_firstFittingPhase 2 = .ok (.iload_n 1, 1) := by decide +kernel
theorem dX5_firstFittingPhase_3 : decode cX5_firstFittingPhase 3 = .ok (.aload_n 0, 1) := by decide +kernel
theorem dX5_firstFittingPhase_4 : decode cX5_firstFittingPhase 4 = .ok (.getfield 23, 3) := by decide +kernel
theorem dX5_firstFittingPhase_7 : decode cX5_firstFittingPhase 7 = .ok (.if_icmp .ge 26, 3) := by decide +kernel
theorem dX5_firstFittingPhase_10 : decode cX5_firstFittingPhase 10 = .ok (.iload_n 1, 1) := by decide +kernel
theorem dX5_firstFittingPhase_11 : decode cX5_firstFittingPhase 11 = .ok (.bipush 40, 2) := by decide +kernel
theorem dX5_firstFittingPhase_13 : decode cX5_firstFittingPhase 13 = .ok (.if_icmp .ge 20, 3) := by decide +kernel
theorem dX5_firstFittingPhase_16 : decode cX5_firstFittingPhase 16 = .ok (.aload_n 0, 1) := by decide +kernel
theorem dX5_firstFittingPhase_17 : decode cX5_firstFittingPhase 17 = .ok (.getfield 15, 3) := by decide +kernel
theorem dX5_firstFittingPhase_20 : decode cX5_firstFittingPhase 20 = .ok (.iload_n 1, 1) := by decide +kernel
theorem dX5_firstFittingPhase_21 : decode cX5_firstFittingPhase 21 = .ok (.baload, 1) := by decide +kernel
theorem dX5_firstFittingPhase_22 : decode cX5_firstFittingPhase 22 = .ok (.ifCond .eq 5, 3) := by decide +kernel
theorem dX5_firstFittingPhase_25 : decode cX5_firstFittingPhase 25 = .ok (.iload_n 1, 1) := by decide +kernel
theorem dX5_firstFittingPhase_26 : decode cX5_firstFittingPhase 26 = .ok (.ireturn, 1) := by decide +kernel
theorem dX5_firstFittingPhase_27 : decode cX5_firstFittingPhase 27 = .ok (.iinc 1 1, 3) := by decide +kernel
theorem dX5_firstFittingPhase_30 : decode cX5_firstFittingPhase 30 = .ok (.goto (-28), 3) := by decide +kernel
theorem dX5_firstFittingPhase_33 : decode cX5_firstFittingPhase 33 = .ok (.iconst (-1), 1) := by decide +kernel
theorem dX5_firstFittingPhase_34 : decode cX5_firstFittingPhase 34 = .ok (.ireturn, 1) := by decide +kernel
set_option maxRecDepth 20000 in
theorem ggX5_findLeftAtWorst_X5_fittingPhases : GoodIn wsX5_findLeftAtWorst wsX5_fittingPhases := goodIn_r _ [13, 1, 2, 18, 19, 20, 21, 22] (by decide +kernel) (by decide +kernel)
set_option maxRecDepth 20000 in
theorem gX5_findLeftAtWorst_X5_fittingPhases : GoodIn wsX5_findLeftAtWorst (wsV RX5 51 RX5 yX5_fittingPhases wsX5_fittingPhases) := goodIn_app (goodIn_of _ (by decide +kernel)) ggX5_findLeftAtWorst_X5_fittingPhases
set_option maxRecDepth 20000 in
theorem ggX5_findLeftAtWorst_X5_placeBy : GoodIn wsX5_findLeftAtWorst wsX5_placeBy := goodIn_r _ [17, 1, 18, 19, 20, 21, 22] (by decide +kernel) (by decide +kernel)
set_option maxRecDepth 20000 in
theorem gX5_findLeftAtWorst_X5_placeBy : GoodIn wsX5_findLeftAtWorst (wsV RX5 29 RX5 yX5_placeBy wsX5_placeBy) := goodIn_app (goodIn_of _ (by decide +kernel)) ggX5_findLeftAtWorst_X5_placeBy
theorem dX5_findLeftAtWorst_0 : decode cX5_findLeftAtWorst 0 = .ok (.aload_n 0, 1) := by decide +kernel
theorem dX5_findLeftAtWorst_1 : decode cX5_findLeftAtWorst 1 = .ok (.invokevirtual 51, 3) := by decide +kernel
theorem dX5_findLeftAtWorst_4 : decode cX5_findLeftAtWorst 4 = .ok (.istore_n 1, 1) := by decide +kernel
theorem dX5_findLeftAtWorst_5 : decode cX5_findLeftAtWorst 5 = .ok (.iconst 0, 1) := by decide +kernel
theorem dX5_findLeftAtWorst_6 : decode cX5_findLeftAtWorst 6 = .ok (.istore_n 2, 1) := by decide +kernel
theorem dX5_findLeftAtWorst_7 : decode cX5_findLeftAtWorst 7 = .ok (.iload_n 2, 1) := by decide +kernel
theorem dX5_findLeftAtWorst_8 : decode cX5_findLeftAtWorst 8 = .ok (.aload_n 0, 1) := by decide +kernel
theorem dX5_findLeftAtWorst_9 : decode cX5_findLeftAtWorst 9 = .ok (.getfield 23, 3) := by decide +kernel
theorem dX5_findLeftAtWorst_12 : decode cX5_findLeftAtWorst 12 = .ok (.if_icmp .ge 82, 3) := by decide +kernel
theorem dX5_findLeftAtWorst_15 : decode cX5_findLeftAtWorst 15 = .ok (.iload_n 2, 1) := by decide +kernel
theorem dX5_findLeftAtWorst_16 : decode cX5_findLeftAtWorst 16 = .ok (.bipush 40, 2) := by decide +kernel
theorem dX5_findLeftAtWorst_18 : decode cX5_findLeftAtWorst 18 = .ok (.if_icmp .ge 76, 3) := by decide +kernel
theorem dX5_findLeftAtWorst_21 : decode cX5_findLeftAtWorst 21 = .ok (.iconst 0, 1) := by decide +kernel
theorem dX5_findLeftAtWorst_22 : decode cX5_findLeftAtWorst 22 = .ok (.istore_n 3, 1) := by decide +kernel
theorem dX5_findLeftAtWorst_23 : decode cX5_findLeftAtWorst 23 = .ok (.iconst 0, 1) := by decide +kernel
theorem dX5_findLeftAtWorst_24 : decode cX5_findLeftAtWorst 24 = .ok (.istore 4, 2) := by decide +kernel
theorem dX5_findLeftAtWorst_26 : decode cX5_findLeftAtWorst 26 = .ok (.iload 4, 2) := by decide +kernel
theorem dX5_findLeftAtWorst_28 : decode cX5_findLeftAtWorst 28 = .ok (.aload_n 0, 1) := by decide +kernel
theorem dX5_findLeftAtWorst_29 : decode cX5_findLeftAtWorst 29 = .ok (.getfield 23, 3) := by decide +kernel
theorem dX5_findLeftAtWorst_32 : decode cX5_findLeftAtWorst 32 = .ok (.if_icmp .ge 43, 3) := by decide +kernel
theorem dX5_findLeftAtWorst_35 : decode cX5_findLeftAtWorst 35 = .ok (.iload 4, 2) := by decide +kernel
theorem dX5_findLeftAtWorst_37 : decode cX5_findLeftAtWorst 37 = .ok (.bipush 40, 2) := by decide +kernel
theorem dX5_findLeftAtWorst_39 : decode cX5_findLeftAtWorst 39 = .ok (.if_icmp .ge 36, 3) := by decide +kernel
theorem dX5_findLeftAtWorst_42 : decode cX5_findLeftAtWorst 42 = .ok (.aload_n 0, 1) := by decide +kernel
theorem dX5_findLeftAtWorst_43 : decode cX5_findLeftAtWorst 43 = .ok (.getfield 15, 3) := by decide +kernel
theorem dX5_findLeftAtWorst_46 : decode cX5_findLeftAtWorst 46 = .ok (.iload 4, 2) := by decide +kernel
theorem dX5_findLeftAtWorst_48 : decode cX5_findLeftAtWorst 48 = .ok (.baload, 1) := by decide +kernel
theorem dX5_findLeftAtWorst_49 : decode cX5_findLeftAtWorst 49 = .ok (.ifCond .eq 20, 3) := by decide +kernel
theorem dX5_findLeftAtWorst_52 : decode cX5_findLeftAtWorst 52 = .ok (.aload_n 0, 1) := by decide +kernel
theorem dX5_findLeftAtWorst_53 : decode cX5_findLeftAtWorst 53 = .ok (.iload 4, 2) := by decide +kernel
theorem dX5_findLeftAtWorst_55 : decode cX5_findLeftAtWorst 55 = .ok (.iload_n 2, 1) := by decide +kernel
theorem dX5_findLeftAtWorst_56 : decode cX5_findLeftAtWorst 56 = .ok (.invokevirtual 29, 3) := by decide +kernel
theorem dX5_findLeftAtWorst_59 : decode cX5_findLeftAtWorst 59 = .ok (.aload_n 0, 1) := by decide +kernel
theorem dX5_findLeftAtWorst_60 : decode cX5_findLeftAtWorst 60 = .ok (.getfield 26, 3) := by decide +kernel
theorem dX5_findLeftAtWorst_63 : decode cX5_findLeftAtWorst 63 = .ok (.if_icmp .ge 6, 3) := by decide +kernel
theorem dX5_findLeftAtWorst_66 : decode cX5_findLeftAtWorst 66 = .ok (.iinc 3 1, 3) := by decide +kernel
theorem dX5_findLeftAtWorst_69 : decode cX5_findLeftAtWorst 69 = .ok (.iinc 4 1, 3) := by decide +kernel
theorem dX5_findLeftAtWorst_72 : decode cX5_findLeftAtWorst 72 = .ok (.goto (-46), 3) := by decide +kernel
theorem dX5_findLeftAtWorst_75 : decode cX5_findLeftAtWorst 75 = .ok (.aload_n 0, 1) := by decide +kernel
theorem dX5_findLeftAtWorst_76 : decode cX5_findLeftAtWorst 76 = .ok (.getfield 19, 3) := by decide +kernel
theorem dX5_findLeftAtWorst_79 : decode cX5_findLeftAtWorst 79 = .ok (.iload_n 2, 1) := by decide +kernel
theorem dX5_findLeftAtWorst_80 : decode cX5_findLeftAtWorst 80 = .ok (.iload_n 3, 1) := by decide +kernel
theorem dX5_findLeftAtWorst_81 : decode cX5_findLeftAtWorst 81 = .ok (.iload_n 1, 1) := by decide +kernel
theorem dX5_findLeftAtWorst_82 : decode cX5_findLeftAtWorst 82 = .ok (.iload_n 3, 1) := by decide +kernel
theorem dX5_findLeftAtWorst_83 : decode cX5_findLeftAtWorst 83 = .ok (.isub, 1) := by decide +kernel
theorem dX5_findLeftAtWorst_84 : decode cX5_findLeftAtWorst 84 = .ok (.invokestatic 55, 3) := by decide +kernel
theorem dX5_findLeftAtWorst_87 : decode cX5_findLeftAtWorst 87 = .ok (.iastore, 1) := by decide +kernel
theorem dX5_findLeftAtWorst_88 : decode cX5_findLeftAtWorst 88 = .ok (.iinc 2 1, 3) := by decide +kernel
theorem dX5_findLeftAtWorst_91 : decode cX5_findLeftAtWorst 91 = .ok (.goto (-84), 3) := by decide +kernel
theorem dX5_findLeftAtWorst_94 : decode cX5_findLeftAtWorst 94 = .ok (.return_, 1) := by decide +kernel
set_option maxRecDepth 20000 in
theorem ggX5_leftAtWorst_X5_placeBy : GoodIn wsX5_leftAtWorst wsX5_placeBy := goodIn_r _ [6, 7, 8, 9, 10, 11, 12] (by decide +kernel) (by decide +kernel)
set_option maxRecDepth 20000 in
theorem gX5_leftAtWorst_X5_placeBy : GoodIn wsX5_leftAtWorst (wsV RX5 29 RX5 yX5_placeBy wsX5_placeBy) := goodIn_app (goodIn_of _ (by decide +kernel)) ggX5_leftAtWorst_X5_placeBy
theorem dX5_leftAtWorst_0 : decode cX5_leftAtWorst 0 = .ok (.aload_n 0, 1) := by decide +kernel
theorem dX5_leftAtWorst_1 : decode cX5_leftAtWorst 1 = .ok (.iconst 0, 1) := by decide +kernel
theorem dX5_leftAtWorst_2 : decode cX5_leftAtWorst 2 = .ok (.iload_n 1, 1) := by decide +kernel
theorem dX5_leftAtWorst_3 : decode cX5_leftAtWorst 3 = .ok (.invokevirtual 29, 3) := by decide +kernel
theorem dX5_leftAtWorst_6 : decode cX5_leftAtWorst 6 = .ok (.istore_n 2, 1) := by decide +kernel
theorem dX5_leftAtWorst_7 : decode cX5_leftAtWorst 7 = .ok (.iload_n 2, 1) := by decide +kernel
theorem dX5_leftAtWorst_8 : decode cX5_leftAtWorst 8 = .ok (.ifCond .lt 9, 3) := by decide +kernel
theorem dX5_leftAtWorst_11 : decode cX5_leftAtWorst 11 = .ok (.iload_n 2, 1) := by decide +kernel
theorem dX5_leftAtWorst_12 : decode cX5_leftAtWorst 12 = .ok (.bipush 40, 2) := by decide +kernel
theorem dX5_leftAtWorst_14 : decode cX5_leftAtWorst 14 = .ok (.if_icmp .lt 7, 3) := by decide +kernel
theorem dX5_leftAtWorst_17 : decode cX5_leftAtWorst 17 = .ok (.iconst 0, 1) := by decide +kernel
theorem dX5_leftAtWorst_18 : decode cX5_leftAtWorst 18 = .ok (.goto 9, 3) := by decide +kernel
theorem dX5_leftAtWorst_21 : decode cX5_leftAtWorst 21 = .ok (.aload_n 0, 1) := by decide +kernel
theorem dX5_leftAtWorst_22 : decode cX5_leftAtWorst 22 = .ok (.getfield 19, 3) := by decide +kernel
theorem dX5_leftAtWorst_25 : decode cX5_leftAtWorst 25 = .ok (.iload_n 2, 1) := by decide +kernel
theorem dX5_leftAtWorst_26 : decode cX5_leftAtWorst 26 = .ok (.iaload, 1) := by decide +kernel
theorem dX5_leftAtWorst_27 : decode cX5_leftAtWorst 27 = .ok (.ireturn, 1) := by decide +kernel
theorem dX6_init_0 : decode cX6_init 0 = .ok (.aload_n 0, 1) := by decide +kernel
theorem dX6_init_1 : decode cX6_init 1 = .ok (.invokespecial 3, 3) := by decide +kernel
theorem dX6_init_4 : decode cX6_init 4 = .ok (.aload_n 0, 1) := by decide +kernel
theorem dX6_init_5 : decode cX6_init 5 = .ok (.iconst 0, 1) := by decide +kernel
theorem dX6_init_6 : decode cX6_init 6 = .ok (.putfield 9, 3) := by decide +kernel
theorem dX6_init_9 : decode cX6_init 9 = .ok (.aload_n 0, 1) := by decide +kernel
theorem dX6_init_10 : decode cX6_init 10 = .ok (.iload_n 1, 1) := by decide +kernel
theorem dX6_init_11 : decode cX6_init 11 = .ok (.ifCond .ge 7, 3) := by decide +kernel
theorem dX6_init_14 : decode cX6_init 14 = .ok (.iconst 0, 1) := by decide +kernel
theorem dX6_init_15 : decode cX6_init 15 = .ok (.goto 4, 3) := by decide +kernel
theorem dX6_init_18 : decode cX6_init 18 = .ok (.iload_n 1, 1) := by decide +kernel
theorem dX6_init_19 : decode cX6_init 19 = .ok (.newarray .int, 2) := by decide +kernel
theorem dX6_init_21 : decode cX6_init 21 = .ok (.putfield 15, 3) := by decide +kernel
theorem dX6_init_24 : decode cX6_init 24 = .ok (.return_, 1) := by decide +kernel
theorem dX6_append_0 : decode cX6_append 0 = .ok (.aload_n 0, 1) := by decide +kernel
theorem dX6_append_1 : decode cX6_append 1 = .ok (.getfield 9, 3) := by decide +kernel
theorem dX6_append_4 : decode cX6_append 4 = .ok (.ifCond .lt 15, 3) := by decide +kernel
theorem dX6_append_7 : decode cX6_append 7 = .ok (.aload_n 0, 1) := by decide +kernel
theorem dX6_append_8 : decode cX6_append 8 = .ok (.getfield 9, 3) := by decide +kernel
theorem dX6_append_11 : decode cX6_append 11 = .ok (.aload_n 0, 1) := by decide +kernel
theorem dX6_append_12 : decode cX6_append 12 = .ok (.getfield 15, 3) := by decide +kernel
theorem dX6_append_15 : decode cX6_append 15 = .ok (.arraylength, 1) := by decide +kernel
theorem dX6_append_16 : decode cX6_append 16 = .ok (.if_icmp .lt 5, 3) := by decide +kernel
theorem dX6_append_19 : decode cX6_append 19 = .ok (.iconst 0, 1) := by decide +kernel
theorem dX6_append_20 : decode cX6_append 20 = .ok (.ireturn, 1) := by decide +kernel
theorem dX6_append_21 : decode cX6_append 21 = .ok (.aload_n 0, 1) := by decide +kernel
theorem dX6_append_22 : decode cX6_append 22 = .ok (.getfield 15, 3) := by decide +kernel
theorem dX6_append_25 : decode cX6_append 25 = .ok (.aload_n 0, 1) := by decide +kernel
theorem dX6_append_26 : decode cX6_append 26 = .ok (.getfield 9, 3) := by decide +kernel
theorem dX6_append_29 : decode cX6_append 29 = .ok (.iload_n 1, 1) := by decide +kernel
theorem dX6_append_30 : decode cX6_append 30 = .ok (.iastore, 1) := by decide +kernel
theorem dX6_append_31 : decode cX6_append 31 = .ok (.aload_n 0, 1) := by decide +kernel
theorem dX6_append_32 : decode cX6_append 32 = .ok (.dup, 1) := by decide +kernel
theorem dX6_append_33 : decode cX6_append 33 = .ok (.getfield 9, 3) := by decide +kernel
theorem dX6_append_36 : decode cX6_append 36 = .ok (.iconst 1, 1) := by decide +kernel
theorem dX6_append_37 : decode cX6_append 37 = .ok (.iadd, 1) := by decide +kernel
theorem dX6_append_38 : decode cX6_append 38 = .ok (.putfield 9, 3) := by decide +kernel
theorem dX6_append_41 : decode cX6_append 41 = .ok (.iconst 1, 1) := by decide +kernel
theorem dX6_append_42 : decode cX6_append 42 = .ok (.ireturn, 1) := by decide +kernel
theorem dX6_byteAt_0 : decode cX6_byteAt 0 = .ok (.iload_n 1, 1) := by decide +kernel
theorem dX6_byteAt_1 : decode cX6_byteAt 1 = .ok (.ifCond .lt 20, 3) := by decide +kernel
theorem dX6_byteAt_4 : decode cX6_byteAt 4 = .ok (.iload_n 1, 1) := by decide +kernel
theorem dX6_byteAt_5 : decode cX6_byteAt 5 = .ok (.aload_n 0, 1) := by decide +kernel
theorem dX6_byteAt_6 : decode cX6_byteAt 6 = .ok (.getfield 9, 3) := by decide +kernel
theorem dX6_byteAt_9 : decode cX6_byteAt 9 = .ok (.if_icmp .ge 12, 3) := by decide +kernel
theorem dX6_byteAt_12 : decode cX6_byteAt 12 = .ok (.iload_n 1, 1) := by decide +kernel
theorem dX6_byteAt_13 : decode cX6_byteAt 13 = .ok (.aload_n 0, 1) := by decide +kernel
theorem dX6_byteAt_14 : decode cX6_byteAt 14 = .ok (.getfield 15, 3) := by decide +kernel
theorem dX6_byteAt_17 : decode cX6_byteAt 17 = .ok (.arraylength, 1) := by decide +kernel
theorem dX6_byteAt_18 : decode cX6_byteAt 18 = .ok (.if_icmp .lt 7, 3) := by decide +kernel
theorem dX6_byteAt_21 : decode cX6_byteAt 21 = .ok (.iconst (-1), 1) := by decide +kernel
theorem dX6_byteAt_22 : decode cX6_byteAt 22 = .ok (.goto 9, 3) := by decide +kernel
theorem dX6_byteAt_25 : decode cX6_byteAt 25 = .ok (.aload_n 0, 1) := by decide +kernel
theorem dX6_byteAt_26 : decode cX6_byteAt 26 = .ok (.getfield 15, 3) := by decide +kernel
theorem dX6_byteAt_29 : decode cX6_byteAt 29 = .ok (.iload_n 1, 1) := by decide +kernel
theorem dX6_byteAt_30 : decode cX6_byteAt 30 = .ok (.iaload, 1) := by decide +kernel
theorem dX6_byteAt_31 : decode cX6_byteAt 31 = .ok (.ireturn, 1) := by decide +kernel
set_option maxRecDepth 20000 in
theorem ggX7_init_X5_init : GoodIn wsX7_init wsX5_init := goodIn_r _ [36, 37, 2, 3, 38, 39, 40, 21, 41, 42, 43, 75, 76, 77, 78, 79] (by decide +kernel) (by decide +kernel)
set_option maxRecDepth 20000 in
theorem gX7_init_X5_init : GoodIn wsX7_init (wsX5_init) := ggX7_init_X5_init
set_option maxRecDepth 20000 in
theorem ggX7_init_X4_init : GoodIn wsX7_init wsX4_init := goodIn_r _ [46, 47, 2, 3, 48, 49, 91, 92] (by decide +kernel) (by decide +kernel)
set_option maxRecDepth 20000 in
theorem gX7_init_X4_init : GoodIn wsX7_init (wsX4_init) := ggX7_init_X4_init
set_option maxRecDepth 20000 in
theorem ggX7_init_X1_init : GoodIn wsX7_init wsX1_init := goodIn_r _ [52, 53, 54, 55, 56, 57, 2, 3, 58, 21, 59, 95, 96, 93, 94] (by decide +kernel) (by decide +kernel)
set_option maxRecDepth 20000 in
theorem gX7_init_X1_init : GoodIn wsX7_init (wsX1_init) := ggX7_init_X1_init
set_option maxRecDepth 20000 in
theorem ggX7_init_X0_init : GoodIn wsX7_init wsX0_init := goodIn_r _ [62, 63, 54, 55, 56, 57, 2, 3, 58, 21, 59, 95, 96, 93, 94] (by decide +kernel) (by decide +kernel)
set_option maxRecDepth 20000 in
theorem gX7_init_X0_init : GoodIn wsX7_init (wsX0_init) := ggX7_init_X0_init
set_option maxRecDepth 20000 in
theorem ggX7_init_X2_init : GoodIn wsX7_init wsX2_init := goodIn_r _ [65, 66, 2, 3, 67, 21, 68, 97, 98] (by decide +kernel) (by decide +kernel)
set_option maxRecDepth 20000 in
theorem gX7_init_X2_init_n70 : GoodIn wsX7_init (wsX2_init) := ggX7_init_X2_init
set_option maxRecDepth 20000 in
theorem ggX7_init_X3_init : GoodIn wsX7_init wsX3_init := goodIn_r _ [70, 71, 2, 3, 72, 73, 21, 74, 99, 100, 101] (by decide +kernel) (by decide +kernel)
set_option maxRecDepth 20000 in
theorem gX7_init_X3_init_n71 : GoodIn wsX7_init (wsX3_init) := ggX7_init_X3_init
theorem dX7_init_0 : decode cX7_init 0 = .ok (.aload_n 0, 1) := by decide +kernel
theorem dX7_init_1 : decode cX7_init 1 = .ok (.invokespecial 1, 3) := by decide +kernel
theorem dX7_init_4 : decode cX7_init 4 = .ok (.aload_n 0, 1) := by decide +kernel
theorem dX7_init_5 : decode cX7_init 5 = .ok (.new 7, 3) := by decide +kernel
theorem dX7_init_8 : decode cX7_init 8 = .ok (.dup, 1) := by decide +kernel
theorem dX7_init_9 : decode cX7_init 9 = .ok (.bipush 8, 2) := by decide +kernel
theorem dX7_init_11 : decode cX7_init 11 = .ok (.iconst 5, 1) := by decide +kernel
theorem dX7_init_12 : decode cX7_init 12 = .ok (.invokespecial 9, 3) := by decide +kernel
theorem dX7_init_15 : decode cX7_init 15 = .ok (.putfield 12, 3) := by decide +kernel
theorem dX7_init_18 : decode cX7_init 18 = .ok (.aload_n 0, 1) := by decide +kernel
theorem dX7_init_19 : decode cX7_init 19 = .ok (.new 7, 3) := by decide +kernel
theorem dX7_init_22 : decode cX7_init 22 = .ok (.dup, 1) := by decide +kernel
theorem dX7_init_23 : decode cX7_init 23 = .ok (.bipush 13, 2) := by decide +kernel
theorem dX7_init_25 : decode cX7_init 25 = .ok (.bipush 6, 2) := by decide +kernel
theorem dX7_init_27 : decode cX7_init 27 = .ok (.invokespecial 9, 3) := by decide +kernel
theorem dX7_init_30 : decode cX7_init 30 = .ok (.putfield 18, 3) := by decide +kernel
theorem dX7_init_33 : decode cX7_init 33 = .ok (.aload_n 0, 1) := by decide +kernel
theorem dX7_init_34 : decode cX7_init 34 = .ok (.new 21, 3) := by decide +kernel
theorem dX7_init_37 : decode cX7_init 37 = .ok (.dup, 1) := by decide +kernel
theorem dX7_init_38 : decode cX7_init 38 = .ok (.aload_n 0, 1) := by decide +kernel
theorem dX7_init_39 : decode cX7_init 39 = .ok (.getfield 12, 3) := by decide +kernel
theorem dX7_init_42 : decode cX7_init 42 = .ok (.aload_n 0, 1) := by decide +kernel
theorem dX7_init_43 : decode cX7_init 43 = .ok (.getfield 18, 3) := by decide +kernel
theorem dX7_init_46 : decode cX7_init 46 = .ok (.invokespecial 23, 3) := by decide +kernel
theorem dX7_init_49 : decode cX7_init 49 = .ok (.putfield 26, 3) := by decide +kernel
theorem dX7_init_52 : decode cX7_init 52 = .ok (.aload_n 0, 1) := by decide +kernel
theorem dX7_init_53 : decode cX7_init 53 = .ok (.new 30, 3) := by decide +kernel
theorem dX7_init_56 : decode cX7_init 56 = .ok (.dup, 1) := by decide +kernel
theorem dX7_init_57 : decode cX7_init 57 = .ok (.invokespecial 32, 3) := by decide +kernel
theorem dX7_init_60 : decode cX7_init 60 = .ok (.putfield 33, 3) := by decide +kernel
theorem dX7_init_63 : decode cX7_init 63 = .ok (.aload_n 0, 1) := by decide +kernel
theorem dX7_init_64 : decode cX7_init 64 = .ok (.new 37, 3) := by decide +kernel
theorem dX7_init_67 : decode cX7_init 67 = .ok (.dup, 1) := by decide +kernel
theorem dX7_init_68 : decode cX7_init 68 = .ok (.invokespecial 39, 3) := by decide +kernel
theorem dX7_init_71 : decode cX7_init 71 = .ok (.putfield 40, 3) := by decide +kernel
theorem dX7_init_74 : decode cX7_init 74 = .ok (.aload_n 0, 1) := by decide +kernel
theorem dX7_init_75 : decode cX7_init 75 = .ok (.bipush 6, 2) := by decide +kernel
theorem dX7_init_77 : decode cX7_init 77 = .ok (.newarray .int, 2) := by decide +kernel
theorem dX7_init_79 : decode cX7_init 79 = .ok (.putfield 44, 3) := by decide +kernel
theorem dX7_init_82 : decode cX7_init 82 = .ok (.aload_n 0, 1) := by decide +kernel
theorem dX7_init_83 : decode cX7_init 83 = .ok (.bipush 6, 2) := by decide +kernel
theorem dX7_init_85 : decode cX7_init 85 = .ok (.newarray .int, 2) := by decide +kernel
theorem dX7_init_87 : decode cX7_init 87 = .ok (.putfield 48, 3) := by decide +kernel
theorem dX7_init_90 : decode cX7_init 90 = .ok (.aload_n 0, 1) := by decide +kernel
theorem dX7_init_91 : decode cX7_init 91 = .ok (.iconst 4, 1) := by decide +kernel
theorem dX7_init_92 : decode cX7_init 92 = .ok (.anewarray 51, 3) := by decide +kernel
theorem dX7_init_95 : decode cX7_init 95 = .ok (.putfield 53, 3) := by decide +kernel
theorem dX7_init_98 : decode cX7_init 98 = .ok (.aload_n 0, 1) := by decide +kernel
theorem dX7_init_99 : decode cX7_init 99 = .ok (.iconst 4, 1) := by decide +kernel
theorem dX7_init_100 : decode cX7_init 100 = .ok (.anewarray 57, 3) := by decide +kernel
theorem dX7_init_103 : decode cX7_init 103 = .ok (.putfield 59, 3) := by decide +kernel
theorem dX7_init_106 : decode cX7_init 106 = .ok (.aload_n 0, 1) := by decide +kernel
theorem dX7_init_107 : decode cX7_init 107 = .ok (.bipush 61, 2) := by decide +kernel
theorem dX7_init_109 : decode cX7_init 109 = .ok (.newarray .int, 2) := by decide +kernel
theorem dX7_init_111 : decode cX7_init 111 = .ok (.putfield 63, 3) := by decide +kernel
theorem dX7_init_114 : decode cX7_init 114 = .ok (.aload_n 0, 1) := by decide +kernel
theorem dX7_init_115 : decode cX7_init 115 = .ok (.iconst 0, 1) := by decide +kernel
theorem dX7_init_116 : decode cX7_init 116 = .ok (.putfield 66, 3) := by decide +kernel
theorem dX7_init_119 : decode cX7_init 119 = .ok (.iconst 0, 1) := by decide +kernel
theorem dX7_init_120 : decode cX7_init 120 = .ok (.istore_n 1, 1) := by decide +kernel
theorem dX7_init_121 : decode cX7_init 121 = .ok (.iload_n 1, 1) := by decide +kernel
theorem dX7_init_122 : decode cX7_init 122 = .ok (.bipush 6, 2) := by decide +kernel
theorem dX7_init_124 : decode cX7_init 124 = .ok (.if_icmp .ge 25, 3) := by decide +kernel
theorem dX7_init_127 : decode cX7_init 127 = .ok (.aload_n 0, 1) := by decide +kernel
theorem dX7_init_128 : decode cX7_init 128 = .ok (.getfield 44, 3) := by decide +kernel
theorem dX7_init_131 : decode cX7_init 131 = .ok (.iload_n 1, 1) := by decide +kernel
theorem dX7_init_132 : decode cX7_init 132 = .ok (.bipush 15, 2) := by decide +kernel
theorem dX7_init_134 : decode cX7_init 134 = .ok (.iastore, 1) := by decide +kernel
theorem dX7_init_135 : decode cX7_init 135 = .ok (.aload_n 0, 1) := by decide +kernel
theorem dX7_init_136 : decode cX7_init 136 = .ok (.getfield 48, 3) := by decide +kernel
theorem dX7_init_139 : decode cX7_init 139 = .ok (.iload_n 1, 1) := by decide +kernel
theorem dX7_init_140 : decode cX7_init 140 = .ok (.bipush 10, 2) := by decide +kernel
theorem dX7_init_142 : decode cX7_init 142 = .ok (.iastore, 1) := by decide +kernel
theorem dX7_init_143 : decode cX7_init 143 = .ok (.iinc 1 1, 3) := by decide +kernel
theorem dX7_init_146 : decode cX7_init 146 = .ok (.goto (-25), 3) := by decide +kernel
theorem dX7_init_149 : decode cX7_init 149 = .ok (.iconst 0, 1) := by decide +kernel
theorem dX7_init_150 : decode cX7_init 150 = .ok (.istore_n 1, 1) := by decide +kernel
theorem dX7_init_151 : decode cX7_init 151 = .ok (.iload_n 1, 1) := by decide +kernel
theorem dX7_init_152 : decode cX7_init 152 = .ok (.iconst 4, 1) := by decide +kernel
theorem dX7_init_153 : decode cX7_init 153 = .ok (.if_icmp .ge 22, 3) := by decide +kernel
theorem dX7_init_156 : decode cX7_init 156 = .ok (.aload_n 0, 1) := by decide +kernel
theorem dX7_init_157 : decode cX7_init 157 = .ok (.getfield 53, 3) := by decide +kernel
theorem dX7_init_160 : decode cX7_init 160 = .ok (.iload_n 1, 1) := by decide +kernel
theorem dX7_init_161 : decode cX7_init 161 = .ok (.new 51, 3) := by decide +kernel
theorem dX7_init_164 : decode cX7_init 164 = .ok (.dup, 1) := by decide +kernel
theorem dX7_init_165 : decode cX7_init 165 = .ok (.invokespecial 70, 3) := by decide +kernel
theorem dX7_init_168 : decode cX7_init 168 = .ok (.aastore, 1) := by decide +kernel
theorem dX7_init_169 : decode cX7_init 169 = .ok (.iinc 1 1, 3) := by decide +kernel
theorem dX7_init_172 : decode cX7_init 172 = .ok (.goto (-21), 3) := by decide +kernel
theorem dX7_init_175 : decode cX7_init 175 = .ok (.iconst 0, 1) := by decide +kernel
theorem dX7_init_176 : decode cX7_init 176 = .ok (.istore_n 1, 1) := by decide +kernel
theorem dX7_init_177 : decode cX7_init 177 = .ok (.iload_n 1, 1) := by decide +kernel
theorem dX7_init_178 : decode cX7_init 178 = .ok (.iconst 4, 1) := by decide +kernel
theorem dX7_init_179 : decode cX7_init 179 = .ok (.if_icmp .ge 22, 3) := by decide +kernel
theorem dX7_init_182 : decode cX7_init 182 = .ok (.aload_n 0, 1) := by decide +kernel
theorem dX7_init_183 : decode cX7_init 183 = .ok (.getfield 59, 3) := by decide +kernel
theorem dX7_init_186 : decode cX7_init 186 = .ok (.iload_n 1, 1) := by decide +kernel
theorem dX7_init_187 : decode cX7_init 187 = .ok (.new 57, 3) := by decide +kernel
theorem dX7_init_190 : decode cX7_init 190 = .ok (.dup, 1) := by decide +kernel
theorem dX7_init_191 : decode cX7_init 191 = .ok (.invokespecial 71, 3) := by decide +kernel
theorem dX7_init_194 : decode cX7_init 194 = .ok (.aastore, 1) := by decide +kernel
theorem dX7_init_195 : decode cX7_init 195 = .ok (.iinc 1 1, 3) := by decide +kernel
theorem dX7_init_198 : decode cX7_init 198 = .ok (.goto (-21), 3) := by decide +kernel
theorem dX7_init_201 : decode cX7_init 201 = .ok (.return_, 1) := by decide +kernel
set_option maxRecDepth 20000 in
theorem ggX7_sun_X7_sunOf : GoodIn wsX7_sun wsX7_sunOf := goodIn_r _ [6, 7, 8, 41, 42, 43, 44, 45, 46, 47, 48, 49, 50, 51] (by decide +kernel) (by decide +kernel)
set_option maxRecDepth 20000 in
theorem gX7_sun_X7_sunOf : GoodIn wsX7_sun (wsV RX7 72 RX7 yX7_sunOf wsX7_sunOf) := goodIn_app (goodIn_of _ (by decide +kernel)) ggX7_sun_X7_sunOf
set_option maxRecDepth 20000 in
theorem ggX7_sun_X7_outside : GoodIn wsX7_sun wsX7_outside := goodIn_r _ [11] (by decide +kernel) (by decide +kernel)
set_option maxRecDepth 20000 in
theorem gX7_sun_X7_outside : GoodIn wsX7_sun (va_wsS RX7 76 yX7_outside wsX7_outside) := goodIn_app (goodIn_of _ (by decide +kernel)) ggX7_sun_X7_outside
set_option maxRecDepth 20000 in
theorem ggX7_sun_X5_changeTurn : GoodIn wsX7_sun wsX5_changeTurn := goodIn_r _ [16, 17, 18, 19, 20, 21, 22, 23, 24, 25, 26, 15, 27, 36, 37, 38, 39, 40] (by decide +kernel) (by decide +kernel)
set_option maxRecDepth 20000 in
theorem gX7_sun_X5_changeTurn : GoodIn wsX7_sun (wsV RX7 80 RX5 yX5_changeTurn wsX5_changeTurn) := goodIn_app (goodIn_of _ (by decide +kernel)) ggX7_sun_X5_changeTurn
set_option maxRecDepth 20000 in
theorem ggX7_sun_X5_changePhase : GoodIn wsX7_sun wsX5_changePhase := goodIn_r _ [31, 18, 36, 37, 38, 39, 40] (by decide +kernel) (by decide +kernel)
set_option maxRecDepth 20000 in
theorem gX7_sun_X5_changePhase : GoodIn wsX7_sun (wsV RX7 87 RX5 yX5_changePhase wsX5_changePhase) := goodIn_app (goodIn_of _ (by decide +kernel)) ggX7_sun_X5_changePhase
set_option maxRecDepth 20000 in
theorem ggX7_sun_X5_changeUp : GoodIn wsX7_sun wsX5_changeUp := goodIn_r _ [35, 19, 36, 37, 38, 39, 40] (by decide +kernel) (by decide +kernel)
set_option maxRecDepth 20000 in
theorem gX7_sun_X5_changeUp : GoodIn wsX7_sun (wsV RX7 90 RX5 yX5_changeUp wsX5_changeUp) := goodIn_app (goodIn_of _ (by decide +kernel)) ggX7_sun_X5_changeUp
theorem dX7_sun_0 : decode cX7_sun 0 = .ok (.aload_n 0, 1) := by decide +kernel
theorem dX7_sun_1 : decode cX7_sun 1 = .ok (.iload_n 1, 1) := by decide +kernel
theorem dX7_sun_2 : decode cX7_sun 2 = .ok (.invokevirtual 72, 3) := by decide +kernel
theorem dX7_sun_5 : decode cX7_sun 5 = .ok (.astore 4, 2) := by decide +kernel
theorem dX7_sun_7 : decode cX7_sun 7 = .ok (.aload 4, 2) := by decide +kernel
theorem dX7_sun_9 : decode cX7_sun 9 = .ok (.ifnonnull 6, 3) := by decide +kernel
theorem dX7_sun_12 : decode cX7_sun 12 = .ok (.bipush (-2), 2) := by decide +kernel
theorem dX7_sun_14 : decode cX7_sun 14 = .ok (.ireturn, 1) := by decide +kernel
theorem dX7_sun_15 : decode cX7_sun 15 = .ok (.iload_n 2, 1) := by decide +kernel
theorem dX7_sun_16 : decode cX7_sun 16 = .ok (.tableswitch 102 0 2 #[28, 50, 77], 28) := by decide +kernel
theorem dX7_sun_44 : decode cX7_sun 44 = .ok (.iload_n 3, 1) := by decide +kernel
theorem dX7_sun_45 : decode cX7_sun 45 = .ok (.iconst 2, 1) := by decide +kernel
theorem dX7_sun_46 : decode cX7_sun 46 = .ok (.bipush 40, 2) := by decide +kernel
theorem dX7_sun_48 : decode cX7_sun 48 = .ok (.invokestatic 76, 3) := by decide +kernel
theorem dX7_sun_51 : decode cX7_sun 51 = .ok (.ifCond .eq 8, 3) := by decide +kernel
theorem dX7_sun_54 : decode cX7_sun 54 = .ok (.bipush (-2), 2) := by decide +kernel
theorem dX7_sun_56 : decode cX7_sun 56 = .ok (.goto 9, 3) := by decide +kernel
theorem dX7_sun_59 : decode cX7_sun 59 = .ok (.aload 4, 2) := by decide +kernel
theorem dX7_sun_61 : decode cX7_sun 61 = .ok (.iload_n 3, 1) := by decide +kernel
theorem dX7_sun_62 : decode cX7_sun 62 = .ok (.invokevirtual 80, 3) := by decide +kernel
theorem dX7_sun_65 : decode cX7_sun 65 = .ok (.ireturn, 1) := by decide +kernel
theorem dX7_sun_66 : decode cX7_sun 66 = .ok (.iload_n 3, 1) := by decide +kernel
theorem dX7_sun_67 : decode cX7_sun 67 = .ok (.iconst 0, 1) := by decide +kernel
theorem dX7_sun_68 : decode cX7_sun 68 = .ok (.aload 4, 2) := by decide +kernel
theorem dX7_sun_70 : decode cX7_sun 70 = .ok (.getfield 84, 3) := by decide +kernel
theorem dX7_sun_73 : decode cX7_sun 73 = .ok (.iconst 1, 1) := by decide +kernel
theorem dX7_sun_74 : decode cX7_sun 74 = .ok (.isub, 1) := by decide +kernel
theorem dX7_sun_75 : decode cX7_sun 75 = .ok (.invokestatic 76, 3) := by decide +kernel
theorem dX7_sun_78 : decode cX7_sun 78 = .ok (.ifCond .eq 8, 3) := by decide +kernel
theorem dX7_sun_81 : decode cX7_sun 81 = .ok (.bipush (-2), 2) := by decide +kernel
theorem dX7_sun_83 : decode cX7_sun 83 = .ok (.goto 9, 3) := by decide +kernel
theorem dX7_sun_86 : decode cX7_sun 86 = .ok (.aload 4, 2) := by decide +kernel
theorem dX7_sun_88 : decode cX7_sun 88 = .ok (.iload_n 3, 1) := by decide +kernel
theorem dX7_sun_89 : decode cX7_sun 89 = .ok (.invokevirtual 87, 3) := by decide +kernel
theorem dX7_sun_92 : decode cX7_sun 92 = .ok (.ireturn, 1) := by decide +kernel
theorem dX7_sun_93 : decode cX7_sun 93 = .ok (.iload_n 3, 1) := by decide +kernel
theorem dX7_sun_94 : decode cX7_sun 94 = .ok (.iconst 0, 1) := by decide +kernel
theorem dX7_sun_95 : decode cX7_sun 95 = .ok (.aload 4, 2) := by decide +kernel
theorem dX7_sun_97 : decode cX7_sun 97 = .ok (.getfield 84, 3) := by decide +kernel
theorem dX7_sun_100 : decode cX7_sun 100 = .ok (.invokestatic 76, 3) := by decide +kernel
theorem dX7_sun_103 : decode cX7_sun 103 = .ok (.ifCond .eq 8, 3) := by decide +kernel
theorem dX7_sun_106 : decode cX7_sun 106 = .ok (.bipush (-2), 2) := by decide +kernel
theorem dX7_sun_108 : decode cX7_sun 108 = .ok (.goto 9, 3) := by decide +kernel
theorem dX7_sun_111 : decode cX7_sun 111 = .ok (.aload 4, 2) := by decide +kernel
theorem dX7_sun_113 : decode cX7_sun 113 = .ok (.iload_n 3, 1) := by decide +kernel
theorem dX7_sun_114 : decode cX7_sun 114 = .ok (.invokevirtual 90, 3) := by decide +kernel
theorem dX7_sun_117 : decode cX7_sun 117 = .ok (.ireturn, 1) := by decide +kernel
theorem dX7_sun_118 : decode cX7_sun 118 = .ok (.bipush (-2), 2) := by decide +kernel
theorem dX7_sun_120 : decode cX7_sun 120 = .ok (.ireturn, 1) := by decide +kernel
set_option maxRecDepth 20000 in
theorem ggX7_type_X7_textOf : GoodIn wsX7_type wsX7_textOf := goodIn_r _ [6, 7, 8, 25, 26, 27, 28, 29, 30, 31, 32, 33, 34, 35] (by decide +kernel) (by decide +kernel)
set_option maxRecDepth 20000 in
theorem gX7_type_X7_textOf : GoodIn wsX7_type (wsV RX7 93 RX7 yX7_textOf wsX7_textOf) := goodIn_app (goodIn_of _ (by decide +kernel)) ggX7_type_X7_textOf
set_option maxRecDepth 20000 in
theorem ggX7_type_X7_outside : GoodIn wsX7_type wsX7_outside := goodIn_r _ [11] (by decide +kernel) (by decide +kernel)
set_option maxRecDepth 20000 in
theorem gX7_type_X7_outside : GoodIn wsX7_type (va_wsS RX7 76 yX7_outside wsX7_outside) := goodIn_app (goodIn_of _ (by decide +kernel)) ggX7_type_X7_outside
set_option maxRecDepth 20000 in
theorem ggX7_type_X6_append : GoodIn wsX7_type wsX6_append := goodIn_r _ [17, 18, 19, 21, 22, 23, 24] (by decide +kernel) (by decide +kernel)
set_option maxRecDepth 20000 in
theorem gX7_type_X6_append_u97X0 : GoodIn wsX7_type (va_wsU RX7 97 RX0 "SecondSunrise$Text" ⟨"SecondSunrise$Text", "append", "(I)Z"⟩ yX6_append wsX6_append) := goodIn_app (goodIn_of _ (by decide +kernel)) ggX7_type_X6_append
set_option maxRecDepth 20000 in
theorem gX7_type_X6_append_u97X1 : GoodIn wsX7_type (va_wsU RX7 97 RX1 "SecondSunrise$Text" ⟨"SecondSunrise$Text", "append", "(I)Z"⟩ yX6_append wsX6_append) := goodIn_app (goodIn_of _ (by decide +kernel)) ggX7_type_X6_append
theorem dX7_type_0 : decode cX7_type 0 = .ok (.aload_n 0, 1) := by decide +kernel
theorem dX7_type_1 : decode cX7_type 1 = .ok (.iload_n 1, 1) := by decide +kernel
theorem dX7_type_2 : decode cX7_type 2 = .ok (.invokevirtual 93, 3) := by decide +kernel
theorem dX7_type_5 : decode cX7_type 5 = .ok (.astore_n 3, 1) := by decide +kernel
theorem dX7_type_6 : decode cX7_type 6 = .ok (.aload_n 3, 1) := by decide +kernel
theorem dX7_type_7 : decode cX7_type 7 = .ok (.ifnull 14, 3) := by decide +kernel
theorem dX7_type_10 : decode cX7_type 10 = .ok (.iload_n 2, 1) := by decide +kernel
theorem dX7_type_11 : decode cX7_type 11 = .ok (.iconst 0, 1) := by decide +kernel
theorem dX7_type_12 : decode cX7_type 12 = .ok (.sipush 255, 3) := by decide +kernel
theorem dX7_type_15 : decode cX7_type 15 = .ok (.invokestatic 76, 3) := by decide +kernel
theorem dX7_type_18 : decode cX7_type 18 = .ok (.ifCond .eq 6, 3) := by decide +kernel
theorem dX7_type_21 : decode cX7_type 21 = .ok (.bipush (-2), 2) := by decide +kernel
theorem dX7_type_23 : decode cX7_type 23 = .ok (.ireturn, 1) := by decide +kernel
theorem dX7_type_24 : decode cX7_type 24 = .ok (.aload_n 3, 1) := by decide +kernel
theorem dX7_type_25 : decode cX7_type 25 = .ok (.iload_n 2, 1) := by decide +kernel
theorem dX7_type_26 : decode cX7_type 26 = .ok (.invokevirtual 97, 3) := by decide +kernel
theorem dX7_type_29 : decode cX7_type 29 = .ok (.ifCond .eq 10, 3) := by decide +kernel
theorem dX7_type_32 : decode cX7_type 32 = .ok (.aload_n 3, 1) := by decide +kernel
theorem dX7_type_33 : decode cX7_type 33 = .ok (.getfield 103, 3) := by decide +kernel
theorem dX7_type_36 : decode cX7_type 36 = .ok (.goto 5, 3) := by decide +kernel
theorem dX7_type_39 : decode cX7_type 39 = .ok (.bipush (-4), 2) := by decide +kernel
theorem dX7_type_41 : decode cX7_type 41 = .ok (.ireturn, 1) := by decide +kernel
set_option maxRecDepth 20000 in
theorem ggX7_wipe_X7_textOf : GoodIn wsX7_wipe wsX7_textOf := goodIn_r _ [6, 7, 8, 13, 14, 15, 16, 17, 18, 19, 20, 21, 22, 23] (by decide +kernel) (by decide +kernel)
set_option maxRecDepth 20000 in
theorem gX7_wipe_X7_textOf : GoodIn wsX7_wipe (wsV RX7 93 RX7 yX7_textOf wsX7_textOf) := goodIn_app (goodIn_of _ (by decide +kernel)) ggX7_wipe_X7_textOf
theorem dX7_wipe_0 : decode cX7_wipe 0 = .ok (.aload_n 0, 1) := by decide +kernel
theorem dX7_wipe_1 : decode cX7_wipe 1 = .ok (.iload_n 1, 1) := by decide +kernel
theorem dX7_wipe_2 : decode cX7_wipe 2 = .ok (.invokevirtual 93, 3) := by decide +kernel
theorem dX7_wipe_5 : decode cX7_wipe 5 = .ok (.astore_n 2, 1) := by decide +kernel
theorem dX7_wipe_6 : decode cX7_wipe 6 = .ok (.aload_n 2, 1) := by decide +kernel
theorem dX7_wipe_7 : decode cX7_wipe 7 = .ok (.ifnonnull 6, 3) := by decide +kernel
theorem dX7_wipe_10 : decode cX7_wipe 10 = .ok (.bipush (-2), 2) := by decide +kernel
theorem dX7_wipe_12 : decode cX7_wipe 12 = .ok (.ireturn, 1) := by decide +kernel
theorem dX7_wipe_13 : decode cX7_wipe 13 = .ok (.aload_n 2, 1) := by decide +kernel
theorem dX7_wipe_14 : decode cX7_wipe 14 = .ok (.getfield 103, 3) := by decide +kernel
theorem dX7_wipe_17 : decode cX7_wipe 17 = .ok (.istore_n 3, 1) := by decide +kernel
theorem dX7_wipe_18 : decode cX7_wipe 18 = .ok (.aload_n 2, 1) := by decide +kernel
theorem dX7_wipe_19 : decode cX7_wipe 19 = .ok (.iconst 0, 1) := by decide +kernel
theorem dX7_wipe_20 : decode cX7_wipe 20 = .ok (.putfield 103, 3) := by decide +kernel
theorem dX7_wipe_23 : decode cX7_wipe 23 = .ok (.iload_n 3, 1) := by decide +kernel
theorem dX7_wipe_24 : decode cX7_wipe 24 = .ok (.ireturn, 1) := by decide +kernel
set_option maxRecDepth 20000 in
theorem ggX7_undo_X7_textOf : GoodIn wsX7_undo wsX7_textOf := goodIn_r _ [6, 7, 8, 13, 14, 15, 16, 17, 18, 19, 20, 21, 22, 23] (by decide +kernel) (by decide +kernel)
set_option maxRecDepth 20000 in
theorem gX7_undo_X7_textOf : GoodIn wsX7_undo (wsV RX7 93 RX7 yX7_textOf wsX7_textOf) := goodIn_app (goodIn_of _ (by decide +kernel)) ggX7_undo_X7_textOf
theorem dX7_undo_0 : decode cX7_undo 0 = .ok (.aload_n 0, 1) := by decide +kernel
theorem dX7_undo_1 : decode cX7_undo 1 = .ok (.iload_n 1, 1) := by decide +kernel
theorem dX7_undo_2 : decode cX7_undo 2 = .ok (.invokevirtual 93, 3) := by decide +kernel
theorem dX7_undo_5 : decode cX7_undo 5 = .ok (.astore_n 2, 1) := by decide +kernel
theorem dX7_undo_6 : decode cX7_undo 6 = .ok (.aload_n 2, 1) := by decide +kernel
theorem dX7_undo_7 : decode cX7_undo 7 = .ok (.ifnonnull 6, 3) := by decide +kernel
theorem dX7_undo_10 : decode cX7_undo 10 = .ok (.bipush (-2), 2) := by decide +kernel
theorem dX7_undo_12 : decode cX7_undo 12 = .ok (.ireturn, 1) := by decide +kernel
theorem dX7_undo_13 : decode cX7_undo 13 = .ok (.aload_n 2, 1) := by decide +kernel
theorem dX7_undo_14 : decode cX7_undo 14 = .ok (.getfield 103, 3) := by decide +kernel
theorem dX7_undo_17 : decode cX7_undo 17 = .ok (.ifCond .ne 6, 3) := by decide +kernel
theorem dX7_undo_20 : decode cX7_undo 20 = .ok (.bipush (-3), 2) := by decide +kernel
theorem dX7_undo_22 : decode cX7_undo 22 = .ok (.ireturn, 1) := by decide +kernel
theorem dX7_undo_23 : decode cX7_undo 23 = .ok (.aload_n 2, 1) := by decide +kernel
theorem dX7_undo_24 : decode cX7_undo 24 = .ok (.dup, 1) := by decide +kernel
theorem dX7_undo_25 : decode cX7_undo 25 = .ok (.getfield 103, 3) := by decide +kernel
theorem dX7_undo_28 : decode cX7_undo 28 = .ok (.iconst 1, 1) := by decide +kernel
theorem dX7_undo_29 : decode cX7_undo 29 = .ok (.isub, 1) := by decide +kernel
theorem dX7_undo_30 : decode cX7_undo 30 = .ok (.putfield 103, 3) := by decide +kernel
theorem dX7_undo_33 : decode cX7_undo 33 = .ok (.aload_n 2, 1) := by decide +kernel
theorem dX7_undo_34 : decode cX7_undo 34 = .ok (.getfield 103, 3) := by decide +kernel
theorem dX7_undo_37 : decode cX7_undo 37 = .ok (.ireturn, 1) := by decide +kernel
set_option maxRecDepth 20000 in
theorem ggX7_fault_X7_textOf : GoodIn wsX7_fault wsX7_textOf := goodIn_r _ [5, 6, 7, 44, 45, 46, 47, 48, 49, 50, 51, 52, 53, 54] (by decide +kernel) (by decide +kernel)
set_option maxRecDepth 20000 in
theorem gX7_fault_X7_textOf : GoodIn wsX7_fault (wsV RX7 93 RX7 yX7_textOf wsX7_textOf) := goodIn_app (goodIn_of _ (by decide +kernel)) ggX7_fault_X7_textOf
set_option maxRecDepth 20000 in
theorem ggX7_fault_X0_firstFault : GoodIn wsX7_fault wsX0_firstFault := goodIn_r _ [13, 14, 15, 16, 17, 18, 12, 19, 20, 21, 22, 23, 24, 25, 26, 27, 28, 29, 30, 55, 56, 57, 58] (by decide +kernel) (by decide +kernel)
set_option maxRecDepth 20000 in
theorem gX7_fault_X0_firstFault_u106X0 : GoodIn wsX7_fault (va_wsU RX7 106 RX0 "SecondSunrise$Text" ⟨"SecondSunrise$Text", "firstFault", "()I"⟩ yX0_firstFault wsX0_firstFault) := goodIn_app (goodIn_of _ (by decide +kernel)) ggX7_fault_X0_firstFault
set_option maxRecDepth 20000 in
theorem ggX7_fault_X1_firstFault : GoodIn wsX7_fault wsX1_firstFault := goodIn_r _ [34, 35, 36, 37, 38, 39, 23, 24, 25, 26, 27, 40, 41, 42, 33, 43, 55, 56, 57, 58] (by decide +kernel) (by decide +kernel)
set_option maxRecDepth 20000 in
theorem gX7_fault_X1_firstFault_u106X1 : GoodIn wsX7_fault (va_wsU RX7 106 RX1 "SecondSunrise$Text" ⟨"SecondSunrise$Text", "firstFault", "()I"⟩ yX1_firstFault wsX1_firstFault) := goodIn_app (goodIn_of _ (by decide +kernel)) ggX7_fault_X1_firstFault
theorem dX7_fault_0 : decode cX7_fault 0 = .ok (.aload_n 0, 1) := by decide +kernel
theorem dX7_fault_1 : decode cX7_fault 1 = .ok (.iload_n 1, 1) := by decide +kernel
theorem dX7_fault_2 : decode cX7_fault 2 = .ok (.invokevirtual 93, 3) := by decide +kernel
theorem dX7_fault_5 : decode cX7_fault 5 = .ok (.astore_n 2, 1) := by decide +kernel
theorem dX7_fault_6 : decode cX7_fault 6 = .ok (.aload_n 2, 1) := by decide +kernel
theorem dX7_fault_7 : decode cX7_fault 7 = .ok (.ifnonnull 8, 3) := by decide +kernel
theorem dX7_fault_10 : decode cX7_fault 10 = .ok (.bipush (-2), 2) := by decide +kernel
theorem dX7_fault_12 : decode cX7_fault 12 = .ok (.goto 7, 3) := by decide +kernel
theorem dX7_fault_15 : decode cX7_fault 15 = .ok (.aload_n 2, 1) := by decide +kernel
theorem dX7_fault_16 : decode cX7_fault 16 = .ok (.invokevirtual 106, 3) := by decide +kernel
theorem dX7_fault_19 : decode cX7_fault 19 = .ok (.ireturn, 1) := by decide +kernel
set_option maxRecDepth 20000 in
theorem ggX7_light_X7_noHour : GoodIn wsX7_light wsX7_noHour := goodIn_r _ [5, 6, 7, 8, 4, 9] (by decide +kernel) (by decide +kernel)
set_option maxRecDepth 20000 in
theorem gX7_light_X7_noHour : GoodIn wsX7_light (va_wsS RX7 110 yX7_noHour wsX7_noHour) := goodIn_app (goodIn_of _ (by decide +kernel)) ggX7_light_X7_noHour
set_option maxRecDepth 20000 in
theorem ggX7_light_X4_lightIn : GoodIn wsX7_light wsX4_lightIn := goodIn_r _ [14, 15, 16, 17, 18, 19, 20, 21, 22, 23, 24, 36, 37, 38, 39, 40, 41, 42] (by decide +kernel) (by decide +kernel)
set_option maxRecDepth 20000 in
theorem gX7_light_X4_lightIn : GoodIn wsX7_light (wsV RX7 113 RX4 yX4_lightIn wsX4_lightIn) := goodIn_app (goodIn_of _ (by decide +kernel)) ggX7_light_X4_lightIn
theorem dX7_light_0 : decode cX7_light 0 = .ok (.iload_n 1, 1) := by decide +kernel
theorem dX7_light_1 : decode cX7_light 1 = .ok (.invokestatic 110, 3) := by decide +kernel
theorem dX7_light_4 : decode cX7_light 4 = .ok (.ifCond .eq 8, 3) := by decide +kernel
theorem dX7_light_7 : decode cX7_light 7 = .ok (.bipush (-2), 2) := by decide +kernel
theorem dX7_light_9 : decode cX7_light 9 = .ok (.goto 11, 3) := by decide +kernel
theorem dX7_light_12 : decode cX7_light 12 = .ok (.aload_n 0, 1) := by decide +kernel
theorem dX7_light_13 : decode cX7_light 13 = .ok (.getfield 26, 3) := by decide +kernel
theorem dX7_light_16 : decode cX7_light 16 = .ok (.iload_n 1, 1) := by decide +kernel
theorem dX7_light_17 : decode cX7_light 17 = .ok (.invokevirtual 113, 3) := by decide +kernel
theorem dX7_light_20 : decode cX7_light 20 = .ok (.ireturn, 1) := by decide +kernel
set_option maxRecDepth 20000 in
theorem ggX7_place_X7_sunOf : GoodIn wsX7_place wsX7_sunOf := goodIn_r _ [5, 6, 7, 22, 23, 24, 25, 26, 27, 28, 29, 30, 31, 32] (by decide +kernel) (by decide +kernel)
set_option maxRecDepth 20000 in
theorem gX7_place_X7_sunOf : GoodIn wsX7_place (wsV RX7 72 RX7 yX7_sunOf wsX7_sunOf) := goodIn_app (goodIn_of _ (by decide +kernel)) ggX7_place_X7_sunOf
set_option maxRecDepth 20000 in
theorem ggX7_place_X7_noHour : GoodIn wsX7_place wsX7_noHour := goodIn_r _ [10, 11, 12, 13, 4, 14] (by decide +kernel) (by decide +kernel)
set_option maxRecDepth 20000 in
theorem gX7_place_X7_noHour : GoodIn wsX7_place (va_wsS RX7 110 yX7_noHour wsX7_noHour) := goodIn_app (goodIn_of _ (by decide +kernel)) ggX7_place_X7_noHour
set_option maxRecDepth 20000 in
theorem ggX7_place_X5_placeIn : GoodIn wsX7_place wsX5_placeIn := goodIn_r _ [19, 20, 21, 33, 34, 35, 36, 37] (by decide +kernel) (by decide +kernel)
set_option maxRecDepth 20000 in
theorem gX7_place_X5_placeIn : GoodIn wsX7_place (wsV RX7 116 RX5 yX5_placeIn wsX5_placeIn) := goodIn_app (goodIn_of _ (by decide +kernel)) ggX7_place_X5_placeIn
theorem dX7_place_0 : decode cX7_place 0 = .ok (.aload_n 0, 1) := by decide +kernel
theorem dX7_place_1 : decode cX7_place 1 = .ok (.iload_n 1, 1) := by decide +kernel
theorem dX7_place_2 : decode cX7_place 2 = .ok (.invokevirtual 72, 3) := by decide +kernel
theorem dX7_place_5 : decode cX7_place 5 = .ok (.astore_n 3, 1) := by decide +kernel
theorem dX7_place_6 : decode cX7_place 6 = .ok (.aload_n 3, 1) := by decide +kernel
theorem dX7_place_7 : decode cX7_place 7 = .ok (.ifnull 10, 3) := by decide +kernel
theorem dX7_place_10 : decode cX7_place 10 = .ok (.iload_n 2, 1) := by decide +kernel
theorem dX7_place_11 : decode cX7_place 11 = .ok (.invokestatic 110, 3) := by decide +kernel
theorem dX7_place_14 : decode cX7_place 14 = .ok (.ifCond .eq 8, 3) := by decide +kernel
theorem dX7_place_17 : decode cX7_place 17 = .ok (.bipush (-2), 2) := by decide +kernel
theorem dX7_place_19 : decode cX7_place 19 = .ok (.goto 8, 3) := by decide +kernel
theorem dX7_place_22 : decode cX7_place 22 = .ok (.aload_n 3, 1) := by decide +kernel
theorem dX7_place_23 : decode cX7_place 23 = .ok (.iload_n 2, 1) := by decide +kernel
theorem dX7_place_24 : decode cX7_place 24 = .ok (.invokevirtual 116, 3) := by decide +kernel
theorem dX7_place_27 : decode cX7_place 27 = .ok (.ireturn, 1) := by decide +kernel
set_option maxRecDepth 20000 in
theorem ggX7_round_X4_hoursOfRound : GoodIn wsX7_round wsX4_hoursOfRound := goodIn_r _ [6, 7, 8, 9, 21, 22, 23, 24, 25, 26, 27] (by decide +kernel) (by decide +kernel)
set_option maxRecDepth 20000 in
theorem gX7_round_X4_hoursOfRound : GoodIn wsX7_round (wsV RX7 119 RX4 yX4_hoursOfRound wsX4_hoursOfRound) := goodIn_app (goodIn_of _ (by decide +kernel)) ggX7_round_X4_hoursOfRound
theorem dX7_round_0 : decode cX7_round 0 = .ok (.aload_n 0, 1) := by decide +kernel
theorem dX7_round_1 : decode cX7_round 1 = .ok (.getfield 26, 3) := by decide +kernel
theorem dX7_round_4 : decode cX7_round 4 = .ok (.invokevirtual 119, 3) := by decide +kernel
theorem dX7_round_7 : decode cX7_round 7 = .ok (.ireturn, 1) := by decide +kernel
set_option maxRecDepth 20000 in
theorem ggX7_next_X7_noHour : GoodIn wsX7_next wsX7_noHour := goodIn_r _ [5, 6, 7, 8, 4, 9] (by decide +kernel) (by decide +kernel)
set_option maxRecDepth 20000 in
theorem gX7_next_X7_noHour : GoodIn wsX7_next (va_wsS RX7 110 yX7_noHour wsX7_noHour) := goodIn_app (goodIn_of _ (by decide +kernel)) ggX7_next_X7_noHour
set_option maxRecDepth 20000 in
theorem ggX7_next_X7_noLight : GoodIn wsX7_next wsX7_noLight := goodIn_r _ [12, 7, 8, 4, 9] (by decide +kernel) (by decide +kernel)
set_option maxRecDepth 20000 in
theorem gX7_next_X7_noLight : GoodIn wsX7_next (va_wsS RX7 122 yX7_noLight wsX7_noLight) := goodIn_app (goodIn_of _ (by decide +kernel)) ggX7_next_X7_noLight
set_option maxRecDepth 20000 in
theorem ggX7_next_X4_firstWith : GoodIn wsX7_next wsX4_firstWith := goodIn_r _ [17, 18, 19, 20, 16, 21, 22, 23, 24, 25, 26, 27, 28, 29, 30, 31, 32, 33, 34, 35, 36, 48, 49, 50, 51, 52, 53, 54] (by decide +kernel) (by decide +kernel)
set_option maxRecDepth 20000 in
theorem gX7_next_X4_firstWith : GoodIn wsX7_next (wsV RX7 125 RX4 yX4_firstWith wsX4_firstWith) := goodIn_app (goodIn_of _ (by decide +kernel)) ggX7_next_X4_firstWith
theorem dX7_next_0 : decode cX7_next 0 = .ok (.iload_n 1, 1) := by decide +kernel
theorem dX7_next_1 : decode cX7_next 1 = .ok (.invokestatic 110, 3) := by decide +kernel
theorem dX7_next_4 : decode cX7_next 4 = .ok (.ifCond .ne 10, 3) := by decide +kernel
theorem dX7_next_7 : decode cX7_next 7 = .ok (.iload_n 2, 1) := by decide +kernel
theorem dX7_next_8 : decode cX7_next 8 = .ok (.invokestatic 122, 3) := by decide +kernel
theorem dX7_next_11 : decode cX7_next 11 = .ok (.ifCond .eq 8, 3) := by decide +kernel
theorem dX7_next_14 : decode cX7_next 14 = .ok (.bipush (-2), 2) := by decide +kernel
theorem dX7_next_16 : decode cX7_next 16 = .ok (.goto 12, 3) := by decide +kernel
theorem dX7_next_19 : decode cX7_next 19 = .ok (.aload_n 0, 1) := by decide +kernel
theorem dX7_next_20 : decode cX7_next 20 = .ok (.getfield 26, 3) := by decide +kernel
theorem dX7_next_23 : decode cX7_next 23 = .ok (.iload_n 1, 1) := by decide +kernel
theorem dX7_next_24 : decode cX7_next 24 = .ok (.iload_n 2, 1) := by decide +kernel
theorem dX7_next_25 : decode cX7_next 25 = .ok (.invokevirtual 125, 3) := by decide +kernel
theorem dX7_next_28 : decode cX7_next 28 = .ok (.ireturn, 1) := by decide +kernel
set_option maxRecDepth 20000 in
theorem ggX7_lasts_X7_noHour : GoodIn wsX7_lasts wsX7_noHour := goodIn_r _ [5, 6, 7, 8, 4, 9] (by decide +kernel) (by decide +kernel)
set_option maxRecDepth 20000 in
theorem gX7_lasts_X7_noHour : GoodIn wsX7_lasts (va_wsS RX7 110 yX7_noHour wsX7_noHour) := goodIn_app (goodIn_of _ (by decide +kernel)) ggX7_lasts_X7_noHour
set_option maxRecDepth 20000 in
theorem ggX7_lasts_X4_unchangedFrom : GoodIn wsX7_lasts wsX4_unchangedFrom := goodIn_r _ [14, 15, 16, 17, 13, 18, 19, 20, 21, 22, 23, 24, 25, 26, 27, 28, 29, 30, 31, 32, 33, 45, 46, 47, 48, 49, 50, 51] (by decide +kernel) (by decide +kernel)
set_option maxRecDepth 20000 in
theorem gX7_lasts_X4_unchangedFrom : GoodIn wsX7_lasts (wsV RX7 129 RX4 yX4_unchangedFrom wsX4_unchangedFrom) := goodIn_app (goodIn_of _ (by decide +kernel)) ggX7_lasts_X4_unchangedFrom
theorem dX7_lasts_0 : decode cX7_lasts 0 = .ok (.iload_n 1, 1) := by decide +kernel
theorem dX7_lasts_1 : decode cX7_lasts 1 = .ok (.invokestatic 110, 3) := by decide +kernel
theorem dX7_lasts_4 : decode cX7_lasts 4 = .ok (.ifCond .eq 8, 3) := by decide +kernel
theorem dX7_lasts_7 : decode cX7_lasts 7 = .ok (.bipush (-2), 2) := by decide +kernel
theorem dX7_lasts_9 : decode cX7_lasts 9 = .ok (.goto 11, 3) := by decide +kernel
theorem dX7_lasts_12 : decode cX7_lasts 12 = .ok (.aload_n 0, 1) := by decide +kernel
theorem dX7_lasts_13 : decode cX7_lasts 13 = .ok (.getfield 26, 3) := by decide +kernel
theorem dX7_lasts_16 : decode cX7_lasts 16 = .ok (.iload_n 1, 1) := by decide +kernel
theorem dX7_lasts_17 : decode cX7_lasts 17 = .ok (.invokevirtual 129, 3) := by decide +kernel
theorem dX7_lasts_20 : decode cX7_lasts 20 = .ok (.ireturn, 1) := by decide +kernel
set_option maxRecDepth 20000 in
theorem ggX7_spells_X7_noLight : GoodIn wsX7_spells wsX7_noLight := goodIn_r _ [5, 6, 7, 4, 8] (by decide +kernel) (by decide +kernel)
set_option maxRecDepth 20000 in
theorem gX7_spells_X7_noLight : GoodIn wsX7_spells (va_wsS RX7 122 yX7_noLight wsX7_noLight) := goodIn_app (goodIn_of _ (by decide +kernel)) ggX7_spells_X7_noLight
set_option maxRecDepth 20000 in
theorem ggX7_spells_X4_hoursWith : GoodIn wsX7_spells wsX4_hoursWith := goodIn_r _ [13, 14, 15, 16, 12, 17, 18, 19, 20, 21, 22, 23, 24, 25, 26, 27, 28, 29, 30, 31, 32, 59, 60, 61, 62, 63, 64, 65] (by decide +kernel) (by decide +kernel)
set_option maxRecDepth 20000 in
theorem gX7_spells_X4_hoursWith : GoodIn wsX7_spells (wsV RX7 132 RX4 yX4_hoursWith wsX4_hoursWith) := goodIn_app (goodIn_of _ (by decide +kernel)) ggX7_spells_X4_hoursWith
set_option maxRecDepth 20000 in
theorem ggX7_spells_X4_rowsOf : GoodIn wsX7_spells wsX4_rowsOf := goodIn_r _ [36, 14, 15, 16, 12, 17, 18, 19, 20, 21, 22, 23, 24, 25, 26, 27, 28, 29, 30, 31, 32, 59, 60, 61, 62, 63, 64, 65] (by decide +kernel) (by decide +kernel)
set_option maxRecDepth 20000 in
theorem gX7_spells_X4_rowsOf : GoodIn wsX7_spells (wsV RX7 135 RX4 yX4_rowsOf wsX4_rowsOf) := goodIn_app (goodIn_of _ (by decide +kernel)) ggX7_spells_X4_rowsOf
set_option maxRecDepth 20000 in
theorem ggX7_spells_X4_longestRowOf : GoodIn wsX7_spells wsX4_longestRowOf := goodIn_r _ [40, 41, 42, 43, 44, 45, 46, 47, 14, 15, 16, 12, 17, 18, 19, 20, 21, 22, 23, 24, 25, 26, 27, 28, 29, 30, 31, 32, 59, 60, 61, 62, 63, 64, 65] (by decide +kernel) (by decide +kernel)
set_option maxRecDepth 20000 in
theorem gX7_spells_X4_longestRowOf : GoodIn wsX7_spells (wsV RX7 138 RX4 yX4_longestRowOf wsX4_longestRowOf) := goodIn_app (goodIn_of _ (by decide +kernel)) ggX7_spells_X4_longestRowOf
theorem dX7_spells_0 : decode cX7_spells 0 = .ok (.iload_n 1, 1) := by decide +kernel
theorem dX7_spells_1 : decode cX7_spells 1 = .ok (.invokestatic 122, 3) := by decide +kernel
theorem dX7_spells_4 : decode cX7_spells 4 = .ok (.ifCond .eq 6, 3) := by decide +kernel
theorem dX7_spells_7 : decode cX7_spells 7 = .ok (.bipush (-2), 2) := by decide +kernel
theorem dX7_spells_9 : decode cX7_spells 9 = .ok (.ireturn, 1) := by decide +kernel
theorem dX7_spells_10 : decode cX7_spells 10 = .ok (.iload_n 2, 1) := by decide +kernel
theorem dX7_spells_11 : decode cX7_spells 11 = .ok (.tableswitch 52 0 2 #[25, 34, 43], 25) := by decide +kernel
theorem dX7_spells_36 : decode cX7_spells 36 = .ok (.aload_n 0, 1) := by decide +kernel
theorem dX7_spells_37 : decode cX7_spells 37 = .ok (.getfield 26, 3) := by decide +kernel
theorem dX7_spells_40 : decode cX7_spells 40 = .ok (.iload_n 1, 1) := by decide +kernel
theorem dX7_spells_41 : decode cX7_spells 41 = .ok (.invokevirtual 132, 3) := by decide +kernel
theorem dX7_spells_44 : decode cX7_spells 44 = .ok (.ireturn, 1) := by decide +kernel
theorem dX7_spells_45 : decode cX7_spells 45 = .ok (.aload_n 0, 1) := by decide +kernel
theorem dX7_spells_46 : decode cX7_spells 46 = .ok (.getfield 26, 3) := by decide +kernel
theorem dX7_spells_49 : decode cX7_spells 49 = .ok (.iload_n 1, 1) := by decide +kernel
theorem dX7_spells_50 : decode cX7_spells 50 = .ok (.invokevirtual 135, 3) := by decide +kernel
theorem dX7_spells_53 : decode cX7_spells 53 = .ok (.ireturn, 1) := by decide +kernel
theorem dX7_spells_54 : decode cX7_spells 54 = .ok (.aload_n 0, 1) := by decide +kernel
theorem dX7_spells_55 : decode cX7_spells 55 = .ok (.getfield 26, 3) := by decide +kernel
theorem dX7_spells_58 : decode cX7_spells 58 = .ok (.iload_n 1, 1) := by decide +kernel
theorem dX7_spells_59 : decode cX7_spells 59 = .ok (.invokevirtual 138, 3) := by decide +kernel
theorem dX7_spells_62 : decode cX7_spells 62 = .ok (.ireturn, 1) := by decide +kernel
theorem dX7_spells_63 : decode cX7_spells 63 = .ok (.bipush (-2), 2) := by decide +kernel
theorem dX7_spells_65 : decode cX7_spells 65 = .ok (.ireturn, 1) := by decide +kernel
set_option maxRecDepth 20000 in
theorem ggX7_without_X7_sunOf : GoodIn wsX7_without wsX7_sunOf := goodIn_r _ [8, 9, 10, 24, 25, 26, 27, 28, 29, 30, 31, 32, 33, 34] (by decide +kernel) (by decide +kernel)
set_option maxRecDepth 20000 in
theorem gX7_without_X7_sunOf : GoodIn wsX7_without (wsV RX7 72 RX7 yX7_sunOf wsX7_sunOf) := goodIn_app (goodIn_of _ (by decide +kernel)) ggX7_without_X7_sunOf
set_option maxRecDepth 20000 in
theorem ggX7_without_X4_hoursOfRound : GoodIn wsX7_without wsX4_hoursOfRound := goodIn_r _ [15, 16, 17, 18, 35, 36, 19, 20, 21, 22, 23] (by decide +kernel) (by decide +kernel)
set_option maxRecDepth 20000 in
theorem gX7_without_X4_hoursOfRound : GoodIn wsX7_without (wsV RX7 119 RX4 yX4_hoursOfRound wsX4_hoursOfRound) := goodIn_app (goodIn_of _ (by decide +kernel)) ggX7_without_X4_hoursOfRound
theorem dX7_without_0 : decode cX7_without 0 = .ok (.aload_n 0, 1) := by decide +kernel
theorem dX7_without_1 : decode cX7_without 1 = .ok (.iload_n 1, 1) := by decide +kernel
theorem dX7_without_2 : decode cX7_without 2 = .ok (.invokevirtual 72, 3) := by decide +kernel
theorem dX7_without_5 : decode cX7_without 5 = .ok (.astore_n 2, 1) := by decide +kernel
theorem dX7_without_6 : decode cX7_without 6 = .ok (.aload_n 2, 1) := by decide +kernel
theorem dX7_without_7 : decode cX7_without 7 = .ok (.ifnonnull 6, 3) := by decide +kernel
theorem dX7_without_10 : decode cX7_without 10 = .ok (.bipush (-2), 2) := by decide +kernel
theorem dX7_without_12 : decode cX7_without 12 = .ok (.ireturn, 1) := by decide +kernel
theorem dX7_without_13 : decode cX7_without 13 = .ok (.aload_n 2, 1) := by decide +kernel
theorem dX7_without_14 : decode cX7_without 14 = .ok (.getfield 141, 3) := by decide +kernel
theorem dX7_without_17 : decode cX7_without 17 = .ok (.ifCond .ne 13, 3) := by decide +kernel
theorem dX7_without_20 : decode cX7_without 20 = .ok (.aload_n 0, 1) := by decide +kernel
theorem dX7_without_21 : decode cX7_without 21 = .ok (.getfield 26, 3) := by decide +kernel
theorem dX7_without_24 : decode cX7_without 24 = .ok (.invokevirtual 119, 3) := by decide +kernel
theorem dX7_without_27 : decode cX7_without 27 = .ok (.goto 12, 3) := by decide +kernel
theorem dX7_without_30 : decode cX7_without 30 = .ok (.aload_n 2, 1) := by decide +kernel
theorem dX7_without_31 : decode cX7_without 31 = .ok (.getfield 84, 3) := by decide +kernel
theorem dX7_without_34 : decode cX7_without 34 = .ok (.aload_n 2, 1) := by decide +kernel
theorem dX7_without_35 : decode cX7_without 35 = .ok (.getfield 141, 3) := by decide +kernel
theorem dX7_without_38 : decode cX7_without 38 = .ok (.isub, 1) := by decide +kernel
theorem dX7_without_39 : decode cX7_without 39 = .ok (.ireturn, 1) := by decide +kernel
set_option maxRecDepth 20000 in
theorem ggX7_month_X0_months : GoodIn wsX7_month wsX0_months := goodIn_r _ [6, 7, 8, 9, 10, 11, 5, 12, 13, 14, 15, 16, 17, 18, 19, 20, 21, 22, 23, 24, 25, 26, 27, 47, 48, 49, 50] (by decide +kernel) (by decide +kernel)
set_option maxRecDepth 20000 in
theorem gX7_month_X0_months : GoodIn wsX7_month (wsV RX7 144 RX0 yX0_months wsX0_months) := goodIn_app (goodIn_of _ (by decide +kernel)) ggX7_month_X0_months
set_option maxRecDepth 20000 in
theorem ggX7_month_X7_outside : GoodIn wsX7_month wsX7_outside := goodIn_r _ [31] (by decide +kernel) (by decide +kernel)
set_option maxRecDepth 20000 in
theorem gX7_month_X7_outside : GoodIn wsX7_month (va_wsS RX7 76 yX7_outside wsX7_outside) := goodIn_app (goodIn_of _ (by decide +kernel)) ggX7_month_X7_outside
set_option maxRecDepth 20000 in
theorem ggX7_month_X0_lengthOf : GoodIn wsX7_month wsX0_lengthOf := goodIn_r _ [35, 17, 18, 19, 20, 21, 22, 23, 24, 47, 48, 49, 50] (by decide +kernel) (by decide +kernel)
set_option maxRecDepth 20000 in
theorem gX7_month_X0_lengthOf : GoodIn wsX7_month (wsV RX7 147 RX0 yX0_lengthOf wsX0_lengthOf) := goodIn_app (goodIn_of _ (by decide +kernel)) ggX7_month_X0_lengthOf
theorem dX7_month_0 : decode cX7_month 0 = .ok (.iload_n 1, 1) := by decide +kernel
theorem dX7_month_1 : decode cX7_month 1 = .ok (.iconst 0, 1) := by decide +kernel
theorem dX7_month_2 : decode cX7_month 2 = .ok (.aload_n 0, 1) := by decide +kernel
theorem dX7_month_3 : decode cX7_month 3 = .ok (.getfield 40, 3) := by decide +kernel
theorem dX7_month_6 : decode cX7_month 6 = .ok (.invokevirtual 144, 3) := by decide +kernel
theorem dX7_month_9 : decode cX7_month 9 = .ok (.iconst 1, 1) := by decide +kernel
theorem dX7_month_10 : decode cX7_month 10 = .ok (.isub, 1) := by decide +kernel
theorem dX7_month_11 : decode cX7_month 11 = .ok (.invokestatic 76, 3) := by decide +kernel
theorem dX7_month_14 : decode cX7_month 14 = .ok (.ifCond .eq 8, 3) := by decide +kernel
theorem dX7_month_17 : decode cX7_month 17 = .ok (.bipush (-2), 2) := by decide +kernel
theorem dX7_month_19 : decode cX7_month 19 = .ok (.goto 11, 3) := by decide +kernel
theorem dX7_month_22 : decode cX7_month 22 = .ok (.aload_n 0, 1) := by decide +kernel
theorem dX7_month_23 : decode cX7_month 23 = .ok (.getfield 40, 3) := by decide +kernel
theorem dX7_month_26 : decode cX7_month 26 = .ok (.iload_n 1, 1) := by decide +kernel
theorem dX7_month_27 : decode cX7_month 27 = .ok (.invokevirtual 147, 3) := by decide +kernel
theorem dX7_month_30 : decode cX7_month 30 = .ok (.ireturn, 1) := by decide +kernel
set_option maxRecDepth 20000 in
theorem ggX7_drift_X7_sunOf : GoodIn wsX7_drift wsX7_sunOf := goodIn_r _ [7, 8, 9, 65, 66, 67, 68, 69, 70, 71, 72, 73, 74, 75] (by decide +kernel) (by decide +kernel)
set_option maxRecDepth 20000 in
theorem gX7_drift_X7_sunOf : GoodIn wsX7_drift (wsV RX7 72 RX7 yX7_sunOf wsX7_sunOf) := goodIn_app (goodIn_of _ (by decide +kernel)) ggX7_drift_X7_sunOf
set_option maxRecDepth 20000 in
theorem ggX7_drift_X7_outside : GoodIn wsX7_drift wsX7_outside := goodIn_r _ [12] (by decide +kernel) (by decide +kernel)
set_option maxRecDepth 20000 in
theorem gX7_drift_X7_outside : GoodIn wsX7_drift (va_wsS RX7 76 yX7_outside wsX7_outside) := goodIn_app (goodIn_of _ (by decide +kernel)) ggX7_drift_X7_outside
set_option maxRecDepth 20000 in
theorem ggX7_drift_X0_months : GoodIn wsX7_drift wsX0_months := goodIn_r _ [17, 18, 19, 20, 21, 22, 16, 23, 24, 25, 26, 27, 28, 29, 30, 31, 32, 33, 34, 35, 36, 37, 38, 81, 82, 83, 84] (by decide +kernel) (by decide +kernel)
set_option maxRecDepth 20000 in
theorem gX7_drift_X0_months : GoodIn wsX7_drift (wsV RX7 144 RX0 yX0_months wsX0_months) := goodIn_app (goodIn_of _ (by decide +kernel)) ggX7_drift_X0_months
set_option maxRecDepth 20000 in
theorem ggX7_drift_X7_driftByCalendar : GoodIn wsX7_drift wsX7_driftByCalendar := goodIn_r _ [42, 43, 44, 45, 46, 1, 47, 48, 49, 50, 51, 52, 53, 54, 55, 56, 57, 58, 59, 60, 61, 62, 63, 16, 64, 28, 29, 30, 31, 32, 33, 34, 35, 65, 66, 67, 68, 69, 70, 71, 72, 73, 74, 75, 76, 77, 78, 79, 80, 81, 82, 83, 84] (by decide +kernel) (by decide +kernel)
set_option maxRecDepth 20000 in
theorem gX7_drift_X7_driftByCalendar : GoodIn wsX7_drift (wsV RX7 150 RX7 yX7_driftByCalendar wsX7_driftByCalendar) := goodIn_app (goodIn_of _ (by decide +kernel)) ggX7_drift_X7_driftByCalendar
theorem dX7_drift_0 : decode cX7_drift 0 = .ok (.aload_n 0, 1) := by decide +kernel
theorem dX7_drift_1 : decode cX7_drift 1 = .ok (.iload_n 1, 1) := by decide +kernel
theorem dX7_drift_2 : decode cX7_drift 2 = .ok (.invokevirtual 72, 3) := by decide +kernel
theorem dX7_drift_5 : decode cX7_drift 5 = .ok (.astore_n 3, 1) := by decide +kernel
theorem dX7_drift_6 : decode cX7_drift 6 = .ok (.aload_n 3, 1) := by decide +kernel
theorem dX7_drift_7 : decode cX7_drift 7 = .ok (.ifnull 13, 3) := by decide +kernel
theorem dX7_drift_10 : decode cX7_drift 10 = .ok (.iload_n 2, 1) := by decide +kernel
theorem dX7_drift_11 : decode cX7_drift 11 = .ok (.iconst 1, 1) := by decide +kernel
theorem dX7_drift_12 : decode cX7_drift 12 = .ok (.bipush 60, 2) := by decide +kernel
theorem dX7_drift_14 : decode cX7_drift 14 = .ok (.invokestatic 76, 3) := by decide +kernel
theorem dX7_drift_17 : decode cX7_drift 17 = .ok (.ifCond .eq 6, 3) := by decide +kernel
theorem dX7_drift_20 : decode cX7_drift 20 = .ok (.bipush (-2), 2) := by decide +kernel
theorem dX7_drift_22 : decode cX7_drift 22 = .ok (.ireturn, 1) := by decide +kernel
theorem dX7_drift_23 : decode cX7_drift 23 = .ok (.aload_n 0, 1) := by decide +kernel
theorem dX7_drift_24 : decode cX7_drift 24 = .ok (.getfield 40, 3) := by decide +kernel
theorem dX7_drift_27 : decode cX7_drift 27 = .ok (.invokevirtual 144, 3) := by decide +kernel
theorem dX7_drift_30 : decode cX7_drift 30 = .ok (.istore 4, 2) := by decide +kernel
theorem dX7_drift_32 : decode cX7_drift 32 = .ok (.aload_n 3, 1) := by decide +kernel
theorem dX7_drift_33 : decode cX7_drift 33 = .ok (.getfield 141, 3) := by decide +kernel
theorem dX7_drift_36 : decode cX7_drift 36 = .ok (.ifCond .eq 9, 3) := by decide +kernel
theorem dX7_drift_39 : decode cX7_drift 39 = .ok (.iload 4, 2) := by decide +kernel
theorem dX7_drift_41 : decode cX7_drift 41 = .ok (.iconst 1, 1) := by decide +kernel
theorem dX7_drift_42 : decode cX7_drift 42 = .ok (.if_icmp .ge 8, 3) := by decide +kernel
theorem dX7_drift_45 : decode cX7_drift 45 = .ok (.bipush (-3), 2) := by decide +kernel
theorem dX7_drift_47 : decode cX7_drift 47 = .ok (.goto 11, 3) := by decide +kernel
theorem dX7_drift_50 : decode cX7_drift 50 = .ok (.aload_n 0, 1) := by decide +kernel
theorem dX7_drift_51 : decode cX7_drift 51 = .ok (.aload_n 3, 1) := by decide +kernel
theorem dX7_drift_52 : decode cX7_drift 52 = .ok (.iload_n 2, 1) := by decide +kernel
theorem dX7_drift_53 : decode cX7_drift 53 = .ok (.iload 4, 2) := by decide +kernel
theorem dX7_drift_55 : decode cX7_drift 55 = .ok (.invokevirtual 150, 3) := by decide +kernel
theorem dX7_drift_58 : decode cX7_drift 58 = .ok (.ireturn, 1) := by decide +kernel
set_option maxRecDepth 20000 in
theorem ggX7_shortest_X7_sunOf : GoodIn wsX7_shortest wsX7_sunOf := goodIn_r _ [6, 7, 8, 42, 43, 44, 45, 46, 47, 48, 49, 50, 51, 52] (by decide +kernel) (by decide +kernel)
set_option maxRecDepth 20000 in
theorem gX7_shortest_X7_sunOf : GoodIn wsX7_shortest (wsV RX7 72 RX7 yX7_sunOf wsX7_sunOf) := goodIn_app (goodIn_of _ (by decide +kernel)) ggX7_shortest_X7_sunOf
set_option maxRecDepth 20000 in
theorem ggX7_shortest_X7_outside : GoodIn wsX7_shortest wsX7_outside := goodIn_r _ [11] (by decide +kernel) (by decide +kernel)
set_option maxRecDepth 20000 in
theorem gX7_shortest_X7_outside : GoodIn wsX7_shortest (va_wsS RX7 76 yX7_outside wsX7_outside) := goodIn_app (goodIn_of _ (by decide +kernel)) ggX7_shortest_X7_outside
set_option maxRecDepth 20000 in
theorem ggX7_shortest_X7_driftByTwo : GoodIn wsX7_shortest wsX7_driftByTwo := goodIn_r _ [14, 15, 16, 17, 18, 19, 20, 21, 22, 23, 24, 25, 26, 27, 28, 29, 30, 31, 32, 37, 38, 39, 40, 41] (by decide +kernel) (by decide +kernel)
set_option maxRecDepth 20000 in
theorem gX7_shortest_X7_driftByTwo : GoodIn wsX7_shortest (va_wsS RX7 154 yX7_driftByTwo wsX7_driftByTwo) := goodIn_app (goodIn_of _ (by decide +kernel)) ggX7_shortest_X7_driftByTwo
set_option maxRecDepth 20000 in
theorem ggX7_shortest_X7_firstOfTwo : GoodIn wsX7_shortest wsX7_firstOfTwo := goodIn_r _ [35, 15, 16, 17, 18, 36, 26, 27, 12, 13, 5, 14, 19, 20, 21, 22, 23, 24, 25, 28, 29, 30, 31, 32, 37, 38, 39, 40, 41] (by decide +kernel) (by decide +kernel)
set_option maxRecDepth 20000 in
theorem gX7_shortest_X7_firstOfTwo : GoodIn wsX7_shortest (va_wsS RX7 157 yX7_firstOfTwo wsX7_firstOfTwo) := goodIn_app (goodIn_of _ (by decide +kernel)) ggX7_shortest_X7_firstOfTwo
theorem dX7_shortest_0 : decode cX7_shortest 0 = .ok (.aload_n 0, 1) := by decide +kernel
theorem dX7_shortest_1 : decode cX7_shortest 1 = .ok (.iload_n 1, 1) := by decide +kernel
theorem dX7_shortest_2 : decode cX7_shortest 2 = .ok (.invokevirtual 72, 3) := by decide +kernel
theorem dX7_shortest_5 : decode cX7_shortest 5 = .ok (.astore 5, 2) := by decide +kernel
theorem dX7_shortest_7 : decode cX7_shortest 7 = .ok (.aload 5, 2) := by decide +kernel
theorem dX7_shortest_9 : decode cX7_shortest 9 = .ok (.ifnull 33, 3) := by decide +kernel
theorem dX7_shortest_12 : decode cX7_shortest 12 = .ok (.iload_n 2, 1) := by decide +kernel
theorem dX7_shortest_13 : decode cX7_shortest 13 = .ok (.iconst 0, 1) := by decide +kernel
theorem dX7_shortest_14 : decode cX7_shortest 14 = .ok (.bipush 20, 2) := by decide +kernel
theorem dX7_shortest_16 : decode cX7_shortest 16 = .ok (.invokestatic 76, 3) := by decide +kernel
theorem dX7_shortest_19 : decode cX7_shortest 19 = .ok (.ifCond .ne 23, 3) := by decide +kernel
theorem dX7_shortest_22 : decode cX7_shortest 22 = .ok (.iload_n 3, 1) := by decide +kernel
theorem dX7_shortest_23 : decode cX7_shortest 23 = .ok (.iconst 2, 1) := by decide +kernel
theorem dX7_shortest_24 : decode cX7_shortest 24 = .ok (.bipush 80, 2) := by decide +kernel
theorem dX7_shortest_26 : decode cX7_shortest 26 = .ok (.invokestatic 76, 3) := by decide +kernel
theorem dX7_shortest_29 : decode cX7_shortest 29 = .ok (.ifCond .ne 13, 3) := by decide +kernel
theorem dX7_shortest_32 : decode cX7_shortest 32 = .ok (.iload 4, 2) := by decide +kernel
theorem dX7_shortest_34 : decode cX7_shortest 34 = .ok (.iconst 0, 1) := by decide +kernel
theorem dX7_shortest_35 : decode cX7_shortest 35 = .ok (.iconst 1, 1) := by decide +kernel
theorem dX7_shortest_36 : decode cX7_shortest 36 = .ok (.invokestatic 76, 3) := by decide +kernel
theorem dX7_shortest_39 : decode cX7_shortest 39 = .ok (.ifCond .eq 6, 3) := by decide +kernel
theorem dX7_shortest_42 : decode cX7_shortest 42 = .ok (.bipush (-2), 2) := by decide +kernel
theorem dX7_shortest_44 : decode cX7_shortest 44 = .ok (.ireturn, 1) := by decide +kernel
theorem dX7_shortest_45 : decode cX7_shortest 45 = .ok (.aload 5, 2) := by decide +kernel
theorem dX7_shortest_47 : decode cX7_shortest 47 = .ok (.getfield 141, 3) := by decide +kernel
theorem dX7_shortest_50 : decode cX7_shortest 50 = .ok (.ifCond .ne 6, 3) := by decide +kernel
theorem dX7_shortest_53 : decode cX7_shortest 53 = .ok (.bipush (-3), 2) := by decide +kernel
theorem dX7_shortest_55 : decode cX7_shortest 55 = .ok (.ireturn, 1) := by decide +kernel
theorem dX7_shortest_56 : decode cX7_shortest 56 = .ok (.aload 5, 2) := by decide +kernel
theorem dX7_shortest_58 : decode cX7_shortest 58 = .ok (.iload_n 3, 1) := by decide +kernel
theorem dX7_shortest_59 : decode cX7_shortest 59 = .ok (.iload_n 3, 1) := by decide +kernel
theorem dX7_shortest_60 : decode cX7_shortest 60 = .ok (.invokestatic 154, 3) := by decide +kernel
theorem dX7_shortest_63 : decode cX7_shortest 63 = .ok (.iload_n 2, 1) := by decide +kernel
theorem dX7_shortest_64 : decode cX7_shortest 64 = .ok (.if_icmp .gt 14, 3) := by decide +kernel
theorem dX7_shortest_67 : decode cX7_shortest 67 = .ok (.iload 4, 2) := by decide +kernel
theorem dX7_shortest_69 : decode cX7_shortest 69 = .ok (.ifCond .ne 7, 3) := by decide +kernel
theorem dX7_shortest_72 : decode cX7_shortest 72 = .ok (.iload_n 3, 1) := by decide +kernel
theorem dX7_shortest_73 : decode cX7_shortest 73 = .ok (.goto 4, 3) := by decide +kernel
theorem dX7_shortest_76 : decode cX7_shortest 76 = .ok (.iconst 0, 1) := by decide +kernel
theorem dX7_shortest_77 : decode cX7_shortest 77 = .ok (.ireturn, 1) := by decide +kernel
theorem dX7_shortest_78 : decode cX7_shortest 78 = .ok (.aload 5, 2) := by decide +kernel
theorem dX7_shortest_80 : decode cX7_shortest 80 = .ok (.iload_n 2, 1) := by decide +kernel
theorem dX7_shortest_81 : decode cX7_shortest 81 = .ok (.iload_n 3, 1) := by decide +kernel
theorem dX7_shortest_82 : decode cX7_shortest 82 = .ok (.invokestatic 157, 3) := by decide +kernel
theorem dX7_shortest_85 : decode cX7_shortest 85 = .ok (.istore 6, 2) := by decide +kernel
theorem dX7_shortest_87 : decode cX7_shortest 87 = .ok (.iload 6, 2) := by decide +kernel
theorem dX7_shortest_89 : decode cX7_shortest 89 = .ok (.iconst (-1), 1) := by decide +kernel
theorem dX7_shortest_90 : decode cX7_shortest 90 = .ok (.if_icmp .eq 8, 3) := by decide +kernel
theorem dX7_shortest_93 : decode cX7_shortest 93 = .ok (.iload 4, 2) := by decide +kernel
theorem dX7_shortest_95 : decode cX7_shortest 95 = .ok (.ifCond .ne 8, 3) := by decide +kernel
theorem dX7_shortest_98 : decode cX7_shortest 98 = .ok (.iload 6, 2) := by decide +kernel
theorem dX7_shortest_100 : decode cX7_shortest 100 = .ok (.goto 7, 3) := by decide +kernel
theorem dX7_shortest_103 : decode cX7_shortest 103 = .ok (.iload_n 3, 1) := by decide +kernel
theorem dX7_shortest_104 : decode cX7_shortest 104 = .ok (.iload 6, 2) := by decide +kernel
theorem dX7_shortest_106 : decode cX7_shortest 106 = .ok (.isub, 1) := by decide +kernel
theorem dX7_shortest_107 : decode cX7_shortest 107 = .ok (.ireturn, 1) := by decide +kernel
set_option maxRecDepth 20000 in
theorem ggX7_awake_X7_noPerson : GoodIn wsX7_awake wsX7_noPerson := goodIn_r _ [5, 6, 7, 4, 8] (by decide +kernel) (by decide +kernel)
set_option maxRecDepth 20000 in
theorem gX7_awake_X7_noPerson : GoodIn wsX7_awake (va_wsS RX7 160 yX7_noPerson wsX7_noPerson) := goodIn_app (goodIn_of _ (by decide +kernel)) ggX7_awake_X7_noPerson
set_option maxRecDepth 20000 in
theorem ggX7_awake_X7_outside : GoodIn wsX7_awake wsX7_outside := goodIn_r _ [8] (by decide +kernel) (by decide +kernel)
set_option maxRecDepth 20000 in
theorem gX7_awake_X7_outside : GoodIn wsX7_awake (va_wsS RX7 76 yX7_outside wsX7_outside) := goodIn_app (goodIn_of _ (by decide +kernel)) ggX7_awake_X7_outside
theorem dX7_awake_0 : decode cX7_awake 0 = .ok (.iload_n 1, 1) := by decide +kernel
theorem dX7_awake_1 : decode cX7_awake 1 = .ok (.invokestatic 160, 3) := by decide +kernel
theorem dX7_awake_4 : decode cX7_awake 4 = .ok (.ifCond .ne 13, 3) := by decide +kernel
theorem dX7_awake_7 : decode cX7_awake 7 = .ok (.iload_n 2, 1) := by decide +kernel
theorem dX7_awake_8 : decode cX7_awake 8 = .ok (.iconst 0, 1) := by decide +kernel
theorem dX7_awake_9 : decode cX7_awake 9 = .ok (.bipush 15, 2) := by decide +kernel
theorem dX7_awake_11 : decode cX7_awake 11 = .ok (.invokestatic 76, 3) := by decide +kernel
theorem dX7_awake_14 : decode cX7_awake 14 = .ok (.ifCond .eq 6, 3) := by decide +kernel
theorem dX7_awake_17 : decode cX7_awake 17 = .ok (.bipush (-2), 2) := by decide +kernel
theorem dX7_awake_19 : decode cX7_awake 19 = .ok (.ireturn, 1) := by decide +kernel
theorem dX7_awake_20 : decode cX7_awake 20 = .ok (.aload_n 0, 1) := by decide +kernel
theorem dX7_awake_21 : decode cX7_awake 21 = .ok (.getfield 44, 3) := by decide +kernel
theorem dX7_awake_24 : decode cX7_awake 24 = .ok (.iload_n 1, 1) := by decide +kernel
theorem dX7_awake_25 : decode cX7_awake 25 = .ok (.iaload, 1) := by decide +kernel
theorem dX7_awake_26 : decode cX7_awake 26 = .ok (.istore_n 3, 1) := by decide +kernel
theorem dX7_awake_27 : decode cX7_awake 27 = .ok (.aload_n 0, 1) := by decide +kernel
theorem dX7_awake_28 : decode cX7_awake 28 = .ok (.getfield 44, 3) := by decide +kernel
theorem dX7_awake_31 : decode cX7_awake 31 = .ok (.iload_n 1, 1) := by decide +kernel
theorem dX7_awake_32 : decode cX7_awake 32 = .ok (.iload_n 2, 1) := by decide +kernel
theorem dX7_awake_33 : decode cX7_awake 33 = .ok (.iastore, 1) := by decide +kernel
theorem dX7_awake_34 : decode cX7_awake 34 = .ok (.iload_n 3, 1) := by decide +kernel
theorem dX7_awake_35 : decode cX7_awake 35 = .ok (.ireturn, 1) := by decide +kernel
set_option maxRecDepth 20000 in
theorem ggX7_together_X7_outside : GoodIn wsX7_together wsX7_outside := goodIn_r _ [5] (by decide +kernel) (by decide +kernel)
set_option maxRecDepth 20000 in
theorem gX7_together_X7_outside : GoodIn wsX7_together (va_wsS RX7 76 yX7_outside wsX7_outside) := goodIn_app (goodIn_of _ (by decide +kernel)) ggX7_together_X7_outside
set_option maxRecDepth 20000 in
theorem ggX7_together_X7_noHour : GoodIn wsX7_together wsX7_noHour := goodIn_r _ [8, 9, 2, 3, 4, 5] (by decide +kernel) (by decide +kernel)
set_option maxRecDepth 20000 in
theorem gX7_together_X7_noHour : GoodIn wsX7_together (va_wsS RX7 110 yX7_noHour wsX7_noHour) := goodIn_app (goodIn_of _ (by decide +kernel)) ggX7_together_X7_noHour
set_option maxRecDepth 20000 in
theorem ggX7_together_X7_lightsOfAll : GoodIn wsX7_together wsX7_lightsOfAll := goodIn_r _ [13, 14, 48, 49, 50, 51, 52, 53, 54, 55, 56, 57, 58] (by decide +kernel) (by decide +kernel)
set_option maxRecDepth 20000 in
theorem gX7_together_X7_lightsOfAll : GoodIn wsX7_together (wsV RX7 163 RX7 yX7_lightsOfAll wsX7_lightsOfAll) := goodIn_app (goodIn_of _ (by decide +kernel)) ggX7_together_X7_lightsOfAll
set_option maxRecDepth 20000 in
theorem ggX7_together_X4_hoursWithin : GoodIn wsX7_together wsX4_hoursWithin := goodIn_r _ [19, 20, 21, 22, 18, 23, 24, 25, 26, 27, 28, 29, 30, 31, 32, 33, 34, 35, 36, 37, 59, 60, 61, 62, 63, 64, 65] (by decide +kernel) (by decide +kernel)
set_option maxRecDepth 20000 in
theorem gX7_together_X4_hoursWithin : GoodIn wsX7_together (wsV RX7 166 RX4 yX4_hoursWithin wsX4_hoursWithin) := goodIn_app (goodIn_of _ (by decide +kernel)) ggX7_together_X4_hoursWithin
set_option maxRecDepth 20000 in
theorem ggX7_together_X4_bestStart : GoodIn wsX7_together wsX4_bestStart := goodIn_r _ [41, 42, 43, 44, 18, 45, 28, 46, 30, 47, 16, 17, 19, 20, 21, 22, 23, 24, 25, 26, 27, 29, 31, 32, 33, 34, 35, 36, 37, 59, 60, 61, 62, 63, 64, 65] (by decide +kernel) (by decide +kernel)
set_option maxRecDepth 20000 in
theorem gX7_together_X4_bestStart : GoodIn wsX7_together (wsV RX7 170 RX4 yX4_bestStart wsX4_bestStart) := goodIn_app (goodIn_of _ (by decide +kernel)) ggX7_together_X4_bestStart
theorem dX7_together_0 : decode cX7_together 0 = .ok (.iload_n 1, 1) := by decide +kernel
theorem dX7_together_1 : decode cX7_together 1 = .ok (.iconst 0, 1) := by decide +kernel
theorem dX7_together_2 : decode cX7_together 2 = .ok (.bipush 63, 2) := by decide +kernel
theorem dX7_together_4 : decode cX7_together 4 = .ok (.invokestatic 76, 3) := by decide +kernel
theorem dX7_together_7 : decode cX7_together 7 = .ok (.ifCond .ne 30, 3) := by decide +kernel
theorem dX7_together_10 : decode cX7_together 10 = .ok (.iload_n 2, 1) := by decide +kernel
theorem dX7_together_11 : decode cX7_together 11 = .ok (.invokestatic 110, 3) := by decide +kernel
theorem dX7_together_14 : decode cX7_together 14 = .ok (.ifCond .ne 23, 3) := by decide +kernel
theorem dX7_together_17 : decode cX7_together 17 = .ok (.iload_n 3, 1) := by decide +kernel
theorem dX7_together_18 : decode cX7_together 18 = .ok (.iconst 1, 1) := by decide +kernel
theorem dX7_together_19 : decode cX7_together 19 = .ok (.bipush 100, 2) := by decide +kernel
theorem dX7_together_21 : decode cX7_together 21 = .ok (.invokestatic 76, 3) := by decide +kernel
theorem dX7_together_24 : decode cX7_together 24 = .ok (.ifCond .ne 13, 3) := by decide +kernel
theorem dX7_together_27 : decode cX7_together 27 = .ok (.iload 4, 2) := by decide +kernel
theorem dX7_together_29 : decode cX7_together 29 = .ok (.iconst 0, 1) := by decide +kernel
theorem dX7_together_30 : decode cX7_together 30 = .ok (.iconst 1, 1) := by decide +kernel
theorem dX7_together_31 : decode cX7_together 31 = .ok (.invokestatic 76, 3) := by decide +kernel
theorem dX7_together_34 : decode cX7_together 34 = .ok (.ifCond .eq 6, 3) := by decide +kernel
theorem dX7_together_37 : decode cX7_together 37 = .ok (.bipush (-2), 2) := by decide +kernel
theorem dX7_together_39 : decode cX7_together 39 = .ok (.ireturn, 1) := by decide +kernel
theorem dX7_together_40 : decode cX7_together 40 = .ok (.aload_n 0, 1) := by decide +kernel
theorem dX7_together_41 : decode cX7_together 41 = .ok (.iload_n 1, 1) := by decide +kernel
theorem dX7_together_42 : decode cX7_together 42 = .ok (.invokevirtual 163, 3) := by decide +kernel
theorem dX7_together_45 : decode cX7_together 45 = .ok (.istore 5, 2) := by decide +kernel
theorem dX7_together_47 : decode cX7_together 47 = .ok (.iload 4, 2) := by decide +kernel
theorem dX7_together_49 : decode cX7_together 49 = .ok (.ifCond .ne 17, 3) := by decide +kernel
theorem dX7_together_52 : decode cX7_together 52 = .ok (.aload_n 0, 1) := by decide +kernel
theorem dX7_together_53 : decode cX7_together 53 = .ok (.getfield 26, 3) := by decide +kernel
theorem dX7_together_56 : decode cX7_together 56 = .ok (.iload 5, 2) := by decide +kernel
theorem dX7_together_58 : decode cX7_together 58 = .ok (.iload_n 2, 1) := by decide +kernel
theorem dX7_together_59 : decode cX7_together 59 = .ok (.iload_n 3, 1) := by decide +kernel
theorem dX7_together_60 : decode cX7_together 60 = .ok (.invokevirtual 166, 3) := by decide +kernel
theorem dX7_together_63 : decode cX7_together 63 = .ok (.goto 14, 3) := by decide +kernel
theorem dX7_together_66 : decode cX7_together 66 = .ok (.aload_n 0, 1) := by decide +kernel
theorem dX7_together_67 : decode cX7_together 67 = .ok (.getfield 26, 3) := by decide +kernel
theorem dX7_together_70 : decode cX7_together 70 = .ok (.iload 5, 2) := by decide +kernel
theorem dX7_together_72 : decode cX7_together 72 = .ok (.iload_n 2, 1) := by decide +kernel
theorem dX7_together_73 : decode cX7_together 73 = .ok (.iload_n 3, 1) := by decide +kernel
theorem dX7_together_74 : decode cX7_together 74 = .ok (.invokevirtual 170, 3) := by decide +kernel
theorem dX7_together_77 : decode cX7_together 77 = .ok (.ireturn, 1) := by decide +kernel
set_option maxRecDepth 20000 in
theorem ggX7_dials_X7_outside : GoodIn wsX7_dials wsX7_outside := goodIn_r _ [5] (by decide +kernel) (by decide +kernel)
set_option maxRecDepth 20000 in
theorem gX7_dials_X7_outside : GoodIn wsX7_dials (va_wsS RX7 76 yX7_outside wsX7_outside) := goodIn_app (goodIn_of _ (by decide +kernel)) ggX7_dials_X7_outside
set_option maxRecDepth 20000 in
theorem ggX7_dials_X4_hoursByDials : GoodIn wsX7_dials wsX4_hoursByDials := goodIn_r _ [10, 11, 12, 13, 9, 14, 15, 16, 17, 18, 19, 20, 21, 22, 23, 24, 25, 26, 27, 28, 29, 30, 31, 32, 33, 49, 50, 51, 52, 53, 54, 55] (by decide +kernel) (by decide +kernel)
set_option maxRecDepth 20000 in
theorem gX7_dials_X4_hoursByDials : GoodIn wsX7_dials (wsV RX7 173 RX4 yX4_hoursByDials wsX4_hoursByDials) := goodIn_app (goodIn_of _ (by decide +kernel)) ggX7_dials_X4_hoursByDials
set_option maxRecDepth 20000 in
theorem ggX7_dials_X4_firstByDials : GoodIn wsX7_dials wsX4_firstByDials := goodIn_r _ [37, 11, 12, 13, 9, 14, 15, 16, 17, 18, 19, 20, 21, 22, 23, 24, 25, 26, 27, 28, 29, 30, 31, 32, 33, 49, 50, 51, 52, 53, 54, 55] (by decide +kernel) (by decide +kernel)
set_option maxRecDepth 20000 in
theorem gX7_dials_X4_firstByDials : GoodIn wsX7_dials (wsV RX7 176 RX4 yX4_firstByDials wsX4_firstByDials) := goodIn_app (goodIn_of _ (by decide +kernel)) ggX7_dials_X4_firstByDials
theorem dX7_dials_0 : decode cX7_dials 0 = .ok (.iload_n 1, 1) := by decide +kernel
theorem dX7_dials_1 : decode cX7_dials 1 = .ok (.iconst (-1), 1) := by decide +kernel
theorem dX7_dials_2 : decode cX7_dials 2 = .ok (.bipush 39, 2) := by decide +kernel
theorem dX7_dials_4 : decode cX7_dials 4 = .ok (.invokestatic 76, 3) := by decide +kernel
theorem dX7_dials_7 : decode cX7_dials 7 = .ok (.ifCond .ne 22, 3) := by decide +kernel
theorem dX7_dials_10 : decode cX7_dials 10 = .ok (.iload_n 2, 1) := by decide +kernel
theorem dX7_dials_11 : decode cX7_dials 11 = .ok (.iconst (-1), 1) := by decide +kernel
theorem dX7_dials_12 : decode cX7_dials 12 = .ok (.bipush 39, 2) := by decide +kernel
theorem dX7_dials_14 : decode cX7_dials 14 = .ok (.invokestatic 76, 3) := by decide +kernel
theorem dX7_dials_17 : decode cX7_dials 17 = .ok (.ifCond .ne 12, 3) := by decide +kernel
theorem dX7_dials_20 : decode cX7_dials 20 = .ok (.iload_n 3, 1) := by decide +kernel
theorem dX7_dials_21 : decode cX7_dials 21 = .ok (.iconst 0, 1) := by decide +kernel
theorem dX7_dials_22 : decode cX7_dials 22 = .ok (.iconst 1, 1) := by decide +kernel
theorem dX7_dials_23 : decode cX7_dials 23 = .ok (.invokestatic 76, 3) := by decide +kernel
theorem dX7_dials_26 : decode cX7_dials 26 = .ok (.ifCond .eq 6, 3) := by decide +kernel
theorem dX7_dials_29 : decode cX7_dials 29 = .ok (.bipush (-2), 2) := by decide +kernel
theorem dX7_dials_31 : decode cX7_dials 31 = .ok (.ireturn, 1) := by decide +kernel
theorem dX7_dials_32 : decode cX7_dials 32 = .ok (.iload_n 3, 1) := by decide +kernel
theorem dX7_dials_33 : decode cX7_dials 33 = .ok (.ifCond .ne 15, 3) := by decide +kernel
theorem dX7_dials_36 : decode cX7_dials 36 = .ok (.aload_n 0, 1) := by decide +kernel
theorem dX7_dials_37 : decode cX7_dials 37 = .ok (.getfield 26, 3) := by decide +kernel
theorem dX7_dials_40 : decode cX7_dials 40 = .ok (.iload_n 1, 1) := by decide +kernel
theorem dX7_dials_41 : decode cX7_dials 41 = .ok (.iload_n 2, 1) := by decide +kernel
theorem dX7_dials_42 : decode cX7_dials 42 = .ok (.invokevirtual 173, 3) := by decide +kernel
theorem dX7_dials_45 : decode cX7_dials 45 = .ok (.goto 12, 3) := by decide +kernel
theorem dX7_dials_48 : decode cX7_dials 48 = .ok (.aload_n 0, 1) := by decide +kernel
theorem dX7_dials_49 : decode cX7_dials 49 = .ok (.getfield 26, 3) := by decide +kernel
theorem dX7_dials_52 : decode cX7_dials 52 = .ok (.iload_n 1, 1) := by decide +kernel
theorem dX7_dials_53 : decode cX7_dials 53 = .ok (.iload_n 2, 1) := by decide +kernel
theorem dX7_dials_54 : decode cX7_dials 54 = .ok (.invokevirtual 176, 3) := by decide +kernel
theorem dX7_dials_57 : decode cX7_dials 57 = .ok (.ireturn, 1) := by decide +kernel
set_option maxRecDepth 20000 in
theorem ggX7_fits_X7_outside : GoodIn wsX7_fits wsX7_outside := goodIn_r _ [6] (by decide +kernel) (by decide +kernel)
set_option maxRecDepth 20000 in
theorem gX7_fits_X7_outside : GoodIn wsX7_fits (va_wsS RX7 76 yX7_outside wsX7_outside) := goodIn_app (goodIn_of _ (by decide +kernel)) ggX7_fits_X7_outside
set_option maxRecDepth 20000 in
theorem ggX7_fits_X7_findFittingPhases : GoodIn wsX7_fits wsX7_findFittingPhases := goodIn_r _ [10, 11, 1, 2, 12, 13, 14, 15, 16, 17, 18, 19, 20, 21, 22, 23, 24, 25, 26, 27, 28, 29, 30, 31, 32, 33, 34, 35, 36, 37, 38, 39, 40, 41, 42, 43, 44, 45, 46, 47, 48, 49, 50, 51, 60, 61, 62, 63, 64, 65, 66, 67, 68, 69, 70, 71, 72, 73, 74, 75, 76, 77, 78, 79] (by decide +kernel) (by decide +kernel)
set_option maxRecDepth 20000 in
theorem gX7_fits_X7_findFittingPhases : GoodIn wsX7_fits (wsV RX7 179 RX7 yX7_findFittingPhases wsX7_findFittingPhases) := goodIn_app (goodIn_of _ (by decide +kernel)) ggX7_fits_X7_findFittingPhases
set_option maxRecDepth 20000 in
theorem ggX7_fits_X5_fittingPhases : GoodIn wsX7_fits wsX5_fittingPhases := goodIn_r _ [55, 40, 41, 75, 76, 77, 78, 79] (by decide +kernel) (by decide +kernel)
set_option maxRecDepth 20000 in
theorem gX7_fits_X5_fittingPhases : GoodIn wsX7_fits (wsV RX7 182 RX5 yX5_fittingPhases wsX5_fittingPhases) := goodIn_app (goodIn_of _ (by decide +kernel)) ggX7_fits_X5_fittingPhases
set_option maxRecDepth 20000 in
theorem ggX7_fits_X5_firstFittingPhase : GoodIn wsX7_fits wsX5_firstFittingPhase := goodIn_r _ [59, 40, 41, 75, 76, 77, 78, 79] (by decide +kernel) (by decide +kernel)
set_option maxRecDepth 20000 in
theorem gX7_fits_X5_firstFittingPhase : GoodIn wsX7_fits (wsV RX7 185 RX5 yX5_firstFittingPhase wsX5_firstFittingPhase) := goodIn_app (goodIn_of _ (by decide +kernel)) ggX7_fits_X5_firstFittingPhase
theorem dX7_fits_0 : decode cX7_fits 0 = .ok (.iload_n 1, 1) := by decide +kernel
theorem dX7_fits_1 : decode cX7_fits 1 = .ok (.iconst 0, 1) := by decide +kernel
theorem dX7_fits_2 : decode cX7_fits 2 = .ok (.iconst 1, 1) := by decide +kernel
theorem dX7_fits_3 : decode cX7_fits 3 = .ok (.invokestatic 76, 3) := by decide +kernel
theorem dX7_fits_6 : decode cX7_fits 6 = .ok (.ifCond .eq 6, 3) := by decide +kernel
theorem dX7_fits_9 : decode cX7_fits 9 = .ok (.bipush (-2), 2) := by decide +kernel
theorem dX7_fits_11 : decode cX7_fits 11 = .ok (.ireturn, 1) := by decide +kernel
theorem dX7_fits_12 : decode cX7_fits 12 = .ok (.aload_n 0, 1) := by decide +kernel
theorem dX7_fits_13 : decode cX7_fits 13 = .ok (.invokevirtual 179, 3) := by decide +kernel
theorem dX7_fits_16 : decode cX7_fits 16 = .ok (.aload_n 0, 1) := by decide +kernel
theorem dX7_fits_17 : decode cX7_fits 17 = .ok (.getfield 12, 3) := by decide +kernel
theorem dX7_fits_20 : decode cX7_fits 20 = .ok (.invokevirtual 182, 3) := by decide +kernel
theorem dX7_fits_23 : decode cX7_fits 23 = .ok (.aload_n 0, 1) := by decide +kernel
theorem dX7_fits_24 : decode cX7_fits 24 = .ok (.getfield 18, 3) := by decide +kernel
theorem dX7_fits_27 : decode cX7_fits 27 = .ok (.invokevirtual 182, 3) := by decide +kernel
theorem dX7_fits_30 : decode cX7_fits 30 = .ok (.imul, 1) := by decide +kernel
theorem dX7_fits_31 : decode cX7_fits 31 = .ok (.istore_n 2, 1) := by decide +kernel
theorem dX7_fits_32 : decode cX7_fits 32 = .ok (.iload_n 1, 1) := by decide +kernel
theorem dX7_fits_33 : decode cX7_fits 33 = .ok (.ifCond .ne 5, 3) := by decide +kernel
theorem dX7_fits_36 : decode cX7_fits 36 = .ok (.iload_n 2, 1) := by decide +kernel
theorem dX7_fits_37 : decode cX7_fits 37 = .ok (.ireturn, 1) := by decide +kernel
theorem dX7_fits_38 : decode cX7_fits 38 = .ok (.iload_n 2, 1) := by decide +kernel
theorem dX7_fits_39 : decode cX7_fits 39 = .ok (.ifCond .ne 7, 3) := by decide +kernel
theorem dX7_fits_42 : decode cX7_fits 42 = .ok (.iconst (-1), 1) := by decide +kernel
theorem dX7_fits_43 : decode cX7_fits 43 = .ok (.goto 21, 3) := by decide +kernel
theorem dX7_fits_46 : decode cX7_fits 46 = .ok (.bipush 40, 2) := by decide +kernel
theorem dX7_fits_48 : decode cX7_fits 48 = .ok (.aload_n 0, 1) := by decide +kernel
theorem dX7_fits_49 : decode cX7_fits 49 = .ok (.getfield 12, 3) := by decide +kernel
theorem dX7_fits_52 : decode cX7_fits 52 = .ok (.invokevirtual 185, 3) := by decide +kernel
theorem dX7_fits_55 : decode cX7_fits 55 = .ok (.imul, 1) := by decide +kernel
theorem dX7_fits_56 : decode cX7_fits 56 = .ok (.aload_n 0, 1) := by decide +kernel
theorem dX7_fits_57 : decode cX7_fits 57 = .ok (.getfield 18, 3) := by decide +kernel
theorem dX7_fits_60 : decode cX7_fits 60 = .ok (.invokevirtual 185, 3) := by decide +kernel
theorem dX7_fits_63 : decode cX7_fits 63 = .ok (.iadd, 1) := by decide +kernel
theorem dX7_fits_64 : decode cX7_fits 64 = .ok (.ireturn, 1) := by decide +kernel
set_option maxRecDepth 20000 in
theorem ggX7_watch_X7_outside : GoodIn wsX7_watch wsX7_outside := goodIn_r _ [8] (by decide +kernel) (by decide +kernel)
set_option maxRecDepth 20000 in
theorem gX7_watch_X7_outside : GoodIn wsX7_watch (va_wsS RX7 76 yX7_outside wsX7_outside) := goodIn_app (goodIn_of _ (by decide +kernel)) ggX7_watch_X7_outside
set_option maxRecDepth 20000 in
theorem ggX7_watch_X7_findFittingPhases : GoodIn wsX7_watch wsX7_findFittingPhases := goodIn_r _ [12, 4, 1, 2, 13, 14, 15, 16, 17, 18, 19, 20, 21, 22, 23, 24, 25, 26, 27, 28, 29, 30, 31, 32, 33, 34, 35, 36, 37, 38, 39, 40, 41, 42, 43, 44, 45, 46, 47, 48, 49, 50, 51, 52, 88, 89, 90, 91, 92, 93, 94, 95, 96, 97, 98, 99, 100, 101, 102, 103, 104, 105, 106, 107] (by decide +kernel) (by decide +kernel)
set_option maxRecDepth 20000 in
theorem gX7_watch_X7_findFittingPhases : GoodIn wsX7_watch (wsV RX7 179 RX7 yX7_findFittingPhases wsX7_findFittingPhases) := goodIn_app (goodIn_of _ (by decide +kernel)) ggX7_watch_X7_findFittingPhases
set_option maxRecDepth 20000 in
theorem ggX7_watch_X5_fittingPhases : GoodIn wsX7_watch wsX5_fittingPhases := goodIn_r _ [56, 41, 42, 103, 104, 105, 106, 107] (by decide +kernel) (by decide +kernel)
set_option maxRecDepth 20000 in
theorem gX7_watch_X5_fittingPhases : GoodIn wsX7_watch (wsV RX7 182 RX5 yX5_fittingPhases wsX5_fittingPhases) := goodIn_app (goodIn_of _ (by decide +kernel)) ggX7_watch_X5_fittingPhases
set_option maxRecDepth 20000 in
theorem ggX7_watch_X5_findLeftAtWorst : GoodIn wsX7_watch wsX5_findLeftAtWorst := goodIn_r _ [60, 41, 42, 47, 61, 62, 63, 64, 65, 66, 54, 55, 39, 56, 49, 50, 51, 52, 103, 104, 105, 106, 107] (by decide +kernel) (by decide +kernel)
set_option maxRecDepth 20000 in
theorem gX7_watch_X5_findLeftAtWorst : GoodIn wsX7_watch (wsV RX7 188 RX5 yX5_findLeftAtWorst wsX5_findLeftAtWorst) := goodIn_app (goodIn_of _ (by decide +kernel)) ggX7_watch_X5_findLeftAtWorst
set_option maxRecDepth 20000 in
theorem ggX7_watch_X1_hours : GoodIn wsX7_watch wsX1_hours := goodIn_r _ [17, 18, 19, 20, 21, 22, 16, 23, 24, 25, 26, 27, 28, 29, 30, 31, 32, 33, 34, 35, 99, 100, 101, 102] (by decide +kernel) (by decide +kernel)
set_option maxRecDepth 20000 in
theorem gX7_watch_X1_hours : GoodIn wsX7_watch (wsV RX7 191 RX1 yX1_hours wsX1_hours) := goodIn_app (goodIn_of _ (by decide +kernel)) ggX7_watch_X1_hours
set_option maxRecDepth 20000 in
theorem ggX7_watch_X4_hourToWatch : GoodIn wsX7_watch wsX4_hourToWatch := goodIn_r _ [71, 72, 73, 74, 70, 75, 76, 77, 78, 79, 80, 81, 82, 83, 84, 85, 39, 86, 61, 49, 50, 51, 52, 41, 108, 109, 103, 104, 105, 106, 107] (by decide +kernel) (by decide +kernel)
set_option maxRecDepth 20000 in
theorem gX7_watch_X4_hourToWatch : GoodIn wsX7_watch (wsV RX7 194 RX4 yX4_hourToWatch wsX4_hourToWatch) := goodIn_app (goodIn_of _ (by decide +kernel)) ggX7_watch_X4_hourToWatch
set_option maxRecDepth 20000 in
theorem ggX7_watch_X4_leftAtWorst : GoodIn wsX7_watch wsX4_leftAtWorst := goodIn_r _ [82, 76, 78, 83, 84, 85, 39, 86, 61, 49, 50, 51, 52, 41, 108, 109, 103, 104, 105, 106, 107] (by decide +kernel) (by decide +kernel)
set_option maxRecDepth 20000 in
theorem gX7_watch_X4_leftAtWorst : GoodIn wsX7_watch (wsV RX7 197 RX4 yX4_leftAtWorst wsX4_leftAtWorst) := goodIn_app (goodIn_of _ (by decide +kernel)) ggX7_watch_X4_leftAtWorst
theorem dX7_watch_0 : decode cX7_watch 0 = .ok (.iload_n 1, 1) := by decide +kernel
theorem dX7_watch_1 : decode cX7_watch 1 = .ok (.iconst 0, 1) := by decide +kernel
theorem dX7_watch_2 : decode cX7_watch 2 = .ok (.iconst 1, 1) := by decide +kernel
theorem dX7_watch_3 : decode cX7_watch 3 = .ok (.invokestatic 76, 3) := by decide +kernel
theorem dX7_watch_6 : decode cX7_watch 6 = .ok (.ifCond .eq 6, 3) := by decide +kernel
theorem dX7_watch_9 : decode cX7_watch 9 = .ok (.bipush (-2), 2) := by decide +kernel
theorem dX7_watch_11 : decode cX7_watch 11 = .ok (.ireturn, 1) := by decide +kernel
theorem dX7_watch_12 : decode cX7_watch 12 = .ok (.aload_n 0, 1) := by decide +kernel
theorem dX7_watch_13 : decode cX7_watch 13 = .ok (.invokevirtual 179, 3) := by decide +kernel
theorem dX7_watch_16 : decode cX7_watch 16 = .ok (.aload_n 0, 1) := by decide +kernel
theorem dX7_watch_17 : decode cX7_watch 17 = .ok (.getfield 12, 3) := by decide +kernel
theorem dX7_watch_20 : decode cX7_watch 20 = .ok (.invokevirtual 182, 3) := by decide +kernel
theorem dX7_watch_23 : decode cX7_watch 23 = .ok (.ifCond .eq 13, 3) := by decide +kernel
theorem dX7_watch_26 : decode cX7_watch 26 = .ok (.aload_n 0, 1) := by decide +kernel
theorem dX7_watch_27 : decode cX7_watch 27 = .ok (.getfield 18, 3) := by decide +kernel
theorem dX7_watch_30 : decode cX7_watch 30 = .ok (.invokevirtual 182, 3) := by decide +kernel
theorem dX7_watch_33 : decode cX7_watch 33 = .ok (.ifCond .ne 6, 3) := by decide +kernel
theorem dX7_watch_36 : decode cX7_watch 36 = .ok (.bipush (-3), 2) := by decide +kernel
theorem dX7_watch_38 : decode cX7_watch 38 = .ok (.ireturn, 1) := by decide +kernel
theorem dX7_watch_39 : decode cX7_watch 39 = .ok (.aload_n 0, 1) := by decide +kernel
theorem dX7_watch_40 : decode cX7_watch 40 = .ok (.getfield 12, 3) := by decide +kernel
theorem dX7_watch_43 : decode cX7_watch 43 = .ok (.invokevirtual 188, 3) := by decide +kernel
theorem dX7_watch_46 : decode cX7_watch 46 = .ok (.aload_n 0, 1) := by decide +kernel
theorem dX7_watch_47 : decode cX7_watch 47 = .ok (.getfield 18, 3) := by decide +kernel
theorem dX7_watch_50 : decode cX7_watch 50 = .ok (.invokevirtual 188, 3) := by decide +kernel
theorem dX7_watch_53 : decode cX7_watch 53 = .ok (.aload_n 0, 1) := by decide +kernel
theorem dX7_watch_54 : decode cX7_watch 54 = .ok (.getfield 26, 3) := by decide +kernel
theorem dX7_watch_57 : decode cX7_watch 57 = .ok (.aload_n 0, 1) := by decide +kernel
theorem dX7_watch_58 : decode cX7_watch 58 = .ok (.getfield 33, 3) := by decide +kernel
theorem dX7_watch_61 : decode cX7_watch 61 = .ok (.invokevirtual 191, 3) := by decide +kernel
theorem dX7_watch_64 : decode cX7_watch 64 = .ok (.invokevirtual 194, 3) := by decide +kernel
theorem dX7_watch_67 : decode cX7_watch 67 = .ok (.istore_n 2, 1) := by decide +kernel
theorem dX7_watch_68 : decode cX7_watch 68 = .ok (.iload_n 1, 1) := by decide +kernel
theorem dX7_watch_69 : decode cX7_watch 69 = .ok (.ifCond .ne 7, 3) := by decide +kernel
theorem dX7_watch_72 : decode cX7_watch 72 = .ok (.iload_n 2, 1) := by decide +kernel
theorem dX7_watch_73 : decode cX7_watch 73 = .ok (.goto 11, 3) := by decide +kernel
theorem dX7_watch_76 : decode cX7_watch 76 = .ok (.aload_n 0, 1) := by decide +kernel
theorem dX7_watch_77 : decode cX7_watch 77 = .ok (.getfield 26, 3) := by decide +kernel
theorem dX7_watch_80 : decode cX7_watch 80 = .ok (.iload_n 2, 1) := by decide +kernel
theorem dX7_watch_81 : decode cX7_watch 81 = .ok (.invokevirtual 197, 3) := by decide +kernel
theorem dX7_watch_84 : decode cX7_watch 84 = .ok (.ireturn, 1) := by decide +kernel
set_option maxRecDepth 20000 in
theorem ggX7_worth_X7_noPerson : GoodIn wsX7_worth wsX7_noPerson := goodIn_r _ [5, 6, 7, 4, 8] (by decide +kernel) (by decide +kernel)
set_option maxRecDepth 20000 in
theorem gX7_worth_X7_noPerson : GoodIn wsX7_worth (va_wsS RX7 160 yX7_noPerson wsX7_noPerson) := goodIn_app (goodIn_of _ (by decide +kernel)) ggX7_worth_X7_noPerson
set_option maxRecDepth 20000 in
theorem ggX7_worth_X7_outside : GoodIn wsX7_worth wsX7_outside := goodIn_r _ [8] (by decide +kernel) (by decide +kernel)
set_option maxRecDepth 20000 in
theorem gX7_worth_X7_outside : GoodIn wsX7_worth (va_wsS RX7 76 yX7_outside wsX7_outside) := goodIn_app (goodIn_of _ (by decide +kernel)) ggX7_worth_X7_outside
theorem dX7_worth_0 : decode cX7_worth 0 = .ok (.iload_n 1, 1) := by decide +kernel
theorem dX7_worth_1 : decode cX7_worth 1 = .ok (.invokestatic 160, 3) := by decide +kernel
theorem dX7_worth_4 : decode cX7_worth 4 = .ok (.ifCond .ne 13, 3) := by decide +kernel
theorem dX7_worth_7 : decode cX7_worth 7 = .ok (.iload_n 2, 1) := by decide +kernel
theorem dX7_worth_8 : decode cX7_worth 8 = .ok (.iconst 0, 1) := by decide +kernel
theorem dX7_worth_9 : decode cX7_worth 9 = .ok (.bipush 99, 2) := by decide +kernel
theorem dX7_worth_11 : decode cX7_worth 11 = .ok (.invokestatic 76, 3) := by decide +kernel
theorem dX7_worth_14 : decode cX7_worth 14 = .ok (.ifCond .eq 6, 3) := by decide +kernel
theorem dX7_worth_17 : decode cX7_worth 17 = .ok (.bipush (-2), 2) := by decide +kernel
theorem dX7_worth_19 : decode cX7_worth 19 = .ok (.ireturn, 1) := by decide +kernel
theorem dX7_worth_20 : decode cX7_worth 20 = .ok (.aload_n 0, 1) := by decide +kernel
theorem dX7_worth_21 : decode cX7_worth 21 = .ok (.getfield 48, 3) := by decide +kernel
theorem dX7_worth_24 : decode cX7_worth 24 = .ok (.iload_n 1, 1) := by decide +kernel
theorem dX7_worth_25 : decode cX7_worth 25 = .ok (.iaload, 1) := by decide +kernel
theorem dX7_worth_26 : decode cX7_worth 26 = .ok (.istore_n 3, 1) := by decide +kernel
theorem dX7_worth_27 : decode cX7_worth 27 = .ok (.aload_n 0, 1) := by decide +kernel
theorem dX7_worth_28 : decode cX7_worth 28 = .ok (.getfield 48, 3) := by decide +kernel
theorem dX7_worth_31 : decode cX7_worth 31 = .ok (.iload_n 1, 1) := by decide +kernel
theorem dX7_worth_32 : decode cX7_worth 32 = .ok (.iload_n 2, 1) := by decide +kernel
theorem dX7_worth_33 : decode cX7_worth 33 = .ok (.iastore, 1) := by decide +kernel
theorem dX7_worth_34 : decode cX7_worth 34 = .ok (.iload_n 3, 1) := by decide +kernel
theorem dX7_worth_35 : decode cX7_worth 35 = .ok (.ireturn, 1) := by decide +kernel
set_option maxRecDepth 20000 in
theorem ggX7_price_X7_outside : GoodIn wsX7_price wsX7_outside := goodIn_r _ [5] (by decide +kernel) (by decide +kernel)
set_option maxRecDepth 20000 in
theorem gX7_price_X7_outside : GoodIn wsX7_price (va_wsS RX7 76 yX7_outside wsX7_outside) := goodIn_app (goodIn_of _ (by decide +kernel)) ggX7_price_X7_outside
set_option maxRecDepth 20000 in
theorem ggX7_price_X7_wantsDark : GoodIn wsX7_price wsX7_wantsDark := goodIn_r _ [9, 10, 15, 16, 17, 18, 19, 20, 21, 22, 23, 24, 25] (by decide +kernel) (by decide +kernel)
set_option maxRecDepth 20000 in
theorem gX7_price_X7_wantsDark : GoodIn wsX7_price (wsV RX7 200 RX7 yX7_wantsDark wsX7_wantsDark) := goodIn_app (goodIn_of _ (by decide +kernel)) ggX7_price_X7_wantsDark
set_option maxRecDepth 20000 in
theorem ggX7_price_X7_aheadInBidding : GoodIn wsX7_price wsX7_aheadInBidding := goodIn_r _ [14, 1, 6, 7, 8, 4, 9, 10, 15, 16, 17, 18, 19, 20, 21, 22, 23, 24, 25] (by decide +kernel) (by decide +kernel)
set_option maxRecDepth 20000 in
theorem gX7_price_X7_aheadInBidding : GoodIn wsX7_price (wsV RX7 203 RX7 yX7_aheadInBidding wsX7_aheadInBidding) := goodIn_app (goodIn_of _ (by decide +kernel)) ggX7_price_X7_aheadInBidding
theorem dX7_price_0 : decode cX7_price 0 = .ok (.iload_n 1, 1) := by decide +kernel
theorem dX7_price_1 : decode cX7_price 1 = .ok (.iconst 0, 1) := by decide +kernel
theorem dX7_price_2 : decode cX7_price 2 = .ok (.bipush 6, 2) := by decide +kernel
theorem dX7_price_4 : decode cX7_price 4 = .ok (.invokestatic 76, 3) := by decide +kernel
theorem dX7_price_7 : decode cX7_price 7 = .ok (.ifCond .eq 6, 3) := by decide +kernel
theorem dX7_price_10 : decode cX7_price 10 = .ok (.bipush (-2), 2) := by decide +kernel
theorem dX7_price_12 : decode cX7_price 12 = .ok (.ireturn, 1) := by decide +kernel
theorem dX7_price_13 : decode cX7_price 13 = .ok (.iconst 0, 1) := by decide +kernel
theorem dX7_price_14 : decode cX7_price 14 = .ok (.istore_n 2, 1) := by decide +kernel
theorem dX7_price_15 : decode cX7_price 15 = .ok (.iload_n 2, 1) := by decide +kernel
theorem dX7_price_16 : decode cX7_price 16 = .ok (.bipush 6, 2) := by decide +kernel
theorem dX7_price_18 : decode cX7_price 18 = .ok (.if_icmp .ge 33, 3) := by decide +kernel
theorem dX7_price_21 : decode cX7_price 21 = .ok (.aload_n 0, 1) := by decide +kernel
theorem dX7_price_22 : decode cX7_price 22 = .ok (.iload_n 2, 1) := by decide +kernel
theorem dX7_price_23 : decode cX7_price 23 = .ok (.invokevirtual 200, 3) := by decide +kernel
theorem dX7_price_26 : decode cX7_price 26 = .ok (.ifCond .eq 19, 3) := by decide +kernel
theorem dX7_price_29 : decode cX7_price 29 = .ok (.aload_n 0, 1) := by decide +kernel
theorem dX7_price_30 : decode cX7_price 30 = .ok (.iload_n 2, 1) := by decide +kernel
theorem dX7_price_31 : decode cX7_price 31 = .ok (.invokevirtual 203, 3) := by decide +kernel
theorem dX7_price_34 : decode cX7_price 34 = .ok (.iload_n 1, 1) := by decide +kernel
theorem dX7_price_35 : decode cX7_price 35 = .ok (.if_icmp .ne 10, 3) := by decide +kernel
theorem dX7_price_38 : decode cX7_price 38 = .ok (.aload_n 0, 1) := by decide +kernel
theorem dX7_price_39 : decode cX7_price 39 = .ok (.getfield 48, 3) := by decide +kernel
theorem dX7_price_42 : decode cX7_price 42 = .ok (.iload_n 2, 1) := by decide +kernel
theorem dX7_price_43 : decode cX7_price 43 = .ok (.iaload, 1) := by decide +kernel
theorem dX7_price_44 : decode cX7_price 44 = .ok (.ireturn, 1) := by decide +kernel
theorem dX7_price_45 : decode cX7_price 45 = .ok (.iinc 2 1, 3) := by decide +kernel
theorem dX7_price_48 : decode cX7_price 48 = .ok (.goto (-33), 3) := by decide +kernel
theorem dX7_price_51 : decode cX7_price 51 = .ok (.iconst 0, 1) := by decide +kernel
theorem dX7_price_52 : decode cX7_price 52 = .ok (.ireturn, 1) := by decide +kernel
set_option maxRecDepth 20000 in
theorem ggX7_plant_X7_plantOf : GoodIn wsX7_plant wsX7_plantOf := goodIn_r _ [6, 7, 8, 9, 5, 10, 13, 14, 15, 16, 17, 18, 19, 20, 21, 22, 23] (by decide +kernel) (by decide +kernel)
set_option maxRecDepth 20000 in
theorem gX7_plant_X7_plantOf : GoodIn wsX7_plant (wsV RX7 206 RX7 yX7_plantOf wsX7_plantOf) := goodIn_app (goodIn_of _ (by decide +kernel)) ggX7_plant_X7_plantOf
set_option maxRecDepth 20000 in
theorem ggX7_plant_X7_outside : GoodIn wsX7_plant wsX7_outside := goodIn_r _ [10] (by decide +kernel) (by decide +kernel)
set_option maxRecDepth 20000 in
theorem gX7_plant_X7_outside : GoodIn wsX7_plant (va_wsS RX7 76 yX7_outside wsX7_outside) := goodIn_app (goodIn_of _ (by decide +kernel)) ggX7_plant_X7_outside
theorem dX7_plant_0 : decode cX7_plant 0 = .ok (.aload_n 0, 1) := by decide +kernel
theorem dX7_plant_1 : decode cX7_plant 1 = .ok (.iload_n 1, 1) := by decide +kernel
theorem dX7_plant_2 : decode cX7_plant 2 = .ok (.invokevirtual 206, 3) := by decide +kernel
theorem dX7_plant_5 : decode cX7_plant 5 = .ok (.astore_n 3, 1) := by decide +kernel
theorem dX7_plant_6 : decode cX7_plant 6 = .ok (.aload_n 3, 1) := by decide +kernel
theorem dX7_plant_7 : decode cX7_plant 7 = .ok (.ifnull 13, 3) := by decide +kernel
theorem dX7_plant_10 : decode cX7_plant 10 = .ok (.iload_n 2, 1) := by decide +kernel
theorem dX7_plant_11 : decode cX7_plant 11 = .ok (.iconst 1, 1) := by decide +kernel
theorem dX7_plant_12 : decode cX7_plant 12 = .ok (.bipush 20, 2) := by decide +kernel
theorem dX7_plant_14 : decode cX7_plant 14 = .ok (.invokestatic 76, 3) := by decide +kernel
theorem dX7_plant_17 : decode cX7_plant 17 = .ok (.ifCond .eq 6, 3) := by decide +kernel
theorem dX7_plant_20 : decode cX7_plant 20 = .ok (.bipush (-2), 2) := by decide +kernel
theorem dX7_plant_22 : decode cX7_plant 22 = .ok (.ireturn, 1) := by decide +kernel
theorem dX7_plant_23 : decode cX7_plant 23 = .ok (.aload_n 3, 1) := by decide +kernel
theorem dX7_plant_24 : decode cX7_plant 24 = .ok (.getfield 210, 3) := by decide +kernel
theorem dX7_plant_27 : decode cX7_plant 27 = .ok (.istore 4, 2) := by decide +kernel
theorem dX7_plant_29 : decode cX7_plant 29 = .ok (.aload_n 3, 1) := by decide +kernel
theorem dX7_plant_30 : decode cX7_plant 30 = .ok (.iload_n 2, 1) := by decide +kernel
theorem dX7_plant_31 : decode cX7_plant 31 = .ok (.putfield 210, 3) := by decide +kernel
theorem dX7_plant_34 : decode cX7_plant 34 = .ok (.iload 4, 2) := by decide +kernel
theorem dX7_plant_36 : decode cX7_plant 36 = .ok (.ireturn, 1) := by decide +kernel
set_option maxRecDepth 20000 in
theorem ggX7_grows_X7_plantOf : GoodIn wsX7_grows wsX7_plantOf := goodIn_r _ [6, 7, 8, 9, 5, 10, 19, 20, 21, 22, 23, 24, 25, 26, 27, 28, 29] (by decide +kernel) (by decide +kernel)
set_option maxRecDepth 20000 in
theorem gX7_grows_X7_plantOf : GoodIn wsX7_grows (wsV RX7 206 RX7 yX7_plantOf wsX7_plantOf) := goodIn_app (goodIn_of _ (by decide +kernel)) ggX7_grows_X7_plantOf
set_option maxRecDepth 20000 in
theorem ggX7_grows_X7_noLight : GoodIn wsX7_grows wsX7_noLight := goodIn_r _ [13, 8, 9, 5, 10] (by decide +kernel) (by decide +kernel)
set_option maxRecDepth 20000 in
theorem gX7_grows_X7_noLight : GoodIn wsX7_grows (va_wsS RX7 122 yX7_noLight wsX7_noLight) := goodIn_app (goodIn_of _ (by decide +kernel)) ggX7_grows_X7_noLight
set_option maxRecDepth 20000 in
theorem ggX7_grows_X7_noGrowth : GoodIn wsX7_grows wsX7_noGrowth := goodIn_r _ [16, 8, 9, 5, 10] (by decide +kernel) (by decide +kernel)
set_option maxRecDepth 20000 in
theorem gX7_grows_X7_noGrowth : GoodIn wsX7_grows (va_wsS RX7 212 yX7_noGrowth wsX7_noGrowth) := goodIn_app (goodIn_of _ (by decide +kernel)) ggX7_grows_X7_noGrowth
theorem dX7_grows_0 : decode cX7_grows 0 = .ok (.aload_n 0, 1) := by decide +kernel
theorem dX7_grows_1 : decode cX7_grows 1 = .ok (.iload_n 1, 1) := by decide +kernel
theorem dX7_grows_2 : decode cX7_grows 2 = .ok (.invokevirtual 206, 3) := by decide +kernel
theorem dX7_grows_5 : decode cX7_grows 5 = .ok (.astore 4, 2) := by decide +kernel
theorem dX7_grows_7 : decode cX7_grows 7 = .ok (.aload 4, 2) := by decide +kernel
theorem dX7_grows_9 : decode cX7_grows 9 = .ok (.ifnull 17, 3) := by decide +kernel
theorem dX7_grows_12 : decode cX7_grows 12 = .ok (.iload_n 2, 1) := by decide +kernel
theorem dX7_grows_13 : decode cX7_grows 13 = .ok (.invokestatic 122, 3) := by decide +kernel
theorem dX7_grows_16 : decode cX7_grows 16 = .ok (.ifCond .ne 10, 3) := by decide +kernel
theorem dX7_grows_19 : decode cX7_grows 19 = .ok (.iload_n 3, 1) := by decide +kernel
theorem dX7_grows_20 : decode cX7_grows 20 = .ok (.invokestatic 212, 3) := by decide +kernel
theorem dX7_grows_23 : decode cX7_grows 23 = .ok (.ifCond .eq 6, 3) := by decide +kernel
theorem dX7_grows_26 : decode cX7_grows 26 = .ok (.bipush (-2), 2) := by decide +kernel
theorem dX7_grows_28 : decode cX7_grows 28 = .ok (.ireturn, 1) := by decide +kernel
theorem dX7_grows_29 : decode cX7_grows 29 = .ok (.aload 4, 2) := by decide +kernel
theorem dX7_grows_31 : decode cX7_grows 31 = .ok (.getfield 215, 3) := by decide +kernel
theorem dX7_grows_34 : decode cX7_grows 34 = .ok (.iload_n 2, 1) := by decide +kernel
theorem dX7_grows_35 : decode cX7_grows 35 = .ok (.iaload, 1) := by decide +kernel
theorem dX7_grows_36 : decode cX7_grows 36 = .ok (.istore 5, 2) := by decide +kernel
theorem dX7_grows_38 : decode cX7_grows 38 = .ok (.aload 4, 2) := by decide +kernel
theorem dX7_grows_40 : decode cX7_grows 40 = .ok (.getfield 215, 3) := by decide +kernel
theorem dX7_grows_43 : decode cX7_grows 43 = .ok (.iload_n 2, 1) := by decide +kernel
theorem dX7_grows_44 : decode cX7_grows 44 = .ok (.iload_n 3, 1) := by decide +kernel
theorem dX7_grows_45 : decode cX7_grows 45 = .ok (.iastore, 1) := by decide +kernel
theorem dX7_grows_46 : decode cX7_grows 46 = .ok (.iload 5, 2) := by decide +kernel
theorem dX7_grows_48 : decode cX7_grows 48 = .ok (.bipush 10, 2) := by decide +kernel
theorem dX7_grows_50 : decode cX7_grows 50 = .ok (.iadd, 1) := by decide +kernel
theorem dX7_grows_51 : decode cX7_grows 51 = .ok (.ireturn, 1) := by decide +kernel
set_option maxRecDepth 20000 in
theorem ggX7_read_X7_sheetOf : GoodIn wsX7_read wsX7_sheetOf := goodIn_r _ [9, 10, 11, 12, 8, 13, 32, 33, 34, 35, 36, 37, 38, 39, 40, 41, 42] (by decide +kernel) (by decide +kernel)
set_option maxRecDepth 20000 in
theorem gX7_read_X7_sheetOf : GoodIn wsX7_read (wsV RX7 218 RX7 yX7_sheetOf wsX7_sheetOf) := goodIn_app (goodIn_of _ (by decide +kernel)) ggX7_read_X7_sheetOf
set_option maxRecDepth 20000 in
theorem ggX7_read_X7_plantOf : GoodIn wsX7_read wsX7_plantOf := goodIn_r _ [17, 18, 11, 12, 8, 13, 32, 33, 34, 35, 36, 37, 38, 39, 40, 41, 42] (by decide +kernel) (by decide +kernel)
set_option maxRecDepth 20000 in
theorem gX7_read_X7_plantOf : GoodIn wsX7_read (wsV RX7 206 RX7 yX7_plantOf wsX7_plantOf) := goodIn_app (goodIn_of _ (by decide +kernel)) ggX7_read_X7_plantOf
set_option maxRecDepth 20000 in
theorem ggX7_read_X7_found : GoodIn wsX7_read wsX7_found := goodIn_r _ [22, 23, 32, 33, 34, 35, 36, 37, 38, 39, 40, 41, 42] (by decide +kernel) (by decide +kernel)
set_option maxRecDepth 20000 in
theorem gX7_read_X7_found : GoodIn wsX7_read (wsV RX7 225 RX7 yX7_found wsX7_found) := goodIn_app (goodIn_of _ (by decide +kernel)) ggX7_read_X7_found
set_option maxRecDepth 20000 in
theorem ggX7_read_X7_noGrowth : GoodIn wsX7_read wsX7_noGrowth := goodIn_r _ [26, 11, 12, 8, 13] (by decide +kernel) (by decide +kernel)
set_option maxRecDepth 20000 in
theorem gX7_read_X7_noGrowth : GoodIn wsX7_read (va_wsS RX7 212 yX7_noGrowth wsX7_noGrowth) := goodIn_app (goodIn_of _ (by decide +kernel)) ggX7_read_X7_noGrowth
theorem dX7_read_0 : decode cX7_read 0 = .ok (.aload_n 0, 1) := by decide +kernel
theorem dX7_read_1 : decode cX7_read 1 = .ok (.iload_n 1, 1) := by decide +kernel
theorem dX7_read_2 : decode cX7_read 2 = .ok (.invokevirtual 218, 3) := by decide +kernel
theorem dX7_read_5 : decode cX7_read 5 = .ok (.astore_n 3, 1) := by decide +kernel
theorem dX7_read_6 : decode cX7_read 6 = .ok (.aload_n 0, 1) := by decide +kernel
theorem dX7_read_7 : decode cX7_read 7 = .ok (.iload_n 2, 1) := by decide +kernel
theorem dX7_read_8 : decode cX7_read 8 = .ok (.invokevirtual 206, 3) := by decide +kernel
theorem dX7_read_11 : decode cX7_read 11 = .ok (.astore 4, 2) := by decide +kernel
theorem dX7_read_13 : decode cX7_read 13 = .ok (.aload_n 3, 1) := by decide +kernel
theorem dX7_read_14 : decode cX7_read 14 = .ok (.ifnull 8, 3) := by decide +kernel
theorem dX7_read_17 : decode cX7_read 17 = .ok (.aload 4, 2) := by decide +kernel
theorem dX7_read_19 : decode cX7_read 19 = .ok (.ifnonnull 6, 3) := by decide +kernel
theorem dX7_read_22 : decode cX7_read 22 = .ok (.bipush (-2), 2) := by decide +kernel
theorem dX7_read_24 : decode cX7_read 24 = .ok (.ireturn, 1) := by decide +kernel
theorem dX7_read_25 : decode cX7_read 25 = .ok (.aload_n 3, 1) := by decide +kernel
theorem dX7_read_26 : decode cX7_read 26 = .ok (.getfield 222, 3) := by decide +kernel
theorem dX7_read_29 : decode cX7_read 29 = .ok (.iconst (-1), 1) := by decide +kernel
theorem dX7_read_30 : decode cX7_read 30 = .ok (.if_icmp .ne 9, 3) := by decide +kernel
theorem dX7_read_33 : decode cX7_read 33 = .ok (.aload_n 0, 1) := by decide +kernel
theorem dX7_read_34 : decode cX7_read 34 = .ok (.iconst 1, 1) := by decide +kernel
theorem dX7_read_35 : decode cX7_read 35 = .ok (.invokevirtual 225, 3) := by decide +kernel
theorem dX7_read_38 : decode cX7_read 38 = .ok (.ireturn, 1) := by decide +kernel
theorem dX7_read_39 : decode cX7_read 39 = .ok (.iconst 0, 1) := by decide +kernel
theorem dX7_read_40 : decode cX7_read 40 = .ok (.istore 5, 2) := by decide +kernel
theorem dX7_read_42 : decode cX7_read 42 = .ok (.iload 5, 2) := by decide +kernel
theorem dX7_read_44 : decode cX7_read 44 = .ok (.iconst 4, 1) := by decide +kernel
theorem dX7_read_45 : decode cX7_read 45 = .ok (.if_icmp .ge 46, 3) := by decide +kernel
theorem dX7_read_48 : decode cX7_read 48 = .ok (.iload 5, 2) := by decide +kernel
theorem dX7_read_50 : decode cX7_read 50 = .ok (.aload_n 3, 1) := by decide +kernel
theorem dX7_read_51 : decode cX7_read 51 = .ok (.getfield 228, 3) := by decide +kernel
theorem dX7_read_54 : decode cX7_read 54 = .ok (.if_icmp .ge 37, 3) := by decide +kernel
theorem dX7_read_57 : decode cX7_read 57 = .ok (.aload_n 3, 1) := by decide +kernel
theorem dX7_read_58 : decode cX7_read 58 = .ok (.getfield 229, 3) := by decide +kernel
theorem dX7_read_61 : decode cX7_read 61 = .ok (.iload 5, 2) := by decide +kernel
theorem dX7_read_63 : decode cX7_read 63 = .ok (.iaload, 1) := by decide +kernel
theorem dX7_read_64 : decode cX7_read 64 = .ok (.invokestatic 212, 3) := by decide +kernel
theorem dX7_read_67 : decode cX7_read 67 = .ok (.ifCond .ne 24, 3) := by decide +kernel
theorem dX7_read_70 : decode cX7_read 70 = .ok (.aload 4, 2) := by decide +kernel
theorem dX7_read_72 : decode cX7_read 72 = .ok (.getfield 215, 3) := by decide +kernel
theorem dX7_read_75 : decode cX7_read 75 = .ok (.iload 5, 2) := by decide +kernel
theorem dX7_read_77 : decode cX7_read 77 = .ok (.aload_n 3, 1) := by decide +kernel
theorem dX7_read_78 : decode cX7_read 78 = .ok (.getfield 229, 3) := by decide +kernel
theorem dX7_read_81 : decode cX7_read 81 = .ok (.iload 5, 2) := by decide +kernel
theorem dX7_read_83 : decode cX7_read 83 = .ok (.iaload, 1) := by decide +kernel
theorem dX7_read_84 : decode cX7_read 84 = .ok (.iastore, 1) := by decide +kernel
theorem dX7_read_85 : decode cX7_read 85 = .ok (.iinc 5 1, 3) := by decide +kernel
theorem dX7_read_88 : decode cX7_read 88 = .ok (.goto (-46), 3) := by decide +kernel
theorem dX7_read_91 : decode cX7_read 91 = .ok (.iload 5, 2) := by decide +kernel
theorem dX7_read_93 : decode cX7_read 93 = .ok (.ireturn, 1) := by decide +kernel
set_option maxRecDepth 20000 in
theorem ggX7_crop_X7_plantOf : GoodIn wsX7_crop wsX7_plantOf := goodIn_r _ [6, 7, 8, 9, 5, 10, 41, 42, 43, 44, 45, 46, 47, 48, 49, 50, 51] (by decide +kernel) (by decide +kernel)
set_option maxRecDepth 20000 in
theorem gX7_crop_X7_plantOf : GoodIn wsX7_crop (wsV RX7 206 RX7 yX7_plantOf wsX7_plantOf) := goodIn_app (goodIn_of _ (by decide +kernel)) ggX7_crop_X7_plantOf
set_option maxRecDepth 20000 in
theorem ggX7_crop_X7_noHour : GoodIn wsX7_crop wsX7_noHour := goodIn_r _ [13, 14, 8, 9, 5, 10] (by decide +kernel) (by decide +kernel)
set_option maxRecDepth 20000 in
theorem gX7_crop_X7_noHour : GoodIn wsX7_crop (va_wsS RX7 110 yX7_noHour wsX7_noHour) := goodIn_app (goodIn_of _ (by decide +kernel)) ggX7_crop_X7_noHour
set_option maxRecDepth 20000 in
theorem ggX7_crop_X2_yieldFrom : GoodIn wsX7_crop wsX2_yieldFrom := goodIn_r _ [19, 20, 21, 22, 23, 24, 25, 26, 27, 28, 29, 30, 31, 32, 33, 34, 35, 36, 37, 38, 39, 40, 52, 53, 54, 55, 56, 57, 58, 59, 60] (by decide +kernel) (by decide +kernel)
set_option maxRecDepth 20000 in
theorem gX7_crop_X2_yieldFrom : GoodIn wsX7_crop (wsV RX7 232 RX2 yX2_yieldFrom wsX2_yieldFrom) := goodIn_app (goodIn_of _ (by decide +kernel)) ggX7_crop_X2_yieldFrom
theorem dX7_crop_0 : decode cX7_crop 0 = .ok (.aload_n 0, 1) := by decide +kernel
theorem dX7_crop_1 : decode cX7_crop 1 = .ok (.iload_n 1, 1) := by decide +kernel
theorem dX7_crop_2 : decode cX7_crop 2 = .ok (.invokevirtual 206, 3) := by decide +kernel
theorem dX7_crop_5 : decode cX7_crop 5 = .ok (.astore_n 3, 1) := by decide +kernel
theorem dX7_crop_6 : decode cX7_crop 6 = .ok (.aload_n 3, 1) := by decide +kernel
theorem dX7_crop_7 : decode cX7_crop 7 = .ok (.ifnull 10, 3) := by decide +kernel
theorem dX7_crop_10 : decode cX7_crop 10 = .ok (.iload_n 2, 1) := by decide +kernel
theorem dX7_crop_11 : decode cX7_crop 11 = .ok (.invokestatic 110, 3) := by decide +kernel
theorem dX7_crop_14 : decode cX7_crop 14 = .ok (.ifCond .eq 8, 3) := by decide +kernel
theorem dX7_crop_17 : decode cX7_crop 17 = .ok (.bipush (-2), 2) := by decide +kernel
theorem dX7_crop_19 : decode cX7_crop 19 = .ok (.goto 12, 3) := by decide +kernel
theorem dX7_crop_22 : decode cX7_crop 22 = .ok (.aload_n 3, 1) := by decide +kernel
theorem dX7_crop_23 : decode cX7_crop 23 = .ok (.aload_n 0, 1) := by decide +kernel
theorem dX7_crop_24 : decode cX7_crop 24 = .ok (.getfield 26, 3) := by decide +kernel
theorem dX7_crop_27 : decode cX7_crop 27 = .ok (.iload_n 2, 1) := by decide +kernel
theorem dX7_crop_28 : decode cX7_crop 28 = .ok (.invokevirtual 232, 3) := by decide +kernel
theorem dX7_crop_31 : decode cX7_crop 31 = .ok (.ireturn, 1) := by decide +kernel
set_option maxRecDepth 20000 in
theorem ggX7_planting_X7_noHour : GoodIn wsX7_planting wsX7_noHour := goodIn_r _ [5, 6, 7, 8, 4, 9] (by decide +kernel) (by decide +kernel)
set_option maxRecDepth 20000 in
theorem gX7_planting_X7_noHour : GoodIn wsX7_planting (va_wsS RX7 110 yX7_noHour wsX7_noHour) := goodIn_app (goodIn_of _ (by decide +kernel)) ggX7_planting_X7_noHour
set_option maxRecDepth 20000 in
theorem ggX7_planting_X7_outside : GoodIn wsX7_planting wsX7_outside := goodIn_r _ [9] (by decide +kernel) (by decide +kernel)
set_option maxRecDepth 20000 in
theorem gX7_planting_X7_outside : GoodIn wsX7_planting (va_wsS RX7 76 yX7_outside wsX7_outside) := goodIn_app (goodIn_of _ (by decide +kernel)) ggX7_planting_X7_outside
set_option maxRecDepth 20000 in
theorem ggX7_planting_X7_findBest : GoodIn wsX7_planting wsX7_findBest := goodIn_r _ [13, 1, 14, 15, 16, 17, 18, 19, 20, 4, 21, 22, 23, 24, 25, 26, 27, 28, 7, 8, 9, 29, 30, 31, 32, 33, 34, 35, 36, 37, 38, 39, 40, 41, 42, 43, 44, 45, 46, 47, 48, 49, 50, 51, 56, 57, 58, 59, 60, 61, 62, 63, 64, 65, 66, 67, 68, 69, 70, 71, 72, 73, 74, 75] (by decide +kernel) (by decide +kernel)
set_option maxRecDepth 20000 in
theorem gX7_planting_X7_findBest : GoodIn wsX7_planting (wsV RX7 236 RX7 yX7_findBest wsX7_findBest) := goodIn_app (goodIn_of _ (by decide +kernel)) ggX7_planting_X7_findBest
set_option maxRecDepth 20000 in
theorem ggX7_planting_X7_firstToPlant : GoodIn wsX7_planting wsX7_firstToPlant := goodIn_r _ [55, 1, 18, 19, 20, 4, 21, 22, 23, 24, 25, 26, 27, 28, 7, 8, 9, 29, 30, 31, 32, 33, 34, 35, 36, 15, 16, 17, 37, 38, 39, 40, 41, 42, 43, 44, 45, 46, 47, 48, 49, 50, 51, 56, 57, 58, 59, 60, 61, 62, 63, 64, 65, 66, 67, 68, 69, 70, 71, 72, 73, 74, 75] (by decide +kernel) (by decide +kernel)
set_option maxRecDepth 20000 in
theorem gX7_planting_X7_firstToPlant : GoodIn wsX7_planting (wsV RX7 239 RX7 yX7_firstToPlant wsX7_firstToPlant) := goodIn_app (goodIn_of _ (by decide +kernel)) ggX7_planting_X7_firstToPlant
theorem dX7_planting_0 : decode cX7_planting 0 = .ok (.iload_n 1, 1) := by decide +kernel
theorem dX7_planting_1 : decode cX7_planting 1 = .ok (.invokestatic 110, 3) := by decide +kernel
theorem dX7_planting_4 : decode cX7_planting 4 = .ok (.ifCond .ne 22, 3) := by decide +kernel
theorem dX7_planting_7 : decode cX7_planting 7 = .ok (.iload_n 2, 1) := by decide +kernel
theorem dX7_planting_8 : decode cX7_planting 8 = .ok (.iconst 0, 1) := by decide +kernel
theorem dX7_planting_9 : decode cX7_planting 9 = .ok (.bipush 60, 2) := by decide +kernel
theorem dX7_planting_11 : decode cX7_planting 11 = .ok (.invokestatic 76, 3) := by decide +kernel
theorem dX7_planting_14 : decode cX7_planting 14 = .ok (.ifCond .ne 12, 3) := by decide +kernel
theorem dX7_planting_17 : decode cX7_planting 17 = .ok (.iload_n 3, 1) := by decide +kernel
theorem dX7_planting_18 : decode cX7_planting 18 = .ok (.iconst 0, 1) := by decide +kernel
theorem dX7_planting_19 : decode cX7_planting 19 = .ok (.iconst 1, 1) := by decide +kernel
theorem dX7_planting_20 : decode cX7_planting 20 = .ok (.invokestatic 76, 3) := by decide +kernel
theorem dX7_planting_23 : decode cX7_planting 23 = .ok (.ifCond .eq 6, 3) := by decide +kernel
theorem dX7_planting_26 : decode cX7_planting 26 = .ok (.bipush (-2), 2) := by decide +kernel
theorem dX7_planting_28 : decode cX7_planting 28 = .ok (.ireturn, 1) := by decide +kernel
theorem dX7_planting_29 : decode cX7_planting 29 = .ok (.aload_n 0, 1) := by decide +kernel
theorem dX7_planting_30 : decode cX7_planting 30 = .ok (.iload_n 1, 1) := by decide +kernel
theorem dX7_planting_31 : decode cX7_planting 31 = .ok (.iload_n 2, 1) := by decide +kernel
theorem dX7_planting_32 : decode cX7_planting 32 = .ok (.invokevirtual 236, 3) := by decide +kernel
theorem dX7_planting_35 : decode cX7_planting 35 = .ok (.iload_n 3, 1) := by decide +kernel
theorem dX7_planting_36 : decode cX7_planting 36 = .ok (.ifCond .ne 12, 3) := by decide +kernel
theorem dX7_planting_39 : decode cX7_planting 39 = .ok (.aload_n 0, 1) := by decide +kernel
theorem dX7_planting_40 : decode cX7_planting 40 = .ok (.getfield 63, 3) := by decide +kernel
theorem dX7_planting_43 : decode cX7_planting 43 = .ok (.iconst 0, 1) := by decide +kernel
theorem dX7_planting_44 : decode cX7_planting 44 = .ok (.iaload, 1) := by decide +kernel
theorem dX7_planting_45 : decode cX7_planting 45 = .ok (.goto 9, 3) := by decide +kernel
theorem dX7_planting_48 : decode cX7_planting 48 = .ok (.aload_n 0, 1) := by decide +kernel
theorem dX7_planting_49 : decode cX7_planting 49 = .ok (.iload_n 1, 1) := by decide +kernel
theorem dX7_planting_50 : decode cX7_planting 50 = .ok (.iload_n 2, 1) := by decide +kernel
theorem dX7_planting_51 : decode cX7_planting 51 = .ok (.invokevirtual 239, 3) := by decide +kernel
theorem dX7_planting_54 : decode cX7_planting 54 = .ok (.ireturn, 1) := by decide +kernel
set_option maxRecDepth 20000 in
theorem ggX7_clouds_X7_sunOf : GoodIn wsX7_clouds wsX7_sunOf := goodIn_r _ [7, 8, 9, 32, 33, 34, 35, 36, 37, 38, 39, 40, 41, 42] (by decide +kernel) (by decide +kernel)
set_option maxRecDepth 20000 in
theorem gX7_clouds_X7_sunOf : GoodIn wsX7_clouds (wsV RX7 72 RX7 yX7_sunOf wsX7_sunOf) := goodIn_app (goodIn_of _ (by decide +kernel)) ggX7_clouds_X7_sunOf
set_option maxRecDepth 20000 in
theorem ggX7_clouds_X7_noHour : GoodIn wsX7_clouds wsX7_noHour := goodIn_r _ [12, 13, 14, 15, 6, 16] (by decide +kernel) (by decide +kernel)
set_option maxRecDepth 20000 in
theorem gX7_clouds_X7_noHour : GoodIn wsX7_clouds (va_wsS RX7 110 yX7_noHour wsX7_noHour) := goodIn_app (goodIn_of _ (by decide +kernel)) ggX7_clouds_X7_noHour
set_option maxRecDepth 20000 in
theorem ggX7_clouds_X7_outside : GoodIn wsX7_clouds wsX7_outside := goodIn_r _ [16] (by decide +kernel) (by decide +kernel)
set_option maxRecDepth 20000 in
theorem gX7_clouds_X7_outside : GoodIn wsX7_clouds (va_wsS RX7 76 yX7_outside wsX7_outside) := goodIn_app (goodIn_of _ (by decide +kernel)) ggX7_clouds_X7_outside
set_option maxRecDepth 20000 in
theorem ggX7_clouds_X5_isUpIn : GoodIn wsX7_clouds wsX5_isUpIn := goodIn_r _ [21, 22, 23, 24, 25, 20, 26, 27, 28, 43, 44, 45, 46, 47] (by decide +kernel) (by decide +kernel)
set_option maxRecDepth 20000 in
theorem gX7_clouds_X5_isUpIn : GoodIn wsX7_clouds (wsV RX7 246 RX5 yX5_isUpIn wsX5_isUpIn) := goodIn_app (goodIn_of _ (by decide +kernel)) ggX7_clouds_X5_isUpIn
set_option maxRecDepth 20000 in
theorem ggX7_clouds_X7_lowestTerms : GoodIn wsX7_clouds wsX7_lowestTerms := goodIn_r _ [31] (by decide +kernel) (by decide +kernel)
set_option maxRecDepth 20000 in
theorem gX7_clouds_X7_lowestTerms : GoodIn wsX7_clouds (va_wsS RX7 251 yX7_lowestTerms wsX7_lowestTerms) := goodIn_app (goodIn_of _ (by decide +kernel)) ggX7_clouds_X7_lowestTerms
theorem dX7_clouds_0 : decode cX7_clouds 0 = .ok (.aload_n 0, 1) := by decide +kernel
theorem dX7_clouds_1 : decode cX7_clouds 1 = .ok (.iload_n 1, 1) := by decide +kernel
theorem dX7_clouds_2 : decode cX7_clouds 2 = .ok (.invokevirtual 72, 3) := by decide +kernel
theorem dX7_clouds_5 : decode cX7_clouds 5 = .ok (.astore 6, 2) := by decide +kernel
