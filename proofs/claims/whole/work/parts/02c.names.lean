theorem dX7_clouds_7 : decode cX7_clouds 7 = .ok (.aload 6, 2) := by decide +kernel
theorem dX7_clouds_9 : decode cX7_clouds 9 = .ok (.ifnull 41, 3) := by decide +kernel
theorem dX7_clouds_12 : decode cX7_clouds 12 = .ok (.iload_n 2, 1) := by decide +kernel
theorem dX7_clouds_13 : decode cX7_clouds 13 = .ok (.invokestatic 110, 3) := by decide +kernel
theorem dX7_clouds_16 : decode cX7_clouds 16 = .ok (.ifCond .ne 34, 3) := by decide +kernel
theorem dX7_clouds_19 : decode cX7_clouds 19 = .ok (.iload_n 3, 1) := by decide +kernel
theorem dX7_clouds_20 : decode cX7_clouds 20 = .ok (.iconst 0, 1) := by decide +kernel
theorem dX7_clouds_21 : decode cX7_clouds 21 = .ok (.bipush 14, 2) := by decide +kernel
theorem dX7_clouds_23 : decode cX7_clouds 23 = .ok (.invokestatic 76, 3) := by decide +kernel
theorem dX7_clouds_26 : decode cX7_clouds 26 = .ok (.ifCond .ne 24, 3) := by decide +kernel
theorem dX7_clouds_29 : decode cX7_clouds 29 = .ok (.iload 4, 2) := by decide +kernel
theorem dX7_clouds_31 : decode cX7_clouds 31 = .ok (.iconst 0, 1) := by decide +kernel
theorem dX7_clouds_32 : decode cX7_clouds 32 = .ok (.bipush 16, 2) := by decide +kernel
theorem dX7_clouds_34 : decode cX7_clouds 34 = .ok (.invokestatic 76, 3) := by decide +kernel
theorem dX7_clouds_37 : decode cX7_clouds 37 = .ok (.ifCond .ne 13, 3) := by decide +kernel
theorem dX7_clouds_40 : decode cX7_clouds 40 = .ok (.iload 5, 2) := by decide +kernel
theorem dX7_clouds_42 : decode cX7_clouds 42 = .ok (.iconst 0, 1) := by decide +kernel
theorem dX7_clouds_43 : decode cX7_clouds 43 = .ok (.iconst 1, 1) := by decide +kernel
theorem dX7_clouds_44 : decode cX7_clouds 44 = .ok (.invokestatic 76, 3) := by decide +kernel
theorem dX7_clouds_47 : decode cX7_clouds 47 = .ok (.ifCond .eq 7, 3) := by decide +kernel
theorem dX7_clouds_50 : decode cX7_clouds 50 = .ok (.ldc2_w 244, 3) := by decide +kernel
theorem dX7_clouds_53 : decode cX7_clouds 53 = .ok (.lreturn, 1) := by decide +kernel
theorem dX7_clouds_54 : decode cX7_clouds 54 = .ok (.lconst 1, 1) := by decide +kernel
theorem dX7_clouds_55 : decode cX7_clouds 55 = .ok (.lstore 7, 2) := by decide +kernel
theorem dX7_clouds_57 : decode cX7_clouds 57 = .ok (.lconst 1, 1) := by decide +kernel
theorem dX7_clouds_58 : decode cX7_clouds 58 = .ok (.lstore 9, 2) := by decide +kernel
theorem dX7_clouds_60 : decode cX7_clouds 60 = .ok (.iconst 0, 1) := by decide +kernel
theorem dX7_clouds_61 : decode cX7_clouds 61 = .ok (.istore 11, 2) := by decide +kernel
theorem dX7_clouds_63 : decode cX7_clouds 63 = .ok (.iload 11, 2) := by decide +kernel
theorem dX7_clouds_65 : decode cX7_clouds 65 = .ok (.iload_n 3, 1) := by decide +kernel
theorem dX7_clouds_66 : decode cX7_clouds 66 = .ok (.if_icmp .ge 37, 3) := by decide +kernel
theorem dX7_clouds_69 : decode cX7_clouds 69 = .ok (.aload 6, 2) := by decide +kernel
theorem dX7_clouds_71 : decode cX7_clouds 71 = .ok (.iload_n 2, 1) := by decide +kernel
theorem dX7_clouds_72 : decode cX7_clouds 72 = .ok (.iload 11, 2) := by decide +kernel
theorem dX7_clouds_74 : decode cX7_clouds 74 = .ok (.iadd, 1) := by decide +kernel
theorem dX7_clouds_75 : decode cX7_clouds 75 = .ok (.invokevirtual 246, 3) := by decide +kernel
theorem dX7_clouds_78 : decode cX7_clouds 78 = .ok (.ifCond .eq 19, 3) := by decide +kernel
theorem dX7_clouds_81 : decode cX7_clouds 81 = .ok (.lload 7, 2) := by decide +kernel
theorem dX7_clouds_83 : decode cX7_clouds 83 = .ok (.iload 4, 2) := by decide +kernel
theorem dX7_clouds_85 : decode cX7_clouds 85 = .ok (.i2l, 1) := by decide +kernel
theorem dX7_clouds_86 : decode cX7_clouds 86 = .ok (.lmul, 1) := by decide +kernel
theorem dX7_clouds_87 : decode cX7_clouds 87 = .ok (.lstore 7, 2) := by decide +kernel
theorem dX7_clouds_89 : decode cX7_clouds 89 = .ok (.lload 9, 2) := by decide +kernel
theorem dX7_clouds_91 : decode cX7_clouds 91 = .ok (.ldc2_w 249, 3) := by decide +kernel
theorem dX7_clouds_94 : decode cX7_clouds 94 = .ok (.lmul, 1) := by decide +kernel
theorem dX7_clouds_95 : decode cX7_clouds 95 = .ok (.lstore 9, 2) := by decide +kernel
theorem dX7_clouds_97 : decode cX7_clouds 97 = .ok (.iinc 11 1, 3) := by decide +kernel
theorem dX7_clouds_100 : decode cX7_clouds 100 = .ok (.goto (-37), 3) := by decide +kernel
theorem dX7_clouds_103 : decode cX7_clouds 103 = .ok (.lload 9, 2) := by decide +kernel
theorem dX7_clouds_105 : decode cX7_clouds 105 = .ok (.lload 7, 2) := by decide +kernel
theorem dX7_clouds_107 : decode cX7_clouds 107 = .ok (.lsub, 1) := by decide +kernel
theorem dX7_clouds_108 : decode cX7_clouds 108 = .ok (.lload 9, 2) := by decide +kernel
theorem dX7_clouds_110 : decode cX7_clouds 110 = .ok (.iload 5, 2) := by decide +kernel
theorem dX7_clouds_112 : decode cX7_clouds 112 = .ok (.invokestatic 251, 3) := by decide +kernel
theorem dX7_clouds_115 : decode cX7_clouds 115 = .ok (.lreturn, 1) := by decide +kernel
set_option maxRecDepth 20000 in
theorem ggX7_sheet_X7_sheetOf : GoodIn wsX7_sheet wsX7_sheetOf := goodIn_r _ [5, 6, 7, 8, 4, 9, 26, 27, 28, 29, 30, 31, 32, 33, 34, 35, 36] (by decide +kernel) (by decide +kernel)
set_option maxRecDepth 20000 in
theorem gX7_sheet_X7_sheetOf : GoodIn wsX7_sheet (wsV RX7 218 RX7 yX7_sheetOf wsX7_sheetOf) := goodIn_app (goodIn_of _ (by decide +kernel)) ggX7_sheet_X7_sheetOf
set_option maxRecDepth 20000 in
theorem ggX7_sheet_X7_noForm : GoodIn wsX7_sheet wsX7_noForm := goodIn_r _ [12, 7, 8, 4, 9] (by decide +kernel) (by decide +kernel)
set_option maxRecDepth 20000 in
theorem gX7_sheet_X7_noForm : GoodIn wsX7_sheet (va_wsS RX7 255 yX7_noForm wsX7_noForm) := goodIn_app (goodIn_of _ (by decide +kernel)) ggX7_sheet_X7_noForm
set_option maxRecDepth 20000 in
theorem ggX7_sheet_X7_found : GoodIn wsX7_sheet wsX7_found := goodIn_r _ [16, 17, 26, 27, 28, 29, 30, 31, 32, 33, 34, 35, 36] (by decide +kernel) (by decide +kernel)
set_option maxRecDepth 20000 in
theorem gX7_sheet_X7_found : GoodIn wsX7_sheet (wsV RX7 225 RX7 yX7_found wsX7_found) := goodIn_app (goodIn_of _ (by decide +kernel)) ggX7_sheet_X7_found
set_option maxRecDepth 20000 in
theorem ggX7_sheet_X3_begin : GoodIn wsX7_sheet wsX3_begin := goodIn_r _ [22, 23, 24, 25, 37, 38, 39] (by decide +kernel) (by decide +kernel)
set_option maxRecDepth 20000 in
theorem gX7_sheet_X3_begin : GoodIn wsX7_sheet (wsV RX7 258 RX3 yX3_begin wsX3_begin) := goodIn_app (goodIn_of _ (by decide +kernel)) ggX7_sheet_X3_begin
theorem dX7_sheet_0 : decode cX7_sheet 0 = .ok (.aload_n 0, 1) := by decide +kernel
theorem dX7_sheet_1 : decode cX7_sheet 1 = .ok (.iload_n 1, 1) := by decide +kernel
theorem dX7_sheet_2 : decode cX7_sheet 2 = .ok (.invokevirtual 218, 3) := by decide +kernel
theorem dX7_sheet_5 : decode cX7_sheet 5 = .ok (.astore 4, 2) := by decide +kernel
theorem dX7_sheet_7 : decode cX7_sheet 7 = .ok (.aload 4, 2) := by decide +kernel
theorem dX7_sheet_9 : decode cX7_sheet 9 = .ok (.ifnull 16, 3) := by decide +kernel
theorem dX7_sheet_12 : decode cX7_sheet 12 = .ok (.iload_n 2, 1) := by decide +kernel
theorem dX7_sheet_13 : decode cX7_sheet 13 = .ok (.invokestatic 255, 3) := by decide +kernel
theorem dX7_sheet_16 : decode cX7_sheet 16 = .ok (.ifCond .ne 9, 3) := by decide +kernel
theorem dX7_sheet_19 : decode cX7_sheet 19 = .ok (.iload_n 3, 1) := by decide +kernel
theorem dX7_sheet_20 : decode cX7_sheet 20 = .ok (.bipush 48, 2) := by decide +kernel
theorem dX7_sheet_22 : decode cX7_sheet 22 = .ok (.if_icmp .le 6, 3) := by decide +kernel
theorem dX7_sheet_25 : decode cX7_sheet 25 = .ok (.bipush (-2), 2) := by decide +kernel
theorem dX7_sheet_27 : decode cX7_sheet 27 = .ok (.ireturn, 1) := by decide +kernel
theorem dX7_sheet_28 : decode cX7_sheet 28 = .ok (.iload_n 3, 1) := by decide +kernel
theorem dX7_sheet_29 : decode cX7_sheet 29 = .ok (.ifCond .ge 9, 3) := by decide +kernel
theorem dX7_sheet_32 : decode cX7_sheet 32 = .ok (.aload_n 0, 1) := by decide +kernel
theorem dX7_sheet_33 : decode cX7_sheet 33 = .ok (.iconst 5, 1) := by decide +kernel
theorem dX7_sheet_34 : decode cX7_sheet 34 = .ok (.invokevirtual 225, 3) := by decide +kernel
theorem dX7_sheet_37 : decode cX7_sheet 37 = .ok (.ireturn, 1) := by decide +kernel
theorem dX7_sheet_38 : decode cX7_sheet 38 = .ok (.aload 4, 2) := by decide +kernel
theorem dX7_sheet_40 : decode cX7_sheet 40 = .ok (.iload_n 2, 1) := by decide +kernel
theorem dX7_sheet_41 : decode cX7_sheet 41 = .ok (.iload_n 3, 1) := by decide +kernel
theorem dX7_sheet_42 : decode cX7_sheet 42 = .ok (.invokevirtual 258, 3) := by decide +kernel
theorem dX7_sheet_45 : decode cX7_sheet 45 = .ok (.iload_n 3, 1) := by decide +kernel
theorem dX7_sheet_46 : decode cX7_sheet 46 = .ok (.ireturn, 1) := by decide +kernel
set_option maxRecDepth 20000 in
theorem ggX7_lose_X7_sheetOf : GoodIn wsX7_lose wsX7_sheetOf := goodIn_r _ [7, 8, 9, 10, 6, 11, 20, 21, 22, 23, 24, 25, 26, 27, 28, 29, 30] (by decide +kernel) (by decide +kernel)
set_option maxRecDepth 20000 in
theorem gX7_lose_X7_sheetOf : GoodIn wsX7_lose (wsV RX7 218 RX7 yX7_sheetOf wsX7_sheetOf) := goodIn_app (goodIn_of _ (by decide +kernel)) ggX7_lose_X7_sheetOf
set_option maxRecDepth 20000 in
theorem ggX7_lose_X7_found : GoodIn wsX7_lose wsX7_found := goodIn_r _ [15, 16, 20, 21, 22, 23, 24, 25, 26, 27, 28, 29, 30] (by decide +kernel) (by decide +kernel)
set_option maxRecDepth 20000 in
theorem gX7_lose_X7_found : GoodIn wsX7_lose (wsV RX7 225 RX7 yX7_found wsX7_found) := goodIn_app (goodIn_of _ (by decide +kernel)) ggX7_lose_X7_found
theorem dX7_lose_0 : decode cX7_lose 0 = .ok (.aload_n 0, 1) := by decide +kernel
theorem dX7_lose_1 : decode cX7_lose 1 = .ok (.iload_n 1, 1) := by decide +kernel
theorem dX7_lose_2 : decode cX7_lose 2 = .ok (.invokevirtual 218, 3) := by decide +kernel
theorem dX7_lose_5 : decode cX7_lose 5 = .ok (.astore_n 2, 1) := by decide +kernel
theorem dX7_lose_6 : decode cX7_lose 6 = .ok (.aload_n 2, 1) := by decide +kernel
theorem dX7_lose_7 : decode cX7_lose 7 = .ok (.ifnonnull 6, 3) := by decide +kernel
theorem dX7_lose_10 : decode cX7_lose 10 = .ok (.bipush (-2), 2) := by decide +kernel
theorem dX7_lose_12 : decode cX7_lose 12 = .ok (.ireturn, 1) := by decide +kernel
theorem dX7_lose_13 : decode cX7_lose 13 = .ok (.aload_n 2, 1) := by decide +kernel
theorem dX7_lose_14 : decode cX7_lose 14 = .ok (.getfield 222, 3) := by decide +kernel
theorem dX7_lose_17 : decode cX7_lose 17 = .ok (.iconst (-1), 1) := by decide +kernel
theorem dX7_lose_18 : decode cX7_lose 18 = .ok (.if_icmp .ne 9, 3) := by decide +kernel
theorem dX7_lose_21 : decode cX7_lose 21 = .ok (.aload_n 0, 1) := by decide +kernel
theorem dX7_lose_22 : decode cX7_lose 22 = .ok (.iconst 1, 1) := by decide +kernel
theorem dX7_lose_23 : decode cX7_lose 23 = .ok (.invokevirtual 225, 3) := by decide +kernel
theorem dX7_lose_26 : decode cX7_lose 26 = .ok (.ireturn, 1) := by decide +kernel
theorem dX7_lose_27 : decode cX7_lose 27 = .ok (.aload_n 2, 1) := by decide +kernel
theorem dX7_lose_28 : decode cX7_lose 28 = .ok (.iconst (-1), 1) := by decide +kernel
theorem dX7_lose_29 : decode cX7_lose 29 = .ok (.putfield 222, 3) := by decide +kernel
theorem dX7_lose_32 : decode cX7_lose 32 = .ok (.aload_n 2, 1) := by decide +kernel
theorem dX7_lose_33 : decode cX7_lose 33 = .ok (.getfield 228, 3) := by decide +kernel
theorem dX7_lose_36 : decode cX7_lose 36 = .ok (.ireturn, 1) := by decide +kernel
set_option maxRecDepth 20000 in
theorem ggX7_put_X7_sheetOf : GoodIn wsX7_put wsX7_sheetOf := goodIn_r _ [6, 7, 8, 9, 5, 10, 33, 34, 35, 36, 37, 38, 39, 40, 41, 42, 43] (by decide +kernel) (by decide +kernel)
set_option maxRecDepth 20000 in
theorem gX7_put_X7_sheetOf : GoodIn wsX7_put (wsV RX7 218 RX7 yX7_sheetOf wsX7_sheetOf) := goodIn_app (goodIn_of _ (by decide +kernel)) ggX7_put_X7_sheetOf
set_option maxRecDepth 20000 in
theorem ggX7_put_X7_noForm : GoodIn wsX7_put wsX7_noForm := goodIn_r _ [13, 8, 9, 5, 10] (by decide +kernel) (by decide +kernel)
set_option maxRecDepth 20000 in
theorem gX7_put_X7_noForm : GoodIn wsX7_put (va_wsS RX7 255 yX7_noForm wsX7_noForm) := goodIn_app (goodIn_of _ (by decide +kernel)) ggX7_put_X7_noForm
set_option maxRecDepth 20000 in
theorem ggX7_put_X3_findingOf : GoodIn wsX7_put wsX3_findingOf := goodIn_r _ [18, 19, 20, 30, 31, 32] (by decide +kernel) (by decide +kernel)
set_option maxRecDepth 20000 in
theorem gX7_put_X3_findingOf : GoodIn wsX7_put (wsV RX7 261 RX3 yX3_findingOf wsX3_findingOf) := goodIn_app (goodIn_of _ (by decide +kernel)) ggX7_put_X3_findingOf
set_option maxRecDepth 20000 in
theorem ggX7_put_X7_found : GoodIn wsX7_put wsX7_found := goodIn_r _ [24, 25, 33, 34, 35, 36, 37, 38, 39, 40, 41, 42, 43] (by decide +kernel) (by decide +kernel)
set_option maxRecDepth 20000 in
theorem gX7_put_X7_found : GoodIn wsX7_put (wsV RX7 225 RX7 yX7_found wsX7_found) := goodIn_app (goodIn_of _ (by decide +kernel)) ggX7_put_X7_found
set_option maxRecDepth 20000 in
theorem ggX7_put_X3_lowestBits : GoodIn wsX7_put wsX3_lowestBits := goodIn_r _ [29, 19, 30, 31, 32] (by decide +kernel) (by decide +kernel)
set_option maxRecDepth 20000 in
theorem gX7_put_X3_lowestBits : GoodIn wsX7_put (wsV RX7 264 RX3 yX3_lowestBits wsX3_lowestBits) := goodIn_app (goodIn_of _ (by decide +kernel)) ggX7_put_X3_lowestBits
theorem dX7_put_0 : decode cX7_put 0 = .ok (.aload_n 0, 1) := by decide +kernel
theorem dX7_put_1 : decode cX7_put 1 = .ok (.iload_n 1, 1) := by decide +kernel
theorem dX7_put_2 : decode cX7_put 2 = .ok (.invokevirtual 218, 3) := by decide +kernel
theorem dX7_put_5 : decode cX7_put 5 = .ok (.astore 5, 2) := by decide +kernel
theorem dX7_put_7 : decode cX7_put 7 = .ok (.aload 5, 2) := by decide +kernel
theorem dX7_put_9 : decode cX7_put 9 = .ok (.ifnull 10, 3) := by decide +kernel
theorem dX7_put_12 : decode cX7_put 12 = .ok (.iload_n 2, 1) := by decide +kernel
theorem dX7_put_13 : decode cX7_put 13 = .ok (.invokestatic 255, 3) := by decide +kernel
theorem dX7_put_16 : decode cX7_put 16 = .ok (.ifCond .eq 6, 3) := by decide +kernel
theorem dX7_put_19 : decode cX7_put 19 = .ok (.bipush (-2), 2) := by decide +kernel
theorem dX7_put_21 : decode cX7_put 21 = .ok (.ireturn, 1) := by decide +kernel
theorem dX7_put_22 : decode cX7_put 22 = .ok (.aload 5, 2) := by decide +kernel
theorem dX7_put_24 : decode cX7_put 24 = .ok (.iload_n 2, 1) := by decide +kernel
theorem dX7_put_25 : decode cX7_put 25 = .ok (.iload_n 3, 1) := by decide +kernel
theorem dX7_put_26 : decode cX7_put 26 = .ok (.invokevirtual 261, 3) := by decide +kernel
theorem dX7_put_29 : decode cX7_put 29 = .ok (.istore 6, 2) := by decide +kernel
theorem dX7_put_31 : decode cX7_put 31 = .ok (.iload 6, 2) := by decide +kernel
theorem dX7_put_33 : decode cX7_put 33 = .ok (.ifCond .eq 10, 3) := by decide +kernel
theorem dX7_put_36 : decode cX7_put 36 = .ok (.aload_n 0, 1) := by decide +kernel
theorem dX7_put_37 : decode cX7_put 37 = .ok (.iload 6, 2) := by decide +kernel
theorem dX7_put_39 : decode cX7_put 39 = .ok (.invokevirtual 225, 3) := by decide +kernel
theorem dX7_put_42 : decode cX7_put 42 = .ok (.ireturn, 1) := by decide +kernel
theorem dX7_put_43 : decode cX7_put 43 = .ok (.aload 5, 2) := by decide +kernel
theorem dX7_put_45 : decode cX7_put 45 = .ok (.getfield 229, 3) := by decide +kernel
theorem dX7_put_48 : decode cX7_put 48 = .ok (.iload_n 3, 1) := by decide +kernel
theorem dX7_put_49 : decode cX7_put 49 = .ok (.aload 5, 2) := by decide +kernel
theorem dX7_put_51 : decode cX7_put 51 = .ok (.iload 4, 2) := by decide +kernel
theorem dX7_put_53 : decode cX7_put 53 = .ok (.invokevirtual 264, 3) := by decide +kernel
theorem dX7_put_56 : decode cX7_put 56 = .ok (.iastore, 1) := by decide +kernel
theorem dX7_put_57 : decode cX7_put 57 = .ok (.iconst 1, 1) := by decide +kernel
theorem dX7_put_58 : decode cX7_put 58 = .ok (.ireturn, 1) := by decide +kernel
set_option maxRecDepth 20000 in
theorem ggX7_get_X7_sheetOf : GoodIn wsX7_get wsX7_sheetOf := goodIn_r _ [7, 8, 9, 10, 6, 11, 30, 31, 32, 33, 34, 35, 36, 37, 38, 39, 40] (by decide +kernel) (by decide +kernel)
set_option maxRecDepth 20000 in
theorem gX7_get_X7_sheetOf : GoodIn wsX7_get (wsV RX7 218 RX7 yX7_sheetOf wsX7_sheetOf) := goodIn_app (goodIn_of _ (by decide +kernel)) ggX7_get_X7_sheetOf
set_option maxRecDepth 20000 in
theorem ggX7_get_X7_noForm : GoodIn wsX7_get wsX7_noForm := goodIn_r _ [14, 9, 10, 6, 11] (by decide +kernel) (by decide +kernel)
set_option maxRecDepth 20000 in
theorem gX7_get_X7_noForm : GoodIn wsX7_get (va_wsS RX7 255 yX7_noForm wsX7_noForm) := goodIn_app (goodIn_of _ (by decide +kernel)) ggX7_get_X7_noForm
set_option maxRecDepth 20000 in
theorem ggX7_get_X3_findingOf : GoodIn wsX7_get wsX3_findingOf := goodIn_r _ [19, 20, 21, 27, 28, 29] (by decide +kernel) (by decide +kernel)
set_option maxRecDepth 20000 in
theorem gX7_get_X3_findingOf : GoodIn wsX7_get (wsV RX7 261 RX3 yX3_findingOf wsX3_findingOf) := goodIn_app (goodIn_of _ (by decide +kernel)) ggX7_get_X3_findingOf
set_option maxRecDepth 20000 in
theorem ggX7_get_X7_found : GoodIn wsX7_get wsX7_found := goodIn_r _ [25, 26, 30, 31, 32, 33, 34, 35, 36, 37, 38, 39, 40] (by decide +kernel) (by decide +kernel)
set_option maxRecDepth 20000 in
theorem gX7_get_X7_found : GoodIn wsX7_get (wsV RX7 225 RX7 yX7_found wsX7_found) := goodIn_app (goodIn_of _ (by decide +kernel)) ggX7_get_X7_found
theorem dX7_get_0 : decode cX7_get 0 = .ok (.aload_n 0, 1) := by decide +kernel
theorem dX7_get_1 : decode cX7_get 1 = .ok (.iload_n 1, 1) := by decide +kernel
theorem dX7_get_2 : decode cX7_get 2 = .ok (.invokevirtual 218, 3) := by decide +kernel
theorem dX7_get_5 : decode cX7_get 5 = .ok (.astore 4, 2) := by decide +kernel
theorem dX7_get_7 : decode cX7_get 7 = .ok (.aload 4, 2) := by decide +kernel
theorem dX7_get_9 : decode cX7_get 9 = .ok (.ifnull 10, 3) := by decide +kernel
theorem dX7_get_12 : decode cX7_get 12 = .ok (.iload_n 2, 1) := by decide +kernel
theorem dX7_get_13 : decode cX7_get 13 = .ok (.invokestatic 255, 3) := by decide +kernel
theorem dX7_get_16 : decode cX7_get 16 = .ok (.ifCond .eq 7, 3) := by decide +kernel
theorem dX7_get_19 : decode cX7_get 19 = .ok (.ldc_w 269, 3) := by decide +kernel
theorem dX7_get_22 : decode cX7_get 22 = .ok (.ireturn, 1) := by decide +kernel
theorem dX7_get_23 : decode cX7_get 23 = .ok (.aload 4, 2) := by decide +kernel
theorem dX7_get_25 : decode cX7_get 25 = .ok (.iload_n 2, 1) := by decide +kernel
theorem dX7_get_26 : decode cX7_get 26 = .ok (.iload_n 3, 1) := by decide +kernel
theorem dX7_get_27 : decode cX7_get 27 = .ok (.invokevirtual 261, 3) := by decide +kernel
theorem dX7_get_30 : decode cX7_get 30 = .ok (.istore 5, 2) := by decide +kernel
theorem dX7_get_32 : decode cX7_get 32 = .ok (.iload 5, 2) := by decide +kernel
theorem dX7_get_34 : decode cX7_get 34 = .ok (.ifCond .eq 14, 3) := by decide +kernel
theorem dX7_get_37 : decode cX7_get 37 = .ok (.aload_n 0, 1) := by decide +kernel
theorem dX7_get_38 : decode cX7_get 38 = .ok (.iload 5, 2) := by decide +kernel
theorem dX7_get_40 : decode cX7_get 40 = .ok (.invokevirtual 225, 3) := by decide +kernel
theorem dX7_get_43 : decode cX7_get 43 = .ok (.pop, 1) := by decide +kernel
theorem dX7_get_44 : decode cX7_get 44 = .ok (.ldc_w 269, 3) := by decide +kernel
theorem dX7_get_47 : decode cX7_get 47 = .ok (.ireturn, 1) := by decide +kernel
theorem dX7_get_48 : decode cX7_get 48 = .ok (.aload 4, 2) := by decide +kernel
theorem dX7_get_50 : decode cX7_get 50 = .ok (.getfield 229, 3) := by decide +kernel
theorem dX7_get_53 : decode cX7_get 53 = .ok (.iload_n 3, 1) := by decide +kernel
theorem dX7_get_54 : decode cX7_get 54 = .ok (.iaload, 1) := by decide +kernel
theorem dX7_get_55 : decode cX7_get 55 = .ok (.ireturn, 1) := by decide +kernel
set_option maxRecDepth 20000 in
theorem ggX7_copy_X7_sheetOf : GoodIn wsX7_copy wsX7_sheetOf := goodIn_r _ [11, 12, 13, 14, 10, 15, 30, 31, 32, 33, 34, 35, 36, 37, 38, 39, 40] (by decide +kernel) (by decide +kernel)
set_option maxRecDepth 20000 in
theorem gX7_copy_X7_sheetOf : GoodIn wsX7_copy (wsV RX7 218 RX7 yX7_sheetOf wsX7_sheetOf) := goodIn_app (goodIn_of _ (by decide +kernel)) ggX7_copy_X7_sheetOf
set_option maxRecDepth 20000 in
theorem ggX7_copy_X7_found : GoodIn wsX7_copy wsX7_found := goodIn_r _ [19, 20, 30, 31, 32, 33, 34, 35, 36, 37, 38, 39, 40] (by decide +kernel) (by decide +kernel)
set_option maxRecDepth 20000 in
theorem gX7_copy_X7_found : GoodIn wsX7_copy (wsV RX7 225 RX7 yX7_found wsX7_found) := goodIn_app (goodIn_of _ (by decide +kernel)) ggX7_copy_X7_found
set_option maxRecDepth 20000 in
theorem ggX7_copy_X3_holds : GoodIn wsX7_copy wsX3_holds := goodIn_r _ [25, 26, 27, 28, 29] (by decide +kernel) (by decide +kernel)
set_option maxRecDepth 20000 in
theorem gX7_copy_X3_holds : GoodIn wsX7_copy (wsV RX7 270 RX3 yX3_holds wsX3_holds) := goodIn_app (goodIn_of _ (by decide +kernel)) ggX7_copy_X3_holds
theorem dX7_copy_0 : decode cX7_copy 0 = .ok (.aload_n 0, 1) := by decide +kernel
theorem dX7_copy_1 : decode cX7_copy 1 = .ok (.iload_n 1, 1) := by decide +kernel
theorem dX7_copy_2 : decode cX7_copy 2 = .ok (.invokevirtual 218, 3) := by decide +kernel
theorem dX7_copy_5 : decode cX7_copy 5 = .ok (.astore 6, 2) := by decide +kernel
theorem dX7_copy_7 : decode cX7_copy 7 = .ok (.aload_n 0, 1) := by decide +kernel
theorem dX7_copy_8 : decode cX7_copy 8 = .ok (.iload_n 3, 1) := by decide +kernel
theorem dX7_copy_9 : decode cX7_copy 9 = .ok (.invokevirtual 218, 3) := by decide +kernel
theorem dX7_copy_12 : decode cX7_copy 12 = .ok (.astore 7, 2) := by decide +kernel
theorem dX7_copy_14 : decode cX7_copy 14 = .ok (.aload 6, 2) := by decide +kernel
theorem dX7_copy_16 : decode cX7_copy 16 = .ok (.ifnull 8, 3) := by decide +kernel
theorem dX7_copy_19 : decode cX7_copy 19 = .ok (.aload 7, 2) := by decide +kernel
theorem dX7_copy_21 : decode cX7_copy 21 = .ok (.ifnonnull 6, 3) := by decide +kernel
theorem dX7_copy_24 : decode cX7_copy 24 = .ok (.bipush (-2), 2) := by decide +kernel
theorem dX7_copy_26 : decode cX7_copy 26 = .ok (.ireturn, 1) := by decide +kernel
theorem dX7_copy_27 : decode cX7_copy 27 = .ok (.aload 6, 2) := by decide +kernel
theorem dX7_copy_29 : decode cX7_copy 29 = .ok (.getfield 222, 3) := by decide +kernel
theorem dX7_copy_32 : decode cX7_copy 32 = .ok (.iconst (-1), 1) := by decide +kernel
theorem dX7_copy_33 : decode cX7_copy 33 = .ok (.if_icmp .eq 12, 3) := by decide +kernel
theorem dX7_copy_36 : decode cX7_copy 36 = .ok (.aload 7, 2) := by decide +kernel
theorem dX7_copy_38 : decode cX7_copy 38 = .ok (.getfield 222, 3) := by decide +kernel
theorem dX7_copy_41 : decode cX7_copy 41 = .ok (.iconst (-1), 1) := by decide +kernel
theorem dX7_copy_42 : decode cX7_copy 42 = .ok (.if_icmp .ne 9, 3) := by decide +kernel
theorem dX7_copy_45 : decode cX7_copy 45 = .ok (.aload_n 0, 1) := by decide +kernel
theorem dX7_copy_46 : decode cX7_copy 46 = .ok (.iconst 1, 1) := by decide +kernel
theorem dX7_copy_47 : decode cX7_copy 47 = .ok (.invokevirtual 225, 3) := by decide +kernel
theorem dX7_copy_50 : decode cX7_copy 50 = .ok (.ireturn, 1) := by decide +kernel
theorem dX7_copy_51 : decode cX7_copy 51 = .ok (.aload 6, 2) := by decide +kernel
theorem dX7_copy_53 : decode cX7_copy 53 = .ok (.getfield 222, 3) := by decide +kernel
theorem dX7_copy_56 : decode cX7_copy 56 = .ok (.aload 7, 2) := by decide +kernel
theorem dX7_copy_58 : decode cX7_copy 58 = .ok (.getfield 222, 3) := by decide +kernel
theorem dX7_copy_61 : decode cX7_copy 61 = .ok (.if_icmp .eq 9, 3) := by decide +kernel
theorem dX7_copy_64 : decode cX7_copy 64 = .ok (.aload_n 0, 1) := by decide +kernel
theorem dX7_copy_65 : decode cX7_copy 65 = .ok (.iconst 4, 1) := by decide +kernel
theorem dX7_copy_66 : decode cX7_copy 66 = .ok (.invokevirtual 225, 3) := by decide +kernel
theorem dX7_copy_69 : decode cX7_copy 69 = .ok (.ireturn, 1) := by decide +kernel
theorem dX7_copy_70 : decode cX7_copy 70 = .ok (.aload 6, 2) := by decide +kernel
theorem dX7_copy_72 : decode cX7_copy 72 = .ok (.iload_n 2, 1) := by decide +kernel
theorem dX7_copy_73 : decode cX7_copy 73 = .ok (.iload 5, 2) := by decide +kernel
theorem dX7_copy_75 : decode cX7_copy 75 = .ok (.invokevirtual 270, 3) := by decide +kernel
theorem dX7_copy_78 : decode cX7_copy 78 = .ok (.ifCond .eq 15, 3) := by decide +kernel
theorem dX7_copy_81 : decode cX7_copy 81 = .ok (.aload 7, 2) := by decide +kernel
theorem dX7_copy_83 : decode cX7_copy 83 = .ok (.iload 4, 2) := by decide +kernel
theorem dX7_copy_85 : decode cX7_copy 85 = .ok (.iload 5, 2) := by decide +kernel
theorem dX7_copy_87 : decode cX7_copy 87 = .ok (.invokevirtual 270, 3) := by decide +kernel
theorem dX7_copy_90 : decode cX7_copy 90 = .ok (.ifCond .ne 9, 3) := by decide +kernel
theorem dX7_copy_93 : decode cX7_copy 93 = .ok (.aload_n 0, 1) := by decide +kernel
theorem dX7_copy_94 : decode cX7_copy 94 = .ok (.iconst 2, 1) := by decide +kernel
theorem dX7_copy_95 : decode cX7_copy 95 = .ok (.invokevirtual 225, 3) := by decide +kernel
theorem dX7_copy_98 : decode cX7_copy 98 = .ok (.ireturn, 1) := by decide +kernel
theorem dX7_copy_99 : decode cX7_copy 99 = .ok (.aload 6, 2) := by decide +kernel
theorem dX7_copy_101 : decode cX7_copy 101 = .ok (.getfield 229, 3) := by decide +kernel
theorem dX7_copy_104 : decode cX7_copy 104 = .ok (.iload_n 2, 1) := by decide +kernel
theorem dX7_copy_105 : decode cX7_copy 105 = .ok (.aload 7, 2) := by decide +kernel
theorem dX7_copy_107 : decode cX7_copy 107 = .ok (.getfield 229, 3) := by decide +kernel
theorem dX7_copy_110 : decode cX7_copy 110 = .ok (.iload 4, 2) := by decide +kernel
theorem dX7_copy_112 : decode cX7_copy 112 = .ok (.iload 5, 2) := by decide +kernel
theorem dX7_copy_114 : decode cX7_copy 114 = .ok (.invokestatic 274, 3) := by decide +kernel
theorem dX7_copy_117 : decode cX7_copy 117 = .ok (.iconst 1, 1) := by decide +kernel
theorem dX7_copy_118 : decode cX7_copy 118 = .ok (.ireturn, 1) := by decide +kernel
set_option maxRecDepth 20000 in
theorem ggX7_write_X7_sheetOf : GoodIn wsX7_write wsX7_sheetOf := goodIn_r _ [9, 10, 11, 12, 8, 13, 41, 42, 43, 44, 45, 46, 47, 48, 49, 50, 51] (by decide +kernel) (by decide +kernel)
set_option maxRecDepth 20000 in
theorem gX7_write_X7_sheetOf : GoodIn wsX7_write (wsV RX7 218 RX7 yX7_sheetOf wsX7_sheetOf) := goodIn_app (goodIn_of _ (by decide +kernel)) ggX7_write_X7_sheetOf
set_option maxRecDepth 20000 in
theorem ggX7_write_X7_noHour : GoodIn wsX7_write wsX7_noHour := goodIn_r _ [16, 17, 11, 12, 8, 13] (by decide +kernel) (by decide +kernel)
set_option maxRecDepth 20000 in
theorem gX7_write_X7_noHour : GoodIn wsX7_write (va_wsS RX7 110 yX7_noHour wsX7_noHour) := goodIn_app (goodIn_of _ (by decide +kernel)) ggX7_write_X7_noHour
set_option maxRecDepth 20000 in
theorem ggX7_write_X7_found : GoodIn wsX7_write wsX7_found := goodIn_r _ [21, 22, 41, 42, 43, 44, 45, 46, 47, 48, 49, 50, 51] (by decide +kernel) (by decide +kernel)
set_option maxRecDepth 20000 in
theorem gX7_write_X7_found : GoodIn wsX7_write (wsV RX7 225 RX7 yX7_found wsX7_found) := goodIn_app (goodIn_of _ (by decide +kernel)) ggX7_write_X7_found
set_option maxRecDepth 20000 in
theorem ggX7_write_X4_lightIn : GoodIn wsX7_write wsX4_lightIn := goodIn_r _ [27, 28, 29, 30, 31, 32, 33, 34, 35, 36, 37, 52, 53, 54, 55, 56, 57, 58] (by decide +kernel) (by decide +kernel)
set_option maxRecDepth 20000 in
theorem gX7_write_X4_lightIn : GoodIn wsX7_write (wsV RX7 113 RX4 yX4_lightIn wsX4_lightIn) := goodIn_app (goodIn_of _ (by decide +kernel)) ggX7_write_X4_lightIn
theorem dX7_write_0 : decode cX7_write 0 = .ok (.aload_n 0, 1) := by decide +kernel
theorem dX7_write_1 : decode cX7_write 1 = .ok (.iload_n 2, 1) := by decide +kernel
theorem dX7_write_2 : decode cX7_write 2 = .ok (.invokevirtual 218, 3) := by decide +kernel
theorem dX7_write_5 : decode cX7_write 5 = .ok (.astore_n 3, 1) := by decide +kernel
theorem dX7_write_6 : decode cX7_write 6 = .ok (.aload_n 3, 1) := by decide +kernel
theorem dX7_write_7 : decode cX7_write 7 = .ok (.ifnull 10, 3) := by decide +kernel
theorem dX7_write_10 : decode cX7_write 10 = .ok (.iload_n 1, 1) := by decide +kernel
theorem dX7_write_11 : decode cX7_write 11 = .ok (.invokestatic 110, 3) := by decide +kernel
theorem dX7_write_14 : decode cX7_write 14 = .ok (.ifCond .eq 6, 3) := by decide +kernel
theorem dX7_write_17 : decode cX7_write 17 = .ok (.bipush (-2), 2) := by decide +kernel
theorem dX7_write_19 : decode cX7_write 19 = .ok (.ireturn, 1) := by decide +kernel
theorem dX7_write_20 : decode cX7_write 20 = .ok (.aload_n 3, 1) := by decide +kernel
theorem dX7_write_21 : decode cX7_write 21 = .ok (.getfield 222, 3) := by decide +kernel
theorem dX7_write_24 : decode cX7_write 24 = .ok (.iconst (-1), 1) := by decide +kernel
theorem dX7_write_25 : decode cX7_write 25 = .ok (.if_icmp .ne 9, 3) := by decide +kernel
theorem dX7_write_28 : decode cX7_write 28 = .ok (.aload_n 0, 1) := by decide +kernel
theorem dX7_write_29 : decode cX7_write 29 = .ok (.iconst 1, 1) := by decide +kernel
theorem dX7_write_30 : decode cX7_write 30 = .ok (.invokevirtual 225, 3) := by decide +kernel
theorem dX7_write_33 : decode cX7_write 33 = .ok (.ireturn, 1) := by decide +kernel
theorem dX7_write_34 : decode cX7_write 34 = .ok (.iconst 0, 1) := by decide +kernel
theorem dX7_write_35 : decode cX7_write 35 = .ok (.istore 4, 2) := by decide +kernel
theorem dX7_write_37 : decode cX7_write 37 = .ok (.iload 4, 2) := by decide +kernel
theorem dX7_write_39 : decode cX7_write 39 = .ok (.aload_n 3, 1) := by decide +kernel
theorem dX7_write_40 : decode cX7_write 40 = .ok (.getfield 228, 3) := by decide +kernel
theorem dX7_write_43 : decode cX7_write 43 = .ok (.if_icmp .ge 27, 3) := by decide +kernel
theorem dX7_write_46 : decode cX7_write 46 = .ok (.aload_n 3, 1) := by decide +kernel
theorem dX7_write_47 : decode cX7_write 47 = .ok (.getfield 229, 3) := by decide +kernel
theorem dX7_write_50 : decode cX7_write 50 = .ok (.iload 4, 2) := by decide +kernel
theorem dX7_write_52 : decode cX7_write 52 = .ok (.aload_n 0, 1) := by decide +kernel
theorem dX7_write_53 : decode cX7_write 53 = .ok (.getfield 26, 3) := by decide +kernel
theorem dX7_write_56 : decode cX7_write 56 = .ok (.iload_n 1, 1) := by decide +kernel
theorem dX7_write_57 : decode cX7_write 57 = .ok (.iload 4, 2) := by decide +kernel
theorem dX7_write_59 : decode cX7_write 59 = .ok (.iadd, 1) := by decide +kernel
theorem dX7_write_60 : decode cX7_write 60 = .ok (.invokevirtual 113, 3) := by decide +kernel
theorem dX7_write_63 : decode cX7_write 63 = .ok (.iastore, 1) := by decide +kernel
theorem dX7_write_64 : decode cX7_write 64 = .ok (.iinc 4 1, 3) := by decide +kernel
theorem dX7_write_67 : decode cX7_write 67 = .ok (.goto (-30), 3) := by decide +kernel
theorem dX7_write_70 : decode cX7_write 70 = .ok (.aload_n 3, 1) := by decide +kernel
theorem dX7_write_71 : decode cX7_write 71 = .ok (.getfield 228, 3) := by decide +kernel
theorem dX7_write_74 : decode cX7_write 74 = .ok (.ireturn, 1) := by decide +kernel
set_option maxRecDepth 20000 in
theorem ggX7_count_X1_hours : GoodIn wsX7_count wsX1_hours := goodIn_r _ [13, 14, 3, 15, 16, 17, 12, 18, 19, 20, 21, 22, 23, 24, 25, 26, 27, 28, 29, 30, 90, 91, 92, 93] (by decide +kernel) (by decide +kernel)
set_option maxRecDepth 20000 in
theorem gX7_count_X1_hours : GoodIn wsX7_count (wsV RX7 191 RX1 yX1_hours wsX1_hours) := goodIn_app (goodIn_of _ (by decide +kernel)) ggX7_count_X1_hours
set_option maxRecDepth 20000 in
theorem ggX7_count_X1_hoursLooked : GoodIn wsX7_count wsX1_hoursLooked := goodIn_r _ [34, 35, 10, 11, 12, 13, 14, 3, 15, 16, 17, 18, 19, 20, 21, 22, 23, 24, 25, 26, 27, 28, 29, 30, 90, 91, 92, 93] (by decide +kernel) (by decide +kernel)
set_option maxRecDepth 20000 in
theorem gX7_count_X1_hoursLooked : GoodIn wsX7_count (wsV RX7 282 RX1 yX1_hoursLooked wsX1_hoursLooked) := goodIn_app (goodIn_of _ (by decide +kernel)) ggX7_count_X1_hoursLooked
set_option maxRecDepth 20000 in
theorem ggX7_count_X0_months : GoodIn wsX7_count wsX0_months := goodIn_r _ [40, 41, 6, 42, 43, 44, 39, 45, 46, 47, 48, 49, 50, 51, 52, 22, 23, 24, 25, 26, 53, 54, 55, 90, 91, 92, 93] (by decide +kernel) (by decide +kernel)
set_option maxRecDepth 20000 in
theorem gX7_count_X0_months : GoodIn wsX7_count (wsV RX7 144 RX0 yX0_months wsX0_months) := goodIn_app (goodIn_of _ (by decide +kernel)) ggX7_count_X0_months
set_option maxRecDepth 20000 in
theorem ggX7_count_X0_hoursOfAll : GoodIn wsX7_count wsX0_hoursOfAll := goodIn_r _ [59, 60, 37, 38, 39, 40, 41, 6, 42, 43, 44, 45, 46, 47, 48, 49, 50, 51, 52, 22, 23, 24, 25, 26, 53, 54, 55, 61, 62, 63, 64, 90, 91, 92, 93] (by decide +kernel) (by decide +kernel)
set_option maxRecDepth 20000 in
theorem gX7_count_X0_hoursOfAll : GoodIn wsX7_count (wsV RX7 285 RX0 yX0_hoursOfAll wsX0_hoursOfAll) := goodIn_app (goodIn_of _ (by decide +kernel)) ggX7_count_X0_hoursOfAll
set_option maxRecDepth 20000 in
theorem ggX7_count_X4_hoursOfRound : GoodIn wsX7_count wsX4_hoursOfRound := goodIn_r _ [69, 70, 71, 72, 94, 95, 96, 97, 98, 99, 100] (by decide +kernel) (by decide +kernel)
set_option maxRecDepth 20000 in
theorem gX7_count_X4_hoursOfRound : GoodIn wsX7_count (wsV RX7 119 RX4 yX4_hoursOfRound wsX4_hoursOfRound) := goodIn_app (goodIn_of _ (by decide +kernel)) ggX7_count_X4_hoursOfRound
set_option maxRecDepth 20000 in
theorem ggX7_count_X7_allWorths : GoodIn wsX7_count wsX7_allWorths := goodIn_r _ [77, 78, 79, 80, 81, 82, 83, 84, 85, 86, 87, 88, 89] (by decide +kernel) (by decide +kernel)
set_option maxRecDepth 20000 in
theorem gX7_count_X7_allWorths : GoodIn wsX7_count (wsV RX7 288 RX7 yX7_allWorths wsX7_allWorths) := goodIn_app (goodIn_of _ (by decide +kernel)) ggX7_count_X7_allWorths
theorem dX7_count_0 : decode cX7_count 0 = .ok (.iload_n 1, 1) := by decide +kernel
theorem dX7_count_1 : decode cX7_count 1 = .ok (.tableswitch 117 0 8 #[51, 59, 67, 75, 83, 91, 99, 107, 112], 51) := by decide +kernel
theorem dX7_count_52 : decode cX7_count 52 = .ok (.aload_n 0, 1) := by decide +kernel
theorem dX7_count_53 : decode cX7_count 53 = .ok (.getfield 33, 3) := by decide +kernel
theorem dX7_count_56 : decode cX7_count 56 = .ok (.getfield 280, 3) := by decide +kernel
theorem dX7_count_59 : decode cX7_count 59 = .ok (.ireturn, 1) := by decide +kernel
theorem dX7_count_60 : decode cX7_count 60 = .ok (.aload_n 0, 1) := by decide +kernel
theorem dX7_count_61 : decode cX7_count 61 = .ok (.getfield 40, 3) := by decide +kernel
theorem dX7_count_64 : decode cX7_count 64 = .ok (.getfield 281, 3) := by decide +kernel
theorem dX7_count_67 : decode cX7_count 67 = .ok (.ireturn, 1) := by decide +kernel
theorem dX7_count_68 : decode cX7_count 68 = .ok (.aload_n 0, 1) := by decide +kernel
theorem dX7_count_69 : decode cX7_count 69 = .ok (.getfield 33, 3) := by decide +kernel
theorem dX7_count_72 : decode cX7_count 72 = .ok (.invokevirtual 191, 3) := by decide +kernel
theorem dX7_count_75 : decode cX7_count 75 = .ok (.ireturn, 1) := by decide +kernel
theorem dX7_count_76 : decode cX7_count 76 = .ok (.aload_n 0, 1) := by decide +kernel
theorem dX7_count_77 : decode cX7_count 77 = .ok (.getfield 33, 3) := by decide +kernel
theorem dX7_count_80 : decode cX7_count 80 = .ok (.invokevirtual 282, 3) := by decide +kernel
theorem dX7_count_83 : decode cX7_count 83 = .ok (.ireturn, 1) := by decide +kernel
theorem dX7_count_84 : decode cX7_count 84 = .ok (.aload_n 0, 1) := by decide +kernel
theorem dX7_count_85 : decode cX7_count 85 = .ok (.getfield 40, 3) := by decide +kernel
theorem dX7_count_88 : decode cX7_count 88 = .ok (.invokevirtual 144, 3) := by decide +kernel
theorem dX7_count_91 : decode cX7_count 91 = .ok (.ireturn, 1) := by decide +kernel
theorem dX7_count_92 : decode cX7_count 92 = .ok (.aload_n 0, 1) := by decide +kernel
theorem dX7_count_93 : decode cX7_count 93 = .ok (.getfield 40, 3) := by decide +kernel
theorem dX7_count_96 : decode cX7_count 96 = .ok (.invokevirtual 285, 3) := by decide +kernel
theorem dX7_count_99 : decode cX7_count 99 = .ok (.ireturn, 1) := by decide +kernel
theorem dX7_count_100 : decode cX7_count 100 = .ok (.aload_n 0, 1) := by decide +kernel
theorem dX7_count_101 : decode cX7_count 101 = .ok (.getfield 26, 3) := by decide +kernel
theorem dX7_count_104 : decode cX7_count 104 = .ok (.invokevirtual 119, 3) := by decide +kernel
theorem dX7_count_107 : decode cX7_count 107 = .ok (.ireturn, 1) := by decide +kernel
theorem dX7_count_108 : decode cX7_count 108 = .ok (.aload_n 0, 1) := by decide +kernel
theorem dX7_count_109 : decode cX7_count 109 = .ok (.invokevirtual 288, 3) := by decide +kernel
theorem dX7_count_112 : decode cX7_count 112 = .ok (.ireturn, 1) := by decide +kernel
theorem dX7_count_113 : decode cX7_count 113 = .ok (.aload_n 0, 1) := by decide +kernel
theorem dX7_count_114 : decode cX7_count 114 = .ok (.getfield 66, 3) := by decide +kernel
theorem dX7_count_117 : decode cX7_count 117 = .ok (.ireturn, 1) := by decide +kernel
theorem dX7_count_118 : decode cX7_count 118 = .ok (.bipush (-2), 2) := by decide +kernel
theorem dX7_count_120 : decode cX7_count 120 = .ok (.ireturn, 1) := by decide +kernel
set_option maxRecDepth 20000 in
theorem ggX7_digest_X7_count : GoodIn wsX7_digest wsX7_count := goodIn_r _ [6, 7, 8, 9, 10, 11, 12, 13, 14, 15, 16, 17, 18, 19, 20, 21, 22, 23, 24, 25, 26, 27, 28, 29, 30, 31, 32, 33, 34, 35, 36, 37, 38, 39, 40, 41, 42, 43, 44, 45, 46, 47, 48, 49, 50, 51, 52, 53, 54, 55, 56, 57, 58, 59, 60, 61, 62, 63, 64, 65, 66, 67, 68, 69, 70, 71, 72, 73, 74, 75, 76, 77, 78, 79, 80, 81, 5, 82, 83, 377, 378, 379, 380, 381, 382, 383, 384, 385, 386, 387, 388, 389, 390, 391, 392, 393, 394, 395, 396, 397, 398] (by decide +kernel) (by decide +kernel)
set_option maxRecDepth 20000 in
theorem gX7_digest_X7_count : GoodIn wsX7_digest (wsV RX7 293 RX7 yX7_count wsX7_count) := goodIn_app (goodIn_of _ (by decide +kernel)) ggX7_digest_X7_count
set_option maxRecDepth 20000 in
theorem ggX7_digest_X7_mixed : GoodIn wsX7_digest wsX7_mixed := goodIn_r _ [86, 87] (by decide +kernel) (by decide +kernel)
set_option maxRecDepth 20000 in
theorem gX7_digest_X7_mixed : GoodIn wsX7_digest (va_wsS RX7 296 yX7_mixed wsX7_mixed) := goodIn_app (goodIn_of _ (by decide +kernel)) ggX7_digest_X7_mixed
set_option maxRecDepth 20000 in
theorem ggX7_digest_X7_fault : GoodIn wsX7_digest wsX7_fault := goodIn_r _ [91, 92, 93, 94, 5, 95, 7, 10, 96, 97, 98, 49, 45, 51, 47, 12, 52, 53, 54, 55, 56, 57, 58, 28, 29, 30, 31, 32, 59, 60, 61, 99, 22, 18, 24, 20, 9, 25, 26, 27, 33, 34, 35, 36, 377, 378, 379, 380, 381, 382, 383, 384, 385, 386, 387, 388, 389, 390, 391] (by decide +kernel) (by decide +kernel)
set_option maxRecDepth 20000 in
theorem gX7_digest_X7_fault : GoodIn wsX7_digest (wsV RX7 300 RX7 yX7_fault wsX7_fault) := goodIn_app (goodIn_of _ (by decide +kernel)) ggX7_digest_X7_fault
set_option maxRecDepth 20000 in
theorem ggX7_digest_X7_light : GoodIn wsX7_digest wsX7_light := goodIn_r _ [103, 13, 104, 105, 5, 106, 107, 108, 109, 110, 111, 112, 113, 74, 114, 76, 115, 78, 116, 117, 118, 119, 120, 121, 122, 377, 378, 379, 380, 381, 382, 383, 384, 385, 386, 387, 392, 393, 394, 395, 396, 397, 398] (by decide +kernel) (by decide +kernel)
set_option maxRecDepth 20000 in
theorem gX7_digest_X7_light : GoodIn wsX7_digest (wsV RX7 303 RX7 yX7_light wsX7_light) := goodIn_app (goodIn_of _ (by decide +kernel)) ggX7_digest_X7_light
set_option maxRecDepth 20000 in
theorem ggX7_digest_X7_lasts : GoodIn wsX7_digest wsX7_lasts := goodIn_r _ [126, 13, 104, 105, 5, 106, 107, 108, 109, 110, 127, 128, 129, 74, 130, 131, 72, 73, 75, 76, 77, 78, 132, 112, 113, 114, 115, 116, 117, 118, 119, 120, 121, 122, 377, 378, 379, 380, 381, 382, 383, 384, 385, 386, 387, 392, 393, 394, 395, 396, 397, 398] (by decide +kernel) (by decide +kernel)
set_option maxRecDepth 20000 in
theorem gX7_digest_X7_lasts : GoodIn wsX7_digest (wsV RX7 306 RX7 yX7_lasts wsX7_lasts) := goodIn_app (goodIn_of _ (by decide +kernel)) ggX7_digest_X7_lasts
set_option maxRecDepth 20000 in
theorem ggX7_digest_X7_mixedLights : GoodIn wsX7_digest wsX7_mixedLights := goodIn_r _ [136, 137, 138, 139, 5, 140, 13, 104, 105, 106, 107, 108, 109, 110, 141, 142, 143, 144, 145, 146, 74, 147, 131, 72, 73, 75, 76, 77, 78, 132, 112, 113, 114, 115, 116, 117, 118, 119, 120, 121, 122, 84, 85, 86, 87, 148, 149, 150, 151, 152, 153, 154, 155, 156, 157, 158, 159, 160, 161, 162, 163, 164, 165, 166, 167, 168, 169, 170, 377, 378, 379, 380, 381, 382, 383, 384, 385, 386, 387, 392, 393, 394, 395, 396, 397, 398] (by decide +kernel) (by decide +kernel)
set_option maxRecDepth 20000 in
theorem gX7_digest_X7_mixedLights : GoodIn wsX7_digest (wsV RX7 309 RX7 yX7_mixedLights wsX7_mixedLights) := goodIn_app (goodIn_of _ (by decide +kernel)) ggX7_digest_X7_mixedLights
set_option maxRecDepth 20000 in
theorem ggX7_digest_X7_mixedSuns : GoodIn wsX7_digest wsX7_mixedSuns := goodIn_r _ [174, 175, 176, 177, 5, 178, 179, 13, 180, 181, 182, 183, 184, 185, 186, 71, 72, 73, 74, 75, 76, 77, 78, 84, 85, 86, 87, 187, 188, 189, 190, 104, 105, 106, 107, 108, 109, 110, 191, 117, 118, 119, 120, 121, 122, 192, 193, 194, 195, 10, 42, 43, 44, 45, 46, 47, 12, 48, 49, 50, 51, 52, 53, 54, 55, 56, 57, 58, 28, 29, 30, 31, 32, 59, 60, 61, 196, 197, 198, 199, 200, 165, 166, 167, 201, 202, 203, 204, 205, 169, 170, 206, 207, 68, 69, 70, 208, 209, 210, 211, 212, 213, 214, 215, 216, 217, 218, 219, 220, 221, 222, 223, 224, 225, 226, 227, 228, 229, 230, 231, 232, 394, 395, 396, 397, 398, 377, 378, 379, 380, 381, 382, 383, 384, 385, 386, 387, 392, 393, 388, 389, 390, 391] (by decide +kernel) (by decide +kernel)
set_option maxRecDepth 20000 in
theorem gX7_digest_X7_mixedSuns : GoodIn wsX7_digest (wsV RX7 313 RX7 yX7_mixedSuns wsX7_mixedSuns) := goodIn_app (goodIn_of _ (by decide +kernel)) ggX7_digest_X7_mixedSuns
set_option maxRecDepth 20000 in
theorem ggX7_digest_X7_together : GoodIn wsX7_digest wsX7_together := goodIn_r _ [236, 13, 108, 109, 5, 110, 104, 105, 106, 107, 237, 238, 239, 240, 241, 242, 243, 244, 74, 245, 246, 247, 248, 249, 132, 112, 113, 114, 76, 115, 78, 116, 117, 118, 119, 120, 121, 122, 250, 251, 252, 253, 131, 72, 73, 75, 77, 254, 377, 378, 379, 380, 381, 382, 383, 384, 385, 386, 387, 392, 393, 394, 395, 396, 397, 398] (by decide +kernel) (by decide +kernel)
set_option maxRecDepth 20000 in
theorem gX7_digest_X7_together : GoodIn wsX7_digest (wsV RX7 316 RX7 yX7_together wsX7_together) := goodIn_app (goodIn_of _ (by decide +kernel)) ggX7_digest_X7_together
set_option maxRecDepth 20000 in
theorem ggX7_digest_X7_dials : GoodIn wsX7_digest wsX7_dials := goodIn_r _ [258, 13, 108, 109, 5, 110, 259, 260, 261, 74, 262, 131, 72, 73, 75, 76, 77, 78, 263, 264, 265, 266, 267, 268, 269, 119, 270, 229, 206, 117, 118, 120, 121, 122, 271, 272, 273, 274, 377, 378, 379, 380, 381, 382, 383, 384, 385, 386, 387, 392, 393, 394, 395, 396, 397, 398] (by decide +kernel) (by decide +kernel)
set_option maxRecDepth 20000 in
theorem gX7_digest_X7_dials : GoodIn wsX7_digest (wsV RX7 320 RX7 yX7_dials wsX7_dials) := goodIn_app (goodIn_of _ (by decide +kernel)) ggX7_digest_X7_dials
set_option maxRecDepth 20000 in
theorem ggX7_digest_X7_fits : GoodIn wsX7_digest wsX7_fits := goodIn_r _ [278, 185, 186, 108, 109, 5, 110, 279, 280, 281, 282, 7, 15, 16, 17, 18, 19, 20, 9, 21, 22, 23, 24, 25, 26, 27, 28, 29, 30, 31, 32, 33, 34, 35, 36, 283, 284, 285, 119, 286, 121, 287, 288, 289, 290, 291, 229, 292, 293, 294, 295, 296, 297, 298, 299, 300, 301, 302, 303, 304, 377, 378, 379, 380, 381, 382, 383, 384, 385, 386, 387, 388, 389, 390, 391, 394, 395, 396, 397, 398] (by decide +kernel) (by decide +kernel)
set_option maxRecDepth 20000 in
theorem gX7_digest_X7_fits : GoodIn wsX7_digest (wsV RX7 323 RX7 yX7_fits wsX7_fits) := goodIn_app (goodIn_of _ (by decide +kernel)) ggX7_digest_X7_fits
set_option maxRecDepth 20000 in
theorem ggX7_digest_X7_watch : GoodIn wsX7_digest wsX7_watch := goodIn_r _ [308, 185, 186, 13, 7, 108, 109, 5, 110, 279, 280, 281, 282, 15, 16, 17, 18, 19, 20, 9, 21, 22, 23, 24, 25, 26, 27, 28, 29, 30, 31, 32, 33, 34, 35, 36, 283, 284, 285, 119, 286, 121, 287, 288, 289, 290, 291, 229, 292, 293, 294, 295, 296, 297, 298, 299, 300, 309, 310, 311, 312, 313, 314, 165, 166, 167, 315, 316, 317, 318, 74, 319, 131, 72, 73, 75, 76, 77, 78, 320, 321, 322, 323, 324, 325, 326, 327, 328, 377, 378, 379, 380, 381, 382, 383, 384, 385, 386, 387, 388, 389, 390, 391, 394, 395, 396, 397, 398, 392, 393] (by decide +kernel) (by decide +kernel)
set_option maxRecDepth 20000 in
theorem gX7_digest_X7_watch : GoodIn wsX7_digest (wsV RX7 326 RX7 yX7_watch wsX7_watch) := goodIn_app (goodIn_of _ (by decide +kernel)) ggX7_digest_X7_watch
set_option maxRecDepth 20000 in
theorem ggX7_digest_X7_price : GoodIn wsX7_digest wsX7_price := goodIn_r _ [332, 83, 108, 109, 5, 110, 333, 334, 335, 336, 241, 337, 338, 339, 340, 377, 378, 379, 380, 381, 382, 383, 384, 385, 386, 387] (by decide +kernel) (by decide +kernel)
set_option maxRecDepth 20000 in
theorem gX7_digest_X7_price : GoodIn wsX7_digest (wsV RX7 329 RX7 yX7_price wsX7_price) := goodIn_app (goodIn_of _ (by decide +kernel)) ggX7_digest_X7_price
set_option maxRecDepth 20000 in
theorem ggX7_digest_X7_crop : GoodIn wsX7_digest wsX7_crop := goodIn_r _ [344, 13, 345, 346, 347, 5, 348, 349, 108, 109, 110, 104, 105, 106, 107, 350, 351, 352, 353, 354, 355, 356, 357, 165, 166, 167, 358, 112, 113, 74, 114, 76, 115, 78, 116, 117, 118, 119, 120, 121, 122, 377, 378, 379, 380, 381, 382, 383, 384, 385, 386, 387, 399, 400, 392, 393, 394, 395, 396, 397, 398] (by decide +kernel) (by decide +kernel)
set_option maxRecDepth 20000 in
theorem gX7_digest_X7_crop : GoodIn wsX7_digest (wsV RX7 332 RX7 yX7_crop wsX7_crop) := goodIn_app (goodIn_of _ (by decide +kernel)) ggX7_digest_X7_crop
set_option maxRecDepth 20000 in
theorem ggX7_digest_X7_planting : GoodIn wsX7_digest wsX7_planting := goodIn_r _ [362, 363, 104, 105, 5, 106, 107, 108, 109, 110, 364, 365, 366, 367, 200, 165, 166, 167, 368, 369, 370, 371, 372, 13, 345, 346, 347, 348, 349, 350, 351, 352, 353, 354, 355, 356, 357, 358, 112, 113, 74, 114, 76, 115, 78, 116, 117, 118, 119, 120, 121, 122, 373, 374, 375, 376, 377, 378, 379, 380, 381, 382, 383, 384, 385, 386, 387, 399, 400, 392, 393, 394, 395, 396, 397, 398] (by decide +kernel) (by decide +kernel)
set_option maxRecDepth 20000 in
theorem gX7_digest_X7_planting : GoodIn wsX7_digest (wsV RX7 335 RX7 yX7_planting wsX7_planting) := goodIn_app (goodIn_of _ (by decide +kernel)) ggX7_digest_X7_planting
theorem dX7_digest_0 : decode cX7_digest 0 = .ok (.ldc2_w 291, 3) := by decide +kernel
theorem dX7_digest_3 : decode cX7_digest 3 = .ok (.lstore_n 1, 1) := by decide +kernel
theorem dX7_digest_4 : decode cX7_digest 4 = .ok (.iconst 0, 1) := by decide +kernel
theorem dX7_digest_5 : decode cX7_digest 5 = .ok (.istore_n 3, 1) := by decide +kernel
theorem dX7_digest_6 : decode cX7_digest 6 = .ok (.iload_n 3, 1) := by decide +kernel
theorem dX7_digest_7 : decode cX7_digest 7 = .ok (.bipush 7, 2) := by decide +kernel
theorem dX7_digest_9 : decode cX7_digest 9 = .ok (.if_icmp .gt 20, 3) := by decide +kernel
theorem dX7_digest_12 : decode cX7_digest 12 = .ok (.lload_n 1, 1) := by decide +kernel
theorem dX7_digest_13 : decode cX7_digest 13 = .ok (.aload_n 0, 1) := by decide +kernel
theorem dX7_digest_14 : decode cX7_digest 14 = .ok (.iload_n 3, 1) := by decide +kernel
theorem dX7_digest_15 : decode cX7_digest 15 = .ok (.invokevirtual 293, 3) := by decide +kernel
theorem dX7_digest_18 : decode cX7_digest 18 = .ok (.i2l, 1) := by decide +kernel
theorem dX7_digest_19 : decode cX7_digest 19 = .ok (.invokestatic 296, 3) := by decide +kernel
theorem dX7_digest_22 : decode cX7_digest 22 = .ok (.lstore_n 1, 1) := by decide +kernel
theorem dX7_digest_23 : decode cX7_digest 23 = .ok (.iinc 3 1, 3) := by decide +kernel
theorem dX7_digest_26 : decode cX7_digest 26 = .ok (.goto (-20), 3) := by decide +kernel
theorem dX7_digest_29 : decode cX7_digest 29 = .ok (.lload_n 1, 1) := by decide +kernel
theorem dX7_digest_30 : decode cX7_digest 30 = .ok (.aload_n 0, 1) := by decide +kernel
theorem dX7_digest_31 : decode cX7_digest 31 = .ok (.iconst 0, 1) := by decide +kernel
theorem dX7_digest_32 : decode cX7_digest 32 = .ok (.invokevirtual 300, 3) := by decide +kernel
theorem dX7_digest_35 : decode cX7_digest 35 = .ok (.i2l, 1) := by decide +kernel
theorem dX7_digest_36 : decode cX7_digest 36 = .ok (.invokestatic 296, 3) := by decide +kernel
theorem dX7_digest_39 : decode cX7_digest 39 = .ok (.lstore_n 1, 1) := by decide +kernel
theorem dX7_digest_40 : decode cX7_digest 40 = .ok (.lload_n 1, 1) := by decide +kernel
theorem dX7_digest_41 : decode cX7_digest 41 = .ok (.aload_n 0, 1) := by decide +kernel
theorem dX7_digest_42 : decode cX7_digest 42 = .ok (.iconst 1, 1) := by decide +kernel
theorem dX7_digest_43 : decode cX7_digest 43 = .ok (.invokevirtual 300, 3) := by decide +kernel
theorem dX7_digest_46 : decode cX7_digest 46 = .ok (.i2l, 1) := by decide +kernel
theorem dX7_digest_47 : decode cX7_digest 47 = .ok (.invokestatic 296, 3) := by decide +kernel
theorem dX7_digest_50 : decode cX7_digest 50 = .ok (.lstore_n 1, 1) := by decide +kernel
theorem dX7_digest_51 : decode cX7_digest 51 = .ok (.lload_n 1, 1) := by decide +kernel
theorem dX7_digest_52 : decode cX7_digest 52 = .ok (.aload_n 0, 1) := by decide +kernel
theorem dX7_digest_53 : decode cX7_digest 53 = .ok (.iconst 0, 1) := by decide +kernel
theorem dX7_digest_54 : decode cX7_digest 54 = .ok (.invokevirtual 303, 3) := by decide +kernel
theorem dX7_digest_57 : decode cX7_digest 57 = .ok (.i2l, 1) := by decide +kernel
theorem dX7_digest_58 : decode cX7_digest 58 = .ok (.invokestatic 296, 3) := by decide +kernel
theorem dX7_digest_61 : decode cX7_digest 61 = .ok (.lstore_n 1, 1) := by decide +kernel
theorem dX7_digest_62 : decode cX7_digest 62 = .ok (.lload_n 1, 1) := by decide +kernel
theorem dX7_digest_63 : decode cX7_digest 63 = .ok (.aload_n 0, 1) := by decide +kernel
theorem dX7_digest_64 : decode cX7_digest 64 = .ok (.bipush 7, 2) := by decide +kernel
theorem dX7_digest_66 : decode cX7_digest 66 = .ok (.invokevirtual 303, 3) := by decide +kernel
theorem dX7_digest_69 : decode cX7_digest 69 = .ok (.i2l, 1) := by decide +kernel
theorem dX7_digest_70 : decode cX7_digest 70 = .ok (.invokestatic 296, 3) := by decide +kernel
theorem dX7_digest_73 : decode cX7_digest 73 = .ok (.lstore_n 1, 1) := by decide +kernel
theorem dX7_digest_74 : decode cX7_digest 74 = .ok (.lload_n 1, 1) := by decide +kernel
theorem dX7_digest_75 : decode cX7_digest 75 = .ok (.aload_n 0, 1) := by decide +kernel
theorem dX7_digest_76 : decode cX7_digest 76 = .ok (.sipush 999, 3) := by decide +kernel
theorem dX7_digest_79 : decode cX7_digest 79 = .ok (.invokevirtual 303, 3) := by decide +kernel
theorem dX7_digest_82 : decode cX7_digest 82 = .ok (.i2l, 1) := by decide +kernel
theorem dX7_digest_83 : decode cX7_digest 83 = .ok (.invokestatic 296, 3) := by decide +kernel
theorem dX7_digest_86 : decode cX7_digest 86 = .ok (.lstore_n 1, 1) := by decide +kernel
theorem dX7_digest_87 : decode cX7_digest 87 = .ok (.lload_n 1, 1) := by decide +kernel
theorem dX7_digest_88 : decode cX7_digest 88 = .ok (.aload_n 0, 1) := by decide +kernel
theorem dX7_digest_89 : decode cX7_digest 89 = .ok (.bipush 7, 2) := by decide +kernel
theorem dX7_digest_91 : decode cX7_digest 91 = .ok (.invokevirtual 306, 3) := by decide +kernel
theorem dX7_digest_94 : decode cX7_digest 94 = .ok (.i2l, 1) := by decide +kernel
theorem dX7_digest_95 : decode cX7_digest 95 = .ok (.invokestatic 296, 3) := by decide +kernel
theorem dX7_digest_98 : decode cX7_digest 98 = .ok (.lstore_n 1, 1) := by decide +kernel
theorem dX7_digest_99 : decode cX7_digest 99 = .ok (.aload_n 0, 1) := by decide +kernel
theorem dX7_digest_100 : decode cX7_digest 100 = .ok (.lload_n 1, 1) := by decide +kernel
theorem dX7_digest_101 : decode cX7_digest 101 = .ok (.invokevirtual 309, 3) := by decide +kernel
theorem dX7_digest_104 : decode cX7_digest 104 = .ok (.lstore_n 1, 1) := by decide +kernel
theorem dX7_digest_105 : decode cX7_digest 105 = .ok (.aload_n 0, 1) := by decide +kernel
theorem dX7_digest_106 : decode cX7_digest 106 = .ok (.lload_n 1, 1) := by decide +kernel
theorem dX7_digest_107 : decode cX7_digest 107 = .ok (.invokevirtual 313, 3) := by decide +kernel
theorem dX7_digest_110 : decode cX7_digest 110 = .ok (.lstore_n 1, 1) := by decide +kernel
theorem dX7_digest_111 : decode cX7_digest 111 = .ok (.iconst 0, 1) := by decide +kernel
theorem dX7_digest_112 : decode cX7_digest 112 = .ok (.istore_n 3, 1) := by decide +kernel
theorem dX7_digest_113 : decode cX7_digest 113 = .ok (.iload_n 3, 1) := by decide +kernel
theorem dX7_digest_114 : decode cX7_digest 114 = .ok (.iconst 1, 1) := by decide +kernel
theorem dX7_digest_115 : decode cX7_digest 115 = .ok (.if_icmp .gt 25, 3) := by decide +kernel
theorem dX7_digest_118 : decode cX7_digest 118 = .ok (.lload_n 1, 1) := by decide +kernel
theorem dX7_digest_119 : decode cX7_digest 119 = .ok (.aload_n 0, 1) := by decide +kernel
theorem dX7_digest_120 : decode cX7_digest 120 = .ok (.bipush 7, 2) := by decide +kernel
theorem dX7_digest_122 : decode cX7_digest 122 = .ok (.iconst 2, 1) := by decide +kernel
theorem dX7_digest_123 : decode cX7_digest 123 = .ok (.bipush 9, 2) := by decide +kernel
theorem dX7_digest_125 : decode cX7_digest 125 = .ok (.iload_n 3, 1) := by decide +kernel
theorem dX7_digest_126 : decode cX7_digest 126 = .ok (.invokevirtual 316, 3) := by decide +kernel
theorem dX7_digest_129 : decode cX7_digest 129 = .ok (.i2l, 1) := by decide +kernel
theorem dX7_digest_130 : decode cX7_digest 130 = .ok (.invokestatic 296, 3) := by decide +kernel
theorem dX7_digest_133 : decode cX7_digest 133 = .ok (.lstore_n 1, 1) := by decide +kernel
theorem dX7_digest_134 : decode cX7_digest 134 = .ok (.iinc 3 1, 3) := by decide +kernel
theorem dX7_digest_137 : decode cX7_digest 137 = .ok (.goto (-24), 3) := by decide +kernel
theorem dX7_digest_140 : decode cX7_digest 140 = .ok (.iconst 0, 1) := by decide +kernel
theorem dX7_digest_141 : decode cX7_digest 141 = .ok (.istore_n 3, 1) := by decide +kernel
theorem dX7_digest_142 : decode cX7_digest 142 = .ok (.iload_n 3, 1) := by decide +kernel
theorem dX7_digest_143 : decode cX7_digest 143 = .ok (.iconst 1, 1) := by decide +kernel
theorem dX7_digest_144 : decode cX7_digest 144 = .ok (.if_icmp .gt 22, 3) := by decide +kernel
theorem dX7_digest_147 : decode cX7_digest 147 = .ok (.lload_n 1, 1) := by decide +kernel
theorem dX7_digest_148 : decode cX7_digest 148 = .ok (.aload_n 0, 1) := by decide +kernel
theorem dX7_digest_149 : decode cX7_digest 149 = .ok (.iconst 1, 1) := by decide +kernel
theorem dX7_digest_150 : decode cX7_digest 150 = .ok (.iconst 2, 1) := by decide +kernel
theorem dX7_digest_151 : decode cX7_digest 151 = .ok (.iload_n 3, 1) := by decide +kernel
theorem dX7_digest_152 : decode cX7_digest 152 = .ok (.invokevirtual 320, 3) := by decide +kernel
theorem dX7_digest_155 : decode cX7_digest 155 = .ok (.i2l, 1) := by decide +kernel
theorem dX7_digest_156 : decode cX7_digest 156 = .ok (.invokestatic 296, 3) := by decide +kernel
theorem dX7_digest_159 : decode cX7_digest 159 = .ok (.lstore_n 1, 1) := by decide +kernel
theorem dX7_digest_160 : decode cX7_digest 160 = .ok (.iinc 3 1, 3) := by decide +kernel
theorem dX7_digest_163 : decode cX7_digest 163 = .ok (.goto (-21), 3) := by decide +kernel
theorem dX7_digest_166 : decode cX7_digest 166 = .ok (.iconst 0, 1) := by decide +kernel
theorem dX7_digest_167 : decode cX7_digest 167 = .ok (.istore_n 3, 1) := by decide +kernel
theorem dX7_digest_168 : decode cX7_digest 168 = .ok (.iload_n 3, 1) := by decide +kernel
theorem dX7_digest_169 : decode cX7_digest 169 = .ok (.iconst 1, 1) := by decide +kernel
theorem dX7_digest_170 : decode cX7_digest 170 = .ok (.if_icmp .gt 20, 3) := by decide +kernel
theorem dX7_digest_173 : decode cX7_digest 173 = .ok (.lload_n 1, 1) := by decide +kernel
theorem dX7_digest_174 : decode cX7_digest 174 = .ok (.aload_n 0, 1) := by decide +kernel
theorem dX7_digest_175 : decode cX7_digest 175 = .ok (.iload_n 3, 1) := by decide +kernel
theorem dX7_digest_176 : decode cX7_digest 176 = .ok (.invokevirtual 323, 3) := by decide +kernel
theorem dX7_digest_179 : decode cX7_digest 179 = .ok (.i2l, 1) := by decide +kernel
theorem dX7_digest_180 : decode cX7_digest 180 = .ok (.invokestatic 296, 3) := by decide +kernel
theorem dX7_digest_183 : decode cX7_digest 183 = .ok (.lstore_n 1, 1) := by decide +kernel
theorem dX7_digest_184 : decode cX7_digest 184 = .ok (.iinc 3 1, 3) := by decide +kernel
theorem dX7_digest_187 : decode cX7_digest 187 = .ok (.goto (-19), 3) := by decide +kernel
theorem dX7_digest_190 : decode cX7_digest 190 = .ok (.iconst 0, 1) := by decide +kernel
theorem dX7_digest_191 : decode cX7_digest 191 = .ok (.istore_n 3, 1) := by decide +kernel
theorem dX7_digest_192 : decode cX7_digest 192 = .ok (.iload_n 3, 1) := by decide +kernel
theorem dX7_digest_193 : decode cX7_digest 193 = .ok (.iconst 1, 1) := by decide +kernel
theorem dX7_digest_194 : decode cX7_digest 194 = .ok (.if_icmp .gt 20, 3) := by decide +kernel
theorem dX7_digest_197 : decode cX7_digest 197 = .ok (.lload_n 1, 1) := by decide +kernel
theorem dX7_digest_198 : decode cX7_digest 198 = .ok (.aload_n 0, 1) := by decide +kernel
theorem dX7_digest_199 : decode cX7_digest 199 = .ok (.iload_n 3, 1) := by decide +kernel
theorem dX7_digest_200 : decode cX7_digest 200 = .ok (.invokevirtual 326, 3) := by decide +kernel
theorem dX7_digest_203 : decode cX7_digest 203 = .ok (.i2l, 1) := by decide +kernel
theorem dX7_digest_204 : decode cX7_digest 204 = .ok (.invokestatic 296, 3) := by decide +kernel
theorem dX7_digest_207 : decode cX7_digest 207 = .ok (.lstore_n 1, 1) := by decide +kernel
theorem dX7_digest_208 : decode cX7_digest 208 = .ok (.iinc 3 1, 3) := by decide +kernel
theorem dX7_digest_211 : decode cX7_digest 211 = .ok (.goto (-19), 3) := by decide +kernel
theorem dX7_digest_214 : decode cX7_digest 214 = .ok (.lload_n 1, 1) := by decide +kernel
theorem dX7_digest_215 : decode cX7_digest 215 = .ok (.aload_n 0, 1) := by decide +kernel
theorem dX7_digest_216 : decode cX7_digest 216 = .ok (.iconst 2, 1) := by decide +kernel
theorem dX7_digest_217 : decode cX7_digest 217 = .ok (.invokevirtual 329, 3) := by decide +kernel
theorem dX7_digest_220 : decode cX7_digest 220 = .ok (.i2l, 1) := by decide +kernel
theorem dX7_digest_221 : decode cX7_digest 221 = .ok (.invokestatic 296, 3) := by decide +kernel
theorem dX7_digest_224 : decode cX7_digest 224 = .ok (.lstore_n 1, 1) := by decide +kernel
theorem dX7_digest_225 : decode cX7_digest 225 = .ok (.iconst 0, 1) := by decide +kernel
theorem dX7_digest_226 : decode cX7_digest 226 = .ok (.istore_n 3, 1) := by decide +kernel
theorem dX7_digest_227 : decode cX7_digest 227 = .ok (.iload_n 3, 1) := by decide +kernel
theorem dX7_digest_228 : decode cX7_digest 228 = .ok (.iconst 4, 1) := by decide +kernel
theorem dX7_digest_229 : decode cX7_digest 229 = .ok (.if_icmp .ge 21, 3) := by decide +kernel
theorem dX7_digest_232 : decode cX7_digest 232 = .ok (.lload_n 1, 1) := by decide +kernel
theorem dX7_digest_233 : decode cX7_digest 233 = .ok (.aload_n 0, 1) := by decide +kernel
theorem dX7_digest_234 : decode cX7_digest 234 = .ok (.iload_n 3, 1) := by decide +kernel
theorem dX7_digest_235 : decode cX7_digest 235 = .ok (.iconst 5, 1) := by decide +kernel
theorem dX7_digest_236 : decode cX7_digest 236 = .ok (.invokevirtual 332, 3) := by decide +kernel
theorem dX7_digest_239 : decode cX7_digest 239 = .ok (.i2l, 1) := by decide +kernel
theorem dX7_digest_240 : decode cX7_digest 240 = .ok (.invokestatic 296, 3) := by decide +kernel
theorem dX7_digest_243 : decode cX7_digest 243 = .ok (.lstore_n 1, 1) := by decide +kernel
theorem dX7_digest_244 : decode cX7_digest 244 = .ok (.iinc 3 1, 3) := by decide +kernel
theorem dX7_digest_247 : decode cX7_digest 247 = .ok (.goto (-20), 3) := by decide +kernel
theorem dX7_digest_250 : decode cX7_digest 250 = .ok (.iconst 0, 1) := by decide +kernel
theorem dX7_digest_251 : decode cX7_digest 251 = .ok (.istore_n 3, 1) := by decide +kernel
theorem dX7_digest_252 : decode cX7_digest 252 = .ok (.iload_n 3, 1) := by decide +kernel
theorem dX7_digest_253 : decode cX7_digest 253 = .ok (.iconst 1, 1) := by decide +kernel
theorem dX7_digest_254 : decode cX7_digest 254 = .ok (.if_icmp .gt 23, 3) := by decide +kernel
theorem dX7_digest_257 : decode cX7_digest 257 = .ok (.lload_n 1, 1) := by decide +kernel
theorem dX7_digest_258 : decode cX7_digest 258 = .ok (.aload_n 0, 1) := by decide +kernel
theorem dX7_digest_259 : decode cX7_digest 259 = .ok (.iconst 1, 1) := by decide +kernel
theorem dX7_digest_260 : decode cX7_digest 260 = .ok (.bipush 12, 2) := by decide +kernel
theorem dX7_digest_262 : decode cX7_digest 262 = .ok (.iload_n 3, 1) := by decide +kernel
theorem dX7_digest_263 : decode cX7_digest 263 = .ok (.invokevirtual 335, 3) := by decide +kernel
theorem dX7_digest_266 : decode cX7_digest 266 = .ok (.i2l, 1) := by decide +kernel
theorem dX7_digest_267 : decode cX7_digest 267 = .ok (.invokestatic 296, 3) := by decide +kernel
theorem dX7_digest_270 : decode cX7_digest 270 = .ok (.lstore_n 1, 1) := by decide +kernel
theorem dX7_digest_271 : decode cX7_digest 271 = .ok (.iinc 3 1, 3) := by decide +kernel
theorem dX7_digest_274 : decode cX7_digest 274 = .ok (.goto (-22), 3) := by decide +kernel
theorem dX7_digest_277 : decode cX7_digest 277 = .ok (.lload_n 1, 1) := by decide +kernel
theorem dX7_digest_278 : decode cX7_digest 278 = .ok (.lreturn, 1) := by decide +kernel
set_option maxRecDepth 20000 in
theorem ggX7_mixedLights_X7_next : GoodIn wsX7_mixedLights wsX7_next := goodIn_r _ [5, 6, 7, 8, 4, 9, 10, 11, 12, 13, 14, 15, 16, 17, 18, 19, 20, 21, 22, 23, 24, 25, 26, 27, 28, 29, 30, 31, 32, 33, 34, 35, 36, 37, 38, 39, 40, 68, 69, 70, 71, 72, 73, 74, 75, 76, 77, 78, 79, 80, 81, 82, 83, 84, 85] (by decide +kernel) (by decide +kernel)
set_option maxRecDepth 20000 in
theorem gX7_mixedLights_X7_next : GoodIn wsX7_mixedLights (wsV RX7 338 RX7 yX7_next wsX7_next) := goodIn_app (goodIn_of _ (by decide +kernel)) ggX7_mixedLights_X7_next
set_option maxRecDepth 20000 in
theorem ggX7_mixedLights_X7_mixed : GoodIn wsX7_mixedLights wsX7_mixed := goodIn_r _ [43, 44] (by decide +kernel) (by decide +kernel)
set_option maxRecDepth 20000 in
theorem gX7_mixedLights_X7_mixed : GoodIn wsX7_mixedLights (va_wsS RX7 296 yX7_mixed wsX7_mixed) := goodIn_app (goodIn_of _ (by decide +kernel)) ggX7_mixedLights_X7_mixed
set_option maxRecDepth 20000 in
theorem ggX7_mixedLights_X7_spells : GoodIn wsX7_mixedLights wsX7_spells := goodIn_r _ [48, 6, 14, 15, 4, 16, 11, 12, 13, 49, 50, 51, 20, 52, 22, 23, 24, 25, 26, 27, 28, 29, 30, 31, 32, 33, 34, 35, 36, 37, 38, 39, 40, 53, 54, 55, 56, 57, 58, 59, 60, 61, 62, 63, 64, 65, 66, 67, 68, 69, 70, 71, 72, 73, 74, 75, 76, 77, 78, 79, 80, 81, 82, 83, 84, 85] (by decide +kernel) (by decide +kernel)
set_option maxRecDepth 20000 in
theorem gX7_mixedLights_X7_spells : GoodIn wsX7_mixedLights (wsV RX7 341 RX7 yX7_spells wsX7_spells) := goodIn_app (goodIn_of _ (by decide +kernel)) ggX7_mixedLights_X7_spells
theorem dX7_mixedLights_0 : decode cX7_mixedLights 0 = .ok (.lload_n 1, 1) := by decide +kernel
theorem dX7_mixedLights_1 : decode cX7_mixedLights 1 = .ok (.lstore_n 3, 1) := by decide +kernel
theorem dX7_mixedLights_2 : decode cX7_mixedLights 2 = .ok (.iconst 0, 1) := by decide +kernel
theorem dX7_mixedLights_3 : decode cX7_mixedLights 3 = .ok (.istore 5, 2) := by decide +kernel
theorem dX7_mixedLights_5 : decode cX7_mixedLights 5 = .ok (.iload 5, 2) := by decide +kernel
theorem dX7_mixedLights_7 : decode cX7_mixedLights 7 = .ok (.iconst 4, 1) := by decide +kernel
theorem dX7_mixedLights_8 : decode cX7_mixedLights 8 = .ok (.if_icmp .ge 52, 3) := by decide +kernel
theorem dX7_mixedLights_11 : decode cX7_mixedLights 11 = .ok (.lload_n 3, 1) := by decide +kernel
theorem dX7_mixedLights_12 : decode cX7_mixedLights 12 = .ok (.aload_n 0, 1) := by decide +kernel
theorem dX7_mixedLights_13 : decode cX7_mixedLights 13 = .ok (.bipush 50, 2) := by decide +kernel
theorem dX7_mixedLights_15 : decode cX7_mixedLights 15 = .ok (.iload 5, 2) := by decide +kernel
theorem dX7_mixedLights_17 : decode cX7_mixedLights 17 = .ok (.invokevirtual 338, 3) := by decide +kernel
theorem dX7_mixedLights_20 : decode cX7_mixedLights 20 = .ok (.i2l, 1) := by decide +kernel
theorem dX7_mixedLights_21 : decode cX7_mixedLights 21 = .ok (.invokestatic 296, 3) := by decide +kernel
theorem dX7_mixedLights_24 : decode cX7_mixedLights 24 = .ok (.lstore_n 3, 1) := by decide +kernel
theorem dX7_mixedLights_25 : decode cX7_mixedLights 25 = .ok (.iconst 0, 1) := by decide +kernel
theorem dX7_mixedLights_26 : decode cX7_mixedLights 26 = .ok (.istore 6, 2) := by decide +kernel
theorem dX7_mixedLights_28 : decode cX7_mixedLights 28 = .ok (.iload 6, 2) := by decide +kernel
theorem dX7_mixedLights_30 : decode cX7_mixedLights 30 = .ok (.iconst 2, 1) := by decide +kernel
theorem dX7_mixedLights_31 : decode cX7_mixedLights 31 = .ok (.if_icmp .gt 23, 3) := by decide +kernel
theorem dX7_mixedLights_34 : decode cX7_mixedLights 34 = .ok (.lload_n 3, 1) := by decide +kernel
theorem dX7_mixedLights_35 : decode cX7_mixedLights 35 = .ok (.aload_n 0, 1) := by decide +kernel
theorem dX7_mixedLights_36 : decode cX7_mixedLights 36 = .ok (.iload 5, 2) := by decide +kernel
theorem dX7_mixedLights_38 : decode cX7_mixedLights 38 = .ok (.iload 6, 2) := by decide +kernel
theorem dX7_mixedLights_40 : decode cX7_mixedLights 40 = .ok (.invokevirtual 341, 3) := by decide +kernel
theorem dX7_mixedLights_43 : decode cX7_mixedLights 43 = .ok (.i2l, 1) := by decide +kernel
theorem dX7_mixedLights_44 : decode cX7_mixedLights 44 = .ok (.invokestatic 296, 3) := by decide +kernel
theorem dX7_mixedLights_47 : decode cX7_mixedLights 47 = .ok (.lstore_n 3, 1) := by decide +kernel
theorem dX7_mixedLights_48 : decode cX7_mixedLights 48 = .ok (.iinc 6 1, 3) := by decide +kernel
theorem dX7_mixedLights_51 : decode cX7_mixedLights 51 = .ok (.goto (-23), 3) := by decide +kernel
theorem dX7_mixedLights_54 : decode cX7_mixedLights 54 = .ok (.iinc 5 1, 3) := by decide +kernel
theorem dX7_mixedLights_57 : decode cX7_mixedLights 57 = .ok (.goto (-52), 3) := by decide +kernel
theorem dX7_mixedLights_60 : decode cX7_mixedLights 60 = .ok (.lload_n 3, 1) := by decide +kernel
theorem dX7_mixedLights_61 : decode cX7_mixedLights 61 = .ok (.lreturn, 1) := by decide +kernel
set_option maxRecDepth 20000 in
theorem ggX7_mixedSuns_X7_without : GoodIn wsX7_mixedSuns wsX7_without := goodIn_r _ [5, 6, 7, 8, 9, 10, 11, 4, 12, 13, 14, 15, 16, 17, 18, 19, 20, 21, 22, 121, 122, 123, 124, 125, 126, 127, 128, 129, 130, 131, 132, 133, 134, 135, 136, 137, 138] (by decide +kernel) (by decide +kernel)
set_option maxRecDepth 20000 in
theorem gX7_mixedSuns_X7_without : GoodIn wsX7_mixedSuns (wsV RX7 344 RX7 yX7_without wsX7_without) := goodIn_app (goodIn_of _ (by decide +kernel)) ggX7_mixedSuns_X7_without
set_option maxRecDepth 20000 in
theorem ggX7_mixedSuns_X7_mixed : GoodIn wsX7_mixedSuns wsX7_mixed := goodIn_r _ [25, 26] (by decide +kernel) (by decide +kernel)
set_option maxRecDepth 20000 in
theorem gX7_mixedSuns_X7_mixed : GoodIn wsX7_mixedSuns (va_wsS RX7 296 yX7_mixed wsX7_mixed) := goodIn_app (goodIn_of _ (by decide +kernel)) ggX7_mixedSuns_X7_mixed
set_option maxRecDepth 20000 in
theorem ggX7_mixedSuns_X7_place : GoodIn wsX7_mixedSuns wsX7_place := goodIn_r _ [30, 9, 10, 11, 4, 12, 13, 14, 31, 32, 33, 34, 35, 36, 37, 38, 39, 40, 41, 42, 43, 44, 126, 127, 128, 129, 130, 131, 132, 133, 134, 135, 136, 121, 122, 123, 124, 125] (by decide +kernel) (by decide +kernel)
set_option maxRecDepth 20000 in
theorem gX7_mixedSuns_X7_place : GoodIn wsX7_mixedSuns (wsV RX7 347 RX7 yX7_place wsX7_place) := goodIn_app (goodIn_of _ (by decide +kernel)) ggX7_mixedSuns_X7_place
set_option maxRecDepth 20000 in
theorem ggX7_mixedSuns_X7_drift : GoodIn wsX7_mixedSuns wsX7_drift := goodIn_r _ [48, 49, 6, 9, 10, 11, 4, 12, 13, 14, 35, 36, 37, 50, 51, 52, 53, 54, 55, 56, 57, 58, 59, 60, 61, 62, 63, 64, 65, 66, 67, 68, 69, 70, 71, 72, 73, 74, 75, 76, 77, 78, 79, 80, 81, 82, 83, 84, 85, 86, 41, 87, 43, 88, 89, 90, 91, 39, 40, 42, 44, 92, 93, 94, 95, 126, 127, 128, 129, 130, 131, 132, 133, 134, 135, 136, 121, 122, 123, 124, 125, 139, 140, 141, 142] (by decide +kernel) (by decide +kernel)
set_option maxRecDepth 20000 in
theorem gX7_mixedSuns_X7_drift : GoodIn wsX7_mixedSuns (wsV RX7 350 RX7 yX7_drift wsX7_drift) := goodIn_app (goodIn_of _ (by decide +kernel)) ggX7_mixedSuns_X7_drift
set_option maxRecDepth 20000 in
theorem ggX7_mixedSuns_X7_shortest : GoodIn wsX7_mixedSuns wsX7_shortest := goodIn_r _ [99, 6, 9, 10, 11, 4, 12, 13, 14, 35, 36, 37, 100, 101, 102, 80, 81, 82, 83, 84, 85, 86, 41, 87, 43, 88, 89, 90, 91, 39, 40, 42, 44, 103, 104, 105, 106, 121, 122, 123, 124, 125, 126, 127, 128, 129, 130, 131, 132, 133, 134, 135, 136] (by decide +kernel) (by decide +kernel)
set_option maxRecDepth 20000 in
theorem gX7_mixedSuns_X7_shortest : GoodIn wsX7_mixedSuns (wsV RX7 353 RX7 yX7_shortest wsX7_shortest) := goodIn_app (goodIn_of _ (by decide +kernel)) ggX7_mixedSuns_X7_shortest
set_option maxRecDepth 20000 in
theorem ggX7_mixedSuns_X7_clouds : GoodIn wsX7_mixedSuns wsX7_clouds := goodIn_r _ [110, 111, 112, 9, 10, 11, 4, 12, 13, 14, 31, 32, 33, 34, 35, 36, 37, 113, 114, 115, 41, 116, 117, 91, 39, 40, 42, 43, 44, 118, 119, 120, 126, 127, 128, 129, 130, 131, 132, 133, 134, 135, 136, 121, 122, 123, 124, 125] (by decide +kernel) (by decide +kernel)
set_option maxRecDepth 20000 in
theorem gX7_mixedSuns_X7_clouds : GoodIn wsX7_mixedSuns (wsV RX7 356 RX7 yX7_clouds wsX7_clouds) := goodIn_app (goodIn_of _ (by decide +kernel)) ggX7_mixedSuns_X7_clouds
theorem dX7_mixedSuns_0 : decode cX7_mixedSuns 0 = .ok (.lload_n 1, 1) := by decide +kernel
theorem dX7_mixedSuns_1 : decode cX7_mixedSuns 1 = .ok (.lstore_n 3, 1) := by decide +kernel
theorem dX7_mixedSuns_2 : decode cX7_mixedSuns 2 = .ok (.iconst 0, 1) := by decide +kernel
theorem dX7_mixedSuns_3 : decode cX7_mixedSuns 3 = .ok (.istore 5, 2) := by decide +kernel
theorem dX7_mixedSuns_5 : decode cX7_mixedSuns 5 = .ok (.iload 5, 2) := by decide +kernel
theorem dX7_mixedSuns_7 : decode cX7_mixedSuns 7 = .ok (.iconst 1, 1) := by decide +kernel
theorem dX7_mixedSuns_8 : decode cX7_mixedSuns 8 = .ok (.if_icmp .gt 111, 3) := by decide +kernel
theorem dX7_mixedSuns_11 : decode cX7_mixedSuns 11 = .ok (.lload_n 3, 1) := by decide +kernel
theorem dX7_mixedSuns_12 : decode cX7_mixedSuns 12 = .ok (.aload_n 0, 1) := by decide +kernel
theorem dX7_mixedSuns_13 : decode cX7_mixedSuns 13 = .ok (.iload 5, 2) := by decide +kernel
theorem dX7_mixedSuns_15 : decode cX7_mixedSuns 15 = .ok (.invokevirtual 344, 3) := by decide +kernel
theorem dX7_mixedSuns_18 : decode cX7_mixedSuns 18 = .ok (.i2l, 1) := by decide +kernel
theorem dX7_mixedSuns_19 : decode cX7_mixedSuns 19 = .ok (.invokestatic 296, 3) := by decide +kernel
theorem dX7_mixedSuns_22 : decode cX7_mixedSuns 22 = .ok (.lstore_n 3, 1) := by decide +kernel
theorem dX7_mixedSuns_23 : decode cX7_mixedSuns 23 = .ok (.lload_n 3, 1) := by decide +kernel
theorem dX7_mixedSuns_24 : decode cX7_mixedSuns 24 = .ok (.aload_n 0, 1) := by decide +kernel
theorem dX7_mixedSuns_25 : decode cX7_mixedSuns 25 = .ok (.iload 5, 2) := by decide +kernel
theorem dX7_mixedSuns_27 : decode cX7_mixedSuns 27 = .ok (.bipush 77, 2) := by decide +kernel
theorem dX7_mixedSuns_29 : decode cX7_mixedSuns 29 = .ok (.invokevirtual 347, 3) := by decide +kernel
theorem dX7_mixedSuns_32 : decode cX7_mixedSuns 32 = .ok (.i2l, 1) := by decide +kernel
theorem dX7_mixedSuns_33 : decode cX7_mixedSuns 33 = .ok (.invokestatic 296, 3) := by decide +kernel
theorem dX7_mixedSuns_36 : decode cX7_mixedSuns 36 = .ok (.lstore_n 3, 1) := by decide +kernel
theorem dX7_mixedSuns_37 : decode cX7_mixedSuns 37 = .ok (.lload_n 3, 1) := by decide +kernel
theorem dX7_mixedSuns_38 : decode cX7_mixedSuns 38 = .ok (.aload_n 0, 1) := by decide +kernel
theorem dX7_mixedSuns_39 : decode cX7_mixedSuns 39 = .ok (.iload 5, 2) := by decide +kernel
theorem dX7_mixedSuns_41 : decode cX7_mixedSuns 41 = .ok (.bipush 9, 2) := by decide +kernel
theorem dX7_mixedSuns_43 : decode cX7_mixedSuns 43 = .ok (.invokevirtual 350, 3) := by decide +kernel
theorem dX7_mixedSuns_46 : decode cX7_mixedSuns 46 = .ok (.i2l, 1) := by decide +kernel
theorem dX7_mixedSuns_47 : decode cX7_mixedSuns 47 = .ok (.invokestatic 296, 3) := by decide +kernel
theorem dX7_mixedSuns_50 : decode cX7_mixedSuns 50 = .ok (.lstore_n 3, 1) := by decide +kernel
theorem dX7_mixedSuns_51 : decode cX7_mixedSuns 51 = .ok (.lload_n 3, 1) := by decide +kernel
theorem dX7_mixedSuns_52 : decode cX7_mixedSuns 52 = .ok (.aload_n 0, 1) := by decide +kernel
theorem dX7_mixedSuns_53 : decode cX7_mixedSuns 53 = .ok (.iload 5, 2) := by decide +kernel
theorem dX7_mixedSuns_55 : decode cX7_mixedSuns 55 = .ok (.iconst 4, 1) := by decide +kernel
theorem dX7_mixedSuns_56 : decode cX7_mixedSuns 56 = .ok (.bipush 20, 2) := by decide +kernel
theorem dX7_mixedSuns_58 : decode cX7_mixedSuns 58 = .ok (.iconst 0, 1) := by decide +kernel
theorem dX7_mixedSuns_59 : decode cX7_mixedSuns 59 = .ok (.invokevirtual 353, 3) := by decide +kernel
theorem dX7_mixedSuns_62 : decode cX7_mixedSuns 62 = .ok (.i2l, 1) := by decide +kernel
theorem dX7_mixedSuns_63 : decode cX7_mixedSuns 63 = .ok (.invokestatic 296, 3) := by decide +kernel
theorem dX7_mixedSuns_66 : decode cX7_mixedSuns 66 = .ok (.lstore_n 3, 1) := by decide +kernel
theorem dX7_mixedSuns_67 : decode cX7_mixedSuns 67 = .ok (.lload_n 3, 1) := by decide +kernel
theorem dX7_mixedSuns_68 : decode cX7_mixedSuns 68 = .ok (.aload_n 0, 1) := by decide +kernel
theorem dX7_mixedSuns_69 : decode cX7_mixedSuns 69 = .ok (.iload 5, 2) := by decide +kernel
theorem dX7_mixedSuns_71 : decode cX7_mixedSuns 71 = .ok (.iconst 4, 1) := by decide +kernel
theorem dX7_mixedSuns_72 : decode cX7_mixedSuns 72 = .ok (.bipush 20, 2) := by decide +kernel
theorem dX7_mixedSuns_74 : decode cX7_mixedSuns 74 = .ok (.iconst 1, 1) := by decide +kernel
theorem dX7_mixedSuns_75 : decode cX7_mixedSuns 75 = .ok (.invokevirtual 353, 3) := by decide +kernel
theorem dX7_mixedSuns_78 : decode cX7_mixedSuns 78 = .ok (.i2l, 1) := by decide +kernel
theorem dX7_mixedSuns_79 : decode cX7_mixedSuns 79 = .ok (.invokestatic 296, 3) := by decide +kernel
theorem dX7_mixedSuns_82 : decode cX7_mixedSuns 82 = .ok (.lstore_n 3, 1) := by decide +kernel
theorem dX7_mixedSuns_83 : decode cX7_mixedSuns 83 = .ok (.lload_n 3, 1) := by decide +kernel
theorem dX7_mixedSuns_84 : decode cX7_mixedSuns 84 = .ok (.aload_n 0, 1) := by decide +kernel
theorem dX7_mixedSuns_85 : decode cX7_mixedSuns 85 = .ok (.iload 5, 2) := by decide +kernel
theorem dX7_mixedSuns_87 : decode cX7_mixedSuns 87 = .ok (.iconst 3, 1) := by decide +kernel
theorem dX7_mixedSuns_88 : decode cX7_mixedSuns 88 = .ok (.iconst 5, 1) := by decide +kernel
theorem dX7_mixedSuns_89 : decode cX7_mixedSuns 89 = .ok (.iconst 4, 1) := by decide +kernel
theorem dX7_mixedSuns_90 : decode cX7_mixedSuns 90 = .ok (.iconst 0, 1) := by decide +kernel
theorem dX7_mixedSuns_91 : decode cX7_mixedSuns 91 = .ok (.invokevirtual 356, 3) := by decide +kernel
theorem dX7_mixedSuns_94 : decode cX7_mixedSuns 94 = .ok (.invokestatic 296, 3) := by decide +kernel
theorem dX7_mixedSuns_97 : decode cX7_mixedSuns 97 = .ok (.lstore_n 3, 1) := by decide +kernel
theorem dX7_mixedSuns_98 : decode cX7_mixedSuns 98 = .ok (.lload_n 3, 1) := by decide +kernel
theorem dX7_mixedSuns_99 : decode cX7_mixedSuns 99 = .ok (.aload_n 0, 1) := by decide +kernel
theorem dX7_mixedSuns_100 : decode cX7_mixedSuns 100 = .ok (.iload 5, 2) := by decide +kernel
theorem dX7_mixedSuns_102 : decode cX7_mixedSuns 102 = .ok (.iconst 3, 1) := by decide +kernel
theorem dX7_mixedSuns_103 : decode cX7_mixedSuns 103 = .ok (.iconst 5, 1) := by decide +kernel
theorem dX7_mixedSuns_104 : decode cX7_mixedSuns 104 = .ok (.iconst 4, 1) := by decide +kernel
theorem dX7_mixedSuns_105 : decode cX7_mixedSuns 105 = .ok (.iconst 1, 1) := by decide +kernel
theorem dX7_mixedSuns_106 : decode cX7_mixedSuns 106 = .ok (.invokevirtual 356, 3) := by decide +kernel
theorem dX7_mixedSuns_109 : decode cX7_mixedSuns 109 = .ok (.invokestatic 296, 3) := by decide +kernel
theorem dX7_mixedSuns_112 : decode cX7_mixedSuns 112 = .ok (.lstore_n 3, 1) := by decide +kernel
theorem dX7_mixedSuns_113 : decode cX7_mixedSuns 113 = .ok (.iinc 5 1, 3) := by decide +kernel
theorem dX7_mixedSuns_116 : decode cX7_mixedSuns 116 = .ok (.goto (-111), 3) := by decide +kernel
theorem dX7_mixedSuns_119 : decode cX7_mixedSuns 119 = .ok (.lload_n 3, 1) := by decide +kernel
theorem dX7_mixedSuns_120 : decode cX7_mixedSuns 120 = .ok (.lreturn, 1) := by decide +kernel
theorem dX7_mixed_0 : decode cX7_mixed 0 = .ok (.ldc2_w 360, 3) := by decide +kernel
theorem dX7_mixed_3 : decode cX7_mixed 3 = .ok (.lload_n 0, 1) := by decide +kernel
theorem dX7_mixed_4 : decode cX7_mixed 4 = .ok (.lmul, 1) := by decide +kernel
theorem dX7_mixed_5 : decode cX7_mixed 5 = .ok (.lload_n 2, 1) := by decide +kernel
theorem dX7_mixed_6 : decode cX7_mixed 6 = .ok (.ladd, 1) := by decide +kernel
theorem dX7_mixed_7 : decode cX7_mixed 7 = .ok (.lreturn, 1) := by decide +kernel
theorem dX7_sunOf_0 : decode cX7_sunOf 0 = .ok (.iload_n 1, 1) := by decide +kernel
theorem dX7_sunOf_1 : decode cX7_sunOf 1 = .ok (.ifCond .ne 8, 3) := by decide +kernel
theorem dX7_sunOf_4 : decode cX7_sunOf 4 = .ok (.aload_n 0, 1) := by decide +kernel
theorem dX7_sunOf_5 : decode cX7_sunOf 5 = .ok (.getfield 12, 3) := by decide +kernel
theorem dX7_sunOf_8 : decode cX7_sunOf 8 = .ok (.areturn, 1) := by decide +kernel
theorem dX7_sunOf_9 : decode cX7_sunOf 9 = .ok (.iload_n 1, 1) := by decide +kernel
theorem dX7_sunOf_10 : decode cX7_sunOf 10 = .ok (.iconst 1, 1) := by decide +kernel
theorem dX7_sunOf_11 : decode cX7_sunOf 11 = .ok (.if_icmp .ne 10, 3) := by decide +kernel
theorem dX7_sunOf_14 : decode cX7_sunOf 14 = .ok (.aload_n 0, 1) := by decide +kernel
theorem dX7_sunOf_15 : decode cX7_sunOf 15 = .ok (.getfield 18, 3) := by decide +kernel
theorem dX7_sunOf_18 : decode cX7_sunOf 18 = .ok (.goto 4, 3) := by decide +kernel
theorem dX7_sunOf_21 : decode cX7_sunOf 21 = .ok (.aconst_null, 1) := by decide +kernel
theorem dX7_sunOf_22 : decode cX7_sunOf 22 = .ok (.areturn, 1) := by decide +kernel
theorem dX7_textOf_0 : decode cX7_textOf 0 = .ok (.iload_n 1, 1) := by decide +kernel
theorem dX7_textOf_1 : decode cX7_textOf 1 = .ok (.ifCond .ne 8, 3) := by decide +kernel
theorem dX7_textOf_4 : decode cX7_textOf 4 = .ok (.aload_n 0, 1) := by decide +kernel
theorem dX7_textOf_5 : decode cX7_textOf 5 = .ok (.getfield 33, 3) := by decide +kernel
theorem dX7_textOf_8 : decode cX7_textOf 8 = .ok (.areturn, 1) := by decide +kernel
theorem dX7_textOf_9 : decode cX7_textOf 9 = .ok (.iload_n 1, 1) := by decide +kernel
theorem dX7_textOf_10 : decode cX7_textOf 10 = .ok (.iconst 1, 1) := by decide +kernel
theorem dX7_textOf_11 : decode cX7_textOf 11 = .ok (.if_icmp .ne 10, 3) := by decide +kernel
theorem dX7_textOf_14 : decode cX7_textOf 14 = .ok (.aload_n 0, 1) := by decide +kernel
theorem dX7_textOf_15 : decode cX7_textOf 15 = .ok (.getfield 40, 3) := by decide +kernel
theorem dX7_textOf_18 : decode cX7_textOf 18 = .ok (.goto 4, 3) := by decide +kernel
theorem dX7_textOf_21 : decode cX7_textOf 21 = .ok (.aconst_null, 1) := by decide +kernel
theorem dX7_textOf_22 : decode cX7_textOf 22 = .ok (.areturn, 1) := by decide +kernel
set_option maxRecDepth 20000 in
theorem ggX7_plantOf_X7_outside : GoodIn wsX7_plantOf wsX7_outside := goodIn_r _ [5] (by decide +kernel) (by decide +kernel)
set_option maxRecDepth 20000 in
theorem gX7_plantOf_X7_outside : GoodIn wsX7_plantOf (va_wsS RX7 76 yX7_outside wsX7_outside) := goodIn_app (goodIn_of _ (by decide +kernel)) ggX7_plantOf_X7_outside
theorem dX7_plantOf_0 : decode cX7_plantOf 0 = .ok (.iload_n 1, 1) := by decide +kernel
theorem dX7_plantOf_1 : decode cX7_plantOf 1 = .ok (.iconst 0, 1) := by decide +kernel
theorem dX7_plantOf_2 : decode cX7_plantOf 2 = .ok (.iconst 3, 1) := by decide +kernel
theorem dX7_plantOf_3 : decode cX7_plantOf 3 = .ok (.invokestatic 76, 3) := by decide +kernel
theorem dX7_plantOf_6 : decode cX7_plantOf 6 = .ok (.ifCond .eq 7, 3) := by decide +kernel
theorem dX7_plantOf_9 : decode cX7_plantOf 9 = .ok (.aconst_null, 1) := by decide +kernel
theorem dX7_plantOf_10 : decode cX7_plantOf 10 = .ok (.goto 9, 3) := by decide +kernel
theorem dX7_plantOf_13 : decode cX7_plantOf 13 = .ok (.aload_n 0, 1) := by decide +kernel
theorem dX7_plantOf_14 : decode cX7_plantOf 14 = .ok (.getfield 53, 3) := by decide +kernel
theorem dX7_plantOf_17 : decode cX7_plantOf 17 = .ok (.iload_n 1, 1) := by decide +kernel
theorem dX7_plantOf_18 : decode cX7_plantOf 18 = .ok (.aaload, 1) := by decide +kernel
theorem dX7_plantOf_19 : decode cX7_plantOf 19 = .ok (.areturn, 1) := by decide +kernel
set_option maxRecDepth 20000 in
theorem ggX7_sheetOf_X7_outside : GoodIn wsX7_sheetOf wsX7_outside := goodIn_r _ [5] (by decide +kernel) (by decide +kernel)
set_option maxRecDepth 20000 in
theorem gX7_sheetOf_X7_outside : GoodIn wsX7_sheetOf (va_wsS RX7 76 yX7_outside wsX7_outside) := goodIn_app (goodIn_of _ (by decide +kernel)) ggX7_sheetOf_X7_outside
theorem dX7_sheetOf_0 : decode cX7_sheetOf 0 = .ok (.iload_n 1, 1) := by decide +kernel
theorem dX7_sheetOf_1 : decode cX7_sheetOf 1 = .ok (.iconst 0, 1) := by decide +kernel
theorem dX7_sheetOf_2 : decode cX7_sheetOf 2 = .ok (.iconst 3, 1) := by decide +kernel
theorem dX7_sheetOf_3 : decode cX7_sheetOf 3 = .ok (.invokestatic 76, 3) := by decide +kernel
theorem dX7_sheetOf_6 : decode cX7_sheetOf 6 = .ok (.ifCond .eq 7, 3) := by decide +kernel
theorem dX7_sheetOf_9 : decode cX7_sheetOf 9 = .ok (.aconst_null, 1) := by decide +kernel
theorem dX7_sheetOf_10 : decode cX7_sheetOf 10 = .ok (.goto 9, 3) := by decide +kernel
theorem dX7_sheetOf_13 : decode cX7_sheetOf 13 = .ok (.aload_n 0, 1) := by decide +kernel
theorem dX7_sheetOf_14 : decode cX7_sheetOf 14 = .ok (.getfield 59, 3) := by decide +kernel
theorem dX7_sheetOf_17 : decode cX7_sheetOf 17 = .ok (.iload_n 1, 1) := by decide +kernel
theorem dX7_sheetOf_18 : decode cX7_sheetOf 18 = .ok (.aaload, 1) := by decide +kernel
theorem dX7_sheetOf_19 : decode cX7_sheetOf 19 = .ok (.areturn, 1) := by decide +kernel
theorem dX7_outside_0 : decode cX7_outside 0 = .ok (.iload_n 0, 1) := by decide +kernel
theorem dX7_outside_1 : decode cX7_outside 1 = .ok (.iload_n 1, 1) := by decide +kernel
theorem dX7_outside_2 : decode cX7_outside 2 = .ok (.if_icmp .lt 8, 3) := by decide +kernel
theorem dX7_outside_5 : decode cX7_outside 5 = .ok (.iload_n 0, 1) := by decide +kernel
theorem dX7_outside_6 : decode cX7_outside 6 = .ok (.iload_n 2, 1) := by decide +kernel
theorem dX7_outside_7 : decode cX7_outside 7 = .ok (.if_icmp .le 7, 3) := by decide +kernel
theorem dX7_outside_10 : decode cX7_outside 10 = .ok (.iconst 1, 1) := by decide +kernel
theorem dX7_outside_11 : decode cX7_outside 11 = .ok (.goto 4, 3) := by decide +kernel
theorem dX7_outside_14 : decode cX7_outside 14 = .ok (.iconst 0, 1) := by decide +kernel
theorem dX7_outside_15 : decode cX7_outside 15 = .ok (.ireturn, 1) := by decide +kernel
set_option maxRecDepth 20000 in
theorem ggX7_noHour_X7_outside : GoodIn wsX7_noHour wsX7_outside := goodIn_r _ [5] (by decide +kernel) (by decide +kernel)
set_option maxRecDepth 20000 in
theorem gX7_noHour_X7_outside : GoodIn wsX7_noHour (va_wsS RX7 76 yX7_outside wsX7_outside) := goodIn_app (goodIn_of _ (by decide +kernel)) ggX7_noHour_X7_outside
theorem dX7_noHour_0 : decode cX7_noHour 0 = .ok (.iload_n 0, 1) := by decide +kernel
theorem dX7_noHour_1 : decode cX7_noHour 1 = .ok (.iconst 0, 1) := by decide +kernel
theorem dX7_noHour_2 : decode cX7_noHour 2 = .ok (.ldc_w 362, 3) := by decide +kernel
theorem dX7_noHour_5 : decode cX7_noHour 5 = .ok (.invokestatic 76, 3) := by decide +kernel
theorem dX7_noHour_8 : decode cX7_noHour 8 = .ok (.ireturn, 1) := by decide +kernel
set_option maxRecDepth 20000 in
theorem ggX7_noLight_X7_outside : GoodIn wsX7_noLight wsX7_outside := goodIn_r _ [4] (by decide +kernel) (by decide +kernel)
set_option maxRecDepth 20000 in
theorem gX7_noLight_X7_outside : GoodIn wsX7_noLight (va_wsS RX7 76 yX7_outside wsX7_outside) := goodIn_app (goodIn_of _ (by decide +kernel)) ggX7_noLight_X7_outside
theorem dX7_noLight_0 : decode cX7_noLight 0 = .ok (.iload_n 0, 1) := by decide +kernel
theorem dX7_noLight_1 : decode cX7_noLight 1 = .ok (.iconst 0, 1) := by decide +kernel
theorem dX7_noLight_2 : decode cX7_noLight 2 = .ok (.iconst 3, 1) := by decide +kernel
theorem dX7_noLight_3 : decode cX7_noLight 3 = .ok (.invokestatic 76, 3) := by decide +kernel
theorem dX7_noLight_6 : decode cX7_noLight 6 = .ok (.ireturn, 1) := by decide +kernel
set_option maxRecDepth 20000 in
theorem ggX7_noPerson_X7_outside : GoodIn wsX7_noPerson wsX7_outside := goodIn_r _ [4] (by decide +kernel) (by decide +kernel)
set_option maxRecDepth 20000 in
theorem gX7_noPerson_X7_outside : GoodIn wsX7_noPerson (va_wsS RX7 76 yX7_outside wsX7_outside) := goodIn_app (goodIn_of _ (by decide +kernel)) ggX7_noPerson_X7_outside
theorem dX7_noPerson_0 : decode cX7_noPerson 0 = .ok (.iload_n 0, 1) := by decide +kernel
theorem dX7_noPerson_1 : decode cX7_noPerson 1 = .ok (.iconst 0, 1) := by decide +kernel
theorem dX7_noPerson_2 : decode cX7_noPerson 2 = .ok (.iconst 5, 1) := by decide +kernel
theorem dX7_noPerson_3 : decode cX7_noPerson 3 = .ok (.invokestatic 76, 3) := by decide +kernel
theorem dX7_noPerson_6 : decode cX7_noPerson 6 = .ok (.ireturn, 1) := by decide +kernel
set_option maxRecDepth 20000 in
theorem ggX7_noGrowth_X7_outside : GoodIn wsX7_noGrowth wsX7_outside := goodIn_r _ [4] (by decide +kernel) (by decide +kernel)
set_option maxRecDepth 20000 in
theorem gX7_noGrowth_X7_outside : GoodIn wsX7_noGrowth (va_wsS RX7 76 yX7_outside wsX7_outside) := goodIn_app (goodIn_of _ (by decide +kernel)) ggX7_noGrowth_X7_outside
theorem dX7_noGrowth_0 : decode cX7_noGrowth 0 = .ok (.iload_n 0, 1) := by decide +kernel
theorem dX7_noGrowth_1 : decode cX7_noGrowth 1 = .ok (.bipush (-9), 2) := by decide +kernel
theorem dX7_noGrowth_3 : decode cX7_noGrowth 3 = .ok (.bipush 9, 2) := by decide +kernel
theorem dX7_noGrowth_5 : decode cX7_noGrowth 5 = .ok (.invokestatic 76, 3) := by decide +kernel
theorem dX7_noGrowth_8 : decode cX7_noGrowth 8 = .ok (.ireturn, 1) := by decide +kernel
set_option maxRecDepth 20000 in
theorem ggX7_noForm_X7_outside : GoodIn wsX7_noForm wsX7_outside := goodIn_r _ [4] (by decide +kernel) (by decide +kernel)
set_option maxRecDepth 20000 in
theorem gX7_noForm_X7_outside : GoodIn wsX7_noForm (va_wsS RX7 76 yX7_outside wsX7_outside) := goodIn_app (goodIn_of _ (by decide +kernel)) ggX7_noForm_X7_outside
theorem dX7_noForm_0 : decode cX7_noForm 0 = .ok (.iload_n 0, 1) := by decide +kernel
theorem dX7_noForm_1 : decode cX7_noForm 1 = .ok (.iconst 0, 1) := by decide +kernel
theorem dX7_noForm_2 : decode cX7_noForm 2 = .ok (.iconst 2, 1) := by decide +kernel
theorem dX7_noForm_3 : decode cX7_noForm 3 = .ok (.invokestatic 76, 3) := by decide +kernel
theorem dX7_noForm_6 : decode cX7_noForm 6 = .ok (.ireturn, 1) := by decide +kernel
theorem dX7_found_0 : decode cX7_found 0 = .ok (.aload_n 0, 1) := by decide +kernel
theorem dX7_found_1 : decode cX7_found 1 = .ok (.iload_n 1, 1) := by decide +kernel
theorem dX7_found_2 : decode cX7_found 2 = .ok (.putfield 66, 3) := by decide +kernel
theorem dX7_found_5 : decode cX7_found 5 = .ok (.bipush (-10), 2) := by decide +kernel
theorem dX7_found_7 : decode cX7_found 7 = .ok (.iload_n 1, 1) := by decide +kernel
theorem dX7_found_8 : decode cX7_found 8 = .ok (.isub, 1) := by decide +kernel
theorem dX7_found_9 : decode cX7_found 9 = .ok (.ireturn, 1) := by decide +kernel
set_option maxRecDepth 20000 in
theorem ggX7_driftByCalendar_X5_awayFromRise : GoodIn wsX7_driftByCalendar wsX5_awayFromRise := goodIn_r _ [10, 11, 12, 13, 3, 14, 15, 16, 17, 9, 18, 19, 44, 45, 46, 47, 48] (by decide +kernel) (by decide +kernel)
set_option maxRecDepth 20000 in
theorem gX7_driftByCalendar_X5_awayFromRise : GoodIn wsX7_driftByCalendar (wsV RX7 363 RX5 yX5_awayFromRise wsX5_awayFromRise) := goodIn_app (goodIn_of _ (by decide +kernel)) ggX7_driftByCalendar_X5_awayFromRise
set_option maxRecDepth 20000 in
theorem ggX7_driftByCalendar_X0_lengthOf : GoodIn wsX7_driftByCalendar wsX0_lengthOf := goodIn_r _ [24, 25, 26, 27, 28, 29, 30, 31, 32, 49, 50, 51, 52] (by decide +kernel) (by decide +kernel)
set_option maxRecDepth 20000 in
theorem gX7_driftByCalendar_X0_lengthOf : GoodIn wsX7_driftByCalendar (wsV RX7 147 RX0 yX0_lengthOf wsX0_lengthOf) := goodIn_app (goodIn_of _ (by decide +kernel)) ggX7_driftByCalendar_X0_lengthOf
theorem dX7_driftByCalendar_0 : decode cX7_driftByCalendar 0 = .ok (.iconst 0, 1) := by decide +kernel
theorem dX7_driftByCalendar_1 : decode cX7_driftByCalendar 1 = .ok (.istore 4, 2) := by decide +kernel
theorem dX7_driftByCalendar_3 : decode cX7_driftByCalendar 3 = .ok (.iconst 0, 1) := by decide +kernel
theorem dX7_driftByCalendar_4 : decode cX7_driftByCalendar 4 = .ok (.istore 5, 2) := by decide +kernel
theorem dX7_driftByCalendar_6 : decode cX7_driftByCalendar 6 = .ok (.iconst 0, 1) := by decide +kernel
theorem dX7_driftByCalendar_7 : decode cX7_driftByCalendar 7 = .ok (.istore 6, 2) := by decide +kernel
theorem dX7_driftByCalendar_9 : decode cX7_driftByCalendar 9 = .ok (.iconst 0, 1) := by decide +kernel
theorem dX7_driftByCalendar_10 : decode cX7_driftByCalendar 10 = .ok (.istore 7, 2) := by decide +kernel
theorem dX7_driftByCalendar_12 : decode cX7_driftByCalendar 12 = .ok (.iload 7, 2) := by decide +kernel
theorem dX7_driftByCalendar_14 : decode cX7_driftByCalendar 14 = .ok (.iload_n 2, 1) := by decide +kernel
theorem dX7_driftByCalendar_15 : decode cX7_driftByCalendar 15 = .ok (.if_icmp .ge 54, 3) := by decide +kernel
theorem dX7_driftByCalendar_18 : decode cX7_driftByCalendar 18 = .ok (.iload 4, 2) := by decide +kernel
theorem dX7_driftByCalendar_20 : decode cX7_driftByCalendar 20 = .ok (.aload_n 1, 1) := by decide +kernel
theorem dX7_driftByCalendar_21 : decode cX7_driftByCalendar 21 = .ok (.iload 5, 2) := by decide +kernel
theorem dX7_driftByCalendar_23 : decode cX7_driftByCalendar 23 = .ok (.invokevirtual 363, 3) := by decide +kernel
theorem dX7_driftByCalendar_26 : decode cX7_driftByCalendar 26 = .ok (.invokestatic 366, 3) := by decide +kernel
theorem dX7_driftByCalendar_29 : decode cX7_driftByCalendar 29 = .ok (.istore 4, 2) := by decide +kernel
theorem dX7_driftByCalendar_31 : decode cX7_driftByCalendar 31 = .ok (.iload 5, 2) := by decide +kernel
theorem dX7_driftByCalendar_33 : decode cX7_driftByCalendar 33 = .ok (.aload_n 0, 1) := by decide +kernel
theorem dX7_driftByCalendar_34 : decode cX7_driftByCalendar 34 = .ok (.getfield 40, 3) := by decide +kernel
theorem dX7_driftByCalendar_37 : decode cX7_driftByCalendar 37 = .ok (.iload 6, 2) := by decide +kernel
theorem dX7_driftByCalendar_39 : decode cX7_driftByCalendar 39 = .ok (.invokevirtual 147, 3) := by decide +kernel
theorem dX7_driftByCalendar_42 : decode cX7_driftByCalendar 42 = .ok (.iadd, 1) := by decide +kernel
theorem dX7_driftByCalendar_43 : decode cX7_driftByCalendar 43 = .ok (.istore 5, 2) := by decide +kernel
theorem dX7_driftByCalendar_45 : decode cX7_driftByCalendar 45 = .ok (.iload 6, 2) := by decide +kernel
theorem dX7_driftByCalendar_47 : decode cX7_driftByCalendar 47 = .ok (.iconst 1, 1) := by decide +kernel
theorem dX7_driftByCalendar_48 : decode cX7_driftByCalendar 48 = .ok (.iadd, 1) := by decide +kernel
theorem dX7_driftByCalendar_49 : decode cX7_driftByCalendar 49 = .ok (.iload_n 3, 1) := by decide +kernel
theorem dX7_driftByCalendar_50 : decode cX7_driftByCalendar 50 = .ok (.if_icmp .ge 10, 3) := by decide +kernel
theorem dX7_driftByCalendar_53 : decode cX7_driftByCalendar 53 = .ok (.iload 6, 2) := by decide +kernel
theorem dX7_driftByCalendar_55 : decode cX7_driftByCalendar 55 = .ok (.iconst 1, 1) := by decide +kernel
theorem dX7_driftByCalendar_56 : decode cX7_driftByCalendar 56 = .ok (.iadd, 1) := by decide +kernel
theorem dX7_driftByCalendar_57 : decode cX7_driftByCalendar 57 = .ok (.goto 4, 3) := by decide +kernel
theorem dX7_driftByCalendar_60 : decode cX7_driftByCalendar 60 = .ok (.iconst 0, 1) := by decide +kernel
theorem dX7_driftByCalendar_61 : decode cX7_driftByCalendar 61 = .ok (.istore 6, 2) := by decide +kernel
theorem dX7_driftByCalendar_63 : decode cX7_driftByCalendar 63 = .ok (.iinc 7 1, 3) := by decide +kernel
theorem dX7_driftByCalendar_66 : decode cX7_driftByCalendar 66 = .ok (.goto (-54), 3) := by decide +kernel
theorem dX7_driftByCalendar_69 : decode cX7_driftByCalendar 69 = .ok (.iload 4, 2) := by decide +kernel
theorem dX7_driftByCalendar_71 : decode cX7_driftByCalendar 71 = .ok (.ireturn, 1) := by decide +kernel
set_option maxRecDepth 20000 in
theorem ggX7_driftByTwo_X5_awayFromRise : GoodIn wsX7_driftByTwo wsX5_awayFromRise := goodIn_r _ [9, 10, 11, 12, 3, 13, 14, 15, 16, 8, 17, 18, 19, 20, 21, 22, 23] (by decide +kernel) (by decide +kernel)
set_option maxRecDepth 20000 in
theorem gX7_driftByTwo_X5_awayFromRise : GoodIn wsX7_driftByTwo (wsV RX7 363 RX5 yX5_awayFromRise wsX5_awayFromRise) := goodIn_app (goodIn_of _ (by decide +kernel)) ggX7_driftByTwo_X5_awayFromRise
theorem dX7_driftByTwo_0 : decode cX7_driftByTwo 0 = .ok (.iconst 0, 1) := by decide +kernel
theorem dX7_driftByTwo_1 : decode cX7_driftByTwo 1 = .ok (.istore_n 3, 1) := by decide +kernel
theorem dX7_driftByTwo_2 : decode cX7_driftByTwo 2 = .ok (.iconst 0, 1) := by decide +kernel
theorem dX7_driftByTwo_3 : decode cX7_driftByTwo 3 = .ok (.istore 4, 2) := by decide +kernel
theorem dX7_driftByTwo_5 : decode cX7_driftByTwo 5 = .ok (.iconst 0, 1) := by decide +kernel
theorem dX7_driftByTwo_6 : decode cX7_driftByTwo 6 = .ok (.istore 5, 2) := by decide +kernel
theorem dX7_driftByTwo_8 : decode cX7_driftByTwo 8 = .ok (.iload 5, 2) := by decide +kernel
theorem dX7_driftByTwo_10 : decode cX7_driftByTwo 10 = .ok (.bipush 24, 2) := by decide +kernel
theorem dX7_driftByTwo_12 : decode cX7_driftByTwo 12 = .ok (.if_icmp .ge 37, 3) := by decide +kernel
theorem dX7_driftByTwo_15 : decode cX7_driftByTwo 15 = .ok (.iload_n 3, 1) := by decide +kernel
theorem dX7_driftByTwo_16 : decode cX7_driftByTwo 16 = .ok (.aload_n 0, 1) := by decide +kernel
theorem dX7_driftByTwo_17 : decode cX7_driftByTwo 17 = .ok (.iload 4, 2) := by decide +kernel
theorem dX7_driftByTwo_19 : decode cX7_driftByTwo 19 = .ok (.invokevirtual 363, 3) := by decide +kernel
theorem dX7_driftByTwo_22 : decode cX7_driftByTwo 22 = .ok (.invokestatic 366, 3) := by decide +kernel
theorem dX7_driftByTwo_25 : decode cX7_driftByTwo 25 = .ok (.istore_n 3, 1) := by decide +kernel
theorem dX7_driftByTwo_26 : decode cX7_driftByTwo 26 = .ok (.iload 4, 2) := by decide +kernel
theorem dX7_driftByTwo_28 : decode cX7_driftByTwo 28 = .ok (.iload 5, 2) := by decide +kernel
theorem dX7_driftByTwo_30 : decode cX7_driftByTwo 30 = .ok (.iconst 1, 1) := by decide +kernel
theorem dX7_driftByTwo_31 : decode cX7_driftByTwo 31 = .ok (.iand, 1) := by decide +kernel
theorem dX7_driftByTwo_32 : decode cX7_driftByTwo 32 = .ok (.ifCond .ne 7, 3) := by decide +kernel
theorem dX7_driftByTwo_35 : decode cX7_driftByTwo 35 = .ok (.iload_n 1, 1) := by decide +kernel
theorem dX7_driftByTwo_36 : decode cX7_driftByTwo 36 = .ok (.goto 4, 3) := by decide +kernel
theorem dX7_driftByTwo_39 : decode cX7_driftByTwo 39 = .ok (.iload_n 2, 1) := by decide +kernel
theorem dX7_driftByTwo_40 : decode cX7_driftByTwo 40 = .ok (.iadd, 1) := by decide +kernel
theorem dX7_driftByTwo_41 : decode cX7_driftByTwo 41 = .ok (.istore 4, 2) := by decide +kernel
theorem dX7_driftByTwo_43 : decode cX7_driftByTwo 43 = .ok (.iinc 5 1, 3) := by decide +kernel
theorem dX7_driftByTwo_46 : decode cX7_driftByTwo 46 = .ok (.goto (-38), 3) := by decide +kernel
theorem dX7_driftByTwo_49 : decode cX7_driftByTwo 49 = .ok (.iload_n 3, 1) := by decide +kernel
theorem dX7_driftByTwo_50 : decode cX7_driftByTwo 50 = .ok (.ireturn, 1) := by decide +kernel
set_option maxRecDepth 20000 in
theorem ggX7_firstOfTwo_X7_driftByTwo : GoodIn wsX7_firstOfTwo wsX7_driftByTwo := goodIn_r _ [11, 1, 2, 3, 4, 12, 13, 14, 15, 16, 17, 18, 6, 7, 19, 20, 21, 22, 23, 24, 25, 26, 27, 28] (by decide +kernel) (by decide +kernel)
set_option maxRecDepth 20000 in
theorem gX7_firstOfTwo_X7_driftByTwo : GoodIn wsX7_firstOfTwo (va_wsS RX7 154 yX7_driftByTwo wsX7_driftByTwo) := goodIn_app (goodIn_of _ (by decide +kernel)) ggX7_firstOfTwo_X7_driftByTwo
theorem dX7_firstOfTwo_0 : decode cX7_firstOfTwo 0 = .ok (.iconst 1, 1) := by decide +kernel
theorem dX7_firstOfTwo_1 : decode cX7_firstOfTwo 1 = .ok (.iload_n 2, 1) := by decide +kernel
theorem dX7_firstOfTwo_2 : decode cX7_firstOfTwo 2 = .ok (.bipush 40, 2) := by decide +kernel
theorem dX7_firstOfTwo_4 : decode cX7_firstOfTwo 4 = .ok (.isub, 1) := by decide +kernel
theorem dX7_firstOfTwo_5 : decode cX7_firstOfTwo 5 = .ok (.invokestatic 366, 3) := by decide +kernel
theorem dX7_firstOfTwo_8 : decode cX7_firstOfTwo 8 = .ok (.istore_n 3, 1) := by decide +kernel
theorem dX7_firstOfTwo_9 : decode cX7_firstOfTwo 9 = .ok (.bipush 40, 2) := by decide +kernel
theorem dX7_firstOfTwo_11 : decode cX7_firstOfTwo 11 = .ok (.iload_n 2, 1) := by decide +kernel
theorem dX7_firstOfTwo_12 : decode cX7_firstOfTwo 12 = .ok (.iconst 1, 1) := by decide +kernel
theorem dX7_firstOfTwo_13 : decode cX7_firstOfTwo 13 = .ok (.isub, 1) := by decide +kernel
theorem dX7_firstOfTwo_14 : decode cX7_firstOfTwo 14 = .ok (.invokestatic 371, 3) := by decide +kernel
theorem dX7_firstOfTwo_17 : decode cX7_firstOfTwo 17 = .ok (.istore 4, 2) := by decide +kernel
theorem dX7_firstOfTwo_19 : decode cX7_firstOfTwo 19 = .ok (.iload_n 3, 1) := by decide +kernel
theorem dX7_firstOfTwo_20 : decode cX7_firstOfTwo 20 = .ok (.istore 5, 2) := by decide +kernel
theorem dX7_firstOfTwo_22 : decode cX7_firstOfTwo 22 = .ok (.iload 5, 2) := by decide +kernel
theorem dX7_firstOfTwo_24 : decode cX7_firstOfTwo 24 = .ok (.iload 4, 2) := by decide +kernel
theorem dX7_firstOfTwo_26 : decode cX7_firstOfTwo 26 = .ok (.if_icmp .gt 26, 3) := by decide +kernel
theorem dX7_firstOfTwo_29 : decode cX7_firstOfTwo 29 = .ok (.aload_n 0, 1) := by decide +kernel
theorem dX7_firstOfTwo_30 : decode cX7_firstOfTwo 30 = .ok (.iload 5, 2) := by decide +kernel
theorem dX7_firstOfTwo_32 : decode cX7_firstOfTwo 32 = .ok (.iload_n 2, 1) := by decide +kernel
theorem dX7_firstOfTwo_33 : decode cX7_firstOfTwo 33 = .ok (.iload 5, 2) := by decide +kernel
theorem dX7_firstOfTwo_35 : decode cX7_firstOfTwo 35 = .ok (.isub, 1) := by decide +kernel
theorem dX7_firstOfTwo_36 : decode cX7_firstOfTwo 36 = .ok (.invokestatic 154, 3) := by decide +kernel
theorem dX7_firstOfTwo_39 : decode cX7_firstOfTwo 39 = .ok (.iload_n 1, 1) := by decide +kernel
theorem dX7_firstOfTwo_40 : decode cX7_firstOfTwo 40 = .ok (.if_icmp .gt 6, 3) := by decide +kernel
theorem dX7_firstOfTwo_43 : decode cX7_firstOfTwo 43 = .ok (.iload 5, 2) := by decide +kernel
theorem dX7_firstOfTwo_45 : decode cX7_firstOfTwo 45 = .ok (.ireturn, 1) := by decide +kernel
theorem dX7_firstOfTwo_46 : decode cX7_firstOfTwo 46 = .ok (.iinc 5 1, 3) := by decide +kernel
theorem dX7_firstOfTwo_49 : decode cX7_firstOfTwo 49 = .ok (.goto (-27), 3) := by decide +kernel
theorem dX7_firstOfTwo_52 : decode cX7_firstOfTwo 52 = .ok (.iconst (-1), 1) := by decide +kernel
theorem dX7_firstOfTwo_53 : decode cX7_firstOfTwo 53 = .ok (.ireturn, 1) := by decide +kernel
theorem dX7_lightsOfAll_0 : decode cX7_lightsOfAll 0 = .ok (.bipush 15, 2) := by decide +kernel
theorem dX7_lightsOfAll_2 : decode cX7_lightsOfAll 2 = .ok (.istore_n 2, 1) := by decide +kernel
theorem dX7_lightsOfAll_3 : decode cX7_lightsOfAll 3 = .ok (.iconst 0, 1) := by decide +kernel
theorem dX7_lightsOfAll_4 : decode cX7_lightsOfAll 4 = .ok (.istore_n 3, 1) := by decide +kernel
theorem dX7_lightsOfAll_5 : decode cX7_lightsOfAll 5 = .ok (.iload_n 3, 1) := by decide +kernel
theorem dX7_lightsOfAll_6 : decode cX7_lightsOfAll 6 = .ok (.bipush 6, 2) := by decide +kernel
theorem dX7_lightsOfAll_8 : decode cX7_lightsOfAll 8 = .ok (.if_icmp .ge 27, 3) := by decide +kernel
theorem dX7_lightsOfAll_11 : decode cX7_lightsOfAll 11 = .ok (.iload_n 1, 1) := by decide +kernel
theorem dX7_lightsOfAll_12 : decode cX7_lightsOfAll 12 = .ok (.iload_n 3, 1) := by decide +kernel
theorem dX7_lightsOfAll_13 : decode cX7_lightsOfAll 13 = .ok (.ishr, 1) := by decide +kernel
theorem dX7_lightsOfAll_14 : decode cX7_lightsOfAll 14 = .ok (.iconst 1, 1) := by decide +kernel
theorem dX7_lightsOfAll_15 : decode cX7_lightsOfAll 15 = .ok (.iand, 1) := by decide +kernel
theorem dX7_lightsOfAll_16 : decode cX7_lightsOfAll 16 = .ok (.iconst 1, 1) := by decide +kernel
theorem dX7_lightsOfAll_17 : decode cX7_lightsOfAll 17 = .ok (.if_icmp .ne 12, 3) := by decide +kernel
theorem dX7_lightsOfAll_20 : decode cX7_lightsOfAll 20 = .ok (.iload_n 2, 1) := by decide +kernel
theorem dX7_lightsOfAll_21 : decode cX7_lightsOfAll 21 = .ok (.aload_n 0, 1) := by decide +kernel
theorem dX7_lightsOfAll_22 : decode cX7_lightsOfAll 22 = .ok (.getfield 44, 3) := by decide +kernel
theorem dX7_lightsOfAll_25 : decode cX7_lightsOfAll 25 = .ok (.iload_n 3, 1) := by decide +kernel
theorem dX7_lightsOfAll_26 : decode cX7_lightsOfAll 26 = .ok (.iaload, 1) := by decide +kernel
theorem dX7_lightsOfAll_27 : decode cX7_lightsOfAll 27 = .ok (.iand, 1) := by decide +kernel
theorem dX7_lightsOfAll_28 : decode cX7_lightsOfAll 28 = .ok (.istore_n 2, 1) := by decide +kernel
theorem dX7_lightsOfAll_29 : decode cX7_lightsOfAll 29 = .ok (.iinc 3 1, 3) := by decide +kernel
theorem dX7_lightsOfAll_32 : decode cX7_lightsOfAll 32 = .ok (.goto (-27), 3) := by decide +kernel
theorem dX7_lightsOfAll_35 : decode cX7_lightsOfAll 35 = .ok (.iload_n 2, 1) := by decide +kernel
theorem dX7_lightsOfAll_36 : decode cX7_lightsOfAll 36 = .ok (.ireturn, 1) := by decide +kernel
theorem dX7_wantsDark_0 : decode cX7_wantsDark 0 = .ok (.aload_n 0, 1) := by decide +kernel
theorem dX7_wantsDark_1 : decode cX7_wantsDark 1 = .ok (.getfield 44, 3) := by decide +kernel
theorem dX7_wantsDark_4 : decode cX7_wantsDark 4 = .ok (.iload_n 1, 1) := by decide +kernel
theorem dX7_wantsDark_5 : decode cX7_wantsDark 5 = .ok (.iaload, 1) := by decide +kernel
theorem dX7_wantsDark_6 : decode cX7_wantsDark 6 = .ok (.iconst 3, 1) := by decide +kernel
theorem dX7_wantsDark_7 : decode cX7_wantsDark 7 = .ok (.ishr, 1) := by decide +kernel
theorem dX7_wantsDark_8 : decode cX7_wantsDark 8 = .ok (.iconst 1, 1) := by decide +kernel
theorem dX7_wantsDark_9 : decode cX7_wantsDark 9 = .ok (.iand, 1) := by decide +kernel
theorem dX7_wantsDark_10 : decode cX7_wantsDark 10 = .ok (.ifCond .ne 7, 3) := by decide +kernel
theorem dX7_wantsDark_13 : decode cX7_wantsDark 13 = .ok (.iconst 1, 1) := by decide +kernel
theorem dX7_wantsDark_14 : decode cX7_wantsDark 14 = .ok (.goto 4, 3) := by decide +kernel
theorem dX7_wantsDark_17 : decode cX7_wantsDark 17 = .ok (.iconst 0, 1) := by decide +kernel
theorem dX7_wantsDark_18 : decode cX7_wantsDark 18 = .ok (.ireturn, 1) := by decide +kernel
set_option maxRecDepth 20000 in
theorem ggX7_aheadInBidding_X7_wantsDark : GoodIn wsX7_aheadInBidding wsX7_wantsDark := goodIn_r _ [6, 7, 8, 9, 10, 11, 12, 13, 14, 15, 16, 17, 18] (by decide +kernel) (by decide +kernel)
set_option maxRecDepth 20000 in
theorem gX7_aheadInBidding_X7_wantsDark : GoodIn wsX7_aheadInBidding (wsV RX7 200 RX7 yX7_wantsDark wsX7_wantsDark) := goodIn_app (goodIn_of _ (by decide +kernel)) ggX7_aheadInBidding_X7_wantsDark
theorem dX7_aheadInBidding_0 : decode cX7_aheadInBidding 0 = .ok (.iconst 0, 1) := by decide +kernel
theorem dX7_aheadInBidding_1 : decode cX7_aheadInBidding 1 = .ok (.istore_n 2, 1) := by decide +kernel
theorem dX7_aheadInBidding_2 : decode cX7_aheadInBidding 2 = .ok (.iconst 0, 1) := by decide +kernel
theorem dX7_aheadInBidding_3 : decode cX7_aheadInBidding 3 = .ok (.istore_n 3, 1) := by decide +kernel
theorem dX7_aheadInBidding_4 : decode cX7_aheadInBidding 4 = .ok (.iload_n 3, 1) := by decide +kernel
theorem dX7_aheadInBidding_5 : decode cX7_aheadInBidding 5 = .ok (.bipush 6, 2) := by decide +kernel
theorem dX7_aheadInBidding_7 : decode cX7_aheadInBidding 7 = .ok (.if_icmp .ge 67, 3) := by decide +kernel
theorem dX7_aheadInBidding_10 : decode cX7_aheadInBidding 10 = .ok (.aload_n 0, 1) := by decide +kernel
theorem dX7_aheadInBidding_11 : decode cX7_aheadInBidding 11 = .ok (.getfield 48, 3) := by decide +kernel
theorem dX7_aheadInBidding_14 : decode cX7_aheadInBidding 14 = .ok (.iload_n 3, 1) := by decide +kernel
theorem dX7_aheadInBidding_15 : decode cX7_aheadInBidding 15 = .ok (.iaload, 1) := by decide +kernel
theorem dX7_aheadInBidding_16 : decode cX7_aheadInBidding 16 = .ok (.aload_n 0, 1) := by decide +kernel
theorem dX7_aheadInBidding_17 : decode cX7_aheadInBidding 17 = .ok (.getfield 48, 3) := by decide +kernel
theorem dX7_aheadInBidding_20 : decode cX7_aheadInBidding 20 = .ok (.iload_n 1, 1) := by decide +kernel
theorem dX7_aheadInBidding_21 : decode cX7_aheadInBidding 21 = .ok (.iaload, 1) := by decide +kernel
theorem dX7_aheadInBidding_22 : decode cX7_aheadInBidding 22 = .ok (.if_icmp .gt 23, 3) := by decide +kernel
theorem dX7_aheadInBidding_25 : decode cX7_aheadInBidding 25 = .ok (.aload_n 0, 1) := by decide +kernel
theorem dX7_aheadInBidding_26 : decode cX7_aheadInBidding 26 = .ok (.getfield 48, 3) := by decide +kernel
theorem dX7_aheadInBidding_29 : decode cX7_aheadInBidding 29 = .ok (.iload_n 3, 1) := by decide +kernel
theorem dX7_aheadInBidding_30 : decode cX7_aheadInBidding 30 = .ok (.iaload, 1) := by decide +kernel
theorem dX7_aheadInBidding_31 : decode cX7_aheadInBidding 31 = .ok (.aload_n 0, 1) := by decide +kernel
theorem dX7_aheadInBidding_32 : decode cX7_aheadInBidding 32 = .ok (.getfield 48, 3) := by decide +kernel
theorem dX7_aheadInBidding_35 : decode cX7_aheadInBidding 35 = .ok (.iload_n 1, 1) := by decide +kernel
theorem dX7_aheadInBidding_36 : decode cX7_aheadInBidding 36 = .ok (.iaload, 1) := by decide +kernel
theorem dX7_aheadInBidding_37 : decode cX7_aheadInBidding 37 = .ok (.if_icmp .ne 12, 3) := by decide +kernel
theorem dX7_aheadInBidding_40 : decode cX7_aheadInBidding 40 = .ok (.iload_n 3, 1) := by decide +kernel
theorem dX7_aheadInBidding_41 : decode cX7_aheadInBidding 41 = .ok (.iload_n 1, 1) := by decide +kernel
theorem dX7_aheadInBidding_42 : decode cX7_aheadInBidding 42 = .ok (.if_icmp .ge 7, 3) := by decide +kernel
theorem dX7_aheadInBidding_45 : decode cX7_aheadInBidding 45 = .ok (.iconst 1, 1) := by decide +kernel
theorem dX7_aheadInBidding_46 : decode cX7_aheadInBidding 46 = .ok (.goto 4, 3) := by decide +kernel
theorem dX7_aheadInBidding_49 : decode cX7_aheadInBidding 49 = .ok (.iconst 0, 1) := by decide +kernel
theorem dX7_aheadInBidding_50 : decode cX7_aheadInBidding 50 = .ok (.istore 4, 2) := by decide +kernel
theorem dX7_aheadInBidding_52 : decode cX7_aheadInBidding 52 = .ok (.aload_n 0, 1) := by decide +kernel
theorem dX7_aheadInBidding_53 : decode cX7_aheadInBidding 53 = .ok (.iload_n 3, 1) := by decide +kernel
theorem dX7_aheadInBidding_54 : decode cX7_aheadInBidding 54 = .ok (.invokevirtual 200, 3) := by decide +kernel
theorem dX7_aheadInBidding_57 : decode cX7_aheadInBidding 57 = .ok (.ifCond .eq 11, 3) := by decide +kernel
theorem dX7_aheadInBidding_60 : decode cX7_aheadInBidding 60 = .ok (.iload 4, 2) := by decide +kernel
theorem dX7_aheadInBidding_62 : decode cX7_aheadInBidding 62 = .ok (.ifCond .eq 6, 3) := by decide +kernel
theorem dX7_aheadInBidding_65 : decode cX7_aheadInBidding 65 = .ok (.iinc 2 1, 3) := by decide +kernel
theorem dX7_aheadInBidding_68 : decode cX7_aheadInBidding 68 = .ok (.iinc 3 1, 3) := by decide +kernel
theorem dX7_aheadInBidding_71 : decode cX7_aheadInBidding 71 = .ok (.goto (-67), 3) := by decide +kernel
theorem dX7_aheadInBidding_74 : decode cX7_aheadInBidding 74 = .ok (.iload_n 2, 1) := by decide +kernel
theorem dX7_aheadInBidding_75 : decode cX7_aheadInBidding 75 = .ok (.ireturn, 1) := by decide +kernel
theorem dX7_allWorths_0 : decode cX7_allWorths 0 = .ok (.iconst 0, 1) := by decide +kernel
theorem dX7_allWorths_1 : decode cX7_allWorths 1 = .ok (.istore_n 1, 1) := by decide +kernel
theorem dX7_allWorths_2 : decode cX7_allWorths 2 = .ok (.iconst 0, 1) := by decide +kernel
theorem dX7_allWorths_3 : decode cX7_allWorths 3 = .ok (.istore_n 2, 1) := by decide +kernel
theorem dX7_allWorths_4 : decode cX7_allWorths 4 = .ok (.iload_n 2, 1) := by decide +kernel
theorem dX7_allWorths_5 : decode cX7_allWorths 5 = .ok (.bipush 6, 2) := by decide +kernel
theorem dX7_allWorths_7 : decode cX7_allWorths 7 = .ok (.if_icmp .ge 18, 3) := by decide +kernel
theorem dX7_allWorths_10 : decode cX7_allWorths 10 = .ok (.iload_n 1, 1) := by decide +kernel
theorem dX7_allWorths_11 : decode cX7_allWorths 11 = .ok (.aload_n 0, 1) := by decide +kernel
theorem dX7_allWorths_12 : decode cX7_allWorths 12 = .ok (.getfield 48, 3) := by decide +kernel
theorem dX7_allWorths_15 : decode cX7_allWorths 15 = .ok (.iload_n 2, 1) := by decide +kernel
theorem dX7_allWorths_16 : decode cX7_allWorths 16 = .ok (.iaload, 1) := by decide +kernel
theorem dX7_allWorths_17 : decode cX7_allWorths 17 = .ok (.iadd, 1) := by decide +kernel
theorem dX7_allWorths_18 : decode cX7_allWorths 18 = .ok (.istore_n 1, 1) := by decide +kernel
theorem dX7_allWorths_19 : decode cX7_allWorths 19 = .ok (.iinc 2 1, 3) := by decide +kernel
theorem dX7_allWorths_22 : decode cX7_allWorths 22 = .ok (.goto (-18), 3) := by decide +kernel
theorem dX7_allWorths_25 : decode cX7_allWorths 25 = .ok (.iload_n 1, 1) := by decide +kernel
theorem dX7_allWorths_26 : decode cX7_allWorths 26 = .ok (.ireturn, 1) := by decide +kernel
set_option maxRecDepth 20000 in
theorem ggX7_findFittingPhases_X1_hours : GoodIn wsX7_findFittingPhases wsX1_hours := goodIn_r _ [8, 9, 10, 11, 12, 13, 7, 14, 15, 16, 17, 18, 19, 20, 21, 22, 23, 24, 25, 26, 55, 56, 57, 58] (by decide +kernel) (by decide +kernel)
set_option maxRecDepth 20000 in
theorem gX7_findFittingPhases_X1_hours : GoodIn wsX7_findFittingPhases (wsV RX7 191 RX1 yX1_hours wsX1_hours) := goodIn_app (goodIn_of _ (by decide +kernel)) ggX7_findFittingPhases_X1_hours
set_option maxRecDepth 20000 in
theorem ggX7_findFittingPhases_X5_findFitting : GoodIn wsX7_findFittingPhases wsX5_findFitting := goodIn_r _ [31, 32, 33, 34, 35, 36, 30, 37, 38, 39, 24, 25, 7, 26, 15, 16, 17, 18, 19, 20, 21, 22, 40, 41, 42, 43, 59, 60, 61, 62, 63, 55, 56, 57, 58] (by decide +kernel) (by decide +kernel)
set_option maxRecDepth 20000 in
theorem gX7_findFittingPhases_X5_findFitting : GoodIn wsX7_findFittingPhases (wsV RX7 374 RX5 yX5_findFitting wsX5_findFitting) := goodIn_app (goodIn_of _ (by decide +kernel)) ggX7_findFittingPhases_X5_findFitting
theorem dX7_findFittingPhases_0 : decode cX7_findFittingPhases 0 = .ok (.aload_n 0, 1) := by decide +kernel
theorem dX7_findFittingPhases_1 : decode cX7_findFittingPhases 1 = .ok (.getfield 33, 3) := by decide +kernel
theorem dX7_findFittingPhases_4 : decode cX7_findFittingPhases 4 = .ok (.invokevirtual 191, 3) := by decide +kernel
theorem dX7_findFittingPhases_7 : decode cX7_findFittingPhases 7 = .ok (.istore_n 1, 1) := by decide +kernel
theorem dX7_findFittingPhases_8 : decode cX7_findFittingPhases 8 = .ok (.aload_n 0, 1) := by decide +kernel
theorem dX7_findFittingPhases_9 : decode cX7_findFittingPhases 9 = .ok (.getfield 12, 3) := by decide +kernel
theorem dX7_findFittingPhases_12 : decode cX7_findFittingPhases 12 = .ok (.aload_n 0, 1) := by decide +kernel
theorem dX7_findFittingPhases_13 : decode cX7_findFittingPhases 13 = .ok (.getfield 33, 3) := by decide +kernel
theorem dX7_findFittingPhases_16 : decode cX7_findFittingPhases 16 = .ok (.iload_n 1, 1) := by decide +kernel
theorem dX7_findFittingPhases_17 : decode cX7_findFittingPhases 17 = .ok (.iconst 0, 1) := by decide +kernel
theorem dX7_findFittingPhases_18 : decode cX7_findFittingPhases 18 = .ok (.invokevirtual 374, 3) := by decide +kernel
theorem dX7_findFittingPhases_21 : decode cX7_findFittingPhases 21 = .ok (.aload_n 0, 1) := by decide +kernel
theorem dX7_findFittingPhases_22 : decode cX7_findFittingPhases 22 = .ok (.getfield 18, 3) := by decide +kernel
theorem dX7_findFittingPhases_25 : decode cX7_findFittingPhases 25 = .ok (.aload_n 0, 1) := by decide +kernel
theorem dX7_findFittingPhases_26 : decode cX7_findFittingPhases 26 = .ok (.getfield 33, 3) := by decide +kernel
theorem dX7_findFittingPhases_29 : decode cX7_findFittingPhases 29 = .ok (.iload_n 1, 1) := by decide +kernel
theorem dX7_findFittingPhases_30 : decode cX7_findFittingPhases 30 = .ok (.iconst 1, 1) := by decide +kernel
theorem dX7_findFittingPhases_31 : decode cX7_findFittingPhases 31 = .ok (.invokevirtual 374, 3) := by decide +kernel
theorem dX7_findFittingPhases_34 : decode cX7_findFittingPhases 34 = .ok (.return_, 1) := by decide +kernel
set_option maxRecDepth 20000 in
theorem ggX7_findBest_X7_bestWith : GoodIn wsX7_findBest wsX7_bestWith := goodIn_r _ [10, 11, 12, 1, 13, 14, 15, 9, 16, 17, 18, 19, 20, 21, 22, 23, 24, 25, 26, 27, 28, 3, 4, 5, 29, 30, 31, 32, 33, 34, 35, 36, 37, 38, 39, 40, 41, 42, 43, 55, 56, 44, 45, 46, 47, 48, 49, 50, 51, 52, 53, 54, 57, 58, 59, 60, 61, 62, 63] (by decide +kernel) (by decide +kernel)
set_option maxRecDepth 20000 in
theorem gX7_findBest_X7_bestWith : GoodIn wsX7_findBest (wsV RX7 378 RX7 yX7_bestWith wsX7_bestWith) := goodIn_app (goodIn_of _ (by decide +kernel)) ggX7_findBest_X7_bestWith
theorem dX7_findBest_0 : decode cX7_findBest 0 = .ok (.aload_n 0, 1) := by decide +kernel
theorem dX7_findBest_1 : decode cX7_findBest 1 = .ok (.getfield 63, 3) := by decide +kernel
theorem dX7_findBest_4 : decode cX7_findBest 4 = .ok (.iload_n 2, 1) := by decide +kernel
theorem dX7_findBest_5 : decode cX7_findBest 5 = .ok (.iconst 0, 1) := by decide +kernel
theorem dX7_findBest_6 : decode cX7_findBest 6 = .ok (.iastore, 1) := by decide +kernel
theorem dX7_findBest_7 : decode cX7_findBest 7 = .ok (.iload_n 2, 1) := by decide +kernel
theorem dX7_findBest_8 : decode cX7_findBest 8 = .ok (.iconst 1, 1) := by decide +kernel
theorem dX7_findBest_9 : decode cX7_findBest 9 = .ok (.isub, 1) := by decide +kernel
theorem dX7_findBest_10 : decode cX7_findBest 10 = .ok (.istore_n 3, 1) := by decide +kernel
theorem dX7_findBest_11 : decode cX7_findBest 11 = .ok (.iload_n 3, 1) := by decide +kernel
theorem dX7_findBest_12 : decode cX7_findBest 12 = .ok (.ifCond .lt 58, 3) := by decide +kernel
theorem dX7_findBest_15 : decode cX7_findBest 15 = .ok (.aload_n 0, 1) := by decide +kernel
theorem dX7_findBest_16 : decode cX7_findBest 16 = .ok (.getfield 63, 3) := by decide +kernel
theorem dX7_findBest_19 : decode cX7_findBest 19 = .ok (.iload_n 3, 1) := by decide +kernel
theorem dX7_findBest_20 : decode cX7_findBest 20 = .ok (.iconst 1, 1) := by decide +kernel
theorem dX7_findBest_21 : decode cX7_findBest 21 = .ok (.iadd, 1) := by decide +kernel
theorem dX7_findBest_22 : decode cX7_findBest 22 = .ok (.iaload, 1) := by decide +kernel
theorem dX7_findBest_23 : decode cX7_findBest 23 = .ok (.istore 4, 2) := by decide +kernel
theorem dX7_findBest_25 : decode cX7_findBest 25 = .ok (.iconst 0, 1) := by decide +kernel
theorem dX7_findBest_26 : decode cX7_findBest 26 = .ok (.istore 5, 2) := by decide +kernel
theorem dX7_findBest_28 : decode cX7_findBest 28 = .ok (.iload 5, 2) := by decide +kernel
theorem dX7_findBest_30 : decode cX7_findBest 30 = .ok (.iconst 4, 1) := by decide +kernel
theorem dX7_findBest_31 : decode cX7_findBest 31 = .ok (.if_icmp .ge 25, 3) := by decide +kernel
theorem dX7_findBest_34 : decode cX7_findBest 34 = .ok (.iload 4, 2) := by decide +kernel
theorem dX7_findBest_36 : decode cX7_findBest 36 = .ok (.aload_n 0, 1) := by decide +kernel
theorem dX7_findBest_37 : decode cX7_findBest 37 = .ok (.iload 5, 2) := by decide +kernel
theorem dX7_findBest_39 : decode cX7_findBest 39 = .ok (.iload_n 1, 1) := by decide +kernel
theorem dX7_findBest_40 : decode cX7_findBest 40 = .ok (.iload_n 3, 1) := by decide +kernel
theorem dX7_findBest_41 : decode cX7_findBest 41 = .ok (.iload_n 2, 1) := by decide +kernel
theorem dX7_findBest_42 : decode cX7_findBest 42 = .ok (.invokevirtual 378, 3) := by decide +kernel
theorem dX7_findBest_45 : decode cX7_findBest 45 = .ok (.invokestatic 366, 3) := by decide +kernel
theorem dX7_findBest_48 : decode cX7_findBest 48 = .ok (.istore 4, 2) := by decide +kernel
theorem dX7_findBest_50 : decode cX7_findBest 50 = .ok (.iinc 5 1, 3) := by decide +kernel
theorem dX7_findBest_53 : decode cX7_findBest 53 = .ok (.goto (-25), 3) := by decide +kernel
theorem dX7_findBest_56 : decode cX7_findBest 56 = .ok (.aload_n 0, 1) := by decide +kernel
theorem dX7_findBest_57 : decode cX7_findBest 57 = .ok (.getfield 63, 3) := by decide +kernel
theorem dX7_findBest_60 : decode cX7_findBest 60 = .ok (.iload_n 3, 1) := by decide +kernel
theorem dX7_findBest_61 : decode cX7_findBest 61 = .ok (.iload 4, 2) := by decide +kernel
theorem dX7_findBest_63 : decode cX7_findBest 63 = .ok (.iastore, 1) := by decide +kernel
theorem dX7_findBest_64 : decode cX7_findBest 64 = .ok (.iinc 3 (-1), 3) := by decide +kernel
theorem dX7_findBest_67 : decode cX7_findBest 67 = .ok (.goto (-56), 3) := by decide +kernel
theorem dX7_findBest_70 : decode cX7_findBest 70 = .ok (.return_, 1) := by decide +kernel
set_option maxRecDepth 20000 in
theorem ggX7_bestWith_X7_plantOf : GoodIn wsX7_bestWith wsX7_plantOf := goodIn_r _ [8, 9, 10, 11, 7, 12, 41, 42, 43, 44, 45, 46, 47, 48, 49, 50, 51] (by decide +kernel) (by decide +kernel)
set_option maxRecDepth 20000 in
theorem gX7_bestWith_X7_plantOf : GoodIn wsX7_bestWith (wsV RX7 206 RX7 yX7_plantOf wsX7_plantOf) := goodIn_app (goodIn_of _ (by decide +kernel)) ggX7_bestWith_X7_plantOf
set_option maxRecDepth 20000 in
theorem ggX7_bestWith_X2_yieldFrom : GoodIn wsX7_bestWith wsX2_yieldFrom := goodIn_r _ [17, 18, 19, 20, 21, 22, 23, 24, 25, 26, 27, 28, 29, 30, 31, 32, 33, 34, 35, 36, 37, 38, 39, 40, 52, 53, 54, 55, 56, 57, 58] (by decide +kernel) (by decide +kernel)
set_option maxRecDepth 20000 in
theorem gX7_bestWith_X2_yieldFrom : GoodIn wsX7_bestWith (wsV RX7 232 RX2 yX2_yieldFrom wsX2_yieldFrom) := goodIn_app (goodIn_of _ (by decide +kernel)) ggX7_bestWith_X2_yieldFrom
theorem dX7_bestWith_0 : decode cX7_bestWith 0 = .ok (.aload_n 0, 1) := by decide +kernel
theorem dX7_bestWith_1 : decode cX7_bestWith 1 = .ok (.iload_n 1, 1) := by decide +kernel
theorem dX7_bestWith_2 : decode cX7_bestWith 2 = .ok (.invokevirtual 206, 3) := by decide +kernel
theorem dX7_bestWith_5 : decode cX7_bestWith 5 = .ok (.astore 5, 2) := by decide +kernel
theorem dX7_bestWith_7 : decode cX7_bestWith 7 = .ok (.aload 5, 2) := by decide +kernel
theorem dX7_bestWith_9 : decode cX7_bestWith 9 = .ok (.ifnull 15, 3) := by decide +kernel
theorem dX7_bestWith_12 : decode cX7_bestWith 12 = .ok (.iload_n 3, 1) := by decide +kernel
theorem dX7_bestWith_13 : decode cX7_bestWith 13 = .ok (.aload 5, 2) := by decide +kernel
theorem dX7_bestWith_15 : decode cX7_bestWith 15 = .ok (.getfield 210, 3) := by decide +kernel
theorem dX7_bestWith_18 : decode cX7_bestWith 18 = .ok (.iadd, 1) := by decide +kernel
theorem dX7_bestWith_19 : decode cX7_bestWith 19 = .ok (.iload 4, 2) := by decide +kernel
theorem dX7_bestWith_21 : decode cX7_bestWith 21 = .ok (.if_icmp .le 5, 3) := by decide +kernel
theorem dX7_bestWith_24 : decode cX7_bestWith 24 = .ok (.iconst (-1), 1) := by decide +kernel
theorem dX7_bestWith_25 : decode cX7_bestWith 25 = .ok (.ireturn, 1) := by decide +kernel
theorem dX7_bestWith_26 : decode cX7_bestWith 26 = .ok (.aload 5, 2) := by decide +kernel
theorem dX7_bestWith_28 : decode cX7_bestWith 28 = .ok (.aload_n 0, 1) := by decide +kernel
theorem dX7_bestWith_29 : decode cX7_bestWith 29 = .ok (.getfield 26, 3) := by decide +kernel
theorem dX7_bestWith_32 : decode cX7_bestWith 32 = .ok (.iload_n 2, 1) := by decide +kernel
theorem dX7_bestWith_33 : decode cX7_bestWith 33 = .ok (.iload_n 3, 1) := by decide +kernel
theorem dX7_bestWith_34 : decode cX7_bestWith 34 = .ok (.iadd, 1) := by decide +kernel
theorem dX7_bestWith_35 : decode cX7_bestWith 35 = .ok (.invokevirtual 232, 3) := by decide +kernel
theorem dX7_bestWith_38 : decode cX7_bestWith 38 = .ok (.aload_n 0, 1) := by decide +kernel
theorem dX7_bestWith_39 : decode cX7_bestWith 39 = .ok (.getfield 63, 3) := by decide +kernel
theorem dX7_bestWith_42 : decode cX7_bestWith 42 = .ok (.iload_n 3, 1) := by decide +kernel
theorem dX7_bestWith_43 : decode cX7_bestWith 43 = .ok (.aload 5, 2) := by decide +kernel
theorem dX7_bestWith_45 : decode cX7_bestWith 45 = .ok (.getfield 210, 3) := by decide +kernel
theorem dX7_bestWith_48 : decode cX7_bestWith 48 = .ok (.iadd, 1) := by decide +kernel
theorem dX7_bestWith_49 : decode cX7_bestWith 49 = .ok (.iaload, 1) := by decide +kernel
theorem dX7_bestWith_50 : decode cX7_bestWith 50 = .ok (.iadd, 1) := by decide +kernel
theorem dX7_bestWith_51 : decode cX7_bestWith 51 = .ok (.ireturn, 1) := by decide +kernel
set_option maxRecDepth 20000 in
theorem ggX7_firstToPlant_X7_bestWith : GoodIn wsX7_firstToPlant wsX7_bestWith := goodIn_r _ [6, 7, 8, 1, 9, 10, 11, 5, 12, 13, 14, 15, 16, 17, 18, 19, 20, 21, 22, 23, 24, 25, 26, 27, 28, 29, 30, 31, 32, 33, 34, 35, 36, 37, 38, 39, 40, 41, 42, 54, 55, 43, 44, 45, 46, 47, 48, 49, 50, 51, 52, 53, 56, 57, 58, 59, 60, 61, 62] (by decide +kernel) (by decide +kernel)
set_option maxRecDepth 20000 in
theorem gX7_firstToPlant_X7_bestWith : GoodIn wsX7_firstToPlant (wsV RX7 378 RX7 yX7_bestWith wsX7_bestWith) := goodIn_app (goodIn_of _ (by decide +kernel)) ggX7_firstToPlant_X7_bestWith
theorem dX7_firstToPlant_0 : decode cX7_firstToPlant 0 = .ok (.iload_n 2, 1) := by decide +kernel
theorem dX7_firstToPlant_1 : decode cX7_firstToPlant 1 = .ok (.ifCond .eq 18, 3) := by decide +kernel
theorem dX7_firstToPlant_4 : decode cX7_firstToPlant 4 = .ok (.aload_n 0, 1) := by decide +kernel
theorem dX7_firstToPlant_5 : decode cX7_firstToPlant 5 = .ok (.getfield 63, 3) := by decide +kernel
theorem dX7_firstToPlant_8 : decode cX7_firstToPlant 8 = .ok (.iconst 0, 1) := by decide +kernel
theorem dX7_firstToPlant_9 : decode cX7_firstToPlant 9 = .ok (.iaload, 1) := by decide +kernel
theorem dX7_firstToPlant_10 : decode cX7_firstToPlant 10 = .ok (.aload_n 0, 1) := by decide +kernel
theorem dX7_firstToPlant_11 : decode cX7_firstToPlant 11 = .ok (.getfield 63, 3) := by decide +kernel
theorem dX7_firstToPlant_14 : decode cX7_firstToPlant 14 = .ok (.iconst 1, 1) := by decide +kernel
theorem dX7_firstToPlant_15 : decode cX7_firstToPlant 15 = .ok (.iaload, 1) := by decide +kernel
theorem dX7_firstToPlant_16 : decode cX7_firstToPlant 16 = .ok (.if_icmp .ne 5, 3) := by decide +kernel
theorem dX7_firstToPlant_19 : decode cX7_firstToPlant 19 = .ok (.iconst (-1), 1) := by decide +kernel
theorem dX7_firstToPlant_20 : decode cX7_firstToPlant 20 = .ok (.ireturn, 1) := by decide +kernel
theorem dX7_firstToPlant_21 : decode cX7_firstToPlant 21 = .ok (.iconst 0, 1) := by decide +kernel
theorem dX7_firstToPlant_22 : decode cX7_firstToPlant 22 = .ok (.istore_n 3, 1) := by decide +kernel
theorem dX7_firstToPlant_23 : decode cX7_firstToPlant 23 = .ok (.iload_n 3, 1) := by decide +kernel
theorem dX7_firstToPlant_24 : decode cX7_firstToPlant 24 = .ok (.iconst 4, 1) := by decide +kernel
theorem dX7_firstToPlant_25 : decode cX7_firstToPlant 25 = .ok (.if_icmp .ge 28, 3) := by decide +kernel
theorem dX7_firstToPlant_28 : decode cX7_firstToPlant 28 = .ok (.aload_n 0, 1) := by decide +kernel
theorem dX7_firstToPlant_29 : decode cX7_firstToPlant 29 = .ok (.iload_n 3, 1) := by decide +kernel
theorem dX7_firstToPlant_30 : decode cX7_firstToPlant 30 = .ok (.iload_n 1, 1) := by decide +kernel
theorem dX7_firstToPlant_31 : decode cX7_firstToPlant 31 = .ok (.iconst 0, 1) := by decide +kernel
theorem dX7_firstToPlant_32 : decode cX7_firstToPlant 32 = .ok (.iload_n 2, 1) := by decide +kernel
theorem dX7_firstToPlant_33 : decode cX7_firstToPlant 33 = .ok (.invokevirtual 378, 3) := by decide +kernel
theorem dX7_firstToPlant_36 : decode cX7_firstToPlant 36 = .ok (.aload_n 0, 1) := by decide +kernel
theorem dX7_firstToPlant_37 : decode cX7_firstToPlant 37 = .ok (.getfield 63, 3) := by decide +kernel
theorem dX7_firstToPlant_40 : decode cX7_firstToPlant 40 = .ok (.iconst 0, 1) := by decide +kernel
theorem dX7_firstToPlant_41 : decode cX7_firstToPlant 41 = .ok (.iaload, 1) := by decide +kernel
theorem dX7_firstToPlant_42 : decode cX7_firstToPlant 42 = .ok (.if_icmp .ne 5, 3) := by decide +kernel
theorem dX7_firstToPlant_45 : decode cX7_firstToPlant 45 = .ok (.iload_n 3, 1) := by decide +kernel
theorem dX7_firstToPlant_46 : decode cX7_firstToPlant 46 = .ok (.ireturn, 1) := by decide +kernel
theorem dX7_firstToPlant_47 : decode cX7_firstToPlant 47 = .ok (.iinc 3 1, 3) := by decide +kernel
theorem dX7_firstToPlant_50 : decode cX7_firstToPlant 50 = .ok (.goto (-27), 3) := by decide +kernel
theorem dX7_firstToPlant_53 : decode cX7_firstToPlant 53 = .ok (.iconst (-1), 1) := by decide +kernel
theorem dX7_firstToPlant_54 : decode cX7_firstToPlant 54 = .ok (.ireturn, 1) := by decide +kernel
theorem dX7_lowestTerms_0 : decode cX7_lowestTerms 0 = .ok (.lload_n 0, 1) := by decide +kernel
theorem dX7_lowestTerms_1 : decode cX7_lowestTerms 1 = .ok (.lconst 0, 1) := by decide +kernel
theorem dX7_lowestTerms_2 : decode cX7_lowestTerms 2 = .ok (.lcmp, 1) := by decide +kernel
theorem dX7_lowestTerms_3 : decode cX7_lowestTerms 3 = .ok (.ifCond .ne 14, 3) := by decide +kernel
theorem dX7_lowestTerms_6 : decode cX7_lowestTerms 6 = .ok (.iload 4, 2) := by decide +kernel
theorem dX7_lowestTerms_8 : decode cX7_lowestTerms 8 = .ok (.ifCond .ne 7, 3) := by decide +kernel
theorem dX7_lowestTerms_11 : decode cX7_lowestTerms 11 = .ok (.lconst 0, 1) := by decide +kernel
theorem dX7_lowestTerms_12 : decode cX7_lowestTerms 12 = .ok (.goto 4, 3) := by decide +kernel
theorem dX7_lowestTerms_15 : decode cX7_lowestTerms 15 = .ok (.lconst 1, 1) := by decide +kernel
theorem dX7_lowestTerms_16 : decode cX7_lowestTerms 16 = .ok (.lreturn, 1) := by decide +kernel
theorem dX7_lowestTerms_17 : decode cX7_lowestTerms 17 = .ok (.lload_n 0, 1) := by decide +kernel
theorem dX7_lowestTerms_18 : decode cX7_lowestTerms 18 = .ok (.lstore 5, 2) := by decide +kernel
theorem dX7_lowestTerms_20 : decode cX7_lowestTerms 20 = .ok (.lload_n 2, 1) := by decide +kernel
theorem dX7_lowestTerms_21 : decode cX7_lowestTerms 21 = .ok (.lstore 7, 2) := by decide +kernel
theorem dX7_lowestTerms_23 : decode cX7_lowestTerms 23 = .ok (.iconst 0, 1) := by decide +kernel
theorem dX7_lowestTerms_24 : decode cX7_lowestTerms 24 = .ok (.istore 9, 2) := by decide +kernel
theorem dX7_lowestTerms_26 : decode cX7_lowestTerms 26 = .ok (.iload 9, 2) := by decide +kernel
theorem dX7_lowestTerms_28 : decode cX7_lowestTerms 28 = .ok (.bipush 56, 2) := by decide +kernel
theorem dX7_lowestTerms_30 : decode cX7_lowestTerms 30 = .ok (.if_icmp .ge 30, 3) := by decide +kernel
theorem dX7_lowestTerms_33 : decode cX7_lowestTerms 33 = .ok (.lload 5, 2) := by decide +kernel
theorem dX7_lowestTerms_35 : decode cX7_lowestTerms 35 = .ok (.lconst 1, 1) := by decide +kernel
theorem dX7_lowestTerms_36 : decode cX7_lowestTerms 36 = .ok (.land, 1) := by decide +kernel
theorem dX7_lowestTerms_37 : decode cX7_lowestTerms 37 = .ok (.lconst 0, 1) := by decide +kernel
theorem dX7_lowestTerms_38 : decode cX7_lowestTerms 38 = .ok (.lcmp, 1) := by decide +kernel
theorem dX7_lowestTerms_39 : decode cX7_lowestTerms 39 = .ok (.ifCond .ne 21, 3) := by decide +kernel
theorem dX7_lowestTerms_42 : decode cX7_lowestTerms 42 = .ok (.lload 5, 2) := by decide +kernel
theorem dX7_lowestTerms_44 : decode cX7_lowestTerms 44 = .ok (.iconst 1, 1) := by decide +kernel
theorem dX7_lowestTerms_45 : decode cX7_lowestTerms 45 = .ok (.lshr, 1) := by decide +kernel
theorem dX7_lowestTerms_46 : decode cX7_lowestTerms 46 = .ok (.lstore 5, 2) := by decide +kernel
theorem dX7_lowestTerms_48 : decode cX7_lowestTerms 48 = .ok (.lload 7, 2) := by decide +kernel
theorem dX7_lowestTerms_50 : decode cX7_lowestTerms 50 = .ok (.iconst 1, 1) := by decide +kernel
theorem dX7_lowestTerms_51 : decode cX7_lowestTerms 51 = .ok (.lshr, 1) := by decide +kernel
theorem dX7_lowestTerms_52 : decode cX7_lowestTerms 52 = .ok (.lstore 7, 2) := by decide +kernel
theorem dX7_lowestTerms_54 : decode cX7_lowestTerms 54 = .ok (.iinc 9 1, 3) := by decide +kernel
theorem dX7_lowestTerms_57 : decode cX7_lowestTerms 57 = .ok (.goto (-31), 3) := by decide +kernel
theorem dX7_lowestTerms_60 : decode cX7_lowestTerms 60 = .ok (.iload 4, 2) := by decide +kernel
theorem dX7_lowestTerms_62 : decode cX7_lowestTerms 62 = .ok (.ifCond .ne 8, 3) := by decide +kernel
theorem dX7_lowestTerms_65 : decode cX7_lowestTerms 65 = .ok (.lload 5, 2) := by decide +kernel
theorem dX7_lowestTerms_67 : decode cX7_lowestTerms 67 = .ok (.goto 5, 3) := by decide +kernel
theorem dX7_lowestTerms_70 : decode cX7_lowestTerms 70 = .ok (.lload 7, 2) := by decide +kernel
theorem dX7_lowestTerms_72 : decode cX7_lowestTerms 72 = .ok (.lreturn, 1) := by decide +kernel
theorem dX8_init_0 : decode cX8_init 0 = .ok (.aload_n 0, 1) := by decide +kernel
theorem dX8_init_1 : decode cX8_init 1 = .ok (.invokespecial 1, 3) := by decide +kernel
theorem dX8_init_4 : decode cX8_init 4 = .ok (.aload_n 0, 1) := by decide +kernel
theorem dX8_init_5 : decode cX8_init 5 = .ok (.iconst 2, 1) := by decide +kernel
theorem dX8_init_6 : decode cX8_init 6 = .ok (.newarray .int, 2) := by decide +kernel
theorem dX8_init_8 : decode cX8_init 8 = .ok (.putfield 7, 3) := by decide +kernel
theorem dX8_init_11 : decode cX8_init 11 = .ok (.aload_n 0, 1) := by decide +kernel
theorem dX8_init_12 : decode cX8_init 12 = .ok (.iconst 2, 1) := by decide +kernel
theorem dX8_init_13 : decode cX8_init 13 = .ok (.newarray .int, 2) := by decide +kernel
theorem dX8_init_15 : decode cX8_init 15 = .ok (.putfield 13, 3) := by decide +kernel
theorem dX8_init_18 : decode cX8_init 18 = .ok (.aload_n 0, 1) := by decide +kernel
theorem dX8_init_19 : decode cX8_init 19 = .ok (.iconst 2, 1) := by decide +kernel
theorem dX8_init_20 : decode cX8_init 20 = .ok (.newarray .int, 2) := by decide +kernel
theorem dX8_init_22 : decode cX8_init 22 = .ok (.putfield 16, 3) := by decide +kernel
theorem dX8_init_25 : decode cX8_init 25 = .ok (.aload_n 0, 1) := by decide +kernel
theorem dX8_init_26 : decode cX8_init 26 = .ok (.iconst 2, 1) := by decide +kernel
theorem dX8_init_27 : decode cX8_init 27 = .ok (.newarray .int, 2) := by decide +kernel
theorem dX8_init_29 : decode cX8_init 29 = .ok (.putfield 19, 3) := by decide +kernel
theorem dX8_init_32 : decode cX8_init 32 = .ok (.aload_n 0, 1) := by decide +kernel
theorem dX8_init_33 : decode cX8_init 33 = .ok (.bipush 120, 2) := by decide +kernel
theorem dX8_init_35 : decode cX8_init 35 = .ok (.newarray .int, 2) := by decide +kernel
theorem dX8_init_37 : decode cX8_init 37 = .ok (.putfield 22, 3) := by decide +kernel
theorem dX8_init_40 : decode cX8_init 40 = .ok (.aload_n 0, 1) := by decide +kernel
theorem dX8_init_41 : decode cX8_init 41 = .ok (.bipush 60, 2) := by decide +kernel
theorem dX8_init_43 : decode cX8_init 43 = .ok (.newarray .int, 2) := by decide +kernel
theorem dX8_init_45 : decode cX8_init 45 = .ok (.putfield 25, 3) := by decide +kernel
theorem dX8_init_48 : decode cX8_init 48 = .ok (.aload_n 0, 1) := by decide +kernel
theorem dX8_init_49 : decode cX8_init 49 = .ok (.bipush 7, 2) := by decide +kernel
theorem dX8_init_51 : decode cX8_init 51 = .ok (.newarray .int, 2) := by decide +kernel
theorem dX8_init_53 : decode cX8_init 53 = .ok (.putfield 28, 3) := by decide +kernel
theorem dX8_init_56 : decode cX8_init 56 = .ok (.aload_n 0, 1) := by decide +kernel
theorem dX8_init_57 : decode cX8_init 57 = .ok (.bipush 6, 2) := by decide +kernel
theorem dX8_init_59 : decode cX8_init 59 = .ok (.newarray .int, 2) := by decide +kernel
theorem dX8_init_61 : decode cX8_init 61 = .ok (.putfield 31, 3) := by decide +kernel
theorem dX8_init_64 : decode cX8_init 64 = .ok (.aload_n 0, 1) := by decide +kernel
theorem dX8_init_65 : decode cX8_init 65 = .ok (.sipush 1600, 3) := by decide +kernel
theorem dX8_init_68 : decode cX8_init 68 = .ok (.newarray .boolean, 2) := by decide +kernel
theorem dX8_init_70 : decode cX8_init 70 = .ok (.putfield 34, 3) := by decide +kernel
theorem dX8_init_73 : decode cX8_init 73 = .ok (.aload_n 0, 1) := by decide +kernel
theorem dX8_init_74 : decode cX8_init 74 = .ok (.iconst 4, 1) := by decide +kernel
theorem dX8_init_75 : decode cX8_init 75 = .ok (.newarray .int, 2) := by decide +kernel
theorem dX8_init_77 : decode cX8_init 77 = .ok (.putfield 38, 3) := by decide +kernel
theorem dX8_init_80 : decode cX8_init 80 = .ok (.aload_n 0, 1) := by decide +kernel
theorem dX8_init_81 : decode cX8_init 81 = .ok (.bipush 6, 2) := by decide +kernel
theorem dX8_init_83 : decode cX8_init 83 = .ok (.newarray .int, 2) := by decide +kernel
theorem dX8_init_85 : decode cX8_init 85 = .ok (.putfield 41, 3) := by decide +kernel
theorem dX8_init_88 : decode cX8_init 88 = .ok (.aload_n 0, 1) := by decide +kernel
theorem dX8_init_89 : decode cX8_init 89 = .ok (.iconst 4, 1) := by decide +kernel
theorem dX8_init_90 : decode cX8_init 90 = .ok (.newarray .int, 2) := by decide +kernel
theorem dX8_init_92 : decode cX8_init 92 = .ok (.putfield 44, 3) := by decide +kernel
theorem dX8_init_95 : decode cX8_init 95 = .ok (.aload_n 0, 1) := by decide +kernel
theorem dX8_init_96 : decode cX8_init 96 = .ok (.bipush 16, 2) := by decide +kernel
theorem dX8_init_98 : decode cX8_init 98 = .ok (.newarray .int, 2) := by decide +kernel
theorem dX8_init_100 : decode cX8_init 100 = .ok (.putfield 47, 3) := by decide +kernel
theorem dX8_init_103 : decode cX8_init 103 = .ok (.aload_n 0, 1) := by decide +kernel
theorem dX8_init_104 : decode cX8_init 104 = .ok (.bipush 62, 2) := by decide +kernel
theorem dX8_init_106 : decode cX8_init 106 = .ok (.newarray .int, 2) := by decide +kernel
theorem dX8_init_108 : decode cX8_init 108 = .ok (.putfield 50, 3) := by decide +kernel
theorem dX8_init_111 : decode cX8_init 111 = .ok (.aload_n 0, 1) := by decide +kernel
theorem dX8_init_112 : decode cX8_init 112 = .ok (.iconst 4, 1) := by decide +kernel
theorem dX8_init_113 : decode cX8_init 113 = .ok (.newarray .boolean, 2) := by decide +kernel
theorem dX8_init_115 : decode cX8_init 115 = .ok (.putfield 53, 3) := by decide +kernel
theorem dX8_init_118 : decode cX8_init 118 = .ok (.aload_n 0, 1) := by decide +kernel
theorem dX8_init_119 : decode cX8_init 119 = .ok (.iconst 4, 1) := by decide +kernel
theorem dX8_init_120 : decode cX8_init 120 = .ok (.newarray .int, 2) := by decide +kernel
theorem dX8_init_122 : decode cX8_init 122 = .ok (.putfield 56, 3) := by decide +kernel
theorem dX8_init_125 : decode cX8_init 125 = .ok (.aload_n 0, 1) := by decide +kernel
theorem dX8_init_126 : decode cX8_init 126 = .ok (.iconst 4, 1) := by decide +kernel
theorem dX8_init_127 : decode cX8_init 127 = .ok (.newarray .int, 2) := by decide +kernel
theorem dX8_init_129 : decode cX8_init 129 = .ok (.putfield 59, 3) := by decide +kernel
theorem dX8_init_132 : decode cX8_init 132 = .ok (.aload_n 0, 1) := by decide +kernel
theorem dX8_init_133 : decode cX8_init 133 = .ok (.sipush 192, 3) := by decide +kernel
theorem dX8_init_136 : decode cX8_init 136 = .ok (.newarray .int, 2) := by decide +kernel
theorem dX8_init_138 : decode cX8_init 138 = .ok (.putfield 62, 3) := by decide +kernel
theorem dX8_init_141 : decode cX8_init 141 = .ok (.aload_n 0, 1) := by decide +kernel
theorem dX8_init_142 : decode cX8_init 142 = .ok (.bipush 48, 2) := by decide +kernel
theorem dX8_init_144 : decode cX8_init 144 = .ok (.newarray .int, 2) := by decide +kernel
theorem dX8_init_146 : decode cX8_init 146 = .ok (.putfield 65, 3) := by decide +kernel
theorem dX8_init_149 : decode cX8_init 149 = .ok (.aload_n 0, 1) := by decide +kernel
theorem dX8_init_150 : decode cX8_init 150 = .ok (.getfield 7, 3) := by decide +kernel
theorem dX8_init_153 : decode cX8_init 153 = .ok (.iconst 0, 1) := by decide +kernel
theorem dX8_init_154 : decode cX8_init 154 = .ok (.bipush 8, 2) := by decide +kernel
theorem dX8_init_156 : decode cX8_init 156 = .ok (.iastore, 1) := by decide +kernel
theorem dX8_init_157 : decode cX8_init 157 = .ok (.aload_n 0, 1) := by decide +kernel
theorem dX8_init_158 : decode cX8_init 158 = .ok (.getfield 7, 3) := by decide +kernel
theorem dX8_init_161 : decode cX8_init 161 = .ok (.iconst 1, 1) := by decide +kernel
theorem dX8_init_162 : decode cX8_init 162 = .ok (.bipush 13, 2) := by decide +kernel
theorem dX8_init_164 : decode cX8_init 164 = .ok (.iastore, 1) := by decide +kernel
theorem dX8_init_165 : decode cX8_init 165 = .ok (.aload_n 0, 1) := by decide +kernel
theorem dX8_init_166 : decode cX8_init 166 = .ok (.getfield 16, 3) := by decide +kernel
theorem dX8_init_169 : decode cX8_init 169 = .ok (.iconst 0, 1) := by decide +kernel
theorem dX8_init_170 : decode cX8_init 170 = .ok (.iconst 5, 1) := by decide +kernel
theorem dX8_init_171 : decode cX8_init 171 = .ok (.iastore, 1) := by decide +kernel
theorem dX8_init_172 : decode cX8_init 172 = .ok (.aload_n 0, 1) := by decide +kernel
theorem dX8_init_173 : decode cX8_init 173 = .ok (.getfield 16, 3) := by decide +kernel
theorem dX8_init_176 : decode cX8_init 176 = .ok (.iconst 1, 1) := by decide +kernel
theorem dX8_init_177 : decode cX8_init 177 = .ok (.bipush 6, 2) := by decide +kernel
theorem dX8_init_179 : decode cX8_init 179 = .ok (.iastore, 1) := by decide +kernel
theorem dX8_init_180 : decode cX8_init 180 = .ok (.iconst 0, 1) := by decide +kernel
theorem dX8_init_181 : decode cX8_init 181 = .ok (.istore_n 1, 1) := by decide +kernel
theorem dX8_init_182 : decode cX8_init 182 = .ok (.iload_n 1, 1) := by decide +kernel
theorem dX8_init_183 : decode cX8_init 183 = .ok (.bipush 6, 2) := by decide +kernel
theorem dX8_init_185 : decode cX8_init 185 = .ok (.if_icmp .ge 25, 3) := by decide +kernel
theorem dX8_init_188 : decode cX8_init 188 = .ok (.aload_n 0, 1) := by decide +kernel
theorem dX8_init_189 : decode cX8_init 189 = .ok (.getfield 31, 3) := by decide +kernel
theorem dX8_init_192 : decode cX8_init 192 = .ok (.iload_n 1, 1) := by decide +kernel
theorem dX8_init_193 : decode cX8_init 193 = .ok (.bipush 15, 2) := by decide +kernel
theorem dX8_init_195 : decode cX8_init 195 = .ok (.iastore, 1) := by decide +kernel
theorem dX8_init_196 : decode cX8_init 196 = .ok (.aload_n 0, 1) := by decide +kernel
theorem dX8_init_197 : decode cX8_init 197 = .ok (.getfield 41, 3) := by decide +kernel
theorem dX8_init_200 : decode cX8_init 200 = .ok (.iload_n 1, 1) := by decide +kernel
theorem dX8_init_201 : decode cX8_init 201 = .ok (.bipush 10, 2) := by decide +kernel
theorem dX8_init_203 : decode cX8_init 203 = .ok (.iastore, 1) := by decide +kernel
theorem dX8_init_204 : decode cX8_init 204 = .ok (.iinc 1 1, 3) := by decide +kernel
theorem dX8_init_207 : decode cX8_init 207 = .ok (.goto (-25), 3) := by decide +kernel
theorem dX8_init_210 : decode cX8_init 210 = .ok (.iconst 0, 1) := by decide +kernel
theorem dX8_init_211 : decode cX8_init 211 = .ok (.istore_n 1, 1) := by decide +kernel
theorem dX8_init_212 : decode cX8_init 212 = .ok (.iload_n 1, 1) := by decide +kernel
theorem dX8_init_213 : decode cX8_init 213 = .ok (.iconst 4, 1) := by decide +kernel
theorem dX8_init_214 : decode cX8_init 214 = .ok (.if_icmp .ge 57, 3) := by decide +kernel
theorem dX8_init_217 : decode cX8_init 217 = .ok (.aload_n 0, 1) := by decide +kernel
theorem dX8_init_218 : decode cX8_init 218 = .ok (.getfield 44, 3) := by decide +kernel
theorem dX8_init_221 : decode cX8_init 221 = .ok (.iload_n 1, 1) := by decide +kernel
theorem dX8_init_222 : decode cX8_init 222 = .ok (.iconst 4, 1) := by decide +kernel
theorem dX8_init_223 : decode cX8_init 223 = .ok (.iastore, 1) := by decide +kernel
theorem dX8_init_224 : decode cX8_init 224 = .ok (.iconst 0, 1) := by decide +kernel
theorem dX8_init_225 : decode cX8_init 225 = .ok (.istore_n 2, 1) := by decide +kernel
theorem dX8_init_226 : decode cX8_init 226 = .ok (.iload_n 2, 1) := by decide +kernel
theorem dX8_init_227 : decode cX8_init 227 = .ok (.iconst 4, 1) := by decide +kernel
theorem dX8_init_228 : decode cX8_init 228 = .ok (.if_icmp .ge 37, 3) := by decide +kernel
theorem dX8_init_231 : decode cX8_init 231 = .ok (.aload_n 0, 1) := by decide +kernel
theorem dX8_init_232 : decode cX8_init 232 = .ok (.getfield 47, 3) := by decide +kernel
theorem dX8_init_235 : decode cX8_init 235 = .ok (.iconst 4, 1) := by decide +kernel
theorem dX8_init_236 : decode cX8_init 236 = .ok (.iload_n 1, 1) := by decide +kernel
theorem dX8_init_237 : decode cX8_init 237 = .ok (.imul, 1) := by decide +kernel
theorem dX8_init_238 : decode cX8_init 238 = .ok (.iload_n 2, 1) := by decide +kernel
theorem dX8_init_239 : decode cX8_init 239 = .ok (.iadd, 1) := by decide +kernel
theorem dX8_init_240 : decode cX8_init 240 = .ok (.iload_n 2, 1) := by decide +kernel
theorem dX8_init_241 : decode cX8_init 241 = .ok (.ifCond .ne 7, 3) := by decide +kernel
theorem dX8_init_244 : decode cX8_init 244 = .ok (.iconst 0, 1) := by decide +kernel
theorem dX8_init_245 : decode cX8_init 245 = .ok (.goto 13, 3) := by decide +kernel
theorem dX8_init_248 : decode cX8_init 248 = .ok (.iload_n 2, 1) := by decide +kernel
theorem dX8_init_249 : decode cX8_init 249 = .ok (.iconst 3, 1) := by decide +kernel
theorem dX8_init_250 : decode cX8_init 250 = .ok (.if_icmp .ne 7, 3) := by decide +kernel
theorem dX8_init_253 : decode cX8_init 253 = .ok (.iconst 2, 1) := by decide +kernel
theorem dX8_init_254 : decode cX8_init 254 = .ok (.goto 4, 3) := by decide +kernel
theorem dX8_init_257 : decode cX8_init 257 = .ok (.iconst 1, 1) := by decide +kernel
theorem dX8_init_258 : decode cX8_init 258 = .ok (.iastore, 1) := by decide +kernel
theorem dX8_init_259 : decode cX8_init 259 = .ok (.iinc 2 1, 3) := by decide +kernel
theorem dX8_init_262 : decode cX8_init 262 = .ok (.goto (-36), 3) := by decide +kernel
theorem dX8_init_265 : decode cX8_init 265 = .ok (.iinc 1 1, 3) := by decide +kernel
theorem dX8_init_268 : decode cX8_init 268 = .ok (.goto (-56), 3) := by decide +kernel
theorem dX8_init_271 : decode cX8_init 271 = .ok (.return_, 1) := by decide +kernel
theorem dX8_in_0 : decode cX8_in 0 = .ok (.iload_n 0, 1) := by decide +kernel
theorem dX8_in_1 : decode cX8_in 1 = .ok (.iload_n 1, 1) := by decide +kernel
theorem dX8_in_2 : decode cX8_in 2 = .ok (.if_icmp .lt 12, 3) := by decide +kernel
theorem dX8_in_5 : decode cX8_in 5 = .ok (.iload_n 0, 1) := by decide +kernel
theorem dX8_in_6 : decode cX8_in 6 = .ok (.iload_n 2, 1) := by decide +kernel
theorem dX8_in_7 : decode cX8_in 7 = .ok (.if_icmp .gt 7, 3) := by decide +kernel
theorem dX8_in_10 : decode cX8_in 10 = .ok (.iconst 1, 1) := by decide +kernel
theorem dX8_in_11 : decode cX8_in 11 = .ok (.goto 4, 3) := by decide +kernel
theorem dX8_in_14 : decode cX8_in 14 = .ok (.iconst 0, 1) := by decide +kernel
theorem dX8_in_15 : decode cX8_in 15 = .ok (.ireturn, 1) := by decide +kernel
theorem dX8_isIn_0 : decode cX8_isIn 0 = .ok (.iload_n 0, 1) := by decide +kernel
theorem dX8_isIn_1 : decode cX8_isIn 1 = .ok (.iload_n 1, 1) := by decide +kernel
theorem dX8_isIn_2 : decode cX8_isIn 2 = .ok (.ishr, 1) := by decide +kernel
theorem dX8_isIn_3 : decode cX8_isIn 3 = .ok (.iconst 1, 1) := by decide +kernel
theorem dX8_isIn_4 : decode cX8_isIn 4 = .ok (.iand, 1) := by decide +kernel
theorem dX8_isIn_5 : decode cX8_isIn 5 = .ok (.iconst 1, 1) := by decide +kernel
theorem dX8_isIn_6 : decode cX8_isIn 6 = .ok (.if_icmp .ne 7, 3) := by decide +kernel
theorem dX8_isIn_9 : decode cX8_isIn 9 = .ok (.iconst 1, 1) := by decide +kernel
theorem dX8_isIn_10 : decode cX8_isIn 10 = .ok (.goto 4, 3) := by decide +kernel
theorem dX8_isIn_13 : decode cX8_isIn 13 = .ok (.iconst 0, 1) := by decide +kernel
theorem dX8_isIn_14 : decode cX8_isIn 14 = .ok (.ireturn, 1) := by decide +kernel
theorem dX8_no_0 : decode cX8_no 0 = .ok (.ldc2_w 68, 3) := by decide +kernel
theorem dX8_no_3 : decode cX8_no 3 = .ok (.iload_n 0, 1) := by decide +kernel
theorem dX8_no_4 : decode cX8_no 4 = .ok (.i2l, 1) := by decide +kernel
theorem dX8_no_5 : decode cX8_no 5 = .ok (.lsub, 1) := by decide +kernel
theorem dX8_no_6 : decode cX8_no 6 = .ok (.lreturn, 1) := by decide +kernel
theorem dX8_lowest_0 : decode cX8_lowest 0 = .ok (.lload_n 0, 1) := by decide +kernel
theorem dX8_lowest_1 : decode cX8_lowest 1 = .ok (.lstore 5, 2) := by decide +kernel
theorem dX8_lowest_3 : decode cX8_lowest 3 = .ok (.lload_n 2, 1) := by decide +kernel
theorem dX8_lowest_4 : decode cX8_lowest 4 = .ok (.lstore 7, 2) := by decide +kernel
theorem dX8_lowest_6 : decode cX8_lowest 6 = .ok (.lload 7, 2) := by decide +kernel
theorem dX8_lowest_8 : decode cX8_lowest 8 = .ok (.lconst 0, 1) := by decide +kernel
theorem dX8_lowest_9 : decode cX8_lowest 9 = .ok (.lcmp, 1) := by decide +kernel
theorem dX8_lowest_10 : decode cX8_lowest 10 = .ok (.ifCond .eq 21, 3) := by decide +kernel
theorem dX8_lowest_13 : decode cX8_lowest 13 = .ok (.lload 5, 2) := by decide +kernel
theorem dX8_lowest_15 : decode cX8_lowest 15 = .ok (.lload 7, 2) := by decide +kernel
theorem dX8_lowest_17 : decode cX8_lowest 17 = .ok (.lrem, 1) := by decide +kernel
theorem dX8_lowest_18 : decode cX8_lowest 18 = .ok (.lstore 9, 2) := by decide +kernel
theorem dX8_lowest_20 : decode cX8_lowest 20 = .ok (.lload 7, 2) := by decide +kernel
theorem dX8_lowest_22 : decode cX8_lowest 22 = .ok (.lstore 5, 2) := by decide +kernel
theorem dX8_lowest_24 : decode cX8_lowest 24 = .ok (.lload 9, 2) := by decide +kernel
theorem dX8_lowest_26 : decode cX8_lowest 26 = .ok (.lstore 7, 2) := by decide +kernel
theorem dX8_lowest_28 : decode cX8_lowest 28 = .ok (.goto (-22), 3) := by decide +kernel
theorem dX8_lowest_31 : decode cX8_lowest 31 = .ok (.iload 4, 2) := by decide +kernel
theorem dX8_lowest_33 : decode cX8_lowest 33 = .ok (.ifCond .ne 10, 3) := by decide +kernel
theorem dX8_lowest_36 : decode cX8_lowest 36 = .ok (.lload_n 0, 1) := by decide +kernel
theorem dX8_lowest_37 : decode cX8_lowest 37 = .ok (.lload 5, 2) := by decide +kernel
theorem dX8_lowest_39 : decode cX8_lowest 39 = .ok (.ldiv, 1) := by decide +kernel
theorem dX8_lowest_40 : decode cX8_lowest 40 = .ok (.goto 7, 3) := by decide +kernel
theorem dX8_lowest_43 : decode cX8_lowest 43 = .ok (.lload_n 2, 1) := by decide +kernel
theorem dX8_lowest_44 : decode cX8_lowest 44 = .ok (.lload 5, 2) := by decide +kernel
theorem dX8_lowest_46 : decode cX8_lowest 46 = .ok (.ldiv, 1) := by decide +kernel
theorem dX8_lowest_47 : decode cX8_lowest 47 = .ok (.lreturn, 1) := by decide +kernel
set_option maxRecDepth 20000 in
theorem ggX8_isSun_X8_in : GoodIn wsX8_isSun wsX8_in := goodIn_r _ [4] (by decide +kernel) (by decide +kernel)
set_option maxRecDepth 20000 in
theorem gX8_isSun_X8_in : GoodIn wsX8_isSun (va_wsS RX8 70 yX8_in wsX8_in) := goodIn_app (goodIn_of _ (by decide +kernel)) ggX8_isSun_X8_in
theorem dX8_isSun_0 : decode cX8_isSun 0 = .ok (.iload_n 0, 1) := by decide +kernel
theorem dX8_isSun_1 : decode cX8_isSun 1 = .ok (.iconst 0, 1) := by decide +kernel
theorem dX8_isSun_2 : decode cX8_isSun 2 = .ok (.iconst 1, 1) := by decide +kernel
theorem dX8_isSun_3 : decode cX8_isSun 3 = .ok (.invokestatic 70, 3) := by decide +kernel
theorem dX8_isSun_6 : decode cX8_isSun 6 = .ok (.ireturn, 1) := by decide +kernel
set_option maxRecDepth 20000 in
theorem ggX8_isHour_X8_in : GoodIn wsX8_isHour wsX8_in := goodIn_r _ [5] (by decide +kernel) (by decide +kernel)
set_option maxRecDepth 20000 in
theorem gX8_isHour_X8_in : GoodIn wsX8_isHour (va_wsS RX8 70 yX8_in wsX8_in) := goodIn_app (goodIn_of _ (by decide +kernel)) ggX8_isHour_X8_in
theorem dX8_isHour_0 : decode cX8_isHour 0 = .ok (.iload_n 0, 1) := by decide +kernel
theorem dX8_isHour_1 : decode cX8_isHour 1 = .ok (.iconst 0, 1) := by decide +kernel
theorem dX8_isHour_2 : decode cX8_isHour 2 = .ok (.ldc 74, 2) := by decide +kernel
theorem dX8_isHour_4 : decode cX8_isHour 4 = .ok (.invokestatic 70, 3) := by decide +kernel
theorem dX8_isHour_7 : decode cX8_isHour 7 = .ok (.ireturn, 1) := by decide +kernel
set_option maxRecDepth 20000 in
theorem ggX8_isLight_X8_in : GoodIn wsX8_isLight wsX8_in := goodIn_r _ [4] (by decide +kernel) (by decide +kernel)
set_option maxRecDepth 20000 in
theorem gX8_isLight_X8_in : GoodIn wsX8_isLight (va_wsS RX8 70 yX8_in wsX8_in) := goodIn_app (goodIn_of _ (by decide +kernel)) ggX8_isLight_X8_in
theorem dX8_isLight_0 : decode cX8_isLight 0 = .ok (.iload_n 0, 1) := by decide +kernel
theorem dX8_isLight_1 : decode cX8_isLight 1 = .ok (.iconst 0, 1) := by decide +kernel
theorem dX8_isLight_2 : decode cX8_isLight 2 = .ok (.iconst 3, 1) := by decide +kernel
theorem dX8_isLight_3 : decode cX8_isLight 3 = .ok (.invokestatic 70, 3) := by decide +kernel
theorem dX8_isLight_6 : decode cX8_isLight 6 = .ok (.ireturn, 1) := by decide +kernel
set_option maxRecDepth 20000 in
theorem ggX8_sun_X8_isSun : GoodIn wsX8_sun wsX8_isSun := goodIn_r _ [7, 8, 9, 6, 10] (by decide +kernel) (by decide +kernel)
set_option maxRecDepth 20000 in
theorem gX8_sun_X8_isSun : GoodIn wsX8_sun (va_wsS RX8 75 yX8_isSun wsX8_isSun) := goodIn_app (goodIn_of _ (by decide +kernel)) ggX8_sun_X8_isSun
set_option maxRecDepth 20000 in
theorem ggX8_sun_X8_in : GoodIn wsX8_sun wsX8_in := goodIn_r _ [10] (by decide +kernel) (by decide +kernel)
set_option maxRecDepth 20000 in
theorem gX8_sun_X8_in : GoodIn wsX8_sun (va_wsS RX8 70 yX8_in wsX8_in) := goodIn_app (goodIn_of _ (by decide +kernel)) ggX8_sun_X8_in
theorem dX8_sun_0 : decode cX8_sun 0 = .ok (.iload_n 1, 1) := by decide +kernel
theorem dX8_sun_1 : decode cX8_sun 1 = .ok (.invokestatic 75, 3) := by decide +kernel
theorem dX8_sun_4 : decode cX8_sun 4 = .ok (.ifCond .eq 59, 3) := by decide +kernel
theorem dX8_sun_7 : decode cX8_sun 7 = .ok (.iload_n 2, 1) := by decide +kernel
theorem dX8_sun_8 : decode cX8_sun 8 = .ok (.iconst 0, 1) := by decide +kernel
theorem dX8_sun_9 : decode cX8_sun 9 = .ok (.iconst 2, 1) := by decide +kernel
theorem dX8_sun_10 : decode cX8_sun 10 = .ok (.invokestatic 70, 3) := by decide +kernel
theorem dX8_sun_13 : decode cX8_sun 13 = .ok (.ifCond .eq 50, 3) := by decide +kernel
theorem dX8_sun_16 : decode cX8_sun 16 = .ok (.iload_n 3, 1) := by decide +kernel
theorem dX8_sun_17 : decode cX8_sun 17 = .ok (.iload_n 2, 1) := by decide +kernel
theorem dX8_sun_18 : decode cX8_sun 18 = .ok (.ifCond .ne 7, 3) := by decide +kernel
theorem dX8_sun_21 : decode cX8_sun 21 = .ok (.iconst 2, 1) := by decide +kernel
theorem dX8_sun_22 : decode cX8_sun 22 = .ok (.goto 4, 3) := by decide +kernel
theorem dX8_sun_25 : decode cX8_sun 25 = .ok (.iconst 0, 1) := by decide +kernel
theorem dX8_sun_26 : decode cX8_sun 26 = .ok (.iload_n 2, 1) := by decide +kernel
theorem dX8_sun_27 : decode cX8_sun 27 = .ok (.ifCond .ne 8, 3) := by decide +kernel
theorem dX8_sun_30 : decode cX8_sun 30 = .ok (.bipush 40, 2) := by decide +kernel
theorem dX8_sun_32 : decode cX8_sun 32 = .ok (.goto 25, 3) := by decide +kernel
theorem dX8_sun_35 : decode cX8_sun 35 = .ok (.iload_n 2, 1) := by decide +kernel
theorem dX8_sun_36 : decode cX8_sun 36 = .ok (.iconst 1, 1) := by decide +kernel
theorem dX8_sun_37 : decode cX8_sun 37 = .ok (.if_icmp .ne 14, 3) := by decide +kernel
theorem dX8_sun_40 : decode cX8_sun 40 = .ok (.aload_n 0, 1) := by decide +kernel
theorem dX8_sun_41 : decode cX8_sun 41 = .ok (.getfield 7, 3) := by decide +kernel
theorem dX8_sun_44 : decode cX8_sun 44 = .ok (.iload_n 1, 1) := by decide +kernel
theorem dX8_sun_45 : decode cX8_sun 45 = .ok (.iaload, 1) := by decide +kernel
theorem dX8_sun_46 : decode cX8_sun 46 = .ok (.iconst 1, 1) := by decide +kernel
theorem dX8_sun_47 : decode cX8_sun 47 = .ok (.isub, 1) := by decide +kernel
theorem dX8_sun_48 : decode cX8_sun 48 = .ok (.goto 9, 3) := by decide +kernel
theorem dX8_sun_51 : decode cX8_sun 51 = .ok (.aload_n 0, 1) := by decide +kernel
theorem dX8_sun_52 : decode cX8_sun 52 = .ok (.getfield 7, 3) := by decide +kernel
theorem dX8_sun_55 : decode cX8_sun 55 = .ok (.iload_n 1, 1) := by decide +kernel
theorem dX8_sun_56 : decode cX8_sun 56 = .ok (.iaload, 1) := by decide +kernel
theorem dX8_sun_57 : decode cX8_sun 57 = .ok (.invokestatic 70, 3) := by decide +kernel
theorem dX8_sun_60 : decode cX8_sun 60 = .ok (.ifCond .ne 6, 3) := by decide +kernel
theorem dX8_sun_63 : decode cX8_sun 63 = .ok (.bipush (-2), 2) := by decide +kernel
theorem dX8_sun_65 : decode cX8_sun 65 = .ok (.ireturn, 1) := by decide +kernel
theorem dX8_sun_66 : decode cX8_sun 66 = .ok (.iload_n 2, 1) := by decide +kernel
theorem dX8_sun_67 : decode cX8_sun 67 = .ok (.ifCond .ne 12, 3) := by decide +kernel
theorem dX8_sun_70 : decode cX8_sun 70 = .ok (.aload_n 0, 1) := by decide +kernel
theorem dX8_sun_71 : decode cX8_sun 71 = .ok (.getfield 7, 3) := by decide +kernel
theorem dX8_sun_74 : decode cX8_sun 74 = .ok (.iload_n 1, 1) := by decide +kernel
theorem dX8_sun_75 : decode cX8_sun 75 = .ok (.iaload, 1) := by decide +kernel
theorem dX8_sun_76 : decode cX8_sun 76 = .ok (.goto 23, 3) := by decide +kernel
theorem dX8_sun_79 : decode cX8_sun 79 = .ok (.iload_n 2, 1) := by decide +kernel
theorem dX8_sun_80 : decode cX8_sun 80 = .ok (.iconst 1, 1) := by decide +kernel
theorem dX8_sun_81 : decode cX8_sun 81 = .ok (.if_icmp .ne 12, 3) := by decide +kernel
theorem dX8_sun_84 : decode cX8_sun 84 = .ok (.aload_n 0, 1) := by decide +kernel
theorem dX8_sun_85 : decode cX8_sun 85 = .ok (.getfield 13, 3) := by decide +kernel
theorem dX8_sun_88 : decode cX8_sun 88 = .ok (.iload_n 1, 1) := by decide +kernel
theorem dX8_sun_89 : decode cX8_sun 89 = .ok (.iaload, 1) := by decide +kernel
theorem dX8_sun_90 : decode cX8_sun 90 = .ok (.goto 9, 3) := by decide +kernel
theorem dX8_sun_93 : decode cX8_sun 93 = .ok (.aload_n 0, 1) := by decide +kernel
theorem dX8_sun_94 : decode cX8_sun 94 = .ok (.getfield 16, 3) := by decide +kernel
theorem dX8_sun_97 : decode cX8_sun 97 = .ok (.iload_n 1, 1) := by decide +kernel
theorem dX8_sun_98 : decode cX8_sun 98 = .ok (.iaload, 1) := by decide +kernel
theorem dX8_sun_99 : decode cX8_sun 99 = .ok (.istore 4, 2) := by decide +kernel
theorem dX8_sun_101 : decode cX8_sun 101 = .ok (.iload_n 2, 1) := by decide +kernel
theorem dX8_sun_102 : decode cX8_sun 102 = .ok (.ifCond .ne 49, 3) := by decide +kernel
theorem dX8_sun_105 : decode cX8_sun 105 = .ok (.aload_n 0, 1) := by decide +kernel
theorem dX8_sun_106 : decode cX8_sun 106 = .ok (.getfield 7, 3) := by decide +kernel
theorem dX8_sun_109 : decode cX8_sun 109 = .ok (.iload_n 1, 1) := by decide +kernel
theorem dX8_sun_110 : decode cX8_sun 110 = .ok (.iload_n 3, 1) := by decide +kernel
theorem dX8_sun_111 : decode cX8_sun 111 = .ok (.iastore, 1) := by decide +kernel
theorem dX8_sun_112 : decode cX8_sun 112 = .ok (.aload_n 0, 1) := by decide +kernel
theorem dX8_sun_113 : decode cX8_sun 113 = .ok (.getfield 13, 3) := by decide +kernel
theorem dX8_sun_116 : decode cX8_sun 116 = .ok (.iload_n 1, 1) := by decide +kernel
theorem dX8_sun_117 : decode cX8_sun 117 = .ok (.dup2, 1) := by decide +kernel
theorem dX8_sun_118 : decode cX8_sun 118 = .ok (.iaload, 1) := by decide +kernel
theorem dX8_sun_119 : decode cX8_sun 119 = .ok (.iload_n 3, 1) := by decide +kernel
theorem dX8_sun_120 : decode cX8_sun 120 = .ok (.irem, 1) := by decide +kernel
theorem dX8_sun_121 : decode cX8_sun 121 = .ok (.iastore, 1) := by decide +kernel
theorem dX8_sun_122 : decode cX8_sun 122 = .ok (.aload_n 0, 1) := by decide +kernel
theorem dX8_sun_123 : decode cX8_sun 123 = .ok (.getfield 16, 3) := by decide +kernel
theorem dX8_sun_126 : decode cX8_sun 126 = .ok (.iload_n 1, 1) := by decide +kernel
theorem dX8_sun_127 : decode cX8_sun 127 = .ok (.aload_n 0, 1) := by decide +kernel
theorem dX8_sun_128 : decode cX8_sun 128 = .ok (.getfield 16, 3) := by decide +kernel
theorem dX8_sun_131 : decode cX8_sun 131 = .ok (.iload_n 1, 1) := by decide +kernel
theorem dX8_sun_132 : decode cX8_sun 132 = .ok (.iaload, 1) := by decide +kernel
theorem dX8_sun_133 : decode cX8_sun 133 = .ok (.iload_n 3, 1) := by decide +kernel
theorem dX8_sun_134 : decode cX8_sun 134 = .ok (.if_icmp .ge 12, 3) := by decide +kernel
theorem dX8_sun_137 : decode cX8_sun 137 = .ok (.aload_n 0, 1) := by decide +kernel
theorem dX8_sun_138 : decode cX8_sun 138 = .ok (.getfield 16, 3) := by decide +kernel
theorem dX8_sun_141 : decode cX8_sun 141 = .ok (.iload_n 1, 1) := by decide +kernel
theorem dX8_sun_142 : decode cX8_sun 142 = .ok (.iaload, 1) := by decide +kernel
theorem dX8_sun_143 : decode cX8_sun 143 = .ok (.goto 4, 3) := by decide +kernel
theorem dX8_sun_146 : decode cX8_sun 146 = .ok (.iload_n 3, 1) := by decide +kernel
theorem dX8_sun_147 : decode cX8_sun 147 = .ok (.iastore, 1) := by decide +kernel
theorem dX8_sun_148 : decode cX8_sun 148 = .ok (.goto 25, 3) := by decide +kernel
theorem dX8_sun_151 : decode cX8_sun 151 = .ok (.iload_n 2, 1) := by decide +kernel
theorem dX8_sun_152 : decode cX8_sun 152 = .ok (.iconst 1, 1) := by decide +kernel
theorem dX8_sun_153 : decode cX8_sun 153 = .ok (.if_icmp .ne 13, 3) := by decide +kernel
theorem dX8_sun_156 : decode cX8_sun 156 = .ok (.aload_n 0, 1) := by decide +kernel
theorem dX8_sun_157 : decode cX8_sun 157 = .ok (.getfield 13, 3) := by decide +kernel
theorem dX8_sun_160 : decode cX8_sun 160 = .ok (.iload_n 1, 1) := by decide +kernel
theorem dX8_sun_161 : decode cX8_sun 161 = .ok (.iload_n 3, 1) := by decide +kernel
theorem dX8_sun_162 : decode cX8_sun 162 = .ok (.iastore, 1) := by decide +kernel
theorem dX8_sun_163 : decode cX8_sun 163 = .ok (.goto 10, 3) := by decide +kernel
theorem dX8_sun_166 : decode cX8_sun 166 = .ok (.aload_n 0, 1) := by decide +kernel
theorem dX8_sun_167 : decode cX8_sun 167 = .ok (.getfield 16, 3) := by decide +kernel
theorem dX8_sun_170 : decode cX8_sun 170 = .ok (.iload_n 1, 1) := by decide +kernel
theorem dX8_sun_171 : decode cX8_sun 171 = .ok (.iload_n 3, 1) := by decide +kernel
theorem dX8_sun_172 : decode cX8_sun 172 = .ok (.iastore, 1) := by decide +kernel
theorem dX8_sun_173 : decode cX8_sun 173 = .ok (.iload 4, 2) := by decide +kernel
theorem dX8_sun_175 : decode cX8_sun 175 = .ok (.ireturn, 1) := by decide +kernel
set_option maxRecDepth 20000 in
theorem ggX8_type_X8_in : GoodIn wsX8_type wsX8_in := goodIn_r _ [6] (by decide +kernel) (by decide +kernel)
set_option maxRecDepth 20000 in
theorem gX8_type_X8_in : GoodIn wsX8_type (va_wsS RX8 70 yX8_in wsX8_in) := goodIn_app (goodIn_of _ (by decide +kernel)) ggX8_type_X8_in
theorem dX8_type_0 : decode cX8_type 0 = .ok (.iload_n 1, 1) := by decide +kernel
theorem dX8_type_1 : decode cX8_type 1 = .ok (.iconst 0, 1) := by decide +kernel
theorem dX8_type_2 : decode cX8_type 2 = .ok (.iconst 1, 1) := by decide +kernel
theorem dX8_type_3 : decode cX8_type 3 = .ok (.invokestatic 70, 3) := by decide +kernel
theorem dX8_type_6 : decode cX8_type 6 = .ok (.ifCond .eq 14, 3) := by decide +kernel
theorem dX8_type_9 : decode cX8_type 9 = .ok (.iload_n 2, 1) := by decide +kernel
theorem dX8_type_10 : decode cX8_type 10 = .ok (.iconst 0, 1) := by decide +kernel
theorem dX8_type_11 : decode cX8_type 11 = .ok (.sipush 255, 3) := by decide +kernel
theorem dX8_type_14 : decode cX8_type 14 = .ok (.invokestatic 70, 3) := by decide +kernel
theorem dX8_type_17 : decode cX8_type 17 = .ok (.ifCond .ne 6, 3) := by decide +kernel
theorem dX8_type_20 : decode cX8_type 20 = .ok (.bipush (-2), 2) := by decide +kernel
theorem dX8_type_22 : decode cX8_type 22 = .ok (.ireturn, 1) := by decide +kernel
theorem dX8_type_23 : decode cX8_type 23 = .ok (.aload_n 0, 1) := by decide +kernel
theorem dX8_type_24 : decode cX8_type 24 = .ok (.getfield 19, 3) := by decide +kernel
theorem dX8_type_27 : decode cX8_type 27 = .ok (.iload_n 1, 1) := by decide +kernel
theorem dX8_type_28 : decode cX8_type 28 = .ok (.iaload, 1) := by decide +kernel
theorem dX8_type_29 : decode cX8_type 29 = .ok (.iload_n 1, 1) := by decide +kernel
theorem dX8_type_30 : decode cX8_type 30 = .ok (.ifCond .ne 8, 3) := by decide +kernel
theorem dX8_type_33 : decode cX8_type 33 = .ok (.bipush 60, 2) := by decide +kernel
theorem dX8_type_35 : decode cX8_type 35 = .ok (.goto 5, 3) := by decide +kernel
theorem dX8_type_38 : decode cX8_type 38 = .ok (.bipush 20, 2) := by decide +kernel
theorem dX8_type_40 : decode cX8_type 40 = .ok (.if_icmp .ne 6, 3) := by decide +kernel
theorem dX8_type_43 : decode cX8_type 43 = .ok (.bipush (-4), 2) := by decide +kernel
theorem dX8_type_45 : decode cX8_type 45 = .ok (.ireturn, 1) := by decide +kernel
theorem dX8_type_46 : decode cX8_type 46 = .ok (.aload_n 0, 1) := by decide +kernel
theorem dX8_type_47 : decode cX8_type 47 = .ok (.getfield 22, 3) := by decide +kernel
theorem dX8_type_50 : decode cX8_type 50 = .ok (.bipush 60, 2) := by decide +kernel
theorem dX8_type_52 : decode cX8_type 52 = .ok (.iload_n 1, 1) := by decide +kernel
theorem dX8_type_53 : decode cX8_type 53 = .ok (.imul, 1) := by decide +kernel
theorem dX8_type_54 : decode cX8_type 54 = .ok (.aload_n 0, 1) := by decide +kernel
theorem dX8_type_55 : decode cX8_type 55 = .ok (.getfield 19, 3) := by decide +kernel
theorem dX8_type_58 : decode cX8_type 58 = .ok (.iload_n 1, 1) := by decide +kernel
theorem dX8_type_59 : decode cX8_type 59 = .ok (.iaload, 1) := by decide +kernel
theorem dX8_type_60 : decode cX8_type 60 = .ok (.iadd, 1) := by decide +kernel
theorem dX8_type_61 : decode cX8_type 61 = .ok (.iload_n 2, 1) := by decide +kernel
theorem dX8_type_62 : decode cX8_type 62 = .ok (.iastore, 1) := by decide +kernel
theorem dX8_type_63 : decode cX8_type 63 = .ok (.aload_n 0, 1) := by decide +kernel
theorem dX8_type_64 : decode cX8_type 64 = .ok (.getfield 19, 3) := by decide +kernel
theorem dX8_type_67 : decode cX8_type 67 = .ok (.iload_n 1, 1) := by decide +kernel
theorem dX8_type_68 : decode cX8_type 68 = .ok (.dup2, 1) := by decide +kernel
theorem dX8_type_69 : decode cX8_type 69 = .ok (.iaload, 1) := by decide +kernel
theorem dX8_type_70 : decode cX8_type 70 = .ok (.iconst 1, 1) := by decide +kernel
theorem dX8_type_71 : decode cX8_type 71 = .ok (.iadd, 1) := by decide +kernel
theorem dX8_type_72 : decode cX8_type 72 = .ok (.iastore, 1) := by decide +kernel
theorem dX8_type_73 : decode cX8_type 73 = .ok (.aload_n 0, 1) := by decide +kernel
theorem dX8_type_74 : decode cX8_type 74 = .ok (.getfield 19, 3) := by decide +kernel
theorem dX8_type_77 : decode cX8_type 77 = .ok (.iload_n 1, 1) := by decide +kernel
theorem dX8_type_78 : decode cX8_type 78 = .ok (.iaload, 1) := by decide +kernel
theorem dX8_type_79 : decode cX8_type 79 = .ok (.ireturn, 1) := by decide +kernel
set_option maxRecDepth 20000 in
theorem ggX8_wipe_X8_in : GoodIn wsX8_wipe wsX8_in := goodIn_r _ [5] (by decide +kernel) (by decide +kernel)
set_option maxRecDepth 20000 in
theorem gX8_wipe_X8_in : GoodIn wsX8_wipe (va_wsS RX8 70 yX8_in wsX8_in) := goodIn_app (goodIn_of _ (by decide +kernel)) ggX8_wipe_X8_in
theorem dX8_wipe_0 : decode cX8_wipe 0 = .ok (.iload_n 1, 1) := by decide +kernel
theorem dX8_wipe_1 : decode cX8_wipe 1 = .ok (.iconst 0, 1) := by decide +kernel
theorem dX8_wipe_2 : decode cX8_wipe 2 = .ok (.iconst 1, 1) := by decide +kernel
theorem dX8_wipe_3 : decode cX8_wipe 3 = .ok (.invokestatic 70, 3) := by decide +kernel
theorem dX8_wipe_6 : decode cX8_wipe 6 = .ok (.ifCond .ne 6, 3) := by decide +kernel
theorem dX8_wipe_9 : decode cX8_wipe 9 = .ok (.bipush (-2), 2) := by decide +kernel
theorem dX8_wipe_11 : decode cX8_wipe 11 = .ok (.ireturn, 1) := by decide +kernel
theorem dX8_wipe_12 : decode cX8_wipe 12 = .ok (.aload_n 0, 1) := by decide +kernel
theorem dX8_wipe_13 : decode cX8_wipe 13 = .ok (.getfield 19, 3) := by decide +kernel
theorem dX8_wipe_16 : decode cX8_wipe 16 = .ok (.iload_n 1, 1) := by decide +kernel
theorem dX8_wipe_17 : decode cX8_wipe 17 = .ok (.iaload, 1) := by decide +kernel
theorem dX8_wipe_18 : decode cX8_wipe 18 = .ok (.istore_n 2, 1) := by decide +kernel
theorem dX8_wipe_19 : decode cX8_wipe 19 = .ok (.aload_n 0, 1) := by decide +kernel
theorem dX8_wipe_20 : decode cX8_wipe 20 = .ok (.getfield 19, 3) := by decide +kernel
theorem dX8_wipe_23 : decode cX8_wipe 23 = .ok (.iload_n 1, 1) := by decide +kernel
theorem dX8_wipe_24 : decode cX8_wipe 24 = .ok (.iconst 0, 1) := by decide +kernel
theorem dX8_wipe_25 : decode cX8_wipe 25 = .ok (.iastore, 1) := by decide +kernel
theorem dX8_wipe_26 : decode cX8_wipe 26 = .ok (.iload_n 2, 1) := by decide +kernel
theorem dX8_wipe_27 : decode cX8_wipe 27 = .ok (.ireturn, 1) := by decide +kernel
set_option maxRecDepth 20000 in
theorem ggX8_undo_X8_in : GoodIn wsX8_undo wsX8_in := goodIn_r _ [5] (by decide +kernel) (by decide +kernel)
set_option maxRecDepth 20000 in
theorem gX8_undo_X8_in : GoodIn wsX8_undo (va_wsS RX8 70 yX8_in wsX8_in) := goodIn_app (goodIn_of _ (by decide +kernel)) ggX8_undo_X8_in
theorem dX8_undo_0 : decode cX8_undo 0 = .ok (.iload_n 1, 1) := by decide +kernel
theorem dX8_undo_1 : decode cX8_undo 1 = .ok (.iconst 0, 1) := by decide +kernel
theorem dX8_undo_2 : decode cX8_undo 2 = .ok (.iconst 1, 1) := by decide +kernel
theorem dX8_undo_3 : decode cX8_undo 3 = .ok (.invokestatic 70, 3) := by decide +kernel
theorem dX8_undo_6 : decode cX8_undo 6 = .ok (.ifCond .ne 6, 3) := by decide +kernel
theorem dX8_undo_9 : decode cX8_undo 9 = .ok (.bipush (-2), 2) := by decide +kernel
theorem dX8_undo_11 : decode cX8_undo 11 = .ok (.ireturn, 1) := by decide +kernel
theorem dX8_undo_12 : decode cX8_undo 12 = .ok (.aload_n 0, 1) := by decide +kernel
theorem dX8_undo_13 : decode cX8_undo 13 = .ok (.getfield 19, 3) := by decide +kernel
theorem dX8_undo_16 : decode cX8_undo 16 = .ok (.iload_n 1, 1) := by decide +kernel
theorem dX8_undo_17 : decode cX8_undo 17 = .ok (.iaload, 1) := by decide +kernel
theorem dX8_undo_18 : decode cX8_undo 18 = .ok (.ifCond .ne 6, 3) := by decide +kernel
theorem dX8_undo_21 : decode cX8_undo 21 = .ok (.bipush (-3), 2) := by decide +kernel
theorem dX8_undo_23 : decode cX8_undo 23 = .ok (.ireturn, 1) := by decide +kernel
theorem dX8_undo_24 : decode cX8_undo 24 = .ok (.aload_n 0, 1) := by decide +kernel
theorem dX8_undo_25 : decode cX8_undo 25 = .ok (.getfield 19, 3) := by decide +kernel
theorem dX8_undo_28 : decode cX8_undo 28 = .ok (.iload_n 1, 1) := by decide +kernel
theorem dX8_undo_29 : decode cX8_undo 29 = .ok (.dup2, 1) := by decide +kernel
theorem dX8_undo_30 : decode cX8_undo 30 = .ok (.iaload, 1) := by decide +kernel
theorem dX8_undo_31 : decode cX8_undo 31 = .ok (.iconst 1, 1) := by decide +kernel
theorem dX8_undo_32 : decode cX8_undo 32 = .ok (.isub, 1) := by decide +kernel
theorem dX8_undo_33 : decode cX8_undo 33 = .ok (.iastore, 1) := by decide +kernel
theorem dX8_undo_34 : decode cX8_undo 34 = .ok (.aload_n 0, 1) := by decide +kernel
theorem dX8_undo_35 : decode cX8_undo 35 = .ok (.getfield 19, 3) := by decide +kernel
theorem dX8_undo_38 : decode cX8_undo 38 = .ok (.iload_n 1, 1) := by decide +kernel
theorem dX8_undo_39 : decode cX8_undo 39 = .ok (.iaload, 1) := by decide +kernel
theorem dX8_undo_40 : decode cX8_undo 40 = .ok (.ireturn, 1) := by decide +kernel
theorem dX8_readsDiary_0 : decode cX8_readsDiary 0 = .ok (.aload_n 0, 1) := by decide +kernel
theorem dX8_readsDiary_1 : decode cX8_readsDiary 1 = .ok (.iconst 0, 1) := by decide +kernel
theorem dX8_readsDiary_2 : decode cX8_readsDiary 2 = .ok (.putfield 79, 3) := by decide +kernel
theorem dX8_readsDiary_5 : decode cX8_readsDiary 5 = .ok (.iconst 0, 1) := by decide +kernel
theorem dX8_readsDiary_6 : decode cX8_readsDiary 6 = .ok (.istore_n 1, 1) := by decide +kernel
theorem dX8_readsDiary_7 : decode cX8_readsDiary 7 = .ok (.iload_n 1, 1) := by decide +kernel
theorem dX8_readsDiary_8 : decode cX8_readsDiary 8 = .ok (.aload_n 0, 1) := by decide +kernel
theorem dX8_readsDiary_9 : decode cX8_readsDiary 9 = .ok (.getfield 19, 3) := by decide +kernel
theorem dX8_readsDiary_12 : decode cX8_readsDiary 12 = .ok (.iconst 0, 1) := by decide +kernel
theorem dX8_readsDiary_13 : decode cX8_readsDiary 13 = .ok (.iaload, 1) := by decide +kernel
theorem dX8_readsDiary_14 : decode cX8_readsDiary 14 = .ok (.if_icmp .ge 95, 3) := by decide +kernel
theorem dX8_readsDiary_17 : decode cX8_readsDiary 17 = .ok (.aload_n 0, 1) := by decide +kernel
theorem dX8_readsDiary_18 : decode cX8_readsDiary 18 = .ok (.getfield 22, 3) := by decide +kernel
theorem dX8_readsDiary_21 : decode cX8_readsDiary 21 = .ok (.iload_n 1, 1) := by decide +kernel
theorem dX8_readsDiary_22 : decode cX8_readsDiary 22 = .ok (.iaload, 1) := by decide +kernel
theorem dX8_readsDiary_23 : decode cX8_readsDiary 23 = .ok (.istore_n 2, 1) := by decide +kernel
theorem dX8_readsDiary_24 : decode cX8_readsDiary 24 = .ok (.iload_n 2, 1) := by decide +kernel
theorem dX8_readsDiary_25 : decode cX8_readsDiary 25 = .ok (.bipush 110, 2) := by decide +kernel
theorem dX8_readsDiary_27 : decode cX8_readsDiary 27 = .ok (.if_icmp .eq 29, 3) := by decide +kernel
theorem dX8_readsDiary_30 : decode cX8_readsDiary 30 = .ok (.iload_n 2, 1) := by decide +kernel
theorem dX8_readsDiary_31 : decode cX8_readsDiary 31 = .ok (.bipush 114, 2) := by decide +kernel
theorem dX8_readsDiary_33 : decode cX8_readsDiary 33 = .ok (.if_icmp .eq 23, 3) := by decide +kernel
theorem dX8_readsDiary_36 : decode cX8_readsDiary 36 = .ok (.iload_n 2, 1) := by decide +kernel
theorem dX8_readsDiary_37 : decode cX8_readsDiary 37 = .ok (.bipush 98, 2) := by decide +kernel
theorem dX8_readsDiary_39 : decode cX8_readsDiary 39 = .ok (.if_icmp .eq 17, 3) := by decide +kernel
theorem dX8_readsDiary_42 : decode cX8_readsDiary 42 = .ok (.iload_n 2, 1) := by decide +kernel
theorem dX8_readsDiary_43 : decode cX8_readsDiary 43 = .ok (.bipush 100, 2) := by decide +kernel
theorem dX8_readsDiary_45 : decode cX8_readsDiary 45 = .ok (.if_icmp .eq 11, 3) := by decide +kernel
theorem dX8_readsDiary_48 : decode cX8_readsDiary 48 = .ok (.iload_n 2, 1) := by decide +kernel
theorem dX8_readsDiary_49 : decode cX8_readsDiary 49 = .ok (.bipush 46, 2) := by decide +kernel
theorem dX8_readsDiary_51 : decode cX8_readsDiary 51 = .ok (.if_icmp .eq 5, 3) := by decide +kernel
theorem dX8_readsDiary_54 : decode cX8_readsDiary 54 = .ok (.iload_n 1, 1) := by decide +kernel
theorem dX8_readsDiary_55 : decode cX8_readsDiary 55 = .ok (.ireturn, 1) := by decide +kernel
theorem dX8_readsDiary_56 : decode cX8_readsDiary 56 = .ok (.aload_n 0, 1) := by decide +kernel
theorem dX8_readsDiary_57 : decode cX8_readsDiary 57 = .ok (.getfield 25, 3) := by decide +kernel
theorem dX8_readsDiary_60 : decode cX8_readsDiary 60 = .ok (.iload_n 1, 1) := by decide +kernel
theorem dX8_readsDiary_61 : decode cX8_readsDiary 61 = .ok (.iload_n 2, 1) := by decide +kernel
theorem dX8_readsDiary_62 : decode cX8_readsDiary 62 = .ok (.bipush 110, 2) := by decide +kernel
theorem dX8_readsDiary_64 : decode cX8_readsDiary 64 = .ok (.if_icmp .ne 7, 3) := by decide +kernel
theorem dX8_readsDiary_67 : decode cX8_readsDiary 67 = .ok (.iconst 0, 1) := by decide +kernel
theorem dX8_readsDiary_68 : decode cX8_readsDiary 68 = .ok (.goto 34, 3) := by decide +kernel
theorem dX8_readsDiary_71 : decode cX8_readsDiary 71 = .ok (.iload_n 2, 1) := by decide +kernel
theorem dX8_readsDiary_72 : decode cX8_readsDiary 72 = .ok (.bipush 114, 2) := by decide +kernel
theorem dX8_readsDiary_74 : decode cX8_readsDiary 74 = .ok (.if_icmp .ne 7, 3) := by decide +kernel
theorem dX8_readsDiary_77 : decode cX8_readsDiary 77 = .ok (.iconst 1, 1) := by decide +kernel
theorem dX8_readsDiary_78 : decode cX8_readsDiary 78 = .ok (.goto 24, 3) := by decide +kernel
theorem dX8_readsDiary_81 : decode cX8_readsDiary 81 = .ok (.iload_n 2, 1) := by decide +kernel
theorem dX8_readsDiary_82 : decode cX8_readsDiary 82 = .ok (.bipush 98, 2) := by decide +kernel
theorem dX8_readsDiary_84 : decode cX8_readsDiary 84 = .ok (.if_icmp .ne 7, 3) := by decide +kernel
theorem dX8_readsDiary_87 : decode cX8_readsDiary 87 = .ok (.iconst 2, 1) := by decide +kernel
theorem dX8_readsDiary_88 : decode cX8_readsDiary 88 = .ok (.goto 14, 3) := by decide +kernel
theorem dX8_readsDiary_91 : decode cX8_readsDiary 91 = .ok (.iload_n 2, 1) := by decide +kernel
theorem dX8_readsDiary_92 : decode cX8_readsDiary 92 = .ok (.bipush 100, 2) := by decide +kernel
theorem dX8_readsDiary_94 : decode cX8_readsDiary 94 = .ok (.if_icmp .ne 7, 3) := by decide +kernel
theorem dX8_readsDiary_97 : decode cX8_readsDiary 97 = .ok (.iconst 3, 1) := by decide +kernel
theorem dX8_readsDiary_98 : decode cX8_readsDiary 98 = .ok (.goto 4, 3) := by decide +kernel
theorem dX8_readsDiary_101 : decode cX8_readsDiary 101 = .ok (.iconst (-1), 1) := by decide +kernel
theorem dX8_readsDiary_102 : decode cX8_readsDiary 102 = .ok (.iastore, 1) := by decide +kernel
theorem dX8_readsDiary_103 : decode cX8_readsDiary 103 = .ok (.iinc 1 1, 3) := by decide +kernel
theorem dX8_readsDiary_106 : decode cX8_readsDiary 106 = .ok (.goto (-99), 3) := by decide +kernel
theorem dX8_readsDiary_109 : decode cX8_readsDiary 109 = .ok (.aload_n 0, 1) := by decide +kernel
theorem dX8_readsDiary_110 : decode cX8_readsDiary 110 = .ok (.aload_n 0, 1) := by decide +kernel
theorem dX8_readsDiary_111 : decode cX8_readsDiary 111 = .ok (.getfield 19, 3) := by decide +kernel
theorem dX8_readsDiary_114 : decode cX8_readsDiary 114 = .ok (.iconst 0, 1) := by decide +kernel
theorem dX8_readsDiary_115 : decode cX8_readsDiary 115 = .ok (.iaload, 1) := by decide +kernel
theorem dX8_readsDiary_116 : decode cX8_readsDiary 116 = .ok (.putfield 79, 3) := by decide +kernel
theorem dX8_readsDiary_119 : decode cX8_readsDiary 119 = .ok (.iconst (-1), 1) := by decide +kernel
theorem dX8_readsDiary_120 : decode cX8_readsDiary 120 = .ok (.ireturn, 1) := by decide +kernel
set_option maxRecDepth 20000 in
theorem ggX8_figureAt_X8_in : GoodIn wsX8_figureAt wsX8_in := goodIn_r _ [6] (by decide +kernel) (by decide +kernel)
set_option maxRecDepth 20000 in
theorem gX8_figureAt_X8_in : GoodIn wsX8_figureAt (va_wsS RX8 70 yX8_in wsX8_in) := goodIn_app (goodIn_of _ (by decide +kernel)) ggX8_figureAt_X8_in
theorem dX8_figureAt_0 : decode cX8_figureAt 0 = .ok (.iload_n 1, 1) := by decide +kernel
theorem dX8_figureAt_1 : decode cX8_figureAt 1 = .ok (.aload_n 0, 1) := by decide +kernel
theorem dX8_figureAt_2 : decode cX8_figureAt 2 = .ok (.getfield 19, 3) := by decide +kernel
theorem dX8_figureAt_5 : decode cX8_figureAt 5 = .ok (.iconst 1, 1) := by decide +kernel
theorem dX8_figureAt_6 : decode cX8_figureAt 6 = .ok (.iaload, 1) := by decide +kernel
theorem dX8_figureAt_7 : decode cX8_figureAt 7 = .ok (.if_icmp .ge 18, 3) := by decide +kernel
theorem dX8_figureAt_10 : decode cX8_figureAt 10 = .ok (.aload_n 0, 1) := by decide +kernel
theorem dX8_figureAt_11 : decode cX8_figureAt 11 = .ok (.getfield 22, 3) := by decide +kernel
theorem dX8_figureAt_14 : decode cX8_figureAt 14 = .ok (.bipush 60, 2) := by decide +kernel
theorem dX8_figureAt_16 : decode cX8_figureAt 16 = .ok (.iload_n 1, 1) := by decide +kernel
theorem dX8_figureAt_17 : decode cX8_figureAt 17 = .ok (.iadd, 1) := by decide +kernel
theorem dX8_figureAt_18 : decode cX8_figureAt 18 = .ok (.iaload, 1) := by decide +kernel
theorem dX8_figureAt_19 : decode cX8_figureAt 19 = .ok (.bipush 48, 2) := by decide +kernel
theorem dX8_figureAt_21 : decode cX8_figureAt 21 = .ok (.isub, 1) := by decide +kernel
theorem dX8_figureAt_22 : decode cX8_figureAt 22 = .ok (.goto 4, 3) := by decide +kernel
theorem dX8_figureAt_25 : decode cX8_figureAt 25 = .ok (.iconst (-1), 1) := by decide +kernel
theorem dX8_figureAt_26 : decode cX8_figureAt 26 = .ok (.istore_n 2, 1) := by decide +kernel
theorem dX8_figureAt_27 : decode cX8_figureAt 27 = .ok (.iload_n 2, 1) := by decide +kernel
theorem dX8_figureAt_28 : decode cX8_figureAt 28 = .ok (.iconst 0, 1) := by decide +kernel
theorem dX8_figureAt_29 : decode cX8_figureAt 29 = .ok (.bipush 9, 2) := by decide +kernel
theorem dX8_figureAt_31 : decode cX8_figureAt 31 = .ok (.invokestatic 70, 3) := by decide +kernel
theorem dX8_figureAt_34 : decode cX8_figureAt 34 = .ok (.ifCond .eq 7, 3) := by decide +kernel
theorem dX8_figureAt_37 : decode cX8_figureAt 37 = .ok (.iload_n 2, 1) := by decide +kernel
theorem dX8_figureAt_38 : decode cX8_figureAt 38 = .ok (.goto 4, 3) := by decide +kernel
theorem dX8_figureAt_41 : decode cX8_figureAt 41 = .ok (.iconst (-1), 1) := by decide +kernel
theorem dX8_figureAt_42 : decode cX8_figureAt 42 = .ok (.ireturn, 1) := by decide +kernel
set_option maxRecDepth 20000 in
theorem ggX8_readsCalendar_X8_figureAt : GoodIn wsX8_readsCalendar wsX8_figureAt := goodIn_r _ [9, 2, 4, 10, 11, 8, 12, 13, 14, 15, 16, 17, 18, 19, 20, 21, 22, 23, 24, 25, 26, 27, 28, 29, 30, 31, 32, 33, 34, 35, 36] (by decide +kernel) (by decide +kernel)
set_option maxRecDepth 20000 in
theorem gX8_readsCalendar_X8_figureAt : GoodIn wsX8_readsCalendar (wsV RX8 86 RX8 yX8_figureAt wsX8_figureAt) := goodIn_app (goodIn_of _ (by decide +kernel)) ggX8_readsCalendar_X8_figureAt
theorem dX8_readsCalendar_0 : decode cX8_readsCalendar 0 = .ok (.aload_n 0, 1) := by decide +kernel
theorem dX8_readsCalendar_1 : decode cX8_readsCalendar 1 = .ok (.iconst 0, 1) := by decide +kernel
theorem dX8_readsCalendar_2 : decode cX8_readsCalendar 2 = .ok (.putfield 83, 3) := by decide +kernel
theorem dX8_readsCalendar_5 : decode cX8_readsCalendar 5 = .ok (.iconst 0, 1) := by decide +kernel
theorem dX8_readsCalendar_6 : decode cX8_readsCalendar 6 = .ok (.istore_n 1, 1) := by decide +kernel
theorem dX8_readsCalendar_7 : decode cX8_readsCalendar 7 = .ok (.iconst 0, 1) := by decide +kernel
theorem dX8_readsCalendar_8 : decode cX8_readsCalendar 8 = .ok (.istore_n 2, 1) := by decide +kernel
theorem dX8_readsCalendar_9 : decode cX8_readsCalendar 9 = .ok (.iload_n 2, 1) := by decide +kernel
theorem dX8_readsCalendar_10 : decode cX8_readsCalendar 10 = .ok (.aload_n 0, 1) := by decide +kernel
theorem dX8_readsCalendar_11 : decode cX8_readsCalendar 11 = .ok (.getfield 19, 3) := by decide +kernel
theorem dX8_readsCalendar_14 : decode cX8_readsCalendar 14 = .ok (.iconst 1, 1) := by decide +kernel
theorem dX8_readsCalendar_15 : decode cX8_readsCalendar 15 = .ok (.iaload, 1) := by decide +kernel
theorem dX8_readsCalendar_16 : decode cX8_readsCalendar 16 = .ok (.if_icmp .lt 7, 3) := by decide +kernel
theorem dX8_readsCalendar_19 : decode cX8_readsCalendar 19 = .ok (.iload_n 2, 1) := by decide +kernel
theorem dX8_readsCalendar_20 : decode cX8_readsCalendar 20 = .ok (.ifCond .le 106, 3) := by decide +kernel
theorem dX8_readsCalendar_23 : decode cX8_readsCalendar 23 = .ok (.aload_n 0, 1) := by decide +kernel
theorem dX8_readsCalendar_24 : decode cX8_readsCalendar 24 = .ok (.iload_n 2, 1) := by decide +kernel
theorem dX8_readsCalendar_25 : decode cX8_readsCalendar 25 = .ok (.invokevirtual 86, 3) := by decide +kernel
theorem dX8_readsCalendar_28 : decode cX8_readsCalendar 28 = .ok (.istore_n 3, 1) := by decide +kernel
theorem dX8_readsCalendar_29 : decode cX8_readsCalendar 29 = .ok (.aload_n 0, 1) := by decide +kernel
theorem dX8_readsCalendar_30 : decode cX8_readsCalendar 30 = .ok (.iload_n 2, 1) := by decide +kernel
theorem dX8_readsCalendar_31 : decode cX8_readsCalendar 31 = .ok (.iconst 1, 1) := by decide +kernel
theorem dX8_readsCalendar_32 : decode cX8_readsCalendar 32 = .ok (.iadd, 1) := by decide +kernel
theorem dX8_readsCalendar_33 : decode cX8_readsCalendar 33 = .ok (.invokevirtual 86, 3) := by decide +kernel
theorem dX8_readsCalendar_36 : decode cX8_readsCalendar 36 = .ok (.istore 4, 2) := by decide +kernel
theorem dX8_readsCalendar_38 : decode cX8_readsCalendar 38 = .ok (.iload_n 1, 1) := by decide +kernel
theorem dX8_readsCalendar_39 : decode cX8_readsCalendar 39 = .ok (.bipush 6, 2) := by decide +kernel
theorem dX8_readsCalendar_41 : decode cX8_readsCalendar 41 = .ok (.if_icmp .eq 8, 3) := by decide +kernel
theorem dX8_readsCalendar_44 : decode cX8_readsCalendar 44 = .ok (.iload_n 3, 1) := by decide +kernel
theorem dX8_readsCalendar_45 : decode cX8_readsCalendar 45 = .ok (.iconst (-1), 1) := by decide +kernel
theorem dX8_readsCalendar_46 : decode cX8_readsCalendar 46 = .ok (.if_icmp .ne 5, 3) := by decide +kernel
theorem dX8_readsCalendar_49 : decode cX8_readsCalendar 49 = .ok (.iload_n 2, 1) := by decide +kernel
theorem dX8_readsCalendar_50 : decode cX8_readsCalendar 50 = .ok (.ireturn, 1) := by decide +kernel
theorem dX8_readsCalendar_51 : decode cX8_readsCalendar 51 = .ok (.iload 4, 2) := by decide +kernel
theorem dX8_readsCalendar_53 : decode cX8_readsCalendar 53 = .ok (.iconst (-1), 1) := by decide +kernel
theorem dX8_readsCalendar_54 : decode cX8_readsCalendar 54 = .ok (.if_icmp .eq 10, 3) := by decide +kernel
theorem dX8_readsCalendar_57 : decode cX8_readsCalendar 57 = .ok (.iload_n 3, 1) := by decide +kernel
theorem dX8_readsCalendar_58 : decode cX8_readsCalendar 58 = .ok (.iload 4, 2) := by decide +kernel
theorem dX8_readsCalendar_60 : decode cX8_readsCalendar 60 = .ok (.iadd, 1) := by decide +kernel
theorem dX8_readsCalendar_61 : decode cX8_readsCalendar 61 = .ok (.ifCond .ne 7, 3) := by decide +kernel
theorem dX8_readsCalendar_64 : decode cX8_readsCalendar 64 = .ok (.iload_n 2, 1) := by decide +kernel
theorem dX8_readsCalendar_65 : decode cX8_readsCalendar 65 = .ok (.iconst 1, 1) := by decide +kernel
theorem dX8_readsCalendar_66 : decode cX8_readsCalendar 66 = .ok (.iadd, 1) := by decide +kernel
theorem dX8_readsCalendar_67 : decode cX8_readsCalendar 67 = .ok (.ireturn, 1) := by decide +kernel
theorem dX8_readsCalendar_68 : decode cX8_readsCalendar 68 = .ok (.aload_n 0, 1) := by decide +kernel
theorem dX8_readsCalendar_69 : decode cX8_readsCalendar 69 = .ok (.getfield 28, 3) := by decide +kernel
theorem dX8_readsCalendar_72 : decode cX8_readsCalendar 72 = .ok (.iload_n 1, 1) := by decide +kernel
theorem dX8_readsCalendar_73 : decode cX8_readsCalendar 73 = .ok (.bipush 10, 2) := by decide +kernel
theorem dX8_readsCalendar_75 : decode cX8_readsCalendar 75 = .ok (.iload_n 3, 1) := by decide +kernel
theorem dX8_readsCalendar_76 : decode cX8_readsCalendar 76 = .ok (.imul, 1) := by decide +kernel
theorem dX8_readsCalendar_77 : decode cX8_readsCalendar 77 = .ok (.iload 4, 2) := by decide +kernel
theorem dX8_readsCalendar_79 : decode cX8_readsCalendar 79 = .ok (.iadd, 1) := by decide +kernel
theorem dX8_readsCalendar_80 : decode cX8_readsCalendar 80 = .ok (.iastore, 1) := by decide +kernel
theorem dX8_readsCalendar_81 : decode cX8_readsCalendar 81 = .ok (.iinc 1 1, 3) := by decide +kernel
theorem dX8_readsCalendar_84 : decode cX8_readsCalendar 84 = .ok (.iinc 2 2, 3) := by decide +kernel
theorem dX8_readsCalendar_87 : decode cX8_readsCalendar 87 = .ok (.iload_n 2, 1) := by decide +kernel
theorem dX8_readsCalendar_88 : decode cX8_readsCalendar 88 = .ok (.aload_n 0, 1) := by decide +kernel
theorem dX8_readsCalendar_89 : decode cX8_readsCalendar 89 = .ok (.getfield 19, 3) := by decide +kernel
theorem dX8_readsCalendar_92 : decode cX8_readsCalendar 92 = .ok (.iconst 1, 1) := by decide +kernel
theorem dX8_readsCalendar_93 : decode cX8_readsCalendar 93 = .ok (.iaload, 1) := by decide +kernel
theorem dX8_readsCalendar_94 : decode cX8_readsCalendar 94 = .ok (.if_icmp .ne 10, 3) := by decide +kernel
theorem dX8_readsCalendar_97 : decode cX8_readsCalendar 97 = .ok (.aload_n 0, 1) := by decide +kernel
theorem dX8_readsCalendar_98 : decode cX8_readsCalendar 98 = .ok (.iload_n 1, 1) := by decide +kernel
theorem dX8_readsCalendar_99 : decode cX8_readsCalendar 99 = .ok (.putfield 83, 3) := by decide +kernel
theorem dX8_readsCalendar_102 : decode cX8_readsCalendar 102 = .ok (.iconst (-1), 1) := by decide +kernel
theorem dX8_readsCalendar_103 : decode cX8_readsCalendar 103 = .ok (.ireturn, 1) := by decide +kernel
theorem dX8_readsCalendar_104 : decode cX8_readsCalendar 104 = .ok (.aload_n 0, 1) := by decide +kernel
theorem dX8_readsCalendar_105 : decode cX8_readsCalendar 105 = .ok (.getfield 22, 3) := by decide +kernel
theorem dX8_readsCalendar_108 : decode cX8_readsCalendar 108 = .ok (.bipush 60, 2) := by decide +kernel
theorem dX8_readsCalendar_110 : decode cX8_readsCalendar 110 = .ok (.iload_n 2, 1) := by decide +kernel
theorem dX8_readsCalendar_111 : decode cX8_readsCalendar 111 = .ok (.iadd, 1) := by decide +kernel
theorem dX8_readsCalendar_112 : decode cX8_readsCalendar 112 = .ok (.iaload, 1) := by decide +kernel
theorem dX8_readsCalendar_113 : decode cX8_readsCalendar 113 = .ok (.bipush 59, 2) := by decide +kernel
theorem dX8_readsCalendar_115 : decode cX8_readsCalendar 115 = .ok (.if_icmp .eq 5, 3) := by decide +kernel
theorem dX8_readsCalendar_118 : decode cX8_readsCalendar 118 = .ok (.iload_n 2, 1) := by decide +kernel
theorem dX8_readsCalendar_119 : decode cX8_readsCalendar 119 = .ok (.ireturn, 1) := by decide +kernel
theorem dX8_readsCalendar_120 : decode cX8_readsCalendar 120 = .ok (.iinc 2 1, 3) := by decide +kernel
theorem dX8_readsCalendar_123 : decode cX8_readsCalendar 123 = .ok (.goto (-114), 3) := by decide +kernel
theorem dX8_readsCalendar_126 : decode cX8_readsCalendar 126 = .ok (.iconst (-1), 1) := by decide +kernel
theorem dX8_readsCalendar_127 : decode cX8_readsCalendar 127 = .ok (.ireturn, 1) := by decide +kernel
set_option maxRecDepth 20000 in
theorem ggX8_faultOf_X8_readsDiary : GoodIn wsX8_faultOf wsX8_readsDiary := goodIn_r _ [5, 6, 7, 8, 9, 23, 24, 25, 26, 27, 28, 29, 30, 31, 32, 33, 34, 35, 36, 37, 38, 39, 40, 41, 42, 43, 44, 45, 46] (by decide +kernel) (by decide +kernel)
set_option maxRecDepth 20000 in
theorem gX8_faultOf_X8_readsDiary : GoodIn wsX8_faultOf (wsV RX8 90 RX8 yX8_readsDiary wsX8_readsDiary) := goodIn_app (goodIn_of _ (by decide +kernel)) ggX8_faultOf_X8_readsDiary
set_option maxRecDepth 20000 in
theorem ggX8_faultOf_X8_readsCalendar : GoodIn wsX8_faultOf wsX8_readsCalendar := goodIn_r _ [13, 14, 7, 15, 8, 16, 17, 18, 4, 19, 20, 21, 22, 23, 24, 25, 26, 27, 28, 29, 30, 31, 32, 33, 34, 35, 36, 37, 38, 39, 40, 41, 42, 43, 44, 45, 46] (by decide +kernel) (by decide +kernel)
set_option maxRecDepth 20000 in
theorem gX8_faultOf_X8_readsCalendar : GoodIn wsX8_faultOf (wsV RX8 94 RX8 yX8_readsCalendar wsX8_readsCalendar) := goodIn_app (goodIn_of _ (by decide +kernel)) ggX8_faultOf_X8_readsCalendar
theorem dX8_faultOf_0 : decode cX8_faultOf 0 = .ok (.aload_n 0, 1) := by decide +kernel
theorem dX8_faultOf_1 : decode cX8_faultOf 1 = .ok (.invokevirtual 90, 3) := by decide +kernel
theorem dX8_faultOf_4 : decode cX8_faultOf 4 = .ok (.istore_n 2, 1) := by decide +kernel
theorem dX8_faultOf_5 : decode cX8_faultOf 5 = .ok (.aload_n 0, 1) := by decide +kernel
theorem dX8_faultOf_6 : decode cX8_faultOf 6 = .ok (.invokevirtual 94, 3) := by decide +kernel
theorem dX8_faultOf_9 : decode cX8_faultOf 9 = .ok (.istore_n 3, 1) := by decide +kernel
theorem dX8_faultOf_10 : decode cX8_faultOf 10 = .ok (.iload_n 1, 1) := by decide +kernel
theorem dX8_faultOf_11 : decode cX8_faultOf 11 = .ok (.ifCond .ne 7, 3) := by decide +kernel
theorem dX8_faultOf_14 : decode cX8_faultOf 14 = .ok (.iload_n 2, 1) := by decide +kernel
theorem dX8_faultOf_15 : decode cX8_faultOf 15 = .ok (.goto 4, 3) := by decide +kernel
theorem dX8_faultOf_18 : decode cX8_faultOf 18 = .ok (.iload_n 3, 1) := by decide +kernel
theorem dX8_faultOf_19 : decode cX8_faultOf 19 = .ok (.ireturn, 1) := by decide +kernel
set_option maxRecDepth 20000 in
theorem ggX8_reads_X8_faultOf : GoodIn wsX8_reads wsX8_faultOf := goodIn_r _ [5, 6, 7, 8, 4, 9, 10, 11, 12, 13, 14, 15, 16, 17, 18, 19, 20, 21, 22, 23, 24, 25, 26, 27, 28, 29, 30, 31, 32, 33, 34, 35, 36, 37, 38, 39, 40, 41, 42, 43, 44, 45, 46, 47, 48, 49, 50] (by decide +kernel) (by decide +kernel)
set_option maxRecDepth 20000 in
theorem gX8_reads_X8_faultOf : GoodIn wsX8_reads (wsV RX8 97 RX8 yX8_faultOf wsX8_faultOf) := goodIn_app (goodIn_of _ (by decide +kernel)) ggX8_reads_X8_faultOf
theorem dX8_reads_0 : decode cX8_reads 0 = .ok (.aload_n 0, 1) := by decide +kernel
theorem dX8_reads_1 : decode cX8_reads 1 = .ok (.iconst 0, 1) := by decide +kernel
theorem dX8_reads_2 : decode cX8_reads 2 = .ok (.invokevirtual 97, 3) := by decide +kernel
theorem dX8_reads_5 : decode cX8_reads 5 = .ok (.istore_n 1, 1) := by decide +kernel
theorem dX8_reads_6 : decode cX8_reads 6 = .ok (.return_, 1) := by decide +kernel
set_option maxRecDepth 20000 in
theorem ggX8_fault_X8_in : GoodIn wsX8_fault wsX8_in := goodIn_r _ [4] (by decide +kernel) (by decide +kernel)
set_option maxRecDepth 20000 in
theorem gX8_fault_X8_in : GoodIn wsX8_fault (va_wsS RX8 70 yX8_in wsX8_in) := goodIn_app (goodIn_of _ (by decide +kernel)) ggX8_fault_X8_in
set_option maxRecDepth 20000 in
theorem ggX8_fault_X8_faultOf : GoodIn wsX8_fault wsX8_faultOf := goodIn_r _ [8, 9, 10, 11, 3, 12, 13, 14, 15, 16, 17, 18, 19, 20, 21, 22, 23, 24, 25, 26, 1, 2, 4, 27, 28, 29, 30, 31, 32, 33, 34, 35, 36, 37, 38, 39, 40, 41, 42, 43, 44, 45, 46, 47, 48, 49, 50] (by decide +kernel) (by decide +kernel)
set_option maxRecDepth 20000 in
theorem gX8_fault_X8_faultOf : GoodIn wsX8_fault (wsV RX8 97 RX8 yX8_faultOf wsX8_faultOf) := goodIn_app (goodIn_of _ (by decide +kernel)) ggX8_fault_X8_faultOf
theorem dX8_fault_0 : decode cX8_fault 0 = .ok (.iload_n 1, 1) := by decide +kernel
theorem dX8_fault_1 : decode cX8_fault 1 = .ok (.iconst 0, 1) := by decide +kernel
theorem dX8_fault_2 : decode cX8_fault 2 = .ok (.iconst 1, 1) := by decide +kernel
theorem dX8_fault_3 : decode cX8_fault 3 = .ok (.invokestatic 70, 3) := by decide +kernel
theorem dX8_fault_6 : decode cX8_fault 6 = .ok (.ifCond .eq 11, 3) := by decide +kernel
theorem dX8_fault_9 : decode cX8_fault 9 = .ok (.aload_n 0, 1) := by decide +kernel
theorem dX8_fault_10 : decode cX8_fault 10 = .ok (.iload_n 1, 1) := by decide +kernel
theorem dX8_fault_11 : decode cX8_fault 11 = .ok (.invokevirtual 97, 3) := by decide +kernel
theorem dX8_fault_14 : decode cX8_fault 14 = .ok (.goto 5, 3) := by decide +kernel
theorem dX8_fault_17 : decode cX8_fault 17 = .ok (.bipush (-2), 2) := by decide +kernel
theorem dX8_fault_19 : decode cX8_fault 19 = .ok (.ireturn, 1) := by decide +kernel
theorem dX8_placeOf_0 : decode cX8_placeOf 0 = .ok (.iload_n 2, 1) := by decide +kernel
theorem dX8_placeOf_1 : decode cX8_placeOf 1 = .ok (.aload_n 0, 1) := by decide +kernel
theorem dX8_placeOf_2 : decode cX8_placeOf 2 = .ok (.getfield 13, 3) := by decide +kernel
theorem dX8_placeOf_5 : decode cX8_placeOf 5 = .ok (.iload_n 1, 1) := by decide +kernel
theorem dX8_placeOf_6 : decode cX8_placeOf 6 = .ok (.iaload, 1) := by decide +kernel
theorem dX8_placeOf_7 : decode cX8_placeOf 7 = .ok (.iadd, 1) := by decide +kernel
theorem dX8_placeOf_8 : decode cX8_placeOf 8 = .ok (.aload_n 0, 1) := by decide +kernel
theorem dX8_placeOf_9 : decode cX8_placeOf 9 = .ok (.getfield 7, 3) := by decide +kernel
theorem dX8_placeOf_12 : decode cX8_placeOf 12 = .ok (.iload_n 1, 1) := by decide +kernel
theorem dX8_placeOf_13 : decode cX8_placeOf 13 = .ok (.iaload, 1) := by decide +kernel
theorem dX8_placeOf_14 : decode cX8_placeOf 14 = .ok (.irem, 1) := by decide +kernel
theorem dX8_placeOf_15 : decode cX8_placeOf 15 = .ok (.ireturn, 1) := by decide +kernel
set_option maxRecDepth 20000 in
theorem ggX8_isUp_X8_placeOf : GoodIn wsX8_isUp wsX8_placeOf := goodIn_r _ [6, 7, 8, 9, 10, 11, 12, 13, 14, 15, 16, 17, 18, 19, 20, 21, 22, 23, 24, 25, 26, 27, 28, 29, 30, 31, 32] (by decide +kernel) (by decide +kernel)
set_option maxRecDepth 20000 in
theorem gX8_isUp_X8_placeOf : GoodIn wsX8_isUp (wsV RX8 100 RX8 yX8_placeOf wsX8_placeOf) := goodIn_app (goodIn_of _ (by decide +kernel)) ggX8_isUp_X8_placeOf
theorem dX8_isUp_0 : decode cX8_isUp 0 = .ok (.aload_n 0, 1) := by decide +kernel
theorem dX8_isUp_1 : decode cX8_isUp 1 = .ok (.iload_n 1, 1) := by decide +kernel
theorem dX8_isUp_2 : decode cX8_isUp 2 = .ok (.iload_n 2, 1) := by decide +kernel
theorem dX8_isUp_3 : decode cX8_isUp 3 = .ok (.invokevirtual 100, 3) := by decide +kernel
theorem dX8_isUp_6 : decode cX8_isUp 6 = .ok (.aload_n 0, 1) := by decide +kernel
theorem dX8_isUp_7 : decode cX8_isUp 7 = .ok (.getfield 16, 3) := by decide +kernel
theorem dX8_isUp_10 : decode cX8_isUp 10 = .ok (.iload_n 1, 1) := by decide +kernel
theorem dX8_isUp_11 : decode cX8_isUp 11 = .ok (.iaload, 1) := by decide +kernel
theorem dX8_isUp_12 : decode cX8_isUp 12 = .ok (.if_icmp .ge 7, 3) := by decide +kernel
theorem dX8_isUp_15 : decode cX8_isUp 15 = .ok (.iconst 1, 1) := by decide +kernel
theorem dX8_isUp_16 : decode cX8_isUp 16 = .ok (.goto 4, 3) := by decide +kernel
theorem dX8_isUp_19 : decode cX8_isUp 19 = .ok (.iconst 0, 1) := by decide +kernel
theorem dX8_isUp_20 : decode cX8_isUp 20 = .ok (.ireturn, 1) := by decide +kernel
set_option maxRecDepth 20000 in
theorem ggX8_lightOf_X8_isUp : GoodIn wsX8_lightOf wsX8_isUp := goodIn_r _ [5, 6, 7, 8, 9, 4, 10, 11, 12, 13, 14, 15, 16, 17, 18, 19, 20, 21, 22, 23, 24, 25, 26, 27, 28, 29, 30, 31, 32, 33, 34, 35, 36] (by decide +kernel) (by decide +kernel)
set_option maxRecDepth 20000 in
theorem gX8_lightOf_X8_isUp : GoodIn wsX8_lightOf (wsV RX8 104 RX8 yX8_isUp wsX8_isUp) := goodIn_app (goodIn_of _ (by decide +kernel)) ggX8_lightOf_X8_isUp
theorem dX8_lightOf_0 : decode cX8_lightOf 0 = .ok (.aload_n 0, 1) := by decide +kernel
theorem dX8_lightOf_1 : decode cX8_lightOf 1 = .ok (.iconst 0, 1) := by decide +kernel
theorem dX8_lightOf_2 : decode cX8_lightOf 2 = .ok (.iload_n 1, 1) := by decide +kernel
theorem dX8_lightOf_3 : decode cX8_lightOf 3 = .ok (.invokevirtual 104, 3) := by decide +kernel
theorem dX8_lightOf_6 : decode cX8_lightOf 6 = .ok (.ifCond .eq 7, 3) := by decide +kernel
theorem dX8_lightOf_9 : decode cX8_lightOf 9 = .ok (.iconst 1, 1) := by decide +kernel
theorem dX8_lightOf_10 : decode cX8_lightOf 10 = .ok (.goto 4, 3) := by decide +kernel
theorem dX8_lightOf_13 : decode cX8_lightOf 13 = .ok (.iconst 0, 1) := by decide +kernel
theorem dX8_lightOf_14 : decode cX8_lightOf 14 = .ok (.aload_n 0, 1) := by decide +kernel
theorem dX8_lightOf_15 : decode cX8_lightOf 15 = .ok (.iconst 1, 1) := by decide +kernel
theorem dX8_lightOf_16 : decode cX8_lightOf 16 = .ok (.iload_n 1, 1) := by decide +kernel
theorem dX8_lightOf_17 : decode cX8_lightOf 17 = .ok (.invokevirtual 104, 3) := by decide +kernel
theorem dX8_lightOf_20 : decode cX8_lightOf 20 = .ok (.ifCond .eq 7, 3) := by decide +kernel
theorem dX8_lightOf_23 : decode cX8_lightOf 23 = .ok (.iconst 2, 1) := by decide +kernel
theorem dX8_lightOf_24 : decode cX8_lightOf 24 = .ok (.goto 4, 3) := by decide +kernel
theorem dX8_lightOf_27 : decode cX8_lightOf 27 = .ok (.iconst 0, 1) := by decide +kernel
theorem dX8_lightOf_28 : decode cX8_lightOf 28 = .ok (.iadd, 1) := by decide +kernel
theorem dX8_lightOf_29 : decode cX8_lightOf 29 = .ok (.ireturn, 1) := by decide +kernel
set_option maxRecDepth 20000 in
theorem ggX8_light_X8_isHour : GoodIn wsX8_light wsX8_isHour := goodIn_r _ [4, 5, 6, 7, 3, 8] (by decide +kernel) (by decide +kernel)
set_option maxRecDepth 20000 in
theorem gX8_light_X8_isHour : GoodIn wsX8_light (va_wsS RX8 108 yX8_isHour wsX8_isHour) := goodIn_app (goodIn_of _ (by decide +kernel)) ggX8_light_X8_isHour
set_option maxRecDepth 20000 in
theorem ggX8_light_X8_lightOf : GoodIn wsX8_light wsX8_lightOf := goodIn_r _ [12, 13, 14, 15, 3, 16, 17, 18, 19, 20, 21, 22, 23, 24, 25, 26, 27, 28, 29, 30, 31, 32, 33, 34, 35, 36, 37, 38, 39, 40, 41, 42, 43, 44, 45, 46, 47] (by decide +kernel) (by decide +kernel)
set_option maxRecDepth 20000 in
theorem gX8_light_X8_lightOf : GoodIn wsX8_light (wsV RX8 111 RX8 yX8_lightOf wsX8_lightOf) := goodIn_app (goodIn_of _ (by decide +kernel)) ggX8_light_X8_lightOf
theorem dX8_light_0 : decode cX8_light 0 = .ok (.iload_n 1, 1) := by decide +kernel
theorem dX8_light_1 : decode cX8_light 1 = .ok (.invokestatic 108, 3) := by decide +kernel
theorem dX8_light_4 : decode cX8_light 4 = .ok (.ifCond .eq 11, 3) := by decide +kernel
theorem dX8_light_7 : decode cX8_light 7 = .ok (.aload_n 0, 1) := by decide +kernel
theorem dX8_light_8 : decode cX8_light 8 = .ok (.iload_n 1, 1) := by decide +kernel
theorem dX8_light_9 : decode cX8_light 9 = .ok (.invokevirtual 111, 3) := by decide +kernel
theorem dX8_light_12 : decode cX8_light 12 = .ok (.goto 5, 3) := by decide +kernel
theorem dX8_light_15 : decode cX8_light 15 = .ok (.bipush (-2), 2) := by decide +kernel
theorem dX8_light_17 : decode cX8_light 17 = .ok (.ireturn, 1) := by decide +kernel
set_option maxRecDepth 20000 in
theorem ggX8_place_X8_isSun : GoodIn wsX8_place wsX8_isSun := goodIn_r _ [4, 5, 6, 3, 7] (by decide +kernel) (by decide +kernel)
set_option maxRecDepth 20000 in
theorem gX8_place_X8_isSun : GoodIn wsX8_place (va_wsS RX8 75 yX8_isSun wsX8_isSun) := goodIn_app (goodIn_of _ (by decide +kernel)) ggX8_place_X8_isSun
set_option maxRecDepth 20000 in
theorem ggX8_place_X8_isHour : GoodIn wsX8_place wsX8_isHour := goodIn_r _ [10, 11, 5, 6, 3, 7] (by decide +kernel) (by decide +kernel)
set_option maxRecDepth 20000 in
theorem gX8_place_X8_isHour : GoodIn wsX8_place (va_wsS RX8 108 yX8_isHour wsX8_isHour) := goodIn_app (goodIn_of _ (by decide +kernel)) ggX8_place_X8_isHour
set_option maxRecDepth 20000 in
theorem ggX8_place_X8_placeOf : GoodIn wsX8_place wsX8_placeOf := goodIn_r _ [15, 16, 17, 18, 19, 20, 21, 22, 23, 24, 25, 26, 27, 28, 29, 30, 31, 32, 33, 34, 35, 36, 37, 38, 39, 40, 41] (by decide +kernel) (by decide +kernel)
set_option maxRecDepth 20000 in
theorem gX8_place_X8_placeOf : GoodIn wsX8_place (wsV RX8 100 RX8 yX8_placeOf wsX8_placeOf) := goodIn_app (goodIn_of _ (by decide +kernel)) ggX8_place_X8_placeOf
theorem dX8_place_0 : decode cX8_place 0 = .ok (.iload_n 1, 1) := by decide +kernel
theorem dX8_place_1 : decode cX8_place 1 = .ok (.invokestatic 75, 3) := by decide +kernel
theorem dX8_place_4 : decode cX8_place 4 = .ok (.ifCond .eq 19, 3) := by decide +kernel
theorem dX8_place_7 : decode cX8_place 7 = .ok (.iload_n 2, 1) := by decide +kernel
theorem dX8_place_8 : decode cX8_place 8 = .ok (.invokestatic 108, 3) := by decide +kernel
theorem dX8_place_11 : decode cX8_place 11 = .ok (.ifCond .eq 12, 3) := by decide +kernel
theorem dX8_place_14 : decode cX8_place 14 = .ok (.aload_n 0, 1) := by decide +kernel
theorem dX8_place_15 : decode cX8_place 15 = .ok (.iload_n 1, 1) := by decide +kernel
theorem dX8_place_16 : decode cX8_place 16 = .ok (.iload_n 2, 1) := by decide +kernel
theorem dX8_place_17 : decode cX8_place 17 = .ok (.invokevirtual 100, 3) := by decide +kernel
theorem dX8_place_20 : decode cX8_place 20 = .ok (.goto 5, 3) := by decide +kernel
theorem dX8_place_23 : decode cX8_place 23 = .ok (.bipush (-2), 2) := by decide +kernel
theorem dX8_place_25 : decode cX8_place 25 = .ok (.ireturn, 1) := by decide +kernel
theorem dX8_roundNow_0 : decode cX8_roundNow 0 = .ok (.aload_n 0, 1) := by decide +kernel
theorem dX8_roundNow_1 : decode cX8_roundNow 1 = .ok (.getfield 7, 3) := by decide +kernel
theorem dX8_roundNow_4 : decode cX8_roundNow 4 = .ok (.iconst 0, 1) := by decide +kernel
theorem dX8_roundNow_5 : decode cX8_roundNow 5 = .ok (.iaload, 1) := by decide +kernel
theorem dX8_roundNow_6 : decode cX8_roundNow 6 = .ok (.istore_n 1, 1) := by decide +kernel
theorem dX8_roundNow_7 : decode cX8_roundNow 7 = .ok (.iload_n 1, 1) := by decide +kernel
theorem dX8_roundNow_8 : decode cX8_roundNow 8 = .ok (.aload_n 0, 1) := by decide +kernel
theorem dX8_roundNow_9 : decode cX8_roundNow 9 = .ok (.getfield 7, 3) := by decide +kernel
theorem dX8_roundNow_12 : decode cX8_roundNow 12 = .ok (.iconst 1, 1) := by decide +kernel
theorem dX8_roundNow_13 : decode cX8_roundNow 13 = .ok (.iaload, 1) := by decide +kernel
theorem dX8_roundNow_14 : decode cX8_roundNow 14 = .ok (.irem, 1) := by decide +kernel
theorem dX8_roundNow_15 : decode cX8_roundNow 15 = .ok (.ifCond .eq 15, 3) := by decide +kernel
theorem dX8_roundNow_18 : decode cX8_roundNow 18 = .ok (.iload_n 1, 1) := by decide +kernel
theorem dX8_roundNow_19 : decode cX8_roundNow 19 = .ok (.aload_n 0, 1) := by decide +kernel
theorem dX8_roundNow_20 : decode cX8_roundNow 20 = .ok (.getfield 7, 3) := by decide +kernel
theorem dX8_roundNow_23 : decode cX8_roundNow 23 = .ok (.iconst 0, 1) := by decide +kernel
theorem dX8_roundNow_24 : decode cX8_roundNow 24 = .ok (.iaload, 1) := by decide +kernel
theorem dX8_roundNow_25 : decode cX8_roundNow 25 = .ok (.iadd, 1) := by decide +kernel
theorem dX8_roundNow_26 : decode cX8_roundNow 26 = .ok (.istore_n 1, 1) := by decide +kernel
theorem dX8_roundNow_27 : decode cX8_roundNow 27 = .ok (.goto (-20), 3) := by decide +kernel
theorem dX8_roundNow_30 : decode cX8_roundNow 30 = .ok (.iload_n 1, 1) := by decide +kernel
theorem dX8_roundNow_31 : decode cX8_roundNow 31 = .ok (.ireturn, 1) := by decide +kernel
set_option maxRecDepth 20000 in
theorem ggX8_round_X8_roundNow : GoodIn wsX8_round wsX8_roundNow := goodIn_r _ [5, 6, 7, 8, 9, 10, 11, 12, 13, 14, 15, 16, 17, 18, 19, 20, 21, 22, 23, 24, 25, 26, 27, 28, 29, 30] (by decide +kernel) (by decide +kernel)
set_option maxRecDepth 20000 in
theorem gX8_round_X8_roundNow : GoodIn wsX8_round (wsV RX8 114 RX8 yX8_roundNow wsX8_roundNow) := goodIn_app (goodIn_of _ (by decide +kernel)) ggX8_round_X8_roundNow
theorem dX8_round_0 : decode cX8_round 0 = .ok (.aload_n 0, 1) := by decide +kernel
theorem dX8_round_1 : decode cX8_round 1 = .ok (.invokevirtual 114, 3) := by decide +kernel
theorem dX8_round_4 : decode cX8_round 4 = .ok (.ireturn, 1) := by decide +kernel
set_option maxRecDepth 20000 in
theorem ggX8_nextOf_X8_roundNow : GoodIn wsX8_nextOf wsX8_roundNow := goodIn_r _ [5, 6, 21, 22, 23, 24, 25, 26, 27, 28, 29, 30, 31, 32, 33, 34, 35, 36, 37, 38, 39, 40, 41, 42, 43, 44] (by decide +kernel) (by decide +kernel)
set_option maxRecDepth 20000 in
theorem gX8_nextOf_X8_roundNow : GoodIn wsX8_nextOf (wsV RX8 114 RX8 yX8_roundNow wsX8_roundNow) := goodIn_app (goodIn_of _ (by decide +kernel)) ggX8_nextOf_X8_roundNow
set_option maxRecDepth 20000 in
theorem ggX8_nextOf_X8_lightOf : GoodIn wsX8_nextOf wsX8_lightOf := goodIn_r _ [10, 11, 12, 13, 4, 14, 15, 16, 17, 18, 19, 20, 6, 21, 22, 23, 24, 25, 26, 27, 28, 29, 30, 31, 32, 33, 34, 35, 36, 37, 38, 39, 40, 41, 42, 43, 44] (by decide +kernel) (by decide +kernel)
set_option maxRecDepth 20000 in
theorem gX8_nextOf_X8_lightOf : GoodIn wsX8_nextOf (wsV RX8 111 RX8 yX8_lightOf wsX8_lightOf) := goodIn_app (goodIn_of _ (by decide +kernel)) ggX8_nextOf_X8_lightOf
theorem dX8_nextOf_0 : decode cX8_nextOf 0 = .ok (.aload_n 0, 1) := by decide +kernel
theorem dX8_nextOf_1 : decode cX8_nextOf 1 = .ok (.invokevirtual 114, 3) := by decide +kernel
theorem dX8_nextOf_4 : decode cX8_nextOf 4 = .ok (.istore_n 3, 1) := by decide +kernel
theorem dX8_nextOf_5 : decode cX8_nextOf 5 = .ok (.iload_n 1, 1) := by decide +kernel
theorem dX8_nextOf_6 : decode cX8_nextOf 6 = .ok (.istore 4, 2) := by decide +kernel
theorem dX8_nextOf_8 : decode cX8_nextOf 8 = .ok (.iload 4, 2) := by decide +kernel
theorem dX8_nextOf_10 : decode cX8_nextOf 10 = .ok (.iload_n 1, 1) := by decide +kernel
theorem dX8_nextOf_11 : decode cX8_nextOf 11 = .ok (.iload_n 3, 1) := by decide +kernel
theorem dX8_nextOf_12 : decode cX8_nextOf 12 = .ok (.iadd, 1) := by decide +kernel
theorem dX8_nextOf_13 : decode cX8_nextOf 13 = .ok (.if_icmp .ge 22, 3) := by decide +kernel
theorem dX8_nextOf_16 : decode cX8_nextOf 16 = .ok (.aload_n 0, 1) := by decide +kernel
theorem dX8_nextOf_17 : decode cX8_nextOf 17 = .ok (.iload 4, 2) := by decide +kernel
theorem dX8_nextOf_19 : decode cX8_nextOf 19 = .ok (.invokevirtual 111, 3) := by decide +kernel
theorem dX8_nextOf_22 : decode cX8_nextOf 22 = .ok (.iload_n 2, 1) := by decide +kernel
theorem dX8_nextOf_23 : decode cX8_nextOf 23 = .ok (.if_icmp .ne 6, 3) := by decide +kernel
theorem dX8_nextOf_26 : decode cX8_nextOf 26 = .ok (.iload 4, 2) := by decide +kernel
theorem dX8_nextOf_28 : decode cX8_nextOf 28 = .ok (.ireturn, 1) := by decide +kernel
theorem dX8_nextOf_29 : decode cX8_nextOf 29 = .ok (.iinc 4 1, 3) := by decide +kernel
theorem dX8_nextOf_32 : decode cX8_nextOf 32 = .ok (.goto (-24), 3) := by decide +kernel
theorem dX8_nextOf_35 : decode cX8_nextOf 35 = .ok (.iconst (-1), 1) := by decide +kernel
theorem dX8_nextOf_36 : decode cX8_nextOf 36 = .ok (.ireturn, 1) := by decide +kernel
set_option maxRecDepth 20000 in
theorem ggX8_next_X8_isHour : GoodIn wsX8_next wsX8_isHour := goodIn_r _ [4, 5, 6, 7, 3, 8] (by decide +kernel) (by decide +kernel)
set_option maxRecDepth 20000 in
theorem gX8_next_X8_isHour : GoodIn wsX8_next (va_wsS RX8 108 yX8_isHour wsX8_isHour) := goodIn_app (goodIn_of _ (by decide +kernel)) ggX8_next_X8_isHour
set_option maxRecDepth 20000 in
theorem ggX8_next_X8_isLight : GoodIn wsX8_next wsX8_isLight := goodIn_r _ [11, 6, 7, 3, 8] (by decide +kernel) (by decide +kernel)
set_option maxRecDepth 20000 in
theorem gX8_next_X8_isLight : GoodIn wsX8_next (va_wsS RX8 117 yX8_isLight wsX8_isLight) := goodIn_app (goodIn_of _ (by decide +kernel)) ggX8_next_X8_isLight
set_option maxRecDepth 20000 in
theorem ggX8_next_X8_nextOf : GoodIn wsX8_next wsX8_nextOf := goodIn_r _ [15, 16, 17, 18, 3, 19, 20, 21, 22, 23, 24, 25, 26, 27, 28, 29, 30, 31, 32, 33, 34, 35, 36, 37, 38, 39, 40, 41, 42, 43, 44, 45, 46, 47, 48, 49, 50, 51, 52, 53, 54, 55, 56, 57, 58] (by decide +kernel) (by decide +kernel)
set_option maxRecDepth 20000 in
theorem gX8_next_X8_nextOf : GoodIn wsX8_next (wsV RX8 120 RX8 yX8_nextOf wsX8_nextOf) := goodIn_app (goodIn_of _ (by decide +kernel)) ggX8_next_X8_nextOf
theorem dX8_next_0 : decode cX8_next 0 = .ok (.iload_n 1, 1) := by decide +kernel
theorem dX8_next_1 : decode cX8_next 1 = .ok (.invokestatic 108, 3) := by decide +kernel
theorem dX8_next_4 : decode cX8_next 4 = .ok (.ifCond .eq 19, 3) := by decide +kernel
theorem dX8_next_7 : decode cX8_next 7 = .ok (.iload_n 2, 1) := by decide +kernel
theorem dX8_next_8 : decode cX8_next 8 = .ok (.invokestatic 117, 3) := by decide +kernel
theorem dX8_next_11 : decode cX8_next 11 = .ok (.ifCond .eq 12, 3) := by decide +kernel
theorem dX8_next_14 : decode cX8_next 14 = .ok (.aload_n 0, 1) := by decide +kernel
theorem dX8_next_15 : decode cX8_next 15 = .ok (.iload_n 1, 1) := by decide +kernel
theorem dX8_next_16 : decode cX8_next 16 = .ok (.iload_n 2, 1) := by decide +kernel
theorem dX8_next_17 : decode cX8_next 17 = .ok (.invokevirtual 120, 3) := by decide +kernel
theorem dX8_next_20 : decode cX8_next 20 = .ok (.goto 5, 3) := by decide +kernel
theorem dX8_next_23 : decode cX8_next 23 = .ok (.bipush (-2), 2) := by decide +kernel
theorem dX8_next_25 : decode cX8_next 25 = .ok (.ireturn, 1) := by decide +kernel
set_option maxRecDepth 20000 in
theorem ggX8_lastsOf_X8_roundNow : GoodIn wsX8_lastsOf wsX8_roundNow := goodIn_r _ [5, 6, 21, 22, 23, 24, 25, 26, 27, 28, 29, 30, 31, 32, 33, 34, 35, 36, 37, 38, 39, 40, 41, 42, 43, 44] (by decide +kernel) (by decide +kernel)
set_option maxRecDepth 20000 in
theorem gX8_lastsOf_X8_roundNow : GoodIn wsX8_lastsOf (wsV RX8 114 RX8 yX8_roundNow wsX8_roundNow) := goodIn_app (goodIn_of _ (by decide +kernel)) ggX8_lastsOf_X8_roundNow
set_option maxRecDepth 20000 in
theorem ggX8_lastsOf_X8_lightOf : GoodIn wsX8_lastsOf wsX8_lightOf := goodIn_r _ [10, 11, 12, 13, 4, 14, 15, 16, 17, 18, 19, 20, 6, 21, 22, 23, 24, 25, 26, 27, 28, 29, 30, 31, 32, 33, 34, 35, 36, 37, 38, 39, 40, 41, 42, 43, 44] (by decide +kernel) (by decide +kernel)
set_option maxRecDepth 20000 in
theorem gX8_lastsOf_X8_lightOf : GoodIn wsX8_lastsOf (wsV RX8 111 RX8 yX8_lightOf wsX8_lightOf) := goodIn_app (goodIn_of _ (by decide +kernel)) ggX8_lastsOf_X8_lightOf
theorem dX8_lastsOf_0 : decode cX8_lastsOf 0 = .ok (.aload_n 0, 1) := by decide +kernel
theorem dX8_lastsOf_1 : decode cX8_lastsOf 1 = .ok (.invokevirtual 114, 3) := by decide +kernel
theorem dX8_lastsOf_4 : decode cX8_lastsOf 4 = .ok (.istore_n 2, 1) := by decide +kernel
theorem dX8_lastsOf_5 : decode cX8_lastsOf 5 = .ok (.iconst 1, 1) := by decide +kernel
theorem dX8_lastsOf_6 : decode cX8_lastsOf 6 = .ok (.istore_n 3, 1) := by decide +kernel
theorem dX8_lastsOf_7 : decode cX8_lastsOf 7 = .ok (.iload_n 3, 1) := by decide +kernel
theorem dX8_lastsOf_8 : decode cX8_lastsOf 8 = .ok (.iload_n 2, 1) := by decide +kernel
theorem dX8_lastsOf_9 : decode cX8_lastsOf 9 = .ok (.if_icmp .ge 24, 3) := by decide +kernel
theorem dX8_lastsOf_12 : decode cX8_lastsOf 12 = .ok (.aload_n 0, 1) := by decide +kernel
theorem dX8_lastsOf_13 : decode cX8_lastsOf 13 = .ok (.iload_n 1, 1) := by decide +kernel
theorem dX8_lastsOf_14 : decode cX8_lastsOf 14 = .ok (.iload_n 3, 1) := by decide +kernel
theorem dX8_lastsOf_15 : decode cX8_lastsOf 15 = .ok (.iadd, 1) := by decide +kernel
theorem dX8_lastsOf_16 : decode cX8_lastsOf 16 = .ok (.invokevirtual 111, 3) := by decide +kernel
theorem dX8_lastsOf_19 : decode cX8_lastsOf 19 = .ok (.aload_n 0, 1) := by decide +kernel
theorem dX8_lastsOf_20 : decode cX8_lastsOf 20 = .ok (.iload_n 1, 1) := by decide +kernel
theorem dX8_lastsOf_21 : decode cX8_lastsOf 21 = .ok (.invokevirtual 111, 3) := by decide +kernel
theorem dX8_lastsOf_24 : decode cX8_lastsOf 24 = .ok (.if_icmp .ne 9, 3) := by decide +kernel
theorem dX8_lastsOf_27 : decode cX8_lastsOf 27 = .ok (.iinc 3 1, 3) := by decide +kernel
theorem dX8_lastsOf_30 : decode cX8_lastsOf 30 = .ok (.goto (-23), 3) := by decide +kernel
theorem dX8_lastsOf_33 : decode cX8_lastsOf 33 = .ok (.iload_n 3, 1) := by decide +kernel
theorem dX8_lastsOf_34 : decode cX8_lastsOf 34 = .ok (.ireturn, 1) := by decide +kernel
set_option maxRecDepth 20000 in
theorem ggX8_lasts_X8_isHour : GoodIn wsX8_lasts wsX8_isHour := goodIn_r _ [4, 5, 6, 7, 3, 8] (by decide +kernel) (by decide +kernel)
set_option maxRecDepth 20000 in
theorem gX8_lasts_X8_isHour : GoodIn wsX8_lasts (va_wsS RX8 108 yX8_isHour wsX8_isHour) := goodIn_app (goodIn_of _ (by decide +kernel)) ggX8_lasts_X8_isHour
set_option maxRecDepth 20000 in
theorem ggX8_lasts_X8_lastsOf : GoodIn wsX8_lasts wsX8_lastsOf := goodIn_r _ [12, 13, 14, 15, 3, 16, 17, 18, 19, 20, 21, 22, 23, 24, 25, 26, 27, 28, 29, 30, 31, 32, 33, 34, 35, 36, 37, 38, 39, 40, 41, 42, 43, 44, 45, 46, 47, 48, 49, 50, 51, 52, 53, 54, 55] (by decide +kernel) (by decide +kernel)
set_option maxRecDepth 20000 in
theorem gX8_lasts_X8_lastsOf : GoodIn wsX8_lasts (wsV RX8 123 RX8 yX8_lastsOf wsX8_lastsOf) := goodIn_app (goodIn_of _ (by decide +kernel)) ggX8_lasts_X8_lastsOf
theorem dX8_lasts_0 : decode cX8_lasts 0 = .ok (.iload_n 1, 1) := by decide +kernel
theorem dX8_lasts_1 : decode cX8_lasts 1 = .ok (.invokestatic 108, 3) := by decide +kernel
theorem dX8_lasts_4 : decode cX8_lasts 4 = .ok (.ifCond .eq 11, 3) := by decide +kernel
theorem dX8_lasts_7 : decode cX8_lasts 7 = .ok (.aload_n 0, 1) := by decide +kernel
theorem dX8_lasts_8 : decode cX8_lasts 8 = .ok (.iload_n 1, 1) := by decide +kernel
theorem dX8_lasts_9 : decode cX8_lasts 9 = .ok (.invokevirtual 123, 3) := by decide +kernel
theorem dX8_lasts_12 : decode cX8_lasts 12 = .ok (.goto 5, 3) := by decide +kernel
theorem dX8_lasts_15 : decode cX8_lasts 15 = .ok (.bipush (-2), 2) := by decide +kernel
theorem dX8_lasts_17 : decode cX8_lasts 17 = .ok (.ireturn, 1) := by decide +kernel
set_option maxRecDepth 20000 in
theorem ggX8_spellsOf_X8_roundNow : GoodIn wsX8_spellsOf wsX8_roundNow := goodIn_r _ [5, 6, 25, 26, 27, 28, 29, 30, 31, 32, 33, 34, 35, 36, 37, 38, 39, 40, 41, 42, 43, 44, 45, 46, 47, 48] (by decide +kernel) (by decide +kernel)
set_option maxRecDepth 20000 in
theorem gX8_spellsOf_X8_roundNow : GoodIn wsX8_spellsOf (wsV RX8 114 RX8 yX8_roundNow wsX8_roundNow) := goodIn_app (goodIn_of _ (by decide +kernel)) ggX8_spellsOf_X8_roundNow
set_option maxRecDepth 20000 in
theorem ggX8_spellsOf_X8_lightOf : GoodIn wsX8_spellsOf wsX8_lightOf := goodIn_r _ [10, 11, 12, 13, 4, 14, 15, 16, 17, 18, 19, 20, 6, 25, 26, 27, 28, 29, 30, 31, 32, 33, 34, 35, 36, 37, 38, 39, 40, 41, 42, 43, 44, 45, 46, 47, 48] (by decide +kernel) (by decide +kernel)
set_option maxRecDepth 20000 in
theorem gX8_spellsOf_X8_lightOf : GoodIn wsX8_spellsOf (wsV RX8 111 RX8 yX8_lightOf wsX8_lightOf) := goodIn_app (goodIn_of _ (by decide +kernel)) ggX8_spellsOf_X8_lightOf
set_option maxRecDepth 20000 in
theorem ggX8_spellsOf_X8_lastsOf : GoodIn wsX8_spellsOf wsX8_lastsOf := goodIn_r _ [24, 1, 2, 3, 4, 5, 6, 7, 8, 9, 10, 11, 12, 13, 14, 15, 16, 17, 18, 19, 20, 25, 26, 27, 28, 29, 30, 31, 32, 33, 34, 35, 36, 37, 38, 39, 40, 41, 42, 43, 44, 45, 46, 47, 48] (by decide +kernel) (by decide +kernel)
set_option maxRecDepth 20000 in
theorem gX8_spellsOf_X8_lastsOf : GoodIn wsX8_spellsOf (wsV RX8 123 RX8 yX8_lastsOf wsX8_lastsOf) := goodIn_app (goodIn_of _ (by decide +kernel)) ggX8_spellsOf_X8_lastsOf
theorem dX8_spellsOf_0 : decode cX8_spellsOf 0 = .ok (.aload_n 0, 1) := by decide +kernel
theorem dX8_spellsOf_1 : decode cX8_spellsOf 1 = .ok (.invokevirtual 114, 3) := by decide +kernel
theorem dX8_spellsOf_4 : decode cX8_spellsOf 4 = .ok (.istore_n 3, 1) := by decide +kernel
theorem dX8_spellsOf_5 : decode cX8_spellsOf 5 = .ok (.iconst 0, 1) := by decide +kernel
theorem dX8_spellsOf_6 : decode cX8_spellsOf 6 = .ok (.istore 4, 2) := by decide +kernel
theorem dX8_spellsOf_8 : decode cX8_spellsOf 8 = .ok (.iconst 0, 1) := by decide +kernel
theorem dX8_spellsOf_9 : decode cX8_spellsOf 9 = .ok (.istore 5, 2) := by decide +kernel
theorem dX8_spellsOf_11 : decode cX8_spellsOf 11 = .ok (.iconst 0, 1) := by decide +kernel
theorem dX8_spellsOf_12 : decode cX8_spellsOf 12 = .ok (.istore 6, 2) := by decide +kernel
theorem dX8_spellsOf_14 : decode cX8_spellsOf 14 = .ok (.iconst 0, 1) := by decide +kernel
theorem dX8_spellsOf_15 : decode cX8_spellsOf 15 = .ok (.istore 7, 2) := by decide +kernel
theorem dX8_spellsOf_17 : decode cX8_spellsOf 17 = .ok (.iload 7, 2) := by decide +kernel
theorem dX8_spellsOf_19 : decode cX8_spellsOf 19 = .ok (.iload_n 3, 1) := by decide +kernel
theorem dX8_spellsOf_20 : decode cX8_spellsOf 20 = .ok (.if_icmp .ge 115, 3) := by decide +kernel
theorem dX8_spellsOf_23 : decode cX8_spellsOf 23 = .ok (.aload_n 0, 1) := by decide +kernel
theorem dX8_spellsOf_24 : decode cX8_spellsOf 24 = .ok (.iload 7, 2) := by decide +kernel
theorem dX8_spellsOf_26 : decode cX8_spellsOf 26 = .ok (.invokevirtual 111, 3) := by decide +kernel
theorem dX8_spellsOf_29 : decode cX8_spellsOf 29 = .ok (.iload_n 1, 1) := by decide +kernel
theorem dX8_spellsOf_30 : decode cX8_spellsOf 30 = .ok (.if_icmp .ne 7, 3) := by decide +kernel
theorem dX8_spellsOf_33 : decode cX8_spellsOf 33 = .ok (.iconst 1, 1) := by decide +kernel
theorem dX8_spellsOf_34 : decode cX8_spellsOf 34 = .ok (.goto 4, 3) := by decide +kernel
theorem dX8_spellsOf_37 : decode cX8_spellsOf 37 = .ok (.iconst 0, 1) := by decide +kernel
theorem dX8_spellsOf_38 : decode cX8_spellsOf 38 = .ok (.istore 8, 2) := by decide +kernel
theorem dX8_spellsOf_40 : decode cX8_spellsOf 40 = .ok (.iload 8, 2) := by decide +kernel
theorem dX8_spellsOf_42 : decode cX8_spellsOf 42 = .ok (.ifCond .eq 21, 3) := by decide +kernel
theorem dX8_spellsOf_45 : decode cX8_spellsOf 45 = .ok (.aload_n 0, 1) := by decide +kernel
theorem dX8_spellsOf_46 : decode cX8_spellsOf 46 = .ok (.iload 7, 2) := by decide +kernel
theorem dX8_spellsOf_48 : decode cX8_spellsOf 48 = .ok (.iload_n 3, 1) := by decide +kernel
theorem dX8_spellsOf_49 : decode cX8_spellsOf 49 = .ok (.iadd, 1) := by decide +kernel
theorem dX8_spellsOf_50 : decode cX8_spellsOf 50 = .ok (.iconst 1, 1) := by decide +kernel
theorem dX8_spellsOf_51 : decode cX8_spellsOf 51 = .ok (.isub, 1) := by decide +kernel
theorem dX8_spellsOf_52 : decode cX8_spellsOf 52 = .ok (.invokevirtual 111, 3) := by decide +kernel
theorem dX8_spellsOf_55 : decode cX8_spellsOf 55 = .ok (.iload_n 1, 1) := by decide +kernel
theorem dX8_spellsOf_56 : decode cX8_spellsOf 56 = .ok (.if_icmp .eq 7, 3) := by decide +kernel
theorem dX8_spellsOf_59 : decode cX8_spellsOf 59 = .ok (.iconst 1, 1) := by decide +kernel
theorem dX8_spellsOf_60 : decode cX8_spellsOf 60 = .ok (.goto 4, 3) := by decide +kernel
theorem dX8_spellsOf_63 : decode cX8_spellsOf 63 = .ok (.iconst 0, 1) := by decide +kernel
theorem dX8_spellsOf_64 : decode cX8_spellsOf 64 = .ok (.istore 9, 2) := by decide +kernel
theorem dX8_spellsOf_66 : decode cX8_spellsOf 66 = .ok (.iload 4, 2) := by decide +kernel
theorem dX8_spellsOf_68 : decode cX8_spellsOf 68 = .ok (.iload 8, 2) := by decide +kernel
theorem dX8_spellsOf_70 : decode cX8_spellsOf 70 = .ok (.ifCond .eq 7, 3) := by decide +kernel
theorem dX8_spellsOf_73 : decode cX8_spellsOf 73 = .ok (.iconst 1, 1) := by decide +kernel
theorem dX8_spellsOf_74 : decode cX8_spellsOf 74 = .ok (.goto 4, 3) := by decide +kernel
theorem dX8_spellsOf_77 : decode cX8_spellsOf 77 = .ok (.iconst 0, 1) := by decide +kernel
theorem dX8_spellsOf_78 : decode cX8_spellsOf 78 = .ok (.iadd, 1) := by decide +kernel
theorem dX8_spellsOf_79 : decode cX8_spellsOf 79 = .ok (.istore 4, 2) := by decide +kernel
theorem dX8_spellsOf_81 : decode cX8_spellsOf 81 = .ok (.iload 5, 2) := by decide +kernel
theorem dX8_spellsOf_83 : decode cX8_spellsOf 83 = .ok (.iload 9, 2) := by decide +kernel
theorem dX8_spellsOf_85 : decode cX8_spellsOf 85 = .ok (.ifCond .eq 7, 3) := by decide +kernel
theorem dX8_spellsOf_88 : decode cX8_spellsOf 88 = .ok (.iconst 1, 1) := by decide +kernel
theorem dX8_spellsOf_89 : decode cX8_spellsOf 89 = .ok (.goto 4, 3) := by decide +kernel
theorem dX8_spellsOf_92 : decode cX8_spellsOf 92 = .ok (.iconst 0, 1) := by decide +kernel
theorem dX8_spellsOf_93 : decode cX8_spellsOf 93 = .ok (.iadd, 1) := by decide +kernel
theorem dX8_spellsOf_94 : decode cX8_spellsOf 94 = .ok (.istore 5, 2) := by decide +kernel
theorem dX8_spellsOf_96 : decode cX8_spellsOf 96 = .ok (.iload 9, 2) := by decide +kernel
theorem dX8_spellsOf_98 : decode cX8_spellsOf 98 = .ok (.ifCond .eq 12, 3) := by decide +kernel
theorem dX8_spellsOf_101 : decode cX8_spellsOf 101 = .ok (.aload_n 0, 1) := by decide +kernel
theorem dX8_spellsOf_102 : decode cX8_spellsOf 102 = .ok (.iload 7, 2) := by decide +kernel
theorem dX8_spellsOf_104 : decode cX8_spellsOf 104 = .ok (.invokevirtual 123, 3) := by decide +kernel
theorem dX8_spellsOf_107 : decode cX8_spellsOf 107 = .ok (.goto 4, 3) := by decide +kernel
theorem dX8_spellsOf_110 : decode cX8_spellsOf 110 = .ok (.iconst 0, 1) := by decide +kernel
theorem dX8_spellsOf_111 : decode cX8_spellsOf 111 = .ok (.istore 10, 2) := by decide +kernel
theorem dX8_spellsOf_113 : decode cX8_spellsOf 113 = .ok (.iload 10, 2) := by decide +kernel
theorem dX8_spellsOf_115 : decode cX8_spellsOf 115 = .ok (.iload 6, 2) := by decide +kernel
theorem dX8_spellsOf_117 : decode cX8_spellsOf 117 = .ok (.if_icmp .le 8, 3) := by decide +kernel
theorem dX8_spellsOf_120 : decode cX8_spellsOf 120 = .ok (.iload 10, 2) := by decide +kernel
theorem dX8_spellsOf_122 : decode cX8_spellsOf 122 = .ok (.goto 5, 3) := by decide +kernel
theorem dX8_spellsOf_125 : decode cX8_spellsOf 125 = .ok (.iload 6, 2) := by decide +kernel
theorem dX8_spellsOf_127 : decode cX8_spellsOf 127 = .ok (.istore 6, 2) := by decide +kernel
theorem dX8_spellsOf_129 : decode cX8_spellsOf 129 = .ok (.iinc 7 1, 3) := by decide +kernel
theorem dX8_spellsOf_132 : decode cX8_spellsOf 132 = .ok (.goto (-115), 3) := by decide +kernel
theorem dX8_spellsOf_135 : decode cX8_spellsOf 135 = .ok (.iload_n 2, 1) := by decide +kernel
theorem dX8_spellsOf_136 : decode cX8_spellsOf 136 = .ok (.ifCond .ne 8, 3) := by decide +kernel
theorem dX8_spellsOf_139 : decode cX8_spellsOf 139 = .ok (.iload 4, 2) := by decide +kernel
theorem dX8_spellsOf_141 : decode cX8_spellsOf 141 = .ok (.goto 34, 3) := by decide +kernel
theorem dX8_spellsOf_144 : decode cX8_spellsOf 144 = .ok (.iload 4, 2) := by decide +kernel
theorem dX8_spellsOf_146 : decode cX8_spellsOf 146 = .ok (.iload_n 3, 1) := by decide +kernel
theorem dX8_spellsOf_147 : decode cX8_spellsOf 147 = .ok (.if_icmp .ne 16, 3) := by decide +kernel
theorem dX8_spellsOf_150 : decode cX8_spellsOf 150 = .ok (.iload_n 2, 1) := by decide +kernel
theorem dX8_spellsOf_151 : decode cX8_spellsOf 151 = .ok (.iconst 1, 1) := by decide +kernel
theorem dX8_spellsOf_152 : decode cX8_spellsOf 152 = .ok (.if_icmp .ne 7, 3) := by decide +kernel
theorem dX8_spellsOf_155 : decode cX8_spellsOf 155 = .ok (.iconst 1, 1) := by decide +kernel
theorem dX8_spellsOf_156 : decode cX8_spellsOf 156 = .ok (.goto 19, 3) := by decide +kernel
theorem dX8_spellsOf_159 : decode cX8_spellsOf 159 = .ok (.iload_n 3, 1) := by decide +kernel
theorem dX8_spellsOf_160 : decode cX8_spellsOf 160 = .ok (.goto 15, 3) := by decide +kernel
theorem dX8_spellsOf_163 : decode cX8_spellsOf 163 = .ok (.iload_n 2, 1) := by decide +kernel
theorem dX8_spellsOf_164 : decode cX8_spellsOf 164 = .ok (.iconst 1, 1) := by decide +kernel
theorem dX8_spellsOf_165 : decode cX8_spellsOf 165 = .ok (.if_icmp .ne 8, 3) := by decide +kernel
theorem dX8_spellsOf_168 : decode cX8_spellsOf 168 = .ok (.iload 5, 2) := by decide +kernel
theorem dX8_spellsOf_170 : decode cX8_spellsOf 170 = .ok (.goto 5, 3) := by decide +kernel
theorem dX8_spellsOf_173 : decode cX8_spellsOf 173 = .ok (.iload 6, 2) := by decide +kernel
theorem dX8_spellsOf_175 : decode cX8_spellsOf 175 = .ok (.ireturn, 1) := by decide +kernel
set_option maxRecDepth 20000 in
theorem ggX8_spells_X8_isLight : GoodIn wsX8_spells wsX8_isLight := goodIn_r _ [4, 5, 6, 3, 7] (by decide +kernel) (by decide +kernel)
set_option maxRecDepth 20000 in
theorem gX8_spells_X8_isLight : GoodIn wsX8_spells (va_wsS RX8 117 yX8_isLight wsX8_isLight) := goodIn_app (goodIn_of _ (by decide +kernel)) ggX8_spells_X8_isLight
set_option maxRecDepth 20000 in
theorem ggX8_spells_X8_in : GoodIn wsX8_spells wsX8_in := goodIn_r _ [7] (by decide +kernel) (by decide +kernel)
set_option maxRecDepth 20000 in
theorem gX8_spells_X8_in : GoodIn wsX8_spells (va_wsS RX8 70 yX8_in wsX8_in) := goodIn_app (goodIn_of _ (by decide +kernel)) ggX8_spells_X8_in
set_option maxRecDepth 20000 in
theorem ggX8_spells_X8_spellsOf : GoodIn wsX8_spells wsX8_spellsOf := goodIn_r _ [11, 12, 13, 14, 3, 15, 16, 17, 18, 19, 20, 21, 22, 23, 24, 25, 26, 27, 28, 29, 30, 31, 32, 33, 34, 35, 36, 37, 38, 39, 40, 41, 42, 43, 44, 45, 46, 47, 48, 49, 50, 51, 52, 53, 54, 55, 56, 57, 58] (by decide +kernel) (by decide +kernel)
set_option maxRecDepth 20000 in
theorem gX8_spells_X8_spellsOf : GoodIn wsX8_spells (wsV RX8 126 RX8 yX8_spellsOf wsX8_spellsOf) := goodIn_app (goodIn_of _ (by decide +kernel)) ggX8_spells_X8_spellsOf
theorem dX8_spells_0 : decode cX8_spells 0 = .ok (.iload_n 1, 1) := by decide +kernel
theorem dX8_spells_1 : decode cX8_spells 1 = .ok (.invokestatic 117, 3) := by decide +kernel
theorem dX8_spells_4 : decode cX8_spells 4 = .ok (.ifCond .eq 21, 3) := by decide +kernel
theorem dX8_spells_7 : decode cX8_spells 7 = .ok (.iload_n 2, 1) := by decide +kernel
theorem dX8_spells_8 : decode cX8_spells 8 = .ok (.iconst 0, 1) := by decide +kernel
theorem dX8_spells_9 : decode cX8_spells 9 = .ok (.iconst 2, 1) := by decide +kernel
theorem dX8_spells_10 : decode cX8_spells 10 = .ok (.invokestatic 70, 3) := by decide +kernel
theorem dX8_spells_13 : decode cX8_spells 13 = .ok (.ifCond .eq 12, 3) := by decide +kernel
theorem dX8_spells_16 : decode cX8_spells 16 = .ok (.aload_n 0, 1) := by decide +kernel
theorem dX8_spells_17 : decode cX8_spells 17 = .ok (.iload_n 1, 1) := by decide +kernel
theorem dX8_spells_18 : decode cX8_spells 18 = .ok (.iload_n 2, 1) := by decide +kernel
theorem dX8_spells_19 : decode cX8_spells 19 = .ok (.invokevirtual 126, 3) := by decide +kernel
theorem dX8_spells_22 : decode cX8_spells 22 = .ok (.goto 5, 3) := by decide +kernel
theorem dX8_spells_25 : decode cX8_spells 25 = .ok (.bipush (-2), 2) := by decide +kernel
theorem dX8_spells_27 : decode cX8_spells 27 = .ok (.ireturn, 1) := by decide +kernel
set_option maxRecDepth 20000 in
theorem ggX8_withoutOf_X8_roundNow : GoodIn wsX8_withoutOf wsX8_roundNow := goodIn_r _ [7, 2, 8, 9, 10, 11, 12, 13, 14, 15, 16, 17, 18, 19, 20, 21, 22, 23, 24, 25, 26, 27, 28, 29, 30, 31] (by decide +kernel) (by decide +kernel)
set_option maxRecDepth 20000 in
theorem gX8_withoutOf_X8_roundNow : GoodIn wsX8_withoutOf (wsV RX8 114 RX8 yX8_roundNow wsX8_roundNow) := goodIn_app (goodIn_of _ (by decide +kernel)) ggX8_withoutOf_X8_roundNow
theorem dX8_withoutOf_0 : decode cX8_withoutOf 0 = .ok (.aload_n 0, 1) := by decide +kernel
theorem dX8_withoutOf_1 : decode cX8_withoutOf 1 = .ok (.getfield 16, 3) := by decide +kernel
theorem dX8_withoutOf_4 : decode cX8_withoutOf 4 = .ok (.iload_n 1, 1) := by decide +kernel
theorem dX8_withoutOf_5 : decode cX8_withoutOf 5 = .ok (.iaload, 1) := by decide +kernel
theorem dX8_withoutOf_6 : decode cX8_withoutOf 6 = .ok (.ifCond .ne 10, 3) := by decide +kernel
theorem dX8_withoutOf_9 : decode cX8_withoutOf 9 = .ok (.aload_n 0, 1) := by decide +kernel
theorem dX8_withoutOf_10 : decode cX8_withoutOf 10 = .ok (.invokevirtual 114, 3) := by decide +kernel
theorem dX8_withoutOf_13 : decode cX8_withoutOf 13 = .ok (.goto 16, 3) := by decide +kernel
theorem dX8_withoutOf_16 : decode cX8_withoutOf 16 = .ok (.aload_n 0, 1) := by decide +kernel
theorem dX8_withoutOf_17 : decode cX8_withoutOf 17 = .ok (.getfield 7, 3) := by decide +kernel
theorem dX8_withoutOf_20 : decode cX8_withoutOf 20 = .ok (.iload_n 1, 1) := by decide +kernel
theorem dX8_withoutOf_21 : decode cX8_withoutOf 21 = .ok (.iaload, 1) := by decide +kernel
theorem dX8_withoutOf_22 : decode cX8_withoutOf 22 = .ok (.aload_n 0, 1) := by decide +kernel
theorem dX8_withoutOf_23 : decode cX8_withoutOf 23 = .ok (.getfield 16, 3) := by decide +kernel
theorem dX8_withoutOf_26 : decode cX8_withoutOf 26 = .ok (.iload_n 1, 1) := by decide +kernel
theorem dX8_withoutOf_27 : decode cX8_withoutOf 27 = .ok (.iaload, 1) := by decide +kernel
theorem dX8_withoutOf_28 : decode cX8_withoutOf 28 = .ok (.isub, 1) := by decide +kernel
theorem dX8_withoutOf_29 : decode cX8_withoutOf 29 = .ok (.ireturn, 1) := by decide +kernel
set_option maxRecDepth 20000 in
theorem ggX8_without_X8_isSun : GoodIn wsX8_without wsX8_isSun := goodIn_r _ [4, 5, 6, 3, 7] (by decide +kernel) (by decide +kernel)
set_option maxRecDepth 20000 in
theorem gX8_without_X8_isSun : GoodIn wsX8_without (va_wsS RX8 75 yX8_isSun wsX8_isSun) := goodIn_app (goodIn_of _ (by decide +kernel)) ggX8_without_X8_isSun
set_option maxRecDepth 20000 in
theorem ggX8_without_X8_withoutOf : GoodIn wsX8_without wsX8_withoutOf := goodIn_r _ [11, 12, 13, 14, 15, 16, 3, 17, 18, 19, 20, 21, 22, 23, 24, 25, 26, 27, 28, 29, 30, 31, 32, 33, 34, 35, 36, 37, 38, 39, 40, 41] (by decide +kernel) (by decide +kernel)
set_option maxRecDepth 20000 in
theorem gX8_without_X8_withoutOf : GoodIn wsX8_without (wsV RX8 129 RX8 yX8_withoutOf wsX8_withoutOf) := goodIn_app (goodIn_of _ (by decide +kernel)) ggX8_without_X8_withoutOf
theorem dX8_without_0 : decode cX8_without 0 = .ok (.iload_n 1, 1) := by decide +kernel
theorem dX8_without_1 : decode cX8_without 1 = .ok (.invokestatic 75, 3) := by decide +kernel
theorem dX8_without_4 : decode cX8_without 4 = .ok (.ifCond .eq 11, 3) := by decide +kernel
theorem dX8_without_7 : decode cX8_without 7 = .ok (.aload_n 0, 1) := by decide +kernel
theorem dX8_without_8 : decode cX8_without 8 = .ok (.iload_n 1, 1) := by decide +kernel
theorem dX8_without_9 : decode cX8_without 9 = .ok (.invokevirtual 129, 3) := by decide +kernel
theorem dX8_without_12 : decode cX8_without 12 = .ok (.goto 5, 3) := by decide +kernel
theorem dX8_without_15 : decode cX8_without 15 = .ok (.bipush (-2), 2) := by decide +kernel
theorem dX8_without_17 : decode cX8_without 17 = .ok (.ireturn, 1) := by decide +kernel
set_option maxRecDepth 20000 in
theorem ggX8_monthOf_X8_reads : GoodIn wsX8_monthOf wsX8_reads := goodIn_r _ [7, 8, 9, 10, 6, 11, 12, 13, 14, 15, 16, 17, 18, 19, 20, 21, 22, 23, 1, 2, 24, 25, 26, 27, 28, 29, 30, 31, 32, 33, 34, 35, 36, 37, 38, 39, 40, 41, 42, 43, 44, 45, 46, 47, 48, 49, 50, 51, 52, 53, 54] (by decide +kernel) (by decide +kernel)
set_option maxRecDepth 20000 in
theorem gX8_monthOf_X8_reads : GoodIn wsX8_monthOf (wsV RX8 132 RX8 yX8_reads wsX8_reads) := goodIn_app (goodIn_of _ (by decide +kernel)) ggX8_monthOf_X8_reads
set_option maxRecDepth 20000 in
theorem ggX8_monthOf_X8_in : GoodIn wsX8_monthOf wsX8_in := goodIn_r _ [30] (by decide +kernel) (by decide +kernel)
set_option maxRecDepth 20000 in
theorem gX8_monthOf_X8_in : GoodIn wsX8_monthOf (va_wsS RX8 70 yX8_in wsX8_in) := goodIn_app (goodIn_of _ (by decide +kernel)) ggX8_monthOf_X8_in
theorem dX8_monthOf_0 : decode cX8_monthOf 0 = .ok (.aload_n 0, 1) := by decide +kernel
theorem dX8_monthOf_1 : decode cX8_monthOf 1 = .ok (.invokevirtual 132, 3) := by decide +kernel
theorem dX8_monthOf_4 : decode cX8_monthOf 4 = .ok (.iload_n 1, 1) := by decide +kernel
theorem dX8_monthOf_5 : decode cX8_monthOf 5 = .ok (.iconst 0, 1) := by decide +kernel
theorem dX8_monthOf_6 : decode cX8_monthOf 6 = .ok (.aload_n 0, 1) := by decide +kernel
theorem dX8_monthOf_7 : decode cX8_monthOf 7 = .ok (.getfield 83, 3) := by decide +kernel
theorem dX8_monthOf_10 : decode cX8_monthOf 10 = .ok (.iconst 1, 1) := by decide +kernel
theorem dX8_monthOf_11 : decode cX8_monthOf 11 = .ok (.isub, 1) := by decide +kernel
theorem dX8_monthOf_12 : decode cX8_monthOf 12 = .ok (.invokestatic 70, 3) := by decide +kernel
theorem dX8_monthOf_15 : decode cX8_monthOf 15 = .ok (.ifCond .eq 12, 3) := by decide +kernel
theorem dX8_monthOf_18 : decode cX8_monthOf 18 = .ok (.aload_n 0, 1) := by decide +kernel
theorem dX8_monthOf_19 : decode cX8_monthOf 19 = .ok (.getfield 28, 3) := by decide +kernel
theorem dX8_monthOf_22 : decode cX8_monthOf 22 = .ok (.iload_n 1, 1) := by decide +kernel
theorem dX8_monthOf_23 : decode cX8_monthOf 23 = .ok (.iaload, 1) := by decide +kernel
theorem dX8_monthOf_24 : decode cX8_monthOf 24 = .ok (.goto 5, 3) := by decide +kernel
theorem dX8_monthOf_27 : decode cX8_monthOf 27 = .ok (.bipush (-2), 2) := by decide +kernel
theorem dX8_monthOf_29 : decode cX8_monthOf 29 = .ok (.ireturn, 1) := by decide +kernel
set_option maxRecDepth 20000 in
theorem ggX8_month_X8_monthOf : GoodIn wsX8_month wsX8_monthOf := goodIn_r _ [5, 6, 7, 8, 9, 10, 4, 11, 12, 13, 14, 15, 16, 17, 18, 19, 20, 21, 22, 23, 24, 25, 26, 27, 28, 29, 30, 31, 32, 33, 34, 35, 36, 37, 38, 39, 40, 41, 42, 43, 44, 45, 46, 47, 48, 49, 50, 51, 52, 53, 54, 55, 56, 57, 58] (by decide +kernel) (by decide +kernel)
set_option maxRecDepth 20000 in
theorem gX8_month_X8_monthOf : GoodIn wsX8_month (wsV RX8 135 RX8 yX8_monthOf wsX8_monthOf) := goodIn_app (goodIn_of _ (by decide +kernel)) ggX8_month_X8_monthOf
theorem dX8_month_0 : decode cX8_month 0 = .ok (.aload_n 0, 1) := by decide +kernel
theorem dX8_month_1 : decode cX8_month 1 = .ok (.iload_n 1, 1) := by decide +kernel
theorem dX8_month_2 : decode cX8_month 2 = .ok (.invokevirtual 135, 3) := by decide +kernel
theorem dX8_month_5 : decode cX8_month 5 = .ok (.ireturn, 1) := by decide +kernel
set_option maxRecDepth 20000 in
theorem ggX8_awayOf_X8_placeOf : GoodIn wsX8_awayOf wsX8_placeOf := goodIn_r _ [6, 7, 1, 8, 9, 10, 11, 12, 13, 14, 15, 16, 17, 18, 19, 20, 21, 22, 23, 24, 25, 26, 27, 28, 29, 30, 31] (by decide +kernel) (by decide +kernel)
set_option maxRecDepth 20000 in
theorem gX8_awayOf_X8_placeOf : GoodIn wsX8_awayOf (wsV RX8 100 RX8 yX8_placeOf wsX8_placeOf) := goodIn_app (goodIn_of _ (by decide +kernel)) ggX8_awayOf_X8_placeOf
theorem dX8_awayOf_0 : decode cX8_awayOf 0 = .ok (.aload_n 0, 1) := by decide +kernel
theorem dX8_awayOf_1 : decode cX8_awayOf 1 = .ok (.iload_n 1, 1) := by decide +kernel
theorem dX8_awayOf_2 : decode cX8_awayOf 2 = .ok (.iload_n 2, 1) := by decide +kernel
theorem dX8_awayOf_3 : decode cX8_awayOf 3 = .ok (.invokevirtual 100, 3) := by decide +kernel
theorem dX8_awayOf_6 : decode cX8_awayOf 6 = .ok (.istore_n 3, 1) := by decide +kernel
theorem dX8_awayOf_7 : decode cX8_awayOf 7 = .ok (.iload_n 3, 1) := by decide +kernel
theorem dX8_awayOf_8 : decode cX8_awayOf 8 = .ok (.aload_n 0, 1) := by decide +kernel
theorem dX8_awayOf_9 : decode cX8_awayOf 9 = .ok (.getfield 7, 3) := by decide +kernel
theorem dX8_awayOf_12 : decode cX8_awayOf 12 = .ok (.iload_n 1, 1) := by decide +kernel
theorem dX8_awayOf_13 : decode cX8_awayOf 13 = .ok (.iaload, 1) := by decide +kernel
theorem dX8_awayOf_14 : decode cX8_awayOf 14 = .ok (.iload_n 3, 1) := by decide +kernel
theorem dX8_awayOf_15 : decode cX8_awayOf 15 = .ok (.isub, 1) := by decide +kernel
theorem dX8_awayOf_16 : decode cX8_awayOf 16 = .ok (.if_icmp .ge 7, 3) := by decide +kernel
theorem dX8_awayOf_19 : decode cX8_awayOf 19 = .ok (.iload_n 3, 1) := by decide +kernel
theorem dX8_awayOf_20 : decode cX8_awayOf 20 = .ok (.goto 11, 3) := by decide +kernel
theorem dX8_awayOf_23 : decode cX8_awayOf 23 = .ok (.aload_n 0, 1) := by decide +kernel
theorem dX8_awayOf_24 : decode cX8_awayOf 24 = .ok (.getfield 7, 3) := by decide +kernel
theorem dX8_awayOf_27 : decode cX8_awayOf 27 = .ok (.iload_n 1, 1) := by decide +kernel
theorem dX8_awayOf_28 : decode cX8_awayOf 28 = .ok (.iaload, 1) := by decide +kernel
theorem dX8_awayOf_29 : decode cX8_awayOf 29 = .ok (.iload_n 3, 1) := by decide +kernel
theorem dX8_awayOf_30 : decode cX8_awayOf 30 = .ok (.isub, 1) := by decide +kernel
theorem dX8_awayOf_31 : decode cX8_awayOf 31 = .ok (.ireturn, 1) := by decide +kernel
set_option maxRecDepth 20000 in
theorem ggX8_driftOf_X8_reads : GoodIn wsX8_driftOf wsX8_reads := goodIn_r _ [8, 9, 10, 11, 7, 12, 13, 14, 15, 16, 17, 18, 19, 20, 21, 22, 23, 24, 1, 3, 25, 26, 27, 28, 29, 30, 31, 42, 43, 44, 45, 46, 47, 48, 49, 50, 51, 52, 53, 54, 55, 56, 57, 58, 59, 60, 61, 62, 63, 64, 65] (by decide +kernel) (by decide +kernel)
set_option maxRecDepth 20000 in
theorem gX8_driftOf_X8_reads : GoodIn wsX8_driftOf (wsV RX8 132 RX8 yX8_reads wsX8_reads) := goodIn_app (goodIn_of _ (by decide +kernel)) ggX8_driftOf_X8_reads
set_option maxRecDepth 20000 in
theorem ggX8_driftOf_X8_awayOf : GoodIn wsX8_driftOf wsX8_awayOf := goodIn_r _ [35, 36, 37, 38, 39, 7, 40, 41, 42, 43, 44, 45, 46, 47, 48, 49, 50, 51, 52, 53, 54, 55, 56, 57, 58, 59, 60, 61, 62, 63, 64, 65] (by decide +kernel) (by decide +kernel)
set_option maxRecDepth 20000 in
theorem gX8_driftOf_X8_awayOf : GoodIn wsX8_driftOf (wsV RX8 138 RX8 yX8_awayOf wsX8_awayOf) := goodIn_app (goodIn_of _ (by decide +kernel)) ggX8_driftOf_X8_awayOf
theorem dX8_driftOf_0 : decode cX8_driftOf 0 = .ok (.aload_n 0, 1) := by decide +kernel
