theorem dX8_driftOf_1 : decode cX8_driftOf 1 = .ok (.invokevirtual 132, 3) := by decide +kernel
theorem dX8_driftOf_4 : decode cX8_driftOf 4 = .ok (.aload_n 0, 1) := by decide +kernel
theorem dX8_driftOf_5 : decode cX8_driftOf 5 = .ok (.getfield 83, 3) := by decide +kernel
theorem dX8_driftOf_8 : decode cX8_driftOf 8 = .ok (.ifCond .eq 12, 3) := by decide +kernel
theorem dX8_driftOf_11 : decode cX8_driftOf 11 = .ok (.aload_n 0, 1) := by decide +kernel
theorem dX8_driftOf_12 : decode cX8_driftOf 12 = .ok (.getfield 16, 3) := by decide +kernel
theorem dX8_driftOf_15 : decode cX8_driftOf 15 = .ok (.iload_n 1, 1) := by decide +kernel
theorem dX8_driftOf_16 : decode cX8_driftOf 16 = .ok (.iaload, 1) := by decide +kernel
theorem dX8_driftOf_17 : decode cX8_driftOf 17 = .ok (.ifCond .ne 6, 3) := by decide +kernel
theorem dX8_driftOf_20 : decode cX8_driftOf 20 = .ok (.bipush (-3), 2) := by decide +kernel
theorem dX8_driftOf_22 : decode cX8_driftOf 22 = .ok (.ireturn, 1) := by decide +kernel
theorem dX8_driftOf_23 : decode cX8_driftOf 23 = .ok (.iconst 0, 1) := by decide +kernel
theorem dX8_driftOf_24 : decode cX8_driftOf 24 = .ok (.istore_n 3, 1) := by decide +kernel
theorem dX8_driftOf_25 : decode cX8_driftOf 25 = .ok (.iconst 0, 1) := by decide +kernel
theorem dX8_driftOf_26 : decode cX8_driftOf 26 = .ok (.istore 4, 2) := by decide +kernel
theorem dX8_driftOf_28 : decode cX8_driftOf 28 = .ok (.iconst 0, 1) := by decide +kernel
theorem dX8_driftOf_29 : decode cX8_driftOf 29 = .ok (.istore 5, 2) := by decide +kernel
theorem dX8_driftOf_31 : decode cX8_driftOf 31 = .ok (.iload 5, 2) := by decide +kernel
theorem dX8_driftOf_33 : decode cX8_driftOf 33 = .ok (.iload_n 2, 1) := by decide +kernel
theorem dX8_driftOf_34 : decode cX8_driftOf 34 = .ok (.if_icmp .ge 48, 3) := by decide +kernel
theorem dX8_driftOf_37 : decode cX8_driftOf 37 = .ok (.aload_n 0, 1) := by decide +kernel
theorem dX8_driftOf_38 : decode cX8_driftOf 38 = .ok (.iload_n 1, 1) := by decide +kernel
theorem dX8_driftOf_39 : decode cX8_driftOf 39 = .ok (.iload 4, 2) := by decide +kernel
theorem dX8_driftOf_41 : decode cX8_driftOf 41 = .ok (.invokevirtual 138, 3) := by decide +kernel
theorem dX8_driftOf_44 : decode cX8_driftOf 44 = .ok (.istore 6, 2) := by decide +kernel
theorem dX8_driftOf_46 : decode cX8_driftOf 46 = .ok (.iload 6, 2) := by decide +kernel
theorem dX8_driftOf_48 : decode cX8_driftOf 48 = .ok (.iload_n 3, 1) := by decide +kernel
theorem dX8_driftOf_49 : decode cX8_driftOf 49 = .ok (.if_icmp .le 8, 3) := by decide +kernel
theorem dX8_driftOf_52 : decode cX8_driftOf 52 = .ok (.iload 6, 2) := by decide +kernel
theorem dX8_driftOf_54 : decode cX8_driftOf 54 = .ok (.goto 4, 3) := by decide +kernel
theorem dX8_driftOf_57 : decode cX8_driftOf 57 = .ok (.iload_n 3, 1) := by decide +kernel
theorem dX8_driftOf_58 : decode cX8_driftOf 58 = .ok (.istore_n 3, 1) := by decide +kernel
theorem dX8_driftOf_59 : decode cX8_driftOf 59 = .ok (.iload 4, 2) := by decide +kernel
theorem dX8_driftOf_61 : decode cX8_driftOf 61 = .ok (.aload_n 0, 1) := by decide +kernel
theorem dX8_driftOf_62 : decode cX8_driftOf 62 = .ok (.getfield 28, 3) := by decide +kernel
theorem dX8_driftOf_65 : decode cX8_driftOf 65 = .ok (.iload 5, 2) := by decide +kernel
theorem dX8_driftOf_67 : decode cX8_driftOf 67 = .ok (.aload_n 0, 1) := by decide +kernel
theorem dX8_driftOf_68 : decode cX8_driftOf 68 = .ok (.getfield 83, 3) := by decide +kernel
theorem dX8_driftOf_71 : decode cX8_driftOf 71 = .ok (.irem, 1) := by decide +kernel
theorem dX8_driftOf_72 : decode cX8_driftOf 72 = .ok (.iaload, 1) := by decide +kernel
theorem dX8_driftOf_73 : decode cX8_driftOf 73 = .ok (.iadd, 1) := by decide +kernel
theorem dX8_driftOf_74 : decode cX8_driftOf 74 = .ok (.istore 4, 2) := by decide +kernel
theorem dX8_driftOf_76 : decode cX8_driftOf 76 = .ok (.iinc 5 1, 3) := by decide +kernel
theorem dX8_driftOf_79 : decode cX8_driftOf 79 = .ok (.goto (-48), 3) := by decide +kernel
theorem dX8_driftOf_82 : decode cX8_driftOf 82 = .ok (.iload_n 3, 1) := by decide +kernel
theorem dX8_driftOf_83 : decode cX8_driftOf 83 = .ok (.ireturn, 1) := by decide +kernel
set_option maxRecDepth 20000 in
theorem ggX8_drift_X8_isSun : GoodIn wsX8_drift wsX8_isSun := goodIn_r _ [4, 5, 6, 3, 7] (by decide +kernel) (by decide +kernel)
set_option maxRecDepth 20000 in
theorem gX8_drift_X8_isSun : GoodIn wsX8_drift (va_wsS RX8 75 yX8_isSun wsX8_isSun) := goodIn_app (goodIn_of _ (by decide +kernel)) ggX8_drift_X8_isSun
set_option maxRecDepth 20000 in
theorem ggX8_drift_X8_in : GoodIn wsX8_drift wsX8_in := goodIn_r _ [7] (by decide +kernel) (by decide +kernel)
set_option maxRecDepth 20000 in
theorem gX8_drift_X8_in : GoodIn wsX8_drift (va_wsS RX8 70 yX8_in wsX8_in) := goodIn_app (goodIn_of _ (by decide +kernel)) ggX8_drift_X8_in
set_option maxRecDepth 20000 in
theorem ggX8_drift_X8_driftOf : GoodIn wsX8_drift wsX8_driftOf := goodIn_r _ [11, 12, 13, 14, 15, 16, 17, 3, 18, 19, 20, 21, 22, 23, 24, 25, 26, 27, 28, 29, 30, 31, 32, 33, 34, 35, 36, 37, 38, 5, 6, 7, 39, 40, 41, 42, 43, 44, 45, 46, 47, 48, 49, 50, 51, 52, 53, 54, 55, 56, 57, 58, 59, 60, 61, 62, 63, 64, 65, 66, 67, 68, 69, 70, 71, 72] (by decide +kernel) (by decide +kernel)
set_option maxRecDepth 20000 in
theorem gX8_drift_X8_driftOf : GoodIn wsX8_drift (wsV RX8 141 RX8 yX8_driftOf wsX8_driftOf) := goodIn_app (goodIn_of _ (by decide +kernel)) ggX8_drift_X8_driftOf
theorem dX8_drift_0 : decode cX8_drift 0 = .ok (.iload_n 1, 1) := by decide +kernel
theorem dX8_drift_1 : decode cX8_drift 1 = .ok (.invokestatic 75, 3) := by decide +kernel
theorem dX8_drift_4 : decode cX8_drift 4 = .ok (.ifCond .eq 22, 3) := by decide +kernel
theorem dX8_drift_7 : decode cX8_drift 7 = .ok (.iload_n 2, 1) := by decide +kernel
theorem dX8_drift_8 : decode cX8_drift 8 = .ok (.iconst 1, 1) := by decide +kernel
theorem dX8_drift_9 : decode cX8_drift 9 = .ok (.bipush 60, 2) := by decide +kernel
theorem dX8_drift_11 : decode cX8_drift 11 = .ok (.invokestatic 70, 3) := by decide +kernel
theorem dX8_drift_14 : decode cX8_drift 14 = .ok (.ifCond .eq 12, 3) := by decide +kernel
theorem dX8_drift_17 : decode cX8_drift 17 = .ok (.aload_n 0, 1) := by decide +kernel
theorem dX8_drift_18 : decode cX8_drift 18 = .ok (.iload_n 1, 1) := by decide +kernel
theorem dX8_drift_19 : decode cX8_drift 19 = .ok (.iload_n 2, 1) := by decide +kernel
theorem dX8_drift_20 : decode cX8_drift 20 = .ok (.invokevirtual 141, 3) := by decide +kernel
theorem dX8_drift_23 : decode cX8_drift 23 = .ok (.goto 5, 3) := by decide +kernel
theorem dX8_drift_26 : decode cX8_drift 26 = .ok (.bipush (-2), 2) := by decide +kernel
theorem dX8_drift_28 : decode cX8_drift 28 = .ok (.ireturn, 1) := by decide +kernel
set_option maxRecDepth 20000 in
theorem ggX8_driftBy_X8_awayOf : GoodIn wsX8_driftBy wsX8_awayOf := goodIn_r _ [5, 6, 7, 8, 9, 4, 10, 11, 12, 13, 14, 15, 16, 17, 18, 19, 20, 21, 22, 23, 24, 25, 26, 27, 28, 29, 30, 31, 32, 33, 34, 35] (by decide +kernel) (by decide +kernel)
set_option maxRecDepth 20000 in
theorem gX8_driftBy_X8_awayOf : GoodIn wsX8_driftBy (wsV RX8 138 RX8 yX8_awayOf wsX8_awayOf) := goodIn_app (goodIn_of _ (by decide +kernel)) ggX8_driftBy_X8_awayOf
theorem dX8_driftBy_0 : decode cX8_driftBy 0 = .ok (.iconst 0, 1) := by decide +kernel
theorem dX8_driftBy_1 : decode cX8_driftBy 1 = .ok (.istore 4, 2) := by decide +kernel
theorem dX8_driftBy_3 : decode cX8_driftBy 3 = .ok (.iconst 0, 1) := by decide +kernel
theorem dX8_driftBy_4 : decode cX8_driftBy 4 = .ok (.istore 5, 2) := by decide +kernel
theorem dX8_driftBy_6 : decode cX8_driftBy 6 = .ok (.iconst 0, 1) := by decide +kernel
theorem dX8_driftBy_7 : decode cX8_driftBy 7 = .ok (.istore 6, 2) := by decide +kernel
theorem dX8_driftBy_9 : decode cX8_driftBy 9 = .ok (.iload 6, 2) := by decide +kernel
theorem dX8_driftBy_11 : decode cX8_driftBy 11 = .ok (.bipush 24, 2) := by decide +kernel
theorem dX8_driftBy_13 : decode cX8_driftBy 13 = .ok (.if_icmp .ge 51, 3) := by decide +kernel
theorem dX8_driftBy_16 : decode cX8_driftBy 16 = .ok (.aload_n 0, 1) := by decide +kernel
theorem dX8_driftBy_17 : decode cX8_driftBy 17 = .ok (.iload_n 1, 1) := by decide +kernel
theorem dX8_driftBy_18 : decode cX8_driftBy 18 = .ok (.iload 5, 2) := by decide +kernel
theorem dX8_driftBy_20 : decode cX8_driftBy 20 = .ok (.invokevirtual 138, 3) := by decide +kernel
theorem dX8_driftBy_23 : decode cX8_driftBy 23 = .ok (.istore 7, 2) := by decide +kernel
theorem dX8_driftBy_25 : decode cX8_driftBy 25 = .ok (.iload 7, 2) := by decide +kernel
theorem dX8_driftBy_27 : decode cX8_driftBy 27 = .ok (.iload 4, 2) := by decide +kernel
theorem dX8_driftBy_29 : decode cX8_driftBy 29 = .ok (.if_icmp .le 8, 3) := by decide +kernel
theorem dX8_driftBy_32 : decode cX8_driftBy 32 = .ok (.iload 7, 2) := by decide +kernel
theorem dX8_driftBy_34 : decode cX8_driftBy 34 = .ok (.goto 5, 3) := by decide +kernel
theorem dX8_driftBy_37 : decode cX8_driftBy 37 = .ok (.iload 4, 2) := by decide +kernel
theorem dX8_driftBy_39 : decode cX8_driftBy 39 = .ok (.istore 4, 2) := by decide +kernel
theorem dX8_driftBy_41 : decode cX8_driftBy 41 = .ok (.iload 5, 2) := by decide +kernel
theorem dX8_driftBy_43 : decode cX8_driftBy 43 = .ok (.iload 6, 2) := by decide +kernel
theorem dX8_driftBy_45 : decode cX8_driftBy 45 = .ok (.iconst 2, 1) := by decide +kernel
theorem dX8_driftBy_46 : decode cX8_driftBy 46 = .ok (.irem, 1) := by decide +kernel
theorem dX8_driftBy_47 : decode cX8_driftBy 47 = .ok (.ifCond .ne 7, 3) := by decide +kernel
theorem dX8_driftBy_50 : decode cX8_driftBy 50 = .ok (.iload_n 2, 1) := by decide +kernel
theorem dX8_driftBy_51 : decode cX8_driftBy 51 = .ok (.goto 4, 3) := by decide +kernel
theorem dX8_driftBy_54 : decode cX8_driftBy 54 = .ok (.iload_n 3, 1) := by decide +kernel
theorem dX8_driftBy_55 : decode cX8_driftBy 55 = .ok (.iadd, 1) := by decide +kernel
theorem dX8_driftBy_56 : decode cX8_driftBy 56 = .ok (.istore 5, 2) := by decide +kernel
theorem dX8_driftBy_58 : decode cX8_driftBy 58 = .ok (.iinc 6 1, 3) := by decide +kernel
theorem dX8_driftBy_61 : decode cX8_driftBy 61 = .ok (.goto (-52), 3) := by decide +kernel
theorem dX8_driftBy_64 : decode cX8_driftBy 64 = .ok (.iload 4, 2) := by decide +kernel
theorem dX8_driftBy_66 : decode cX8_driftBy 66 = .ok (.ireturn, 1) := by decide +kernel
set_option maxRecDepth 20000 in
theorem ggX8_shortestOf_X8_driftBy : GoodIn wsX8_shortestOf wsX8_driftBy := goodIn_r _ [6, 7, 8, 9, 5, 10, 11, 12, 13, 14, 15, 16, 20, 21, 22, 23, 24, 25, 26, 27, 28, 29, 30, 31, 32, 33, 34, 35, 36, 37, 38, 39, 40, 41, 42, 43] (by decide +kernel) (by decide +kernel)
set_option maxRecDepth 20000 in
theorem gX8_shortestOf_X8_driftBy : GoodIn wsX8_shortestOf (wsV RX8 144 RX8 yX8_driftBy wsX8_driftBy) := goodIn_app (goodIn_of _ (by decide +kernel)) ggX8_shortestOf_X8_driftBy
set_option maxRecDepth 20000 in
theorem ggX8_shortestOf_X8_in : GoodIn wsX8_shortestOf wsX8_in := goodIn_r _ [19] (by decide +kernel) (by decide +kernel)
set_option maxRecDepth 20000 in
theorem gX8_shortestOf_X8_in : GoodIn wsX8_shortestOf (va_wsS RX8 70 yX8_in wsX8_in) := goodIn_app (goodIn_of _ (by decide +kernel)) ggX8_shortestOf_X8_in
theorem dX8_shortestOf_0 : decode cX8_shortestOf 0 = .ok (.aload_n 0, 1) := by decide +kernel
theorem dX8_shortestOf_1 : decode cX8_shortestOf 1 = .ok (.getfield 16, 3) := by decide +kernel
theorem dX8_shortestOf_4 : decode cX8_shortestOf 4 = .ok (.iload_n 1, 1) := by decide +kernel
theorem dX8_shortestOf_5 : decode cX8_shortestOf 5 = .ok (.iaload, 1) := by decide +kernel
theorem dX8_shortestOf_6 : decode cX8_shortestOf 6 = .ok (.ifCond .ne 6, 3) := by decide +kernel
theorem dX8_shortestOf_9 : decode cX8_shortestOf 9 = .ok (.bipush (-3), 2) := by decide +kernel
theorem dX8_shortestOf_11 : decode cX8_shortestOf 11 = .ok (.ireturn, 1) := by decide +kernel
theorem dX8_shortestOf_12 : decode cX8_shortestOf 12 = .ok (.aload_n 0, 1) := by decide +kernel
theorem dX8_shortestOf_13 : decode cX8_shortestOf 13 = .ok (.iload_n 1, 1) := by decide +kernel
theorem dX8_shortestOf_14 : decode cX8_shortestOf 14 = .ok (.iload_n 3, 1) := by decide +kernel
theorem dX8_shortestOf_15 : decode cX8_shortestOf 15 = .ok (.iload_n 3, 1) := by decide +kernel
theorem dX8_shortestOf_16 : decode cX8_shortestOf 16 = .ok (.invokevirtual 144, 3) := by decide +kernel
theorem dX8_shortestOf_19 : decode cX8_shortestOf 19 = .ok (.iload_n 2, 1) := by decide +kernel
theorem dX8_shortestOf_20 : decode cX8_shortestOf 20 = .ok (.if_icmp .gt 14, 3) := by decide +kernel
theorem dX8_shortestOf_23 : decode cX8_shortestOf 23 = .ok (.iload 4, 2) := by decide +kernel
theorem dX8_shortestOf_25 : decode cX8_shortestOf 25 = .ok (.ifCond .ne 7, 3) := by decide +kernel
theorem dX8_shortestOf_28 : decode cX8_shortestOf 28 = .ok (.iload_n 3, 1) := by decide +kernel
theorem dX8_shortestOf_29 : decode cX8_shortestOf 29 = .ok (.goto 4, 3) := by decide +kernel
theorem dX8_shortestOf_32 : decode cX8_shortestOf 32 = .ok (.iconst 0, 1) := by decide +kernel
theorem dX8_shortestOf_33 : decode cX8_shortestOf 33 = .ok (.ireturn, 1) := by decide +kernel
theorem dX8_shortestOf_34 : decode cX8_shortestOf 34 = .ok (.iconst 1, 1) := by decide +kernel
theorem dX8_shortestOf_35 : decode cX8_shortestOf 35 = .ok (.istore 5, 2) := by decide +kernel
theorem dX8_shortestOf_37 : decode cX8_shortestOf 37 = .ok (.iload 5, 2) := by decide +kernel
theorem dX8_shortestOf_39 : decode cX8_shortestOf 39 = .ok (.bipush 41, 2) := by decide +kernel
theorem dX8_shortestOf_41 : decode cX8_shortestOf 41 = .ok (.if_icmp .ge 52, 3) := by decide +kernel
theorem dX8_shortestOf_44 : decode cX8_shortestOf 44 = .ok (.iload_n 3, 1) := by decide +kernel
theorem dX8_shortestOf_45 : decode cX8_shortestOf 45 = .ok (.iload 5, 2) := by decide +kernel
theorem dX8_shortestOf_47 : decode cX8_shortestOf 47 = .ok (.isub, 1) := by decide +kernel
theorem dX8_shortestOf_48 : decode cX8_shortestOf 48 = .ok (.istore 6, 2) := by decide +kernel
theorem dX8_shortestOf_50 : decode cX8_shortestOf 50 = .ok (.iload 6, 2) := by decide +kernel
theorem dX8_shortestOf_52 : decode cX8_shortestOf 52 = .ok (.iconst 1, 1) := by decide +kernel
theorem dX8_shortestOf_53 : decode cX8_shortestOf 53 = .ok (.bipush 40, 2) := by decide +kernel
theorem dX8_shortestOf_55 : decode cX8_shortestOf 55 = .ok (.invokestatic 70, 3) := by decide +kernel
theorem dX8_shortestOf_58 : decode cX8_shortestOf 58 = .ok (.ifCond .eq 29, 3) := by decide +kernel
theorem dX8_shortestOf_61 : decode cX8_shortestOf 61 = .ok (.aload_n 0, 1) := by decide +kernel
theorem dX8_shortestOf_62 : decode cX8_shortestOf 62 = .ok (.iload_n 1, 1) := by decide +kernel
theorem dX8_shortestOf_63 : decode cX8_shortestOf 63 = .ok (.iload 5, 2) := by decide +kernel
theorem dX8_shortestOf_65 : decode cX8_shortestOf 65 = .ok (.iload 6, 2) := by decide +kernel
theorem dX8_shortestOf_67 : decode cX8_shortestOf 67 = .ok (.invokevirtual 144, 3) := by decide +kernel
theorem dX8_shortestOf_70 : decode cX8_shortestOf 70 = .ok (.iload_n 2, 1) := by decide +kernel
theorem dX8_shortestOf_71 : decode cX8_shortestOf 71 = .ok (.if_icmp .gt 16, 3) := by decide +kernel
theorem dX8_shortestOf_74 : decode cX8_shortestOf 74 = .ok (.iload 4, 2) := by decide +kernel
theorem dX8_shortestOf_76 : decode cX8_shortestOf 76 = .ok (.ifCond .ne 8, 3) := by decide +kernel
theorem dX8_shortestOf_79 : decode cX8_shortestOf 79 = .ok (.iload 5, 2) := by decide +kernel
theorem dX8_shortestOf_81 : decode cX8_shortestOf 81 = .ok (.goto 5, 3) := by decide +kernel
theorem dX8_shortestOf_84 : decode cX8_shortestOf 84 = .ok (.iload 6, 2) := by decide +kernel
theorem dX8_shortestOf_86 : decode cX8_shortestOf 86 = .ok (.ireturn, 1) := by decide +kernel
theorem dX8_shortestOf_87 : decode cX8_shortestOf 87 = .ok (.iinc 5 1, 3) := by decide +kernel
theorem dX8_shortestOf_90 : decode cX8_shortestOf 90 = .ok (.goto (-53), 3) := by decide +kernel
theorem dX8_shortestOf_93 : decode cX8_shortestOf 93 = .ok (.iconst (-1), 1) := by decide +kernel
theorem dX8_shortestOf_94 : decode cX8_shortestOf 94 = .ok (.ireturn, 1) := by decide +kernel
set_option maxRecDepth 20000 in
theorem ggX8_shortest_X8_isSun : GoodIn wsX8_shortest wsX8_isSun := goodIn_r _ [4, 5, 6, 3, 7] (by decide +kernel) (by decide +kernel)
set_option maxRecDepth 20000 in
theorem gX8_shortest_X8_isSun : GoodIn wsX8_shortest (va_wsS RX8 75 yX8_isSun wsX8_isSun) := goodIn_app (goodIn_of _ (by decide +kernel)) ggX8_shortest_X8_isSun
set_option maxRecDepth 20000 in
theorem ggX8_shortest_X8_in : GoodIn wsX8_shortest wsX8_in := goodIn_r _ [7] (by decide +kernel) (by decide +kernel)
set_option maxRecDepth 20000 in
theorem gX8_shortest_X8_in : GoodIn wsX8_shortest (va_wsS RX8 70 yX8_in wsX8_in) := goodIn_app (goodIn_of _ (by decide +kernel)) ggX8_shortest_X8_in
set_option maxRecDepth 20000 in
theorem ggX8_shortest_X8_shortestOf : GoodIn wsX8_shortest wsX8_shortestOf := goodIn_r _ [11, 12, 13, 14, 15, 3, 16, 17, 18, 19, 20, 21, 22, 23, 24, 25, 26, 5, 6, 7, 27, 28, 29, 30, 31, 32, 33, 34, 35, 36, 37, 38, 39, 40, 41, 42, 43, 44, 45, 46, 47, 48, 49, 50] (by decide +kernel) (by decide +kernel)
set_option maxRecDepth 20000 in
theorem gX8_shortest_X8_shortestOf : GoodIn wsX8_shortest (wsV RX8 148 RX8 yX8_shortestOf wsX8_shortestOf) := goodIn_app (goodIn_of _ (by decide +kernel)) ggX8_shortest_X8_shortestOf
theorem dX8_shortest_0 : decode cX8_shortest 0 = .ok (.iload_n 1, 1) := by decide +kernel
theorem dX8_shortest_1 : decode cX8_shortest 1 = .ok (.invokestatic 75, 3) := by decide +kernel
theorem dX8_shortest_4 : decode cX8_shortest 4 = .ok (.ifCond .eq 45, 3) := by decide +kernel
theorem dX8_shortest_7 : decode cX8_shortest 7 = .ok (.iload_n 2, 1) := by decide +kernel
theorem dX8_shortest_8 : decode cX8_shortest 8 = .ok (.iconst 0, 1) := by decide +kernel
theorem dX8_shortest_9 : decode cX8_shortest 9 = .ok (.bipush 20, 2) := by decide +kernel
theorem dX8_shortest_11 : decode cX8_shortest 11 = .ok (.invokestatic 70, 3) := by decide +kernel
theorem dX8_shortest_14 : decode cX8_shortest 14 = .ok (.ifCond .eq 35, 3) := by decide +kernel
theorem dX8_shortest_17 : decode cX8_shortest 17 = .ok (.iload_n 3, 1) := by decide +kernel
theorem dX8_shortest_18 : decode cX8_shortest 18 = .ok (.iconst 2, 1) := by decide +kernel
theorem dX8_shortest_19 : decode cX8_shortest 19 = .ok (.bipush 80, 2) := by decide +kernel
theorem dX8_shortest_21 : decode cX8_shortest 21 = .ok (.invokestatic 70, 3) := by decide +kernel
theorem dX8_shortest_24 : decode cX8_shortest 24 = .ok (.ifCond .eq 25, 3) := by decide +kernel
theorem dX8_shortest_27 : decode cX8_shortest 27 = .ok (.iload 4, 2) := by decide +kernel
theorem dX8_shortest_29 : decode cX8_shortest 29 = .ok (.iconst 0, 1) := by decide +kernel
theorem dX8_shortest_30 : decode cX8_shortest 30 = .ok (.iconst 1, 1) := by decide +kernel
theorem dX8_shortest_31 : decode cX8_shortest 31 = .ok (.invokestatic 70, 3) := by decide +kernel
theorem dX8_shortest_34 : decode cX8_shortest 34 = .ok (.ifCond .eq 15, 3) := by decide +kernel
theorem dX8_shortest_37 : decode cX8_shortest 37 = .ok (.aload_n 0, 1) := by decide +kernel
theorem dX8_shortest_38 : decode cX8_shortest 38 = .ok (.iload_n 1, 1) := by decide +kernel
theorem dX8_shortest_39 : decode cX8_shortest 39 = .ok (.iload_n 2, 1) := by decide +kernel
theorem dX8_shortest_40 : decode cX8_shortest 40 = .ok (.iload_n 3, 1) := by decide +kernel
theorem dX8_shortest_41 : decode cX8_shortest 41 = .ok (.iload 4, 2) := by decide +kernel
theorem dX8_shortest_43 : decode cX8_shortest 43 = .ok (.invokevirtual 148, 3) := by decide +kernel
theorem dX8_shortest_46 : decode cX8_shortest 46 = .ok (.goto 5, 3) := by decide +kernel
theorem dX8_shortest_49 : decode cX8_shortest 49 = .ok (.bipush (-2), 2) := by decide +kernel
theorem dX8_shortest_51 : decode cX8_shortest 51 = .ok (.ireturn, 1) := by decide +kernel
set_option maxRecDepth 20000 in
theorem ggX8_isPerson_X8_in : GoodIn wsX8_isPerson wsX8_in := goodIn_r _ [4] (by decide +kernel) (by decide +kernel)
set_option maxRecDepth 20000 in
theorem gX8_isPerson_X8_in : GoodIn wsX8_isPerson (va_wsS RX8 70 yX8_in wsX8_in) := goodIn_app (goodIn_of _ (by decide +kernel)) ggX8_isPerson_X8_in
theorem dX8_isPerson_0 : decode cX8_isPerson 0 = .ok (.iload_n 0, 1) := by decide +kernel
theorem dX8_isPerson_1 : decode cX8_isPerson 1 = .ok (.iconst 0, 1) := by decide +kernel
theorem dX8_isPerson_2 : decode cX8_isPerson 2 = .ok (.iconst 5, 1) := by decide +kernel
theorem dX8_isPerson_3 : decode cX8_isPerson 3 = .ok (.invokestatic 70, 3) := by decide +kernel
theorem dX8_isPerson_6 : decode cX8_isPerson 6 = .ok (.ireturn, 1) := by decide +kernel
set_option maxRecDepth 20000 in
theorem ggX8_awake_X8_isPerson : GoodIn wsX8_awake wsX8_isPerson := goodIn_r _ [5, 6, 7, 4, 8] (by decide +kernel) (by decide +kernel)
set_option maxRecDepth 20000 in
theorem gX8_awake_X8_isPerson : GoodIn wsX8_awake (va_wsS RX8 152 yX8_isPerson wsX8_isPerson) := goodIn_app (goodIn_of _ (by decide +kernel)) ggX8_awake_X8_isPerson
set_option maxRecDepth 20000 in
theorem ggX8_awake_X8_in : GoodIn wsX8_awake wsX8_in := goodIn_r _ [8] (by decide +kernel) (by decide +kernel)
set_option maxRecDepth 20000 in
theorem gX8_awake_X8_in : GoodIn wsX8_awake (va_wsS RX8 70 yX8_in wsX8_in) := goodIn_app (goodIn_of _ (by decide +kernel)) ggX8_awake_X8_in
theorem dX8_awake_0 : decode cX8_awake 0 = .ok (.iload_n 1, 1) := by decide +kernel
theorem dX8_awake_1 : decode cX8_awake 1 = .ok (.invokestatic 152, 3) := by decide +kernel
theorem dX8_awake_4 : decode cX8_awake 4 = .ok (.ifCond .eq 13, 3) := by decide +kernel
theorem dX8_awake_7 : decode cX8_awake 7 = .ok (.iload_n 2, 1) := by decide +kernel
theorem dX8_awake_8 : decode cX8_awake 8 = .ok (.iconst 0, 1) := by decide +kernel
theorem dX8_awake_9 : decode cX8_awake 9 = .ok (.bipush 15, 2) := by decide +kernel
theorem dX8_awake_11 : decode cX8_awake 11 = .ok (.invokestatic 70, 3) := by decide +kernel
theorem dX8_awake_14 : decode cX8_awake 14 = .ok (.ifCond .ne 6, 3) := by decide +kernel
theorem dX8_awake_17 : decode cX8_awake 17 = .ok (.bipush (-2), 2) := by decide +kernel
theorem dX8_awake_19 : decode cX8_awake 19 = .ok (.ireturn, 1) := by decide +kernel
theorem dX8_awake_20 : decode cX8_awake 20 = .ok (.aload_n 0, 1) := by decide +kernel
theorem dX8_awake_21 : decode cX8_awake 21 = .ok (.getfield 31, 3) := by decide +kernel
theorem dX8_awake_24 : decode cX8_awake 24 = .ok (.iload_n 1, 1) := by decide +kernel
theorem dX8_awake_25 : decode cX8_awake 25 = .ok (.iaload, 1) := by decide +kernel
theorem dX8_awake_26 : decode cX8_awake 26 = .ok (.istore_n 3, 1) := by decide +kernel
theorem dX8_awake_27 : decode cX8_awake 27 = .ok (.aload_n 0, 1) := by decide +kernel
theorem dX8_awake_28 : decode cX8_awake 28 = .ok (.getfield 31, 3) := by decide +kernel
theorem dX8_awake_31 : decode cX8_awake 31 = .ok (.iload_n 1, 1) := by decide +kernel
theorem dX8_awake_32 : decode cX8_awake 32 = .ok (.iload_n 2, 1) := by decide +kernel
theorem dX8_awake_33 : decode cX8_awake 33 = .ok (.iastore, 1) := by decide +kernel
theorem dX8_awake_34 : decode cX8_awake 34 = .ok (.iload_n 3, 1) := by decide +kernel
theorem dX8_awake_35 : decode cX8_awake 35 = .ok (.ireturn, 1) := by decide +kernel
set_option maxRecDepth 20000 in
theorem ggX8_lightsOf_X8_isIn : GoodIn wsX8_lightsOf wsX8_isIn := goodIn_r _ [5] (by decide +kernel) (by decide +kernel)
set_option maxRecDepth 20000 in
theorem gX8_lightsOf_X8_isIn : GoodIn wsX8_lightsOf (va_wsS RX8 155 yX8_isIn wsX8_isIn) := goodIn_app (goodIn_of _ (by decide +kernel)) ggX8_lightsOf_X8_isIn
theorem dX8_lightsOf_0 : decode cX8_lightsOf 0 = .ok (.bipush 15, 2) := by decide +kernel
theorem dX8_lightsOf_2 : decode cX8_lightsOf 2 = .ok (.istore_n 2, 1) := by decide +kernel
theorem dX8_lightsOf_3 : decode cX8_lightsOf 3 = .ok (.iconst 0, 1) := by decide +kernel
theorem dX8_lightsOf_4 : decode cX8_lightsOf 4 = .ok (.istore_n 3, 1) := by decide +kernel
theorem dX8_lightsOf_5 : decode cX8_lightsOf 5 = .ok (.iload_n 3, 1) := by decide +kernel
theorem dX8_lightsOf_6 : decode cX8_lightsOf 6 = .ok (.bipush 6, 2) := by decide +kernel
theorem dX8_lightsOf_8 : decode cX8_lightsOf 8 = .ok (.if_icmp .ge 31, 3) := by decide +kernel
theorem dX8_lightsOf_11 : decode cX8_lightsOf 11 = .ok (.iload_n 2, 1) := by decide +kernel
theorem dX8_lightsOf_12 : decode cX8_lightsOf 12 = .ok (.iload_n 1, 1) := by decide +kernel
theorem dX8_lightsOf_13 : decode cX8_lightsOf 13 = .ok (.iload_n 3, 1) := by decide +kernel
theorem dX8_lightsOf_14 : decode cX8_lightsOf 14 = .ok (.invokestatic 155, 3) := by decide +kernel
theorem dX8_lightsOf_17 : decode cX8_lightsOf 17 = .ok (.ifCond .eq 12, 3) := by decide +kernel
theorem dX8_lightsOf_20 : decode cX8_lightsOf 20 = .ok (.aload_n 0, 1) := by decide +kernel
theorem dX8_lightsOf_21 : decode cX8_lightsOf 21 = .ok (.getfield 31, 3) := by decide +kernel
theorem dX8_lightsOf_24 : decode cX8_lightsOf 24 = .ok (.iload_n 3, 1) := by decide +kernel
theorem dX8_lightsOf_25 : decode cX8_lightsOf 25 = .ok (.iaload, 1) := by decide +kernel
theorem dX8_lightsOf_26 : decode cX8_lightsOf 26 = .ok (.goto 5, 3) := by decide +kernel
theorem dX8_lightsOf_29 : decode cX8_lightsOf 29 = .ok (.bipush 15, 2) := by decide +kernel
theorem dX8_lightsOf_31 : decode cX8_lightsOf 31 = .ok (.iand, 1) := by decide +kernel
theorem dX8_lightsOf_32 : decode cX8_lightsOf 32 = .ok (.istore_n 2, 1) := by decide +kernel
theorem dX8_lightsOf_33 : decode cX8_lightsOf 33 = .ok (.iinc 3 1, 3) := by decide +kernel
theorem dX8_lightsOf_36 : decode cX8_lightsOf 36 = .ok (.goto (-31), 3) := by decide +kernel
theorem dX8_lightsOf_39 : decode cX8_lightsOf 39 = .ok (.iload_n 2, 1) := by decide +kernel
theorem dX8_lightsOf_40 : decode cX8_lightsOf 40 = .ok (.ireturn, 1) := by decide +kernel
set_option maxRecDepth 20000 in
theorem ggX8_awakeHours_X8_lightOf : GoodIn wsX8_awakeHours wsX8_lightOf := goodIn_r _ [5, 6, 7, 8, 4, 9, 10, 11, 12, 13, 14, 15, 16, 17, 18, 19, 20, 21, 22, 23, 24, 25, 26, 27, 28, 29, 30, 31, 32, 33, 34, 35, 36, 37, 38, 39, 40] (by decide +kernel) (by decide +kernel)
set_option maxRecDepth 20000 in
theorem gX8_awakeHours_X8_lightOf : GoodIn wsX8_awakeHours (wsV RX8 111 RX8 yX8_lightOf wsX8_lightOf) := goodIn_app (goodIn_of _ (by decide +kernel)) ggX8_awakeHours_X8_lightOf
theorem dX8_awakeHours_0 : decode cX8_awakeHours 0 = .ok (.iconst 0, 1) := by decide +kernel
theorem dX8_awakeHours_1 : decode cX8_awakeHours 1 = .ok (.istore 4, 2) := by decide +kernel
theorem dX8_awakeHours_3 : decode cX8_awakeHours 3 = .ok (.iload_n 2, 1) := by decide +kernel
theorem dX8_awakeHours_4 : decode cX8_awakeHours 4 = .ok (.istore 5, 2) := by decide +kernel
theorem dX8_awakeHours_6 : decode cX8_awakeHours 6 = .ok (.iload 5, 2) := by decide +kernel
theorem dX8_awakeHours_8 : decode cX8_awakeHours 8 = .ok (.iload_n 2, 1) := by decide +kernel
theorem dX8_awakeHours_9 : decode cX8_awakeHours 9 = .ok (.iload_n 3, 1) := by decide +kernel
theorem dX8_awakeHours_10 : decode cX8_awakeHours 10 = .ok (.iadd, 1) := by decide +kernel
theorem dX8_awakeHours_11 : decode cX8_awakeHours 11 = .ok (.if_icmp .ge 24, 3) := by decide +kernel
theorem dX8_awakeHours_14 : decode cX8_awakeHours 14 = .ok (.iload 4, 2) := by decide +kernel
theorem dX8_awakeHours_16 : decode cX8_awakeHours 16 = .ok (.iload_n 1, 1) := by decide +kernel
theorem dX8_awakeHours_17 : decode cX8_awakeHours 17 = .ok (.aload_n 0, 1) := by decide +kernel
theorem dX8_awakeHours_18 : decode cX8_awakeHours 18 = .ok (.iload 5, 2) := by decide +kernel
theorem dX8_awakeHours_20 : decode cX8_awakeHours 20 = .ok (.invokevirtual 111, 3) := by decide +kernel
theorem dX8_awakeHours_23 : decode cX8_awakeHours 23 = .ok (.ishr, 1) := by decide +kernel
theorem dX8_awakeHours_24 : decode cX8_awakeHours 24 = .ok (.iconst 1, 1) := by decide +kernel
theorem dX8_awakeHours_25 : decode cX8_awakeHours 25 = .ok (.iand, 1) := by decide +kernel
theorem dX8_awakeHours_26 : decode cX8_awakeHours 26 = .ok (.iadd, 1) := by decide +kernel
theorem dX8_awakeHours_27 : decode cX8_awakeHours 27 = .ok (.istore 4, 2) := by decide +kernel
theorem dX8_awakeHours_29 : decode cX8_awakeHours 29 = .ok (.iinc 5 1, 3) := by decide +kernel
theorem dX8_awakeHours_32 : decode cX8_awakeHours 32 = .ok (.goto (-26), 3) := by decide +kernel
theorem dX8_awakeHours_35 : decode cX8_awakeHours 35 = .ok (.iload 4, 2) := by decide +kernel
theorem dX8_awakeHours_37 : decode cX8_awakeHours 37 = .ok (.ireturn, 1) := by decide +kernel
set_option maxRecDepth 20000 in
theorem ggX8_togetherOf_X8_lightsOf : GoodIn wsX8_togetherOf wsX8_lightsOf := goodIn_r _ [5, 6, 7, 8, 4, 9, 33, 34, 35, 36, 37, 38, 39, 40, 41, 42, 43, 44, 45, 46, 47, 48, 49, 50, 51, 52, 53, 54, 55, 56] (by decide +kernel) (by decide +kernel)
set_option maxRecDepth 20000 in
theorem gX8_togetherOf_X8_lightsOf : GoodIn wsX8_togetherOf (wsV RX8 158 RX8 yX8_lightsOf wsX8_lightsOf) := goodIn_app (goodIn_of _ (by decide +kernel)) ggX8_togetherOf_X8_lightsOf
set_option maxRecDepth 20000 in
theorem ggX8_togetherOf_X8_roundNow : GoodIn wsX8_togetherOf wsX8_roundNow := goodIn_r _ [13, 14, 33, 34, 35, 36, 37, 38, 39, 40, 41, 42, 43, 44, 45, 46, 47, 48, 49, 50, 51, 52, 53, 54, 55, 56] (by decide +kernel) (by decide +kernel)
set_option maxRecDepth 20000 in
theorem gX8_togetherOf_X8_roundNow : GoodIn wsX8_togetherOf (wsV RX8 114 RX8 yX8_roundNow wsX8_roundNow) := goodIn_app (goodIn_of _ (by decide +kernel)) ggX8_togetherOf_X8_roundNow
set_option maxRecDepth 20000 in
theorem ggX8_togetherOf_X8_awakeHours : GoodIn wsX8_togetherOf wsX8_awakeHours := goodIn_r _ [18, 19, 20, 21, 4, 22, 23, 24, 25, 26, 27, 28, 29, 30, 31, 32, 14, 33, 34, 35, 36, 37, 38, 39, 40, 41, 42, 43, 44, 45, 46, 47, 48, 49, 50, 51, 52, 53, 54, 55, 56] (by decide +kernel) (by decide +kernel)
set_option maxRecDepth 20000 in
theorem gX8_togetherOf_X8_awakeHours : GoodIn wsX8_togetherOf (wsV RX8 161 RX8 yX8_awakeHours wsX8_awakeHours) := goodIn_app (goodIn_of _ (by decide +kernel)) ggX8_togetherOf_X8_awakeHours
set_option maxRecDepth 20000 in
theorem ggX8_togetherOf_X8_lightOf : GoodIn wsX8_togetherOf wsX8_lightOf := goodIn_r _ [22, 23, 24, 25, 4, 26, 27, 28, 29, 30, 31, 32, 14, 33, 34, 35, 36, 37, 38, 39, 40, 41, 42, 43, 44, 45, 46, 47, 48, 49, 50, 51, 52, 53, 54, 55, 56] (by decide +kernel) (by decide +kernel)
set_option maxRecDepth 20000 in
theorem gX8_togetherOf_X8_lightOf : GoodIn wsX8_togetherOf (wsV RX8 111 RX8 yX8_lightOf wsX8_lightOf) := goodIn_app (goodIn_of _ (by decide +kernel)) ggX8_togetherOf_X8_lightOf
theorem dX8_togetherOf_0 : decode cX8_togetherOf 0 = .ok (.aload_n 0, 1) := by decide +kernel
theorem dX8_togetherOf_1 : decode cX8_togetherOf 1 = .ok (.iload_n 1, 1) := by decide +kernel
theorem dX8_togetherOf_2 : decode cX8_togetherOf 2 = .ok (.invokevirtual 158, 3) := by decide +kernel
theorem dX8_togetherOf_5 : decode cX8_togetherOf 5 = .ok (.istore 5, 2) := by decide +kernel
theorem dX8_togetherOf_7 : decode cX8_togetherOf 7 = .ok (.aload_n 0, 1) := by decide +kernel
theorem dX8_togetherOf_8 : decode cX8_togetherOf 8 = .ok (.invokevirtual 114, 3) := by decide +kernel
theorem dX8_togetherOf_11 : decode cX8_togetherOf 11 = .ok (.istore 6, 2) := by decide +kernel
theorem dX8_togetherOf_13 : decode cX8_togetherOf 13 = .ok (.aload_n 0, 1) := by decide +kernel
theorem dX8_togetherOf_14 : decode cX8_togetherOf 14 = .ok (.iload 5, 2) := by decide +kernel
theorem dX8_togetherOf_16 : decode cX8_togetherOf 16 = .ok (.iload_n 2, 1) := by decide +kernel
theorem dX8_togetherOf_17 : decode cX8_togetherOf 17 = .ok (.iload_n 3, 1) := by decide +kernel
theorem dX8_togetherOf_18 : decode cX8_togetherOf 18 = .ok (.invokevirtual 161, 3) := by decide +kernel
theorem dX8_togetherOf_21 : decode cX8_togetherOf 21 = .ok (.istore 7, 2) := by decide +kernel
theorem dX8_togetherOf_23 : decode cX8_togetherOf 23 = .ok (.iload 7, 2) := by decide +kernel
theorem dX8_togetherOf_25 : decode cX8_togetherOf 25 = .ok (.istore 8, 2) := by decide +kernel
theorem dX8_togetherOf_27 : decode cX8_togetherOf 27 = .ok (.iload_n 2, 1) := by decide +kernel
theorem dX8_togetherOf_28 : decode cX8_togetherOf 28 = .ok (.istore 9, 2) := by decide +kernel
theorem dX8_togetherOf_30 : decode cX8_togetherOf 30 = .ok (.iload_n 2, 1) := by decide +kernel
theorem dX8_togetherOf_31 : decode cX8_togetherOf 31 = .ok (.iconst 1, 1) := by decide +kernel
theorem dX8_togetherOf_32 : decode cX8_togetherOf 32 = .ok (.iadd, 1) := by decide +kernel
theorem dX8_togetherOf_33 : decode cX8_togetherOf 33 = .ok (.istore 10, 2) := by decide +kernel
theorem dX8_togetherOf_35 : decode cX8_togetherOf 35 = .ok (.iload 10, 2) := by decide +kernel
theorem dX8_togetherOf_37 : decode cX8_togetherOf 37 = .ok (.iload_n 2, 1) := by decide +kernel
theorem dX8_togetherOf_38 : decode cX8_togetherOf 38 = .ok (.iload 6, 2) := by decide +kernel
theorem dX8_togetherOf_40 : decode cX8_togetherOf 40 = .ok (.iadd, 1) := by decide +kernel
theorem dX8_togetherOf_41 : decode cX8_togetherOf 41 = .ok (.if_icmp .ge 81, 3) := by decide +kernel
theorem dX8_togetherOf_44 : decode cX8_togetherOf 44 = .ok (.iload 4, 2) := by decide +kernel
theorem dX8_togetherOf_46 : decode cX8_togetherOf 46 = .ok (.iconst 1, 1) := by decide +kernel
theorem dX8_togetherOf_47 : decode cX8_togetherOf 47 = .ok (.if_icmp .ne 75, 3) := by decide +kernel
theorem dX8_togetherOf_50 : decode cX8_togetherOf 50 = .ok (.iload 7, 2) := by decide +kernel
theorem dX8_togetherOf_52 : decode cX8_togetherOf 52 = .ok (.iload 5, 2) := by decide +kernel
theorem dX8_togetherOf_54 : decode cX8_togetherOf 54 = .ok (.aload_n 0, 1) := by decide +kernel
theorem dX8_togetherOf_55 : decode cX8_togetherOf 55 = .ok (.iload 10, 2) := by decide +kernel
theorem dX8_togetherOf_57 : decode cX8_togetherOf 57 = .ok (.iconst 1, 1) := by decide +kernel
theorem dX8_togetherOf_58 : decode cX8_togetherOf 58 = .ok (.isub, 1) := by decide +kernel
theorem dX8_togetherOf_59 : decode cX8_togetherOf 59 = .ok (.iload_n 3, 1) := by decide +kernel
theorem dX8_togetherOf_60 : decode cX8_togetherOf 60 = .ok (.iadd, 1) := by decide +kernel
theorem dX8_togetherOf_61 : decode cX8_togetherOf 61 = .ok (.invokevirtual 111, 3) := by decide +kernel
theorem dX8_togetherOf_64 : decode cX8_togetherOf 64 = .ok (.ishr, 1) := by decide +kernel
theorem dX8_togetherOf_65 : decode cX8_togetherOf 65 = .ok (.iconst 1, 1) := by decide +kernel
theorem dX8_togetherOf_66 : decode cX8_togetherOf 66 = .ok (.iand, 1) := by decide +kernel
theorem dX8_togetherOf_67 : decode cX8_togetherOf 67 = .ok (.iload 5, 2) := by decide +kernel
theorem dX8_togetherOf_69 : decode cX8_togetherOf 69 = .ok (.aload_n 0, 1) := by decide +kernel
theorem dX8_togetherOf_70 : decode cX8_togetherOf 70 = .ok (.iload 10, 2) := by decide +kernel
theorem dX8_togetherOf_72 : decode cX8_togetherOf 72 = .ok (.iconst 1, 1) := by decide +kernel
theorem dX8_togetherOf_73 : decode cX8_togetherOf 73 = .ok (.isub, 1) := by decide +kernel
theorem dX8_togetherOf_74 : decode cX8_togetherOf 74 = .ok (.invokevirtual 111, 3) := by decide +kernel
theorem dX8_togetherOf_77 : decode cX8_togetherOf 77 = .ok (.ishr, 1) := by decide +kernel
theorem dX8_togetherOf_78 : decode cX8_togetherOf 78 = .ok (.iconst 1, 1) := by decide +kernel
theorem dX8_togetherOf_79 : decode cX8_togetherOf 79 = .ok (.iand, 1) := by decide +kernel
theorem dX8_togetherOf_80 : decode cX8_togetherOf 80 = .ok (.isub, 1) := by decide +kernel
theorem dX8_togetherOf_81 : decode cX8_togetherOf 81 = .ok (.iadd, 1) := by decide +kernel
theorem dX8_togetherOf_82 : decode cX8_togetherOf 82 = .ok (.istore 7, 2) := by decide +kernel
theorem dX8_togetherOf_84 : decode cX8_togetherOf 84 = .ok (.iload 7, 2) := by decide +kernel
theorem dX8_togetherOf_86 : decode cX8_togetherOf 86 = .ok (.iload 8, 2) := by decide +kernel
theorem dX8_togetherOf_88 : decode cX8_togetherOf 88 = .ok (.if_icmp .le 8, 3) := by decide +kernel
theorem dX8_togetherOf_91 : decode cX8_togetherOf 91 = .ok (.iload 10, 2) := by decide +kernel
theorem dX8_togetherOf_93 : decode cX8_togetherOf 93 = .ok (.goto 5, 3) := by decide +kernel
theorem dX8_togetherOf_96 : decode cX8_togetherOf 96 = .ok (.iload 9, 2) := by decide +kernel
theorem dX8_togetherOf_98 : decode cX8_togetherOf 98 = .ok (.istore 9, 2) := by decide +kernel
theorem dX8_togetherOf_100 : decode cX8_togetherOf 100 = .ok (.iload 7, 2) := by decide +kernel
theorem dX8_togetherOf_102 : decode cX8_togetherOf 102 = .ok (.iload 8, 2) := by decide +kernel
theorem dX8_togetherOf_104 : decode cX8_togetherOf 104 = .ok (.if_icmp .le 8, 3) := by decide +kernel
theorem dX8_togetherOf_107 : decode cX8_togetherOf 107 = .ok (.iload 7, 2) := by decide +kernel
theorem dX8_togetherOf_109 : decode cX8_togetherOf 109 = .ok (.goto 5, 3) := by decide +kernel
theorem dX8_togetherOf_112 : decode cX8_togetherOf 112 = .ok (.iload 8, 2) := by decide +kernel
theorem dX8_togetherOf_114 : decode cX8_togetherOf 114 = .ok (.istore 8, 2) := by decide +kernel
theorem dX8_togetherOf_116 : decode cX8_togetherOf 116 = .ok (.iinc 10 1, 3) := by decide +kernel
theorem dX8_togetherOf_119 : decode cX8_togetherOf 119 = .ok (.goto (-84), 3) := by decide +kernel
theorem dX8_togetherOf_122 : decode cX8_togetherOf 122 = .ok (.iload 4, 2) := by decide +kernel
theorem dX8_togetherOf_124 : decode cX8_togetherOf 124 = .ok (.ifCond .ne 8, 3) := by decide +kernel
theorem dX8_togetherOf_127 : decode cX8_togetherOf 127 = .ok (.iload 8, 2) := by decide +kernel
theorem dX8_togetherOf_129 : decode cX8_togetherOf 129 = .ok (.goto 5, 3) := by decide +kernel
theorem dX8_togetherOf_132 : decode cX8_togetherOf 132 = .ok (.iload 9, 2) := by decide +kernel
theorem dX8_togetherOf_134 : decode cX8_togetherOf 134 = .ok (.ireturn, 1) := by decide +kernel
set_option maxRecDepth 20000 in
theorem ggX8_together_X8_in : GoodIn wsX8_together wsX8_in := goodIn_r _ [4] (by decide +kernel) (by decide +kernel)
set_option maxRecDepth 20000 in
theorem gX8_together_X8_in : GoodIn wsX8_together (va_wsS RX8 70 yX8_in wsX8_in) := goodIn_app (goodIn_of _ (by decide +kernel)) ggX8_together_X8_in
set_option maxRecDepth 20000 in
theorem ggX8_together_X8_isHour : GoodIn wsX8_together wsX8_isHour := goodIn_r _ [7, 8, 1, 2, 3, 4] (by decide +kernel) (by decide +kernel)
set_option maxRecDepth 20000 in
theorem gX8_together_X8_isHour : GoodIn wsX8_together (va_wsS RX8 108 yX8_isHour wsX8_isHour) := goodIn_app (goodIn_of _ (by decide +kernel)) ggX8_together_X8_isHour
set_option maxRecDepth 20000 in
theorem ggX8_together_X8_togetherOf : GoodIn wsX8_together wsX8_togetherOf := goodIn_r _ [12, 13, 14, 15, 3, 16, 17, 18, 19, 20, 21, 22, 23, 24, 25, 26, 27, 28, 29, 30, 31, 32, 33, 34, 35, 36, 37, 38, 39, 40, 41, 42, 43, 44, 45, 46, 47, 48, 49, 50, 51, 52, 53, 54, 55, 56, 57, 58, 59, 60, 61, 62, 63, 64, 65, 66, 67] (by decide +kernel) (by decide +kernel)
set_option maxRecDepth 20000 in
theorem gX8_together_X8_togetherOf : GoodIn wsX8_together (wsV RX8 164 RX8 yX8_togetherOf wsX8_togetherOf) := goodIn_app (goodIn_of _ (by decide +kernel)) ggX8_together_X8_togetherOf
theorem dX8_together_0 : decode cX8_together 0 = .ok (.iload_n 1, 1) := by decide +kernel
theorem dX8_together_1 : decode cX8_together 1 = .ok (.iconst 0, 1) := by decide +kernel
theorem dX8_together_2 : decode cX8_together 2 = .ok (.bipush 63, 2) := by decide +kernel
theorem dX8_together_4 : decode cX8_together 4 = .ok (.invokestatic 70, 3) := by decide +kernel
theorem dX8_together_7 : decode cX8_together 7 = .ok (.ifCond .eq 42, 3) := by decide +kernel
theorem dX8_together_10 : decode cX8_together 10 = .ok (.iload_n 2, 1) := by decide +kernel
theorem dX8_together_11 : decode cX8_together 11 = .ok (.invokestatic 108, 3) := by decide +kernel
theorem dX8_together_14 : decode cX8_together 14 = .ok (.ifCond .eq 35, 3) := by decide +kernel
theorem dX8_together_17 : decode cX8_together 17 = .ok (.iload_n 3, 1) := by decide +kernel
theorem dX8_together_18 : decode cX8_together 18 = .ok (.iconst 1, 1) := by decide +kernel
theorem dX8_together_19 : decode cX8_together 19 = .ok (.bipush 100, 2) := by decide +kernel
theorem dX8_together_21 : decode cX8_together 21 = .ok (.invokestatic 70, 3) := by decide +kernel
theorem dX8_together_24 : decode cX8_together 24 = .ok (.ifCond .eq 25, 3) := by decide +kernel
theorem dX8_together_27 : decode cX8_together 27 = .ok (.iload 4, 2) := by decide +kernel
theorem dX8_together_29 : decode cX8_together 29 = .ok (.iconst 0, 1) := by decide +kernel
theorem dX8_together_30 : decode cX8_together 30 = .ok (.iconst 1, 1) := by decide +kernel
theorem dX8_together_31 : decode cX8_together 31 = .ok (.invokestatic 70, 3) := by decide +kernel
theorem dX8_together_34 : decode cX8_together 34 = .ok (.ifCond .eq 15, 3) := by decide +kernel
theorem dX8_together_37 : decode cX8_together 37 = .ok (.aload_n 0, 1) := by decide +kernel
theorem dX8_together_38 : decode cX8_together 38 = .ok (.iload_n 1, 1) := by decide +kernel
theorem dX8_together_39 : decode cX8_together 39 = .ok (.iload_n 2, 1) := by decide +kernel
theorem dX8_together_40 : decode cX8_together 40 = .ok (.iload_n 3, 1) := by decide +kernel
theorem dX8_together_41 : decode cX8_together 41 = .ok (.iload 4, 2) := by decide +kernel
theorem dX8_together_43 : decode cX8_together 43 = .ok (.invokevirtual 164, 3) := by decide +kernel
theorem dX8_together_46 : decode cX8_together 46 = .ok (.goto 5, 3) := by decide +kernel
theorem dX8_together_49 : decode cX8_together 49 = .ok (.bipush (-2), 2) := by decide +kernel
theorem dX8_together_51 : decode cX8_together 51 = .ok (.ireturn, 1) := by decide +kernel
set_option maxRecDepth 20000 in
theorem ggX8_dialOf_X8_isUp : GoodIn wsX8_dialOf wsX8_isUp := goodIn_r _ [5, 6, 7, 8, 9, 4, 10, 11, 12, 13, 14, 15, 16, 17, 18, 19, 20, 21, 22, 23, 24, 25, 26, 27, 28, 29, 30, 31, 32, 33, 34, 35, 36] (by decide +kernel) (by decide +kernel)
set_option maxRecDepth 20000 in
theorem gX8_dialOf_X8_isUp : GoodIn wsX8_dialOf (wsV RX8 104 RX8 yX8_isUp wsX8_isUp) := goodIn_app (goodIn_of _ (by decide +kernel)) ggX8_dialOf_X8_isUp
set_option maxRecDepth 20000 in
theorem ggX8_dialOf_X8_placeOf : GoodIn wsX8_dialOf wsX8_placeOf := goodIn_r _ [10, 11, 12, 13, 14, 15, 16, 17, 18, 19, 20, 21, 22, 23, 24, 25, 26, 27, 28, 29, 30, 31, 32, 33, 34, 35, 36] (by decide +kernel) (by decide +kernel)
set_option maxRecDepth 20000 in
theorem gX8_dialOf_X8_placeOf : GoodIn wsX8_dialOf (wsV RX8 100 RX8 yX8_placeOf wsX8_placeOf) := goodIn_app (goodIn_of _ (by decide +kernel)) ggX8_dialOf_X8_placeOf
theorem dX8_dialOf_0 : decode cX8_dialOf 0 = .ok (.aload_n 0, 1) := by decide +kernel
theorem dX8_dialOf_1 : decode cX8_dialOf 1 = .ok (.iload_n 1, 1) := by decide +kernel
theorem dX8_dialOf_2 : decode cX8_dialOf 2 = .ok (.iload_n 2, 1) := by decide +kernel
theorem dX8_dialOf_3 : decode cX8_dialOf 3 = .ok (.invokevirtual 104, 3) := by decide +kernel
theorem dX8_dialOf_6 : decode cX8_dialOf 6 = .ok (.ifCond .eq 12, 3) := by decide +kernel
theorem dX8_dialOf_9 : decode cX8_dialOf 9 = .ok (.aload_n 0, 1) := by decide +kernel
theorem dX8_dialOf_10 : decode cX8_dialOf 10 = .ok (.iload_n 1, 1) := by decide +kernel
theorem dX8_dialOf_11 : decode cX8_dialOf 11 = .ok (.iload_n 2, 1) := by decide +kernel
theorem dX8_dialOf_12 : decode cX8_dialOf 12 = .ok (.invokevirtual 100, 3) := by decide +kernel
theorem dX8_dialOf_15 : decode cX8_dialOf 15 = .ok (.goto 4, 3) := by decide +kernel
theorem dX8_dialOf_18 : decode cX8_dialOf 18 = .ok (.iconst (-1), 1) := by decide +kernel
theorem dX8_dialOf_19 : decode cX8_dialOf 19 = .ok (.ireturn, 1) := by decide +kernel
set_option maxRecDepth 20000 in
theorem ggX8_dialsOf_X8_roundNow : GoodIn wsX8_dialsOf wsX8_roundNow := goodIn_r _ [5, 6, 21, 22, 23, 24, 25, 26, 27, 28, 29, 30, 31, 32, 33, 34, 35, 36, 37, 38, 39, 40, 41, 42, 43, 44] (by decide +kernel) (by decide +kernel)
set_option maxRecDepth 20000 in
theorem gX8_dialsOf_X8_roundNow : GoodIn wsX8_dialsOf (wsV RX8 114 RX8 yX8_roundNow wsX8_roundNow) := goodIn_app (goodIn_of _ (by decide +kernel)) ggX8_dialsOf_X8_roundNow
set_option maxRecDepth 20000 in
theorem ggX8_dialsOf_X8_dialOf : GoodIn wsX8_dialsOf wsX8_dialOf := goodIn_r _ [10, 11, 12, 13, 4, 14, 15, 16, 17, 18, 19, 20, 6, 21, 22, 23, 24, 25, 26, 27, 28, 29, 30, 31, 32, 33, 34, 35, 36, 37, 38, 39, 40, 41, 42, 43, 44] (by decide +kernel) (by decide +kernel)
set_option maxRecDepth 20000 in
theorem gX8_dialsOf_X8_dialOf : GoodIn wsX8_dialsOf (wsV RX8 167 RX8 yX8_dialOf wsX8_dialOf) := goodIn_app (goodIn_of _ (by decide +kernel)) ggX8_dialsOf_X8_dialOf
theorem dX8_dialsOf_0 : decode cX8_dialsOf 0 = .ok (.aload_n 0, 1) := by decide +kernel
theorem dX8_dialsOf_1 : decode cX8_dialsOf 1 = .ok (.invokevirtual 114, 3) := by decide +kernel
theorem dX8_dialsOf_4 : decode cX8_dialsOf 4 = .ok (.istore 4, 2) := by decide +kernel
theorem dX8_dialsOf_6 : decode cX8_dialsOf 6 = .ok (.iconst 0, 1) := by decide +kernel
theorem dX8_dialsOf_7 : decode cX8_dialsOf 7 = .ok (.istore 5, 2) := by decide +kernel
theorem dX8_dialsOf_9 : decode cX8_dialsOf 9 = .ok (.iconst (-1), 1) := by decide +kernel
theorem dX8_dialsOf_10 : decode cX8_dialsOf 10 = .ok (.istore 6, 2) := by decide +kernel
theorem dX8_dialsOf_12 : decode cX8_dialsOf 12 = .ok (.iconst 0, 1) := by decide +kernel
theorem dX8_dialsOf_13 : decode cX8_dialsOf 13 = .ok (.istore 7, 2) := by decide +kernel
theorem dX8_dialsOf_15 : decode cX8_dialsOf 15 = .ok (.iload 7, 2) := by decide +kernel
theorem dX8_dialsOf_17 : decode cX8_dialsOf 17 = .ok (.iload 4, 2) := by decide +kernel
theorem dX8_dialsOf_19 : decode cX8_dialsOf 19 = .ok (.if_icmp .ge 72, 3) := by decide +kernel
theorem dX8_dialsOf_22 : decode cX8_dialsOf 22 = .ok (.aload_n 0, 1) := by decide +kernel
theorem dX8_dialsOf_23 : decode cX8_dialsOf 23 = .ok (.iconst 0, 1) := by decide +kernel
theorem dX8_dialsOf_24 : decode cX8_dialsOf 24 = .ok (.iload 7, 2) := by decide +kernel
theorem dX8_dialsOf_26 : decode cX8_dialsOf 26 = .ok (.invokevirtual 167, 3) := by decide +kernel
theorem dX8_dialsOf_29 : decode cX8_dialsOf 29 = .ok (.iload_n 1, 1) := by decide +kernel
theorem dX8_dialsOf_30 : decode cX8_dialsOf 30 = .ok (.if_icmp .ne 18, 3) := by decide +kernel
theorem dX8_dialsOf_33 : decode cX8_dialsOf 33 = .ok (.aload_n 0, 1) := by decide +kernel
theorem dX8_dialsOf_34 : decode cX8_dialsOf 34 = .ok (.iconst 1, 1) := by decide +kernel
theorem dX8_dialsOf_35 : decode cX8_dialsOf 35 = .ok (.iload 7, 2) := by decide +kernel
theorem dX8_dialsOf_37 : decode cX8_dialsOf 37 = .ok (.invokevirtual 167, 3) := by decide +kernel
theorem dX8_dialsOf_40 : decode cX8_dialsOf 40 = .ok (.iload_n 2, 1) := by decide +kernel
theorem dX8_dialsOf_41 : decode cX8_dialsOf 41 = .ok (.if_icmp .ne 7, 3) := by decide +kernel
theorem dX8_dialsOf_44 : decode cX8_dialsOf 44 = .ok (.iconst 1, 1) := by decide +kernel
theorem dX8_dialsOf_45 : decode cX8_dialsOf 45 = .ok (.goto 4, 3) := by decide +kernel
theorem dX8_dialsOf_48 : decode cX8_dialsOf 48 = .ok (.iconst 0, 1) := by decide +kernel
theorem dX8_dialsOf_49 : decode cX8_dialsOf 49 = .ok (.istore 8, 2) := by decide +kernel
theorem dX8_dialsOf_51 : decode cX8_dialsOf 51 = .ok (.iload 8, 2) := by decide +kernel
theorem dX8_dialsOf_53 : decode cX8_dialsOf 53 = .ok (.ifCond .eq 13, 3) := by decide +kernel
theorem dX8_dialsOf_56 : decode cX8_dialsOf 56 = .ok (.iload 5, 2) := by decide +kernel
theorem dX8_dialsOf_58 : decode cX8_dialsOf 58 = .ok (.ifCond .ne 8, 3) := by decide +kernel
theorem dX8_dialsOf_61 : decode cX8_dialsOf 61 = .ok (.iload 7, 2) := by decide +kernel
theorem dX8_dialsOf_63 : decode cX8_dialsOf 63 = .ok (.goto 5, 3) := by decide +kernel
theorem dX8_dialsOf_66 : decode cX8_dialsOf 66 = .ok (.iload 6, 2) := by decide +kernel
theorem dX8_dialsOf_68 : decode cX8_dialsOf 68 = .ok (.istore 6, 2) := by decide +kernel
theorem dX8_dialsOf_70 : decode cX8_dialsOf 70 = .ok (.iload 5, 2) := by decide +kernel
theorem dX8_dialsOf_72 : decode cX8_dialsOf 72 = .ok (.iload 8, 2) := by decide +kernel
theorem dX8_dialsOf_74 : decode cX8_dialsOf 74 = .ok (.ifCond .eq 7, 3) := by decide +kernel
theorem dX8_dialsOf_77 : decode cX8_dialsOf 77 = .ok (.iconst 1, 1) := by decide +kernel
theorem dX8_dialsOf_78 : decode cX8_dialsOf 78 = .ok (.goto 4, 3) := by decide +kernel
theorem dX8_dialsOf_81 : decode cX8_dialsOf 81 = .ok (.iconst 0, 1) := by decide +kernel
theorem dX8_dialsOf_82 : decode cX8_dialsOf 82 = .ok (.iadd, 1) := by decide +kernel
theorem dX8_dialsOf_83 : decode cX8_dialsOf 83 = .ok (.istore 5, 2) := by decide +kernel
theorem dX8_dialsOf_85 : decode cX8_dialsOf 85 = .ok (.iinc 7 1, 3) := by decide +kernel
theorem dX8_dialsOf_88 : decode cX8_dialsOf 88 = .ok (.goto (-73), 3) := by decide +kernel
theorem dX8_dialsOf_91 : decode cX8_dialsOf 91 = .ok (.iload_n 3, 1) := by decide +kernel
theorem dX8_dialsOf_92 : decode cX8_dialsOf 92 = .ok (.ifCond .ne 8, 3) := by decide +kernel
theorem dX8_dialsOf_95 : decode cX8_dialsOf 95 = .ok (.iload 5, 2) := by decide +kernel
theorem dX8_dialsOf_97 : decode cX8_dialsOf 97 = .ok (.goto 5, 3) := by decide +kernel
theorem dX8_dialsOf_100 : decode cX8_dialsOf 100 = .ok (.iload 6, 2) := by decide +kernel
theorem dX8_dialsOf_102 : decode cX8_dialsOf 102 = .ok (.ireturn, 1) := by decide +kernel
set_option maxRecDepth 20000 in
theorem ggX8_dials_X8_in : GoodIn wsX8_dials wsX8_in := goodIn_r _ [4] (by decide +kernel) (by decide +kernel)
set_option maxRecDepth 20000 in
theorem gX8_dials_X8_in : GoodIn wsX8_dials (va_wsS RX8 70 yX8_in wsX8_in) := goodIn_app (goodIn_of _ (by decide +kernel)) ggX8_dials_X8_in
set_option maxRecDepth 20000 in
theorem ggX8_dials_X8_dialsOf : GoodIn wsX8_dials wsX8_dialsOf := goodIn_r _ [8, 9, 10, 11, 3, 12, 13, 14, 15, 16, 17, 18, 19, 20, 21, 22, 23, 24, 25, 26, 27, 28, 29, 30, 31, 32, 33, 34, 35, 36, 37, 38, 39, 40, 41, 42, 43, 44, 45, 46, 47, 48, 49, 50, 51] (by decide +kernel) (by decide +kernel)
set_option maxRecDepth 20000 in
theorem gX8_dials_X8_dialsOf : GoodIn wsX8_dials (wsV RX8 170 RX8 yX8_dialsOf wsX8_dialsOf) := goodIn_app (goodIn_of _ (by decide +kernel)) ggX8_dials_X8_dialsOf
theorem dX8_dials_0 : decode cX8_dials 0 = .ok (.iload_n 1, 1) := by decide +kernel
theorem dX8_dials_1 : decode cX8_dials 1 = .ok (.iconst (-1), 1) := by decide +kernel
theorem dX8_dials_2 : decode cX8_dials 2 = .ok (.bipush 39, 2) := by decide +kernel
theorem dX8_dials_4 : decode cX8_dials 4 = .ok (.invokestatic 70, 3) := by decide +kernel
theorem dX8_dials_7 : decode cX8_dials 7 = .ok (.ifCond .eq 32, 3) := by decide +kernel
theorem dX8_dials_10 : decode cX8_dials 10 = .ok (.iload_n 2, 1) := by decide +kernel
theorem dX8_dials_11 : decode cX8_dials 11 = .ok (.iconst (-1), 1) := by decide +kernel
theorem dX8_dials_12 : decode cX8_dials 12 = .ok (.bipush 39, 2) := by decide +kernel
theorem dX8_dials_14 : decode cX8_dials 14 = .ok (.invokestatic 70, 3) := by decide +kernel
theorem dX8_dials_17 : decode cX8_dials 17 = .ok (.ifCond .eq 22, 3) := by decide +kernel
theorem dX8_dials_20 : decode cX8_dials 20 = .ok (.iload_n 3, 1) := by decide +kernel
theorem dX8_dials_21 : decode cX8_dials 21 = .ok (.iconst 0, 1) := by decide +kernel
theorem dX8_dials_22 : decode cX8_dials 22 = .ok (.iconst 1, 1) := by decide +kernel
theorem dX8_dials_23 : decode cX8_dials 23 = .ok (.invokestatic 70, 3) := by decide +kernel
theorem dX8_dials_26 : decode cX8_dials 26 = .ok (.ifCond .eq 13, 3) := by decide +kernel
theorem dX8_dials_29 : decode cX8_dials 29 = .ok (.aload_n 0, 1) := by decide +kernel
theorem dX8_dials_30 : decode cX8_dials 30 = .ok (.iload_n 1, 1) := by decide +kernel
theorem dX8_dials_31 : decode cX8_dials 31 = .ok (.iload_n 2, 1) := by decide +kernel
theorem dX8_dials_32 : decode cX8_dials 32 = .ok (.iload_n 3, 1) := by decide +kernel
theorem dX8_dials_33 : decode cX8_dials 33 = .ok (.invokevirtual 170, 3) := by decide +kernel
theorem dX8_dials_36 : decode cX8_dials 36 = .ok (.goto 5, 3) := by decide +kernel
theorem dX8_dials_39 : decode cX8_dials 39 = .ok (.bipush (-2), 2) := by decide +kernel
theorem dX8_dials_41 : decode cX8_dials 41 = .ok (.ireturn, 1) := by decide +kernel
theorem dX8_isUpBy_0 : decode cX8_isUpBy 0 = .ok (.iload_n 3, 1) := by decide +kernel
theorem dX8_isUpBy_1 : decode cX8_isUpBy 1 = .ok (.iload_n 2, 1) := by decide +kernel
theorem dX8_isUpBy_2 : decode cX8_isUpBy 2 = .ok (.iadd, 1) := by decide +kernel
theorem dX8_isUpBy_3 : decode cX8_isUpBy 3 = .ok (.aload_n 0, 1) := by decide +kernel
theorem dX8_isUpBy_4 : decode cX8_isUpBy 4 = .ok (.getfield 7, 3) := by decide +kernel
theorem dX8_isUpBy_7 : decode cX8_isUpBy 7 = .ok (.iload_n 1, 1) := by decide +kernel
theorem dX8_isUpBy_8 : decode cX8_isUpBy 8 = .ok (.iaload, 1) := by decide +kernel
theorem dX8_isUpBy_9 : decode cX8_isUpBy 9 = .ok (.irem, 1) := by decide +kernel
theorem dX8_isUpBy_10 : decode cX8_isUpBy 10 = .ok (.aload_n 0, 1) := by decide +kernel
theorem dX8_isUpBy_11 : decode cX8_isUpBy 11 = .ok (.getfield 16, 3) := by decide +kernel
theorem dX8_isUpBy_14 : decode cX8_isUpBy 14 = .ok (.iload_n 1, 1) := by decide +kernel
theorem dX8_isUpBy_15 : decode cX8_isUpBy 15 = .ok (.iaload, 1) := by decide +kernel
theorem dX8_isUpBy_16 : decode cX8_isUpBy 16 = .ok (.if_icmp .ge 7, 3) := by decide +kernel
theorem dX8_isUpBy_19 : decode cX8_isUpBy 19 = .ok (.iconst 1, 1) := by decide +kernel
theorem dX8_isUpBy_20 : decode cX8_isUpBy 20 = .ok (.goto 4, 3) := by decide +kernel
theorem dX8_isUpBy_23 : decode cX8_isUpBy 23 = .ok (.iconst 0, 1) := by decide +kernel
theorem dX8_isUpBy_24 : decode cX8_isUpBy 24 = .ok (.ireturn, 1) := by decide +kernel
set_option maxRecDepth 20000 in
theorem ggX8_doFit_X8_isUpBy : GoodIn wsX8_doFit wsX8_isUpBy := goodIn_r _ [7, 8, 9, 10, 11, 12, 13, 14, 15, 16, 17, 18, 19, 20, 21, 22, 23, 24, 25, 26, 27, 28, 29, 30, 31, 32, 33] (by decide +kernel) (by decide +kernel)
set_option maxRecDepth 20000 in
theorem gX8_doFit_X8_isUpBy : GoodIn wsX8_doFit (wsV RX8 173 RX8 yX8_isUpBy wsX8_isUpBy) := goodIn_app (goodIn_of _ (by decide +kernel)) ggX8_doFit_X8_isUpBy
theorem dX8_doFit_0 : decode cX8_doFit 0 = .ok (.iconst 0, 1) := by decide +kernel
theorem dX8_doFit_1 : decode cX8_doFit 1 = .ok (.istore_n 3, 1) := by decide +kernel
theorem dX8_doFit_2 : decode cX8_doFit 2 = .ok (.iload_n 3, 1) := by decide +kernel
theorem dX8_doFit_3 : decode cX8_doFit 3 = .ok (.aload_n 0, 1) := by decide +kernel
theorem dX8_doFit_4 : decode cX8_doFit 4 = .ok (.getfield 79, 3) := by decide +kernel
theorem dX8_doFit_7 : decode cX8_doFit 7 = .ok (.if_icmp .ge 65, 3) := by decide +kernel
theorem dX8_doFit_10 : decode cX8_doFit 10 = .ok (.aload_n 0, 1) := by decide +kernel
theorem dX8_doFit_11 : decode cX8_doFit 11 = .ok (.iconst 0, 1) := by decide +kernel
theorem dX8_doFit_12 : decode cX8_doFit 12 = .ok (.iload_n 1, 1) := by decide +kernel
theorem dX8_doFit_13 : decode cX8_doFit 13 = .ok (.iload_n 3, 1) := by decide +kernel
theorem dX8_doFit_14 : decode cX8_doFit 14 = .ok (.invokevirtual 173, 3) := by decide +kernel
theorem dX8_doFit_17 : decode cX8_doFit 17 = .ok (.ifCond .eq 7, 3) := by decide +kernel
theorem dX8_doFit_20 : decode cX8_doFit 20 = .ok (.iconst 1, 1) := by decide +kernel
theorem dX8_doFit_21 : decode cX8_doFit 21 = .ok (.goto 4, 3) := by decide +kernel
theorem dX8_doFit_24 : decode cX8_doFit 24 = .ok (.iconst 0, 1) := by decide +kernel
theorem dX8_doFit_25 : decode cX8_doFit 25 = .ok (.aload_n 0, 1) := by decide +kernel
theorem dX8_doFit_26 : decode cX8_doFit 26 = .ok (.iconst 1, 1) := by decide +kernel
theorem dX8_doFit_27 : decode cX8_doFit 27 = .ok (.iload_n 2, 1) := by decide +kernel
theorem dX8_doFit_28 : decode cX8_doFit 28 = .ok (.iload_n 3, 1) := by decide +kernel
theorem dX8_doFit_29 : decode cX8_doFit 29 = .ok (.invokevirtual 173, 3) := by decide +kernel
theorem dX8_doFit_32 : decode cX8_doFit 32 = .ok (.ifCond .eq 7, 3) := by decide +kernel
theorem dX8_doFit_35 : decode cX8_doFit 35 = .ok (.iconst 2, 1) := by decide +kernel
theorem dX8_doFit_36 : decode cX8_doFit 36 = .ok (.goto 4, 3) := by decide +kernel
theorem dX8_doFit_39 : decode cX8_doFit 39 = .ok (.iconst 0, 1) := by decide +kernel
theorem dX8_doFit_40 : decode cX8_doFit 40 = .ok (.iadd, 1) := by decide +kernel
theorem dX8_doFit_41 : decode cX8_doFit 41 = .ok (.istore 4, 2) := by decide +kernel
theorem dX8_doFit_43 : decode cX8_doFit 43 = .ok (.aload_n 0, 1) := by decide +kernel
theorem dX8_doFit_44 : decode cX8_doFit 44 = .ok (.getfield 25, 3) := by decide +kernel
theorem dX8_doFit_47 : decode cX8_doFit 47 = .ok (.iload_n 3, 1) := by decide +kernel
theorem dX8_doFit_48 : decode cX8_doFit 48 = .ok (.iaload, 1) := by decide +kernel
theorem dX8_doFit_49 : decode cX8_doFit 49 = .ok (.iconst (-1), 1) := by decide +kernel
theorem dX8_doFit_50 : decode cX8_doFit 50 = .ok (.if_icmp .eq 16, 3) := by decide +kernel
theorem dX8_doFit_53 : decode cX8_doFit 53 = .ok (.aload_n 0, 1) := by decide +kernel
theorem dX8_doFit_54 : decode cX8_doFit 54 = .ok (.getfield 25, 3) := by decide +kernel
theorem dX8_doFit_57 : decode cX8_doFit 57 = .ok (.iload_n 3, 1) := by decide +kernel
theorem dX8_doFit_58 : decode cX8_doFit 58 = .ok (.iaload, 1) := by decide +kernel
theorem dX8_doFit_59 : decode cX8_doFit 59 = .ok (.iload 4, 2) := by decide +kernel
theorem dX8_doFit_61 : decode cX8_doFit 61 = .ok (.if_icmp .eq 5, 3) := by decide +kernel
theorem dX8_doFit_64 : decode cX8_doFit 64 = .ok (.iconst 0, 1) := by decide +kernel
theorem dX8_doFit_65 : decode cX8_doFit 65 = .ok (.ireturn, 1) := by decide +kernel
theorem dX8_doFit_66 : decode cX8_doFit 66 = .ok (.iinc 3 1, 3) := by decide +kernel
theorem dX8_doFit_69 : decode cX8_doFit 69 = .ok (.goto (-67), 3) := by decide +kernel
theorem dX8_doFit_72 : decode cX8_doFit 72 = .ok (.iconst 1, 1) := by decide +kernel
theorem dX8_doFit_73 : decode cX8_doFit 73 = .ok (.ireturn, 1) := by decide +kernel
set_option maxRecDepth 20000 in
theorem ggX8_laysFits_X8_reads : GoodIn wsX8_laysFits wsX8_reads := goodIn_r _ [9, 10, 11, 12, 8, 13, 14, 15, 16, 17, 18, 19, 20, 21, 22, 23, 24, 25, 26, 27, 28, 29, 30, 31, 32, 33, 34, 44, 45, 46, 47, 48, 49, 50, 51, 52, 53, 54, 55, 56, 57, 58, 59, 60, 61, 62, 63, 64, 65, 66, 67] (by decide +kernel) (by decide +kernel)
set_option maxRecDepth 20000 in
theorem gX8_laysFits_X8_reads : GoodIn wsX8_laysFits (wsV RX8 132 RX8 yX8_reads wsX8_reads) := goodIn_app (goodIn_of _ (by decide +kernel)) ggX8_laysFits_X8_reads
set_option maxRecDepth 20000 in
theorem ggX8_laysFits_X8_doFit : GoodIn wsX8_laysFits wsX8_doFit := goodIn_r _ [38, 18, 21, 39, 40, 41, 8, 42, 3, 43, 44, 45, 46, 47, 48, 49, 50, 51, 52, 53, 54, 55, 56, 57, 58, 59, 60, 61, 62, 63, 64, 65, 66, 67] (by decide +kernel) (by decide +kernel)
set_option maxRecDepth 20000 in
theorem gX8_laysFits_X8_doFit : GoodIn wsX8_laysFits (wsV RX8 182 RX8 yX8_doFit wsX8_doFit) := goodIn_app (goodIn_of _ (by decide +kernel)) ggX8_laysFits_X8_doFit
theorem dX8_laysFits_0 : decode cX8_laysFits 0 = .ok (.aload_n 0, 1) := by decide +kernel
theorem dX8_laysFits_1 : decode cX8_laysFits 1 = .ok (.invokevirtual 132, 3) := by decide +kernel
theorem dX8_laysFits_4 : decode cX8_laysFits 4 = .ok (.aload_n 0, 1) := by decide +kernel
theorem dX8_laysFits_5 : decode cX8_laysFits 5 = .ok (.iconst 0, 1) := by decide +kernel
theorem dX8_laysFits_6 : decode cX8_laysFits 6 = .ok (.putfield 176, 3) := by decide +kernel
theorem dX8_laysFits_9 : decode cX8_laysFits 9 = .ok (.aload_n 0, 1) := by decide +kernel
theorem dX8_laysFits_10 : decode cX8_laysFits 10 = .ok (.iconst (-1), 1) := by decide +kernel
theorem dX8_laysFits_11 : decode cX8_laysFits 11 = .ok (.putfield 179, 3) := by decide +kernel
theorem dX8_laysFits_14 : decode cX8_laysFits 14 = .ok (.iconst 0, 1) := by decide +kernel
theorem dX8_laysFits_15 : decode cX8_laysFits 15 = .ok (.istore_n 1, 1) := by decide +kernel
theorem dX8_laysFits_16 : decode cX8_laysFits 16 = .ok (.iload_n 1, 1) := by decide +kernel
theorem dX8_laysFits_17 : decode cX8_laysFits 17 = .ok (.aload_n 0, 1) := by decide +kernel
theorem dX8_laysFits_18 : decode cX8_laysFits 18 = .ok (.getfield 7, 3) := by decide +kernel
theorem dX8_laysFits_21 : decode cX8_laysFits 21 = .ok (.iconst 0, 1) := by decide +kernel
theorem dX8_laysFits_22 : decode cX8_laysFits 22 = .ok (.iaload, 1) := by decide +kernel
theorem dX8_laysFits_23 : decode cX8_laysFits 23 = .ok (.if_icmp .ge 92, 3) := by decide +kernel
theorem dX8_laysFits_26 : decode cX8_laysFits 26 = .ok (.iconst 0, 1) := by decide +kernel
theorem dX8_laysFits_27 : decode cX8_laysFits 27 = .ok (.istore_n 2, 1) := by decide +kernel
theorem dX8_laysFits_28 : decode cX8_laysFits 28 = .ok (.iload_n 2, 1) := by decide +kernel
theorem dX8_laysFits_29 : decode cX8_laysFits 29 = .ok (.aload_n 0, 1) := by decide +kernel
theorem dX8_laysFits_30 : decode cX8_laysFits 30 = .ok (.getfield 7, 3) := by decide +kernel
theorem dX8_laysFits_33 : decode cX8_laysFits 33 = .ok (.iconst 1, 1) := by decide +kernel
theorem dX8_laysFits_34 : decode cX8_laysFits 34 = .ok (.iaload, 1) := by decide +kernel
theorem dX8_laysFits_35 : decode cX8_laysFits 35 = .ok (.if_icmp .ge 74, 3) := by decide +kernel
theorem dX8_laysFits_38 : decode cX8_laysFits 38 = .ok (.aload_n 0, 1) := by decide +kernel
theorem dX8_laysFits_39 : decode cX8_laysFits 39 = .ok (.iload_n 1, 1) := by decide +kernel
theorem dX8_laysFits_40 : decode cX8_laysFits 40 = .ok (.iload_n 2, 1) := by decide +kernel
theorem dX8_laysFits_41 : decode cX8_laysFits 41 = .ok (.invokevirtual 182, 3) := by decide +kernel
theorem dX8_laysFits_44 : decode cX8_laysFits 44 = .ok (.istore_n 3, 1) := by decide +kernel
theorem dX8_laysFits_45 : decode cX8_laysFits 45 = .ok (.aload_n 0, 1) := by decide +kernel
theorem dX8_laysFits_46 : decode cX8_laysFits 46 = .ok (.getfield 34, 3) := by decide +kernel
theorem dX8_laysFits_49 : decode cX8_laysFits 49 = .ok (.bipush 40, 2) := by decide +kernel
theorem dX8_laysFits_51 : decode cX8_laysFits 51 = .ok (.iload_n 1, 1) := by decide +kernel
theorem dX8_laysFits_52 : decode cX8_laysFits 52 = .ok (.imul, 1) := by decide +kernel
theorem dX8_laysFits_53 : decode cX8_laysFits 53 = .ok (.iload_n 2, 1) := by decide +kernel
theorem dX8_laysFits_54 : decode cX8_laysFits 54 = .ok (.iadd, 1) := by decide +kernel
theorem dX8_laysFits_55 : decode cX8_laysFits 55 = .ok (.iload_n 3, 1) := by decide +kernel
theorem dX8_laysFits_56 : decode cX8_laysFits 56 = .ok (.bastore, 1) := by decide +kernel
theorem dX8_laysFits_57 : decode cX8_laysFits 57 = .ok (.aload_n 0, 1) := by decide +kernel
theorem dX8_laysFits_58 : decode cX8_laysFits 58 = .ok (.iload_n 3, 1) := by decide +kernel
theorem dX8_laysFits_59 : decode cX8_laysFits 59 = .ok (.ifCond .eq 19, 3) := by decide +kernel
theorem dX8_laysFits_62 : decode cX8_laysFits 62 = .ok (.aload_n 0, 1) := by decide +kernel
theorem dX8_laysFits_63 : decode cX8_laysFits 63 = .ok (.getfield 176, 3) := by decide +kernel
theorem dX8_laysFits_66 : decode cX8_laysFits 66 = .ok (.ifCond .ne 12, 3) := by decide +kernel
theorem dX8_laysFits_69 : decode cX8_laysFits 69 = .ok (.bipush 40, 2) := by decide +kernel
theorem dX8_laysFits_71 : decode cX8_laysFits 71 = .ok (.iload_n 1, 1) := by decide +kernel
theorem dX8_laysFits_72 : decode cX8_laysFits 72 = .ok (.imul, 1) := by decide +kernel
theorem dX8_laysFits_73 : decode cX8_laysFits 73 = .ok (.iload_n 2, 1) := by decide +kernel
theorem dX8_laysFits_74 : decode cX8_laysFits 74 = .ok (.iadd, 1) := by decide +kernel
theorem dX8_laysFits_75 : decode cX8_laysFits 75 = .ok (.goto 7, 3) := by decide +kernel
theorem dX8_laysFits_78 : decode cX8_laysFits 78 = .ok (.aload_n 0, 1) := by decide +kernel
theorem dX8_laysFits_79 : decode cX8_laysFits 79 = .ok (.getfield 179, 3) := by decide +kernel
theorem dX8_laysFits_82 : decode cX8_laysFits 82 = .ok (.putfield 179, 3) := by decide +kernel
theorem dX8_laysFits_85 : decode cX8_laysFits 85 = .ok (.aload_n 0, 1) := by decide +kernel
theorem dX8_laysFits_86 : decode cX8_laysFits 86 = .ok (.dup, 1) := by decide +kernel
theorem dX8_laysFits_87 : decode cX8_laysFits 87 = .ok (.getfield 176, 3) := by decide +kernel
theorem dX8_laysFits_90 : decode cX8_laysFits 90 = .ok (.iload_n 3, 1) := by decide +kernel
theorem dX8_laysFits_91 : decode cX8_laysFits 91 = .ok (.ifCond .eq 7, 3) := by decide +kernel
theorem dX8_laysFits_94 : decode cX8_laysFits 94 = .ok (.iconst 1, 1) := by decide +kernel
theorem dX8_laysFits_95 : decode cX8_laysFits 95 = .ok (.goto 4, 3) := by decide +kernel
theorem dX8_laysFits_98 : decode cX8_laysFits 98 = .ok (.iconst 0, 1) := by decide +kernel
theorem dX8_laysFits_99 : decode cX8_laysFits 99 = .ok (.iadd, 1) := by decide +kernel
theorem dX8_laysFits_100 : decode cX8_laysFits 100 = .ok (.putfield 176, 3) := by decide +kernel
theorem dX8_laysFits_103 : decode cX8_laysFits 103 = .ok (.iinc 2 1, 3) := by decide +kernel
theorem dX8_laysFits_106 : decode cX8_laysFits 106 = .ok (.goto (-78), 3) := by decide +kernel
theorem dX8_laysFits_109 : decode cX8_laysFits 109 = .ok (.iinc 1 1, 3) := by decide +kernel
theorem dX8_laysFits_112 : decode cX8_laysFits 112 = .ok (.goto (-96), 3) := by decide +kernel
theorem dX8_laysFits_115 : decode cX8_laysFits 115 = .ok (.return_, 1) := by decide +kernel
set_option maxRecDepth 20000 in
theorem ggX8_fitsOf_X8_laysFits : GoodIn wsX8_fitsOf wsX8_laysFits := goodIn_r _ [7, 1, 2, 8, 9, 10, 11, 12, 6, 13, 14, 15, 16, 17, 18, 19, 20, 21, 22, 23, 24, 25, 26, 27, 28, 29, 30, 31, 32, 33, 34, 35, 36, 37, 38, 39, 40, 41, 42, 43, 44, 45, 46, 47, 48, 49, 50, 51, 52, 53, 54, 55, 56, 57, 58, 59, 60, 61, 62, 63, 64, 65, 66, 67, 68, 69, 70, 71] (by decide +kernel) (by decide +kernel)
set_option maxRecDepth 20000 in
theorem gX8_fitsOf_X8_laysFits : GoodIn wsX8_fitsOf (wsV RX8 185 RX8 yX8_laysFits wsX8_laysFits) := goodIn_app (goodIn_of _ (by decide +kernel)) ggX8_fitsOf_X8_laysFits
theorem dX8_fitsOf_0 : decode cX8_fitsOf 0 = .ok (.aload_n 0, 1) := by decide +kernel
theorem dX8_fitsOf_1 : decode cX8_fitsOf 1 = .ok (.invokevirtual 185, 3) := by decide +kernel
theorem dX8_fitsOf_4 : decode cX8_fitsOf 4 = .ok (.iload_n 1, 1) := by decide +kernel
theorem dX8_fitsOf_5 : decode cX8_fitsOf 5 = .ok (.ifCond .ne 10, 3) := by decide +kernel
theorem dX8_fitsOf_8 : decode cX8_fitsOf 8 = .ok (.aload_n 0, 1) := by decide +kernel
theorem dX8_fitsOf_9 : decode cX8_fitsOf 9 = .ok (.getfield 176, 3) := by decide +kernel
theorem dX8_fitsOf_12 : decode cX8_fitsOf 12 = .ok (.goto 7, 3) := by decide +kernel
theorem dX8_fitsOf_15 : decode cX8_fitsOf 15 = .ok (.aload_n 0, 1) := by decide +kernel
theorem dX8_fitsOf_16 : decode cX8_fitsOf 16 = .ok (.getfield 179, 3) := by decide +kernel
theorem dX8_fitsOf_19 : decode cX8_fitsOf 19 = .ok (.ireturn, 1) := by decide +kernel
set_option maxRecDepth 20000 in
theorem ggX8_fits_X8_in : GoodIn wsX8_fits wsX8_in := goodIn_r _ [4] (by decide +kernel) (by decide +kernel)
set_option maxRecDepth 20000 in
theorem gX8_fits_X8_in : GoodIn wsX8_fits (va_wsS RX8 70 yX8_in wsX8_in) := goodIn_app (goodIn_of _ (by decide +kernel)) ggX8_fits_X8_in
set_option maxRecDepth 20000 in
theorem ggX8_fits_X8_fitsOf : GoodIn wsX8_fits wsX8_fitsOf := goodIn_r _ [8, 9, 10, 11, 12, 13, 3, 14, 15, 16, 17, 18, 19, 20, 21, 22, 23, 24, 25, 26, 27, 28, 29, 30, 31, 32, 33, 34, 35, 36, 37, 38, 39, 40, 41, 42, 1, 2, 4, 43, 44, 45, 46, 47, 48, 49, 50, 51, 52, 53, 54, 55, 56, 57, 58, 59, 60, 61, 62, 63, 64, 65, 66, 67, 68, 69, 70, 71, 72, 73, 74, 75] (by decide +kernel) (by decide +kernel)
set_option maxRecDepth 20000 in
theorem gX8_fits_X8_fitsOf : GoodIn wsX8_fits (wsV RX8 188 RX8 yX8_fitsOf wsX8_fitsOf) := goodIn_app (goodIn_of _ (by decide +kernel)) ggX8_fits_X8_fitsOf
theorem dX8_fits_0 : decode cX8_fits 0 = .ok (.iload_n 1, 1) := by decide +kernel
theorem dX8_fits_1 : decode cX8_fits 1 = .ok (.iconst 0, 1) := by decide +kernel
theorem dX8_fits_2 : decode cX8_fits 2 = .ok (.iconst 1, 1) := by decide +kernel
theorem dX8_fits_3 : decode cX8_fits 3 = .ok (.invokestatic 70, 3) := by decide +kernel
theorem dX8_fits_6 : decode cX8_fits 6 = .ok (.ifCond .eq 11, 3) := by decide +kernel
theorem dX8_fits_9 : decode cX8_fits 9 = .ok (.aload_n 0, 1) := by decide +kernel
theorem dX8_fits_10 : decode cX8_fits 10 = .ok (.iload_n 1, 1) := by decide +kernel
theorem dX8_fits_11 : decode cX8_fits 11 = .ok (.invokevirtual 188, 3) := by decide +kernel
theorem dX8_fits_14 : decode cX8_fits 14 = .ok (.goto 5, 3) := by decide +kernel
theorem dX8_fits_17 : decode cX8_fits 17 = .ok (.bipush (-2), 2) := by decide +kernel
theorem dX8_fits_19 : decode cX8_fits 19 = .ok (.ireturn, 1) := by decide +kernel
set_option maxRecDepth 20000 in
theorem ggX8_worstAt_X8_isUpBy : GoodIn wsX8_worstAt wsX8_isUpBy := goodIn_r _ [8, 2, 9, 10, 11, 12, 13, 14, 15, 16, 17, 18, 19, 20, 21, 22, 23, 24, 25, 26, 27, 28, 29, 30, 31, 32, 33] (by decide +kernel) (by decide +kernel)
set_option maxRecDepth 20000 in
theorem gX8_worstAt_X8_isUpBy : GoodIn wsX8_worstAt (wsV RX8 173 RX8 yX8_isUpBy wsX8_isUpBy) := goodIn_app (goodIn_of _ (by decide +kernel)) ggX8_worstAt_X8_isUpBy
theorem dX8_worstAt_0 : decode cX8_worstAt 0 = .ok (.iconst 0, 1) := by decide +kernel
theorem dX8_worstAt_1 : decode cX8_worstAt 1 = .ok (.istore_n 2, 1) := by decide +kernel
theorem dX8_worstAt_2 : decode cX8_worstAt 2 = .ok (.iload_n 2, 1) := by decide +kernel
theorem dX8_worstAt_3 : decode cX8_worstAt 3 = .ok (.iconst 4, 1) := by decide +kernel
theorem dX8_worstAt_4 : decode cX8_worstAt 4 = .ok (.if_icmp .ge 16, 3) := by decide +kernel
theorem dX8_worstAt_7 : decode cX8_worstAt 7 = .ok (.aload_n 0, 1) := by decide +kernel
theorem dX8_worstAt_8 : decode cX8_worstAt 8 = .ok (.getfield 38, 3) := by decide +kernel
theorem dX8_worstAt_11 : decode cX8_worstAt 11 = .ok (.iload_n 2, 1) := by decide +kernel
theorem dX8_worstAt_12 : decode cX8_worstAt 12 = .ok (.iconst 0, 1) := by decide +kernel
theorem dX8_worstAt_13 : decode cX8_worstAt 13 = .ok (.iastore, 1) := by decide +kernel
theorem dX8_worstAt_14 : decode cX8_worstAt 14 = .ok (.iinc 2 1, 3) := by decide +kernel
theorem dX8_worstAt_17 : decode cX8_worstAt 17 = .ok (.goto (-15), 3) := by decide +kernel
theorem dX8_worstAt_20 : decode cX8_worstAt 20 = .ok (.iconst 0, 1) := by decide +kernel
theorem dX8_worstAt_21 : decode cX8_worstAt 21 = .ok (.istore_n 2, 1) := by decide +kernel
theorem dX8_worstAt_22 : decode cX8_worstAt 22 = .ok (.iload_n 2, 1) := by decide +kernel
theorem dX8_worstAt_23 : decode cX8_worstAt 23 = .ok (.aload_n 0, 1) := by decide +kernel
theorem dX8_worstAt_24 : decode cX8_worstAt 24 = .ok (.getfield 7, 3) := by decide +kernel
theorem dX8_worstAt_27 : decode cX8_worstAt 27 = .ok (.iconst 0, 1) := by decide +kernel
theorem dX8_worstAt_28 : decode cX8_worstAt 28 = .ok (.iaload, 1) := by decide +kernel
theorem dX8_worstAt_29 : decode cX8_worstAt 29 = .ok (.if_icmp .ge 87, 3) := by decide +kernel
theorem dX8_worstAt_32 : decode cX8_worstAt 32 = .ok (.aload_n 0, 1) := by decide +kernel
theorem dX8_worstAt_33 : decode cX8_worstAt 33 = .ok (.iconst 0, 1) := by decide +kernel
theorem dX8_worstAt_34 : decode cX8_worstAt 34 = .ok (.iload_n 2, 1) := by decide +kernel
theorem dX8_worstAt_35 : decode cX8_worstAt 35 = .ok (.iload_n 1, 1) := by decide +kernel
theorem dX8_worstAt_36 : decode cX8_worstAt 36 = .ok (.invokevirtual 173, 3) := by decide +kernel
theorem dX8_worstAt_39 : decode cX8_worstAt 39 = .ok (.ifCond .eq 7, 3) := by decide +kernel
theorem dX8_worstAt_42 : decode cX8_worstAt 42 = .ok (.iconst 1, 1) := by decide +kernel
theorem dX8_worstAt_43 : decode cX8_worstAt 43 = .ok (.goto 4, 3) := by decide +kernel
theorem dX8_worstAt_46 : decode cX8_worstAt 46 = .ok (.iconst 0, 1) := by decide +kernel
theorem dX8_worstAt_47 : decode cX8_worstAt 47 = .ok (.istore_n 3, 1) := by decide +kernel
theorem dX8_worstAt_48 : decode cX8_worstAt 48 = .ok (.iconst 0, 1) := by decide +kernel
theorem dX8_worstAt_49 : decode cX8_worstAt 49 = .ok (.istore 4, 2) := by decide +kernel
theorem dX8_worstAt_51 : decode cX8_worstAt 51 = .ok (.iload 4, 2) := by decide +kernel
theorem dX8_worstAt_53 : decode cX8_worstAt 53 = .ok (.aload_n 0, 1) := by decide +kernel
theorem dX8_worstAt_54 : decode cX8_worstAt 54 = .ok (.getfield 7, 3) := by decide +kernel
theorem dX8_worstAt_57 : decode cX8_worstAt 57 = .ok (.iconst 1, 1) := by decide +kernel
theorem dX8_worstAt_58 : decode cX8_worstAt 58 = .ok (.iaload, 1) := by decide +kernel
theorem dX8_worstAt_59 : decode cX8_worstAt 59 = .ok (.if_icmp .ge 51, 3) := by decide +kernel
theorem dX8_worstAt_62 : decode cX8_worstAt 62 = .ok (.aload_n 0, 1) := by decide +kernel
theorem dX8_worstAt_63 : decode cX8_worstAt 63 = .ok (.getfield 34, 3) := by decide +kernel
theorem dX8_worstAt_66 : decode cX8_worstAt 66 = .ok (.bipush 40, 2) := by decide +kernel
theorem dX8_worstAt_68 : decode cX8_worstAt 68 = .ok (.iload_n 2, 1) := by decide +kernel
theorem dX8_worstAt_69 : decode cX8_worstAt 69 = .ok (.imul, 1) := by decide +kernel
theorem dX8_worstAt_70 : decode cX8_worstAt 70 = .ok (.iload 4, 2) := by decide +kernel
theorem dX8_worstAt_72 : decode cX8_worstAt 72 = .ok (.iadd, 1) := by decide +kernel
theorem dX8_worstAt_73 : decode cX8_worstAt 73 = .ok (.baload, 1) := by decide +kernel
theorem dX8_worstAt_74 : decode cX8_worstAt 74 = .ok (.ifCond .eq 30, 3) := by decide +kernel
theorem dX8_worstAt_77 : decode cX8_worstAt 77 = .ok (.aload_n 0, 1) := by decide +kernel
theorem dX8_worstAt_78 : decode cX8_worstAt 78 = .ok (.getfield 38, 3) := by decide +kernel
theorem dX8_worstAt_81 : decode cX8_worstAt 81 = .ok (.iload_n 3, 1) := by decide +kernel
theorem dX8_worstAt_82 : decode cX8_worstAt 82 = .ok (.aload_n 0, 1) := by decide +kernel
theorem dX8_worstAt_83 : decode cX8_worstAt 83 = .ok (.iconst 1, 1) := by decide +kernel
theorem dX8_worstAt_84 : decode cX8_worstAt 84 = .ok (.iload 4, 2) := by decide +kernel
theorem dX8_worstAt_86 : decode cX8_worstAt 86 = .ok (.iload_n 1, 1) := by decide +kernel
theorem dX8_worstAt_87 : decode cX8_worstAt 87 = .ok (.invokevirtual 173, 3) := by decide +kernel
theorem dX8_worstAt_90 : decode cX8_worstAt 90 = .ok (.ifCond .eq 7, 3) := by decide +kernel
theorem dX8_worstAt_93 : decode cX8_worstAt 93 = .ok (.iconst 2, 1) := by decide +kernel
theorem dX8_worstAt_94 : decode cX8_worstAt 94 = .ok (.goto 4, 3) := by decide +kernel
theorem dX8_worstAt_97 : decode cX8_worstAt 97 = .ok (.iconst 0, 1) := by decide +kernel
theorem dX8_worstAt_98 : decode cX8_worstAt 98 = .ok (.iadd, 1) := by decide +kernel
theorem dX8_worstAt_99 : decode cX8_worstAt 99 = .ok (.dup2, 1) := by decide +kernel
theorem dX8_worstAt_100 : decode cX8_worstAt 100 = .ok (.iaload, 1) := by decide +kernel
theorem dX8_worstAt_101 : decode cX8_worstAt 101 = .ok (.iconst 1, 1) := by decide +kernel
theorem dX8_worstAt_102 : decode cX8_worstAt 102 = .ok (.iadd, 1) := by decide +kernel
theorem dX8_worstAt_103 : decode cX8_worstAt 103 = .ok (.iastore, 1) := by decide +kernel
theorem dX8_worstAt_104 : decode cX8_worstAt 104 = .ok (.iinc 4 1, 3) := by decide +kernel
theorem dX8_worstAt_107 : decode cX8_worstAt 107 = .ok (.goto (-56), 3) := by decide +kernel
theorem dX8_worstAt_110 : decode cX8_worstAt 110 = .ok (.iinc 2 1, 3) := by decide +kernel
theorem dX8_worstAt_113 : decode cX8_worstAt 113 = .ok (.goto (-91), 3) := by decide +kernel
theorem dX8_worstAt_116 : decode cX8_worstAt 116 = .ok (.iconst 0, 1) := by decide +kernel
theorem dX8_worstAt_117 : decode cX8_worstAt 117 = .ok (.istore_n 2, 1) := by decide +kernel
theorem dX8_worstAt_118 : decode cX8_worstAt 118 = .ok (.iconst 0, 1) := by decide +kernel
theorem dX8_worstAt_119 : decode cX8_worstAt 119 = .ok (.istore_n 3, 1) := by decide +kernel
theorem dX8_worstAt_120 : decode cX8_worstAt 120 = .ok (.iload_n 3, 1) := by decide +kernel
theorem dX8_worstAt_121 : decode cX8_worstAt 121 = .ok (.iconst 4, 1) := by decide +kernel
theorem dX8_worstAt_122 : decode cX8_worstAt 122 = .ok (.if_icmp .ge 30, 3) := by decide +kernel
theorem dX8_worstAt_125 : decode cX8_worstAt 125 = .ok (.aload_n 0, 1) := by decide +kernel
theorem dX8_worstAt_126 : decode cX8_worstAt 126 = .ok (.getfield 38, 3) := by decide +kernel
theorem dX8_worstAt_129 : decode cX8_worstAt 129 = .ok (.iload_n 3, 1) := by decide +kernel
theorem dX8_worstAt_130 : decode cX8_worstAt 130 = .ok (.iaload, 1) := by decide +kernel
theorem dX8_worstAt_131 : decode cX8_worstAt 131 = .ok (.iload_n 2, 1) := by decide +kernel
theorem dX8_worstAt_132 : decode cX8_worstAt 132 = .ok (.if_icmp .le 12, 3) := by decide +kernel
theorem dX8_worstAt_135 : decode cX8_worstAt 135 = .ok (.aload_n 0, 1) := by decide +kernel
theorem dX8_worstAt_136 : decode cX8_worstAt 136 = .ok (.getfield 38, 3) := by decide +kernel
theorem dX8_worstAt_139 : decode cX8_worstAt 139 = .ok (.iload_n 3, 1) := by decide +kernel
theorem dX8_worstAt_140 : decode cX8_worstAt 140 = .ok (.iaload, 1) := by decide +kernel
theorem dX8_worstAt_141 : decode cX8_worstAt 141 = .ok (.goto 4, 3) := by decide +kernel
theorem dX8_worstAt_144 : decode cX8_worstAt 144 = .ok (.iload_n 2, 1) := by decide +kernel
theorem dX8_worstAt_145 : decode cX8_worstAt 145 = .ok (.istore_n 2, 1) := by decide +kernel
theorem dX8_worstAt_146 : decode cX8_worstAt 146 = .ok (.iinc 3 1, 3) := by decide +kernel
theorem dX8_worstAt_149 : decode cX8_worstAt 149 = .ok (.goto (-29), 3) := by decide +kernel
theorem dX8_worstAt_152 : decode cX8_worstAt 152 = .ok (.iload_n 2, 1) := by decide +kernel
theorem dX8_worstAt_153 : decode cX8_worstAt 153 = .ok (.ireturn, 1) := by decide +kernel
set_option maxRecDepth 20000 in
theorem ggX8_watchOf_X8_laysFits : GoodIn wsX8_watchOf wsX8_laysFits := goodIn_r _ [7, 1, 8, 9, 10, 11, 12, 13, 6, 14, 15, 16, 17, 18, 19, 20, 21, 22, 2, 23, 24, 25, 26, 27, 28, 29, 30, 31, 32, 33, 34, 35, 36, 37, 38, 39, 40, 41, 42, 43, 44, 45, 46, 47, 57, 58, 59, 60, 61, 62, 63, 64, 65, 66, 67, 68, 69, 70, 71, 72, 73, 74, 75, 76, 77, 78, 79, 80] (by decide +kernel) (by decide +kernel)
set_option maxRecDepth 20000 in
theorem gX8_watchOf_X8_laysFits : GoodIn wsX8_watchOf (wsV RX8 185 RX8 yX8_laysFits wsX8_laysFits) := goodIn_app (goodIn_of _ (by decide +kernel)) ggX8_watchOf_X8_laysFits
set_option maxRecDepth 20000 in
theorem ggX8_watchOf_X8_roundNow : GoodIn wsX8_watchOf wsX8_roundNow := goodIn_r _ [51, 9, 57, 58, 59, 60, 61, 62, 63, 64, 65, 66, 67, 68, 69, 70, 71, 72, 73, 74, 75, 76, 77, 78, 79, 80] (by decide +kernel) (by decide +kernel)
set_option maxRecDepth 20000 in
theorem gX8_watchOf_X8_roundNow : GoodIn wsX8_watchOf (wsV RX8 114 RX8 yX8_roundNow wsX8_roundNow) := goodIn_app (goodIn_of _ (by decide +kernel)) ggX8_watchOf_X8_roundNow
set_option maxRecDepth 20000 in
theorem ggX8_watchOf_X8_worstAt : GoodIn wsX8_watchOf wsX8_worstAt := goodIn_r _ [55, 56, 9, 10, 43, 44, 45, 6, 46, 47, 57, 58, 59, 60, 61, 62, 63, 64, 65, 66, 67, 68, 69, 70, 71, 72, 73, 74, 75, 76, 77, 78, 79, 80] (by decide +kernel) (by decide +kernel)
set_option maxRecDepth 20000 in
theorem gX8_watchOf_X8_worstAt : GoodIn wsX8_watchOf (wsV RX8 191 RX8 yX8_worstAt wsX8_worstAt) := goodIn_app (goodIn_of _ (by decide +kernel)) ggX8_watchOf_X8_worstAt
theorem dX8_watchOf_0 : decode cX8_watchOf 0 = .ok (.aload_n 0, 1) := by decide +kernel
theorem dX8_watchOf_1 : decode cX8_watchOf 1 = .ok (.invokevirtual 185, 3) := by decide +kernel
theorem dX8_watchOf_4 : decode cX8_watchOf 4 = .ok (.aload_n 0, 1) := by decide +kernel
theorem dX8_watchOf_5 : decode cX8_watchOf 5 = .ok (.getfield 176, 3) := by decide +kernel
theorem dX8_watchOf_8 : decode cX8_watchOf 8 = .ok (.ifCond .ne 6, 3) := by decide +kernel
theorem dX8_watchOf_11 : decode cX8_watchOf 11 = .ok (.bipush (-3), 2) := by decide +kernel
theorem dX8_watchOf_13 : decode cX8_watchOf 13 = .ok (.ireturn, 1) := by decide +kernel
theorem dX8_watchOf_14 : decode cX8_watchOf 14 = .ok (.aload_n 0, 1) := by decide +kernel
theorem dX8_watchOf_15 : decode cX8_watchOf 15 = .ok (.invokevirtual 114, 3) := by decide +kernel
theorem dX8_watchOf_18 : decode cX8_watchOf 18 = .ok (.istore_n 2, 1) := by decide +kernel
theorem dX8_watchOf_19 : decode cX8_watchOf 19 = .ok (.aload_n 0, 1) := by decide +kernel
theorem dX8_watchOf_20 : decode cX8_watchOf 20 = .ok (.getfield 79, 3) := by decide +kernel
theorem dX8_watchOf_23 : decode cX8_watchOf 23 = .ok (.istore_n 3, 1) := by decide +kernel
theorem dX8_watchOf_24 : decode cX8_watchOf 24 = .ok (.aload_n 0, 1) := by decide +kernel
theorem dX8_watchOf_25 : decode cX8_watchOf 25 = .ok (.aload_n 0, 1) := by decide +kernel
theorem dX8_watchOf_26 : decode cX8_watchOf 26 = .ok (.getfield 79, 3) := by decide +kernel
theorem dX8_watchOf_29 : decode cX8_watchOf 29 = .ok (.invokevirtual 191, 3) := by decide +kernel
theorem dX8_watchOf_32 : decode cX8_watchOf 32 = .ok (.istore 4, 2) := by decide +kernel
theorem dX8_watchOf_34 : decode cX8_watchOf 34 = .ok (.aload_n 0, 1) := by decide +kernel
theorem dX8_watchOf_35 : decode cX8_watchOf 35 = .ok (.getfield 79, 3) := by decide +kernel
theorem dX8_watchOf_38 : decode cX8_watchOf 38 = .ok (.iconst 1, 1) := by decide +kernel
theorem dX8_watchOf_39 : decode cX8_watchOf 39 = .ok (.iadd, 1) := by decide +kernel
theorem dX8_watchOf_40 : decode cX8_watchOf 40 = .ok (.istore 5, 2) := by decide +kernel
theorem dX8_watchOf_42 : decode cX8_watchOf 42 = .ok (.iload 5, 2) := by decide +kernel
theorem dX8_watchOf_44 : decode cX8_watchOf 44 = .ok (.aload_n 0, 1) := by decide +kernel
theorem dX8_watchOf_45 : decode cX8_watchOf 45 = .ok (.getfield 79, 3) := by decide +kernel
theorem dX8_watchOf_48 : decode cX8_watchOf 48 = .ok (.iload_n 2, 1) := by decide +kernel
theorem dX8_watchOf_49 : decode cX8_watchOf 49 = .ok (.iadd, 1) := by decide +kernel
theorem dX8_watchOf_50 : decode cX8_watchOf 50 = .ok (.if_icmp .ge 47, 3) := by decide +kernel
theorem dX8_watchOf_53 : decode cX8_watchOf 53 = .ok (.aload_n 0, 1) := by decide +kernel
theorem dX8_watchOf_54 : decode cX8_watchOf 54 = .ok (.iload 5, 2) := by decide +kernel
theorem dX8_watchOf_56 : decode cX8_watchOf 56 = .ok (.invokevirtual 191, 3) := by decide +kernel
theorem dX8_watchOf_59 : decode cX8_watchOf 59 = .ok (.istore 6, 2) := by decide +kernel
theorem dX8_watchOf_61 : decode cX8_watchOf 61 = .ok (.iload 6, 2) := by decide +kernel
theorem dX8_watchOf_63 : decode cX8_watchOf 63 = .ok (.iload 4, 2) := by decide +kernel
theorem dX8_watchOf_65 : decode cX8_watchOf 65 = .ok (.if_icmp .ge 8, 3) := by decide +kernel
theorem dX8_watchOf_68 : decode cX8_watchOf 68 = .ok (.iload 5, 2) := by decide +kernel
theorem dX8_watchOf_70 : decode cX8_watchOf 70 = .ok (.goto 4, 3) := by decide +kernel
theorem dX8_watchOf_73 : decode cX8_watchOf 73 = .ok (.iload_n 3, 1) := by decide +kernel
theorem dX8_watchOf_74 : decode cX8_watchOf 74 = .ok (.istore_n 3, 1) := by decide +kernel
theorem dX8_watchOf_75 : decode cX8_watchOf 75 = .ok (.iload 6, 2) := by decide +kernel
theorem dX8_watchOf_77 : decode cX8_watchOf 77 = .ok (.iload 4, 2) := by decide +kernel
theorem dX8_watchOf_79 : decode cX8_watchOf 79 = .ok (.if_icmp .ge 8, 3) := by decide +kernel
theorem dX8_watchOf_82 : decode cX8_watchOf 82 = .ok (.iload 6, 2) := by decide +kernel
theorem dX8_watchOf_84 : decode cX8_watchOf 84 = .ok (.goto 5, 3) := by decide +kernel
theorem dX8_watchOf_87 : decode cX8_watchOf 87 = .ok (.iload 4, 2) := by decide +kernel
theorem dX8_watchOf_89 : decode cX8_watchOf 89 = .ok (.istore 4, 2) := by decide +kernel
theorem dX8_watchOf_91 : decode cX8_watchOf 91 = .ok (.iinc 5 1, 3) := by decide +kernel
theorem dX8_watchOf_94 : decode cX8_watchOf 94 = .ok (.goto (-52), 3) := by decide +kernel
theorem dX8_watchOf_97 : decode cX8_watchOf 97 = .ok (.iload_n 1, 1) := by decide +kernel
theorem dX8_watchOf_98 : decode cX8_watchOf 98 = .ok (.ifCond .ne 7, 3) := by decide +kernel
theorem dX8_watchOf_101 : decode cX8_watchOf 101 = .ok (.iload_n 3, 1) := by decide +kernel
theorem dX8_watchOf_102 : decode cX8_watchOf 102 = .ok (.goto 5, 3) := by decide +kernel
theorem dX8_watchOf_105 : decode cX8_watchOf 105 = .ok (.iload 4, 2) := by decide +kernel
theorem dX8_watchOf_107 : decode cX8_watchOf 107 = .ok (.ireturn, 1) := by decide +kernel
set_option maxRecDepth 20000 in
theorem ggX8_watch_X8_in : GoodIn wsX8_watch wsX8_in := goodIn_r _ [4] (by decide +kernel) (by decide +kernel)
set_option maxRecDepth 20000 in
theorem gX8_watch_X8_in : GoodIn wsX8_watch (va_wsS RX8 70 yX8_in wsX8_in) := goodIn_app (goodIn_of _ (by decide +kernel)) ggX8_watch_X8_in
set_option maxRecDepth 20000 in
theorem ggX8_watch_X8_watchOf : GoodIn wsX8_watch wsX8_watchOf := goodIn_r _ [8, 9, 10, 11, 12, 13, 3, 14, 15, 16, 17, 18, 19, 20, 21, 22, 23, 24, 25, 26, 27, 28, 29, 30, 31, 32, 33, 34, 35, 36, 37, 38, 39, 40, 41, 42, 1, 2, 4, 43, 44, 45, 46, 47, 48, 49, 50, 51, 52, 53, 54, 55, 56, 57, 58, 59, 60, 61, 62, 63, 64, 65, 66, 67, 68, 69, 70, 71, 72, 73, 74, 75, 76, 77, 78, 79, 80, 81, 82, 83, 84] (by decide +kernel) (by decide +kernel)
set_option maxRecDepth 20000 in
theorem gX8_watch_X8_watchOf : GoodIn wsX8_watch (wsV RX8 194 RX8 yX8_watchOf wsX8_watchOf) := goodIn_app (goodIn_of _ (by decide +kernel)) ggX8_watch_X8_watchOf
theorem dX8_watch_0 : decode cX8_watch 0 = .ok (.iload_n 1, 1) := by decide +kernel
theorem dX8_watch_1 : decode cX8_watch 1 = .ok (.iconst 0, 1) := by decide +kernel
theorem dX8_watch_2 : decode cX8_watch 2 = .ok (.iconst 1, 1) := by decide +kernel
theorem dX8_watch_3 : decode cX8_watch 3 = .ok (.invokestatic 70, 3) := by decide +kernel
theorem dX8_watch_6 : decode cX8_watch 6 = .ok (.ifCond .eq 11, 3) := by decide +kernel
theorem dX8_watch_9 : decode cX8_watch 9 = .ok (.aload_n 0, 1) := by decide +kernel
theorem dX8_watch_10 : decode cX8_watch 10 = .ok (.iload_n 1, 1) := by decide +kernel
theorem dX8_watch_11 : decode cX8_watch 11 = .ok (.invokevirtual 194, 3) := by decide +kernel
theorem dX8_watch_14 : decode cX8_watch 14 = .ok (.goto 5, 3) := by decide +kernel
theorem dX8_watch_17 : decode cX8_watch 17 = .ok (.bipush (-2), 2) := by decide +kernel
theorem dX8_watch_19 : decode cX8_watch 19 = .ok (.ireturn, 1) := by decide +kernel
set_option maxRecDepth 20000 in
theorem ggX8_worth_X8_isPerson : GoodIn wsX8_worth wsX8_isPerson := goodIn_r _ [5, 6, 7, 4, 8] (by decide +kernel) (by decide +kernel)
set_option maxRecDepth 20000 in
theorem gX8_worth_X8_isPerson : GoodIn wsX8_worth (va_wsS RX8 152 yX8_isPerson wsX8_isPerson) := goodIn_app (goodIn_of _ (by decide +kernel)) ggX8_worth_X8_isPerson
set_option maxRecDepth 20000 in
theorem ggX8_worth_X8_in : GoodIn wsX8_worth wsX8_in := goodIn_r _ [8] (by decide +kernel) (by decide +kernel)
set_option maxRecDepth 20000 in
theorem gX8_worth_X8_in : GoodIn wsX8_worth (va_wsS RX8 70 yX8_in wsX8_in) := goodIn_app (goodIn_of _ (by decide +kernel)) ggX8_worth_X8_in
theorem dX8_worth_0 : decode cX8_worth 0 = .ok (.iload_n 1, 1) := by decide +kernel
theorem dX8_worth_1 : decode cX8_worth 1 = .ok (.invokestatic 152, 3) := by decide +kernel
theorem dX8_worth_4 : decode cX8_worth 4 = .ok (.ifCond .eq 13, 3) := by decide +kernel
theorem dX8_worth_7 : decode cX8_worth 7 = .ok (.iload_n 2, 1) := by decide +kernel
theorem dX8_worth_8 : decode cX8_worth 8 = .ok (.iconst 0, 1) := by decide +kernel
theorem dX8_worth_9 : decode cX8_worth 9 = .ok (.bipush 99, 2) := by decide +kernel
theorem dX8_worth_11 : decode cX8_worth 11 = .ok (.invokestatic 70, 3) := by decide +kernel
theorem dX8_worth_14 : decode cX8_worth 14 = .ok (.ifCond .ne 6, 3) := by decide +kernel
theorem dX8_worth_17 : decode cX8_worth 17 = .ok (.bipush (-2), 2) := by decide +kernel
theorem dX8_worth_19 : decode cX8_worth 19 = .ok (.ireturn, 1) := by decide +kernel
theorem dX8_worth_20 : decode cX8_worth 20 = .ok (.aload_n 0, 1) := by decide +kernel
theorem dX8_worth_21 : decode cX8_worth 21 = .ok (.getfield 41, 3) := by decide +kernel
theorem dX8_worth_24 : decode cX8_worth 24 = .ok (.iload_n 1, 1) := by decide +kernel
theorem dX8_worth_25 : decode cX8_worth 25 = .ok (.iaload, 1) := by decide +kernel
theorem dX8_worth_26 : decode cX8_worth 26 = .ok (.istore_n 3, 1) := by decide +kernel
theorem dX8_worth_27 : decode cX8_worth 27 = .ok (.aload_n 0, 1) := by decide +kernel
theorem dX8_worth_28 : decode cX8_worth 28 = .ok (.getfield 41, 3) := by decide +kernel
theorem dX8_worth_31 : decode cX8_worth 31 = .ok (.iload_n 1, 1) := by decide +kernel
theorem dX8_worth_32 : decode cX8_worth 32 = .ok (.iload_n 2, 1) := by decide +kernel
theorem dX8_worth_33 : decode cX8_worth 33 = .ok (.iastore, 1) := by decide +kernel
theorem dX8_worth_34 : decode cX8_worth 34 = .ok (.iload_n 3, 1) := by decide +kernel
theorem dX8_worth_35 : decode cX8_worth 35 = .ok (.ireturn, 1) := by decide +kernel
set_option maxRecDepth 20000 in
theorem ggX8_priceOf_X8_isIn : GoodIn wsX8_priceOf wsX8_isIn := goodIn_r _ [6] (by decide +kernel) (by decide +kernel)
set_option maxRecDepth 20000 in
theorem gX8_priceOf_X8_isIn : GoodIn wsX8_priceOf (va_wsS RX8 155 yX8_isIn wsX8_isIn) := goodIn_app (goodIn_of _ (by decide +kernel)) ggX8_priceOf_X8_isIn
theorem dX8_priceOf_0 : decode cX8_priceOf 0 = .ok (.iconst 0, 1) := by decide +kernel
theorem dX8_priceOf_1 : decode cX8_priceOf 1 = .ok (.istore_n 2, 1) := by decide +kernel
theorem dX8_priceOf_2 : decode cX8_priceOf 2 = .ok (.iconst 0, 1) := by decide +kernel
theorem dX8_priceOf_3 : decode cX8_priceOf 3 = .ok (.istore_n 3, 1) := by decide +kernel
theorem dX8_priceOf_4 : decode cX8_priceOf 4 = .ok (.iload_n 3, 1) := by decide +kernel
theorem dX8_priceOf_5 : decode cX8_priceOf 5 = .ok (.bipush 6, 2) := by decide +kernel
theorem dX8_priceOf_7 : decode cX8_priceOf 7 = .ok (.if_icmp .ge 32, 3) := by decide +kernel
theorem dX8_priceOf_10 : decode cX8_priceOf 10 = .ok (.iload_n 2, 1) := by decide +kernel
theorem dX8_priceOf_11 : decode cX8_priceOf 11 = .ok (.aload_n 0, 1) := by decide +kernel
theorem dX8_priceOf_12 : decode cX8_priceOf 12 = .ok (.getfield 31, 3) := by decide +kernel
theorem dX8_priceOf_15 : decode cX8_priceOf 15 = .ok (.iload_n 3, 1) := by decide +kernel
theorem dX8_priceOf_16 : decode cX8_priceOf 16 = .ok (.iaload, 1) := by decide +kernel
theorem dX8_priceOf_17 : decode cX8_priceOf 17 = .ok (.iconst 3, 1) := by decide +kernel
theorem dX8_priceOf_18 : decode cX8_priceOf 18 = .ok (.invokestatic 155, 3) := by decide +kernel
theorem dX8_priceOf_21 : decode cX8_priceOf 21 = .ok (.ifCond .eq 7, 3) := by decide +kernel
theorem dX8_priceOf_24 : decode cX8_priceOf 24 = .ok (.iconst 0, 1) := by decide +kernel
theorem dX8_priceOf_25 : decode cX8_priceOf 25 = .ok (.goto 6, 3) := by decide +kernel
theorem dX8_priceOf_28 : decode cX8_priceOf 28 = .ok (.iconst 1, 1) := by decide +kernel
theorem dX8_priceOf_29 : decode cX8_priceOf 29 = .ok (.iload_n 3, 1) := by decide +kernel
theorem dX8_priceOf_30 : decode cX8_priceOf 30 = .ok (.ishl, 1) := by decide +kernel
theorem dX8_priceOf_31 : decode cX8_priceOf 31 = .ok (.ior, 1) := by decide +kernel
theorem dX8_priceOf_32 : decode cX8_priceOf 32 = .ok (.istore_n 2, 1) := by decide +kernel
theorem dX8_priceOf_33 : decode cX8_priceOf 33 = .ok (.iinc 3 1, 3) := by decide +kernel
theorem dX8_priceOf_36 : decode cX8_priceOf 36 = .ok (.goto (-32), 3) := by decide +kernel
theorem dX8_priceOf_39 : decode cX8_priceOf 39 = .ok (.iconst 0, 1) := by decide +kernel
theorem dX8_priceOf_40 : decode cX8_priceOf 40 = .ok (.istore_n 3, 1) := by decide +kernel
theorem dX8_priceOf_41 : decode cX8_priceOf 41 = .ok (.iconst 0, 1) := by decide +kernel
theorem dX8_priceOf_42 : decode cX8_priceOf 42 = .ok (.istore 4, 2) := by decide +kernel
theorem dX8_priceOf_44 : decode cX8_priceOf 44 = .ok (.iload 4, 2) := by decide +kernel
theorem dX8_priceOf_46 : decode cX8_priceOf 46 = .ok (.iload_n 1, 1) := by decide +kernel
theorem dX8_priceOf_47 : decode cX8_priceOf 47 = .ok (.if_icmp .gt 106, 3) := by decide +kernel
theorem dX8_priceOf_50 : decode cX8_priceOf 50 = .ok (.iconst (-1), 1) := by decide +kernel
theorem dX8_priceOf_51 : decode cX8_priceOf 51 = .ok (.istore 5, 2) := by decide +kernel
theorem dX8_priceOf_53 : decode cX8_priceOf 53 = .ok (.iconst 0, 1) := by decide +kernel
theorem dX8_priceOf_54 : decode cX8_priceOf 54 = .ok (.istore 6, 2) := by decide +kernel
theorem dX8_priceOf_56 : decode cX8_priceOf 56 = .ok (.iload 6, 2) := by decide +kernel
theorem dX8_priceOf_58 : decode cX8_priceOf 58 = .ok (.bipush 6, 2) := by decide +kernel
theorem dX8_priceOf_60 : decode cX8_priceOf 60 = .ok (.if_icmp .ge 50, 3) := by decide +kernel
theorem dX8_priceOf_63 : decode cX8_priceOf 63 = .ok (.iload_n 2, 1) := by decide +kernel
theorem dX8_priceOf_64 : decode cX8_priceOf 64 = .ok (.iload 6, 2) := by decide +kernel
theorem dX8_priceOf_66 : decode cX8_priceOf 66 = .ok (.invokestatic 155, 3) := by decide +kernel
theorem dX8_priceOf_69 : decode cX8_priceOf 69 = .ok (.ifCond .eq 31, 3) := by decide +kernel
theorem dX8_priceOf_72 : decode cX8_priceOf 72 = .ok (.iload 5, 2) := by decide +kernel
theorem dX8_priceOf_74 : decode cX8_priceOf 74 = .ok (.iconst (-1), 1) := by decide +kernel
theorem dX8_priceOf_75 : decode cX8_priceOf 75 = .ok (.if_icmp .eq 20, 3) := by decide +kernel
theorem dX8_priceOf_78 : decode cX8_priceOf 78 = .ok (.aload_n 0, 1) := by decide +kernel
theorem dX8_priceOf_79 : decode cX8_priceOf 79 = .ok (.getfield 41, 3) := by decide +kernel
theorem dX8_priceOf_82 : decode cX8_priceOf 82 = .ok (.iload 6, 2) := by decide +kernel
theorem dX8_priceOf_84 : decode cX8_priceOf 84 = .ok (.iaload, 1) := by decide +kernel
theorem dX8_priceOf_85 : decode cX8_priceOf 85 = .ok (.aload_n 0, 1) := by decide +kernel
theorem dX8_priceOf_86 : decode cX8_priceOf 86 = .ok (.getfield 41, 3) := by decide +kernel
theorem dX8_priceOf_89 : decode cX8_priceOf 89 = .ok (.iload 5, 2) := by decide +kernel
theorem dX8_priceOf_91 : decode cX8_priceOf 91 = .ok (.iaload, 1) := by decide +kernel
theorem dX8_priceOf_92 : decode cX8_priceOf 92 = .ok (.if_icmp .le 8, 3) := by decide +kernel
theorem dX8_priceOf_95 : decode cX8_priceOf 95 = .ok (.iload 6, 2) := by decide +kernel
theorem dX8_priceOf_97 : decode cX8_priceOf 97 = .ok (.goto 5, 3) := by decide +kernel
theorem dX8_priceOf_100 : decode cX8_priceOf 100 = .ok (.iload 5, 2) := by decide +kernel
theorem dX8_priceOf_102 : decode cX8_priceOf 102 = .ok (.istore 5, 2) := by decide +kernel
theorem dX8_priceOf_104 : decode cX8_priceOf 104 = .ok (.iinc 6 1, 3) := by decide +kernel
theorem dX8_priceOf_107 : decode cX8_priceOf 107 = .ok (.goto (-51), 3) := by decide +kernel
theorem dX8_priceOf_110 : decode cX8_priceOf 110 = .ok (.iload 5, 2) := by decide +kernel
theorem dX8_priceOf_112 : decode cX8_priceOf 112 = .ok (.iconst (-1), 1) := by decide +kernel
theorem dX8_priceOf_113 : decode cX8_priceOf 113 = .ok (.if_icmp .ne 7, 3) := by decide +kernel
theorem dX8_priceOf_116 : decode cX8_priceOf 116 = .ok (.iconst 0, 1) := by decide +kernel
theorem dX8_priceOf_117 : decode cX8_priceOf 117 = .ok (.goto 10, 3) := by decide +kernel
theorem dX8_priceOf_120 : decode cX8_priceOf 120 = .ok (.aload_n 0, 1) := by decide +kernel
theorem dX8_priceOf_121 : decode cX8_priceOf 121 = .ok (.getfield 41, 3) := by decide +kernel
theorem dX8_priceOf_124 : decode cX8_priceOf 124 = .ok (.iload 5, 2) := by decide +kernel
theorem dX8_priceOf_126 : decode cX8_priceOf 126 = .ok (.iaload, 1) := by decide +kernel
theorem dX8_priceOf_127 : decode cX8_priceOf 127 = .ok (.istore_n 3, 1) := by decide +kernel
theorem dX8_priceOf_128 : decode cX8_priceOf 128 = .ok (.iload_n 2, 1) := by decide +kernel
theorem dX8_priceOf_129 : decode cX8_priceOf 129 = .ok (.iload 5, 2) := by decide +kernel
theorem dX8_priceOf_131 : decode cX8_priceOf 131 = .ok (.iconst (-1), 1) := by decide +kernel
theorem dX8_priceOf_132 : decode cX8_priceOf 132 = .ok (.if_icmp .ne 7, 3) := by decide +kernel
theorem dX8_priceOf_135 : decode cX8_priceOf 135 = .ok (.iconst 0, 1) := by decide +kernel
theorem dX8_priceOf_136 : decode cX8_priceOf 136 = .ok (.goto 9, 3) := by decide +kernel
theorem dX8_priceOf_139 : decode cX8_priceOf 139 = .ok (.iconst 1, 1) := by decide +kernel
theorem dX8_priceOf_140 : decode cX8_priceOf 140 = .ok (.iload 5, 2) := by decide +kernel
theorem dX8_priceOf_142 : decode cX8_priceOf 142 = .ok (.ishl, 1) := by decide +kernel
theorem dX8_priceOf_143 : decode cX8_priceOf 143 = .ok (.iconst (-1), 1) := by decide +kernel
theorem dX8_priceOf_144 : decode cX8_priceOf 144 = .ok (.ixor, 1) := by decide +kernel
theorem dX8_priceOf_145 : decode cX8_priceOf 145 = .ok (.iand, 1) := by decide +kernel
theorem dX8_priceOf_146 : decode cX8_priceOf 146 = .ok (.istore_n 2, 1) := by decide +kernel
theorem dX8_priceOf_147 : decode cX8_priceOf 147 = .ok (.iinc 4 1, 3) := by decide +kernel
theorem dX8_priceOf_150 : decode cX8_priceOf 150 = .ok (.goto (-106), 3) := by decide +kernel
theorem dX8_priceOf_153 : decode cX8_priceOf 153 = .ok (.iload_n 3, 1) := by decide +kernel
theorem dX8_priceOf_154 : decode cX8_priceOf 154 = .ok (.ireturn, 1) := by decide +kernel
set_option maxRecDepth 20000 in
theorem ggX8_price_X8_in : GoodIn wsX8_price wsX8_in := goodIn_r _ [4] (by decide +kernel) (by decide +kernel)
set_option maxRecDepth 20000 in
theorem gX8_price_X8_in : GoodIn wsX8_price (va_wsS RX8 70 yX8_in wsX8_in) := goodIn_app (goodIn_of _ (by decide +kernel)) ggX8_price_X8_in
set_option maxRecDepth 20000 in
theorem ggX8_price_X8_priceOf : GoodIn wsX8_price wsX8_priceOf := goodIn_r _ [8, 9, 10, 11, 12, 3, 13, 14, 15, 16, 17, 18, 19, 20, 21, 22, 23, 24, 25, 26, 27, 28, 29, 30, 31, 32, 33, 34, 35, 36, 37] (by decide +kernel) (by decide +kernel)
set_option maxRecDepth 20000 in
theorem gX8_price_X8_priceOf : GoodIn wsX8_price (wsV RX8 197 RX8 yX8_priceOf wsX8_priceOf) := goodIn_app (goodIn_of _ (by decide +kernel)) ggX8_price_X8_priceOf
theorem dX8_price_0 : decode cX8_price 0 = .ok (.iload_n 1, 1) := by decide +kernel
theorem dX8_price_1 : decode cX8_price 1 = .ok (.iconst 0, 1) := by decide +kernel
theorem dX8_price_2 : decode cX8_price 2 = .ok (.bipush 6, 2) := by decide +kernel
theorem dX8_price_4 : decode cX8_price 4 = .ok (.invokestatic 70, 3) := by decide +kernel
theorem dX8_price_7 : decode cX8_price 7 = .ok (.ifCond .eq 11, 3) := by decide +kernel
theorem dX8_price_10 : decode cX8_price 10 = .ok (.aload_n 0, 1) := by decide +kernel
theorem dX8_price_11 : decode cX8_price 11 = .ok (.iload_n 1, 1) := by decide +kernel
theorem dX8_price_12 : decode cX8_price 12 = .ok (.invokevirtual 197, 3) := by decide +kernel
theorem dX8_price_15 : decode cX8_price 15 = .ok (.goto 5, 3) := by decide +kernel
theorem dX8_price_18 : decode cX8_price 18 = .ok (.bipush (-2), 2) := by decide +kernel
theorem dX8_price_20 : decode cX8_price 20 = .ok (.ireturn, 1) := by decide +kernel
set_option maxRecDepth 20000 in
theorem ggX8_isPlant_X8_in : GoodIn wsX8_isPlant wsX8_in := goodIn_r _ [4] (by decide +kernel) (by decide +kernel)
set_option maxRecDepth 20000 in
theorem gX8_isPlant_X8_in : GoodIn wsX8_isPlant (va_wsS RX8 70 yX8_in wsX8_in) := goodIn_app (goodIn_of _ (by decide +kernel)) ggX8_isPlant_X8_in
theorem dX8_isPlant_0 : decode cX8_isPlant 0 = .ok (.iload_n 0, 1) := by decide +kernel
theorem dX8_isPlant_1 : decode cX8_isPlant 1 = .ok (.iconst 0, 1) := by decide +kernel
theorem dX8_isPlant_2 : decode cX8_isPlant 2 = .ok (.iconst 3, 1) := by decide +kernel
theorem dX8_isPlant_3 : decode cX8_isPlant 3 = .ok (.invokestatic 70, 3) := by decide +kernel
theorem dX8_isPlant_6 : decode cX8_isPlant 6 = .ok (.ireturn, 1) := by decide +kernel
set_option maxRecDepth 20000 in
theorem ggX8_plant_X8_isPlant : GoodIn wsX8_plant wsX8_isPlant := goodIn_r _ [5, 6, 7, 4, 8] (by decide +kernel) (by decide +kernel)
set_option maxRecDepth 20000 in
theorem gX8_plant_X8_isPlant : GoodIn wsX8_plant (va_wsS RX8 200 yX8_isPlant wsX8_isPlant) := goodIn_app (goodIn_of _ (by decide +kernel)) ggX8_plant_X8_isPlant
set_option maxRecDepth 20000 in
theorem ggX8_plant_X8_in : GoodIn wsX8_plant wsX8_in := goodIn_r _ [8] (by decide +kernel) (by decide +kernel)
set_option maxRecDepth 20000 in
theorem gX8_plant_X8_in : GoodIn wsX8_plant (va_wsS RX8 70 yX8_in wsX8_in) := goodIn_app (goodIn_of _ (by decide +kernel)) ggX8_plant_X8_in
theorem dX8_plant_0 : decode cX8_plant 0 = .ok (.iload_n 1, 1) := by decide +kernel
theorem dX8_plant_1 : decode cX8_plant 1 = .ok (.invokestatic 200, 3) := by decide +kernel
theorem dX8_plant_4 : decode cX8_plant 4 = .ok (.ifCond .eq 13, 3) := by decide +kernel
theorem dX8_plant_7 : decode cX8_plant 7 = .ok (.iload_n 2, 1) := by decide +kernel
theorem dX8_plant_8 : decode cX8_plant 8 = .ok (.iconst 1, 1) := by decide +kernel
theorem dX8_plant_9 : decode cX8_plant 9 = .ok (.bipush 20, 2) := by decide +kernel
theorem dX8_plant_11 : decode cX8_plant 11 = .ok (.invokestatic 70, 3) := by decide +kernel
theorem dX8_plant_14 : decode cX8_plant 14 = .ok (.ifCond .ne 6, 3) := by decide +kernel
theorem dX8_plant_17 : decode cX8_plant 17 = .ok (.bipush (-2), 2) := by decide +kernel
theorem dX8_plant_19 : decode cX8_plant 19 = .ok (.ireturn, 1) := by decide +kernel
theorem dX8_plant_20 : decode cX8_plant 20 = .ok (.aload_n 0, 1) := by decide +kernel
theorem dX8_plant_21 : decode cX8_plant 21 = .ok (.getfield 44, 3) := by decide +kernel
theorem dX8_plant_24 : decode cX8_plant 24 = .ok (.iload_n 1, 1) := by decide +kernel
theorem dX8_plant_25 : decode cX8_plant 25 = .ok (.iaload, 1) := by decide +kernel
theorem dX8_plant_26 : decode cX8_plant 26 = .ok (.istore_n 3, 1) := by decide +kernel
theorem dX8_plant_27 : decode cX8_plant 27 = .ok (.aload_n 0, 1) := by decide +kernel
theorem dX8_plant_28 : decode cX8_plant 28 = .ok (.getfield 44, 3) := by decide +kernel
theorem dX8_plant_31 : decode cX8_plant 31 = .ok (.iload_n 1, 1) := by decide +kernel
theorem dX8_plant_32 : decode cX8_plant 32 = .ok (.iload_n 2, 1) := by decide +kernel
theorem dX8_plant_33 : decode cX8_plant 33 = .ok (.iastore, 1) := by decide +kernel
theorem dX8_plant_34 : decode cX8_plant 34 = .ok (.iload_n 3, 1) := by decide +kernel
theorem dX8_plant_35 : decode cX8_plant 35 = .ok (.ireturn, 1) := by decide +kernel
set_option maxRecDepth 20000 in
theorem ggX8_grows_X8_isPlant : GoodIn wsX8_grows wsX8_isPlant := goodIn_r _ [5, 6, 7, 4, 8] (by decide +kernel) (by decide +kernel)
set_option maxRecDepth 20000 in
theorem gX8_grows_X8_isPlant : GoodIn wsX8_grows (va_wsS RX8 200 yX8_isPlant wsX8_isPlant) := goodIn_app (goodIn_of _ (by decide +kernel)) ggX8_grows_X8_isPlant
set_option maxRecDepth 20000 in
theorem ggX8_grows_X8_isLight : GoodIn wsX8_grows wsX8_isLight := goodIn_r _ [11, 6, 7, 4, 8] (by decide +kernel) (by decide +kernel)
set_option maxRecDepth 20000 in
theorem gX8_grows_X8_isLight : GoodIn wsX8_grows (va_wsS RX8 117 yX8_isLight wsX8_isLight) := goodIn_app (goodIn_of _ (by decide +kernel)) ggX8_grows_X8_isLight
set_option maxRecDepth 20000 in
theorem ggX8_grows_X8_in : GoodIn wsX8_grows wsX8_in := goodIn_r _ [8] (by decide +kernel) (by decide +kernel)
set_option maxRecDepth 20000 in
theorem gX8_grows_X8_in : GoodIn wsX8_grows (va_wsS RX8 70 yX8_in wsX8_in) := goodIn_app (goodIn_of _ (by decide +kernel)) ggX8_grows_X8_in
theorem dX8_grows_0 : decode cX8_grows 0 = .ok (.iload_n 1, 1) := by decide +kernel
theorem dX8_grows_1 : decode cX8_grows 1 = .ok (.invokestatic 200, 3) := by decide +kernel
theorem dX8_grows_4 : decode cX8_grows 4 = .ok (.ifCond .eq 21, 3) := by decide +kernel
theorem dX8_grows_7 : decode cX8_grows 7 = .ok (.iload_n 2, 1) := by decide +kernel
theorem dX8_grows_8 : decode cX8_grows 8 = .ok (.invokestatic 117, 3) := by decide +kernel
theorem dX8_grows_11 : decode cX8_grows 11 = .ok (.ifCond .eq 14, 3) := by decide +kernel
theorem dX8_grows_14 : decode cX8_grows 14 = .ok (.iload_n 3, 1) := by decide +kernel
theorem dX8_grows_15 : decode cX8_grows 15 = .ok (.bipush (-9), 2) := by decide +kernel
theorem dX8_grows_17 : decode cX8_grows 17 = .ok (.bipush 9, 2) := by decide +kernel
theorem dX8_grows_19 : decode cX8_grows 19 = .ok (.invokestatic 70, 3) := by decide +kernel
theorem dX8_grows_22 : decode cX8_grows 22 = .ok (.ifCond .ne 6, 3) := by decide +kernel
theorem dX8_grows_25 : decode cX8_grows 25 = .ok (.bipush (-2), 2) := by decide +kernel
theorem dX8_grows_27 : decode cX8_grows 27 = .ok (.ireturn, 1) := by decide +kernel
theorem dX8_grows_28 : decode cX8_grows 28 = .ok (.aload_n 0, 1) := by decide +kernel
theorem dX8_grows_29 : decode cX8_grows 29 = .ok (.getfield 47, 3) := by decide +kernel
theorem dX8_grows_32 : decode cX8_grows 32 = .ok (.iconst 4, 1) := by decide +kernel
theorem dX8_grows_33 : decode cX8_grows 33 = .ok (.iload_n 1, 1) := by decide +kernel
theorem dX8_grows_34 : decode cX8_grows 34 = .ok (.imul, 1) := by decide +kernel
theorem dX8_grows_35 : decode cX8_grows 35 = .ok (.iload_n 2, 1) := by decide +kernel
theorem dX8_grows_36 : decode cX8_grows 36 = .ok (.iadd, 1) := by decide +kernel
theorem dX8_grows_37 : decode cX8_grows 37 = .ok (.iaload, 1) := by decide +kernel
theorem dX8_grows_38 : decode cX8_grows 38 = .ok (.bipush 10, 2) := by decide +kernel
theorem dX8_grows_40 : decode cX8_grows 40 = .ok (.iadd, 1) := by decide +kernel
theorem dX8_grows_41 : decode cX8_grows 41 = .ok (.istore 4, 2) := by decide +kernel
theorem dX8_grows_43 : decode cX8_grows 43 = .ok (.aload_n 0, 1) := by decide +kernel
theorem dX8_grows_44 : decode cX8_grows 44 = .ok (.getfield 47, 3) := by decide +kernel
theorem dX8_grows_47 : decode cX8_grows 47 = .ok (.iconst 4, 1) := by decide +kernel
theorem dX8_grows_48 : decode cX8_grows 48 = .ok (.iload_n 1, 1) := by decide +kernel
theorem dX8_grows_49 : decode cX8_grows 49 = .ok (.imul, 1) := by decide +kernel
theorem dX8_grows_50 : decode cX8_grows 50 = .ok (.iload_n 2, 1) := by decide +kernel
theorem dX8_grows_51 : decode cX8_grows 51 = .ok (.iadd, 1) := by decide +kernel
theorem dX8_grows_52 : decode cX8_grows 52 = .ok (.iload_n 3, 1) := by decide +kernel
theorem dX8_grows_53 : decode cX8_grows 53 = .ok (.iastore, 1) := by decide +kernel
theorem dX8_grows_54 : decode cX8_grows 54 = .ok (.iload 4, 2) := by decide +kernel
theorem dX8_grows_56 : decode cX8_grows 56 = .ok (.ireturn, 1) := by decide +kernel
set_option maxRecDepth 20000 in
theorem ggX8_read_X8_isSheet : GoodIn wsX8_read wsX8_isSheet := goodIn_r _ [8, 9, 10, 7, 11] (by decide +kernel) (by decide +kernel)
set_option maxRecDepth 20000 in
theorem gX8_read_X8_isSheet : GoodIn wsX8_read (va_wsS RX8 203 yX8_isSheet wsX8_isSheet) := goodIn_app (goodIn_of _ (by decide +kernel)) ggX8_read_X8_isSheet
set_option maxRecDepth 20000 in
theorem ggX8_read_X8_isPlant : GoodIn wsX8_read wsX8_isPlant := goodIn_r _ [14, 9, 10, 7, 11] (by decide +kernel) (by decide +kernel)
set_option maxRecDepth 20000 in
theorem gX8_read_X8_isPlant : GoodIn wsX8_read (va_wsS RX8 200 yX8_isPlant wsX8_isPlant) := goodIn_app (goodIn_of _ (by decide +kernel)) ggX8_read_X8_isPlant
set_option maxRecDepth 20000 in
theorem ggX8_read_X8_meets : GoodIn wsX8_read wsX8_meets := goodIn_r _ [18, 19, 20, 21, 22, 23, 24, 25, 26, 27, 28, 29, 30, 31, 32, 33, 34, 35, 36, 37, 38, 39, 40, 41, 42, 43] (by decide +kernel) (by decide +kernel)
set_option maxRecDepth 20000 in
theorem gX8_read_X8_meets : GoodIn wsX8_read (wsV RX8 206 RX8 yX8_meets wsX8_meets) := goodIn_app (goodIn_of _ (by decide +kernel)) ggX8_read_X8_meets
set_option maxRecDepth 20000 in
theorem ggX8_read_X8_in : GoodIn wsX8_read wsX8_in := goodIn_r _ [11] (by decide +kernel) (by decide +kernel)
set_option maxRecDepth 20000 in
theorem gX8_read_X8_in : GoodIn wsX8_read (va_wsS RX8 70 yX8_in wsX8_in) := goodIn_app (goodIn_of _ (by decide +kernel)) ggX8_read_X8_in
theorem dX8_read_0 : decode cX8_read 0 = .ok (.iload_n 1, 1) := by decide +kernel
theorem dX8_read_1 : decode cX8_read 1 = .ok (.invokestatic 203, 3) := by decide +kernel
theorem dX8_read_4 : decode cX8_read 4 = .ok (.ifCond .eq 10, 3) := by decide +kernel
theorem dX8_read_7 : decode cX8_read 7 = .ok (.iload_n 2, 1) := by decide +kernel
theorem dX8_read_8 : decode cX8_read 8 = .ok (.invokestatic 200, 3) := by decide +kernel
theorem dX8_read_11 : decode cX8_read 11 = .ok (.ifCond .ne 6, 3) := by decide +kernel
theorem dX8_read_14 : decode cX8_read 14 = .ok (.bipush (-2), 2) := by decide +kernel
theorem dX8_read_16 : decode cX8_read 16 = .ok (.ireturn, 1) := by decide +kernel
theorem dX8_read_17 : decode cX8_read 17 = .ok (.aload_n 0, 1) := by decide +kernel
theorem dX8_read_18 : decode cX8_read 18 = .ok (.getfield 53, 3) := by decide +kernel
theorem dX8_read_21 : decode cX8_read 21 = .ok (.iload_n 1, 1) := by decide +kernel
theorem dX8_read_22 : decode cX8_read 22 = .ok (.baload, 1) := by decide +kernel
theorem dX8_read_23 : decode cX8_read 23 = .ok (.ifCond .ne 9, 3) := by decide +kernel
theorem dX8_read_26 : decode cX8_read 26 = .ok (.aload_n 0, 1) := by decide +kernel
theorem dX8_read_27 : decode cX8_read 27 = .ok (.iconst 1, 1) := by decide +kernel
theorem dX8_read_28 : decode cX8_read 28 = .ok (.invokevirtual 206, 3) := by decide +kernel
theorem dX8_read_31 : decode cX8_read 31 = .ok (.ireturn, 1) := by decide +kernel
theorem dX8_read_32 : decode cX8_read 32 = .ok (.iconst 0, 1) := by decide +kernel
theorem dX8_read_33 : decode cX8_read 33 = .ok (.istore_n 3, 1) := by decide +kernel
theorem dX8_read_34 : decode cX8_read 34 = .ok (.iload_n 3, 1) := by decide +kernel
theorem dX8_read_35 : decode cX8_read 35 = .ok (.aload_n 0, 1) := by decide +kernel
theorem dX8_read_36 : decode cX8_read 36 = .ok (.getfield 59, 3) := by decide +kernel
theorem dX8_read_39 : decode cX8_read 39 = .ok (.iload_n 1, 1) := by decide +kernel
theorem dX8_read_40 : decode cX8_read 40 = .ok (.iaload, 1) := by decide +kernel
theorem dX8_read_41 : decode cX8_read 41 = .ok (.if_icmp .ge 56, 3) := by decide +kernel
theorem dX8_read_44 : decode cX8_read 44 = .ok (.iload_n 3, 1) := by decide +kernel
theorem dX8_read_45 : decode cX8_read 45 = .ok (.iconst 4, 1) := by decide +kernel
theorem dX8_read_46 : decode cX8_read 46 = .ok (.if_icmp .ge 51, 3) := by decide +kernel
theorem dX8_read_49 : decode cX8_read 49 = .ok (.aload_n 0, 1) := by decide +kernel
theorem dX8_read_50 : decode cX8_read 50 = .ok (.getfield 62, 3) := by decide +kernel
theorem dX8_read_53 : decode cX8_read 53 = .ok (.bipush 48, 2) := by decide +kernel
theorem dX8_read_55 : decode cX8_read 55 = .ok (.iload_n 1, 1) := by decide +kernel
theorem dX8_read_56 : decode cX8_read 56 = .ok (.imul, 1) := by decide +kernel
theorem dX8_read_57 : decode cX8_read 57 = .ok (.iload_n 3, 1) := by decide +kernel
theorem dX8_read_58 : decode cX8_read 58 = .ok (.iadd, 1) := by decide +kernel
theorem dX8_read_59 : decode cX8_read 59 = .ok (.iaload, 1) := by decide +kernel
theorem dX8_read_60 : decode cX8_read 60 = .ok (.bipush (-9), 2) := by decide +kernel
theorem dX8_read_62 : decode cX8_read 62 = .ok (.bipush 9, 2) := by decide +kernel
theorem dX8_read_64 : decode cX8_read 64 = .ok (.invokestatic 70, 3) := by decide +kernel
theorem dX8_read_67 : decode cX8_read 67 = .ok (.ifCond .eq 30, 3) := by decide +kernel
theorem dX8_read_70 : decode cX8_read 70 = .ok (.aload_n 0, 1) := by decide +kernel
theorem dX8_read_71 : decode cX8_read 71 = .ok (.getfield 47, 3) := by decide +kernel
theorem dX8_read_74 : decode cX8_read 74 = .ok (.iconst 4, 1) := by decide +kernel
theorem dX8_read_75 : decode cX8_read 75 = .ok (.iload_n 2, 1) := by decide +kernel
theorem dX8_read_76 : decode cX8_read 76 = .ok (.imul, 1) := by decide +kernel
theorem dX8_read_77 : decode cX8_read 77 = .ok (.iload_n 3, 1) := by decide +kernel
theorem dX8_read_78 : decode cX8_read 78 = .ok (.iadd, 1) := by decide +kernel
theorem dX8_read_79 : decode cX8_read 79 = .ok (.aload_n 0, 1) := by decide +kernel
theorem dX8_read_80 : decode cX8_read 80 = .ok (.getfield 62, 3) := by decide +kernel
theorem dX8_read_83 : decode cX8_read 83 = .ok (.bipush 48, 2) := by decide +kernel
theorem dX8_read_85 : decode cX8_read 85 = .ok (.iload_n 1, 1) := by decide +kernel
theorem dX8_read_86 : decode cX8_read 86 = .ok (.imul, 1) := by decide +kernel
theorem dX8_read_87 : decode cX8_read 87 = .ok (.iload_n 3, 1) := by decide +kernel
theorem dX8_read_88 : decode cX8_read 88 = .ok (.iadd, 1) := by decide +kernel
theorem dX8_read_89 : decode cX8_read 89 = .ok (.iaload, 1) := by decide +kernel
theorem dX8_read_90 : decode cX8_read 90 = .ok (.iastore, 1) := by decide +kernel
theorem dX8_read_91 : decode cX8_read 91 = .ok (.iinc 3 1, 3) := by decide +kernel
theorem dX8_read_94 : decode cX8_read 94 = .ok (.goto (-60), 3) := by decide +kernel
theorem dX8_read_97 : decode cX8_read 97 = .ok (.iload_n 3, 1) := by decide +kernel
theorem dX8_read_98 : decode cX8_read 98 = .ok (.ireturn, 1) := by decide +kernel
set_option maxRecDepth 20000 in
theorem ggX8_cropOf_X8_lightOf : GoodIn wsX8_cropOf wsX8_lightOf := goodIn_r _ [7, 8, 9, 10, 6, 11, 12, 13, 14, 15, 16, 17, 18, 19, 20, 21, 22, 23, 24, 25, 26, 27, 28, 29, 30, 31, 32, 33, 34, 35, 36, 37, 38, 39, 40, 41, 42] (by decide +kernel) (by decide +kernel)
set_option maxRecDepth 20000 in
theorem gX8_cropOf_X8_lightOf : GoodIn wsX8_cropOf (wsV RX8 111 RX8 yX8_lightOf wsX8_lightOf) := goodIn_app (goodIn_of _ (by decide +kernel)) ggX8_cropOf_X8_lightOf
theorem dX8_cropOf_0 : decode cX8_cropOf 0 = .ok (.iconst 0, 1) := by decide +kernel
theorem dX8_cropOf_1 : decode cX8_cropOf 1 = .ok (.istore_n 3, 1) := by decide +kernel
theorem dX8_cropOf_2 : decode cX8_cropOf 2 = .ok (.iload_n 2, 1) := by decide +kernel
theorem dX8_cropOf_3 : decode cX8_cropOf 3 = .ok (.istore 4, 2) := by decide +kernel
theorem dX8_cropOf_5 : decode cX8_cropOf 5 = .ok (.iload 4, 2) := by decide +kernel
theorem dX8_cropOf_7 : decode cX8_cropOf 7 = .ok (.iload_n 2, 1) := by decide +kernel
theorem dX8_cropOf_8 : decode cX8_cropOf 8 = .ok (.aload_n 0, 1) := by decide +kernel
theorem dX8_cropOf_9 : decode cX8_cropOf 9 = .ok (.getfield 44, 3) := by decide +kernel
theorem dX8_cropOf_12 : decode cX8_cropOf 12 = .ok (.iload_n 1, 1) := by decide +kernel
theorem dX8_cropOf_13 : decode cX8_cropOf 13 = .ok (.iaload, 1) := by decide +kernel
theorem dX8_cropOf_14 : decode cX8_cropOf 14 = .ok (.iadd, 1) := by decide +kernel
theorem dX8_cropOf_15 : decode cX8_cropOf 15 = .ok (.if_icmp .ge 27, 3) := by decide +kernel
theorem dX8_cropOf_18 : decode cX8_cropOf 18 = .ok (.iload_n 3, 1) := by decide +kernel
theorem dX8_cropOf_19 : decode cX8_cropOf 19 = .ok (.aload_n 0, 1) := by decide +kernel
theorem dX8_cropOf_20 : decode cX8_cropOf 20 = .ok (.getfield 47, 3) := by decide +kernel
theorem dX8_cropOf_23 : decode cX8_cropOf 23 = .ok (.iconst 4, 1) := by decide +kernel
theorem dX8_cropOf_24 : decode cX8_cropOf 24 = .ok (.iload_n 1, 1) := by decide +kernel
theorem dX8_cropOf_25 : decode cX8_cropOf 25 = .ok (.imul, 1) := by decide +kernel
theorem dX8_cropOf_26 : decode cX8_cropOf 26 = .ok (.aload_n 0, 1) := by decide +kernel
theorem dX8_cropOf_27 : decode cX8_cropOf 27 = .ok (.iload 4, 2) := by decide +kernel
theorem dX8_cropOf_29 : decode cX8_cropOf 29 = .ok (.invokevirtual 111, 3) := by decide +kernel
theorem dX8_cropOf_32 : decode cX8_cropOf 32 = .ok (.iadd, 1) := by decide +kernel
theorem dX8_cropOf_33 : decode cX8_cropOf 33 = .ok (.iaload, 1) := by decide +kernel
theorem dX8_cropOf_34 : decode cX8_cropOf 34 = .ok (.iadd, 1) := by decide +kernel
theorem dX8_cropOf_35 : decode cX8_cropOf 35 = .ok (.istore_n 3, 1) := by decide +kernel
theorem dX8_cropOf_36 : decode cX8_cropOf 36 = .ok (.iinc 4 1, 3) := by decide +kernel
theorem dX8_cropOf_39 : decode cX8_cropOf 39 = .ok (.goto (-34), 3) := by decide +kernel
theorem dX8_cropOf_42 : decode cX8_cropOf 42 = .ok (.iload_n 3, 1) := by decide +kernel
theorem dX8_cropOf_43 : decode cX8_cropOf 43 = .ok (.ifCond .le 7, 3) := by decide +kernel
theorem dX8_cropOf_46 : decode cX8_cropOf 46 = .ok (.iload_n 3, 1) := by decide +kernel
theorem dX8_cropOf_47 : decode cX8_cropOf 47 = .ok (.goto 4, 3) := by decide +kernel
theorem dX8_cropOf_50 : decode cX8_cropOf 50 = .ok (.iconst 0, 1) := by decide +kernel
theorem dX8_cropOf_51 : decode cX8_cropOf 51 = .ok (.ireturn, 1) := by decide +kernel
set_option maxRecDepth 20000 in
theorem ggX8_crop_X8_isPlant : GoodIn wsX8_crop wsX8_isPlant := goodIn_r _ [4, 5, 6, 3, 7] (by decide +kernel) (by decide +kernel)
set_option maxRecDepth 20000 in
theorem gX8_crop_X8_isPlant : GoodIn wsX8_crop (va_wsS RX8 200 yX8_isPlant wsX8_isPlant) := goodIn_app (goodIn_of _ (by decide +kernel)) ggX8_crop_X8_isPlant
set_option maxRecDepth 20000 in
theorem ggX8_crop_X8_isHour : GoodIn wsX8_crop wsX8_isHour := goodIn_r _ [10, 11, 5, 6, 3, 7] (by decide +kernel) (by decide +kernel)
set_option maxRecDepth 20000 in
theorem gX8_crop_X8_isHour : GoodIn wsX8_crop (va_wsS RX8 108 yX8_isHour wsX8_isHour) := goodIn_app (goodIn_of _ (by decide +kernel)) ggX8_crop_X8_isHour
set_option maxRecDepth 20000 in
theorem ggX8_crop_X8_cropOf : GoodIn wsX8_crop wsX8_cropOf := goodIn_r _ [15, 16, 17, 18, 19, 20, 3, 21, 22, 23, 24, 25, 26, 27, 28, 29, 30, 31, 32, 33, 34, 35, 36, 37, 38, 39, 40, 41, 42, 43, 44, 45, 46, 47, 48, 49, 50, 51, 52, 53, 54, 55, 56] (by decide +kernel) (by decide +kernel)
set_option maxRecDepth 20000 in
theorem gX8_crop_X8_cropOf : GoodIn wsX8_crop (wsV RX8 209 RX8 yX8_cropOf wsX8_cropOf) := goodIn_app (goodIn_of _ (by decide +kernel)) ggX8_crop_X8_cropOf
theorem dX8_crop_0 : decode cX8_crop 0 = .ok (.iload_n 1, 1) := by decide +kernel
theorem dX8_crop_1 : decode cX8_crop 1 = .ok (.invokestatic 200, 3) := by decide +kernel
theorem dX8_crop_4 : decode cX8_crop 4 = .ok (.ifCond .eq 19, 3) := by decide +kernel
theorem dX8_crop_7 : decode cX8_crop 7 = .ok (.iload_n 2, 1) := by decide +kernel
theorem dX8_crop_8 : decode cX8_crop 8 = .ok (.invokestatic 108, 3) := by decide +kernel
theorem dX8_crop_11 : decode cX8_crop 11 = .ok (.ifCond .eq 12, 3) := by decide +kernel
theorem dX8_crop_14 : decode cX8_crop 14 = .ok (.aload_n 0, 1) := by decide +kernel
theorem dX8_crop_15 : decode cX8_crop 15 = .ok (.iload_n 1, 1) := by decide +kernel
theorem dX8_crop_16 : decode cX8_crop 16 = .ok (.iload_n 2, 1) := by decide +kernel
theorem dX8_crop_17 : decode cX8_crop 17 = .ok (.invokevirtual 209, 3) := by decide +kernel
theorem dX8_crop_20 : decode cX8_crop 20 = .ok (.goto 5, 3) := by decide +kernel
theorem dX8_crop_23 : decode cX8_crop 23 = .ok (.bipush (-2), 2) := by decide +kernel
theorem dX8_crop_25 : decode cX8_crop 25 = .ok (.ireturn, 1) := by decide +kernel
set_option maxRecDepth 20000 in
theorem ggX8_plantingOf_X8_cropOf : GoodIn wsX8_plantingOf wsX8_cropOf := goodIn_r _ [7, 2, 8, 9, 10, 11, 6, 12, 13, 14, 15, 16, 17, 18, 19, 20, 21, 22, 23, 24, 25, 26, 27, 28, 29, 30, 31, 32, 33, 34, 35, 36, 37, 38, 39, 40, 41, 42, 43, 44, 45, 46, 47] (by decide +kernel) (by decide +kernel)
set_option maxRecDepth 20000 in
theorem gX8_plantingOf_X8_cropOf : GoodIn wsX8_plantingOf (wsV RX8 209 RX8 yX8_cropOf wsX8_cropOf) := goodIn_app (goodIn_of _ (by decide +kernel)) ggX8_plantingOf_X8_cropOf
theorem dX8_plantingOf_0 : decode cX8_plantingOf 0 = .ok (.aload_n 0, 1) := by decide +kernel
theorem dX8_plantingOf_1 : decode cX8_plantingOf 1 = .ok (.getfield 50, 3) := by decide +kernel
theorem dX8_plantingOf_4 : decode cX8_plantingOf 4 = .ok (.iload_n 2, 1) := by decide +kernel
theorem dX8_plantingOf_5 : decode cX8_plantingOf 5 = .ok (.iconst 0, 1) := by decide +kernel
theorem dX8_plantingOf_6 : decode cX8_plantingOf 6 = .ok (.iastore, 1) := by decide +kernel
theorem dX8_plantingOf_7 : decode cX8_plantingOf 7 = .ok (.iconst (-1), 1) := by decide +kernel
theorem dX8_plantingOf_8 : decode cX8_plantingOf 8 = .ok (.istore 4, 2) := by decide +kernel
theorem dX8_plantingOf_10 : decode cX8_plantingOf 10 = .ok (.iload_n 2, 1) := by decide +kernel
theorem dX8_plantingOf_11 : decode cX8_plantingOf 11 = .ok (.iconst 1, 1) := by decide +kernel
theorem dX8_plantingOf_12 : decode cX8_plantingOf 12 = .ok (.isub, 1) := by decide +kernel
theorem dX8_plantingOf_13 : decode cX8_plantingOf 13 = .ok (.istore 5, 2) := by decide +kernel
theorem dX8_plantingOf_15 : decode cX8_plantingOf 15 = .ok (.iload 5, 2) := by decide +kernel
theorem dX8_plantingOf_17 : decode cX8_plantingOf 17 = .ok (.ifCond .lt 137, 3) := by decide +kernel
theorem dX8_plantingOf_20 : decode cX8_plantingOf 20 = .ok (.aload_n 0, 1) := by decide +kernel
theorem dX8_plantingOf_21 : decode cX8_plantingOf 21 = .ok (.getfield 50, 3) := by decide +kernel
theorem dX8_plantingOf_24 : decode cX8_plantingOf 24 = .ok (.iload 5, 2) := by decide +kernel
theorem dX8_plantingOf_26 : decode cX8_plantingOf 26 = .ok (.aload_n 0, 1) := by decide +kernel
theorem dX8_plantingOf_27 : decode cX8_plantingOf 27 = .ok (.getfield 50, 3) := by decide +kernel
theorem dX8_plantingOf_30 : decode cX8_plantingOf 30 = .ok (.iload 5, 2) := by decide +kernel
theorem dX8_plantingOf_32 : decode cX8_plantingOf 32 = .ok (.iconst 1, 1) := by decide +kernel
theorem dX8_plantingOf_33 : decode cX8_plantingOf 33 = .ok (.iadd, 1) := by decide +kernel
theorem dX8_plantingOf_34 : decode cX8_plantingOf 34 = .ok (.iaload, 1) := by decide +kernel
theorem dX8_plantingOf_35 : decode cX8_plantingOf 35 = .ok (.iastore, 1) := by decide +kernel
theorem dX8_plantingOf_36 : decode cX8_plantingOf 36 = .ok (.iconst (-1), 1) := by decide +kernel
theorem dX8_plantingOf_37 : decode cX8_plantingOf 37 = .ok (.istore 4, 2) := by decide +kernel
theorem dX8_plantingOf_39 : decode cX8_plantingOf 39 = .ok (.iconst 0, 1) := by decide +kernel
theorem dX8_plantingOf_40 : decode cX8_plantingOf 40 = .ok (.istore 6, 2) := by decide +kernel
theorem dX8_plantingOf_42 : decode cX8_plantingOf 42 = .ok (.iload 6, 2) := by decide +kernel
theorem dX8_plantingOf_44 : decode cX8_plantingOf 44 = .ok (.iconst 4, 1) := by decide +kernel
theorem dX8_plantingOf_45 : decode cX8_plantingOf 45 = .ok (.if_icmp .ge 103, 3) := by decide +kernel
theorem dX8_plantingOf_48 : decode cX8_plantingOf 48 = .ok (.iload 5, 2) := by decide +kernel
theorem dX8_plantingOf_50 : decode cX8_plantingOf 50 = .ok (.aload_n 0, 1) := by decide +kernel
theorem dX8_plantingOf_51 : decode cX8_plantingOf 51 = .ok (.getfield 44, 3) := by decide +kernel
theorem dX8_plantingOf_54 : decode cX8_plantingOf 54 = .ok (.iload 6, 2) := by decide +kernel
theorem dX8_plantingOf_56 : decode cX8_plantingOf 56 = .ok (.iaload, 1) := by decide +kernel
theorem dX8_plantingOf_57 : decode cX8_plantingOf 57 = .ok (.iadd, 1) := by decide +kernel
theorem dX8_plantingOf_58 : decode cX8_plantingOf 58 = .ok (.iload_n 2, 1) := by decide +kernel
theorem dX8_plantingOf_59 : decode cX8_plantingOf 59 = .ok (.if_icmp .gt 83, 3) := by decide +kernel
theorem dX8_plantingOf_62 : decode cX8_plantingOf 62 = .ok (.aload_n 0, 1) := by decide +kernel
theorem dX8_plantingOf_63 : decode cX8_plantingOf 63 = .ok (.iload 6, 2) := by decide +kernel
theorem dX8_plantingOf_65 : decode cX8_plantingOf 65 = .ok (.iload_n 1, 1) := by decide +kernel
theorem dX8_plantingOf_66 : decode cX8_plantingOf 66 = .ok (.iload 5, 2) := by decide +kernel
theorem dX8_plantingOf_68 : decode cX8_plantingOf 68 = .ok (.iadd, 1) := by decide +kernel
theorem dX8_plantingOf_69 : decode cX8_plantingOf 69 = .ok (.invokevirtual 209, 3) := by decide +kernel
theorem dX8_plantingOf_72 : decode cX8_plantingOf 72 = .ok (.aload_n 0, 1) := by decide +kernel
theorem dX8_plantingOf_73 : decode cX8_plantingOf 73 = .ok (.getfield 50, 3) := by decide +kernel
theorem dX8_plantingOf_76 : decode cX8_plantingOf 76 = .ok (.iload 5, 2) := by decide +kernel
theorem dX8_plantingOf_78 : decode cX8_plantingOf 78 = .ok (.aload_n 0, 1) := by decide +kernel
theorem dX8_plantingOf_79 : decode cX8_plantingOf 79 = .ok (.getfield 44, 3) := by decide +kernel
theorem dX8_plantingOf_82 : decode cX8_plantingOf 82 = .ok (.iload 6, 2) := by decide +kernel
theorem dX8_plantingOf_84 : decode cX8_plantingOf 84 = .ok (.iaload, 1) := by decide +kernel
theorem dX8_plantingOf_85 : decode cX8_plantingOf 85 = .ok (.iadd, 1) := by decide +kernel
theorem dX8_plantingOf_86 : decode cX8_plantingOf 86 = .ok (.iaload, 1) := by decide +kernel
theorem dX8_plantingOf_87 : decode cX8_plantingOf 87 = .ok (.iadd, 1) := by decide +kernel
theorem dX8_plantingOf_88 : decode cX8_plantingOf 88 = .ok (.istore 7, 2) := by decide +kernel
theorem dX8_plantingOf_90 : decode cX8_plantingOf 90 = .ok (.iload 7, 2) := by decide +kernel
theorem dX8_plantingOf_92 : decode cX8_plantingOf 92 = .ok (.aload_n 0, 1) := by decide +kernel
theorem dX8_plantingOf_93 : decode cX8_plantingOf 93 = .ok (.getfield 50, 3) := by decide +kernel
theorem dX8_plantingOf_96 : decode cX8_plantingOf 96 = .ok (.iload 5, 2) := by decide +kernel
theorem dX8_plantingOf_98 : decode cX8_plantingOf 98 = .ok (.iaload, 1) := by decide +kernel
theorem dX8_plantingOf_99 : decode cX8_plantingOf 99 = .ok (.if_icmp .le 8, 3) := by decide +kernel
theorem dX8_plantingOf_102 : decode cX8_plantingOf 102 = .ok (.iload 6, 2) := by decide +kernel
theorem dX8_plantingOf_104 : decode cX8_plantingOf 104 = .ok (.goto 5, 3) := by decide +kernel
theorem dX8_plantingOf_107 : decode cX8_plantingOf 107 = .ok (.iload 4, 2) := by decide +kernel
theorem dX8_plantingOf_109 : decode cX8_plantingOf 109 = .ok (.istore 4, 2) := by decide +kernel
theorem dX8_plantingOf_111 : decode cX8_plantingOf 111 = .ok (.aload_n 0, 1) := by decide +kernel
theorem dX8_plantingOf_112 : decode cX8_plantingOf 112 = .ok (.getfield 50, 3) := by decide +kernel
theorem dX8_plantingOf_115 : decode cX8_plantingOf 115 = .ok (.iload 5, 2) := by decide +kernel
theorem dX8_plantingOf_117 : decode cX8_plantingOf 117 = .ok (.iload 7, 2) := by decide +kernel
theorem dX8_plantingOf_119 : decode cX8_plantingOf 119 = .ok (.aload_n 0, 1) := by decide +kernel
theorem dX8_plantingOf_120 : decode cX8_plantingOf 120 = .ok (.getfield 50, 3) := by decide +kernel
theorem dX8_plantingOf_123 : decode cX8_plantingOf 123 = .ok (.iload 5, 2) := by decide +kernel
theorem dX8_plantingOf_125 : decode cX8_plantingOf 125 = .ok (.iaload, 1) := by decide +kernel
theorem dX8_plantingOf_126 : decode cX8_plantingOf 126 = .ok (.if_icmp .le 8, 3) := by decide +kernel
theorem dX8_plantingOf_129 : decode cX8_plantingOf 129 = .ok (.iload 7, 2) := by decide +kernel
theorem dX8_plantingOf_131 : decode cX8_plantingOf 131 = .ok (.goto 10, 3) := by decide +kernel
theorem dX8_plantingOf_134 : decode cX8_plantingOf 134 = .ok (.aload_n 0, 1) := by decide +kernel
theorem dX8_plantingOf_135 : decode cX8_plantingOf 135 = .ok (.getfield 50, 3) := by decide +kernel
theorem dX8_plantingOf_138 : decode cX8_plantingOf 138 = .ok (.iload 5, 2) := by decide +kernel
theorem dX8_plantingOf_140 : decode cX8_plantingOf 140 = .ok (.iaload, 1) := by decide +kernel
theorem dX8_plantingOf_141 : decode cX8_plantingOf 141 = .ok (.iastore, 1) := by decide +kernel
theorem dX8_plantingOf_142 : decode cX8_plantingOf 142 = .ok (.iinc 6 1, 3) := by decide +kernel
theorem dX8_plantingOf_145 : decode cX8_plantingOf 145 = .ok (.goto (-103), 3) := by decide +kernel
theorem dX8_plantingOf_148 : decode cX8_plantingOf 148 = .ok (.iinc 5 (-1), 3) := by decide +kernel
theorem dX8_plantingOf_151 : decode cX8_plantingOf 151 = .ok (.goto (-136), 3) := by decide +kernel
theorem dX8_plantingOf_154 : decode cX8_plantingOf 154 = .ok (.iload_n 3, 1) := by decide +kernel
theorem dX8_plantingOf_155 : decode cX8_plantingOf 155 = .ok (.ifCond .ne 12, 3) := by decide +kernel
theorem dX8_plantingOf_158 : decode cX8_plantingOf 158 = .ok (.aload_n 0, 1) := by decide +kernel
theorem dX8_plantingOf_159 : decode cX8_plantingOf 159 = .ok (.getfield 50, 3) := by decide +kernel
theorem dX8_plantingOf_162 : decode cX8_plantingOf 162 = .ok (.iconst 0, 1) := by decide +kernel
theorem dX8_plantingOf_163 : decode cX8_plantingOf 163 = .ok (.iaload, 1) := by decide +kernel
theorem dX8_plantingOf_164 : decode cX8_plantingOf 164 = .ok (.goto 5, 3) := by decide +kernel
theorem dX8_plantingOf_167 : decode cX8_plantingOf 167 = .ok (.iload 4, 2) := by decide +kernel
theorem dX8_plantingOf_169 : decode cX8_plantingOf 169 = .ok (.ireturn, 1) := by decide +kernel
set_option maxRecDepth 20000 in
theorem ggX8_planting_X8_isHour : GoodIn wsX8_planting wsX8_isHour := goodIn_r _ [4, 5, 6, 7, 3, 8] (by decide +kernel) (by decide +kernel)
set_option maxRecDepth 20000 in
theorem gX8_planting_X8_isHour : GoodIn wsX8_planting (va_wsS RX8 108 yX8_isHour wsX8_isHour) := goodIn_app (goodIn_of _ (by decide +kernel)) ggX8_planting_X8_isHour
set_option maxRecDepth 20000 in
theorem ggX8_planting_X8_in : GoodIn wsX8_planting wsX8_in := goodIn_r _ [8] (by decide +kernel) (by decide +kernel)
set_option maxRecDepth 20000 in
theorem gX8_planting_X8_in : GoodIn wsX8_planting (va_wsS RX8 70 yX8_in wsX8_in) := goodIn_app (goodIn_of _ (by decide +kernel)) ggX8_planting_X8_in
set_option maxRecDepth 20000 in
theorem ggX8_planting_X8_plantingOf : GoodIn wsX8_planting wsX8_plantingOf := goodIn_r _ [12, 13, 14, 15, 16, 17, 3, 18, 19, 20, 21, 22, 23, 24, 25, 26, 27, 28, 29, 30, 31, 32, 33, 34, 35, 36, 37, 38, 39, 40, 41, 42, 43, 44, 45, 46, 47, 48, 49, 50, 51, 52, 53, 54, 55, 56, 57, 58] (by decide +kernel) (by decide +kernel)
set_option maxRecDepth 20000 in
theorem gX8_planting_X8_plantingOf : GoodIn wsX8_planting (wsV RX8 212 RX8 yX8_plantingOf wsX8_plantingOf) := goodIn_app (goodIn_of _ (by decide +kernel)) ggX8_planting_X8_plantingOf
theorem dX8_planting_0 : decode cX8_planting 0 = .ok (.iload_n 1, 1) := by decide +kernel
theorem dX8_planting_1 : decode cX8_planting 1 = .ok (.invokestatic 108, 3) := by decide +kernel
theorem dX8_planting_4 : decode cX8_planting 4 = .ok (.ifCond .eq 32, 3) := by decide +kernel
theorem dX8_planting_7 : decode cX8_planting 7 = .ok (.iload_n 2, 1) := by decide +kernel
theorem dX8_planting_8 : decode cX8_planting 8 = .ok (.iconst 0, 1) := by decide +kernel
theorem dX8_planting_9 : decode cX8_planting 9 = .ok (.bipush 60, 2) := by decide +kernel
theorem dX8_planting_11 : decode cX8_planting 11 = .ok (.invokestatic 70, 3) := by decide +kernel
theorem dX8_planting_14 : decode cX8_planting 14 = .ok (.ifCond .eq 22, 3) := by decide +kernel
theorem dX8_planting_17 : decode cX8_planting 17 = .ok (.iload_n 3, 1) := by decide +kernel
theorem dX8_planting_18 : decode cX8_planting 18 = .ok (.iconst 0, 1) := by decide +kernel
theorem dX8_planting_19 : decode cX8_planting 19 = .ok (.iconst 1, 1) := by decide +kernel
theorem dX8_planting_20 : decode cX8_planting 20 = .ok (.invokestatic 70, 3) := by decide +kernel
theorem dX8_planting_23 : decode cX8_planting 23 = .ok (.ifCond .eq 13, 3) := by decide +kernel
theorem dX8_planting_26 : decode cX8_planting 26 = .ok (.aload_n 0, 1) := by decide +kernel
theorem dX8_planting_27 : decode cX8_planting 27 = .ok (.iload_n 1, 1) := by decide +kernel
theorem dX8_planting_28 : decode cX8_planting 28 = .ok (.iload_n 2, 1) := by decide +kernel
theorem dX8_planting_29 : decode cX8_planting 29 = .ok (.iload_n 3, 1) := by decide +kernel
theorem dX8_planting_30 : decode cX8_planting 30 = .ok (.invokevirtual 212, 3) := by decide +kernel
theorem dX8_planting_33 : decode cX8_planting 33 = .ok (.goto 5, 3) := by decide +kernel
theorem dX8_planting_36 : decode cX8_planting 36 = .ok (.bipush (-2), 2) := by decide +kernel
theorem dX8_planting_38 : decode cX8_planting 38 = .ok (.ireturn, 1) := by decide +kernel
set_option maxRecDepth 20000 in
theorem ggX8_cloudsOf_X8_isUp : GoodIn wsX8_cloudsOf wsX8_isUp := goodIn_r _ [6, 7, 8, 9, 10, 5, 11, 12, 13, 17, 18, 19, 20, 21, 22, 23, 24, 25, 26, 27, 28, 29, 30, 31, 32, 33, 34, 35, 36, 37, 38, 39, 40] (by decide +kernel) (by decide +kernel)
set_option maxRecDepth 20000 in
theorem gX8_cloudsOf_X8_isUp : GoodIn wsX8_cloudsOf (wsV RX8 104 RX8 yX8_isUp wsX8_isUp) := goodIn_app (goodIn_of _ (by decide +kernel)) ggX8_cloudsOf_X8_isUp
set_option maxRecDepth 20000 in
theorem ggX8_cloudsOf_X8_lowest : GoodIn wsX8_cloudsOf wsX8_lowest := goodIn_r _ [16] (by decide +kernel) (by decide +kernel)
set_option maxRecDepth 20000 in
theorem gX8_cloudsOf_X8_lowest : GoodIn wsX8_cloudsOf (va_wsS RX8 217 yX8_lowest wsX8_lowest) := goodIn_app (goodIn_of _ (by decide +kernel)) ggX8_cloudsOf_X8_lowest
theorem dX8_cloudsOf_0 : decode cX8_cloudsOf 0 = .ok (.lconst 1, 1) := by decide +kernel
theorem dX8_cloudsOf_1 : decode cX8_cloudsOf 1 = .ok (.lstore 6, 2) := by decide +kernel
theorem dX8_cloudsOf_3 : decode cX8_cloudsOf 3 = .ok (.lconst 1, 1) := by decide +kernel
theorem dX8_cloudsOf_4 : decode cX8_cloudsOf 4 = .ok (.lstore 8, 2) := by decide +kernel
theorem dX8_cloudsOf_6 : decode cX8_cloudsOf 6 = .ok (.iload_n 2, 1) := by decide +kernel
theorem dX8_cloudsOf_7 : decode cX8_cloudsOf 7 = .ok (.istore 10, 2) := by decide +kernel
theorem dX8_cloudsOf_9 : decode cX8_cloudsOf 9 = .ok (.iload 10, 2) := by decide +kernel
theorem dX8_cloudsOf_11 : decode cX8_cloudsOf 11 = .ok (.iload_n 2, 1) := by decide +kernel
theorem dX8_cloudsOf_12 : decode cX8_cloudsOf 12 = .ok (.iload_n 3, 1) := by decide +kernel
theorem dX8_cloudsOf_13 : decode cX8_cloudsOf 13 = .ok (.iadd, 1) := by decide +kernel
theorem dX8_cloudsOf_14 : decode cX8_cloudsOf 14 = .ok (.if_icmp .ge 35, 3) := by decide +kernel
theorem dX8_cloudsOf_17 : decode cX8_cloudsOf 17 = .ok (.aload_n 0, 1) := by decide +kernel
theorem dX8_cloudsOf_18 : decode cX8_cloudsOf 18 = .ok (.iload_n 1, 1) := by decide +kernel
theorem dX8_cloudsOf_19 : decode cX8_cloudsOf 19 = .ok (.iload 10, 2) := by decide +kernel
theorem dX8_cloudsOf_21 : decode cX8_cloudsOf 21 = .ok (.invokevirtual 104, 3) := by decide +kernel
theorem dX8_cloudsOf_24 : decode cX8_cloudsOf 24 = .ok (.ifCond .eq 19, 3) := by decide +kernel
theorem dX8_cloudsOf_27 : decode cX8_cloudsOf 27 = .ok (.lload 6, 2) := by decide +kernel
theorem dX8_cloudsOf_29 : decode cX8_cloudsOf 29 = .ok (.iload 4, 2) := by decide +kernel
theorem dX8_cloudsOf_31 : decode cX8_cloudsOf 31 = .ok (.i2l, 1) := by decide +kernel
theorem dX8_cloudsOf_32 : decode cX8_cloudsOf 32 = .ok (.lmul, 1) := by decide +kernel
theorem dX8_cloudsOf_33 : decode cX8_cloudsOf 33 = .ok (.lstore 6, 2) := by decide +kernel
theorem dX8_cloudsOf_35 : decode cX8_cloudsOf 35 = .ok (.lload 8, 2) := by decide +kernel
theorem dX8_cloudsOf_37 : decode cX8_cloudsOf 37 = .ok (.ldc2_w 215, 3) := by decide +kernel
theorem dX8_cloudsOf_40 : decode cX8_cloudsOf 40 = .ok (.lmul, 1) := by decide +kernel
theorem dX8_cloudsOf_41 : decode cX8_cloudsOf 41 = .ok (.lstore 8, 2) := by decide +kernel
theorem dX8_cloudsOf_43 : decode cX8_cloudsOf 43 = .ok (.iinc 10 1, 3) := by decide +kernel
theorem dX8_cloudsOf_46 : decode cX8_cloudsOf 46 = .ok (.goto (-37), 3) := by decide +kernel
theorem dX8_cloudsOf_49 : decode cX8_cloudsOf 49 = .ok (.lload 8, 2) := by decide +kernel
theorem dX8_cloudsOf_51 : decode cX8_cloudsOf 51 = .ok (.lload 6, 2) := by decide +kernel
theorem dX8_cloudsOf_53 : decode cX8_cloudsOf 53 = .ok (.lsub, 1) := by decide +kernel
theorem dX8_cloudsOf_54 : decode cX8_cloudsOf 54 = .ok (.lload 8, 2) := by decide +kernel
theorem dX8_cloudsOf_56 : decode cX8_cloudsOf 56 = .ok (.iload 5, 2) := by decide +kernel
theorem dX8_cloudsOf_58 : decode cX8_cloudsOf 58 = .ok (.invokestatic 217, 3) := by decide +kernel
theorem dX8_cloudsOf_61 : decode cX8_cloudsOf 61 = .ok (.lreturn, 1) := by decide +kernel
set_option maxRecDepth 20000 in
theorem ggX8_clouds_X8_isSun : GoodIn wsX8_clouds wsX8_isSun := goodIn_r _ [4, 5, 6, 3, 7] (by decide +kernel) (by decide +kernel)
set_option maxRecDepth 20000 in
theorem gX8_clouds_X8_isSun : GoodIn wsX8_clouds (va_wsS RX8 75 yX8_isSun wsX8_isSun) := goodIn_app (goodIn_of _ (by decide +kernel)) ggX8_clouds_X8_isSun
set_option maxRecDepth 20000 in
theorem ggX8_clouds_X8_isHour : GoodIn wsX8_clouds wsX8_isHour := goodIn_r _ [10, 11, 5, 6, 3, 7] (by decide +kernel) (by decide +kernel)
set_option maxRecDepth 20000 in
theorem gX8_clouds_X8_isHour : GoodIn wsX8_clouds (va_wsS RX8 108 yX8_isHour wsX8_isHour) := goodIn_app (goodIn_of _ (by decide +kernel)) ggX8_clouds_X8_isHour
set_option maxRecDepth 20000 in
theorem ggX8_clouds_X8_in : GoodIn wsX8_clouds wsX8_in := goodIn_r _ [7] (by decide +kernel) (by decide +kernel)
set_option maxRecDepth 20000 in
theorem gX8_clouds_X8_in : GoodIn wsX8_clouds (va_wsS RX8 70 yX8_in wsX8_in) := goodIn_app (goodIn_of _ (by decide +kernel)) ggX8_clouds_X8_in
set_option maxRecDepth 20000 in
theorem ggX8_clouds_X8_cloudsOf : GoodIn wsX8_clouds wsX8_cloudsOf := goodIn_r _ [15, 16, 17, 18, 19, 3, 20, 21, 22, 23, 24, 25, 26, 27, 28, 29, 30, 35, 36, 37, 38, 39, 40, 41, 42, 43, 44, 45, 46, 47, 48, 49, 50, 51, 52, 53, 54, 55, 56, 57, 58] (by decide +kernel) (by decide +kernel)
set_option maxRecDepth 20000 in
theorem gX8_clouds_X8_cloudsOf : GoodIn wsX8_clouds (wsV RX8 221 RX8 yX8_cloudsOf wsX8_cloudsOf) := goodIn_app (goodIn_of _ (by decide +kernel)) ggX8_clouds_X8_cloudsOf
set_option maxRecDepth 20000 in
theorem ggX8_clouds_X8_no : GoodIn wsX8_clouds wsX8_no := goodIn_r _ [33, 34] (by decide +kernel) (by decide +kernel)
set_option maxRecDepth 20000 in
theorem gX8_clouds_X8_no : GoodIn wsX8_clouds (va_wsS RX8 225 yX8_no wsX8_no) := goodIn_app (goodIn_of _ (by decide +kernel)) ggX8_clouds_X8_no
theorem dX8_clouds_0 : decode cX8_clouds 0 = .ok (.iload_n 1, 1) := by decide +kernel
theorem dX8_clouds_1 : decode cX8_clouds 1 = .ok (.invokestatic 75, 3) := by decide +kernel
theorem dX8_clouds_4 : decode cX8_clouds 4 = .ok (.ifCond .eq 55, 3) := by decide +kernel
theorem dX8_clouds_7 : decode cX8_clouds 7 = .ok (.iload_n 2, 1) := by decide +kernel
theorem dX8_clouds_8 : decode cX8_clouds 8 = .ok (.invokestatic 108, 3) := by decide +kernel
theorem dX8_clouds_11 : decode cX8_clouds 11 = .ok (.ifCond .eq 48, 3) := by decide +kernel
theorem dX8_clouds_14 : decode cX8_clouds 14 = .ok (.iload_n 3, 1) := by decide +kernel
theorem dX8_clouds_15 : decode cX8_clouds 15 = .ok (.iconst 0, 1) := by decide +kernel
theorem dX8_clouds_16 : decode cX8_clouds 16 = .ok (.bipush 14, 2) := by decide +kernel
theorem dX8_clouds_18 : decode cX8_clouds 18 = .ok (.invokestatic 70, 3) := by decide +kernel
theorem dX8_clouds_21 : decode cX8_clouds 21 = .ok (.ifCond .eq 38, 3) := by decide +kernel
theorem dX8_clouds_24 : decode cX8_clouds 24 = .ok (.iload 4, 2) := by decide +kernel
theorem dX8_clouds_26 : decode cX8_clouds 26 = .ok (.iconst 0, 1) := by decide +kernel
theorem dX8_clouds_27 : decode cX8_clouds 27 = .ok (.bipush 16, 2) := by decide +kernel
theorem dX8_clouds_29 : decode cX8_clouds 29 = .ok (.invokestatic 70, 3) := by decide +kernel
theorem dX8_clouds_32 : decode cX8_clouds 32 = .ok (.ifCond .eq 27, 3) := by decide +kernel
theorem dX8_clouds_35 : decode cX8_clouds 35 = .ok (.iload 5, 2) := by decide +kernel
theorem dX8_clouds_37 : decode cX8_clouds 37 = .ok (.iconst 0, 1) := by decide +kernel
theorem dX8_clouds_38 : decode cX8_clouds 38 = .ok (.iconst 1, 1) := by decide +kernel
theorem dX8_clouds_39 : decode cX8_clouds 39 = .ok (.invokestatic 70, 3) := by decide +kernel
theorem dX8_clouds_42 : decode cX8_clouds 42 = .ok (.ifCond .eq 17, 3) := by decide +kernel
theorem dX8_clouds_45 : decode cX8_clouds 45 = .ok (.aload_n 0, 1) := by decide +kernel
theorem dX8_clouds_46 : decode cX8_clouds 46 = .ok (.iload_n 1, 1) := by decide +kernel
theorem dX8_clouds_47 : decode cX8_clouds 47 = .ok (.iload_n 2, 1) := by decide +kernel
theorem dX8_clouds_48 : decode cX8_clouds 48 = .ok (.iload_n 3, 1) := by decide +kernel
theorem dX8_clouds_49 : decode cX8_clouds 49 = .ok (.iload 4, 2) := by decide +kernel
theorem dX8_clouds_51 : decode cX8_clouds 51 = .ok (.iload 5, 2) := by decide +kernel
theorem dX8_clouds_53 : decode cX8_clouds 53 = .ok (.invokevirtual 221, 3) := by decide +kernel
theorem dX8_clouds_56 : decode cX8_clouds 56 = .ok (.goto 8, 3) := by decide +kernel
theorem dX8_clouds_59 : decode cX8_clouds 59 = .ok (.bipush (-2), 2) := by decide +kernel
theorem dX8_clouds_61 : decode cX8_clouds 61 = .ok (.invokestatic 225, 3) := by decide +kernel
theorem dX8_clouds_64 : decode cX8_clouds 64 = .ok (.lreturn, 1) := by decide +kernel
theorem dX8_meets_0 : decode cX8_meets 0 = .ok (.aload_n 0, 1) := by decide +kernel
theorem dX8_meets_1 : decode cX8_meets 1 = .ok (.iload_n 1, 1) := by decide +kernel
theorem dX8_meets_2 : decode cX8_meets 2 = .ok (.putfield 229, 3) := by decide +kernel
theorem dX8_meets_5 : decode cX8_meets 5 = .ok (.bipush (-10), 2) := by decide +kernel
theorem dX8_meets_7 : decode cX8_meets 7 = .ok (.iload_n 1, 1) := by decide +kernel
theorem dX8_meets_8 : decode cX8_meets 8 = .ok (.isub, 1) := by decide +kernel
theorem dX8_meets_9 : decode cX8_meets 9 = .ok (.ireturn, 1) := by decide +kernel
set_option maxRecDepth 20000 in
theorem ggX8_isSheet_X8_in : GoodIn wsX8_isSheet wsX8_in := goodIn_r _ [4] (by decide +kernel) (by decide +kernel)
set_option maxRecDepth 20000 in
theorem gX8_isSheet_X8_in : GoodIn wsX8_isSheet (va_wsS RX8 70 yX8_in wsX8_in) := goodIn_app (goodIn_of _ (by decide +kernel)) ggX8_isSheet_X8_in
theorem dX8_isSheet_0 : decode cX8_isSheet 0 = .ok (.iload_n 0, 1) := by decide +kernel
theorem dX8_isSheet_1 : decode cX8_isSheet 1 = .ok (.iconst 0, 1) := by decide +kernel
theorem dX8_isSheet_2 : decode cX8_isSheet 2 = .ok (.iconst 3, 1) := by decide +kernel
theorem dX8_isSheet_3 : decode cX8_isSheet 3 = .ok (.invokestatic 70, 3) := by decide +kernel
theorem dX8_isSheet_6 : decode cX8_isSheet 6 = .ok (.ireturn, 1) := by decide +kernel
set_option maxRecDepth 20000 in
theorem ggX8_sheet_X8_isSheet : GoodIn wsX8_sheet wsX8_isSheet := goodIn_r _ [8, 9, 10, 7, 11] (by decide +kernel) (by decide +kernel)
set_option maxRecDepth 20000 in
theorem gX8_sheet_X8_isSheet : GoodIn wsX8_sheet (va_wsS RX8 203 yX8_isSheet wsX8_isSheet) := goodIn_app (goodIn_of _ (by decide +kernel)) ggX8_sheet_X8_isSheet
set_option maxRecDepth 20000 in
theorem ggX8_sheet_X8_in : GoodIn wsX8_sheet wsX8_in := goodIn_r _ [11] (by decide +kernel) (by decide +kernel)
set_option maxRecDepth 20000 in
theorem gX8_sheet_X8_in : GoodIn wsX8_sheet (va_wsS RX8 70 yX8_in wsX8_in) := goodIn_app (goodIn_of _ (by decide +kernel)) ggX8_sheet_X8_in
set_option maxRecDepth 20000 in
theorem ggX8_sheet_X8_meets : GoodIn wsX8_sheet wsX8_meets := goodIn_r _ [15, 16, 17, 18, 19, 20, 21, 22, 23, 24, 25, 26, 27, 28, 29, 30, 31, 32, 33, 34, 35, 36, 37, 38, 39, 40] (by decide +kernel) (by decide +kernel)
set_option maxRecDepth 20000 in
theorem gX8_sheet_X8_meets : GoodIn wsX8_sheet (wsV RX8 206 RX8 yX8_meets wsX8_meets) := goodIn_app (goodIn_of _ (by decide +kernel)) ggX8_sheet_X8_meets
theorem dX8_sheet_0 : decode cX8_sheet 0 = .ok (.iload_n 1, 1) := by decide +kernel
theorem dX8_sheet_1 : decode cX8_sheet 1 = .ok (.invokestatic 203, 3) := by decide +kernel
theorem dX8_sheet_4 : decode cX8_sheet 4 = .ok (.ifCond .eq 18, 3) := by decide +kernel
theorem dX8_sheet_7 : decode cX8_sheet 7 = .ok (.iload_n 2, 1) := by decide +kernel
theorem dX8_sheet_8 : decode cX8_sheet 8 = .ok (.iconst 0, 1) := by decide +kernel
theorem dX8_sheet_9 : decode cX8_sheet 9 = .ok (.iconst 2, 1) := by decide +kernel
theorem dX8_sheet_10 : decode cX8_sheet 10 = .ok (.invokestatic 70, 3) := by decide +kernel
theorem dX8_sheet_13 : decode cX8_sheet 13 = .ok (.ifCond .eq 9, 3) := by decide +kernel
theorem dX8_sheet_16 : decode cX8_sheet 16 = .ok (.iload_n 3, 1) := by decide +kernel
theorem dX8_sheet_17 : decode cX8_sheet 17 = .ok (.bipush 48, 2) := by decide +kernel
theorem dX8_sheet_19 : decode cX8_sheet 19 = .ok (.if_icmp .le 6, 3) := by decide +kernel
theorem dX8_sheet_22 : decode cX8_sheet 22 = .ok (.bipush (-2), 2) := by decide +kernel
theorem dX8_sheet_24 : decode cX8_sheet 24 = .ok (.ireturn, 1) := by decide +kernel
theorem dX8_sheet_25 : decode cX8_sheet 25 = .ok (.iload_n 3, 1) := by decide +kernel
theorem dX8_sheet_26 : decode cX8_sheet 26 = .ok (.ifCond .ge 9, 3) := by decide +kernel
theorem dX8_sheet_29 : decode cX8_sheet 29 = .ok (.aload_n 0, 1) := by decide +kernel
theorem dX8_sheet_30 : decode cX8_sheet 30 = .ok (.iconst 5, 1) := by decide +kernel
theorem dX8_sheet_31 : decode cX8_sheet 31 = .ok (.invokevirtual 206, 3) := by decide +kernel
theorem dX8_sheet_34 : decode cX8_sheet 34 = .ok (.ireturn, 1) := by decide +kernel
theorem dX8_sheet_35 : decode cX8_sheet 35 = .ok (.aload_n 0, 1) := by decide +kernel
theorem dX8_sheet_36 : decode cX8_sheet 36 = .ok (.getfield 53, 3) := by decide +kernel
theorem dX8_sheet_39 : decode cX8_sheet 39 = .ok (.iload_n 1, 1) := by decide +kernel
theorem dX8_sheet_40 : decode cX8_sheet 40 = .ok (.iconst 1, 1) := by decide +kernel
theorem dX8_sheet_41 : decode cX8_sheet 41 = .ok (.bastore, 1) := by decide +kernel
theorem dX8_sheet_42 : decode cX8_sheet 42 = .ok (.aload_n 0, 1) := by decide +kernel
theorem dX8_sheet_43 : decode cX8_sheet 43 = .ok (.getfield 56, 3) := by decide +kernel
theorem dX8_sheet_46 : decode cX8_sheet 46 = .ok (.iload_n 1, 1) := by decide +kernel
theorem dX8_sheet_47 : decode cX8_sheet 47 = .ok (.iload_n 2, 1) := by decide +kernel
theorem dX8_sheet_48 : decode cX8_sheet 48 = .ok (.iastore, 1) := by decide +kernel
theorem dX8_sheet_49 : decode cX8_sheet 49 = .ok (.aload_n 0, 1) := by decide +kernel
theorem dX8_sheet_50 : decode cX8_sheet 50 = .ok (.getfield 59, 3) := by decide +kernel
theorem dX8_sheet_53 : decode cX8_sheet 53 = .ok (.iload_n 1, 1) := by decide +kernel
theorem dX8_sheet_54 : decode cX8_sheet 54 = .ok (.iload_n 3, 1) := by decide +kernel
theorem dX8_sheet_55 : decode cX8_sheet 55 = .ok (.iastore, 1) := by decide +kernel
theorem dX8_sheet_56 : decode cX8_sheet 56 = .ok (.iconst 0, 1) := by decide +kernel
theorem dX8_sheet_57 : decode cX8_sheet 57 = .ok (.istore 4, 2) := by decide +kernel
theorem dX8_sheet_59 : decode cX8_sheet 59 = .ok (.iload 4, 2) := by decide +kernel
theorem dX8_sheet_61 : decode cX8_sheet 61 = .ok (.bipush 48, 2) := by decide +kernel
theorem dX8_sheet_63 : decode cX8_sheet 63 = .ok (.if_icmp .ge 22, 3) := by decide +kernel
theorem dX8_sheet_66 : decode cX8_sheet 66 = .ok (.aload_n 0, 1) := by decide +kernel
theorem dX8_sheet_67 : decode cX8_sheet 67 = .ok (.getfield 62, 3) := by decide +kernel
theorem dX8_sheet_70 : decode cX8_sheet 70 = .ok (.bipush 48, 2) := by decide +kernel
theorem dX8_sheet_72 : decode cX8_sheet 72 = .ok (.iload_n 1, 1) := by decide +kernel
theorem dX8_sheet_73 : decode cX8_sheet 73 = .ok (.imul, 1) := by decide +kernel
theorem dX8_sheet_74 : decode cX8_sheet 74 = .ok (.iload 4, 2) := by decide +kernel
theorem dX8_sheet_76 : decode cX8_sheet 76 = .ok (.iadd, 1) := by decide +kernel
theorem dX8_sheet_77 : decode cX8_sheet 77 = .ok (.iconst 0, 1) := by decide +kernel
theorem dX8_sheet_78 : decode cX8_sheet 78 = .ok (.iastore, 1) := by decide +kernel
theorem dX8_sheet_79 : decode cX8_sheet 79 = .ok (.iinc 4 1, 3) := by decide +kernel
theorem dX8_sheet_82 : decode cX8_sheet 82 = .ok (.goto (-23), 3) := by decide +kernel
theorem dX8_sheet_85 : decode cX8_sheet 85 = .ok (.iload_n 3, 1) := by decide +kernel
theorem dX8_sheet_86 : decode cX8_sheet 86 = .ok (.ireturn, 1) := by decide +kernel
set_option maxRecDepth 20000 in
theorem ggX8_lose_X8_isSheet : GoodIn wsX8_lose wsX8_isSheet := goodIn_r _ [6, 7, 8, 5, 9] (by decide +kernel) (by decide +kernel)
set_option maxRecDepth 20000 in
theorem gX8_lose_X8_isSheet : GoodIn wsX8_lose (va_wsS RX8 203 yX8_isSheet wsX8_isSheet) := goodIn_app (goodIn_of _ (by decide +kernel)) ggX8_lose_X8_isSheet
set_option maxRecDepth 20000 in
theorem ggX8_lose_X8_meets : GoodIn wsX8_lose wsX8_meets := goodIn_r _ [13, 14, 15, 16, 17, 18, 19, 20, 21, 22, 23, 24, 25, 26, 27, 28, 29, 30, 31, 32, 33, 34, 35, 36, 37, 38] (by decide +kernel) (by decide +kernel)
set_option maxRecDepth 20000 in
theorem gX8_lose_X8_meets : GoodIn wsX8_lose (wsV RX8 206 RX8 yX8_meets wsX8_meets) := goodIn_app (goodIn_of _ (by decide +kernel)) ggX8_lose_X8_meets
theorem dX8_lose_0 : decode cX8_lose 0 = .ok (.iload_n 1, 1) := by decide +kernel
theorem dX8_lose_1 : decode cX8_lose 1 = .ok (.invokestatic 203, 3) := by decide +kernel
theorem dX8_lose_4 : decode cX8_lose 4 = .ok (.ifCond .ne 6, 3) := by decide +kernel
theorem dX8_lose_7 : decode cX8_lose 7 = .ok (.bipush (-2), 2) := by decide +kernel
theorem dX8_lose_9 : decode cX8_lose 9 = .ok (.ireturn, 1) := by decide +kernel
theorem dX8_lose_10 : decode cX8_lose 10 = .ok (.aload_n 0, 1) := by decide +kernel
theorem dX8_lose_11 : decode cX8_lose 11 = .ok (.getfield 53, 3) := by decide +kernel
theorem dX8_lose_14 : decode cX8_lose 14 = .ok (.iload_n 1, 1) := by decide +kernel
theorem dX8_lose_15 : decode cX8_lose 15 = .ok (.baload, 1) := by decide +kernel
theorem dX8_lose_16 : decode cX8_lose 16 = .ok (.ifCond .ne 9, 3) := by decide +kernel
theorem dX8_lose_19 : decode cX8_lose 19 = .ok (.aload_n 0, 1) := by decide +kernel
theorem dX8_lose_20 : decode cX8_lose 20 = .ok (.iconst 1, 1) := by decide +kernel
theorem dX8_lose_21 : decode cX8_lose 21 = .ok (.invokevirtual 206, 3) := by decide +kernel
theorem dX8_lose_24 : decode cX8_lose 24 = .ok (.ireturn, 1) := by decide +kernel
theorem dX8_lose_25 : decode cX8_lose 25 = .ok (.aload_n 0, 1) := by decide +kernel
theorem dX8_lose_26 : decode cX8_lose 26 = .ok (.getfield 53, 3) := by decide +kernel
theorem dX8_lose_29 : decode cX8_lose 29 = .ok (.iload_n 1, 1) := by decide +kernel
theorem dX8_lose_30 : decode cX8_lose 30 = .ok (.iconst 0, 1) := by decide +kernel
theorem dX8_lose_31 : decode cX8_lose 31 = .ok (.bastore, 1) := by decide +kernel
theorem dX8_lose_32 : decode cX8_lose 32 = .ok (.aload_n 0, 1) := by decide +kernel
theorem dX8_lose_33 : decode cX8_lose 33 = .ok (.getfield 59, 3) := by decide +kernel
theorem dX8_lose_36 : decode cX8_lose 36 = .ok (.iload_n 1, 1) := by decide +kernel
theorem dX8_lose_37 : decode cX8_lose 37 = .ok (.iaload, 1) := by decide +kernel
theorem dX8_lose_38 : decode cX8_lose 38 = .ok (.ireturn, 1) := by decide +kernel
set_option maxRecDepth 20000 in
theorem ggX8_lacks_X8_in : GoodIn wsX8_lacks wsX8_in := goodIn_r _ [7] (by decide +kernel) (by decide +kernel)
set_option maxRecDepth 20000 in
theorem gX8_lacks_X8_in : GoodIn wsX8_lacks (va_wsS RX8 70 yX8_in wsX8_in) := goodIn_app (goodIn_of _ (by decide +kernel)) ggX8_lacks_X8_in
theorem dX8_lacks_0 : decode cX8_lacks 0 = .ok (.aload_n 0, 1) := by decide +kernel
theorem dX8_lacks_1 : decode cX8_lacks 1 = .ok (.getfield 53, 3) := by decide +kernel
theorem dX8_lacks_4 : decode cX8_lacks 4 = .ok (.iload_n 1, 1) := by decide +kernel
theorem dX8_lacks_5 : decode cX8_lacks 5 = .ok (.baload, 1) := by decide +kernel
theorem dX8_lacks_6 : decode cX8_lacks 6 = .ok (.ifCond .ne 7, 3) := by decide +kernel
theorem dX8_lacks_9 : decode cX8_lacks 9 = .ok (.iconst 1, 1) := by decide +kernel
theorem dX8_lacks_10 : decode cX8_lacks 10 = .ok (.goto 38, 3) := by decide +kernel
theorem dX8_lacks_13 : decode cX8_lacks 13 = .ok (.aload_n 0, 1) := by decide +kernel
theorem dX8_lacks_14 : decode cX8_lacks 14 = .ok (.getfield 56, 3) := by decide +kernel
theorem dX8_lacks_17 : decode cX8_lacks 17 = .ok (.iload_n 1, 1) := by decide +kernel
theorem dX8_lacks_18 : decode cX8_lacks 18 = .ok (.iaload, 1) := by decide +kernel
theorem dX8_lacks_19 : decode cX8_lacks 19 = .ok (.iload_n 2, 1) := by decide +kernel
theorem dX8_lacks_20 : decode cX8_lacks 20 = .ok (.if_icmp .eq 7, 3) := by decide +kernel
theorem dX8_lacks_23 : decode cX8_lacks 23 = .ok (.iconst 3, 1) := by decide +kernel
theorem dX8_lacks_24 : decode cX8_lacks 24 = .ok (.goto 24, 3) := by decide +kernel
theorem dX8_lacks_27 : decode cX8_lacks 27 = .ok (.iload_n 3, 1) := by decide +kernel
theorem dX8_lacks_28 : decode cX8_lacks 28 = .ok (.iconst 0, 1) := by decide +kernel
theorem dX8_lacks_29 : decode cX8_lacks 29 = .ok (.aload_n 0, 1) := by decide +kernel
theorem dX8_lacks_30 : decode cX8_lacks 30 = .ok (.getfield 59, 3) := by decide +kernel
theorem dX8_lacks_33 : decode cX8_lacks 33 = .ok (.iload_n 1, 1) := by decide +kernel
theorem dX8_lacks_34 : decode cX8_lacks 34 = .ok (.iaload, 1) := by decide +kernel
theorem dX8_lacks_35 : decode cX8_lacks 35 = .ok (.iconst 1, 1) := by decide +kernel
theorem dX8_lacks_36 : decode cX8_lacks 36 = .ok (.isub, 1) := by decide +kernel
theorem dX8_lacks_37 : decode cX8_lacks 37 = .ok (.invokestatic 70, 3) := by decide +kernel
theorem dX8_lacks_40 : decode cX8_lacks 40 = .ok (.ifCond .eq 7, 3) := by decide +kernel
theorem dX8_lacks_43 : decode cX8_lacks 43 = .ok (.iconst 0, 1) := by decide +kernel
theorem dX8_lacks_44 : decode cX8_lacks 44 = .ok (.goto 4, 3) := by decide +kernel
theorem dX8_lacks_47 : decode cX8_lacks 47 = .ok (.iconst 2, 1) := by decide +kernel
theorem dX8_lacks_48 : decode cX8_lacks 48 = .ok (.ireturn, 1) := by decide +kernel
theorem dX8_keep_0 : decode cX8_keep 0 = .ok (.aload_n 0, 1) := by decide +kernel
theorem dX8_keep_1 : decode cX8_keep 1 = .ok (.getfield 62, 3) := by decide +kernel
theorem dX8_keep_4 : decode cX8_keep 4 = .ok (.bipush 48, 2) := by decide +kernel
theorem dX8_keep_6 : decode cX8_keep 6 = .ok (.iload_n 1, 1) := by decide +kernel
theorem dX8_keep_7 : decode cX8_keep 7 = .ok (.imul, 1) := by decide +kernel
theorem dX8_keep_8 : decode cX8_keep 8 = .ok (.iload_n 2, 1) := by decide +kernel
theorem dX8_keep_9 : decode cX8_keep 9 = .ok (.iadd, 1) := by decide +kernel
theorem dX8_keep_10 : decode cX8_keep 10 = .ok (.aload_n 0, 1) := by decide +kernel
theorem dX8_keep_11 : decode cX8_keep 11 = .ok (.getfield 56, 3) := by decide +kernel
theorem dX8_keep_14 : decode cX8_keep 14 = .ok (.iload_n 1, 1) := by decide +kernel
theorem dX8_keep_15 : decode cX8_keep 15 = .ok (.iaload, 1) := by decide +kernel
theorem dX8_keep_16 : decode cX8_keep 16 = .ok (.ifCond .ne 8, 3) := by decide +kernel
theorem dX8_keep_19 : decode cX8_keep 19 = .ok (.iload_n 3, 1) := by decide +kernel
theorem dX8_keep_20 : decode cX8_keep 20 = .ok (.i2b, 1) := by decide +kernel
theorem dX8_keep_21 : decode cX8_keep 21 = .ok (.goto 19, 3) := by decide +kernel
theorem dX8_keep_24 : decode cX8_keep 24 = .ok (.aload_n 0, 1) := by decide +kernel
theorem dX8_keep_25 : decode cX8_keep 25 = .ok (.getfield 56, 3) := by decide +kernel
theorem dX8_keep_28 : decode cX8_keep 28 = .ok (.iload_n 1, 1) := by decide +kernel
theorem dX8_keep_29 : decode cX8_keep 29 = .ok (.iaload, 1) := by decide +kernel
theorem dX8_keep_30 : decode cX8_keep 30 = .ok (.iconst 1, 1) := by decide +kernel
theorem dX8_keep_31 : decode cX8_keep 31 = .ok (.if_icmp .ne 8, 3) := by decide +kernel
theorem dX8_keep_34 : decode cX8_keep 34 = .ok (.iload_n 3, 1) := by decide +kernel
theorem dX8_keep_35 : decode cX8_keep 35 = .ok (.i2s, 1) := by decide +kernel
theorem dX8_keep_36 : decode cX8_keep 36 = .ok (.goto 4, 3) := by decide +kernel
theorem dX8_keep_39 : decode cX8_keep 39 = .ok (.iload_n 3, 1) := by decide +kernel
theorem dX8_keep_40 : decode cX8_keep 40 = .ok (.iastore, 1) := by decide +kernel
theorem dX8_keep_41 : decode cX8_keep 41 = .ok (.return_, 1) := by decide +kernel
set_option maxRecDepth 20000 in
theorem ggX8_put_X8_isSheet : GoodIn wsX8_put wsX8_isSheet := goodIn_r _ [4, 5, 6, 3, 7] (by decide +kernel) (by decide +kernel)
set_option maxRecDepth 20000 in
theorem gX8_put_X8_isSheet : GoodIn wsX8_put (va_wsS RX8 203 yX8_isSheet wsX8_isSheet) := goodIn_app (goodIn_of _ (by decide +kernel)) ggX8_put_X8_isSheet
set_option maxRecDepth 20000 in
theorem ggX8_put_X8_in : GoodIn wsX8_put wsX8_in := goodIn_r _ [7] (by decide +kernel) (by decide +kernel)
set_option maxRecDepth 20000 in
theorem gX8_put_X8_in : GoodIn wsX8_put (va_wsS RX8 70 yX8_in wsX8_in) := goodIn_app (goodIn_of _ (by decide +kernel)) ggX8_put_X8_in
set_option maxRecDepth 20000 in
theorem ggX8_put_X8_lacks : GoodIn wsX8_put wsX8_lacks := goodIn_r _ [11, 12, 13, 14, 5, 6, 3, 7, 25, 26, 27, 28, 29, 30, 31, 32, 33, 34, 35, 36, 37, 38, 39, 40, 41, 42, 43, 44, 45, 46, 47, 48] (by decide +kernel) (by decide +kernel)
set_option maxRecDepth 20000 in
theorem gX8_put_X8_lacks : GoodIn wsX8_put (wsV RX8 232 RX8 yX8_lacks wsX8_lacks) := goodIn_app (goodIn_of _ (by decide +kernel)) ggX8_put_X8_lacks
set_option maxRecDepth 20000 in
theorem ggX8_put_X8_meets : GoodIn wsX8_put wsX8_meets := goodIn_r _ [18, 19, 25, 26, 27, 28, 29, 30, 31, 32, 33, 34, 35, 36, 37, 38, 39, 40, 41, 42, 43, 44, 45, 46, 47, 48] (by decide +kernel) (by decide +kernel)
set_option maxRecDepth 20000 in
theorem gX8_put_X8_meets : GoodIn wsX8_put (wsV RX8 206 RX8 yX8_meets wsX8_meets) := goodIn_app (goodIn_of _ (by decide +kernel)) ggX8_put_X8_meets
set_option maxRecDepth 20000 in
theorem ggX8_put_X8_keep : GoodIn wsX8_put wsX8_keep := goodIn_r _ [23, 24, 13, 25, 26, 27, 28, 29, 30, 31, 32, 33, 34, 35, 36, 37, 38, 39, 40, 41, 42, 43, 44, 45, 46, 47, 48] (by decide +kernel) (by decide +kernel)
set_option maxRecDepth 20000 in
theorem gX8_put_X8_keep : GoodIn wsX8_put (wsV RX8 235 RX8 yX8_keep wsX8_keep) := goodIn_app (goodIn_of _ (by decide +kernel)) ggX8_put_X8_keep
theorem dX8_put_0 : decode cX8_put 0 = .ok (.iload_n 1, 1) := by decide +kernel
theorem dX8_put_1 : decode cX8_put 1 = .ok (.invokestatic 203, 3) := by decide +kernel
theorem dX8_put_4 : decode cX8_put 4 = .ok (.ifCond .eq 12, 3) := by decide +kernel
theorem dX8_put_7 : decode cX8_put 7 = .ok (.iload_n 2, 1) := by decide +kernel
theorem dX8_put_8 : decode cX8_put 8 = .ok (.iconst 0, 1) := by decide +kernel
theorem dX8_put_9 : decode cX8_put 9 = .ok (.iconst 2, 1) := by decide +kernel
theorem dX8_put_10 : decode cX8_put 10 = .ok (.invokestatic 70, 3) := by decide +kernel
theorem dX8_put_13 : decode cX8_put 13 = .ok (.ifCond .ne 6, 3) := by decide +kernel
theorem dX8_put_16 : decode cX8_put 16 = .ok (.bipush (-2), 2) := by decide +kernel
theorem dX8_put_18 : decode cX8_put 18 = .ok (.ireturn, 1) := by decide +kernel
theorem dX8_put_19 : decode cX8_put 19 = .ok (.aload_n 0, 1) := by decide +kernel
theorem dX8_put_20 : decode cX8_put 20 = .ok (.iload_n 1, 1) := by decide +kernel
theorem dX8_put_21 : decode cX8_put 21 = .ok (.iload_n 2, 1) := by decide +kernel
theorem dX8_put_22 : decode cX8_put 22 = .ok (.iload_n 3, 1) := by decide +kernel
theorem dX8_put_23 : decode cX8_put 23 = .ok (.invokevirtual 232, 3) := by decide +kernel
theorem dX8_put_26 : decode cX8_put 26 = .ok (.istore 5, 2) := by decide +kernel
theorem dX8_put_28 : decode cX8_put 28 = .ok (.iload 5, 2) := by decide +kernel
theorem dX8_put_30 : decode cX8_put 30 = .ok (.ifCond .le 10, 3) := by decide +kernel
theorem dX8_put_33 : decode cX8_put 33 = .ok (.aload_n 0, 1) := by decide +kernel
theorem dX8_put_34 : decode cX8_put 34 = .ok (.iload 5, 2) := by decide +kernel
theorem dX8_put_36 : decode cX8_put 36 = .ok (.invokevirtual 206, 3) := by decide +kernel
theorem dX8_put_39 : decode cX8_put 39 = .ok (.ireturn, 1) := by decide +kernel
theorem dX8_put_40 : decode cX8_put 40 = .ok (.aload_n 0, 1) := by decide +kernel
theorem dX8_put_41 : decode cX8_put 41 = .ok (.iload_n 1, 1) := by decide +kernel
theorem dX8_put_42 : decode cX8_put 42 = .ok (.iload_n 3, 1) := by decide +kernel
theorem dX8_put_43 : decode cX8_put 43 = .ok (.iload 4, 2) := by decide +kernel
theorem dX8_put_45 : decode cX8_put 45 = .ok (.invokevirtual 235, 3) := by decide +kernel
theorem dX8_put_48 : decode cX8_put 48 = .ok (.iconst 1, 1) := by decide +kernel
theorem dX8_put_49 : decode cX8_put 49 = .ok (.ireturn, 1) := by decide +kernel
set_option maxRecDepth 20000 in
theorem ggX8_get_X8_isSheet : GoodIn wsX8_get wsX8_isSheet := goodIn_r _ [7, 8, 9, 6, 10] (by decide +kernel) (by decide +kernel)
set_option maxRecDepth 20000 in
theorem gX8_get_X8_isSheet : GoodIn wsX8_get (va_wsS RX8 203 yX8_isSheet wsX8_isSheet) := goodIn_app (goodIn_of _ (by decide +kernel)) ggX8_get_X8_isSheet
set_option maxRecDepth 20000 in
theorem ggX8_get_X8_in : GoodIn wsX8_get wsX8_in := goodIn_r _ [10] (by decide +kernel) (by decide +kernel)
set_option maxRecDepth 20000 in
theorem gX8_get_X8_in : GoodIn wsX8_get (va_wsS RX8 70 yX8_in wsX8_in) := goodIn_app (goodIn_of _ (by decide +kernel)) ggX8_get_X8_in
set_option maxRecDepth 20000 in
theorem ggX8_get_X8_lacks : GoodIn wsX8_get wsX8_lacks := goodIn_r _ [14, 15, 16, 17, 8, 9, 6, 10, 18, 19, 20, 21, 22, 23, 24, 25, 26, 27, 28, 29, 30, 31, 32, 33, 34, 35, 36, 37, 38, 39, 40, 41] (by decide +kernel) (by decide +kernel)
set_option maxRecDepth 20000 in
theorem gX8_get_X8_lacks : GoodIn wsX8_get (wsV RX8 232 RX8 yX8_lacks wsX8_lacks) := goodIn_app (goodIn_of _ (by decide +kernel)) ggX8_get_X8_lacks
theorem dX8_get_0 : decode cX8_get 0 = .ok (.iload_n 1, 1) := by decide +kernel
theorem dX8_get_1 : decode cX8_get 1 = .ok (.invokestatic 203, 3) := by decide +kernel
theorem dX8_get_4 : decode cX8_get 4 = .ok (.ifCond .eq 12, 3) := by decide +kernel
theorem dX8_get_7 : decode cX8_get 7 = .ok (.iload_n 2, 1) := by decide +kernel
theorem dX8_get_8 : decode cX8_get 8 = .ok (.iconst 0, 1) := by decide +kernel
theorem dX8_get_9 : decode cX8_get 9 = .ok (.iconst 2, 1) := by decide +kernel
theorem dX8_get_10 : decode cX8_get 10 = .ok (.invokestatic 70, 3) := by decide +kernel
theorem dX8_get_13 : decode cX8_get 13 = .ok (.ifCond .ne 6, 3) := by decide +kernel
theorem dX8_get_16 : decode cX8_get 16 = .ok (.ldc 239, 2) := by decide +kernel
theorem dX8_get_18 : decode cX8_get 18 = .ok (.ireturn, 1) := by decide +kernel
theorem dX8_get_19 : decode cX8_get 19 = .ok (.aload_n 0, 1) := by decide +kernel
theorem dX8_get_20 : decode cX8_get 20 = .ok (.iload_n 1, 1) := by decide +kernel
theorem dX8_get_21 : decode cX8_get 21 = .ok (.iload_n 2, 1) := by decide +kernel
theorem dX8_get_22 : decode cX8_get 22 = .ok (.iload_n 3, 1) := by decide +kernel
theorem dX8_get_23 : decode cX8_get 23 = .ok (.invokevirtual 232, 3) := by decide +kernel
theorem dX8_get_26 : decode cX8_get 26 = .ok (.istore 4, 2) := by decide +kernel
theorem dX8_get_28 : decode cX8_get 28 = .ok (.iload 4, 2) := by decide +kernel
theorem dX8_get_30 : decode cX8_get 30 = .ok (.ifCond .le 12, 3) := by decide +kernel
theorem dX8_get_33 : decode cX8_get 33 = .ok (.aload_n 0, 1) := by decide +kernel
theorem dX8_get_34 : decode cX8_get 34 = .ok (.iload 4, 2) := by decide +kernel
theorem dX8_get_36 : decode cX8_get 36 = .ok (.putfield 229, 3) := by decide +kernel
theorem dX8_get_39 : decode cX8_get 39 = .ok (.ldc 239, 2) := by decide +kernel
theorem dX8_get_41 : decode cX8_get 41 = .ok (.ireturn, 1) := by decide +kernel
theorem dX8_get_42 : decode cX8_get 42 = .ok (.aload_n 0, 1) := by decide +kernel
theorem dX8_get_43 : decode cX8_get 43 = .ok (.getfield 62, 3) := by decide +kernel
theorem dX8_get_46 : decode cX8_get 46 = .ok (.bipush 48, 2) := by decide +kernel
theorem dX8_get_48 : decode cX8_get 48 = .ok (.iload_n 1, 1) := by decide +kernel
theorem dX8_get_49 : decode cX8_get 49 = .ok (.imul, 1) := by decide +kernel
theorem dX8_get_50 : decode cX8_get 50 = .ok (.iload_n 3, 1) := by decide +kernel
theorem dX8_get_51 : decode cX8_get 51 = .ok (.iadd, 1) := by decide +kernel
theorem dX8_get_52 : decode cX8_get 52 = .ok (.iaload, 1) := by decide +kernel
theorem dX8_get_53 : decode cX8_get 53 = .ok (.ireturn, 1) := by decide +kernel
set_option maxRecDepth 20000 in
theorem ggX8_copy_X8_isSheet : GoodIn wsX8_copy wsX8_isSheet := goodIn_r _ [9, 10, 11, 8, 12] (by decide +kernel) (by decide +kernel)
set_option maxRecDepth 20000 in
theorem gX8_copy_X8_isSheet : GoodIn wsX8_copy (va_wsS RX8 203 yX8_isSheet wsX8_isSheet) := goodIn_app (goodIn_of _ (by decide +kernel)) ggX8_copy_X8_isSheet
set_option maxRecDepth 20000 in
theorem ggX8_copy_X8_meets : GoodIn wsX8_copy wsX8_meets := goodIn_r _ [16, 17, 18, 19, 20, 21, 22, 23, 24, 25, 26, 27, 28, 29, 30, 31, 32, 33, 34, 35, 36, 37, 38, 39, 40, 41] (by decide +kernel) (by decide +kernel)
set_option maxRecDepth 20000 in
theorem gX8_copy_X8_meets : GoodIn wsX8_copy (wsV RX8 206 RX8 yX8_meets wsX8_meets) := goodIn_app (goodIn_of _ (by decide +kernel)) ggX8_copy_X8_meets
theorem dX8_copy_0 : decode cX8_copy 0 = .ok (.iload_n 1, 1) := by decide +kernel
theorem dX8_copy_1 : decode cX8_copy 1 = .ok (.invokestatic 203, 3) := by decide +kernel
theorem dX8_copy_4 : decode cX8_copy 4 = .ok (.ifCond .eq 10, 3) := by decide +kernel
theorem dX8_copy_7 : decode cX8_copy 7 = .ok (.iload_n 3, 1) := by decide +kernel
theorem dX8_copy_8 : decode cX8_copy 8 = .ok (.invokestatic 203, 3) := by decide +kernel
theorem dX8_copy_11 : decode cX8_copy 11 = .ok (.ifCond .ne 6, 3) := by decide +kernel
theorem dX8_copy_14 : decode cX8_copy 14 = .ok (.bipush (-2), 2) := by decide +kernel
theorem dX8_copy_16 : decode cX8_copy 16 = .ok (.ireturn, 1) := by decide +kernel
theorem dX8_copy_17 : decode cX8_copy 17 = .ok (.aload_n 0, 1) := by decide +kernel
theorem dX8_copy_18 : decode cX8_copy 18 = .ok (.getfield 53, 3) := by decide +kernel
theorem dX8_copy_21 : decode cX8_copy 21 = .ok (.iload_n 1, 1) := by decide +kernel
theorem dX8_copy_22 : decode cX8_copy 22 = .ok (.baload, 1) := by decide +kernel
theorem dX8_copy_23 : decode cX8_copy 23 = .ok (.ifCond .eq 12, 3) := by decide +kernel
theorem dX8_copy_26 : decode cX8_copy 26 = .ok (.aload_n 0, 1) := by decide +kernel
theorem dX8_copy_27 : decode cX8_copy 27 = .ok (.getfield 53, 3) := by decide +kernel
theorem dX8_copy_30 : decode cX8_copy 30 = .ok (.iload_n 3, 1) := by decide +kernel
theorem dX8_copy_31 : decode cX8_copy 31 = .ok (.baload, 1) := by decide +kernel
theorem dX8_copy_32 : decode cX8_copy 32 = .ok (.ifCond .ne 9, 3) := by decide +kernel
theorem dX8_copy_35 : decode cX8_copy 35 = .ok (.aload_n 0, 1) := by decide +kernel
theorem dX8_copy_36 : decode cX8_copy 36 = .ok (.iconst 1, 1) := by decide +kernel
theorem dX8_copy_37 : decode cX8_copy 37 = .ok (.invokevirtual 206, 3) := by decide +kernel
theorem dX8_copy_40 : decode cX8_copy 40 = .ok (.ireturn, 1) := by decide +kernel
theorem dX8_copy_41 : decode cX8_copy 41 = .ok (.aload_n 0, 1) := by decide +kernel
theorem dX8_copy_42 : decode cX8_copy 42 = .ok (.getfield 56, 3) := by decide +kernel
theorem dX8_copy_45 : decode cX8_copy 45 = .ok (.iload_n 1, 1) := by decide +kernel
theorem dX8_copy_46 : decode cX8_copy 46 = .ok (.iaload, 1) := by decide +kernel
theorem dX8_copy_47 : decode cX8_copy 47 = .ok (.aload_n 0, 1) := by decide +kernel
theorem dX8_copy_48 : decode cX8_copy 48 = .ok (.getfield 56, 3) := by decide +kernel
theorem dX8_copy_51 : decode cX8_copy 51 = .ok (.iload_n 3, 1) := by decide +kernel
theorem dX8_copy_52 : decode cX8_copy 52 = .ok (.iaload, 1) := by decide +kernel
theorem dX8_copy_53 : decode cX8_copy 53 = .ok (.if_icmp .eq 9, 3) := by decide +kernel
theorem dX8_copy_56 : decode cX8_copy 56 = .ok (.aload_n 0, 1) := by decide +kernel
theorem dX8_copy_57 : decode cX8_copy 57 = .ok (.iconst 4, 1) := by decide +kernel
theorem dX8_copy_58 : decode cX8_copy 58 = .ok (.invokevirtual 206, 3) := by decide +kernel
theorem dX8_copy_61 : decode cX8_copy 61 = .ok (.ireturn, 1) := by decide +kernel
theorem dX8_copy_62 : decode cX8_copy 62 = .ok (.iload_n 2, 1) := by decide +kernel
theorem dX8_copy_63 : decode cX8_copy 63 = .ok (.ifCond .lt 48, 3) := by decide +kernel
theorem dX8_copy_66 : decode cX8_copy 66 = .ok (.iload 4, 2) := by decide +kernel
theorem dX8_copy_68 : decode cX8_copy 68 = .ok (.ifCond .lt 43, 3) := by decide +kernel
theorem dX8_copy_71 : decode cX8_copy 71 = .ok (.iload 5, 2) := by decide +kernel
theorem dX8_copy_73 : decode cX8_copy 73 = .ok (.ifCond .lt 38, 3) := by decide +kernel
theorem dX8_copy_76 : decode cX8_copy 76 = .ok (.iload_n 2, 1) := by decide +kernel
theorem dX8_copy_77 : decode cX8_copy 77 = .ok (.i2l, 1) := by decide +kernel
theorem dX8_copy_78 : decode cX8_copy 78 = .ok (.iload 5, 2) := by decide +kernel
theorem dX8_copy_80 : decode cX8_copy 80 = .ok (.i2l, 1) := by decide +kernel
theorem dX8_copy_81 : decode cX8_copy 81 = .ok (.ladd, 1) := by decide +kernel
theorem dX8_copy_82 : decode cX8_copy 82 = .ok (.aload_n 0, 1) := by decide +kernel
theorem dX8_copy_83 : decode cX8_copy 83 = .ok (.getfield 59, 3) := by decide +kernel
theorem dX8_copy_86 : decode cX8_copy 86 = .ok (.iload_n 1, 1) := by decide +kernel
theorem dX8_copy_87 : decode cX8_copy 87 = .ok (.iaload, 1) := by decide +kernel
theorem dX8_copy_88 : decode cX8_copy 88 = .ok (.i2l, 1) := by decide +kernel
theorem dX8_copy_89 : decode cX8_copy 89 = .ok (.lcmp, 1) := by decide +kernel
theorem dX8_copy_90 : decode cX8_copy 90 = .ok (.ifCond .gt 21, 3) := by decide +kernel
theorem dX8_copy_93 : decode cX8_copy 93 = .ok (.iload 4, 2) := by decide +kernel
theorem dX8_copy_95 : decode cX8_copy 95 = .ok (.i2l, 1) := by decide +kernel
theorem dX8_copy_96 : decode cX8_copy 96 = .ok (.iload 5, 2) := by decide +kernel
theorem dX8_copy_98 : decode cX8_copy 98 = .ok (.i2l, 1) := by decide +kernel
theorem dX8_copy_99 : decode cX8_copy 99 = .ok (.ladd, 1) := by decide +kernel
theorem dX8_copy_100 : decode cX8_copy 100 = .ok (.aload_n 0, 1) := by decide +kernel
theorem dX8_copy_101 : decode cX8_copy 101 = .ok (.getfield 59, 3) := by decide +kernel
theorem dX8_copy_104 : decode cX8_copy 104 = .ok (.iload_n 3, 1) := by decide +kernel
theorem dX8_copy_105 : decode cX8_copy 105 = .ok (.iaload, 1) := by decide +kernel
theorem dX8_copy_106 : decode cX8_copy 106 = .ok (.i2l, 1) := by decide +kernel
theorem dX8_copy_107 : decode cX8_copy 107 = .ok (.lcmp, 1) := by decide +kernel
theorem dX8_copy_108 : decode cX8_copy 108 = .ok (.ifCond .le 9, 3) := by decide +kernel
theorem dX8_copy_111 : decode cX8_copy 111 = .ok (.aload_n 0, 1) := by decide +kernel
theorem dX8_copy_112 : decode cX8_copy 112 = .ok (.iconst 2, 1) := by decide +kernel
theorem dX8_copy_113 : decode cX8_copy 113 = .ok (.invokevirtual 206, 3) := by decide +kernel
theorem dX8_copy_116 : decode cX8_copy 116 = .ok (.ireturn, 1) := by decide +kernel
theorem dX8_copy_117 : decode cX8_copy 117 = .ok (.iconst 0, 1) := by decide +kernel
theorem dX8_copy_118 : decode cX8_copy 118 = .ok (.istore 6, 2) := by decide +kernel
theorem dX8_copy_120 : decode cX8_copy 120 = .ok (.iload 6, 2) := by decide +kernel
theorem dX8_copy_122 : decode cX8_copy 122 = .ok (.iload 5, 2) := by decide +kernel
theorem dX8_copy_124 : decode cX8_copy 124 = .ok (.if_icmp .ge 30, 3) := by decide +kernel
theorem dX8_copy_127 : decode cX8_copy 127 = .ok (.aload_n 0, 1) := by decide +kernel
theorem dX8_copy_128 : decode cX8_copy 128 = .ok (.getfield 65, 3) := by decide +kernel
theorem dX8_copy_131 : decode cX8_copy 131 = .ok (.iload 6, 2) := by decide +kernel
theorem dX8_copy_133 : decode cX8_copy 133 = .ok (.aload_n 0, 1) := by decide +kernel
theorem dX8_copy_134 : decode cX8_copy 134 = .ok (.getfield 62, 3) := by decide +kernel
theorem dX8_copy_137 : decode cX8_copy 137 = .ok (.bipush 48, 2) := by decide +kernel
theorem dX8_copy_139 : decode cX8_copy 139 = .ok (.iload_n 1, 1) := by decide +kernel
theorem dX8_copy_140 : decode cX8_copy 140 = .ok (.imul, 1) := by decide +kernel
theorem dX8_copy_141 : decode cX8_copy 141 = .ok (.iload_n 2, 1) := by decide +kernel
theorem dX8_copy_142 : decode cX8_copy 142 = .ok (.iadd, 1) := by decide +kernel
theorem dX8_copy_143 : decode cX8_copy 143 = .ok (.iload 6, 2) := by decide +kernel
theorem dX8_copy_145 : decode cX8_copy 145 = .ok (.iadd, 1) := by decide +kernel
theorem dX8_copy_146 : decode cX8_copy 146 = .ok (.iaload, 1) := by decide +kernel
theorem dX8_copy_147 : decode cX8_copy 147 = .ok (.iastore, 1) := by decide +kernel
theorem dX8_copy_148 : decode cX8_copy 148 = .ok (.iinc 6 1, 3) := by decide +kernel
theorem dX8_copy_151 : decode cX8_copy 151 = .ok (.goto (-31), 3) := by decide +kernel
theorem dX8_copy_154 : decode cX8_copy 154 = .ok (.iconst 0, 1) := by decide +kernel
theorem dX8_copy_155 : decode cX8_copy 155 = .ok (.istore 6, 2) := by decide +kernel
theorem dX8_copy_157 : decode cX8_copy 157 = .ok (.iload 6, 2) := by decide +kernel
theorem dX8_copy_159 : decode cX8_copy 159 = .ok (.iload 5, 2) := by decide +kernel
theorem dX8_copy_161 : decode cX8_copy 161 = .ok (.if_icmp .ge 31, 3) := by decide +kernel
theorem dX8_copy_164 : decode cX8_copy 164 = .ok (.aload_n 0, 1) := by decide +kernel
theorem dX8_copy_165 : decode cX8_copy 165 = .ok (.getfield 62, 3) := by decide +kernel
theorem dX8_copy_168 : decode cX8_copy 168 = .ok (.bipush 48, 2) := by decide +kernel
theorem dX8_copy_170 : decode cX8_copy 170 = .ok (.iload_n 3, 1) := by decide +kernel
theorem dX8_copy_171 : decode cX8_copy 171 = .ok (.imul, 1) := by decide +kernel
theorem dX8_copy_172 : decode cX8_copy 172 = .ok (.iload 4, 2) := by decide +kernel
theorem dX8_copy_174 : decode cX8_copy 174 = .ok (.iadd, 1) := by decide +kernel
theorem dX8_copy_175 : decode cX8_copy 175 = .ok (.iload 6, 2) := by decide +kernel
theorem dX8_copy_177 : decode cX8_copy 177 = .ok (.iadd, 1) := by decide +kernel
theorem dX8_copy_178 : decode cX8_copy 178 = .ok (.aload_n 0, 1) := by decide +kernel
theorem dX8_copy_179 : decode cX8_copy 179 = .ok (.getfield 65, 3) := by decide +kernel
theorem dX8_copy_182 : decode cX8_copy 182 = .ok (.iload 6, 2) := by decide +kernel
theorem dX8_copy_184 : decode cX8_copy 184 = .ok (.iaload, 1) := by decide +kernel
theorem dX8_copy_185 : decode cX8_copy 185 = .ok (.iastore, 1) := by decide +kernel
theorem dX8_copy_186 : decode cX8_copy 186 = .ok (.iinc 6 1, 3) := by decide +kernel
theorem dX8_copy_189 : decode cX8_copy 189 = .ok (.goto (-32), 3) := by decide +kernel
theorem dX8_copy_192 : decode cX8_copy 192 = .ok (.iconst 1, 1) := by decide +kernel
theorem dX8_copy_193 : decode cX8_copy 193 = .ok (.ireturn, 1) := by decide +kernel
set_option maxRecDepth 20000 in
theorem ggX8_write_X8_isHour : GoodIn wsX8_write wsX8_isHour := goodIn_r _ [6, 7, 8, 9, 5, 10] (by decide +kernel) (by decide +kernel)
set_option maxRecDepth 20000 in
theorem gX8_write_X8_isHour : GoodIn wsX8_write (va_wsS RX8 108 yX8_isHour wsX8_isHour) := goodIn_app (goodIn_of _ (by decide +kernel)) ggX8_write_X8_isHour
set_option maxRecDepth 20000 in
theorem ggX8_write_X8_isSheet : GoodIn wsX8_write wsX8_isSheet := goodIn_r _ [13, 8, 9, 5, 10] (by decide +kernel) (by decide +kernel)
set_option maxRecDepth 20000 in
theorem gX8_write_X8_isSheet : GoodIn wsX8_write (va_wsS RX8 203 yX8_isSheet wsX8_isSheet) := goodIn_app (goodIn_of _ (by decide +kernel)) ggX8_write_X8_isSheet
set_option maxRecDepth 20000 in
theorem ggX8_write_X8_meets : GoodIn wsX8_write wsX8_meets := goodIn_r _ [17, 18, 40, 41, 42, 43, 44, 45, 46, 47, 48, 49, 50, 51, 52, 53, 54, 55, 56, 57, 58, 59, 60, 61, 62, 63] (by decide +kernel) (by decide +kernel)
set_option maxRecDepth 20000 in
theorem gX8_write_X8_meets : GoodIn wsX8_write (wsV RX8 206 RX8 yX8_meets wsX8_meets) := goodIn_app (goodIn_of _ (by decide +kernel)) ggX8_write_X8_meets
set_option maxRecDepth 20000 in
theorem ggX8_write_X8_lightOf : GoodIn wsX8_write wsX8_lightOf := goodIn_r _ [22, 23, 24, 25, 5, 26, 27, 28, 29, 30, 31, 32, 33, 40, 41, 42, 43, 44, 45, 46, 47, 48, 49, 50, 51, 52, 53, 54, 55, 56, 57, 58, 59, 60, 61, 62, 63] (by decide +kernel) (by decide +kernel)
set_option maxRecDepth 20000 in
theorem gX8_write_X8_lightOf : GoodIn wsX8_write (wsV RX8 111 RX8 yX8_lightOf wsX8_lightOf) := goodIn_app (goodIn_of _ (by decide +kernel)) ggX8_write_X8_lightOf
set_option maxRecDepth 20000 in
theorem ggX8_write_X8_keep : GoodIn wsX8_write wsX8_keep := goodIn_r _ [37, 38, 39, 40, 41, 42, 43, 44, 45, 46, 47, 48, 49, 50, 51, 52, 53, 54, 55, 56, 57, 58, 59, 60, 61, 62, 63] (by decide +kernel) (by decide +kernel)
set_option maxRecDepth 20000 in
theorem gX8_write_X8_keep : GoodIn wsX8_write (wsV RX8 235 RX8 yX8_keep wsX8_keep) := goodIn_app (goodIn_of _ (by decide +kernel)) ggX8_write_X8_keep
theorem dX8_write_0 : decode cX8_write 0 = .ok (.iload_n 1, 1) := by decide +kernel
theorem dX8_write_1 : decode cX8_write 1 = .ok (.invokestatic 108, 3) := by decide +kernel
theorem dX8_write_4 : decode cX8_write 4 = .ok (.ifCond .eq 10, 3) := by decide +kernel
theorem dX8_write_7 : decode cX8_write 7 = .ok (.iload_n 2, 1) := by decide +kernel
theorem dX8_write_8 : decode cX8_write 8 = .ok (.invokestatic 203, 3) := by decide +kernel
theorem dX8_write_11 : decode cX8_write 11 = .ok (.ifCond .ne 6, 3) := by decide +kernel
theorem dX8_write_14 : decode cX8_write 14 = .ok (.bipush (-2), 2) := by decide +kernel
theorem dX8_write_16 : decode cX8_write 16 = .ok (.ireturn, 1) := by decide +kernel
theorem dX8_write_17 : decode cX8_write 17 = .ok (.aload_n 0, 1) := by decide +kernel
theorem dX8_write_18 : decode cX8_write 18 = .ok (.getfield 53, 3) := by decide +kernel
theorem dX8_write_21 : decode cX8_write 21 = .ok (.iload_n 2, 1) := by decide +kernel
theorem dX8_write_22 : decode cX8_write 22 = .ok (.baload, 1) := by decide +kernel
theorem dX8_write_23 : decode cX8_write 23 = .ok (.ifCond .ne 9, 3) := by decide +kernel
theorem dX8_write_26 : decode cX8_write 26 = .ok (.aload_n 0, 1) := by decide +kernel
theorem dX8_write_27 : decode cX8_write 27 = .ok (.iconst 1, 1) := by decide +kernel
theorem dX8_write_28 : decode cX8_write 28 = .ok (.invokevirtual 206, 3) := by decide +kernel
theorem dX8_write_31 : decode cX8_write 31 = .ok (.ireturn, 1) := by decide +kernel
theorem dX8_write_32 : decode cX8_write 32 = .ok (.iconst 0, 1) := by decide +kernel
theorem dX8_write_33 : decode cX8_write 33 = .ok (.istore_n 3, 1) := by decide +kernel
theorem dX8_write_34 : decode cX8_write 34 = .ok (.iload_n 3, 1) := by decide +kernel
theorem dX8_write_35 : decode cX8_write 35 = .ok (.aload_n 0, 1) := by decide +kernel
theorem dX8_write_36 : decode cX8_write 36 = .ok (.getfield 59, 3) := by decide +kernel
theorem dX8_write_39 : decode cX8_write 39 = .ok (.iload_n 2, 1) := by decide +kernel
theorem dX8_write_40 : decode cX8_write 40 = .ok (.iaload, 1) := by decide +kernel
theorem dX8_write_41 : decode cX8_write 41 = .ok (.if_icmp .ge 22, 3) := by decide +kernel
theorem dX8_write_44 : decode cX8_write 44 = .ok (.aload_n 0, 1) := by decide +kernel
theorem dX8_write_45 : decode cX8_write 45 = .ok (.iload_n 2, 1) := by decide +kernel
theorem dX8_write_46 : decode cX8_write 46 = .ok (.iload_n 3, 1) := by decide +kernel
theorem dX8_write_47 : decode cX8_write 47 = .ok (.aload_n 0, 1) := by decide +kernel
theorem dX8_write_48 : decode cX8_write 48 = .ok (.iload_n 1, 1) := by decide +kernel
theorem dX8_write_49 : decode cX8_write 49 = .ok (.iload_n 3, 1) := by decide +kernel
theorem dX8_write_50 : decode cX8_write 50 = .ok (.iadd, 1) := by decide +kernel
theorem dX8_write_51 : decode cX8_write 51 = .ok (.invokevirtual 111, 3) := by decide +kernel
theorem dX8_write_54 : decode cX8_write 54 = .ok (.invokevirtual 235, 3) := by decide +kernel
theorem dX8_write_57 : decode cX8_write 57 = .ok (.iinc 3 1, 3) := by decide +kernel
theorem dX8_write_60 : decode cX8_write 60 = .ok (.goto (-26), 3) := by decide +kernel
theorem dX8_write_63 : decode cX8_write 63 = .ok (.aload_n 0, 1) := by decide +kernel
theorem dX8_write_64 : decode cX8_write 64 = .ok (.getfield 59, 3) := by decide +kernel
theorem dX8_write_67 : decode cX8_write 67 = .ok (.iload_n 2, 1) := by decide +kernel
theorem dX8_write_68 : decode cX8_write 68 = .ok (.iaload, 1) := by decide +kernel
theorem dX8_write_69 : decode cX8_write 69 = .ok (.ireturn, 1) := by decide +kernel
set_option maxRecDepth 20000 in
theorem ggX8_sumOf_X8_reads : GoodIn wsX8_sumOf wsX8_reads := goodIn_r _ [10, 11, 12, 13, 9, 14, 15, 16, 17, 18, 1, 19, 20, 2, 21, 22, 23, 24, 3, 4, 25, 26, 27, 28, 29, 30, 31, 32, 33, 34, 35, 36, 37, 38, 39, 40, 41, 42, 43, 44, 45, 46, 47, 48, 49, 50, 51, 52, 53, 54, 55] (by decide +kernel) (by decide +kernel)
set_option maxRecDepth 20000 in
theorem gX8_sumOf_X8_reads : GoodIn wsX8_sumOf (wsV RX8 132 RX8 yX8_reads wsX8_reads) := goodIn_app (goodIn_of _ (by decide +kernel)) ggX8_sumOf_X8_reads
theorem dX8_sumOf_0 : decode cX8_sumOf 0 = .ok (.aload_n 0, 1) := by decide +kernel
theorem dX8_sumOf_1 : decode cX8_sumOf 1 = .ok (.invokevirtual 132, 3) := by decide +kernel
theorem dX8_sumOf_4 : decode cX8_sumOf 4 = .ok (.iconst 0, 1) := by decide +kernel
theorem dX8_sumOf_5 : decode cX8_sumOf 5 = .ok (.istore_n 2, 1) := by decide +kernel
theorem dX8_sumOf_6 : decode cX8_sumOf 6 = .ok (.iconst 0, 1) := by decide +kernel
theorem dX8_sumOf_7 : decode cX8_sumOf 7 = .ok (.istore_n 3, 1) := by decide +kernel
theorem dX8_sumOf_8 : decode cX8_sumOf 8 = .ok (.iload_n 3, 1) := by decide +kernel
theorem dX8_sumOf_9 : decode cX8_sumOf 9 = .ok (.bipush 60, 2) := by decide +kernel
theorem dX8_sumOf_11 : decode cX8_sumOf 11 = .ok (.if_icmp .ge 91, 3) := by decide +kernel
theorem dX8_sumOf_14 : decode cX8_sumOf 14 = .ok (.iload_n 2, 1) := by decide +kernel
theorem dX8_sumOf_15 : decode cX8_sumOf 15 = .ok (.iload_n 1, 1) := by decide +kernel
theorem dX8_sumOf_16 : decode cX8_sumOf 16 = .ok (.iconst 3, 1) := by decide +kernel
theorem dX8_sumOf_17 : decode cX8_sumOf 17 = .ok (.if_icmp .ne 25, 3) := by decide +kernel
theorem dX8_sumOf_20 : decode cX8_sumOf 20 = .ok (.iload_n 3, 1) := by decide +kernel
theorem dX8_sumOf_21 : decode cX8_sumOf 21 = .ok (.aload_n 0, 1) := by decide +kernel
theorem dX8_sumOf_22 : decode cX8_sumOf 22 = .ok (.getfield 79, 3) := by decide +kernel
theorem dX8_sumOf_25 : decode cX8_sumOf 25 = .ok (.if_icmp .ge 17, 3) := by decide +kernel
theorem dX8_sumOf_28 : decode cX8_sumOf 28 = .ok (.aload_n 0, 1) := by decide +kernel
theorem dX8_sumOf_29 : decode cX8_sumOf 29 = .ok (.getfield 25, 3) := by decide +kernel
theorem dX8_sumOf_32 : decode cX8_sumOf 32 = .ok (.iload_n 3, 1) := by decide +kernel
theorem dX8_sumOf_33 : decode cX8_sumOf 33 = .ok (.iaload, 1) := by decide +kernel
theorem dX8_sumOf_34 : decode cX8_sumOf 34 = .ok (.iconst (-1), 1) := by decide +kernel
theorem dX8_sumOf_35 : decode cX8_sumOf 35 = .ok (.if_icmp .eq 7, 3) := by decide +kernel
theorem dX8_sumOf_38 : decode cX8_sumOf 38 = .ok (.iconst 1, 1) := by decide +kernel
theorem dX8_sumOf_39 : decode cX8_sumOf 39 = .ok (.goto 4, 3) := by decide +kernel
theorem dX8_sumOf_42 : decode cX8_sumOf 42 = .ok (.iconst 0, 1) := by decide +kernel
theorem dX8_sumOf_43 : decode cX8_sumOf 43 = .ok (.iadd, 1) := by decide +kernel
theorem dX8_sumOf_44 : decode cX8_sumOf 44 = .ok (.istore_n 2, 1) := by decide +kernel
theorem dX8_sumOf_45 : decode cX8_sumOf 45 = .ok (.iload_n 2, 1) := by decide +kernel
theorem dX8_sumOf_46 : decode cX8_sumOf 46 = .ok (.iload_n 1, 1) := by decide +kernel
theorem dX8_sumOf_47 : decode cX8_sumOf 47 = .ok (.iconst 5, 1) := by decide +kernel
theorem dX8_sumOf_48 : decode cX8_sumOf 48 = .ok (.if_icmp .ne 20, 3) := by decide +kernel
theorem dX8_sumOf_51 : decode cX8_sumOf 51 = .ok (.iload_n 3, 1) := by decide +kernel
theorem dX8_sumOf_52 : decode cX8_sumOf 52 = .ok (.aload_n 0, 1) := by decide +kernel
theorem dX8_sumOf_53 : decode cX8_sumOf 53 = .ok (.getfield 83, 3) := by decide +kernel
theorem dX8_sumOf_56 : decode cX8_sumOf 56 = .ok (.if_icmp .ge 12, 3) := by decide +kernel
theorem dX8_sumOf_59 : decode cX8_sumOf 59 = .ok (.aload_n 0, 1) := by decide +kernel
theorem dX8_sumOf_60 : decode cX8_sumOf 60 = .ok (.getfield 28, 3) := by decide +kernel
theorem dX8_sumOf_63 : decode cX8_sumOf 63 = .ok (.iload_n 3, 1) := by decide +kernel
theorem dX8_sumOf_64 : decode cX8_sumOf 64 = .ok (.iaload, 1) := by decide +kernel
theorem dX8_sumOf_65 : decode cX8_sumOf 65 = .ok (.goto 4, 3) := by decide +kernel
theorem dX8_sumOf_68 : decode cX8_sumOf 68 = .ok (.iconst 0, 1) := by decide +kernel
theorem dX8_sumOf_69 : decode cX8_sumOf 69 = .ok (.iadd, 1) := by decide +kernel
theorem dX8_sumOf_70 : decode cX8_sumOf 70 = .ok (.istore_n 2, 1) := by decide +kernel
theorem dX8_sumOf_71 : decode cX8_sumOf 71 = .ok (.iload_n 2, 1) := by decide +kernel
theorem dX8_sumOf_72 : decode cX8_sumOf 72 = .ok (.iload_n 1, 1) := by decide +kernel
theorem dX8_sumOf_73 : decode cX8_sumOf 73 = .ok (.bipush 7, 2) := by decide +kernel
theorem dX8_sumOf_75 : decode cX8_sumOf 75 = .ok (.if_icmp .ne 18, 3) := by decide +kernel
theorem dX8_sumOf_78 : decode cX8_sumOf 78 = .ok (.iload_n 3, 1) := by decide +kernel
theorem dX8_sumOf_79 : decode cX8_sumOf 79 = .ok (.bipush 6, 2) := by decide +kernel
theorem dX8_sumOf_81 : decode cX8_sumOf 81 = .ok (.if_icmp .ge 12, 3) := by decide +kernel
theorem dX8_sumOf_84 : decode cX8_sumOf 84 = .ok (.aload_n 0, 1) := by decide +kernel
theorem dX8_sumOf_85 : decode cX8_sumOf 85 = .ok (.getfield 41, 3) := by decide +kernel
theorem dX8_sumOf_88 : decode cX8_sumOf 88 = .ok (.iload_n 3, 1) := by decide +kernel
theorem dX8_sumOf_89 : decode cX8_sumOf 89 = .ok (.iaload, 1) := by decide +kernel
theorem dX8_sumOf_90 : decode cX8_sumOf 90 = .ok (.goto 4, 3) := by decide +kernel
theorem dX8_sumOf_93 : decode cX8_sumOf 93 = .ok (.iconst 0, 1) := by decide +kernel
theorem dX8_sumOf_94 : decode cX8_sumOf 94 = .ok (.iadd, 1) := by decide +kernel
theorem dX8_sumOf_95 : decode cX8_sumOf 95 = .ok (.istore_n 2, 1) := by decide +kernel
theorem dX8_sumOf_96 : decode cX8_sumOf 96 = .ok (.iinc 3 1, 3) := by decide +kernel
theorem dX8_sumOf_99 : decode cX8_sumOf 99 = .ok (.goto (-91), 3) := by decide +kernel
theorem dX8_sumOf_102 : decode cX8_sumOf 102 = .ok (.iload_n 1, 1) := by decide +kernel
theorem dX8_sumOf_103 : decode cX8_sumOf 103 = .ok (.iconst 2, 1) := by decide +kernel
theorem dX8_sumOf_104 : decode cX8_sumOf 104 = .ok (.if_icmp .ne 10, 3) := by decide +kernel
theorem dX8_sumOf_107 : decode cX8_sumOf 107 = .ok (.aload_n 0, 1) := by decide +kernel
theorem dX8_sumOf_108 : decode cX8_sumOf 108 = .ok (.getfield 79, 3) := by decide +kernel
theorem dX8_sumOf_111 : decode cX8_sumOf 111 = .ok (.goto 16, 3) := by decide +kernel
theorem dX8_sumOf_114 : decode cX8_sumOf 114 = .ok (.iload_n 1, 1) := by decide +kernel
theorem dX8_sumOf_115 : decode cX8_sumOf 115 = .ok (.iconst 4, 1) := by decide +kernel
theorem dX8_sumOf_116 : decode cX8_sumOf 116 = .ok (.if_icmp .ne 10, 3) := by decide +kernel
theorem dX8_sumOf_119 : decode cX8_sumOf 119 = .ok (.aload_n 0, 1) := by decide +kernel
theorem dX8_sumOf_120 : decode cX8_sumOf 120 = .ok (.getfield 83, 3) := by decide +kernel
theorem dX8_sumOf_123 : decode cX8_sumOf 123 = .ok (.goto 4, 3) := by decide +kernel
theorem dX8_sumOf_126 : decode cX8_sumOf 126 = .ok (.iload_n 2, 1) := by decide +kernel
theorem dX8_sumOf_127 : decode cX8_sumOf 127 = .ok (.ireturn, 1) := by decide +kernel
set_option maxRecDepth 20000 in
theorem ggX8_count_X8_sumOf : GoodIn wsX8_count wsX8_sumOf := goodIn_r _ [7, 8, 9, 10, 11, 12, 13, 14, 15, 6, 16, 17, 18, 19, 20, 21, 22, 23, 24, 1, 25, 26, 27, 28, 29, 30, 31, 32, 33, 34, 35, 36, 42, 43, 44, 45, 46, 47, 48, 49, 50, 51, 52, 53, 54, 55, 56, 57, 58, 59, 60, 61, 62, 63, 64, 65] (by decide +kernel) (by decide +kernel)
set_option maxRecDepth 20000 in
theorem gX8_count_X8_sumOf : GoodIn wsX8_count (wsV RX8 240 RX8 yX8_sumOf wsX8_sumOf) := goodIn_app (goodIn_of _ (by decide +kernel)) ggX8_count_X8_sumOf
set_option maxRecDepth 20000 in
theorem ggX8_count_X8_roundNow : GoodIn wsX8_count wsX8_roundNow := goodIn_r _ [40, 41, 42, 43, 44, 45, 46, 47, 48, 49, 50, 51, 52, 53, 54, 55, 56, 57, 58, 59, 60, 61, 62, 63, 64, 65] (by decide +kernel) (by decide +kernel)
set_option maxRecDepth 20000 in
theorem gX8_count_X8_roundNow : GoodIn wsX8_count (wsV RX8 114 RX8 yX8_roundNow wsX8_roundNow) := goodIn_app (goodIn_of _ (by decide +kernel)) ggX8_count_X8_roundNow
theorem dX8_count_0 : decode cX8_count 0 = .ok (.iload_n 1, 1) := by decide +kernel
theorem dX8_count_1 : decode cX8_count 1 = .ok (.tableswitch 74 0 8 #[51, 51, 58, 58, 58, 58, 64, 58, 69], 51) := by decide +kernel
theorem dX8_count_52 : decode cX8_count 52 = .ok (.aload_n 0, 1) := by decide +kernel
theorem dX8_count_53 : decode cX8_count 53 = .ok (.getfield 19, 3) := by decide +kernel
theorem dX8_count_56 : decode cX8_count 56 = .ok (.iload_n 1, 1) := by decide +kernel
theorem dX8_count_57 : decode cX8_count 57 = .ok (.iaload, 1) := by decide +kernel
theorem dX8_count_58 : decode cX8_count 58 = .ok (.ireturn, 1) := by decide +kernel
theorem dX8_count_59 : decode cX8_count 59 = .ok (.aload_n 0, 1) := by decide +kernel
theorem dX8_count_60 : decode cX8_count 60 = .ok (.iload_n 1, 1) := by decide +kernel
theorem dX8_count_61 : decode cX8_count 61 = .ok (.invokevirtual 240, 3) := by decide +kernel
theorem dX8_count_64 : decode cX8_count 64 = .ok (.ireturn, 1) := by decide +kernel
theorem dX8_count_65 : decode cX8_count 65 = .ok (.aload_n 0, 1) := by decide +kernel
theorem dX8_count_66 : decode cX8_count 66 = .ok (.invokevirtual 114, 3) := by decide +kernel
theorem dX8_count_69 : decode cX8_count 69 = .ok (.ireturn, 1) := by decide +kernel
theorem dX8_count_70 : decode cX8_count 70 = .ok (.aload_n 0, 1) := by decide +kernel
theorem dX8_count_71 : decode cX8_count 71 = .ok (.getfield 229, 3) := by decide +kernel
theorem dX8_count_74 : decode cX8_count 74 = .ok (.ireturn, 1) := by decide +kernel
theorem dX8_count_75 : decode cX8_count 75 = .ok (.bipush (-2), 2) := by decide +kernel
theorem dX8_count_77 : decode cX8_count 77 = .ok (.ireturn, 1) := by decide +kernel
set_option maxRecDepth 20000 in
theorem ggX8_digest_X8_count : GoodIn wsX8_digest wsX8_count := goodIn_r _ [7, 8, 9, 10, 11, 12, 6, 13, 14, 15, 16, 17, 18, 19, 20, 21, 22, 23, 24, 25, 26, 27, 28, 29, 30, 31, 32, 33, 34, 35, 36, 37, 38, 39, 40, 41, 42, 43, 44, 45, 46, 47, 169, 170, 171, 172, 173, 174, 175, 176, 177, 178, 179, 180, 181, 182, 183, 184, 185, 186, 187, 188, 189, 190, 191, 192] (by decide +kernel) (by decide +kernel)
set_option maxRecDepth 20000 in
theorem gX8_digest_X8_count : GoodIn wsX8_digest (wsV RX8 247 RX8 yX8_count wsX8_count) := goodIn_app (goodIn_of _ (by decide +kernel)) ggX8_digest_X8_count
set_option maxRecDepth 20000 in
theorem ggX8_digest_X8_faultOf : GoodIn wsX8_digest wsX8_faultOf := goodIn_r _ [26, 27, 28, 29, 6, 30, 14, 8, 31, 15, 32, 33, 34, 35, 16, 17, 36, 37, 38, 39, 40, 41, 42, 169, 170, 171, 172, 173, 174, 175, 176, 177, 178, 179, 180, 181, 182, 183, 184, 185, 186, 187, 188, 189, 190, 191, 192] (by decide +kernel) (by decide +kernel)
set_option maxRecDepth 20000 in
theorem gX8_digest_X8_faultOf : GoodIn wsX8_digest (wsV RX8 97 RX8 yX8_faultOf wsX8_faultOf) := goodIn_app (goodIn_of _ (by decide +kernel)) ggX8_digest_X8_faultOf
set_option maxRecDepth 20000 in
theorem ggX8_digest_X8_lightOf : GoodIn wsX8_digest wsX8_lightOf := goodIn_r _ [51, 52, 53, 54, 6, 55, 56, 57, 58, 59, 60, 61, 47, 169, 170, 171, 172, 173, 174, 175, 176, 177, 178, 179, 180, 181, 182, 183, 184, 185, 186, 187, 188, 189, 190, 191, 192] (by decide +kernel) (by decide +kernel)
set_option maxRecDepth 20000 in
theorem gX8_digest_X8_lightOf : GoodIn wsX8_digest (wsV RX8 111 RX8 yX8_lightOf wsX8_lightOf) := goodIn_app (goodIn_of _ (by decide +kernel)) ggX8_digest_X8_lightOf
set_option maxRecDepth 20000 in
theorem ggX8_digest_X8_lastsOf : GoodIn wsX8_digest wsX8_lastsOf := goodIn_r _ [65, 43, 44, 45, 6, 46, 47, 48, 49, 50, 51, 52, 53, 54, 55, 56, 57, 58, 59, 60, 61, 169, 170, 171, 172, 173, 174, 175, 176, 177, 178, 179, 180, 181, 182, 183, 184, 185, 186, 187, 188, 189, 190, 191, 192] (by decide +kernel) (by decide +kernel)
set_option maxRecDepth 20000 in
theorem gX8_digest_X8_lastsOf : GoodIn wsX8_digest (wsV RX8 123 RX8 yX8_lastsOf wsX8_lastsOf) := goodIn_app (goodIn_of _ (by decide +kernel)) ggX8_digest_X8_lastsOf
set_option maxRecDepth 20000 in
theorem ggX8_digest_X8_nextOf : GoodIn wsX8_digest wsX8_nextOf := goodIn_r _ [69, 43, 44, 45, 6, 46, 47, 48, 49, 50, 51, 52, 53, 54, 55, 56, 57, 58, 59, 60, 61, 169, 170, 171, 172, 173, 174, 175, 176, 177, 178, 179, 180, 181, 182, 183, 184, 185, 186, 187, 188, 189, 190, 191, 192] (by decide +kernel) (by decide +kernel)
set_option maxRecDepth 20000 in
theorem gX8_digest_X8_nextOf : GoodIn wsX8_digest (wsV RX8 120 RX8 yX8_nextOf wsX8_nextOf) := goodIn_app (goodIn_of _ (by decide +kernel)) ggX8_digest_X8_nextOf
set_option maxRecDepth 20000 in
theorem ggX8_digest_X8_spellsOf : GoodIn wsX8_digest wsX8_spellsOf := goodIn_r _ [73, 43, 44, 45, 6, 46, 47, 48, 49, 50, 51, 52, 53, 54, 55, 56, 57, 58, 59, 60, 61, 62, 63, 64, 65, 169, 170, 171, 172, 173, 174, 175, 176, 177, 178, 179, 180, 181, 182, 183, 184, 185, 186, 187, 188, 189, 190, 191, 192] (by decide +kernel) (by decide +kernel)
set_option maxRecDepth 20000 in
theorem gX8_digest_X8_spellsOf : GoodIn wsX8_digest (wsV RX8 126 RX8 yX8_spellsOf wsX8_spellsOf) := goodIn_app (goodIn_of _ (by decide +kernel)) ggX8_digest_X8_spellsOf
set_option maxRecDepth 20000 in
theorem ggX8_digest_X8_withoutOf : GoodIn wsX8_digest wsX8_withoutOf := goodIn_r _ [77, 56, 47, 43, 44, 45, 6, 46, 169, 170, 171, 172, 173, 174, 175, 176, 177, 178, 179, 180, 181, 182, 183, 184, 185, 186, 187, 188, 189, 190, 191, 192] (by decide +kernel) (by decide +kernel)
set_option maxRecDepth 20000 in
theorem gX8_digest_X8_withoutOf : GoodIn wsX8_digest (wsV RX8 129 RX8 yX8_withoutOf wsX8_withoutOf) := goodIn_app (goodIn_of _ (by decide +kernel)) ggX8_digest_X8_withoutOf
set_option maxRecDepth 20000 in
theorem ggX8_digest_X8_placeOf : GoodIn wsX8_digest wsX8_placeOf := goodIn_r _ [60, 61, 47, 169, 170, 171, 172, 173, 174, 175, 176, 177, 178, 179, 180, 181, 182, 183, 184, 185, 186, 187, 188, 189, 190, 191, 192] (by decide +kernel) (by decide +kernel)
set_option maxRecDepth 20000 in
theorem gX8_digest_X8_placeOf : GoodIn wsX8_digest (wsV RX8 100 RX8 yX8_placeOf wsX8_placeOf) := goodIn_app (goodIn_of _ (by decide +kernel)) ggX8_digest_X8_placeOf
set_option maxRecDepth 20000 in
theorem ggX8_digest_X8_driftOf : GoodIn wsX8_digest wsX8_driftOf := goodIn_r _ [81, 16, 56, 17, 19, 20, 21, 6, 22, 23, 24, 25, 26, 27, 28, 29, 30, 14, 8, 31, 15, 32, 33, 34, 35, 36, 37, 38, 39, 40, 41, 42, 82, 83, 84, 85, 47, 57, 58, 59, 60, 61, 169, 170, 171, 172, 173, 174, 175, 176, 177, 178, 179, 180, 181, 182, 183, 184, 185, 186, 187, 188, 189, 190, 191, 192] (by decide +kernel) (by decide +kernel)
set_option maxRecDepth 20000 in
theorem gX8_digest_X8_driftOf : GoodIn wsX8_digest (wsV RX8 141 RX8 yX8_driftOf wsX8_driftOf) := goodIn_app (goodIn_of _ (by decide +kernel)) ggX8_digest_X8_driftOf
set_option maxRecDepth 20000 in
theorem ggX8_digest_X8_shortestOf : GoodIn wsX8_digest wsX8_shortestOf := goodIn_r _ [89, 56, 90, 91, 92, 6, 93, 82, 83, 84, 85, 47, 57, 58, 59, 60, 61, 40, 41, 42, 169, 170, 171, 172, 173, 174, 175, 176, 177, 178, 179, 180, 181, 182, 183, 184, 185, 186, 187, 188, 189, 190, 191, 192] (by decide +kernel) (by decide +kernel)
set_option maxRecDepth 20000 in
theorem gX8_digest_X8_shortestOf : GoodIn wsX8_digest (wsV RX8 148 RX8 yX8_shortestOf wsX8_shortestOf) := goodIn_app (goodIn_of _ (by decide +kernel)) ggX8_digest_X8_shortestOf
set_option maxRecDepth 20000 in
theorem ggX8_digest_X8_cloudsOf : GoodIn wsX8_digest wsX8_cloudsOf := goodIn_r _ [97, 98, 52, 53, 54, 6, 55, 56, 57, 58, 59, 60, 61, 47, 99, 100, 101, 169, 170, 171, 172, 173, 174, 175, 176, 177, 178, 179, 180, 181, 182, 183, 184, 185, 186, 187, 188, 189, 190, 191, 192] (by decide +kernel) (by decide +kernel)
set_option maxRecDepth 20000 in
theorem gX8_digest_X8_cloudsOf : GoodIn wsX8_digest (wsV RX8 221 RX8 yX8_cloudsOf wsX8_cloudsOf) := goodIn_app (goodIn_of _ (by decide +kernel)) ggX8_digest_X8_cloudsOf
set_option maxRecDepth 20000 in
theorem ggX8_digest_X8_togetherOf : GoodIn wsX8_digest wsX8_togetherOf := goodIn_r _ [105, 106, 107, 108, 6, 109, 110, 111, 112, 113, 43, 44, 45, 46, 47, 114, 115, 116, 117, 48, 49, 50, 51, 52, 53, 54, 55, 56, 57, 58, 59, 60, 61, 169, 170, 171, 172, 173, 174, 175, 176, 177, 178, 179, 180, 181, 182, 183, 184, 185, 186, 187, 188, 189, 190, 191, 192] (by decide +kernel) (by decide +kernel)
set_option maxRecDepth 20000 in
theorem gX8_digest_X8_togetherOf : GoodIn wsX8_digest (wsV RX8 164 RX8 yX8_togetherOf wsX8_togetherOf) := goodIn_app (goodIn_of _ (by decide +kernel)) ggX8_digest_X8_togetherOf
set_option maxRecDepth 20000 in
theorem ggX8_digest_X8_dialsOf : GoodIn wsX8_digest wsX8_dialsOf := goodIn_r _ [121, 43, 44, 45, 6, 46, 47, 122, 123, 124, 125, 52, 53, 54, 55, 56, 57, 58, 59, 60, 61, 169, 170, 171, 172, 173, 174, 175, 176, 177, 178, 179, 180, 181, 182, 183, 184, 185, 186, 187, 188, 189, 190, 191, 192] (by decide +kernel) (by decide +kernel)
set_option maxRecDepth 20000 in
theorem gX8_digest_X8_dialsOf : GoodIn wsX8_digest (wsV RX8 170 RX8 yX8_dialsOf wsX8_dialsOf) := goodIn_app (goodIn_of _ (by decide +kernel)) ggX8_digest_X8_dialsOf
set_option maxRecDepth 20000 in
theorem ggX8_digest_X8_fitsOf : GoodIn wsX8_digest wsX8_fitsOf := goodIn_r _ [129, 130, 131, 132, 133, 134, 6, 135, 47, 136, 19, 20, 21, 22, 23, 24, 25, 26, 27, 28, 29, 30, 14, 8, 31, 15, 32, 33, 34, 35, 16, 17, 36, 37, 38, 39, 40, 41, 42, 137, 138, 139, 140, 141, 142, 143, 144, 56, 169, 170, 171, 172, 173, 174, 175, 176, 177, 178, 179, 180, 181, 182, 183, 184, 185, 186, 187, 188, 189, 190, 191, 192] (by decide +kernel) (by decide +kernel)
set_option maxRecDepth 20000 in
theorem gX8_digest_X8_fitsOf : GoodIn wsX8_digest (wsV RX8 188 RX8 yX8_fitsOf wsX8_fitsOf) := goodIn_app (goodIn_of _ (by decide +kernel)) ggX8_digest_X8_fitsOf
set_option maxRecDepth 20000 in
theorem ggX8_digest_X8_watchOf : GoodIn wsX8_digest wsX8_watchOf := goodIn_r _ [148, 130, 14, 132, 133, 134, 6, 135, 131, 47, 136, 19, 20, 21, 22, 23, 24, 25, 26, 27, 28, 29, 30, 8, 31, 15, 32, 33, 34, 35, 16, 17, 36, 37, 38, 39, 40, 41, 42, 137, 138, 139, 140, 141, 142, 143, 144, 56, 43, 44, 45, 46, 149, 150, 151, 152, 153, 169, 170, 171, 172, 173, 174, 175, 176, 177, 178, 179, 180, 181, 182, 183, 184, 185, 186, 187, 188, 189, 190, 191, 192] (by decide +kernel) (by decide +kernel)
set_option maxRecDepth 20000 in
theorem gX8_digest_X8_watchOf : GoodIn wsX8_digest (wsV RX8 194 RX8 yX8_watchOf wsX8_watchOf) := goodIn_app (goodIn_of _ (by decide +kernel)) ggX8_digest_X8_watchOf
set_option maxRecDepth 20000 in
theorem ggX8_digest_X8_priceOf : GoodIn wsX8_digest wsX8_priceOf := goodIn_r _ [157, 110, 18, 111, 112, 6, 113, 169, 170, 171, 172, 173, 174, 175, 176, 177, 178, 179, 180, 181, 182, 183, 184, 185, 186, 187, 188, 189, 190, 191, 192] (by decide +kernel) (by decide +kernel)
set_option maxRecDepth 20000 in
theorem gX8_digest_X8_priceOf : GoodIn wsX8_digest (wsV RX8 197 RX8 yX8_priceOf wsX8_priceOf) := goodIn_app (goodIn_of _ (by decide +kernel)) ggX8_digest_X8_priceOf
set_option maxRecDepth 20000 in
theorem ggX8_digest_X8_cropOf : GoodIn wsX8_digest wsX8_cropOf := goodIn_r _ [161, 162, 163, 48, 49, 50, 6, 51, 52, 53, 54, 55, 56, 57, 58, 59, 60, 61, 47, 169, 170, 171, 172, 173, 174, 175, 176, 177, 178, 179, 180, 181, 182, 183, 184, 185, 186, 187, 188, 189, 190, 191, 192] (by decide +kernel) (by decide +kernel)
set_option maxRecDepth 20000 in
theorem gX8_digest_X8_cropOf : GoodIn wsX8_digest (wsV RX8 209 RX8 yX8_cropOf wsX8_cropOf) := goodIn_app (goodIn_of _ (by decide +kernel)) ggX8_digest_X8_cropOf
set_option maxRecDepth 20000 in
theorem ggX8_digest_X8_plantingOf : GoodIn wsX8_digest wsX8_plantingOf := goodIn_r _ [167, 168, 162, 158, 159, 160, 6, 161, 163, 48, 49, 50, 51, 52, 53, 54, 55, 56, 57, 58, 59, 60, 61, 47, 169, 170, 171, 172, 173, 174, 175, 176, 177, 178, 179, 180, 181, 182, 183, 184, 185, 186, 187, 188, 189, 190, 191, 192] (by decide +kernel) (by decide +kernel)
set_option maxRecDepth 20000 in
theorem gX8_digest_X8_plantingOf : GoodIn wsX8_digest (wsV RX8 212 RX8 yX8_plantingOf wsX8_plantingOf) := goodIn_app (goodIn_of _ (by decide +kernel)) ggX8_digest_X8_plantingOf
theorem dX8_digest_0 : decode cX8_digest 0 = .ok (.ldc2_w 243, 3) := by decide +kernel
theorem dX8_digest_3 : decode cX8_digest 3 = .ok (.lstore_n 1, 1) := by decide +kernel
theorem dX8_digest_4 : decode cX8_digest 4 = .ok (.iconst 0, 1) := by decide +kernel
theorem dX8_digest_5 : decode cX8_digest 5 = .ok (.istore_n 3, 1) := by decide +kernel
theorem dX8_digest_6 : decode cX8_digest 6 = .ok (.iload_n 3, 1) := by decide +kernel
theorem dX8_digest_7 : decode cX8_digest 7 = .ok (.bipush 8, 2) := by decide +kernel
theorem dX8_digest_9 : decode cX8_digest 9 = .ok (.if_icmp .ge 22, 3) := by decide +kernel
theorem dX8_digest_12 : decode cX8_digest 12 = .ok (.ldc2_w 245, 3) := by decide +kernel
theorem dX8_digest_15 : decode cX8_digest 15 = .ok (.lload_n 1, 1) := by decide +kernel
theorem dX8_digest_16 : decode cX8_digest 16 = .ok (.lmul, 1) := by decide +kernel
theorem dX8_digest_17 : decode cX8_digest 17 = .ok (.aload_n 0, 1) := by decide +kernel
theorem dX8_digest_18 : decode cX8_digest 18 = .ok (.iload_n 3, 1) := by decide +kernel
theorem dX8_digest_19 : decode cX8_digest 19 = .ok (.invokevirtual 247, 3) := by decide +kernel
theorem dX8_digest_22 : decode cX8_digest 22 = .ok (.i2l, 1) := by decide +kernel
theorem dX8_digest_23 : decode cX8_digest 23 = .ok (.ladd, 1) := by decide +kernel
theorem dX8_digest_24 : decode cX8_digest 24 = .ok (.lstore_n 1, 1) := by decide +kernel
theorem dX8_digest_25 : decode cX8_digest 25 = .ok (.iinc 3 1, 3) := by decide +kernel
theorem dX8_digest_28 : decode cX8_digest 28 = .ok (.goto (-22), 3) := by decide +kernel
theorem dX8_digest_31 : decode cX8_digest 31 = .ok (.ldc2_w 245, 3) := by decide +kernel
theorem dX8_digest_34 : decode cX8_digest 34 = .ok (.lload_n 1, 1) := by decide +kernel
theorem dX8_digest_35 : decode cX8_digest 35 = .ok (.lmul, 1) := by decide +kernel
theorem dX8_digest_36 : decode cX8_digest 36 = .ok (.aload_n 0, 1) := by decide +kernel
theorem dX8_digest_37 : decode cX8_digest 37 = .ok (.iconst 0, 1) := by decide +kernel
theorem dX8_digest_38 : decode cX8_digest 38 = .ok (.invokevirtual 97, 3) := by decide +kernel
theorem dX8_digest_41 : decode cX8_digest 41 = .ok (.i2l, 1) := by decide +kernel
theorem dX8_digest_42 : decode cX8_digest 42 = .ok (.ladd, 1) := by decide +kernel
theorem dX8_digest_43 : decode cX8_digest 43 = .ok (.lstore_n 1, 1) := by decide +kernel
theorem dX8_digest_44 : decode cX8_digest 44 = .ok (.ldc2_w 245, 3) := by decide +kernel
theorem dX8_digest_47 : decode cX8_digest 47 = .ok (.lload_n 1, 1) := by decide +kernel
theorem dX8_digest_48 : decode cX8_digest 48 = .ok (.lmul, 1) := by decide +kernel
theorem dX8_digest_49 : decode cX8_digest 49 = .ok (.aload_n 0, 1) := by decide +kernel
theorem dX8_digest_50 : decode cX8_digest 50 = .ok (.iconst 1, 1) := by decide +kernel
theorem dX8_digest_51 : decode cX8_digest 51 = .ok (.invokevirtual 97, 3) := by decide +kernel
theorem dX8_digest_54 : decode cX8_digest 54 = .ok (.i2l, 1) := by decide +kernel
theorem dX8_digest_55 : decode cX8_digest 55 = .ok (.ladd, 1) := by decide +kernel
theorem dX8_digest_56 : decode cX8_digest 56 = .ok (.lstore_n 1, 1) := by decide +kernel
theorem dX8_digest_57 : decode cX8_digest 57 = .ok (.ldc2_w 245, 3) := by decide +kernel
theorem dX8_digest_60 : decode cX8_digest 60 = .ok (.lload_n 1, 1) := by decide +kernel
theorem dX8_digest_61 : decode cX8_digest 61 = .ok (.lmul, 1) := by decide +kernel
theorem dX8_digest_62 : decode cX8_digest 62 = .ok (.aload_n 0, 1) := by decide +kernel
theorem dX8_digest_63 : decode cX8_digest 63 = .ok (.iconst 0, 1) := by decide +kernel
theorem dX8_digest_64 : decode cX8_digest 64 = .ok (.invokevirtual 111, 3) := by decide +kernel
theorem dX8_digest_67 : decode cX8_digest 67 = .ok (.i2l, 1) := by decide +kernel
theorem dX8_digest_68 : decode cX8_digest 68 = .ok (.ladd, 1) := by decide +kernel
theorem dX8_digest_69 : decode cX8_digest 69 = .ok (.lstore_n 1, 1) := by decide +kernel
theorem dX8_digest_70 : decode cX8_digest 70 = .ok (.ldc2_w 245, 3) := by decide +kernel
theorem dX8_digest_73 : decode cX8_digest 73 = .ok (.lload_n 1, 1) := by decide +kernel
theorem dX8_digest_74 : decode cX8_digest 74 = .ok (.lmul, 1) := by decide +kernel
theorem dX8_digest_75 : decode cX8_digest 75 = .ok (.aload_n 0, 1) := by decide +kernel
theorem dX8_digest_76 : decode cX8_digest 76 = .ok (.bipush 7, 2) := by decide +kernel
theorem dX8_digest_78 : decode cX8_digest 78 = .ok (.invokevirtual 111, 3) := by decide +kernel
theorem dX8_digest_81 : decode cX8_digest 81 = .ok (.i2l, 1) := by decide +kernel
theorem dX8_digest_82 : decode cX8_digest 82 = .ok (.ladd, 1) := by decide +kernel
theorem dX8_digest_83 : decode cX8_digest 83 = .ok (.lstore_n 1, 1) := by decide +kernel
theorem dX8_digest_84 : decode cX8_digest 84 = .ok (.ldc2_w 245, 3) := by decide +kernel
theorem dX8_digest_87 : decode cX8_digest 87 = .ok (.lload_n 1, 1) := by decide +kernel
theorem dX8_digest_88 : decode cX8_digest 88 = .ok (.lmul, 1) := by decide +kernel
theorem dX8_digest_89 : decode cX8_digest 89 = .ok (.aload_n 0, 1) := by decide +kernel
theorem dX8_digest_90 : decode cX8_digest 90 = .ok (.sipush 999, 3) := by decide +kernel
theorem dX8_digest_93 : decode cX8_digest 93 = .ok (.invokevirtual 111, 3) := by decide +kernel
theorem dX8_digest_96 : decode cX8_digest 96 = .ok (.i2l, 1) := by decide +kernel
theorem dX8_digest_97 : decode cX8_digest 97 = .ok (.ladd, 1) := by decide +kernel
theorem dX8_digest_98 : decode cX8_digest 98 = .ok (.lstore_n 1, 1) := by decide +kernel
theorem dX8_digest_99 : decode cX8_digest 99 = .ok (.ldc2_w 245, 3) := by decide +kernel
theorem dX8_digest_102 : decode cX8_digest 102 = .ok (.lload_n 1, 1) := by decide +kernel
theorem dX8_digest_103 : decode cX8_digest 103 = .ok (.lmul, 1) := by decide +kernel
theorem dX8_digest_104 : decode cX8_digest 104 = .ok (.aload_n 0, 1) := by decide +kernel
theorem dX8_digest_105 : decode cX8_digest 105 = .ok (.bipush 7, 2) := by decide +kernel
theorem dX8_digest_107 : decode cX8_digest 107 = .ok (.invokevirtual 123, 3) := by decide +kernel
theorem dX8_digest_110 : decode cX8_digest 110 = .ok (.i2l, 1) := by decide +kernel
theorem dX8_digest_111 : decode cX8_digest 111 = .ok (.ladd, 1) := by decide +kernel
theorem dX8_digest_112 : decode cX8_digest 112 = .ok (.lstore_n 1, 1) := by decide +kernel
theorem dX8_digest_113 : decode cX8_digest 113 = .ok (.iconst 0, 1) := by decide +kernel
theorem dX8_digest_114 : decode cX8_digest 114 = .ok (.istore_n 3, 1) := by decide +kernel
theorem dX8_digest_115 : decode cX8_digest 115 = .ok (.iload_n 3, 1) := by decide +kernel
theorem dX8_digest_116 : decode cX8_digest 116 = .ok (.iconst 4, 1) := by decide +kernel
theorem dX8_digest_117 : decode cX8_digest 117 = .ok (.if_icmp .ge 54, 3) := by decide +kernel
theorem dX8_digest_120 : decode cX8_digest 120 = .ok (.ldc2_w 245, 3) := by decide +kernel
theorem dX8_digest_123 : decode cX8_digest 123 = .ok (.lload_n 1, 1) := by decide +kernel
theorem dX8_digest_124 : decode cX8_digest 124 = .ok (.lmul, 1) := by decide +kernel
theorem dX8_digest_125 : decode cX8_digest 125 = .ok (.aload_n 0, 1) := by decide +kernel
theorem dX8_digest_126 : decode cX8_digest 126 = .ok (.bipush 50, 2) := by decide +kernel
theorem dX8_digest_128 : decode cX8_digest 128 = .ok (.iload_n 3, 1) := by decide +kernel
theorem dX8_digest_129 : decode cX8_digest 129 = .ok (.invokevirtual 120, 3) := by decide +kernel
theorem dX8_digest_132 : decode cX8_digest 132 = .ok (.i2l, 1) := by decide +kernel
theorem dX8_digest_133 : decode cX8_digest 133 = .ok (.ladd, 1) := by decide +kernel
theorem dX8_digest_134 : decode cX8_digest 134 = .ok (.lstore_n 1, 1) := by decide +kernel
theorem dX8_digest_135 : decode cX8_digest 135 = .ok (.iconst 0, 1) := by decide +kernel
theorem dX8_digest_136 : decode cX8_digest 136 = .ok (.istore 4, 2) := by decide +kernel
theorem dX8_digest_138 : decode cX8_digest 138 = .ok (.iload 4, 2) := by decide +kernel
theorem dX8_digest_140 : decode cX8_digest 140 = .ok (.iconst 3, 1) := by decide +kernel
theorem dX8_digest_141 : decode cX8_digest 141 = .ok (.if_icmp .ge 24, 3) := by decide +kernel
theorem dX8_digest_144 : decode cX8_digest 144 = .ok (.ldc2_w 245, 3) := by decide +kernel
theorem dX8_digest_147 : decode cX8_digest 147 = .ok (.lload_n 1, 1) := by decide +kernel
theorem dX8_digest_148 : decode cX8_digest 148 = .ok (.lmul, 1) := by decide +kernel
theorem dX8_digest_149 : decode cX8_digest 149 = .ok (.aload_n 0, 1) := by decide +kernel
theorem dX8_digest_150 : decode cX8_digest 150 = .ok (.iload_n 3, 1) := by decide +kernel
theorem dX8_digest_151 : decode cX8_digest 151 = .ok (.iload 4, 2) := by decide +kernel
theorem dX8_digest_153 : decode cX8_digest 153 = .ok (.invokevirtual 126, 3) := by decide +kernel
theorem dX8_digest_156 : decode cX8_digest 156 = .ok (.i2l, 1) := by decide +kernel
theorem dX8_digest_157 : decode cX8_digest 157 = .ok (.ladd, 1) := by decide +kernel
theorem dX8_digest_158 : decode cX8_digest 158 = .ok (.lstore_n 1, 1) := by decide +kernel
theorem dX8_digest_159 : decode cX8_digest 159 = .ok (.iinc 4 1, 3) := by decide +kernel
theorem dX8_digest_162 : decode cX8_digest 162 = .ok (.goto (-24), 3) := by decide +kernel
theorem dX8_digest_165 : decode cX8_digest 165 = .ok (.iinc 3 1, 3) := by decide +kernel
theorem dX8_digest_168 : decode cX8_digest 168 = .ok (.goto (-53), 3) := by decide +kernel
theorem dX8_digest_171 : decode cX8_digest 171 = .ok (.iconst 0, 1) := by decide +kernel
theorem dX8_digest_172 : decode cX8_digest 172 = .ok (.istore_n 3, 1) := by decide +kernel
theorem dX8_digest_173 : decode cX8_digest 173 = .ok (.iload_n 3, 1) := by decide +kernel
theorem dX8_digest_174 : decode cX8_digest 174 = .ok (.iconst 2, 1) := by decide +kernel
theorem dX8_digest_175 : decode cX8_digest 175 = .ok (.if_icmp .ge 118, 3) := by decide +kernel
theorem dX8_digest_178 : decode cX8_digest 178 = .ok (.ldc2_w 245, 3) := by decide +kernel
theorem dX8_digest_181 : decode cX8_digest 181 = .ok (.lload_n 1, 1) := by decide +kernel
theorem dX8_digest_182 : decode cX8_digest 182 = .ok (.lmul, 1) := by decide +kernel
theorem dX8_digest_183 : decode cX8_digest 183 = .ok (.aload_n 0, 1) := by decide +kernel
theorem dX8_digest_184 : decode cX8_digest 184 = .ok (.iload_n 3, 1) := by decide +kernel
theorem dX8_digest_185 : decode cX8_digest 185 = .ok (.invokevirtual 129, 3) := by decide +kernel
theorem dX8_digest_188 : decode cX8_digest 188 = .ok (.i2l, 1) := by decide +kernel
theorem dX8_digest_189 : decode cX8_digest 189 = .ok (.ladd, 1) := by decide +kernel
theorem dX8_digest_190 : decode cX8_digest 190 = .ok (.lstore_n 1, 1) := by decide +kernel
theorem dX8_digest_191 : decode cX8_digest 191 = .ok (.ldc2_w 245, 3) := by decide +kernel
theorem dX8_digest_194 : decode cX8_digest 194 = .ok (.lload_n 1, 1) := by decide +kernel
theorem dX8_digest_195 : decode cX8_digest 195 = .ok (.lmul, 1) := by decide +kernel
theorem dX8_digest_196 : decode cX8_digest 196 = .ok (.aload_n 0, 1) := by decide +kernel
theorem dX8_digest_197 : decode cX8_digest 197 = .ok (.iload_n 3, 1) := by decide +kernel
theorem dX8_digest_198 : decode cX8_digest 198 = .ok (.bipush 77, 2) := by decide +kernel
theorem dX8_digest_200 : decode cX8_digest 200 = .ok (.invokevirtual 100, 3) := by decide +kernel
theorem dX8_digest_203 : decode cX8_digest 203 = .ok (.i2l, 1) := by decide +kernel
theorem dX8_digest_204 : decode cX8_digest 204 = .ok (.ladd, 1) := by decide +kernel
theorem dX8_digest_205 : decode cX8_digest 205 = .ok (.lstore_n 1, 1) := by decide +kernel
theorem dX8_digest_206 : decode cX8_digest 206 = .ok (.ldc2_w 245, 3) := by decide +kernel
theorem dX8_digest_209 : decode cX8_digest 209 = .ok (.lload_n 1, 1) := by decide +kernel
theorem dX8_digest_210 : decode cX8_digest 210 = .ok (.lmul, 1) := by decide +kernel
theorem dX8_digest_211 : decode cX8_digest 211 = .ok (.aload_n 0, 1) := by decide +kernel
theorem dX8_digest_212 : decode cX8_digest 212 = .ok (.iload_n 3, 1) := by decide +kernel
theorem dX8_digest_213 : decode cX8_digest 213 = .ok (.bipush 9, 2) := by decide +kernel
theorem dX8_digest_215 : decode cX8_digest 215 = .ok (.invokevirtual 141, 3) := by decide +kernel
theorem dX8_digest_218 : decode cX8_digest 218 = .ok (.i2l, 1) := by decide +kernel
theorem dX8_digest_219 : decode cX8_digest 219 = .ok (.ladd, 1) := by decide +kernel
theorem dX8_digest_220 : decode cX8_digest 220 = .ok (.lstore_n 1, 1) := by decide +kernel
theorem dX8_digest_221 : decode cX8_digest 221 = .ok (.ldc2_w 245, 3) := by decide +kernel
theorem dX8_digest_224 : decode cX8_digest 224 = .ok (.lload_n 1, 1) := by decide +kernel
theorem dX8_digest_225 : decode cX8_digest 225 = .ok (.lmul, 1) := by decide +kernel
theorem dX8_digest_226 : decode cX8_digest 226 = .ok (.aload_n 0, 1) := by decide +kernel
theorem dX8_digest_227 : decode cX8_digest 227 = .ok (.iload_n 3, 1) := by decide +kernel
theorem dX8_digest_228 : decode cX8_digest 228 = .ok (.iconst 4, 1) := by decide +kernel
theorem dX8_digest_229 : decode cX8_digest 229 = .ok (.bipush 20, 2) := by decide +kernel
theorem dX8_digest_231 : decode cX8_digest 231 = .ok (.iconst 0, 1) := by decide +kernel
theorem dX8_digest_232 : decode cX8_digest 232 = .ok (.invokevirtual 148, 3) := by decide +kernel
theorem dX8_digest_235 : decode cX8_digest 235 = .ok (.i2l, 1) := by decide +kernel
theorem dX8_digest_236 : decode cX8_digest 236 = .ok (.ladd, 1) := by decide +kernel
theorem dX8_digest_237 : decode cX8_digest 237 = .ok (.lstore_n 1, 1) := by decide +kernel
theorem dX8_digest_238 : decode cX8_digest 238 = .ok (.ldc2_w 245, 3) := by decide +kernel
theorem dX8_digest_241 : decode cX8_digest 241 = .ok (.lload_n 1, 1) := by decide +kernel
theorem dX8_digest_242 : decode cX8_digest 242 = .ok (.lmul, 1) := by decide +kernel
theorem dX8_digest_243 : decode cX8_digest 243 = .ok (.aload_n 0, 1) := by decide +kernel
theorem dX8_digest_244 : decode cX8_digest 244 = .ok (.iload_n 3, 1) := by decide +kernel
theorem dX8_digest_245 : decode cX8_digest 245 = .ok (.iconst 4, 1) := by decide +kernel
theorem dX8_digest_246 : decode cX8_digest 246 = .ok (.bipush 20, 2) := by decide +kernel
theorem dX8_digest_248 : decode cX8_digest 248 = .ok (.iconst 1, 1) := by decide +kernel
theorem dX8_digest_249 : decode cX8_digest 249 = .ok (.invokevirtual 148, 3) := by decide +kernel
theorem dX8_digest_252 : decode cX8_digest 252 = .ok (.i2l, 1) := by decide +kernel
theorem dX8_digest_253 : decode cX8_digest 253 = .ok (.ladd, 1) := by decide +kernel
theorem dX8_digest_254 : decode cX8_digest 254 = .ok (.lstore_n 1, 1) := by decide +kernel
theorem dX8_digest_255 : decode cX8_digest 255 = .ok (.ldc2_w 245, 3) := by decide +kernel
theorem dX8_digest_258 : decode cX8_digest 258 = .ok (.lload_n 1, 1) := by decide +kernel
theorem dX8_digest_259 : decode cX8_digest 259 = .ok (.lmul, 1) := by decide +kernel
theorem dX8_digest_260 : decode cX8_digest 260 = .ok (.aload_n 0, 1) := by decide +kernel
theorem dX8_digest_261 : decode cX8_digest 261 = .ok (.iload_n 3, 1) := by decide +kernel
theorem dX8_digest_262 : decode cX8_digest 262 = .ok (.iconst 3, 1) := by decide +kernel
theorem dX8_digest_263 : decode cX8_digest 263 = .ok (.iconst 5, 1) := by decide +kernel
theorem dX8_digest_264 : decode cX8_digest 264 = .ok (.iconst 4, 1) := by decide +kernel
theorem dX8_digest_265 : decode cX8_digest 265 = .ok (.iconst 0, 1) := by decide +kernel
theorem dX8_digest_266 : decode cX8_digest 266 = .ok (.invokevirtual 221, 3) := by decide +kernel
theorem dX8_digest_269 : decode cX8_digest 269 = .ok (.ladd, 1) := by decide +kernel
theorem dX8_digest_270 : decode cX8_digest 270 = .ok (.lstore_n 1, 1) := by decide +kernel
theorem dX8_digest_271 : decode cX8_digest 271 = .ok (.ldc2_w 245, 3) := by decide +kernel
theorem dX8_digest_274 : decode cX8_digest 274 = .ok (.lload_n 1, 1) := by decide +kernel
theorem dX8_digest_275 : decode cX8_digest 275 = .ok (.lmul, 1) := by decide +kernel
theorem dX8_digest_276 : decode cX8_digest 276 = .ok (.aload_n 0, 1) := by decide +kernel
theorem dX8_digest_277 : decode cX8_digest 277 = .ok (.iload_n 3, 1) := by decide +kernel
theorem dX8_digest_278 : decode cX8_digest 278 = .ok (.iconst 3, 1) := by decide +kernel
theorem dX8_digest_279 : decode cX8_digest 279 = .ok (.iconst 5, 1) := by decide +kernel
theorem dX8_digest_280 : decode cX8_digest 280 = .ok (.iconst 4, 1) := by decide +kernel
theorem dX8_digest_281 : decode cX8_digest 281 = .ok (.iconst 1, 1) := by decide +kernel
theorem dX8_digest_282 : decode cX8_digest 282 = .ok (.invokevirtual 221, 3) := by decide +kernel
theorem dX8_digest_285 : decode cX8_digest 285 = .ok (.ladd, 1) := by decide +kernel
theorem dX8_digest_286 : decode cX8_digest 286 = .ok (.lstore_n 1, 1) := by decide +kernel
theorem dX8_digest_287 : decode cX8_digest 287 = .ok (.iinc 3 1, 3) := by decide +kernel
theorem dX8_digest_290 : decode cX8_digest 290 = .ok (.goto (-117), 3) := by decide +kernel
theorem dX8_digest_293 : decode cX8_digest 293 = .ok (.ldc2_w 245, 3) := by decide +kernel
theorem dX8_digest_296 : decode cX8_digest 296 = .ok (.lload_n 1, 1) := by decide +kernel
theorem dX8_digest_297 : decode cX8_digest 297 = .ok (.lmul, 1) := by decide +kernel
theorem dX8_digest_298 : decode cX8_digest 298 = .ok (.aload_n 0, 1) := by decide +kernel
theorem dX8_digest_299 : decode cX8_digest 299 = .ok (.bipush 7, 2) := by decide +kernel
theorem dX8_digest_301 : decode cX8_digest 301 = .ok (.iconst 2, 1) := by decide +kernel
theorem dX8_digest_302 : decode cX8_digest 302 = .ok (.bipush 9, 2) := by decide +kernel
theorem dX8_digest_304 : decode cX8_digest 304 = .ok (.iconst 0, 1) := by decide +kernel
theorem dX8_digest_305 : decode cX8_digest 305 = .ok (.invokevirtual 164, 3) := by decide +kernel
theorem dX8_digest_308 : decode cX8_digest 308 = .ok (.i2l, 1) := by decide +kernel
theorem dX8_digest_309 : decode cX8_digest 309 = .ok (.ladd, 1) := by decide +kernel
theorem dX8_digest_310 : decode cX8_digest 310 = .ok (.lstore_n 1, 1) := by decide +kernel
theorem dX8_digest_311 : decode cX8_digest 311 = .ok (.ldc2_w 245, 3) := by decide +kernel
theorem dX8_digest_314 : decode cX8_digest 314 = .ok (.lload_n 1, 1) := by decide +kernel
theorem dX8_digest_315 : decode cX8_digest 315 = .ok (.lmul, 1) := by decide +kernel
theorem dX8_digest_316 : decode cX8_digest 316 = .ok (.aload_n 0, 1) := by decide +kernel
theorem dX8_digest_317 : decode cX8_digest 317 = .ok (.bipush 7, 2) := by decide +kernel
theorem dX8_digest_319 : decode cX8_digest 319 = .ok (.iconst 2, 1) := by decide +kernel
theorem dX8_digest_320 : decode cX8_digest 320 = .ok (.bipush 9, 2) := by decide +kernel
theorem dX8_digest_322 : decode cX8_digest 322 = .ok (.iconst 1, 1) := by decide +kernel
theorem dX8_digest_323 : decode cX8_digest 323 = .ok (.invokevirtual 164, 3) := by decide +kernel
theorem dX8_digest_326 : decode cX8_digest 326 = .ok (.i2l, 1) := by decide +kernel
theorem dX8_digest_327 : decode cX8_digest 327 = .ok (.ladd, 1) := by decide +kernel
theorem dX8_digest_328 : decode cX8_digest 328 = .ok (.lstore_n 1, 1) := by decide +kernel
theorem dX8_digest_329 : decode cX8_digest 329 = .ok (.ldc2_w 245, 3) := by decide +kernel
theorem dX8_digest_332 : decode cX8_digest 332 = .ok (.lload_n 1, 1) := by decide +kernel
theorem dX8_digest_333 : decode cX8_digest 333 = .ok (.lmul, 1) := by decide +kernel
theorem dX8_digest_334 : decode cX8_digest 334 = .ok (.aload_n 0, 1) := by decide +kernel
theorem dX8_digest_335 : decode cX8_digest 335 = .ok (.iconst 1, 1) := by decide +kernel
theorem dX8_digest_336 : decode cX8_digest 336 = .ok (.iconst 2, 1) := by decide +kernel
theorem dX8_digest_337 : decode cX8_digest 337 = .ok (.iconst 0, 1) := by decide +kernel
theorem dX8_digest_338 : decode cX8_digest 338 = .ok (.invokevirtual 170, 3) := by decide +kernel
theorem dX8_digest_341 : decode cX8_digest 341 = .ok (.i2l, 1) := by decide +kernel
theorem dX8_digest_342 : decode cX8_digest 342 = .ok (.ladd, 1) := by decide +kernel
theorem dX8_digest_343 : decode cX8_digest 343 = .ok (.lstore_n 1, 1) := by decide +kernel
theorem dX8_digest_344 : decode cX8_digest 344 = .ok (.ldc2_w 245, 3) := by decide +kernel
theorem dX8_digest_347 : decode cX8_digest 347 = .ok (.lload_n 1, 1) := by decide +kernel
theorem dX8_digest_348 : decode cX8_digest 348 = .ok (.lmul, 1) := by decide +kernel
theorem dX8_digest_349 : decode cX8_digest 349 = .ok (.aload_n 0, 1) := by decide +kernel
theorem dX8_digest_350 : decode cX8_digest 350 = .ok (.iconst 1, 1) := by decide +kernel
theorem dX8_digest_351 : decode cX8_digest 351 = .ok (.iconst 2, 1) := by decide +kernel
theorem dX8_digest_352 : decode cX8_digest 352 = .ok (.iconst 1, 1) := by decide +kernel
theorem dX8_digest_353 : decode cX8_digest 353 = .ok (.invokevirtual 170, 3) := by decide +kernel
theorem dX8_digest_356 : decode cX8_digest 356 = .ok (.i2l, 1) := by decide +kernel
theorem dX8_digest_357 : decode cX8_digest 357 = .ok (.ladd, 1) := by decide +kernel
theorem dX8_digest_358 : decode cX8_digest 358 = .ok (.lstore_n 1, 1) := by decide +kernel
theorem dX8_digest_359 : decode cX8_digest 359 = .ok (.ldc2_w 245, 3) := by decide +kernel
theorem dX8_digest_362 : decode cX8_digest 362 = .ok (.lload_n 1, 1) := by decide +kernel
theorem dX8_digest_363 : decode cX8_digest 363 = .ok (.lmul, 1) := by decide +kernel
theorem dX8_digest_364 : decode cX8_digest 364 = .ok (.aload_n 0, 1) := by decide +kernel
theorem dX8_digest_365 : decode cX8_digest 365 = .ok (.iconst 0, 1) := by decide +kernel
theorem dX8_digest_366 : decode cX8_digest 366 = .ok (.invokevirtual 188, 3) := by decide +kernel
theorem dX8_digest_369 : decode cX8_digest 369 = .ok (.i2l, 1) := by decide +kernel
theorem dX8_digest_370 : decode cX8_digest 370 = .ok (.ladd, 1) := by decide +kernel
theorem dX8_digest_371 : decode cX8_digest 371 = .ok (.lstore_n 1, 1) := by decide +kernel
theorem dX8_digest_372 : decode cX8_digest 372 = .ok (.ldc2_w 245, 3) := by decide +kernel
theorem dX8_digest_375 : decode cX8_digest 375 = .ok (.lload_n 1, 1) := by decide +kernel
theorem dX8_digest_376 : decode cX8_digest 376 = .ok (.lmul, 1) := by decide +kernel
theorem dX8_digest_377 : decode cX8_digest 377 = .ok (.aload_n 0, 1) := by decide +kernel
theorem dX8_digest_378 : decode cX8_digest 378 = .ok (.iconst 1, 1) := by decide +kernel
theorem dX8_digest_379 : decode cX8_digest 379 = .ok (.invokevirtual 188, 3) := by decide +kernel
theorem dX8_digest_382 : decode cX8_digest 382 = .ok (.i2l, 1) := by decide +kernel
theorem dX8_digest_383 : decode cX8_digest 383 = .ok (.ladd, 1) := by decide +kernel
theorem dX8_digest_384 : decode cX8_digest 384 = .ok (.lstore_n 1, 1) := by decide +kernel
theorem dX8_digest_385 : decode cX8_digest 385 = .ok (.ldc2_w 245, 3) := by decide +kernel
theorem dX8_digest_388 : decode cX8_digest 388 = .ok (.lload_n 1, 1) := by decide +kernel
theorem dX8_digest_389 : decode cX8_digest 389 = .ok (.lmul, 1) := by decide +kernel
theorem dX8_digest_390 : decode cX8_digest 390 = .ok (.aload_n 0, 1) := by decide +kernel
theorem dX8_digest_391 : decode cX8_digest 391 = .ok (.iconst 0, 1) := by decide +kernel
theorem dX8_digest_392 : decode cX8_digest 392 = .ok (.invokevirtual 194, 3) := by decide +kernel
theorem dX8_digest_395 : decode cX8_digest 395 = .ok (.i2l, 1) := by decide +kernel
theorem dX8_digest_396 : decode cX8_digest 396 = .ok (.ladd, 1) := by decide +kernel
theorem dX8_digest_397 : decode cX8_digest 397 = .ok (.lstore_n 1, 1) := by decide +kernel
theorem dX8_digest_398 : decode cX8_digest 398 = .ok (.ldc2_w 245, 3) := by decide +kernel
theorem dX8_digest_401 : decode cX8_digest 401 = .ok (.lload_n 1, 1) := by decide +kernel
theorem dX8_digest_402 : decode cX8_digest 402 = .ok (.lmul, 1) := by decide +kernel
theorem dX8_digest_403 : decode cX8_digest 403 = .ok (.aload_n 0, 1) := by decide +kernel
theorem dX8_digest_404 : decode cX8_digest 404 = .ok (.iconst 1, 1) := by decide +kernel
theorem dX8_digest_405 : decode cX8_digest 405 = .ok (.invokevirtual 194, 3) := by decide +kernel
theorem dX8_digest_408 : decode cX8_digest 408 = .ok (.i2l, 1) := by decide +kernel
theorem dX8_digest_409 : decode cX8_digest 409 = .ok (.ladd, 1) := by decide +kernel
theorem dX8_digest_410 : decode cX8_digest 410 = .ok (.lstore_n 1, 1) := by decide +kernel
theorem dX8_digest_411 : decode cX8_digest 411 = .ok (.ldc2_w 245, 3) := by decide +kernel
theorem dX8_digest_414 : decode cX8_digest 414 = .ok (.lload_n 1, 1) := by decide +kernel
theorem dX8_digest_415 : decode cX8_digest 415 = .ok (.lmul, 1) := by decide +kernel
theorem dX8_digest_416 : decode cX8_digest 416 = .ok (.aload_n 0, 1) := by decide +kernel
theorem dX8_digest_417 : decode cX8_digest 417 = .ok (.iconst 2, 1) := by decide +kernel
theorem dX8_digest_418 : decode cX8_digest 418 = .ok (.invokevirtual 197, 3) := by decide +kernel
theorem dX8_digest_421 : decode cX8_digest 421 = .ok (.i2l, 1) := by decide +kernel
theorem dX8_digest_422 : decode cX8_digest 422 = .ok (.ladd, 1) := by decide +kernel
theorem dX8_digest_423 : decode cX8_digest 423 = .ok (.lstore_n 1, 1) := by decide +kernel
theorem dX8_digest_424 : decode cX8_digest 424 = .ok (.iconst 0, 1) := by decide +kernel
theorem dX8_digest_425 : decode cX8_digest 425 = .ok (.istore_n 3, 1) := by decide +kernel
theorem dX8_digest_426 : decode cX8_digest 426 = .ok (.iload_n 3, 1) := by decide +kernel
theorem dX8_digest_427 : decode cX8_digest 427 = .ok (.iconst 4, 1) := by decide +kernel
theorem dX8_digest_428 : decode cX8_digest 428 = .ok (.if_icmp .ge 23, 3) := by decide +kernel
theorem dX8_digest_431 : decode cX8_digest 431 = .ok (.ldc2_w 245, 3) := by decide +kernel
theorem dX8_digest_434 : decode cX8_digest 434 = .ok (.lload_n 1, 1) := by decide +kernel
theorem dX8_digest_435 : decode cX8_digest 435 = .ok (.lmul, 1) := by decide +kernel
theorem dX8_digest_436 : decode cX8_digest 436 = .ok (.aload_n 0, 1) := by decide +kernel
theorem dX8_digest_437 : decode cX8_digest 437 = .ok (.iload_n 3, 1) := by decide +kernel
theorem dX8_digest_438 : decode cX8_digest 438 = .ok (.iconst 5, 1) := by decide +kernel
theorem dX8_digest_439 : decode cX8_digest 439 = .ok (.invokevirtual 209, 3) := by decide +kernel
theorem dX8_digest_442 : decode cX8_digest 442 = .ok (.i2l, 1) := by decide +kernel
theorem dX8_digest_443 : decode cX8_digest 443 = .ok (.ladd, 1) := by decide +kernel
theorem dX8_digest_444 : decode cX8_digest 444 = .ok (.lstore_n 1, 1) := by decide +kernel
theorem dX8_digest_445 : decode cX8_digest 445 = .ok (.iinc 3 1, 3) := by decide +kernel
theorem dX8_digest_448 : decode cX8_digest 448 = .ok (.goto (-22), 3) := by decide +kernel
theorem dX8_digest_451 : decode cX8_digest 451 = .ok (.ldc2_w 245, 3) := by decide +kernel
theorem dX8_digest_454 : decode cX8_digest 454 = .ok (.lload_n 1, 1) := by decide +kernel
theorem dX8_digest_455 : decode cX8_digest 455 = .ok (.lmul, 1) := by decide +kernel
theorem dX8_digest_456 : decode cX8_digest 456 = .ok (.aload_n 0, 1) := by decide +kernel
theorem dX8_digest_457 : decode cX8_digest 457 = .ok (.iconst 1, 1) := by decide +kernel
theorem dX8_digest_458 : decode cX8_digest 458 = .ok (.bipush 12, 2) := by decide +kernel
theorem dX8_digest_460 : decode cX8_digest 460 = .ok (.iconst 0, 1) := by decide +kernel
theorem dX8_digest_461 : decode cX8_digest 461 = .ok (.invokevirtual 212, 3) := by decide +kernel
theorem dX8_digest_464 : decode cX8_digest 464 = .ok (.i2l, 1) := by decide +kernel
theorem dX8_digest_465 : decode cX8_digest 465 = .ok (.ladd, 1) := by decide +kernel
theorem dX8_digest_466 : decode cX8_digest 466 = .ok (.lstore_n 1, 1) := by decide +kernel
theorem dX8_digest_467 : decode cX8_digest 467 = .ok (.ldc2_w 245, 3) := by decide +kernel
theorem dX8_digest_470 : decode cX8_digest 470 = .ok (.lload_n 1, 1) := by decide +kernel
theorem dX8_digest_471 : decode cX8_digest 471 = .ok (.lmul, 1) := by decide +kernel
theorem dX8_digest_472 : decode cX8_digest 472 = .ok (.aload_n 0, 1) := by decide +kernel
theorem dX8_digest_473 : decode cX8_digest 473 = .ok (.iconst 1, 1) := by decide +kernel
theorem dX8_digest_474 : decode cX8_digest 474 = .ok (.bipush 12, 2) := by decide +kernel
theorem dX8_digest_476 : decode cX8_digest 476 = .ok (.iconst 1, 1) := by decide +kernel
theorem dX8_digest_477 : decode cX8_digest 477 = .ok (.invokevirtual 212, 3) := by decide +kernel
theorem dX8_digest_480 : decode cX8_digest 480 = .ok (.i2l, 1) := by decide +kernel
theorem dX8_digest_481 : decode cX8_digest 481 = .ok (.ladd, 1) := by decide +kernel
theorem dX8_digest_482 : decode cX8_digest 482 = .ok (.lreturn, 1) := by decide +kernel
theorem dJ9_max_7cf53_0 : decode cJ9_max_7cf53 0 = .ok (.iload_n 0, 1) := by decide +kernel
theorem dJ9_max_7cf53_1 : decode cJ9_max_7cf53 1 = .ok (.iload_n 1, 1) := by decide +kernel
theorem dJ9_max_7cf53_2 : decode cJ9_max_7cf53 2 = .ok (.if_icmp .lt 7, 3) := by decide +kernel
theorem dJ9_max_7cf53_5 : decode cJ9_max_7cf53 5 = .ok (.iload_n 0, 1) := by decide +kernel
theorem dJ9_max_7cf53_6 : decode cJ9_max_7cf53 6 = .ok (.goto 4, 3) := by decide +kernel
theorem dJ9_max_7cf53_9 : decode cJ9_max_7cf53 9 = .ok (.iload_n 1, 1) := by decide +kernel
theorem dJ9_max_7cf53_10 : decode cJ9_max_7cf53 10 = .ok (.ireturn, 1) := by decide +kernel
theorem dJ9_min_7cf53_0 : decode cJ9_min_7cf53 0 = .ok (.iload_n 0, 1) := by decide +kernel
theorem dJ9_min_7cf53_1 : decode cJ9_min_7cf53 1 = .ok (.iload_n 1, 1) := by decide +kernel
theorem dJ9_min_7cf53_2 : decode cJ9_min_7cf53 2 = .ok (.if_icmp .gt 7, 3) := by decide +kernel
theorem dJ9_min_7cf53_5 : decode cJ9_min_7cf53 5 = .ok (.iload_n 0, 1) := by decide +kernel
theorem dJ9_min_7cf53_6 : decode cJ9_min_7cf53 6 = .ok (.goto 4, 3) := by decide +kernel
theorem dJ9_min_7cf53_9 : decode cJ9_min_7cf53 9 = .ok (.iload_n 1, 1) := by decide +kernel
theorem dJ9_min_7cf53_10 : decode cJ9_min_7cf53 10 = .ok (.ireturn, 1) := by decide +kernel
