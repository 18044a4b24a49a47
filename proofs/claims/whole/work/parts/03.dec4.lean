theorem dX8_payer_15 : decode cX8_payer 15 = .ok (.aload_n 0, 1) := by decide +kernel
theorem dX8_payer_16 : decode cX8_payer 16 = .ok (.iload_n 1, 1) := by decide +kernel
theorem dX8_payer_17 : decode cX8_payer 17 = .ok (.iload_n 2, 1) := by decide +kernel
theorem dX8_payer_18 : decode cX8_payer 18 = .ok (.invokevirtual 159, 3) := by decide +kernel
theorem dX8_payer_21 : decode cX8_payer 21 = .ok (.goto 5, 3) := by decide +kernel
theorem dX8_payer_24 : decode cX8_payer 24 = .ok (.bipush (-2), 2) := by decide +kernel
theorem dX8_payer_26 : decode cX8_payer 26 = .ok (.ireturn, 1) := by decide +kernel
set_option maxRecDepth 20000 in
theorem ggX8_beggarsNow_X8_reads : GoodIn wsX8_beggarsNow wsX8_reads := goodIn_r _ [9, 10, 11, 12, 8, 13, 14, 15, 16, 17, 2, 18, 19, 20, 21, 22, 23, 24, 25, 26, 27, 28, 29, 30, 31, 32, 1, 33, 62, 63, 64, 65, 66, 67, 68, 69, 70, 71, 72, 73, 74, 75, 76, 77, 78, 79, 80, 81, 82, 83, 84, 85, 86, 87, 88, 89, 90] (by decide +kernel) (by decide +kernel)
set_option maxRecDepth 20000 in
theorem gX8_beggarsNow_X8_reads : GoodIn wsX8_beggarsNow (wsV RX8 111 RX8 yX8_reads wsX8_reads) := goodIn_app (goodIn_of _ (by decide +kernel)) ggX8_beggarsNow_X8_reads
set_option maxRecDepth 20000 in
theorem ggX8_beggarsNow_X8_runs : GoodIn wsX8_beggarsNow wsX8_runs := goodIn_r _ [37, 38, 2, 4, 3, 39, 40, 41, 42, 43, 20, 44, 45, 46, 8, 47, 19, 48, 49, 50, 51, 52, 33, 53, 54, 55, 56, 57, 58, 59, 60, 61, 62, 63, 64, 65, 66, 67, 68, 69, 70, 71, 72, 73, 74, 75, 76, 77, 78, 79, 80, 81, 82, 83, 84, 85, 86, 87, 88, 89, 90] (by decide +kernel) (by decide +kernel)
set_option maxRecDepth 20000 in
theorem gX8_beggarsNow_X8_runs : GoodIn wsX8_beggarsNow (wsV RX8 146 RX8 yX8_runs wsX8_runs) := goodIn_app (goodIn_of _ (by decide +kernel)) ggX8_beggarsNow_X8_runs
theorem dX8_beggarsNow_0 : decode cX8_beggarsNow 0 = .ok (.aload_n 0, 1) := by decide +kernel
theorem dX8_beggarsNow_1 : decode cX8_beggarsNow 1 = .ok (.invokevirtual 111, 3) := by decide +kernel
theorem dX8_beggarsNow_4 : decode cX8_beggarsNow 4 = .ok (.aload_n 0, 1) := by decide +kernel
theorem dX8_beggarsNow_5 : decode cX8_beggarsNow 5 = .ok (.aload_n 0, 1) := by decide +kernel
theorem dX8_beggarsNow_6 : decode cX8_beggarsNow 6 = .ok (.getfield 97, 3) := by decide +kernel
theorem dX8_beggarsNow_9 : decode cX8_beggarsNow 9 = .ok (.invokevirtual 146, 3) := by decide +kernel
theorem dX8_beggarsNow_12 : decode cX8_beggarsNow 12 = .ok (.iconst 0, 1) := by decide +kernel
theorem dX8_beggarsNow_13 : decode cX8_beggarsNow 13 = .ok (.istore_n 1, 1) := by decide +kernel
theorem dX8_beggarsNow_14 : decode cX8_beggarsNow 14 = .ok (.iconst 0, 1) := by decide +kernel
theorem dX8_beggarsNow_15 : decode cX8_beggarsNow 15 = .ok (.istore_n 2, 1) := by decide +kernel
theorem dX8_beggarsNow_16 : decode cX8_beggarsNow 16 = .ok (.iload_n 2, 1) := by decide +kernel
theorem dX8_beggarsNow_17 : decode cX8_beggarsNow 17 = .ok (.aload_n 0, 1) := by decide +kernel
theorem dX8_beggarsNow_18 : decode cX8_beggarsNow 18 = .ok (.getfield 89, 3) := by decide +kernel
theorem dX8_beggarsNow_21 : decode cX8_beggarsNow 21 = .ok (.if_icmp .ge 37, 3) := by decide +kernel
theorem dX8_beggarsNow_24 : decode cX8_beggarsNow 24 = .ok (.iload_n 1, 1) := by decide +kernel
theorem dX8_beggarsNow_25 : decode cX8_beggarsNow 25 = .ok (.aload_n 0, 1) := by decide +kernel
theorem dX8_beggarsNow_26 : decode cX8_beggarsNow 26 = .ok (.getfield 49, 3) := by decide +kernel
theorem dX8_beggarsNow_29 : decode cX8_beggarsNow 29 = .ok (.iload_n 2, 1) := by decide +kernel
theorem dX8_beggarsNow_30 : decode cX8_beggarsNow 30 = .ok (.iaload, 1) := by decide +kernel
theorem dX8_beggarsNow_31 : decode cX8_beggarsNow 31 = .ok (.ifCond .le 18, 3) := by decide +kernel
theorem dX8_beggarsNow_34 : decode cX8_beggarsNow 34 = .ok (.aload_n 0, 1) := by decide +kernel
theorem dX8_beggarsNow_35 : decode cX8_beggarsNow 35 = .ok (.getfield 46, 3) := by decide +kernel
theorem dX8_beggarsNow_38 : decode cX8_beggarsNow 38 = .ok (.iload_n 2, 1) := by decide +kernel
theorem dX8_beggarsNow_39 : decode cX8_beggarsNow 39 = .ok (.iaload, 1) := by decide +kernel
theorem dX8_beggarsNow_40 : decode cX8_beggarsNow 40 = .ok (.ifCond .ne 9, 3) := by decide +kernel
theorem dX8_beggarsNow_43 : decode cX8_beggarsNow 43 = .ok (.iconst 1, 1) := by decide +kernel
theorem dX8_beggarsNow_44 : decode cX8_beggarsNow 44 = .ok (.iload_n 2, 1) := by decide +kernel
theorem dX8_beggarsNow_45 : decode cX8_beggarsNow 45 = .ok (.ishl, 1) := by decide +kernel
theorem dX8_beggarsNow_46 : decode cX8_beggarsNow 46 = .ok (.goto 4, 3) := by decide +kernel
theorem dX8_beggarsNow_49 : decode cX8_beggarsNow 49 = .ok (.iconst 0, 1) := by decide +kernel
theorem dX8_beggarsNow_50 : decode cX8_beggarsNow 50 = .ok (.ior, 1) := by decide +kernel
theorem dX8_beggarsNow_51 : decode cX8_beggarsNow 51 = .ok (.istore_n 1, 1) := by decide +kernel
theorem dX8_beggarsNow_52 : decode cX8_beggarsNow 52 = .ok (.iinc 2 1, 3) := by decide +kernel
theorem dX8_beggarsNow_55 : decode cX8_beggarsNow 55 = .ok (.goto (-39), 3) := by decide +kernel
theorem dX8_beggarsNow_58 : decode cX8_beggarsNow 58 = .ok (.iload_n 1, 1) := by decide +kernel
theorem dX8_beggarsNow_59 : decode cX8_beggarsNow 59 = .ok (.ireturn, 1) := by decide +kernel
set_option maxRecDepth 20000 in
theorem ggX8_beggars_X8_beggarsNow : GoodIn wsX8_beggars wsX8_beggarsNow := goodIn_r _ [5, 6, 7, 8, 9, 10, 11, 12, 4, 13, 14, 15, 16, 17, 18, 19, 20, 21, 22, 23, 24, 25, 26, 27, 28, 29, 30, 31, 32, 33, 34, 35, 36, 37, 38, 39, 40, 41, 42, 43, 44, 45, 46, 47, 48, 49, 50, 51, 52, 53, 54, 55, 56, 57, 58, 59, 60, 61, 62, 63, 64, 65, 66, 67, 68, 69, 70, 71, 72, 73, 74, 75, 76, 77, 78, 79, 80, 81, 82, 83, 84, 85, 86, 87, 88, 89, 90, 91, 92, 93, 94] (by decide +kernel) (by decide +kernel)
set_option maxRecDepth 20000 in
theorem gX8_beggars_X8_beggarsNow : GoodIn wsX8_beggars (wsV RX8 162 RX8 yX8_beggarsNow wsX8_beggarsNow) := goodIn_app (goodIn_of _ (by decide +kernel)) ggX8_beggars_X8_beggarsNow
theorem dX8_beggars_0 : decode cX8_beggars 0 = .ok (.aload_n 0, 1) := by decide +kernel
theorem dX8_beggars_1 : decode cX8_beggars 1 = .ok (.invokevirtual 162, 3) := by decide +kernel
theorem dX8_beggars_4 : decode cX8_beggars 4 = .ok (.ireturn, 1) := by decide +kernel
set_option maxRecDepth 20000 in
theorem ggX8_bestOf_X8_atFirst : GoodIn wsX8_bestOf wsX8_atFirst := goodIn_r _ [10, 11, 3, 1, 12, 29, 30, 31, 32, 33, 34, 35, 36, 37, 38, 39, 40, 41, 42, 43, 44, 45, 46, 47, 48, 49, 50, 51, 52, 53, 54, 55, 56, 57] (by decide +kernel) (by decide +kernel)
set_option maxRecDepth 20000 in
theorem gX8_bestOf_X8_atFirst : GoodIn wsX8_bestOf (wsV RX8 133 RX8 yX8_atFirst wsX8_atFirst) := goodIn_app (goodIn_of _ (by decide +kernel)) ggX8_bestOf_X8_atFirst
set_option maxRecDepth 20000 in
theorem ggX8_bestOf_X8_sitAsTold : GoodIn wsX8_bestOf wsX8_sitAsTold := goodIn_r _ [16, 11, 2, 17, 29, 30, 31, 32, 33, 34, 35, 36, 37, 38, 39, 40, 41, 42, 43, 44, 45, 46, 47, 48, 49, 50, 51, 52, 53, 54, 55, 56, 57] (by decide +kernel) (by decide +kernel)
set_option maxRecDepth 20000 in
theorem gX8_bestOf_X8_sitAsTold : GoodIn wsX8_bestOf (wsV RX8 139 RX8 yX8_sitAsTold wsX8_sitAsTold) := goodIn_app (goodIn_of _ (by decide +kernel)) ggX8_bestOf_X8_sitAsTold
set_option maxRecDepth 20000 in
theorem ggX8_bestOf_X8_bills : GoodIn wsX8_bestOf wsX8_bills := goodIn_r _ [21, 11, 22, 23, 2, 24, 5, 3, 25, 26, 27, 9, 28, 29, 30, 31, 32, 33, 34, 35, 36, 37, 38, 39, 40, 41, 42, 43, 44, 45, 46, 47, 48, 49, 50, 51, 52, 53, 54, 55, 56, 57] (by decide +kernel) (by decide +kernel)
set_option maxRecDepth 20000 in
theorem gX8_bestOf_X8_bills : GoodIn wsX8_bestOf (wsV RX8 143 RX8 yX8_bills wsX8_bills) := goodIn_app (goodIn_of _ (by decide +kernel)) ggX8_bestOf_X8_bills
theorem dX8_bestOf_0 : decode cX8_bestOf 0 = .ok (.iconst 0, 1) := by decide +kernel
theorem dX8_bestOf_1 : decode cX8_bestOf 1 = .ok (.istore 4, 2) := by decide +kernel
theorem dX8_bestOf_3 : decode cX8_bestOf 3 = .ok (.iconst (-1), 1) := by decide +kernel
theorem dX8_bestOf_4 : decode cX8_bestOf 4 = .ok (.istore 5, 2) := by decide +kernel
theorem dX8_bestOf_6 : decode cX8_bestOf 6 = .ok (.iconst 0, 1) := by decide +kernel
theorem dX8_bestOf_7 : decode cX8_bestOf 7 = .ok (.istore 6, 2) := by decide +kernel
theorem dX8_bestOf_9 : decode cX8_bestOf 9 = .ok (.iconst 0, 1) := by decide +kernel
theorem dX8_bestOf_10 : decode cX8_bestOf 10 = .ok (.istore 7, 2) := by decide +kernel
theorem dX8_bestOf_12 : decode cX8_bestOf 12 = .ok (.iload 7, 2) := by decide +kernel
theorem dX8_bestOf_14 : decode cX8_bestOf 14 = .ok (.bipush 6, 2) := by decide +kernel
theorem dX8_bestOf_16 : decode cX8_bestOf 16 = .ok (.if_icmp .ge 99, 3) := by decide +kernel
theorem dX8_bestOf_19 : decode cX8_bestOf 19 = .ok (.iconst 0, 1) := by decide +kernel
theorem dX8_bestOf_20 : decode cX8_bestOf 20 = .ok (.istore 8, 2) := by decide +kernel
theorem dX8_bestOf_22 : decode cX8_bestOf 22 = .ok (.iload 8, 2) := by decide +kernel
theorem dX8_bestOf_24 : decode cX8_bestOf 24 = .ok (.aload_n 0, 1) := by decide +kernel
theorem dX8_bestOf_25 : decode cX8_bestOf 25 = .ok (.getfield 16, 3) := by decide +kernel
theorem dX8_bestOf_28 : decode cX8_bestOf 28 = .ok (.iload_n 2, 1) := by decide +kernel
theorem dX8_bestOf_29 : decode cX8_bestOf 29 = .ok (.iaload, 1) := by decide +kernel
theorem dX8_bestOf_30 : decode cX8_bestOf 30 = .ok (.if_icmp .gt 79, 3) := by decide +kernel
theorem dX8_bestOf_33 : decode cX8_bestOf 33 = .ok (.aload_n 0, 1) := by decide +kernel
theorem dX8_bestOf_34 : decode cX8_bestOf 34 = .ok (.invokevirtual 133, 3) := by decide +kernel
theorem dX8_bestOf_37 : decode cX8_bestOf 37 = .ok (.aload_n 0, 1) := by decide +kernel
theorem dX8_bestOf_38 : decode cX8_bestOf 38 = .ok (.iload_n 1, 1) := by decide +kernel
theorem dX8_bestOf_39 : decode cX8_bestOf 39 = .ok (.invokevirtual 139, 3) := by decide +kernel
theorem dX8_bestOf_42 : decode cX8_bestOf 42 = .ok (.aload_n 0, 1) := by decide +kernel
theorem dX8_bestOf_43 : decode cX8_bestOf 43 = .ok (.getfield 37, 3) := by decide +kernel
theorem dX8_bestOf_46 : decode cX8_bestOf 46 = .ok (.iload_n 2, 1) := by decide +kernel
theorem dX8_bestOf_47 : decode cX8_bestOf 47 = .ok (.iload 7, 2) := by decide +kernel
theorem dX8_bestOf_49 : decode cX8_bestOf 49 = .ok (.iastore, 1) := by decide +kernel
theorem dX8_bestOf_50 : decode cX8_bestOf 50 = .ok (.aload_n 0, 1) := by decide +kernel
theorem dX8_bestOf_51 : decode cX8_bestOf 51 = .ok (.getfield 34, 3) := by decide +kernel
theorem dX8_bestOf_54 : decode cX8_bestOf 54 = .ok (.iload_n 2, 1) := by decide +kernel
theorem dX8_bestOf_55 : decode cX8_bestOf 55 = .ok (.aload_n 0, 1) := by decide +kernel
theorem dX8_bestOf_56 : decode cX8_bestOf 56 = .ok (.getfield 16, 3) := by decide +kernel
theorem dX8_bestOf_59 : decode cX8_bestOf 59 = .ok (.iload_n 2, 1) := by decide +kernel
theorem dX8_bestOf_60 : decode cX8_bestOf 60 = .ok (.iaload, 1) := by decide +kernel
theorem dX8_bestOf_61 : decode cX8_bestOf 61 = .ok (.iload 8, 2) := by decide +kernel
theorem dX8_bestOf_63 : decode cX8_bestOf 63 = .ok (.isub, 1) := by decide +kernel
theorem dX8_bestOf_64 : decode cX8_bestOf 64 = .ok (.iastore, 1) := by decide +kernel
theorem dX8_bestOf_65 : decode cX8_bestOf 65 = .ok (.aload_n 0, 1) := by decide +kernel
theorem dX8_bestOf_66 : decode cX8_bestOf 66 = .ok (.invokevirtual 143, 3) := by decide +kernel
theorem dX8_bestOf_69 : decode cX8_bestOf 69 = .ok (.aload_n 0, 1) := by decide +kernel
theorem dX8_bestOf_70 : decode cX8_bestOf 70 = .ok (.getfield 28, 3) := by decide +kernel
theorem dX8_bestOf_73 : decode cX8_bestOf 73 = .ok (.iload_n 2, 1) := by decide +kernel
theorem dX8_bestOf_74 : decode cX8_bestOf 74 = .ok (.iaload, 1) := by decide +kernel
theorem dX8_bestOf_75 : decode cX8_bestOf 75 = .ok (.aload_n 0, 1) := by decide +kernel
theorem dX8_bestOf_76 : decode cX8_bestOf 76 = .ok (.getfield 40, 3) := by decide +kernel
theorem dX8_bestOf_79 : decode cX8_bestOf 79 = .ok (.iload_n 2, 1) := by decide +kernel
theorem dX8_bestOf_80 : decode cX8_bestOf 80 = .ok (.iaload, 1) := by decide +kernel
theorem dX8_bestOf_81 : decode cX8_bestOf 81 = .ok (.isub, 1) := by decide +kernel
theorem dX8_bestOf_82 : decode cX8_bestOf 82 = .ok (.istore 9, 2) := by decide +kernel
theorem dX8_bestOf_84 : decode cX8_bestOf 84 = .ok (.iload 9, 2) := by decide +kernel
theorem dX8_bestOf_86 : decode cX8_bestOf 86 = .ok (.iload 4, 2) := by decide +kernel
theorem dX8_bestOf_88 : decode cX8_bestOf 88 = .ok (.if_icmp .le 15, 3) := by decide +kernel
theorem dX8_bestOf_91 : decode cX8_bestOf 91 = .ok (.iload 9, 2) := by decide +kernel
theorem dX8_bestOf_93 : decode cX8_bestOf 93 = .ok (.istore 4, 2) := by decide +kernel
theorem dX8_bestOf_95 : decode cX8_bestOf 95 = .ok (.iload 7, 2) := by decide +kernel
theorem dX8_bestOf_97 : decode cX8_bestOf 97 = .ok (.istore 5, 2) := by decide +kernel
theorem dX8_bestOf_99 : decode cX8_bestOf 99 = .ok (.iload 8, 2) := by decide +kernel
theorem dX8_bestOf_101 : decode cX8_bestOf 101 = .ok (.istore 6, 2) := by decide +kernel
theorem dX8_bestOf_103 : decode cX8_bestOf 103 = .ok (.iinc 8 1, 3) := by decide +kernel
theorem dX8_bestOf_106 : decode cX8_bestOf 106 = .ok (.goto (-84), 3) := by decide +kernel
theorem dX8_bestOf_109 : decode cX8_bestOf 109 = .ok (.iinc 7 1, 3) := by decide +kernel
theorem dX8_bestOf_112 : decode cX8_bestOf 112 = .ok (.goto (-100), 3) := by decide +kernel
theorem dX8_bestOf_115 : decode cX8_bestOf 115 = .ok (.iload_n 3, 1) := by decide +kernel
theorem dX8_bestOf_116 : decode cX8_bestOf 116 = .ok (.ifCond .ne 8, 3) := by decide +kernel
theorem dX8_bestOf_119 : decode cX8_bestOf 119 = .ok (.iload 4, 2) := by decide +kernel
theorem dX8_bestOf_121 : decode cX8_bestOf 121 = .ok (.goto 15, 3) := by decide +kernel
theorem dX8_bestOf_124 : decode cX8_bestOf 124 = .ok (.iload_n 3, 1) := by decide +kernel
theorem dX8_bestOf_125 : decode cX8_bestOf 125 = .ok (.iconst 1, 1) := by decide +kernel
theorem dX8_bestOf_126 : decode cX8_bestOf 126 = .ok (.if_icmp .ne 8, 3) := by decide +kernel
theorem dX8_bestOf_129 : decode cX8_bestOf 129 = .ok (.iload 5, 2) := by decide +kernel
theorem dX8_bestOf_131 : decode cX8_bestOf 131 = .ok (.goto 5, 3) := by decide +kernel
theorem dX8_bestOf_134 : decode cX8_bestOf 134 = .ok (.iload 6, 2) := by decide +kernel
theorem dX8_bestOf_136 : decode cX8_bestOf 136 = .ok (.ireturn, 1) := by decide +kernel
set_option maxRecDepth 20000 in
theorem ggX8_best_X8_isRound : GoodIn wsX8_best wsX8_isRound := goodIn_r _ [6, 7, 8, 9, 10, 5, 11, 12, 13, 14, 15, 16, 17, 18, 19, 20, 21, 22, 23, 24, 25, 26, 27, 28, 29, 30, 31, 32, 33, 34, 35, 36, 68, 69, 70, 71, 72, 73, 74, 75, 76, 77, 78, 79, 80, 81, 82, 83, 84, 85, 86, 87, 88, 89, 90, 91, 92, 93, 94, 95, 96] (by decide +kernel) (by decide +kernel)
set_option maxRecDepth 20000 in
theorem gX8_best_X8_isRound : GoodIn wsX8_best (wsV RX8 118 RX8 yX8_isRound wsX8_isRound) := goodIn_app (goodIn_of _ (by decide +kernel)) ggX8_best_X8_isRound
set_option maxRecDepth 20000 in
theorem ggX8_best_X8_isPerson : GoodIn wsX8_best wsX8_isPerson := goodIn_r _ [40, 20, 8, 9, 10, 5, 11, 12, 13, 14, 15, 16, 17, 18, 19, 21, 22, 23, 24, 25, 26, 27, 28, 29, 30, 31, 32, 33, 34, 35, 7, 36, 68, 69, 70, 71, 72, 73, 74, 75, 76, 77, 78, 79, 80, 81, 82, 83, 84, 85, 86, 87, 88, 89, 90, 91, 92, 93, 94, 95, 96] (by decide +kernel) (by decide +kernel)
set_option maxRecDepth 20000 in
theorem gX8_best_X8_isPerson : GoodIn wsX8_best (wsV RX8 114 RX8 yX8_isPerson wsX8_isPerson) := goodIn_app (goodIn_of _ (by decide +kernel)) ggX8_best_X8_isPerson
set_option maxRecDepth 20000 in
theorem ggX8_best_X8_in : GoodIn wsX8_best wsX8_in := goodIn_r _ [31] (by decide +kernel) (by decide +kernel)
set_option maxRecDepth 20000 in
theorem gX8_best_X8_in : GoodIn wsX8_best (va_wsS RX8 85 yX8_in wsX8_in) := goodIn_app (goodIn_of _ (by decide +kernel)) ggX8_best_X8_in
set_option maxRecDepth 20000 in
theorem ggX8_best_X8_bestOf : GoodIn wsX8_best wsX8_bestOf := goodIn_r _ [44, 22, 45, 46, 47, 48, 49, 50, 51, 5, 52, 20, 53, 54, 55, 56, 57, 36, 58, 59, 60, 61, 62, 63, 23, 64, 65, 66, 67, 68, 69, 70, 71, 72, 73, 74, 75, 76, 77, 78, 79, 80, 81, 82, 83, 84, 85, 86, 87, 88, 89, 90, 91, 92, 93, 94, 95, 96] (by decide +kernel) (by decide +kernel)
set_option maxRecDepth 20000 in
theorem gX8_best_X8_bestOf : GoodIn wsX8_best (wsV RX8 165 RX8 yX8_bestOf wsX8_bestOf) := goodIn_app (goodIn_of _ (by decide +kernel)) ggX8_best_X8_bestOf
theorem dX8_best_0 : decode cX8_best 0 = .ok (.aload_n 0, 1) := by decide +kernel
theorem dX8_best_1 : decode cX8_best 1 = .ok (.iload_n 1, 1) := by decide +kernel
theorem dX8_best_2 : decode cX8_best 2 = .ok (.invokevirtual 118, 3) := by decide +kernel
theorem dX8_best_5 : decode cX8_best 5 = .ok (.ifCond .eq 30, 3) := by decide +kernel
theorem dX8_best_8 : decode cX8_best 8 = .ok (.aload_n 0, 1) := by decide +kernel
theorem dX8_best_9 : decode cX8_best 9 = .ok (.iload_n 2, 1) := by decide +kernel
theorem dX8_best_10 : decode cX8_best 10 = .ok (.invokevirtual 114, 3) := by decide +kernel
theorem dX8_best_13 : decode cX8_best 13 = .ok (.ifCond .eq 22, 3) := by decide +kernel
theorem dX8_best_16 : decode cX8_best 16 = .ok (.iload_n 3, 1) := by decide +kernel
theorem dX8_best_17 : decode cX8_best 17 = .ok (.iconst 0, 1) := by decide +kernel
theorem dX8_best_18 : decode cX8_best 18 = .ok (.iconst 2, 1) := by decide +kernel
theorem dX8_best_19 : decode cX8_best 19 = .ok (.invokestatic 85, 3) := by decide +kernel
theorem dX8_best_22 : decode cX8_best 22 = .ok (.ifCond .eq 13, 3) := by decide +kernel
theorem dX8_best_25 : decode cX8_best 25 = .ok (.aload_n 0, 1) := by decide +kernel
theorem dX8_best_26 : decode cX8_best 26 = .ok (.iload_n 1, 1) := by decide +kernel
theorem dX8_best_27 : decode cX8_best 27 = .ok (.iload_n 2, 1) := by decide +kernel
theorem dX8_best_28 : decode cX8_best 28 = .ok (.iload_n 3, 1) := by decide +kernel
theorem dX8_best_29 : decode cX8_best 29 = .ok (.invokevirtual 165, 3) := by decide +kernel
theorem dX8_best_32 : decode cX8_best 32 = .ok (.goto 5, 3) := by decide +kernel
theorem dX8_best_35 : decode cX8_best 35 = .ok (.ldc 168, 2) := by decide +kernel
theorem dX8_best_37 : decode cX8_best 37 = .ok (.ireturn, 1) := by decide +kernel
set_option maxRecDepth 20000 in
theorem ggX8_restOf_X8_reads : GoodIn wsX8_restOf wsX8_reads := goodIn_r _ [10, 11, 12, 13, 9, 14, 15, 16, 17, 18, 1, 19, 20, 21, 22, 23, 24, 25, 26, 27, 28, 29, 30, 31, 32, 33, 34, 35, 52, 53, 54, 55, 56, 57, 58, 59, 60, 61, 62, 63, 64, 65, 66, 67, 68, 69, 70, 71, 72, 73, 74, 75, 76, 77, 78, 79, 80] (by decide +kernel) (by decide +kernel)
set_option maxRecDepth 20000 in
theorem gX8_restOf_X8_reads : GoodIn wsX8_restOf (wsV RX8 111 RX8 yX8_reads wsX8_reads) := goodIn_app (goodIn_of _ (by decide +kernel)) ggX8_restOf_X8_reads
set_option maxRecDepth 20000 in
theorem ggX8_restOf_X8_atFirst : GoodIn wsX8_restOf wsX8_atFirst := goodIn_r _ [39, 1, 40, 20, 41, 52, 53, 54, 55, 56, 57, 58, 59, 60, 61, 62, 63, 64, 65, 66, 67, 68, 69, 70, 71, 72, 73, 74, 75, 76, 77, 78, 79, 80] (by decide +kernel) (by decide +kernel)
set_option maxRecDepth 20000 in
theorem gX8_restOf_X8_atFirst : GoodIn wsX8_restOf (wsV RX8 133 RX8 yX8_atFirst wsX8_atFirst) := goodIn_app (goodIn_of _ (by decide +kernel)) ggX8_restOf_X8_atFirst
set_option maxRecDepth 20000 in
theorem ggX8_restOf_X8_bills : GoodIn wsX8_restOf wsX8_bills := goodIn_r _ [45, 1, 46, 47, 2, 21, 5, 40, 48, 49, 50, 9, 51, 52, 53, 54, 55, 56, 57, 58, 59, 60, 61, 62, 63, 64, 65, 66, 67, 68, 69, 70, 71, 72, 73, 74, 75, 76, 77, 78, 79, 80] (by decide +kernel) (by decide +kernel)
set_option maxRecDepth 20000 in
theorem gX8_restOf_X8_bills : GoodIn wsX8_restOf (wsV RX8 143 RX8 yX8_bills wsX8_bills) := goodIn_app (goodIn_of _ (by decide +kernel)) ggX8_restOf_X8_bills
theorem dX8_restOf_0 : decode cX8_restOf 0 = .ok (.aload_n 0, 1) := by decide +kernel
theorem dX8_restOf_1 : decode cX8_restOf 1 = .ok (.invokevirtual 111, 3) := by decide +kernel
theorem dX8_restOf_4 : decode cX8_restOf 4 = .ok (.aload_n 0, 1) := by decide +kernel
theorem dX8_restOf_5 : decode cX8_restOf 5 = .ok (.invokevirtual 133, 3) := by decide +kernel
theorem dX8_restOf_8 : decode cX8_restOf 8 = .ok (.iconst 1, 1) := by decide +kernel
theorem dX8_restOf_9 : decode cX8_restOf 9 = .ok (.iconst 2, 1) := by decide +kernel
theorem dX8_restOf_10 : decode cX8_restOf 10 = .ok (.aload_n 0, 1) := by decide +kernel
theorem dX8_restOf_11 : decode cX8_restOf 11 = .ok (.getfield 89, 3) := by decide +kernel
theorem dX8_restOf_14 : decode cX8_restOf 14 = .ok (.imul, 1) := by decide +kernel
theorem dX8_restOf_15 : decode cX8_restOf 15 = .ok (.ishl, 1) := by decide +kernel
theorem dX8_restOf_16 : decode cX8_restOf 16 = .ok (.istore_n 2, 1) := by decide +kernel
theorem dX8_restOf_17 : decode cX8_restOf 17 = .ok (.iconst 0, 1) := by decide +kernel
theorem dX8_restOf_18 : decode cX8_restOf 18 = .ok (.istore_n 3, 1) := by decide +kernel
theorem dX8_restOf_19 : decode cX8_restOf 19 = .ok (.iload_n 3, 1) := by decide +kernel
theorem dX8_restOf_20 : decode cX8_restOf 20 = .ok (.iload_n 2, 1) := by decide +kernel
theorem dX8_restOf_21 : decode cX8_restOf 21 = .ok (.if_icmp .ge 115, 3) := by decide +kernel
theorem dX8_restOf_24 : decode cX8_restOf 24 = .ok (.iconst 0, 1) := by decide +kernel
theorem dX8_restOf_25 : decode cX8_restOf 25 = .ok (.istore 4, 2) := by decide +kernel
theorem dX8_restOf_27 : decode cX8_restOf 27 = .ok (.iload 4, 2) := by decide +kernel
theorem dX8_restOf_29 : decode cX8_restOf 29 = .ok (.aload_n 0, 1) := by decide +kernel
theorem dX8_restOf_30 : decode cX8_restOf 30 = .ok (.getfield 89, 3) := by decide +kernel
theorem dX8_restOf_33 : decode cX8_restOf 33 = .ok (.if_icmp .ge 33, 3) := by decide +kernel
theorem dX8_restOf_36 : decode cX8_restOf 36 = .ok (.aload_n 0, 1) := by decide +kernel
theorem dX8_restOf_37 : decode cX8_restOf 37 = .ok (.getfield 37, 3) := by decide +kernel
theorem dX8_restOf_40 : decode cX8_restOf 40 = .ok (.iload 4, 2) := by decide +kernel
theorem dX8_restOf_42 : decode cX8_restOf 42 = .ok (.iload_n 3, 1) := by decide +kernel
theorem dX8_restOf_43 : decode cX8_restOf 43 = .ok (.iconst 2, 1) := by decide +kernel
theorem dX8_restOf_44 : decode cX8_restOf 44 = .ok (.aload_n 0, 1) := by decide +kernel
theorem dX8_restOf_45 : decode cX8_restOf 45 = .ok (.getfield 89, 3) := by decide +kernel
theorem dX8_restOf_48 : decode cX8_restOf 48 = .ok (.iconst 1, 1) := by decide +kernel
theorem dX8_restOf_49 : decode cX8_restOf 49 = .ok (.isub, 1) := by decide +kernel
theorem dX8_restOf_50 : decode cX8_restOf 50 = .ok (.iload 4, 2) := by decide +kernel
theorem dX8_restOf_52 : decode cX8_restOf 52 = .ok (.isub, 1) := by decide +kernel
theorem dX8_restOf_53 : decode cX8_restOf 53 = .ok (.imul, 1) := by decide +kernel
theorem dX8_restOf_54 : decode cX8_restOf 54 = .ok (.ishr, 1) := by decide +kernel
theorem dX8_restOf_55 : decode cX8_restOf 55 = .ok (.iconst 3, 1) := by decide +kernel
theorem dX8_restOf_56 : decode cX8_restOf 56 = .ok (.iand, 1) := by decide +kernel
theorem dX8_restOf_57 : decode cX8_restOf 57 = .ok (.iconst 1, 1) := by decide +kernel
theorem dX8_restOf_58 : decode cX8_restOf 58 = .ok (.isub, 1) := by decide +kernel
theorem dX8_restOf_59 : decode cX8_restOf 59 = .ok (.iastore, 1) := by decide +kernel
theorem dX8_restOf_60 : decode cX8_restOf 60 = .ok (.iinc 4 1, 3) := by decide +kernel
theorem dX8_restOf_63 : decode cX8_restOf 63 = .ok (.goto (-36), 3) := by decide +kernel
theorem dX8_restOf_66 : decode cX8_restOf 66 = .ok (.aload_n 0, 1) := by decide +kernel
theorem dX8_restOf_67 : decode cX8_restOf 67 = .ok (.invokevirtual 143, 3) := by decide +kernel
theorem dX8_restOf_70 : decode cX8_restOf 70 = .ok (.iconst 0, 1) := by decide +kernel
theorem dX8_restOf_71 : decode cX8_restOf 71 = .ok (.istore 4, 2) := by decide +kernel
theorem dX8_restOf_73 : decode cX8_restOf 73 = .ok (.iload 4, 2) := by decide +kernel
theorem dX8_restOf_75 : decode cX8_restOf 75 = .ok (.aload_n 0, 1) := by decide +kernel
theorem dX8_restOf_76 : decode cX8_restOf 76 = .ok (.getfield 89, 3) := by decide +kernel
theorem dX8_restOf_79 : decode cX8_restOf 79 = .ok (.if_icmp .ge 51, 3) := by decide +kernel
theorem dX8_restOf_82 : decode cX8_restOf 82 = .ok (.aload_n 0, 1) := by decide +kernel
theorem dX8_restOf_83 : decode cX8_restOf 83 = .ok (.getfield 55, 3) := by decide +kernel
theorem dX8_restOf_86 : decode cX8_restOf 86 = .ok (.bipush 6, 2) := by decide +kernel
theorem dX8_restOf_88 : decode cX8_restOf 88 = .ok (.iload_n 3, 1) := by decide +kernel
theorem dX8_restOf_89 : decode cX8_restOf 89 = .ok (.imul, 1) := by decide +kernel
theorem dX8_restOf_90 : decode cX8_restOf 90 = .ok (.iload 4, 2) := by decide +kernel
theorem dX8_restOf_92 : decode cX8_restOf 92 = .ok (.iadd, 1) := by decide +kernel
theorem dX8_restOf_93 : decode cX8_restOf 93 = .ok (.aload_n 0, 1) := by decide +kernel
theorem dX8_restOf_94 : decode cX8_restOf 94 = .ok (.getfield 37, 3) := by decide +kernel
theorem dX8_restOf_97 : decode cX8_restOf 97 = .ok (.iload 4, 2) := by decide +kernel
theorem dX8_restOf_99 : decode cX8_restOf 99 = .ok (.iaload, 1) := by decide +kernel
theorem dX8_restOf_100 : decode cX8_restOf 100 = .ok (.iconst (-1), 1) := by decide +kernel
theorem dX8_restOf_101 : decode cX8_restOf 101 = .ok (.if_icmp .ne 7, 3) := by decide +kernel
theorem dX8_restOf_104 : decode cX8_restOf 104 = .ok (.iconst 0, 1) := by decide +kernel
theorem dX8_restOf_105 : decode cX8_restOf 105 = .ok (.goto 18, 3) := by decide +kernel
theorem dX8_restOf_108 : decode cX8_restOf 108 = .ok (.aload_n 0, 1) := by decide +kernel
theorem dX8_restOf_109 : decode cX8_restOf 109 = .ok (.getfield 28, 3) := by decide +kernel
theorem dX8_restOf_112 : decode cX8_restOf 112 = .ok (.iload 4, 2) := by decide +kernel
theorem dX8_restOf_114 : decode cX8_restOf 114 = .ok (.iaload, 1) := by decide +kernel
theorem dX8_restOf_115 : decode cX8_restOf 115 = .ok (.aload_n 0, 1) := by decide +kernel
theorem dX8_restOf_116 : decode cX8_restOf 116 = .ok (.getfield 40, 3) := by decide +kernel
theorem dX8_restOf_119 : decode cX8_restOf 119 = .ok (.iload 4, 2) := by decide +kernel
theorem dX8_restOf_121 : decode cX8_restOf 121 = .ok (.iaload, 1) := by decide +kernel
theorem dX8_restOf_122 : decode cX8_restOf 122 = .ok (.isub, 1) := by decide +kernel
theorem dX8_restOf_123 : decode cX8_restOf 123 = .ok (.iastore, 1) := by decide +kernel
theorem dX8_restOf_124 : decode cX8_restOf 124 = .ok (.iinc 4 1, 3) := by decide +kernel
theorem dX8_restOf_127 : decode cX8_restOf 127 = .ok (.goto (-54), 3) := by decide +kernel
theorem dX8_restOf_130 : decode cX8_restOf 130 = .ok (.iinc 3 1, 3) := by decide +kernel
theorem dX8_restOf_133 : decode cX8_restOf 133 = .ok (.goto (-114), 3) := by decide +kernel
theorem dX8_restOf_136 : decode cX8_restOf 136 = .ok (.iconst 0, 1) := by decide +kernel
theorem dX8_restOf_137 : decode cX8_restOf 137 = .ok (.istore_n 3, 1) := by decide +kernel
theorem dX8_restOf_138 : decode cX8_restOf 138 = .ok (.iconst (-1), 1) := by decide +kernel
theorem dX8_restOf_139 : decode cX8_restOf 139 = .ok (.istore 4, 2) := by decide +kernel
theorem dX8_restOf_141 : decode cX8_restOf 141 = .ok (.iconst 0, 1) := by decide +kernel
theorem dX8_restOf_142 : decode cX8_restOf 142 = .ok (.istore 5, 2) := by decide +kernel
theorem dX8_restOf_144 : decode cX8_restOf 144 = .ok (.iload 5, 2) := by decide +kernel
theorem dX8_restOf_146 : decode cX8_restOf 146 = .ok (.iload_n 2, 1) := by decide +kernel
theorem dX8_restOf_147 : decode cX8_restOf 147 = .ok (.if_icmp .ge 149, 3) := by decide +kernel
theorem dX8_restOf_150 : decode cX8_restOf 150 = .ok (.iconst 1, 1) := by decide +kernel
theorem dX8_restOf_151 : decode cX8_restOf 151 = .ok (.istore 6, 2) := by decide +kernel
theorem dX8_restOf_153 : decode cX8_restOf 153 = .ok (.iconst 0, 1) := by decide +kernel
theorem dX8_restOf_154 : decode cX8_restOf 154 = .ok (.istore 7, 2) := by decide +kernel
theorem dX8_restOf_156 : decode cX8_restOf 156 = .ok (.iload 7, 2) := by decide +kernel
theorem dX8_restOf_158 : decode cX8_restOf 158 = .ok (.aload_n 0, 1) := by decide +kernel
theorem dX8_restOf_159 : decode cX8_restOf 159 = .ok (.getfield 89, 3) := by decide +kernel
theorem dX8_restOf_162 : decode cX8_restOf 162 = .ok (.if_icmp .ge 95, 3) := by decide +kernel
theorem dX8_restOf_165 : decode cX8_restOf 165 = .ok (.iconst 2, 1) := by decide +kernel
theorem dX8_restOf_166 : decode cX8_restOf 166 = .ok (.aload_n 0, 1) := by decide +kernel
theorem dX8_restOf_167 : decode cX8_restOf 167 = .ok (.getfield 89, 3) := by decide +kernel
theorem dX8_restOf_170 : decode cX8_restOf 170 = .ok (.iconst 1, 1) := by decide +kernel
theorem dX8_restOf_171 : decode cX8_restOf 171 = .ok (.isub, 1) := by decide +kernel
theorem dX8_restOf_172 : decode cX8_restOf 172 = .ok (.iload 7, 2) := by decide +kernel
theorem dX8_restOf_174 : decode cX8_restOf 174 = .ok (.isub, 1) := by decide +kernel
theorem dX8_restOf_175 : decode cX8_restOf 175 = .ok (.imul, 1) := by decide +kernel
theorem dX8_restOf_176 : decode cX8_restOf 176 = .ok (.istore 8, 2) := by decide +kernel
theorem dX8_restOf_178 : decode cX8_restOf 178 = .ok (.iconst 0, 1) := by decide +kernel
theorem dX8_restOf_179 : decode cX8_restOf 179 = .ok (.istore 9, 2) := by decide +kernel
theorem dX8_restOf_181 : decode cX8_restOf 181 = .ok (.iload 9, 2) := by decide +kernel
theorem dX8_restOf_183 : decode cX8_restOf 183 = .ok (.iconst 4, 1) := by decide +kernel
theorem dX8_restOf_184 : decode cX8_restOf 184 = .ok (.if_icmp .ge 67, 3) := by decide +kernel
theorem dX8_restOf_187 : decode cX8_restOf 187 = .ok (.iload 5, 2) := by decide +kernel
theorem dX8_restOf_189 : decode cX8_restOf 189 = .ok (.iconst 3, 1) := by decide +kernel
theorem dX8_restOf_190 : decode cX8_restOf 190 = .ok (.iload 8, 2) := by decide +kernel
theorem dX8_restOf_192 : decode cX8_restOf 192 = .ok (.ishl, 1) := by decide +kernel
theorem dX8_restOf_193 : decode cX8_restOf 193 = .ok (.iconst (-1), 1) := by decide +kernel
theorem dX8_restOf_194 : decode cX8_restOf 194 = .ok (.ixor, 1) := by decide +kernel
theorem dX8_restOf_195 : decode cX8_restOf 195 = .ok (.iand, 1) := by decide +kernel
theorem dX8_restOf_196 : decode cX8_restOf 196 = .ok (.iload 9, 2) := by decide +kernel
theorem dX8_restOf_198 : decode cX8_restOf 198 = .ok (.iload 8, 2) := by decide +kernel
theorem dX8_restOf_200 : decode cX8_restOf 200 = .ok (.ishl, 1) := by decide +kernel
theorem dX8_restOf_201 : decode cX8_restOf 201 = .ok (.ior, 1) := by decide +kernel
theorem dX8_restOf_202 : decode cX8_restOf 202 = .ok (.istore 10, 2) := by decide +kernel
theorem dX8_restOf_204 : decode cX8_restOf 204 = .ok (.iload 6, 2) := by decide +kernel
theorem dX8_restOf_206 : decode cX8_restOf 206 = .ok (.ifCond .eq 36, 3) := by decide +kernel
theorem dX8_restOf_209 : decode cX8_restOf 209 = .ok (.aload_n 0, 1) := by decide +kernel
theorem dX8_restOf_210 : decode cX8_restOf 210 = .ok (.getfield 55, 3) := by decide +kernel
theorem dX8_restOf_213 : decode cX8_restOf 213 = .ok (.bipush 6, 2) := by decide +kernel
theorem dX8_restOf_215 : decode cX8_restOf 215 = .ok (.iload 10, 2) := by decide +kernel
theorem dX8_restOf_217 : decode cX8_restOf 217 = .ok (.imul, 1) := by decide +kernel
theorem dX8_restOf_218 : decode cX8_restOf 218 = .ok (.iload 7, 2) := by decide +kernel
theorem dX8_restOf_220 : decode cX8_restOf 220 = .ok (.iadd, 1) := by decide +kernel
theorem dX8_restOf_221 : decode cX8_restOf 221 = .ok (.iaload, 1) := by decide +kernel
theorem dX8_restOf_222 : decode cX8_restOf 222 = .ok (.aload_n 0, 1) := by decide +kernel
theorem dX8_restOf_223 : decode cX8_restOf 223 = .ok (.getfield 55, 3) := by decide +kernel
theorem dX8_restOf_226 : decode cX8_restOf 226 = .ok (.bipush 6, 2) := by decide +kernel
theorem dX8_restOf_228 : decode cX8_restOf 228 = .ok (.iload 5, 2) := by decide +kernel
theorem dX8_restOf_230 : decode cX8_restOf 230 = .ok (.imul, 1) := by decide +kernel
theorem dX8_restOf_231 : decode cX8_restOf 231 = .ok (.iload 7, 2) := by decide +kernel
theorem dX8_restOf_233 : decode cX8_restOf 233 = .ok (.iadd, 1) := by decide +kernel
theorem dX8_restOf_234 : decode cX8_restOf 234 = .ok (.iaload, 1) := by decide +kernel
theorem dX8_restOf_235 : decode cX8_restOf 235 = .ok (.if_icmp .gt 7, 3) := by decide +kernel
theorem dX8_restOf_238 : decode cX8_restOf 238 = .ok (.iconst 1, 1) := by decide +kernel
theorem dX8_restOf_239 : decode cX8_restOf 239 = .ok (.goto 4, 3) := by decide +kernel
theorem dX8_restOf_242 : decode cX8_restOf 242 = .ok (.iconst 0, 1) := by decide +kernel
theorem dX8_restOf_243 : decode cX8_restOf 243 = .ok (.istore 6, 2) := by decide +kernel
theorem dX8_restOf_245 : decode cX8_restOf 245 = .ok (.iinc 9 1, 3) := by decide +kernel
theorem dX8_restOf_248 : decode cX8_restOf 248 = .ok (.goto (-67), 3) := by decide +kernel
theorem dX8_restOf_251 : decode cX8_restOf 251 = .ok (.iinc 7 1, 3) := by decide +kernel
theorem dX8_restOf_254 : decode cX8_restOf 254 = .ok (.goto (-98), 3) := by decide +kernel
theorem dX8_restOf_257 : decode cX8_restOf 257 = .ok (.iload_n 3, 1) := by decide +kernel
theorem dX8_restOf_258 : decode cX8_restOf 258 = .ok (.iload 6, 2) := by decide +kernel
theorem dX8_restOf_260 : decode cX8_restOf 260 = .ok (.ifCond .eq 7, 3) := by decide +kernel
theorem dX8_restOf_263 : decode cX8_restOf 263 = .ok (.iconst 1, 1) := by decide +kernel
theorem dX8_restOf_264 : decode cX8_restOf 264 = .ok (.goto 4, 3) := by decide +kernel
theorem dX8_restOf_267 : decode cX8_restOf 267 = .ok (.iconst 0, 1) := by decide +kernel
theorem dX8_restOf_268 : decode cX8_restOf 268 = .ok (.iadd, 1) := by decide +kernel
theorem dX8_restOf_269 : decode cX8_restOf 269 = .ok (.istore_n 3, 1) := by decide +kernel
theorem dX8_restOf_270 : decode cX8_restOf 270 = .ok (.iload 6, 2) := by decide +kernel
theorem dX8_restOf_272 : decode cX8_restOf 272 = .ok (.ifCond .eq 14, 3) := by decide +kernel
theorem dX8_restOf_275 : decode cX8_restOf 275 = .ok (.iload 4, 2) := by decide +kernel
theorem dX8_restOf_277 : decode cX8_restOf 277 = .ok (.iconst (-1), 1) := by decide +kernel
theorem dX8_restOf_278 : decode cX8_restOf 278 = .ok (.if_icmp .ne 8, 3) := by decide +kernel
theorem dX8_restOf_281 : decode cX8_restOf 281 = .ok (.iload 5, 2) := by decide +kernel
theorem dX8_restOf_283 : decode cX8_restOf 283 = .ok (.goto 5, 3) := by decide +kernel
theorem dX8_restOf_286 : decode cX8_restOf 286 = .ok (.iload 4, 2) := by decide +kernel
theorem dX8_restOf_288 : decode cX8_restOf 288 = .ok (.istore 4, 2) := by decide +kernel
theorem dX8_restOf_290 : decode cX8_restOf 290 = .ok (.iinc 5 1, 3) := by decide +kernel
theorem dX8_restOf_293 : decode cX8_restOf 293 = .ok (.goto (-149), 3) := by decide +kernel
theorem dX8_restOf_296 : decode cX8_restOf 296 = .ok (.iload_n 1, 1) := by decide +kernel
theorem dX8_restOf_297 : decode cX8_restOf 297 = .ok (.iconst (-1), 1) := by decide +kernel
theorem dX8_restOf_298 : decode cX8_restOf 298 = .ok (.if_icmp .ne 7, 3) := by decide +kernel
theorem dX8_restOf_301 : decode cX8_restOf 301 = .ok (.iload_n 3, 1) := by decide +kernel
theorem dX8_restOf_302 : decode cX8_restOf 302 = .ok (.goto 30, 3) := by decide +kernel
theorem dX8_restOf_305 : decode cX8_restOf 305 = .ok (.iload 4, 2) := by decide +kernel
theorem dX8_restOf_307 : decode cX8_restOf 307 = .ok (.iconst (-1), 1) := by decide +kernel
theorem dX8_restOf_308 : decode cX8_restOf 308 = .ok (.if_icmp .ne 7, 3) := by decide +kernel
theorem dX8_restOf_311 : decode cX8_restOf 311 = .ok (.iconst (-1), 1) := by decide +kernel
theorem dX8_restOf_312 : decode cX8_restOf 312 = .ok (.goto 20, 3) := by decide +kernel
theorem dX8_restOf_315 : decode cX8_restOf 315 = .ok (.iload 4, 2) := by decide +kernel
theorem dX8_restOf_317 : decode cX8_restOf 317 = .ok (.iconst 2, 1) := by decide +kernel
theorem dX8_restOf_318 : decode cX8_restOf 318 = .ok (.aload_n 0, 1) := by decide +kernel
theorem dX8_restOf_319 : decode cX8_restOf 319 = .ok (.getfield 89, 3) := by decide +kernel
theorem dX8_restOf_322 : decode cX8_restOf 322 = .ok (.iconst 1, 1) := by decide +kernel
theorem dX8_restOf_323 : decode cX8_restOf 323 = .ok (.isub, 1) := by decide +kernel
theorem dX8_restOf_324 : decode cX8_restOf 324 = .ok (.iload_n 1, 1) := by decide +kernel
theorem dX8_restOf_325 : decode cX8_restOf 325 = .ok (.isub, 1) := by decide +kernel
theorem dX8_restOf_326 : decode cX8_restOf 326 = .ok (.imul, 1) := by decide +kernel
theorem dX8_restOf_327 : decode cX8_restOf 327 = .ok (.ishr, 1) := by decide +kernel
theorem dX8_restOf_328 : decode cX8_restOf 328 = .ok (.iconst 3, 1) := by decide +kernel
theorem dX8_restOf_329 : decode cX8_restOf 329 = .ok (.iand, 1) := by decide +kernel
theorem dX8_restOf_330 : decode cX8_restOf 330 = .ok (.iconst 1, 1) := by decide +kernel
theorem dX8_restOf_331 : decode cX8_restOf 331 = .ok (.isub, 1) := by decide +kernel
theorem dX8_restOf_332 : decode cX8_restOf 332 = .ok (.ireturn, 1) := by decide +kernel
set_option maxRecDepth 20000 in
theorem ggX8_rest_X8_isPerson : GoodIn wsX8_rest wsX8_isPerson := goodIn_r _ [5, 6, 7, 8, 9, 4, 10, 11, 12, 13, 14, 15, 16, 17, 18, 19, 20, 21, 22, 23, 24, 25, 26, 27, 28, 29, 30, 31, 32, 33, 34, 35, 60, 61, 62, 63, 64, 65, 66, 67, 68, 69, 70, 71, 72, 73, 74, 75, 76, 77, 78, 79, 80, 81, 82, 83, 84, 85, 86, 87, 88] (by decide +kernel) (by decide +kernel)
set_option maxRecDepth 20000 in
theorem gX8_rest_X8_isPerson : GoodIn wsX8_rest (wsV RX8 114 RX8 yX8_isPerson wsX8_isPerson) := goodIn_app (goodIn_of _ (by decide +kernel)) ggX8_rest_X8_isPerson
set_option maxRecDepth 20000 in
theorem ggX8_rest_X8_restOf : GoodIn wsX8_rest wsX8_restOf := goodIn_r _ [39, 6, 40, 41, 42, 43, 7, 8, 9, 4, 10, 11, 12, 13, 14, 15, 16, 17, 18, 19, 20, 21, 22, 23, 24, 25, 26, 27, 28, 29, 30, 31, 32, 33, 34, 35, 44, 45, 46, 47, 48, 49, 50, 51, 52, 53, 54, 55, 56, 57, 58, 59, 60, 61, 62, 63, 64, 65, 66, 67, 68, 69, 70, 71, 72, 73, 74, 75, 76, 77, 78, 79, 80, 81, 82, 83, 84, 85, 86, 87, 88] (by decide +kernel) (by decide +kernel)
set_option maxRecDepth 20000 in
theorem gX8_rest_X8_restOf : GoodIn wsX8_rest (wsV RX8 169 RX8 yX8_restOf wsX8_restOf) := goodIn_app (goodIn_of _ (by decide +kernel)) ggX8_rest_X8_restOf
theorem dX8_rest_0 : decode cX8_rest 0 = .ok (.iload_n 1, 1) := by decide +kernel
theorem dX8_rest_1 : decode cX8_rest 1 = .ok (.iconst (-1), 1) := by decide +kernel
theorem dX8_rest_2 : decode cX8_rest 2 = .ok (.if_icmp .eq 11, 3) := by decide +kernel
theorem dX8_rest_5 : decode cX8_rest 5 = .ok (.aload_n 0, 1) := by decide +kernel
theorem dX8_rest_6 : decode cX8_rest 6 = .ok (.iload_n 1, 1) := by decide +kernel
theorem dX8_rest_7 : decode cX8_rest 7 = .ok (.invokevirtual 114, 3) := by decide +kernel
theorem dX8_rest_10 : decode cX8_rest 10 = .ok (.ifCond .eq 11, 3) := by decide +kernel
theorem dX8_rest_13 : decode cX8_rest 13 = .ok (.aload_n 0, 1) := by decide +kernel
theorem dX8_rest_14 : decode cX8_rest 14 = .ok (.iload_n 1, 1) := by decide +kernel
theorem dX8_rest_15 : decode cX8_rest 15 = .ok (.invokevirtual 169, 3) := by decide +kernel
theorem dX8_rest_18 : decode cX8_rest 18 = .ok (.goto 5, 3) := by decide +kernel
theorem dX8_rest_21 : decode cX8_rest 21 = .ok (.bipush (-2), 2) := by decide +kernel
theorem dX8_rest_23 : decode cX8_rest 23 = .ok (.ireturn, 1) := by decide +kernel
theorem dX8_parts_0 : decode cX8_parts 0 = .ok (.iconst 0, 1) := by decide +kernel
theorem dX8_parts_1 : decode cX8_parts 1 = .ok (.istore_n 2, 1) := by decide +kernel
theorem dX8_parts_2 : decode cX8_parts 2 = .ok (.iconst 0, 1) := by decide +kernel
theorem dX8_parts_3 : decode cX8_parts 3 = .ok (.istore_n 3, 1) := by decide +kernel
theorem dX8_parts_4 : decode cX8_parts 4 = .ok (.iload_n 3, 1) := by decide +kernel
theorem dX8_parts_5 : decode cX8_parts 5 = .ok (.aload_n 0, 1) := by decide +kernel
theorem dX8_parts_6 : decode cX8_parts 6 = .ok (.getfield 89, 3) := by decide +kernel
theorem dX8_parts_9 : decode cX8_parts 9 = .ok (.if_icmp .ge 48, 3) := by decide +kernel
theorem dX8_parts_12 : decode cX8_parts 12 = .ok (.iload_n 1, 1) := by decide +kernel
theorem dX8_parts_13 : decode cX8_parts 13 = .ok (.iconst 2, 1) := by decide +kernel
theorem dX8_parts_14 : decode cX8_parts 14 = .ok (.iload_n 3, 1) := by decide +kernel
theorem dX8_parts_15 : decode cX8_parts 15 = .ok (.imul, 1) := by decide +kernel
theorem dX8_parts_16 : decode cX8_parts 16 = .ok (.ishr, 1) := by decide +kernel
theorem dX8_parts_17 : decode cX8_parts 17 = .ok (.iconst 3, 1) := by decide +kernel
theorem dX8_parts_18 : decode cX8_parts 18 = .ok (.iand, 1) := by decide +kernel
theorem dX8_parts_19 : decode cX8_parts 19 = .ok (.istore 4, 2) := by decide +kernel
theorem dX8_parts_21 : decode cX8_parts 21 = .ok (.iload 4, 2) := by decide +kernel
theorem dX8_parts_23 : decode cX8_parts 23 = .ok (.iload_n 2, 1) := by decide +kernel
theorem dX8_parts_24 : decode cX8_parts 24 = .ok (.if_icmp .le 5, 3) := by decide +kernel
theorem dX8_parts_27 : decode cX8_parts 27 = .ok (.iconst 0, 1) := by decide +kernel
theorem dX8_parts_28 : decode cX8_parts 28 = .ok (.ireturn, 1) := by decide +kernel
theorem dX8_parts_29 : decode cX8_parts 29 = .ok (.iload 4, 2) := by decide +kernel
theorem dX8_parts_31 : decode cX8_parts 31 = .ok (.iload_n 2, 1) := by decide +kernel
theorem dX8_parts_32 : decode cX8_parts 32 = .ok (.if_icmp .ne 9, 3) := by decide +kernel
theorem dX8_parts_35 : decode cX8_parts 35 = .ok (.iload_n 2, 1) := by decide +kernel
theorem dX8_parts_36 : decode cX8_parts 36 = .ok (.iconst 1, 1) := by decide +kernel
theorem dX8_parts_37 : decode cX8_parts 37 = .ok (.iadd, 1) := by decide +kernel
theorem dX8_parts_38 : decode cX8_parts 38 = .ok (.goto 4, 3) := by decide +kernel
theorem dX8_parts_41 : decode cX8_parts 41 = .ok (.iload_n 2, 1) := by decide +kernel
theorem dX8_parts_42 : decode cX8_parts 42 = .ok (.istore_n 2, 1) := by decide +kernel
theorem dX8_parts_43 : decode cX8_parts 43 = .ok (.aload_n 0, 1) := by decide +kernel
theorem dX8_parts_44 : decode cX8_parts 44 = .ok (.getfield 37, 3) := by decide +kernel
theorem dX8_parts_47 : decode cX8_parts 47 = .ok (.iload_n 3, 1) := by decide +kernel
theorem dX8_parts_48 : decode cX8_parts 48 = .ok (.iload 4, 2) := by decide +kernel
theorem dX8_parts_50 : decode cX8_parts 50 = .ok (.iastore, 1) := by decide +kernel
theorem dX8_parts_51 : decode cX8_parts 51 = .ok (.iinc 3 1, 3) := by decide +kernel
theorem dX8_parts_54 : decode cX8_parts 54 = .ok (.goto (-50), 3) := by decide +kernel
theorem dX8_parts_57 : decode cX8_parts 57 = .ok (.iconst 1, 1) := by decide +kernel
theorem dX8_parts_58 : decode cX8_parts 58 = .ok (.ireturn, 1) := by decide +kernel
theorem dX8_isDown_0 : decode cX8_isDown 0 = .ok (.iload_n 1, 1) := by decide +kernel
theorem dX8_isDown_1 : decode cX8_isDown 1 = .ok (.iconst (-1), 1) := by decide +kernel
theorem dX8_isDown_2 : decode cX8_isDown 2 = .ok (.if_icmp .eq 19, 3) := by decide +kernel
theorem dX8_isDown_5 : decode cX8_isDown 5 = .ok (.aload_n 0, 1) := by decide +kernel
theorem dX8_isDown_6 : decode cX8_isDown 6 = .ok (.getfield 34, 3) := by decide +kernel
theorem dX8_isDown_9 : decode cX8_isDown 9 = .ok (.iload_n 1, 1) := by decide +kernel
theorem dX8_isDown_10 : decode cX8_isDown 10 = .ok (.iaload, 1) := by decide +kernel
theorem dX8_isDown_11 : decode cX8_isDown 11 = .ok (.iload_n 2, 1) := by decide +kernel
theorem dX8_isDown_12 : decode cX8_isDown 12 = .ok (.if_icmp .ne 7, 3) := by decide +kernel
theorem dX8_isDown_15 : decode cX8_isDown 15 = .ok (.iconst 1, 1) := by decide +kernel
theorem dX8_isDown_16 : decode cX8_isDown 16 = .ok (.goto 4, 3) := by decide +kernel
theorem dX8_isDown_19 : decode cX8_isDown 19 = .ok (.iconst 0, 1) := by decide +kernel
theorem dX8_isDown_20 : decode cX8_isDown 20 = .ok (.ireturn, 1) := by decide +kernel
theorem dX8_isDown_21 : decode cX8_isDown 21 = .ok (.iconst 1, 1) := by decide +kernel
theorem dX8_isDown_22 : decode cX8_isDown 22 = .ok (.istore_n 3, 1) := by decide +kernel
theorem dX8_isDown_23 : decode cX8_isDown 23 = .ok (.iconst 1, 1) := by decide +kernel
theorem dX8_isDown_24 : decode cX8_isDown 24 = .ok (.istore 4, 2) := by decide +kernel
theorem dX8_isDown_26 : decode cX8_isDown 26 = .ok (.iload 4, 2) := by decide +kernel
theorem dX8_isDown_28 : decode cX8_isDown 28 = .ok (.aload_n 0, 1) := by decide +kernel
theorem dX8_isDown_29 : decode cX8_isDown 29 = .ok (.getfield 89, 3) := by decide +kernel
theorem dX8_isDown_32 : decode cX8_isDown 32 = .ok (.if_icmp .ge 35, 3) := by decide +kernel
theorem dX8_isDown_35 : decode cX8_isDown 35 = .ok (.iload_n 3, 1) := by decide +kernel
theorem dX8_isDown_36 : decode cX8_isDown 36 = .ok (.ifCond .eq 23, 3) := by decide +kernel
theorem dX8_isDown_39 : decode cX8_isDown 39 = .ok (.aload_n 0, 1) := by decide +kernel
theorem dX8_isDown_40 : decode cX8_isDown 40 = .ok (.getfield 34, 3) := by decide +kernel
theorem dX8_isDown_43 : decode cX8_isDown 43 = .ok (.iload 4, 2) := by decide +kernel
theorem dX8_isDown_45 : decode cX8_isDown 45 = .ok (.iaload, 1) := by decide +kernel
theorem dX8_isDown_46 : decode cX8_isDown 46 = .ok (.aload_n 0, 1) := by decide +kernel
theorem dX8_isDown_47 : decode cX8_isDown 47 = .ok (.getfield 34, 3) := by decide +kernel
theorem dX8_isDown_50 : decode cX8_isDown 50 = .ok (.iconst 0, 1) := by decide +kernel
theorem dX8_isDown_51 : decode cX8_isDown 51 = .ok (.iaload, 1) := by decide +kernel
theorem dX8_isDown_52 : decode cX8_isDown 52 = .ok (.if_icmp .ne 7, 3) := by decide +kernel
theorem dX8_isDown_55 : decode cX8_isDown 55 = .ok (.iconst 1, 1) := by decide +kernel
theorem dX8_isDown_56 : decode cX8_isDown 56 = .ok (.goto 4, 3) := by decide +kernel
theorem dX8_isDown_59 : decode cX8_isDown 59 = .ok (.iconst 0, 1) := by decide +kernel
theorem dX8_isDown_60 : decode cX8_isDown 60 = .ok (.istore_n 3, 1) := by decide +kernel
theorem dX8_isDown_61 : decode cX8_isDown 61 = .ok (.iinc 4 1, 3) := by decide +kernel
theorem dX8_isDown_64 : decode cX8_isDown 64 = .ok (.goto (-38), 3) := by decide +kernel
theorem dX8_isDown_67 : decode cX8_isDown 67 = .ok (.iload_n 3, 1) := by decide +kernel
theorem dX8_isDown_68 : decode cX8_isDown 68 = .ok (.ireturn, 1) := by decide +kernel
set_option maxRecDepth 20000 in
theorem ggX8_downBy_X8_reads : GoodIn wsX8_downBy wsX8_reads := goodIn_r _ [6, 7, 8, 9, 5, 10, 11, 12, 13, 14, 1, 15, 16, 17, 18, 19, 20, 21, 22, 23, 24, 25, 26, 27, 28, 29, 30, 31, 62, 63, 64, 65, 66, 67, 68, 69, 70, 71, 72, 73, 74, 75, 76, 77, 78, 79, 80, 81, 82, 83, 84, 85, 86, 87, 88, 89, 90] (by decide +kernel) (by decide +kernel)
set_option maxRecDepth 20000 in
theorem gX8_downBy_X8_reads : GoodIn wsX8_downBy (wsV RX8 111 RX8 yX8_reads wsX8_reads) := goodIn_app (goodIn_of _ (by decide +kernel)) ggX8_downBy_X8_reads
set_option maxRecDepth 20000 in
theorem ggX8_downBy_X8_atFirst : GoodIn wsX8_downBy wsX8_atFirst := goodIn_r _ [35, 1, 36, 16, 37, 62, 63, 64, 65, 66, 67, 68, 69, 70, 71, 72, 73, 74, 75, 76, 77, 78, 79, 80, 81, 82, 83, 84, 85, 86, 87, 88, 89, 90] (by decide +kernel) (by decide +kernel)
set_option maxRecDepth 20000 in
theorem gX8_downBy_X8_atFirst : GoodIn wsX8_downBy (wsV RX8 133 RX8 yX8_atFirst wsX8_atFirst) := goodIn_app (goodIn_of _ (by decide +kernel)) ggX8_downBy_X8_atFirst
set_option maxRecDepth 20000 in
theorem ggX8_downBy_X8_isDown : GoodIn wsX8_downBy wsX8_isDown := goodIn_r _ [41, 36, 1, 62, 63, 64, 65, 66, 67, 68, 69, 70, 71, 72, 73, 74, 75, 76, 77, 78, 79, 80, 81, 82, 83, 84, 85, 86, 87, 88, 89, 90] (by decide +kernel) (by decide +kernel)
set_option maxRecDepth 20000 in
theorem gX8_downBy_X8_isDown : GoodIn wsX8_downBy (wsV RX8 172 RX8 yX8_isDown wsX8_isDown) := goodIn_app (goodIn_of _ (by decide +kernel)) ggX8_downBy_X8_isDown
set_option maxRecDepth 20000 in
theorem ggX8_downBy_X8_parts : GoodIn wsX8_downBy wsX8_parts := goodIn_r _ [45, 1, 46, 62, 63, 64, 65, 66, 67, 68, 69, 70, 71, 72, 73, 74, 75, 76, 77, 78, 79, 80, 81, 82, 83, 84, 85, 86, 87, 88, 89, 90] (by decide +kernel) (by decide +kernel)
set_option maxRecDepth 20000 in
theorem gX8_downBy_X8_parts : GoodIn wsX8_downBy (wsV RX8 176 RX8 yX8_parts wsX8_parts) := goodIn_app (goodIn_of _ (by decide +kernel)) ggX8_downBy_X8_parts
set_option maxRecDepth 20000 in
theorem ggX8_downBy_X8_roundsTill : GoodIn wsX8_downBy wsX8_roundsTill := goodIn_r _ [50, 1, 36, 51, 32, 33, 34, 5, 35, 16, 37, 42, 43, 44, 45, 46, 52, 53, 54, 55, 56, 57, 17, 58, 59, 60, 61, 38, 39, 40, 41, 62, 63, 64, 65, 66, 67, 68, 69, 70, 71, 72, 73, 74, 75, 76, 77, 78, 79, 80, 81, 82, 83, 84, 85, 86, 87, 88, 89, 90] (by decide +kernel) (by decide +kernel)
set_option maxRecDepth 20000 in
theorem gX8_downBy_X8_roundsTill : GoodIn wsX8_downBy (wsV RX8 179 RX8 yX8_roundsTill wsX8_roundsTill) := goodIn_app (goodIn_of _ (by decide +kernel)) ggX8_downBy_X8_roundsTill
theorem dX8_downBy_0 : decode cX8_downBy 0 = .ok (.aload_n 0, 1) := by decide +kernel
theorem dX8_downBy_1 : decode cX8_downBy 1 = .ok (.invokevirtual 111, 3) := by decide +kernel
theorem dX8_downBy_4 : decode cX8_downBy 4 = .ok (.aload_n 0, 1) := by decide +kernel
theorem dX8_downBy_5 : decode cX8_downBy 5 = .ok (.getfield 89, 3) := by decide +kernel
theorem dX8_downBy_8 : decode cX8_downBy 8 = .ok (.iconst 4, 1) := by decide +kernel
theorem dX8_downBy_9 : decode cX8_downBy 9 = .ok (.if_icmp .le 6, 3) := by decide +kernel
theorem dX8_downBy_12 : decode cX8_downBy 12 = .ok (.bipush (-4), 2) := by decide +kernel
theorem dX8_downBy_14 : decode cX8_downBy 14 = .ok (.ireturn, 1) := by decide +kernel
theorem dX8_downBy_15 : decode cX8_downBy 15 = .ok (.aload_n 0, 1) := by decide +kernel
theorem dX8_downBy_16 : decode cX8_downBy 16 = .ok (.invokevirtual 133, 3) := by decide +kernel
theorem dX8_downBy_19 : decode cX8_downBy 19 = .ok (.aload_n 0, 1) := by decide +kernel
theorem dX8_downBy_20 : decode cX8_downBy 20 = .ok (.iload_n 1, 1) := by decide +kernel
theorem dX8_downBy_21 : decode cX8_downBy 21 = .ok (.iload_n 2, 1) := by decide +kernel
theorem dX8_downBy_22 : decode cX8_downBy 22 = .ok (.invokevirtual 172, 3) := by decide +kernel
theorem dX8_downBy_25 : decode cX8_downBy 25 = .ok (.ifCond .eq 5, 3) := by decide +kernel
theorem dX8_downBy_28 : decode cX8_downBy 28 = .ok (.iconst 0, 1) := by decide +kernel
theorem dX8_downBy_29 : decode cX8_downBy 29 = .ok (.ireturn, 1) := by decide +kernel
theorem dX8_downBy_30 : decode cX8_downBy 30 = .ok (.iconst 1, 1) := by decide +kernel
theorem dX8_downBy_31 : decode cX8_downBy 31 = .ok (.iconst 2, 1) := by decide +kernel
theorem dX8_downBy_32 : decode cX8_downBy 32 = .ok (.aload_n 0, 1) := by decide +kernel
theorem dX8_downBy_33 : decode cX8_downBy 33 = .ok (.getfield 89, 3) := by decide +kernel
theorem dX8_downBy_36 : decode cX8_downBy 36 = .ok (.imul, 1) := by decide +kernel
theorem dX8_downBy_37 : decode cX8_downBy 37 = .ok (.ishl, 1) := by decide +kernel
theorem dX8_downBy_38 : decode cX8_downBy 38 = .ok (.istore_n 3, 1) := by decide +kernel
theorem dX8_downBy_39 : decode cX8_downBy 39 = .ok (.iconst (-1), 1) := by decide +kernel
theorem dX8_downBy_40 : decode cX8_downBy 40 = .ok (.istore 4, 2) := by decide +kernel
theorem dX8_downBy_42 : decode cX8_downBy 42 = .ok (.iconst 0, 1) := by decide +kernel
theorem dX8_downBy_43 : decode cX8_downBy 43 = .ok (.istore 5, 2) := by decide +kernel
theorem dX8_downBy_45 : decode cX8_downBy 45 = .ok (.iload 5, 2) := by decide +kernel
theorem dX8_downBy_47 : decode cX8_downBy 47 = .ok (.iload_n 3, 1) := by decide +kernel
theorem dX8_downBy_48 : decode cX8_downBy 48 = .ok (.if_icmp .ge 108, 3) := by decide +kernel
theorem dX8_downBy_51 : decode cX8_downBy 51 = .ok (.aload_n 0, 1) := by decide +kernel
theorem dX8_downBy_52 : decode cX8_downBy 52 = .ok (.iload 5, 2) := by decide +kernel
theorem dX8_downBy_54 : decode cX8_downBy 54 = .ok (.invokevirtual 176, 3) := by decide +kernel
theorem dX8_downBy_57 : decode cX8_downBy 57 = .ok (.ifCond .eq 93, 3) := by decide +kernel
theorem dX8_downBy_60 : decode cX8_downBy 60 = .ok (.iconst 0, 1) := by decide +kernel
theorem dX8_downBy_61 : decode cX8_downBy 61 = .ok (.istore 6, 2) := by decide +kernel
theorem dX8_downBy_63 : decode cX8_downBy 63 = .ok (.iload 6, 2) := by decide +kernel
theorem dX8_downBy_65 : decode cX8_downBy 65 = .ok (.iload_n 3, 1) := by decide +kernel
theorem dX8_downBy_66 : decode cX8_downBy 66 = .ok (.if_icmp .ge 84, 3) := by decide +kernel
theorem dX8_downBy_69 : decode cX8_downBy 69 = .ok (.aload_n 0, 1) := by decide +kernel
theorem dX8_downBy_70 : decode cX8_downBy 70 = .ok (.iload 6, 2) := by decide +kernel
theorem dX8_downBy_72 : decode cX8_downBy 72 = .ok (.invokevirtual 176, 3) := by decide +kernel
theorem dX8_downBy_75 : decode cX8_downBy 75 = .ok (.ifCond .eq 69, 3) := by decide +kernel
theorem dX8_downBy_78 : decode cX8_downBy 78 = .ok (.iconst 0, 1) := by decide +kernel
theorem dX8_downBy_79 : decode cX8_downBy 79 = .ok (.istore 7, 2) := by decide +kernel
theorem dX8_downBy_81 : decode cX8_downBy 81 = .ok (.iload 7, 2) := by decide +kernel
theorem dX8_downBy_83 : decode cX8_downBy 83 = .ok (.iload_n 3, 1) := by decide +kernel
theorem dX8_downBy_84 : decode cX8_downBy 84 = .ok (.if_icmp .ge 60, 3) := by decide +kernel
theorem dX8_downBy_87 : decode cX8_downBy 87 = .ok (.aload_n 0, 1) := by decide +kernel
theorem dX8_downBy_88 : decode cX8_downBy 88 = .ok (.iload 7, 2) := by decide +kernel
theorem dX8_downBy_90 : decode cX8_downBy 90 = .ok (.invokevirtual 176, 3) := by decide +kernel
theorem dX8_downBy_93 : decode cX8_downBy 93 = .ok (.ifCond .eq 45, 3) := by decide +kernel
theorem dX8_downBy_96 : decode cX8_downBy 96 = .ok (.aload_n 0, 1) := by decide +kernel
theorem dX8_downBy_97 : decode cX8_downBy 97 = .ok (.iload 5, 2) := by decide +kernel
theorem dX8_downBy_99 : decode cX8_downBy 99 = .ok (.iload 6, 2) := by decide +kernel
theorem dX8_downBy_101 : decode cX8_downBy 101 = .ok (.iload 7, 2) := by decide +kernel
theorem dX8_downBy_103 : decode cX8_downBy 103 = .ok (.iload_n 1, 1) := by decide +kernel
theorem dX8_downBy_104 : decode cX8_downBy 104 = .ok (.iload_n 2, 1) := by decide +kernel
theorem dX8_downBy_105 : decode cX8_downBy 105 = .ok (.invokevirtual 179, 3) := by decide +kernel
theorem dX8_downBy_108 : decode cX8_downBy 108 = .ok (.istore 8, 2) := by decide +kernel
theorem dX8_downBy_110 : decode cX8_downBy 110 = .ok (.iload 8, 2) := by decide +kernel
theorem dX8_downBy_112 : decode cX8_downBy 112 = .ok (.iconst (-1), 1) := by decide +kernel
theorem dX8_downBy_113 : decode cX8_downBy 113 = .ok (.if_icmp .eq 21, 3) := by decide +kernel
theorem dX8_downBy_116 : decode cX8_downBy 116 = .ok (.iload 4, 2) := by decide +kernel
theorem dX8_downBy_118 : decode cX8_downBy 118 = .ok (.iconst (-1), 1) := by decide +kernel
theorem dX8_downBy_119 : decode cX8_downBy 119 = .ok (.if_icmp .eq 10, 3) := by decide +kernel
theorem dX8_downBy_122 : decode cX8_downBy 122 = .ok (.iload 8, 2) := by decide +kernel
theorem dX8_downBy_124 : decode cX8_downBy 124 = .ok (.iload 4, 2) := by decide +kernel
theorem dX8_downBy_126 : decode cX8_downBy 126 = .ok (.if_icmp .ge 8, 3) := by decide +kernel
theorem dX8_downBy_129 : decode cX8_downBy 129 = .ok (.iload 8, 2) := by decide +kernel
theorem dX8_downBy_131 : decode cX8_downBy 131 = .ok (.goto 5, 3) := by decide +kernel
theorem dX8_downBy_134 : decode cX8_downBy 134 = .ok (.iload 4, 2) := by decide +kernel
theorem dX8_downBy_136 : decode cX8_downBy 136 = .ok (.istore 4, 2) := by decide +kernel
theorem dX8_downBy_138 : decode cX8_downBy 138 = .ok (.iinc 7 1, 3) := by decide +kernel
theorem dX8_downBy_141 : decode cX8_downBy 141 = .ok (.goto (-60), 3) := by decide +kernel
theorem dX8_downBy_144 : decode cX8_downBy 144 = .ok (.iinc 6 1, 3) := by decide +kernel
theorem dX8_downBy_147 : decode cX8_downBy 147 = .ok (.goto (-84), 3) := by decide +kernel
theorem dX8_downBy_150 : decode cX8_downBy 150 = .ok (.iinc 5 1, 3) := by decide +kernel
theorem dX8_downBy_153 : decode cX8_downBy 153 = .ok (.goto (-108), 3) := by decide +kernel
theorem dX8_downBy_156 : decode cX8_downBy 156 = .ok (.iload 4, 2) := by decide +kernel
theorem dX8_downBy_158 : decode cX8_downBy 158 = .ok (.ireturn, 1) := by decide +kernel
set_option maxRecDepth 20000 in
theorem ggX8_roundsTill_X8_atFirst : GoodIn wsX8_roundsTill wsX8_atFirst := goodIn_r _ [8, 1, 2, 9, 10, 31, 32, 33, 34, 35, 36, 37, 38, 39, 40, 41, 42, 43, 44, 45, 46, 47, 48, 49, 50, 51, 52, 53, 54, 55, 56, 57, 58, 59] (by decide +kernel) (by decide +kernel)
set_option maxRecDepth 20000 in
theorem gX8_roundsTill_X8_atFirst : GoodIn wsX8_roundsTill (wsV RX8 133 RX8 yX8_atFirst wsX8_atFirst) := goodIn_app (goodIn_of _ (by decide +kernel)) ggX8_roundsTill_X8_atFirst
set_option maxRecDepth 20000 in
theorem ggX8_roundsTill_X8_parts : GoodIn wsX8_roundsTill wsX8_parts := goodIn_r _ [14, 1, 15, 31, 32, 33, 34, 35, 36, 37, 38, 39, 40, 41, 42, 43, 44, 45, 46, 47, 48, 49, 50, 51, 52, 53, 54, 55, 56, 57, 58, 59] (by decide +kernel) (by decide +kernel)
set_option maxRecDepth 20000 in
theorem gX8_roundsTill_X8_parts : GoodIn wsX8_roundsTill (wsV RX8 176 RX8 yX8_parts wsX8_parts) := goodIn_app (goodIn_of _ (by decide +kernel)) ggX8_roundsTill_X8_parts
set_option maxRecDepth 20000 in
theorem ggX8_roundsTill_X8_bills : GoodIn wsX8_roundsTill wsX8_bills := goodIn_r _ [19, 1, 20, 21, 15, 22, 3, 2, 23, 24, 25, 7, 26, 31, 32, 33, 34, 35, 36, 37, 38, 39, 40, 41, 42, 43, 44, 45, 46, 47, 48, 49, 50, 51, 52, 53, 54, 55, 56, 57, 58, 59] (by decide +kernel) (by decide +kernel)
set_option maxRecDepth 20000 in
theorem gX8_roundsTill_X8_bills : GoodIn wsX8_roundsTill (wsV RX8 143 RX8 yX8_bills wsX8_bills) := goodIn_app (goodIn_of _ (by decide +kernel)) ggX8_roundsTill_X8_bills
set_option maxRecDepth 20000 in
theorem ggX8_roundsTill_X8_isDown : GoodIn wsX8_roundsTill wsX8_isDown := goodIn_r _ [30, 2, 1, 31, 32, 33, 34, 35, 36, 37, 38, 39, 40, 41, 42, 43, 44, 45, 46, 47, 48, 49, 50, 51, 52, 53, 54, 55, 56, 57, 58, 59] (by decide +kernel) (by decide +kernel)
set_option maxRecDepth 20000 in
theorem gX8_roundsTill_X8_isDown : GoodIn wsX8_roundsTill (wsV RX8 172 RX8 yX8_isDown wsX8_isDown) := goodIn_app (goodIn_of _ (by decide +kernel)) ggX8_roundsTill_X8_isDown
theorem dX8_roundsTill_0 : decode cX8_roundsTill 0 = .ok (.aload_n 0, 1) := by decide +kernel
theorem dX8_roundsTill_1 : decode cX8_roundsTill 1 = .ok (.invokevirtual 133, 3) := by decide +kernel
theorem dX8_roundsTill_4 : decode cX8_roundsTill 4 = .ok (.iconst 1, 1) := by decide +kernel
theorem dX8_roundsTill_5 : decode cX8_roundsTill 5 = .ok (.istore 6, 2) := by decide +kernel
theorem dX8_roundsTill_7 : decode cX8_roundsTill 7 = .ok (.iload 6, 2) := by decide +kernel
theorem dX8_roundsTill_9 : decode cX8_roundsTill 9 = .ok (.iconst 4, 1) := by decide +kernel
theorem dX8_roundsTill_10 : decode cX8_roundsTill 10 = .ok (.if_icmp .ge 89, 3) := by decide +kernel
theorem dX8_roundsTill_13 : decode cX8_roundsTill 13 = .ok (.aload_n 0, 1) := by decide +kernel
theorem dX8_roundsTill_14 : decode cX8_roundsTill 14 = .ok (.iload 6, 2) := by decide +kernel
theorem dX8_roundsTill_16 : decode cX8_roundsTill 16 = .ok (.iconst 1, 1) := by decide +kernel
theorem dX8_roundsTill_17 : decode cX8_roundsTill 17 = .ok (.if_icmp .ne 7, 3) := by decide +kernel
theorem dX8_roundsTill_20 : decode cX8_roundsTill 20 = .ok (.iload_n 1, 1) := by decide +kernel
theorem dX8_roundsTill_21 : decode cX8_roundsTill 21 = .ok (.goto 14, 3) := by decide +kernel
theorem dX8_roundsTill_24 : decode cX8_roundsTill 24 = .ok (.iload 6, 2) := by decide +kernel
theorem dX8_roundsTill_26 : decode cX8_roundsTill 26 = .ok (.iconst 2, 1) := by decide +kernel
theorem dX8_roundsTill_27 : decode cX8_roundsTill 27 = .ok (.if_icmp .ne 7, 3) := by decide +kernel
theorem dX8_roundsTill_30 : decode cX8_roundsTill 30 = .ok (.iload_n 2, 1) := by decide +kernel
theorem dX8_roundsTill_31 : decode cX8_roundsTill 31 = .ok (.goto 4, 3) := by decide +kernel
theorem dX8_roundsTill_34 : decode cX8_roundsTill 34 = .ok (.iload_n 3, 1) := by decide +kernel
theorem dX8_roundsTill_35 : decode cX8_roundsTill 35 = .ok (.invokevirtual 176, 3) := by decide +kernel
theorem dX8_roundsTill_38 : decode cX8_roundsTill 38 = .ok (.istore 7, 2) := by decide +kernel
theorem dX8_roundsTill_40 : decode cX8_roundsTill 40 = .ok (.aload_n 0, 1) := by decide +kernel
theorem dX8_roundsTill_41 : decode cX8_roundsTill 41 = .ok (.invokevirtual 143, 3) := by decide +kernel
theorem dX8_roundsTill_44 : decode cX8_roundsTill 44 = .ok (.iconst 0, 1) := by decide +kernel
theorem dX8_roundsTill_45 : decode cX8_roundsTill 45 = .ok (.istore 8, 2) := by decide +kernel
theorem dX8_roundsTill_47 : decode cX8_roundsTill 47 = .ok (.iload 8, 2) := by decide +kernel
theorem dX8_roundsTill_49 : decode cX8_roundsTill 49 = .ok (.aload_n 0, 1) := by decide +kernel
theorem dX8_roundsTill_50 : decode cX8_roundsTill 50 = .ok (.getfield 89, 3) := by decide +kernel
theorem dX8_roundsTill_53 : decode cX8_roundsTill 53 = .ok (.if_icmp .ge 26, 3) := by decide +kernel
theorem dX8_roundsTill_56 : decode cX8_roundsTill 56 = .ok (.aload_n 0, 1) := by decide +kernel
theorem dX8_roundsTill_57 : decode cX8_roundsTill 57 = .ok (.getfield 34, 3) := by decide +kernel
theorem dX8_roundsTill_60 : decode cX8_roundsTill 60 = .ok (.iload 8, 2) := by decide +kernel
theorem dX8_roundsTill_62 : decode cX8_roundsTill 62 = .ok (.dup2, 1) := by decide +kernel
theorem dX8_roundsTill_63 : decode cX8_roundsTill 63 = .ok (.iaload, 1) := by decide +kernel
theorem dX8_roundsTill_64 : decode cX8_roundsTill 64 = .ok (.aload_n 0, 1) := by decide +kernel
theorem dX8_roundsTill_65 : decode cX8_roundsTill 65 = .ok (.getfield 40, 3) := by decide +kernel
theorem dX8_roundsTill_68 : decode cX8_roundsTill 68 = .ok (.iload 8, 2) := by decide +kernel
theorem dX8_roundsTill_70 : decode cX8_roundsTill 70 = .ok (.iaload, 1) := by decide +kernel
theorem dX8_roundsTill_71 : decode cX8_roundsTill 71 = .ok (.isub, 1) := by decide +kernel
theorem dX8_roundsTill_72 : decode cX8_roundsTill 72 = .ok (.iastore, 1) := by decide +kernel
theorem dX8_roundsTill_73 : decode cX8_roundsTill 73 = .ok (.iinc 8 1, 3) := by decide +kernel
theorem dX8_roundsTill_76 : decode cX8_roundsTill 76 = .ok (.goto (-29), 3) := by decide +kernel
theorem dX8_roundsTill_79 : decode cX8_roundsTill 79 = .ok (.aload_n 0, 1) := by decide +kernel
theorem dX8_roundsTill_80 : decode cX8_roundsTill 80 = .ok (.iload 4, 2) := by decide +kernel
theorem dX8_roundsTill_82 : decode cX8_roundsTill 82 = .ok (.iload 5, 2) := by decide +kernel
theorem dX8_roundsTill_84 : decode cX8_roundsTill 84 = .ok (.invokevirtual 172, 3) := by decide +kernel
theorem dX8_roundsTill_87 : decode cX8_roundsTill 87 = .ok (.ifCond .eq 6, 3) := by decide +kernel
theorem dX8_roundsTill_90 : decode cX8_roundsTill 90 = .ok (.iload 6, 2) := by decide +kernel
theorem dX8_roundsTill_92 : decode cX8_roundsTill 92 = .ok (.ireturn, 1) := by decide +kernel
theorem dX8_roundsTill_93 : decode cX8_roundsTill 93 = .ok (.iinc 6 1, 3) := by decide +kernel
theorem dX8_roundsTill_96 : decode cX8_roundsTill 96 = .ok (.goto (-89), 3) := by decide +kernel
theorem dX8_roundsTill_99 : decode cX8_roundsTill 99 = .ok (.iconst (-1), 1) := by decide +kernel
theorem dX8_roundsTill_100 : decode cX8_roundsTill 100 = .ok (.ireturn, 1) := by decide +kernel
set_option maxRecDepth 20000 in
theorem ggX8_down_X8_isPerson : GoodIn wsX8_down wsX8_isPerson := goodIn_r _ [5, 6, 7, 8, 9, 4, 10, 11, 12, 13, 14, 15, 16, 17, 18, 19, 20, 21, 22, 23, 24, 25, 26, 27, 28, 29, 30, 31, 32, 33, 34, 35, 70, 71, 72, 73, 74, 75, 76, 77, 78, 79, 80, 81, 82, 83, 84, 85, 86, 87, 88, 89, 90, 91, 92, 93, 94, 95, 96, 97, 98] (by decide +kernel) (by decide +kernel)
set_option maxRecDepth 20000 in
theorem gX8_down_X8_isPerson : GoodIn wsX8_down (wsV RX8 114 RX8 yX8_isPerson wsX8_isPerson) := goodIn_app (goodIn_of _ (by decide +kernel)) ggX8_down_X8_isPerson
set_option maxRecDepth 20000 in
theorem ggX8_down_X8_in : GoodIn wsX8_down wsX8_in := goodIn_r _ [29] (by decide +kernel) (by decide +kernel)
set_option maxRecDepth 20000 in
theorem gX8_down_X8_in : GoodIn wsX8_down (va_wsS RX8 85 yX8_in wsX8_in) := goodIn_app (goodIn_of _ (by decide +kernel)) ggX8_down_X8_in
set_option maxRecDepth 20000 in
theorem ggX8_down_X8_downBy : GoodIn wsX8_down wsX8_downBy := goodIn_r _ [39, 6, 7, 8, 9, 4, 10, 11, 12, 13, 14, 15, 16, 17, 18, 19, 20, 21, 22, 23, 24, 25, 26, 27, 28, 29, 30, 31, 32, 33, 34, 35, 40, 41, 42, 43, 44, 45, 46, 47, 48, 49, 50, 51, 52, 53, 54, 55, 56, 57, 58, 59, 60, 61, 62, 63, 64, 65, 66, 67, 68, 69, 70, 71, 72, 73, 74, 75, 76, 77, 78, 79, 80, 81, 82, 83, 84, 85, 86, 87, 88, 89, 90, 91, 92, 93, 94, 95, 96, 97, 98] (by decide +kernel) (by decide +kernel)
set_option maxRecDepth 20000 in
theorem gX8_down_X8_downBy : GoodIn wsX8_down (wsV RX8 183 RX8 yX8_downBy wsX8_downBy) := goodIn_app (goodIn_of _ (by decide +kernel)) ggX8_down_X8_downBy
theorem dX8_down_0 : decode cX8_down 0 = .ok (.aload_n 0, 1) := by decide +kernel
theorem dX8_down_1 : decode cX8_down 1 = .ok (.iload_n 1, 1) := by decide +kernel
theorem dX8_down_2 : decode cX8_down 2 = .ok (.invokevirtual 114, 3) := by decide +kernel
theorem dX8_down_5 : decode cX8_down 5 = .ok (.ifCond .eq 22, 3) := by decide +kernel
theorem dX8_down_8 : decode cX8_down 8 = .ok (.iload_n 2, 1) := by decide +kernel
theorem dX8_down_9 : decode cX8_down 9 = .ok (.iconst 0, 1) := by decide +kernel
theorem dX8_down_10 : decode cX8_down 10 = .ok (.bipush 99, 2) := by decide +kernel
theorem dX8_down_12 : decode cX8_down 12 = .ok (.invokestatic 85, 3) := by decide +kernel
theorem dX8_down_15 : decode cX8_down 15 = .ok (.ifCond .eq 12, 3) := by decide +kernel
theorem dX8_down_18 : decode cX8_down 18 = .ok (.aload_n 0, 1) := by decide +kernel
theorem dX8_down_19 : decode cX8_down 19 = .ok (.iload_n 1, 1) := by decide +kernel
theorem dX8_down_20 : decode cX8_down 20 = .ok (.iload_n 2, 1) := by decide +kernel
theorem dX8_down_21 : decode cX8_down 21 = .ok (.invokevirtual 183, 3) := by decide +kernel
theorem dX8_down_24 : decode cX8_down 24 = .ok (.goto 5, 3) := by decide +kernel
theorem dX8_down_27 : decode cX8_down 27 = .ok (.bipush (-2), 2) := by decide +kernel
theorem dX8_down_29 : decode cX8_down 29 = .ok (.ireturn, 1) := by decide +kernel
set_option maxRecDepth 20000 in
theorem ggX8_alike_X8_downBy : GoodIn wsX8_alike wsX8_downBy := goodIn_r _ [5, 6, 7, 8, 9, 4, 10, 11, 12, 13, 14, 15, 16, 17, 18, 19, 20, 21, 22, 23, 24, 25, 26, 27, 28, 29, 30, 31, 32, 33, 34, 35, 36, 37, 38, 39, 40, 41, 42, 43, 44, 45, 46, 47, 48, 49, 50, 51, 52, 53, 54, 55, 56, 57, 58, 59, 60, 61, 62, 63, 64, 65, 66, 67, 68, 69, 70, 71, 72, 73, 74, 75, 76, 77, 78, 79, 80, 81, 82, 83, 84, 85, 86, 87, 88, 89, 90, 91, 92, 93, 94] (by decide +kernel) (by decide +kernel)
set_option maxRecDepth 20000 in
theorem gX8_alike_X8_downBy : GoodIn wsX8_alike (wsV RX8 183 RX8 yX8_downBy wsX8_downBy) := goodIn_app (goodIn_of _ (by decide +kernel)) ggX8_alike_X8_downBy
theorem dX8_alike_0 : decode cX8_alike 0 = .ok (.aload_n 0, 1) := by decide +kernel
theorem dX8_alike_1 : decode cX8_alike 1 = .ok (.iconst (-1), 1) := by decide +kernel
theorem dX8_alike_2 : decode cX8_alike 2 = .ok (.iconst 0, 1) := by decide +kernel
theorem dX8_alike_3 : decode cX8_alike 3 = .ok (.invokevirtual 183, 3) := by decide +kernel
theorem dX8_alike_6 : decode cX8_alike 6 = .ok (.ireturn, 1) := by decide +kernel
set_option maxRecDepth 20000 in
theorem ggX8_darkOf_X8_atFirst : GoodIn wsX8_darkOf wsX8_atFirst := goodIn_r _ [8, 9, 3, 10, 11, 28, 29, 30, 31, 32, 33, 34, 35, 36, 37, 38, 39, 40, 41, 42, 43, 44, 45, 46, 47, 48, 49, 50, 51, 52, 53, 54, 55, 56] (by decide +kernel) (by decide +kernel)
set_option maxRecDepth 20000 in
theorem gX8_darkOf_X8_atFirst : GoodIn wsX8_darkOf (wsV RX8 133 RX8 yX8_atFirst wsX8_atFirst) := goodIn_app (goodIn_of _ (by decide +kernel)) ggX8_darkOf_X8_atFirst
set_option maxRecDepth 20000 in
theorem ggX8_darkOf_X8_sitAsTold : GoodIn wsX8_darkOf wsX8_sitAsTold := goodIn_r _ [15, 9, 1, 16, 28, 29, 30, 31, 32, 33, 34, 35, 36, 37, 38, 39, 40, 41, 42, 43, 44, 45, 46, 47, 48, 49, 50, 51, 52, 53, 54, 55, 56] (by decide +kernel) (by decide +kernel)
set_option maxRecDepth 20000 in
theorem gX8_darkOf_X8_sitAsTold : GoodIn wsX8_darkOf (wsV RX8 139 RX8 yX8_sitAsTold wsX8_sitAsTold) := goodIn_app (goodIn_of _ (by decide +kernel)) ggX8_darkOf_X8_sitAsTold
set_option maxRecDepth 20000 in
theorem ggX8_darkOf_X8_bills : GoodIn wsX8_darkOf wsX8_bills := goodIn_r _ [20, 9, 21, 22, 1, 23, 2, 3, 24, 25, 26, 7, 27, 28, 29, 30, 31, 32, 33, 34, 35, 36, 37, 38, 39, 40, 41, 42, 43, 44, 45, 46, 47, 48, 49, 50, 51, 52, 53, 54, 55, 56] (by decide +kernel) (by decide +kernel)
set_option maxRecDepth 20000 in
theorem gX8_darkOf_X8_bills : GoodIn wsX8_darkOf (wsV RX8 143 RX8 yX8_bills wsX8_bills) := goodIn_app (goodIn_of _ (by decide +kernel)) ggX8_darkOf_X8_bills
theorem dX8_darkOf_0 : decode cX8_darkOf 0 = .ok (.aload_n 0, 1) := by decide +kernel
theorem dX8_darkOf_1 : decode cX8_darkOf 1 = .ok (.invokevirtual 133, 3) := by decide +kernel
theorem dX8_darkOf_4 : decode cX8_darkOf 4 = .ok (.aload_n 0, 1) := by decide +kernel
theorem dX8_darkOf_5 : decode cX8_darkOf 5 = .ok (.iload_n 1, 1) := by decide +kernel
theorem dX8_darkOf_6 : decode cX8_darkOf 6 = .ok (.invokevirtual 139, 3) := by decide +kernel
theorem dX8_darkOf_9 : decode cX8_darkOf 9 = .ok (.aload_n 0, 1) := by decide +kernel
theorem dX8_darkOf_10 : decode cX8_darkOf 10 = .ok (.getfield 37, 3) := by decide +kernel
theorem dX8_darkOf_13 : decode cX8_darkOf 13 = .ok (.iload_n 2, 1) := by decide +kernel
theorem dX8_darkOf_14 : decode cX8_darkOf 14 = .ok (.iaload, 1) := by decide +kernel
theorem dX8_darkOf_15 : decode cX8_darkOf 15 = .ok (.iconst (-1), 1) := by decide +kernel
theorem dX8_darkOf_16 : decode cX8_darkOf 16 = .ok (.if_icmp .eq 18, 3) := by decide +kernel
theorem dX8_darkOf_19 : decode cX8_darkOf 19 = .ok (.aload_n 0, 1) := by decide +kernel
theorem dX8_darkOf_20 : decode cX8_darkOf 20 = .ok (.getfield 37, 3) := by decide +kernel
theorem dX8_darkOf_23 : decode cX8_darkOf 23 = .ok (.iload_n 2, 1) := by decide +kernel
theorem dX8_darkOf_24 : decode cX8_darkOf 24 = .ok (.iaload, 1) := by decide +kernel
theorem dX8_darkOf_25 : decode cX8_darkOf 25 = .ok (.aload_n 0, 1) := by decide +kernel
theorem dX8_darkOf_26 : decode cX8_darkOf 26 = .ok (.getfield 37, 3) := by decide +kernel
theorem dX8_darkOf_29 : decode cX8_darkOf 29 = .ok (.iload_n 3, 1) := by decide +kernel
theorem dX8_darkOf_30 : decode cX8_darkOf 30 = .ok (.iaload, 1) := by decide +kernel
theorem dX8_darkOf_31 : decode cX8_darkOf 31 = .ok (.if_icmp .eq 6, 3) := by decide +kernel
theorem dX8_darkOf_34 : decode cX8_darkOf 34 = .ok (.bipush (-3), 2) := by decide +kernel
theorem dX8_darkOf_36 : decode cX8_darkOf 36 = .ok (.ireturn, 1) := by decide +kernel
theorem dX8_darkOf_37 : decode cX8_darkOf 37 = .ok (.aload_n 0, 1) := by decide +kernel
theorem dX8_darkOf_38 : decode cX8_darkOf 38 = .ok (.invokevirtual 143, 3) := by decide +kernel
theorem dX8_darkOf_41 : decode cX8_darkOf 41 = .ok (.aload_n 0, 1) := by decide +kernel
theorem dX8_darkOf_42 : decode cX8_darkOf 42 = .ok (.getfield 40, 3) := by decide +kernel
theorem dX8_darkOf_45 : decode cX8_darkOf 45 = .ok (.iload_n 2, 1) := by decide +kernel
theorem dX8_darkOf_46 : decode cX8_darkOf 46 = .ok (.iaload, 1) := by decide +kernel
theorem dX8_darkOf_47 : decode cX8_darkOf 47 = .ok (.istore 4, 2) := by decide +kernel
theorem dX8_darkOf_49 : decode cX8_darkOf 49 = .ok (.aload_n 0, 1) := by decide +kernel
theorem dX8_darkOf_50 : decode cX8_darkOf 50 = .ok (.getfield 34, 3) := by decide +kernel
theorem dX8_darkOf_53 : decode cX8_darkOf 53 = .ok (.iload_n 2, 1) := by decide +kernel
theorem dX8_darkOf_54 : decode cX8_darkOf 54 = .ok (.iaload, 1) := by decide +kernel
theorem dX8_darkOf_55 : decode cX8_darkOf 55 = .ok (.istore 5, 2) := by decide +kernel
theorem dX8_darkOf_57 : decode cX8_darkOf 57 = .ok (.iconst 1, 1) := by decide +kernel
theorem dX8_darkOf_58 : decode cX8_darkOf 58 = .ok (.istore 6, 2) := by decide +kernel
theorem dX8_darkOf_60 : decode cX8_darkOf 60 = .ok (.iload 6, 2) := by decide +kernel
theorem dX8_darkOf_62 : decode cX8_darkOf 62 = .ok (.iload 5, 2) := by decide +kernel
theorem dX8_darkOf_64 : decode cX8_darkOf 64 = .ok (.if_icmp .gt 47, 3) := by decide +kernel
theorem dX8_darkOf_67 : decode cX8_darkOf 67 = .ok (.aload_n 0, 1) := by decide +kernel
theorem dX8_darkOf_68 : decode cX8_darkOf 68 = .ok (.getfield 34, 3) := by decide +kernel
theorem dX8_darkOf_71 : decode cX8_darkOf 71 = .ok (.iload_n 2, 1) := by decide +kernel
theorem dX8_darkOf_72 : decode cX8_darkOf 72 = .ok (.dup2, 1) := by decide +kernel
theorem dX8_darkOf_73 : decode cX8_darkOf 73 = .ok (.iaload, 1) := by decide +kernel
theorem dX8_darkOf_74 : decode cX8_darkOf 74 = .ok (.iconst 1, 1) := by decide +kernel
theorem dX8_darkOf_75 : decode cX8_darkOf 75 = .ok (.isub, 1) := by decide +kernel
theorem dX8_darkOf_76 : decode cX8_darkOf 76 = .ok (.iastore, 1) := by decide +kernel
theorem dX8_darkOf_77 : decode cX8_darkOf 77 = .ok (.aload_n 0, 1) := by decide +kernel
theorem dX8_darkOf_78 : decode cX8_darkOf 78 = .ok (.getfield 34, 3) := by decide +kernel
theorem dX8_darkOf_81 : decode cX8_darkOf 81 = .ok (.iload_n 3, 1) := by decide +kernel
theorem dX8_darkOf_82 : decode cX8_darkOf 82 = .ok (.dup2, 1) := by decide +kernel
theorem dX8_darkOf_83 : decode cX8_darkOf 83 = .ok (.iaload, 1) := by decide +kernel
theorem dX8_darkOf_84 : decode cX8_darkOf 84 = .ok (.iconst 1, 1) := by decide +kernel
theorem dX8_darkOf_85 : decode cX8_darkOf 85 = .ok (.iadd, 1) := by decide +kernel
theorem dX8_darkOf_86 : decode cX8_darkOf 86 = .ok (.iastore, 1) := by decide +kernel
theorem dX8_darkOf_87 : decode cX8_darkOf 87 = .ok (.aload_n 0, 1) := by decide +kernel
theorem dX8_darkOf_88 : decode cX8_darkOf 88 = .ok (.invokevirtual 143, 3) := by decide +kernel
theorem dX8_darkOf_91 : decode cX8_darkOf 91 = .ok (.aload_n 0, 1) := by decide +kernel
theorem dX8_darkOf_92 : decode cX8_darkOf 92 = .ok (.getfield 40, 3) := by decide +kernel
theorem dX8_darkOf_95 : decode cX8_darkOf 95 = .ok (.iload_n 2, 1) := by decide +kernel
theorem dX8_darkOf_96 : decode cX8_darkOf 96 = .ok (.iaload, 1) := by decide +kernel
theorem dX8_darkOf_97 : decode cX8_darkOf 97 = .ok (.iload 4, 2) := by decide +kernel
theorem dX8_darkOf_99 : decode cX8_darkOf 99 = .ok (.if_icmp .ge 6, 3) := by decide +kernel
theorem dX8_darkOf_102 : decode cX8_darkOf 102 = .ok (.iload 6, 2) := by decide +kernel
theorem dX8_darkOf_104 : decode cX8_darkOf 104 = .ok (.ireturn, 1) := by decide +kernel
theorem dX8_darkOf_105 : decode cX8_darkOf 105 = .ok (.iinc 6 1, 3) := by decide +kernel
theorem dX8_darkOf_108 : decode cX8_darkOf 108 = .ok (.goto (-48), 3) := by decide +kernel
theorem dX8_darkOf_111 : decode cX8_darkOf 111 = .ok (.iconst (-1), 1) := by decide +kernel
theorem dX8_darkOf_112 : decode cX8_darkOf 112 = .ok (.ireturn, 1) := by decide +kernel
set_option maxRecDepth 20000 in
theorem ggX8_dark_X8_isRound : GoodIn wsX8_dark wsX8_isRound := goodIn_r _ [5, 6, 7, 8, 9, 4, 10, 11, 12, 13, 14, 15, 16, 17, 18, 19, 20, 21, 22, 23, 24, 25, 26, 27, 28, 29, 30, 31, 32, 33, 34, 35, 66, 67, 68, 69, 70, 71, 72, 73, 74, 75, 76, 77, 78, 79, 80, 81, 82, 83, 84, 85, 86, 87, 88, 89, 90, 91, 92, 93, 94] (by decide +kernel) (by decide +kernel)
set_option maxRecDepth 20000 in
theorem gX8_dark_X8_isRound : GoodIn wsX8_dark (wsV RX8 118 RX8 yX8_isRound wsX8_isRound) := goodIn_app (goodIn_of _ (by decide +kernel)) ggX8_dark_X8_isRound
set_option maxRecDepth 20000 in
theorem ggX8_dark_X8_isPerson : GoodIn wsX8_dark wsX8_isPerson := goodIn_r _ [39, 19, 7, 8, 9, 4, 10, 11, 12, 13, 14, 15, 16, 17, 18, 20, 21, 22, 23, 24, 25, 26, 27, 28, 29, 30, 31, 32, 33, 34, 6, 35, 66, 67, 68, 69, 70, 71, 72, 73, 74, 75, 76, 77, 78, 79, 80, 81, 82, 83, 84, 85, 86, 87, 88, 89, 90, 91, 92, 93, 94] (by decide +kernel) (by decide +kernel)
set_option maxRecDepth 20000 in
theorem gX8_dark_X8_isPerson : GoodIn wsX8_dark (wsV RX8 114 RX8 yX8_isPerson wsX8_isPerson) := goodIn_app (goodIn_of _ (by decide +kernel)) ggX8_dark_X8_isPerson
set_option maxRecDepth 20000 in
theorem ggX8_dark_X8_darkOf : GoodIn wsX8_dark wsX8_darkOf := goodIn_r _ [43, 44, 45, 46, 47, 48, 49, 4, 50, 19, 21, 51, 52, 53, 54, 55, 35, 56, 57, 58, 59, 60, 61, 22, 62, 63, 64, 65, 66, 67, 68, 69, 70, 71, 72, 73, 74, 75, 76, 77, 78, 79, 80, 81, 82, 83, 84, 85, 86, 87, 88, 89, 90, 91, 92, 93, 94] (by decide +kernel) (by decide +kernel)
set_option maxRecDepth 20000 in
theorem gX8_dark_X8_darkOf : GoodIn wsX8_dark (wsV RX8 186 RX8 yX8_darkOf wsX8_darkOf) := goodIn_app (goodIn_of _ (by decide +kernel)) ggX8_dark_X8_darkOf
theorem dX8_dark_0 : decode cX8_dark 0 = .ok (.aload_n 0, 1) := by decide +kernel
theorem dX8_dark_1 : decode cX8_dark 1 = .ok (.iload_n 1, 1) := by decide +kernel
theorem dX8_dark_2 : decode cX8_dark 2 = .ok (.invokevirtual 118, 3) := by decide +kernel
theorem dX8_dark_5 : decode cX8_dark 5 = .ok (.ifCond .eq 34, 3) := by decide +kernel
theorem dX8_dark_8 : decode cX8_dark 8 = .ok (.aload_n 0, 1) := by decide +kernel
theorem dX8_dark_9 : decode cX8_dark 9 = .ok (.iload_n 2, 1) := by decide +kernel
theorem dX8_dark_10 : decode cX8_dark 10 = .ok (.invokevirtual 114, 3) := by decide +kernel
theorem dX8_dark_13 : decode cX8_dark 13 = .ok (.ifCond .eq 26, 3) := by decide +kernel
theorem dX8_dark_16 : decode cX8_dark 16 = .ok (.aload_n 0, 1) := by decide +kernel
theorem dX8_dark_17 : decode cX8_dark 17 = .ok (.iload_n 3, 1) := by decide +kernel
theorem dX8_dark_18 : decode cX8_dark 18 = .ok (.invokevirtual 114, 3) := by decide +kernel
theorem dX8_dark_21 : decode cX8_dark 21 = .ok (.ifCond .eq 18, 3) := by decide +kernel
theorem dX8_dark_24 : decode cX8_dark 24 = .ok (.iload_n 2, 1) := by decide +kernel
theorem dX8_dark_25 : decode cX8_dark 25 = .ok (.iload_n 3, 1) := by decide +kernel
theorem dX8_dark_26 : decode cX8_dark 26 = .ok (.if_icmp .eq 13, 3) := by decide +kernel
theorem dX8_dark_29 : decode cX8_dark 29 = .ok (.aload_n 0, 1) := by decide +kernel
theorem dX8_dark_30 : decode cX8_dark 30 = .ok (.iload_n 1, 1) := by decide +kernel
theorem dX8_dark_31 : decode cX8_dark 31 = .ok (.iload_n 2, 1) := by decide +kernel
theorem dX8_dark_32 : decode cX8_dark 32 = .ok (.iload_n 3, 1) := by decide +kernel
theorem dX8_dark_33 : decode cX8_dark 33 = .ok (.invokevirtual 186, 3) := by decide +kernel
theorem dX8_dark_36 : decode cX8_dark 36 = .ok (.goto 5, 3) := by decide +kernel
theorem dX8_dark_39 : decode cX8_dark 39 = .ok (.bipush (-2), 2) := by decide +kernel
theorem dX8_dark_41 : decode cX8_dark 41 = .ok (.ireturn, 1) := by decide +kernel
set_option maxRecDepth 20000 in
theorem ggX8_seen_X8_in : GoodIn wsX8_seen wsX8_in := goodIn_r _ [8] (by decide +kernel) (by decide +kernel)
set_option maxRecDepth 20000 in
theorem gX8_seen_X8_in : GoodIn wsX8_seen (va_wsS RX8 85 yX8_in wsX8_in) := goodIn_app (goodIn_of _ (by decide +kernel)) ggX8_seen_X8_in
set_option maxRecDepth 20000 in
theorem ggX8_seen_X8_isSix : GoodIn wsX8_seen wsX8_isSix := goodIn_r _ [11, 5, 6, 7, 8] (by decide +kernel) (by decide +kernel)
set_option maxRecDepth 20000 in
theorem gX8_seen_X8_isSix : GoodIn wsX8_seen (va_wsS RX8 121 yX8_isSix wsX8_isSix) := goodIn_app (goodIn_of _ (by decide +kernel)) ggX8_seen_X8_isSix
theorem dX8_seen_0 : decode cX8_seen 0 = .ok (.iload_n 1, 1) := by decide +kernel
theorem dX8_seen_1 : decode cX8_seen 1 = .ok (.iconst 0, 1) := by decide +kernel
theorem dX8_seen_2 : decode cX8_seen 2 = .ok (.bipush 7, 2) := by decide +kernel
theorem dX8_seen_4 : decode cX8_seen 4 = .ok (.invokestatic 85, 3) := by decide +kernel
theorem dX8_seen_7 : decode cX8_seen 7 = .ok (.ifCond .eq 20, 3) := by decide +kernel
theorem dX8_seen_10 : decode cX8_seen 10 = .ok (.iload_n 2, 1) := by decide +kernel
theorem dX8_seen_11 : decode cX8_seen 11 = .ok (.invokestatic 121, 3) := by decide +kernel
theorem dX8_seen_14 : decode cX8_seen 14 = .ok (.ifCond .eq 13, 3) := by decide +kernel
theorem dX8_seen_17 : decode cX8_seen 17 = .ok (.iload_n 3, 1) := by decide +kernel
theorem dX8_seen_18 : decode cX8_seen 18 = .ok (.iconst 0, 1) := by decide +kernel
theorem dX8_seen_19 : decode cX8_seen 19 = .ok (.bipush 99, 2) := by decide +kernel
theorem dX8_seen_21 : decode cX8_seen 21 = .ok (.invokestatic 85, 3) := by decide +kernel
theorem dX8_seen_24 : decode cX8_seen 24 = .ok (.ifCond .ne 6, 3) := by decide +kernel
theorem dX8_seen_27 : decode cX8_seen 27 = .ok (.bipush (-2), 2) := by decide +kernel
theorem dX8_seen_29 : decode cX8_seen 29 = .ok (.ireturn, 1) := by decide +kernel
theorem dX8_seen_30 : decode cX8_seen 30 = .ok (.aload_n 0, 1) := by decide +kernel
theorem dX8_seen_31 : decode cX8_seen 31 = .ok (.getfield 189, 3) := by decide +kernel
theorem dX8_seen_34 : decode cX8_seen 34 = .ok (.bipush 8, 2) := by decide +kernel
theorem dX8_seen_36 : decode cX8_seen 36 = .ok (.if_icmp .ne 6, 3) := by decide +kernel
theorem dX8_seen_39 : decode cX8_seen 39 = .ok (.bipush (-4), 2) := by decide +kernel
theorem dX8_seen_41 : decode cX8_seen 41 = .ok (.ireturn, 1) := by decide +kernel
theorem dX8_seen_42 : decode cX8_seen 42 = .ok (.aload_n 0, 1) := by decide +kernel
theorem dX8_seen_43 : decode cX8_seen 43 = .ok (.getfield 58, 3) := by decide +kernel
theorem dX8_seen_46 : decode cX8_seen 46 = .ok (.aload_n 0, 1) := by decide +kernel
theorem dX8_seen_47 : decode cX8_seen 47 = .ok (.getfield 189, 3) := by decide +kernel
theorem dX8_seen_50 : decode cX8_seen 50 = .ok (.iload_n 1, 1) := by decide +kernel
theorem dX8_seen_51 : decode cX8_seen 51 = .ok (.iastore, 1) := by decide +kernel
theorem dX8_seen_52 : decode cX8_seen 52 = .ok (.aload_n 0, 1) := by decide +kernel
theorem dX8_seen_53 : decode cX8_seen 53 = .ok (.getfield 61, 3) := by decide +kernel
theorem dX8_seen_56 : decode cX8_seen 56 = .ok (.aload_n 0, 1) := by decide +kernel
theorem dX8_seen_57 : decode cX8_seen 57 = .ok (.getfield 189, 3) := by decide +kernel
theorem dX8_seen_60 : decode cX8_seen 60 = .ok (.iload_n 2, 1) := by decide +kernel
theorem dX8_seen_61 : decode cX8_seen 61 = .ok (.iastore, 1) := by decide +kernel
theorem dX8_seen_62 : decode cX8_seen 62 = .ok (.aload_n 0, 1) := by decide +kernel
theorem dX8_seen_63 : decode cX8_seen 63 = .ok (.getfield 64, 3) := by decide +kernel
theorem dX8_seen_66 : decode cX8_seen 66 = .ok (.aload_n 0, 1) := by decide +kernel
theorem dX8_seen_67 : decode cX8_seen 67 = .ok (.getfield 189, 3) := by decide +kernel
theorem dX8_seen_70 : decode cX8_seen 70 = .ok (.iload_n 3, 1) := by decide +kernel
theorem dX8_seen_71 : decode cX8_seen 71 = .ok (.iastore, 1) := by decide +kernel
theorem dX8_seen_72 : decode cX8_seen 72 = .ok (.aload_n 0, 1) := by decide +kernel
theorem dX8_seen_73 : decode cX8_seen 73 = .ok (.dup, 1) := by decide +kernel
theorem dX8_seen_74 : decode cX8_seen 74 = .ok (.getfield 189, 3) := by decide +kernel
theorem dX8_seen_77 : decode cX8_seen 77 = .ok (.iconst 1, 1) := by decide +kernel
theorem dX8_seen_78 : decode cX8_seen 78 = .ok (.iadd, 1) := by decide +kernel
theorem dX8_seen_79 : decode cX8_seen 79 = .ok (.putfield 189, 3) := by decide +kernel
theorem dX8_seen_82 : decode cX8_seen 82 = .ok (.aload_n 0, 1) := by decide +kernel
theorem dX8_seen_83 : decode cX8_seen 83 = .ok (.getfield 189, 3) := by decide +kernel
theorem dX8_seen_86 : decode cX8_seen 86 = .ok (.ireturn, 1) := by decide +kernel
theorem dX8_forget_0 : decode cX8_forget 0 = .ok (.aload_n 0, 1) := by decide +kernel
theorem dX8_forget_1 : decode cX8_forget 1 = .ok (.getfield 189, 3) := by decide +kernel
theorem dX8_forget_4 : decode cX8_forget 4 = .ok (.istore_n 1, 1) := by decide +kernel
theorem dX8_forget_5 : decode cX8_forget 5 = .ok (.aload_n 0, 1) := by decide +kernel
theorem dX8_forget_6 : decode cX8_forget 6 = .ok (.iconst 0, 1) := by decide +kernel
theorem dX8_forget_7 : decode cX8_forget 7 = .ok (.putfield 189, 3) := by decide +kernel
theorem dX8_forget_10 : decode cX8_forget 10 = .ok (.iload_n 1, 1) := by decide +kernel
theorem dX8_forget_11 : decode cX8_forget 11 = .ok (.ireturn, 1) := by decide +kernel
set_option maxRecDepth 20000 in
theorem ggX8_comesOut_X8_runs : GoodIn wsX8_comesOut wsX8_runs := goodIn_r _ [11, 12, 4, 13, 14, 15, 5, 16, 17, 18, 19, 20, 21, 22, 10, 23, 24, 25, 26, 27, 28, 29, 30, 31, 32, 33, 34, 35, 36, 37, 38, 39, 40, 41, 42, 43, 44, 45, 46, 47, 48, 49, 50, 51, 52, 53, 54, 55, 56, 57, 58, 59, 60, 61, 62, 63, 64, 65, 66, 67, 68] (by decide +kernel) (by decide +kernel)
set_option maxRecDepth 20000 in
theorem gX8_comesOut_X8_runs : GoodIn wsX8_comesOut (wsV RX8 146 RX8 yX8_runs wsX8_runs) := goodIn_app (goodIn_of _ (by decide +kernel)) ggX8_comesOut_X8_runs
theorem dX8_comesOut_0 : decode cX8_comesOut 0 = .ok (.aload_n 0, 1) := by decide +kernel
theorem dX8_comesOut_1 : decode cX8_comesOut 1 = .ok (.getfield 58, 3) := by decide +kernel
theorem dX8_comesOut_4 : decode cX8_comesOut 4 = .ok (.iload_n 1, 1) := by decide +kernel
theorem dX8_comesOut_5 : decode cX8_comesOut 5 = .ok (.iaload, 1) := by decide +kernel
theorem dX8_comesOut_6 : decode cX8_comesOut 6 = .ok (.aload_n 0, 1) := by decide +kernel
theorem dX8_comesOut_7 : decode cX8_comesOut 7 = .ok (.getfield 97, 3) := by decide +kernel
theorem dX8_comesOut_10 : decode cX8_comesOut 10 = .ok (.if_icmp .ge 16, 3) := by decide +kernel
theorem dX8_comesOut_13 : decode cX8_comesOut 13 = .ok (.aload_n 0, 1) := by decide +kernel
theorem dX8_comesOut_14 : decode cX8_comesOut 14 = .ok (.getfield 61, 3) := by decide +kernel
theorem dX8_comesOut_17 : decode cX8_comesOut 17 = .ok (.iload_n 1, 1) := by decide +kernel
theorem dX8_comesOut_18 : decode cX8_comesOut 18 = .ok (.iaload, 1) := by decide +kernel
theorem dX8_comesOut_19 : decode cX8_comesOut 19 = .ok (.aload_n 0, 1) := by decide +kernel
theorem dX8_comesOut_20 : decode cX8_comesOut 20 = .ok (.getfield 89, 3) := by decide +kernel
theorem dX8_comesOut_23 : decode cX8_comesOut 23 = .ok (.if_icmp .lt 5, 3) := by decide +kernel
theorem dX8_comesOut_26 : decode cX8_comesOut 26 = .ok (.iconst 0, 1) := by decide +kernel
theorem dX8_comesOut_27 : decode cX8_comesOut 27 = .ok (.ireturn, 1) := by decide +kernel
theorem dX8_comesOut_28 : decode cX8_comesOut 28 = .ok (.aload_n 0, 1) := by decide +kernel
theorem dX8_comesOut_29 : decode cX8_comesOut 29 = .ok (.aload_n 0, 1) := by decide +kernel
theorem dX8_comesOut_30 : decode cX8_comesOut 30 = .ok (.getfield 58, 3) := by decide +kernel
theorem dX8_comesOut_33 : decode cX8_comesOut 33 = .ok (.iload_n 1, 1) := by decide +kernel
theorem dX8_comesOut_34 : decode cX8_comesOut 34 = .ok (.iaload, 1) := by decide +kernel
theorem dX8_comesOut_35 : decode cX8_comesOut 35 = .ok (.iconst 1, 1) := by decide +kernel
theorem dX8_comesOut_36 : decode cX8_comesOut 36 = .ok (.iadd, 1) := by decide +kernel
theorem dX8_comesOut_37 : decode cX8_comesOut 37 = .ok (.invokevirtual 146, 3) := by decide +kernel
theorem dX8_comesOut_40 : decode cX8_comesOut 40 = .ok (.aload_n 0, 1) := by decide +kernel
theorem dX8_comesOut_41 : decode cX8_comesOut 41 = .ok (.getfield 40, 3) := by decide +kernel
theorem dX8_comesOut_44 : decode cX8_comesOut 44 = .ok (.aload_n 0, 1) := by decide +kernel
theorem dX8_comesOut_45 : decode cX8_comesOut 45 = .ok (.getfield 61, 3) := by decide +kernel
theorem dX8_comesOut_48 : decode cX8_comesOut 48 = .ok (.iload_n 1, 1) := by decide +kernel
theorem dX8_comesOut_49 : decode cX8_comesOut 49 = .ok (.iaload, 1) := by decide +kernel
theorem dX8_comesOut_50 : decode cX8_comesOut 50 = .ok (.iaload, 1) := by decide +kernel
theorem dX8_comesOut_51 : decode cX8_comesOut 51 = .ok (.aload_n 0, 1) := by decide +kernel
theorem dX8_comesOut_52 : decode cX8_comesOut 52 = .ok (.getfield 64, 3) := by decide +kernel
theorem dX8_comesOut_55 : decode cX8_comesOut 55 = .ok (.iload_n 1, 1) := by decide +kernel
theorem dX8_comesOut_56 : decode cX8_comesOut 56 = .ok (.iaload, 1) := by decide +kernel
theorem dX8_comesOut_57 : decode cX8_comesOut 57 = .ok (.if_icmp .ne 7, 3) := by decide +kernel
theorem dX8_comesOut_60 : decode cX8_comesOut 60 = .ok (.iconst 1, 1) := by decide +kernel
theorem dX8_comesOut_61 : decode cX8_comesOut 61 = .ok (.goto 4, 3) := by decide +kernel
theorem dX8_comesOut_64 : decode cX8_comesOut 64 = .ok (.iconst 0, 1) := by decide +kernel
theorem dX8_comesOut_65 : decode cX8_comesOut 65 = .ok (.ireturn, 1) := by decide +kernel
set_option maxRecDepth 20000 in
theorem ggX8_unlikeNow_X8_reads : GoodIn wsX8_unlikeNow wsX8_reads := goodIn_r _ [6, 7, 8, 9, 5, 10, 11, 12, 13, 14, 15, 16, 17, 18, 19, 20, 21, 22, 23, 24, 25, 26, 27, 28, 29, 30, 31, 32, 70, 71, 72, 73, 74, 75, 76, 77, 78, 79, 80, 81, 82, 83, 84, 85, 86, 87, 88, 89, 90, 91, 92, 93, 94, 95, 96, 97, 98] (by decide +kernel) (by decide +kernel)
set_option maxRecDepth 20000 in
theorem gX8_unlikeNow_X8_reads : GoodIn wsX8_unlikeNow (wsV RX8 111 RX8 yX8_reads wsX8_reads) := goodIn_app (goodIn_of _ (by decide +kernel)) ggX8_unlikeNow_X8_reads
set_option maxRecDepth 20000 in
theorem ggX8_unlikeNow_X8_comesOut : GoodIn wsX8_unlikeNow wsX8_comesOut := goodIn_r _ [36, 37, 31, 38, 15, 39, 40, 41, 42, 43, 5, 44, 45, 46, 47, 48, 49, 50, 51, 18, 52, 53, 54, 55, 17, 56, 57, 58, 59, 60, 32, 61, 62, 63, 64, 65, 66, 67, 68, 69, 70, 71, 72, 73, 74, 75, 76, 77, 78, 79, 80, 81, 82, 83, 84, 85, 86, 87, 88, 89, 90, 91, 92, 93, 94, 95, 96, 97, 98] (by decide +kernel) (by decide +kernel)
set_option maxRecDepth 20000 in
theorem gX8_unlikeNow_X8_comesOut : GoodIn wsX8_unlikeNow (wsV RX8 192 RX8 yX8_comesOut wsX8_comesOut) := goodIn_app (goodIn_of _ (by decide +kernel)) ggX8_unlikeNow_X8_comesOut
theorem dX8_unlikeNow_0 : decode cX8_unlikeNow 0 = .ok (.aload_n 0, 1) := by decide +kernel
theorem dX8_unlikeNow_1 : decode cX8_unlikeNow 1 = .ok (.invokevirtual 111, 3) := by decide +kernel
theorem dX8_unlikeNow_4 : decode cX8_unlikeNow 4 = .ok (.iconst 0, 1) := by decide +kernel
theorem dX8_unlikeNow_5 : decode cX8_unlikeNow 5 = .ok (.istore_n 1, 1) := by decide +kernel
theorem dX8_unlikeNow_6 : decode cX8_unlikeNow 6 = .ok (.iconst 0, 1) := by decide +kernel
theorem dX8_unlikeNow_7 : decode cX8_unlikeNow 7 = .ok (.istore_n 2, 1) := by decide +kernel
theorem dX8_unlikeNow_8 : decode cX8_unlikeNow 8 = .ok (.iload_n 2, 1) := by decide +kernel
theorem dX8_unlikeNow_9 : decode cX8_unlikeNow 9 = .ok (.aload_n 0, 1) := by decide +kernel
theorem dX8_unlikeNow_10 : decode cX8_unlikeNow 10 = .ok (.getfield 189, 3) := by decide +kernel
theorem dX8_unlikeNow_13 : decode cX8_unlikeNow 13 = .ok (.if_icmp .ge 25, 3) := by decide +kernel
theorem dX8_unlikeNow_16 : decode cX8_unlikeNow 16 = .ok (.iload_n 1, 1) := by decide +kernel
theorem dX8_unlikeNow_17 : decode cX8_unlikeNow 17 = .ok (.aload_n 0, 1) := by decide +kernel
theorem dX8_unlikeNow_18 : decode cX8_unlikeNow 18 = .ok (.iload_n 2, 1) := by decide +kernel
theorem dX8_unlikeNow_19 : decode cX8_unlikeNow 19 = .ok (.invokevirtual 192, 3) := by decide +kernel
theorem dX8_unlikeNow_22 : decode cX8_unlikeNow 22 = .ok (.ifCond .eq 7, 3) := by decide +kernel
theorem dX8_unlikeNow_25 : decode cX8_unlikeNow 25 = .ok (.iconst 0, 1) := by decide +kernel
theorem dX8_unlikeNow_26 : decode cX8_unlikeNow 26 = .ok (.goto 4, 3) := by decide +kernel
theorem dX8_unlikeNow_29 : decode cX8_unlikeNow 29 = .ok (.iconst 1, 1) := by decide +kernel
theorem dX8_unlikeNow_30 : decode cX8_unlikeNow 30 = .ok (.iadd, 1) := by decide +kernel
theorem dX8_unlikeNow_31 : decode cX8_unlikeNow 31 = .ok (.istore_n 1, 1) := by decide +kernel
theorem dX8_unlikeNow_32 : decode cX8_unlikeNow 32 = .ok (.iinc 2 1, 3) := by decide +kernel
theorem dX8_unlikeNow_35 : decode cX8_unlikeNow 35 = .ok (.goto (-27), 3) := by decide +kernel
theorem dX8_unlikeNow_38 : decode cX8_unlikeNow 38 = .ok (.iload_n 1, 1) := by decide +kernel
theorem dX8_unlikeNow_39 : decode cX8_unlikeNow 39 = .ok (.ireturn, 1) := by decide +kernel
set_option maxRecDepth 20000 in
theorem ggX8_unlike_X8_unlikeNow : GoodIn wsX8_unlike wsX8_unlikeNow := goodIn_r _ [5, 6, 7, 8, 9, 4, 10, 11, 12, 13, 14, 15, 16, 17, 18, 19, 20, 21, 22, 23, 24, 25, 26, 27, 28, 29, 30, 31, 32, 33, 34, 35, 36, 37, 38, 39, 40, 41, 42, 43, 44, 45, 46, 47, 48, 49, 50, 51, 52, 53, 54, 55, 56, 57, 58, 59, 60, 61, 62, 63, 64, 65, 66, 67, 68, 69, 70, 71, 72, 73, 74, 75, 76, 77, 78, 79, 80, 81, 82, 83, 84, 85, 86, 87, 88, 89, 90, 91, 92, 93, 94, 95, 96, 97, 98, 99, 100, 101, 102] (by decide +kernel) (by decide +kernel)
set_option maxRecDepth 20000 in
theorem gX8_unlike_X8_unlikeNow : GoodIn wsX8_unlike (wsV RX8 195 RX8 yX8_unlikeNow wsX8_unlikeNow) := goodIn_app (goodIn_of _ (by decide +kernel)) ggX8_unlike_X8_unlikeNow
theorem dX8_unlike_0 : decode cX8_unlike 0 = .ok (.aload_n 0, 1) := by decide +kernel
theorem dX8_unlike_1 : decode cX8_unlike 1 = .ok (.invokevirtual 195, 3) := by decide +kernel
theorem dX8_unlike_4 : decode cX8_unlike 4 = .ok (.ireturn, 1) := by decide +kernel
set_option maxRecDepth 20000 in
theorem ggX8_hidOf_X8_unlikeNow : GoodIn wsX8_hidOf wsX8_unlikeNow := goodIn_r _ [7, 8, 9, 10, 11, 6, 12, 13, 14, 15, 16, 17, 18, 19, 20, 21, 22, 2, 23, 24, 25, 26, 27, 28, 29, 30, 31, 32, 33, 34, 35, 36, 37, 38, 39, 40, 41, 42, 43, 44, 45, 46, 47, 48, 49, 50, 51, 52, 53, 54, 55, 56, 57, 58, 59, 60, 1, 61, 62, 63, 64, 65, 66, 67, 68, 69, 70, 71, 72, 73, 74, 75, 76, 77, 78, 79, 80, 81, 82, 83, 84, 85, 86, 87, 88, 89, 90, 91, 92, 93, 94, 95, 96, 97, 98, 99, 100, 101, 102] (by decide +kernel) (by decide +kernel)
set_option maxRecDepth 20000 in
theorem gX8_hidOf_X8_unlikeNow : GoodIn wsX8_hidOf (wsV RX8 195 RX8 yX8_unlikeNow wsX8_unlikeNow) := goodIn_app (goodIn_of _ (by decide +kernel)) ggX8_hidOf_X8_unlikeNow
theorem dX8_hidOf_0 : decode cX8_hidOf 0 = .ok (.aload_n 0, 1) := by decide +kernel
theorem dX8_hidOf_1 : decode cX8_hidOf 1 = .ok (.getfield 25, 3) := by decide +kernel
theorem dX8_hidOf_4 : decode cX8_hidOf 4 = .ok (.iload_n 1, 1) := by decide +kernel
theorem dX8_hidOf_5 : decode cX8_hidOf 5 = .ok (.iaload, 1) := by decide +kernel
theorem dX8_hidOf_6 : decode cX8_hidOf 6 = .ok (.istore_n 2, 1) := by decide +kernel
theorem dX8_hidOf_7 : decode cX8_hidOf 7 = .ok (.iconst (-1), 1) := by decide +kernel
theorem dX8_hidOf_8 : decode cX8_hidOf 8 = .ok (.istore_n 3, 1) := by decide +kernel
theorem dX8_hidOf_9 : decode cX8_hidOf 9 = .ok (.iconst 0, 1) := by decide +kernel
theorem dX8_hidOf_10 : decode cX8_hidOf 10 = .ok (.istore 4, 2) := by decide +kernel
theorem dX8_hidOf_12 : decode cX8_hidOf 12 = .ok (.iload 4, 2) := by decide +kernel
theorem dX8_hidOf_14 : decode cX8_hidOf 14 = .ok (.aload_n 0, 1) := by decide +kernel
theorem dX8_hidOf_15 : decode cX8_hidOf 15 = .ok (.getfield 16, 3) := by decide +kernel
theorem dX8_hidOf_18 : decode cX8_hidOf 18 = .ok (.iload_n 1, 1) := by decide +kernel
theorem dX8_hidOf_19 : decode cX8_hidOf 19 = .ok (.iaload, 1) := by decide +kernel
theorem dX8_hidOf_20 : decode cX8_hidOf 20 = .ok (.if_icmp .gt 36, 3) := by decide +kernel
theorem dX8_hidOf_23 : decode cX8_hidOf 23 = .ok (.iload_n 3, 1) := by decide +kernel
theorem dX8_hidOf_24 : decode cX8_hidOf 24 = .ok (.iconst (-1), 1) := by decide +kernel
theorem dX8_hidOf_25 : decode cX8_hidOf 25 = .ok (.if_icmp .ne 31, 3) := by decide +kernel
theorem dX8_hidOf_28 : decode cX8_hidOf 28 = .ok (.aload_n 0, 1) := by decide +kernel
theorem dX8_hidOf_29 : decode cX8_hidOf 29 = .ok (.getfield 25, 3) := by decide +kernel
theorem dX8_hidOf_32 : decode cX8_hidOf 32 = .ok (.iload_n 1, 1) := by decide +kernel
theorem dX8_hidOf_33 : decode cX8_hidOf 33 = .ok (.iload 4, 2) := by decide +kernel
theorem dX8_hidOf_35 : decode cX8_hidOf 35 = .ok (.iastore, 1) := by decide +kernel
theorem dX8_hidOf_36 : decode cX8_hidOf 36 = .ok (.aload_n 0, 1) := by decide +kernel
theorem dX8_hidOf_37 : decode cX8_hidOf 37 = .ok (.invokevirtual 195, 3) := by decide +kernel
theorem dX8_hidOf_40 : decode cX8_hidOf 40 = .ok (.ifCond .ne 8, 3) := by decide +kernel
theorem dX8_hidOf_43 : decode cX8_hidOf 43 = .ok (.iload 4, 2) := by decide +kernel
theorem dX8_hidOf_45 : decode cX8_hidOf 45 = .ok (.goto 4, 3) := by decide +kernel
theorem dX8_hidOf_48 : decode cX8_hidOf 48 = .ok (.iconst (-1), 1) := by decide +kernel
theorem dX8_hidOf_49 : decode cX8_hidOf 49 = .ok (.istore_n 3, 1) := by decide +kernel
theorem dX8_hidOf_50 : decode cX8_hidOf 50 = .ok (.iinc 4 1, 3) := by decide +kernel
theorem dX8_hidOf_53 : decode cX8_hidOf 53 = .ok (.goto (-41), 3) := by decide +kernel
theorem dX8_hidOf_56 : decode cX8_hidOf 56 = .ok (.aload_n 0, 1) := by decide +kernel
theorem dX8_hidOf_57 : decode cX8_hidOf 57 = .ok (.getfield 25, 3) := by decide +kernel
theorem dX8_hidOf_60 : decode cX8_hidOf 60 = .ok (.iload_n 1, 1) := by decide +kernel
theorem dX8_hidOf_61 : decode cX8_hidOf 61 = .ok (.iload_n 2, 1) := by decide +kernel
theorem dX8_hidOf_62 : decode cX8_hidOf 62 = .ok (.iastore, 1) := by decide +kernel
theorem dX8_hidOf_63 : decode cX8_hidOf 63 = .ok (.iload_n 3, 1) := by decide +kernel
theorem dX8_hidOf_64 : decode cX8_hidOf 64 = .ok (.ireturn, 1) := by decide +kernel
set_option maxRecDepth 20000 in
theorem ggX8_hid_X8_isPerson : GoodIn wsX8_hid wsX8_isPerson := goodIn_r _ [5, 6, 7, 8, 9, 4, 10, 11, 12, 13, 14, 15, 16, 17, 18, 19, 20, 21, 22, 23, 24, 25, 26, 27, 28, 29, 30, 31, 32, 33, 34, 35, 82, 83, 84, 85, 86, 87, 88, 89, 90, 91, 92, 93, 94, 95, 96, 97, 98, 99, 100, 101, 102, 103, 104, 105, 106, 107, 108, 109, 110] (by decide +kernel) (by decide +kernel)
set_option maxRecDepth 20000 in
theorem gX8_hid_X8_isPerson : GoodIn wsX8_hid (wsV RX8 114 RX8 yX8_isPerson wsX8_isPerson) := goodIn_app (goodIn_of _ (by decide +kernel)) ggX8_hid_X8_isPerson
set_option maxRecDepth 20000 in
theorem ggX8_hid_X8_hidOf : GoodIn wsX8_hid wsX8_hidOf := goodIn_r _ [39, 40, 20, 41, 42, 43, 4, 44, 45, 7, 8, 9, 10, 11, 12, 13, 14, 15, 16, 17, 18, 6, 19, 21, 22, 23, 24, 25, 26, 27, 28, 29, 30, 31, 32, 33, 34, 35, 46, 47, 48, 49, 50, 51, 52, 53, 54, 55, 56, 57, 58, 59, 60, 61, 62, 63, 64, 65, 66, 67, 68, 69, 70, 71, 72, 73, 74, 75, 76, 77, 78, 79, 80, 81, 82, 83, 84, 85, 86, 87, 88, 89, 90, 91, 92, 93, 94, 95, 96, 97, 98, 99, 100, 101, 102, 103, 104, 105, 106, 107, 108, 109, 110] (by decide +kernel) (by decide +kernel)
set_option maxRecDepth 20000 in
theorem gX8_hid_X8_hidOf : GoodIn wsX8_hid (wsV RX8 198 RX8 yX8_hidOf wsX8_hidOf) := goodIn_app (goodIn_of _ (by decide +kernel)) ggX8_hid_X8_hidOf
theorem dX8_hid_0 : decode cX8_hid 0 = .ok (.aload_n 0, 1) := by decide +kernel
theorem dX8_hid_1 : decode cX8_hid 1 = .ok (.iload_n 1, 1) := by decide +kernel
theorem dX8_hid_2 : decode cX8_hid 2 = .ok (.invokevirtual 114, 3) := by decide +kernel
theorem dX8_hid_5 : decode cX8_hid 5 = .ok (.ifCond .eq 11, 3) := by decide +kernel
theorem dX8_hid_8 : decode cX8_hid 8 = .ok (.aload_n 0, 1) := by decide +kernel
theorem dX8_hid_9 : decode cX8_hid 9 = .ok (.iload_n 1, 1) := by decide +kernel
theorem dX8_hid_10 : decode cX8_hid 10 = .ok (.invokevirtual 198, 3) := by decide +kernel
theorem dX8_hid_13 : decode cX8_hid 13 = .ok (.goto 5, 3) := by decide +kernel
theorem dX8_hid_16 : decode cX8_hid 16 = .ok (.bipush (-2), 2) := by decide +kernel
theorem dX8_hid_18 : decode cX8_hid 18 = .ok (.ireturn, 1) := by decide +kernel
set_option maxRecDepth 20000 in
theorem ggX8_luckOf_X8_lowest : GoodIn wsX8_luckOf wsX8_lowest := goodIn_r _ [4] (by decide +kernel) (by decide +kernel)
set_option maxRecDepth 20000 in
theorem gX8_luckOf_X8_lowest : GoodIn wsX8_luckOf (va_wsS RX8 201 yX8_lowest wsX8_lowest) := goodIn_app (goodIn_of _ (by decide +kernel)) ggX8_luckOf_X8_lowest
theorem dX8_luckOf_0 : decode cX8_luckOf 0 = .ok (.iload_n 1, 1) := by decide +kernel
theorem dX8_luckOf_1 : decode cX8_luckOf 1 = .ok (.iload_n 2, 1) := by decide +kernel
theorem dX8_luckOf_2 : decode cX8_luckOf 2 = .ok (.iconst 1, 1) := by decide +kernel
theorem dX8_luckOf_3 : decode cX8_luckOf 3 = .ok (.iadd, 1) := by decide +kernel
theorem dX8_luckOf_4 : decode cX8_luckOf 4 = .ok (.if_icmp .ge 7, 3) := by decide +kernel
theorem dX8_luckOf_7 : decode cX8_luckOf 7 = .ok (.iload_n 1, 1) := by decide +kernel
theorem dX8_luckOf_8 : decode cX8_luckOf 8 = .ok (.goto 6, 3) := by decide +kernel
theorem dX8_luckOf_11 : decode cX8_luckOf 11 = .ok (.iload_n 2, 1) := by decide +kernel
theorem dX8_luckOf_12 : decode cX8_luckOf 12 = .ok (.iconst 1, 1) := by decide +kernel
theorem dX8_luckOf_13 : decode cX8_luckOf 13 = .ok (.iadd, 1) := by decide +kernel
theorem dX8_luckOf_14 : decode cX8_luckOf 14 = .ok (.istore 4, 2) := by decide +kernel
theorem dX8_luckOf_16 : decode cX8_luckOf 16 = .ok (.lconst 1, 1) := by decide +kernel
theorem dX8_luckOf_17 : decode cX8_luckOf 17 = .ok (.lstore 5, 2) := by decide +kernel
theorem dX8_luckOf_19 : decode cX8_luckOf 19 = .ok (.lconst 1, 1) := by decide +kernel
theorem dX8_luckOf_20 : decode cX8_luckOf 20 = .ok (.lstore 7, 2) := by decide +kernel
theorem dX8_luckOf_22 : decode cX8_luckOf 22 = .ok (.iconst 0, 1) := by decide +kernel
theorem dX8_luckOf_23 : decode cX8_luckOf 23 = .ok (.istore 9, 2) := by decide +kernel
theorem dX8_luckOf_25 : decode cX8_luckOf 25 = .ok (.iload 9, 2) := by decide +kernel
theorem dX8_luckOf_27 : decode cX8_luckOf 27 = .ok (.iload_n 0, 1) := by decide +kernel
theorem dX8_luckOf_28 : decode cX8_luckOf 28 = .ok (.if_icmp .ge 26, 3) := by decide +kernel
theorem dX8_luckOf_31 : decode cX8_luckOf 31 = .ok (.lload 5, 2) := by decide +kernel
theorem dX8_luckOf_33 : decode cX8_luckOf 33 = .ok (.iload 4, 2) := by decide +kernel
theorem dX8_luckOf_35 : decode cX8_luckOf 35 = .ok (.i2l, 1) := by decide +kernel
theorem dX8_luckOf_36 : decode cX8_luckOf 36 = .ok (.lmul, 1) := by decide +kernel
theorem dX8_luckOf_37 : decode cX8_luckOf 37 = .ok (.lstore 5, 2) := by decide +kernel
theorem dX8_luckOf_39 : decode cX8_luckOf 39 = .ok (.lload 7, 2) := by decide +kernel
theorem dX8_luckOf_41 : decode cX8_luckOf 41 = .ok (.iload_n 2, 1) := by decide +kernel
theorem dX8_luckOf_42 : decode cX8_luckOf 42 = .ok (.iconst 1, 1) := by decide +kernel
theorem dX8_luckOf_43 : decode cX8_luckOf 43 = .ok (.iadd, 1) := by decide +kernel
theorem dX8_luckOf_44 : decode cX8_luckOf 44 = .ok (.i2l, 1) := by decide +kernel
theorem dX8_luckOf_45 : decode cX8_luckOf 45 = .ok (.lmul, 1) := by decide +kernel
theorem dX8_luckOf_46 : decode cX8_luckOf 46 = .ok (.lstore 7, 2) := by decide +kernel
theorem dX8_luckOf_48 : decode cX8_luckOf 48 = .ok (.iinc 9 1, 3) := by decide +kernel
theorem dX8_luckOf_51 : decode cX8_luckOf 51 = .ok (.goto (-26), 3) := by decide +kernel
theorem dX8_luckOf_54 : decode cX8_luckOf 54 = .ok (.lload 5, 2) := by decide +kernel
theorem dX8_luckOf_56 : decode cX8_luckOf 56 = .ok (.lload 7, 2) := by decide +kernel
theorem dX8_luckOf_58 : decode cX8_luckOf 58 = .ok (.iload_n 3, 1) := by decide +kernel
theorem dX8_luckOf_59 : decode cX8_luckOf 59 = .ok (.invokestatic 201, 3) := by decide +kernel
theorem dX8_luckOf_62 : decode cX8_luckOf 62 = .ok (.lreturn, 1) := by decide +kernel
set_option maxRecDepth 20000 in
theorem ggX8_luck_X8_in : GoodIn wsX8_luck wsX8_in := goodIn_r _ [4] (by decide +kernel) (by decide +kernel)
set_option maxRecDepth 20000 in
theorem gX8_luck_X8_in : GoodIn wsX8_luck (va_wsS RX8 85 yX8_in wsX8_in) := goodIn_app (goodIn_of _ (by decide +kernel)) ggX8_luck_X8_in
set_option maxRecDepth 20000 in
theorem ggX8_luck_X8_luckOf : GoodIn wsX8_luck wsX8_luckOf := goodIn_r _ [7, 8, 9, 3, 10] (by decide +kernel) (by decide +kernel)
set_option maxRecDepth 20000 in
theorem gX8_luck_X8_luckOf : GoodIn wsX8_luck (va_wsS RX8 205 yX8_luckOf wsX8_luckOf) := goodIn_app (goodIn_of _ (by decide +kernel)) ggX8_luck_X8_luckOf
set_option maxRecDepth 20000 in
theorem ggX8_luck_X8_no : GoodIn wsX8_luck wsX8_no := goodIn_r _ [13, 14] (by decide +kernel) (by decide +kernel)
set_option maxRecDepth 20000 in
theorem gX8_luck_X8_no : GoodIn wsX8_luck (va_wsS RX8 209 yX8_no wsX8_no) := goodIn_app (goodIn_of _ (by decide +kernel)) ggX8_luck_X8_no
theorem dX8_luck_0 : decode cX8_luck 0 = .ok (.iload_n 1, 1) := by decide +kernel
theorem dX8_luck_1 : decode cX8_luck 1 = .ok (.iconst 0, 1) := by decide +kernel
theorem dX8_luck_2 : decode cX8_luck 2 = .ok (.iconst 5, 1) := by decide +kernel
theorem dX8_luck_3 : decode cX8_luck 3 = .ok (.invokestatic 85, 3) := by decide +kernel
theorem dX8_luck_6 : decode cX8_luck 6 = .ok (.ifCond .eq 44, 3) := by decide +kernel
theorem dX8_luck_9 : decode cX8_luck 9 = .ok (.iload_n 2, 1) := by decide +kernel
theorem dX8_luck_10 : decode cX8_luck 10 = .ok (.iconst 0, 1) := by decide +kernel
theorem dX8_luck_11 : decode cX8_luck 11 = .ok (.bipush 99, 2) := by decide +kernel
theorem dX8_luck_13 : decode cX8_luck 13 = .ok (.invokestatic 85, 3) := by decide +kernel
theorem dX8_luck_16 : decode cX8_luck 16 = .ok (.ifCond .eq 34, 3) := by decide +kernel
theorem dX8_luck_19 : decode cX8_luck 19 = .ok (.iload_n 3, 1) := by decide +kernel
theorem dX8_luck_20 : decode cX8_luck 20 = .ok (.iconst 1, 1) := by decide +kernel
theorem dX8_luck_21 : decode cX8_luck 21 = .ok (.bipush 99, 2) := by decide +kernel
theorem dX8_luck_23 : decode cX8_luck 23 = .ok (.invokestatic 85, 3) := by decide +kernel
theorem dX8_luck_26 : decode cX8_luck 26 = .ok (.ifCond .eq 24, 3) := by decide +kernel
theorem dX8_luck_29 : decode cX8_luck 29 = .ok (.iload 4, 2) := by decide +kernel
theorem dX8_luck_31 : decode cX8_luck 31 = .ok (.iconst 0, 1) := by decide +kernel
theorem dX8_luck_32 : decode cX8_luck 32 = .ok (.iconst 1, 1) := by decide +kernel
theorem dX8_luck_33 : decode cX8_luck 33 = .ok (.invokestatic 85, 3) := by decide +kernel
theorem dX8_luck_36 : decode cX8_luck 36 = .ok (.ifCond .eq 14, 3) := by decide +kernel
theorem dX8_luck_39 : decode cX8_luck 39 = .ok (.iload_n 1, 1) := by decide +kernel
theorem dX8_luck_40 : decode cX8_luck 40 = .ok (.iload_n 2, 1) := by decide +kernel
theorem dX8_luck_41 : decode cX8_luck 41 = .ok (.iload_n 3, 1) := by decide +kernel
theorem dX8_luck_42 : decode cX8_luck 42 = .ok (.iload 4, 2) := by decide +kernel
theorem dX8_luck_44 : decode cX8_luck 44 = .ok (.invokestatic 205, 3) := by decide +kernel
theorem dX8_luck_47 : decode cX8_luck 47 = .ok (.goto 8, 3) := by decide +kernel
theorem dX8_luck_50 : decode cX8_luck 50 = .ok (.bipush (-2), 2) := by decide +kernel
theorem dX8_luck_52 : decode cX8_luck 52 = .ok (.invokestatic 209, 3) := by decide +kernel
theorem dX8_luck_55 : decode cX8_luck 55 = .ok (.lreturn, 1) := by decide +kernel
theorem dX8_meets_0 : decode cX8_meets 0 = .ok (.aload_n 0, 1) := by decide +kernel
theorem dX8_meets_1 : decode cX8_meets 1 = .ok (.iload_n 1, 1) := by decide +kernel
theorem dX8_meets_2 : decode cX8_meets 2 = .ok (.putfield 213, 3) := by decide +kernel
theorem dX8_meets_5 : decode cX8_meets 5 = .ok (.bipush (-10), 2) := by decide +kernel
theorem dX8_meets_7 : decode cX8_meets 7 = .ok (.iload_n 1, 1) := by decide +kernel
theorem dX8_meets_8 : decode cX8_meets 8 = .ok (.isub, 1) := by decide +kernel
theorem dX8_meets_9 : decode cX8_meets 9 = .ok (.ireturn, 1) := by decide +kernel
set_option maxRecDepth 20000 in
theorem ggX8_isSheet_X8_in : GoodIn wsX8_isSheet wsX8_in := goodIn_r _ [4] (by decide +kernel) (by decide +kernel)
set_option maxRecDepth 20000 in
theorem gX8_isSheet_X8_in : GoodIn wsX8_isSheet (va_wsS RX8 85 yX8_in wsX8_in) := goodIn_app (goodIn_of _ (by decide +kernel)) ggX8_isSheet_X8_in
theorem dX8_isSheet_0 : decode cX8_isSheet 0 = .ok (.iload_n 0, 1) := by decide +kernel
theorem dX8_isSheet_1 : decode cX8_isSheet 1 = .ok (.iconst 0, 1) := by decide +kernel
theorem dX8_isSheet_2 : decode cX8_isSheet 2 = .ok (.iconst 3, 1) := by decide +kernel
theorem dX8_isSheet_3 : decode cX8_isSheet 3 = .ok (.invokestatic 85, 3) := by decide +kernel
theorem dX8_isSheet_6 : decode cX8_isSheet 6 = .ok (.ireturn, 1) := by decide +kernel
set_option maxRecDepth 20000 in
theorem ggX8_sheet_X8_isSheet : GoodIn wsX8_sheet wsX8_isSheet := goodIn_r _ [8, 9, 10, 7, 11] (by decide +kernel) (by decide +kernel)
set_option maxRecDepth 20000 in
theorem gX8_sheet_X8_isSheet : GoodIn wsX8_sheet (va_wsS RX8 124 yX8_isSheet wsX8_isSheet) := goodIn_app (goodIn_of _ (by decide +kernel)) ggX8_sheet_X8_isSheet
set_option maxRecDepth 20000 in
theorem ggX8_sheet_X8_in : GoodIn wsX8_sheet wsX8_in := goodIn_r _ [11] (by decide +kernel) (by decide +kernel)
set_option maxRecDepth 20000 in
theorem gX8_sheet_X8_in : GoodIn wsX8_sheet (va_wsS RX8 85 yX8_in wsX8_in) := goodIn_app (goodIn_of _ (by decide +kernel)) ggX8_sheet_X8_in
set_option maxRecDepth 20000 in
theorem ggX8_sheet_X8_meets : GoodIn wsX8_sheet wsX8_meets := goodIn_r _ [15, 16, 17, 18, 19, 20, 21, 22, 23, 24, 25, 26, 27, 28, 29, 30, 31, 32, 33, 34, 35, 36, 37, 38, 39, 40, 41, 42, 43, 44, 45] (by decide +kernel) (by decide +kernel)
set_option maxRecDepth 20000 in
theorem gX8_sheet_X8_meets : GoodIn wsX8_sheet (wsV RX8 127 RX8 yX8_meets wsX8_meets) := goodIn_app (goodIn_of _ (by decide +kernel)) ggX8_sheet_X8_meets
theorem dX8_sheet_0 : decode cX8_sheet 0 = .ok (.iload_n 1, 1) := by decide +kernel
theorem dX8_sheet_1 : decode cX8_sheet 1 = .ok (.invokestatic 124, 3) := by decide +kernel
theorem dX8_sheet_4 : decode cX8_sheet 4 = .ok (.ifCond .eq 18, 3) := by decide +kernel
theorem dX8_sheet_7 : decode cX8_sheet 7 = .ok (.iload_n 2, 1) := by decide +kernel
theorem dX8_sheet_8 : decode cX8_sheet 8 = .ok (.iconst 0, 1) := by decide +kernel
theorem dX8_sheet_9 : decode cX8_sheet 9 = .ok (.iconst 2, 1) := by decide +kernel
theorem dX8_sheet_10 : decode cX8_sheet 10 = .ok (.invokestatic 85, 3) := by decide +kernel
theorem dX8_sheet_13 : decode cX8_sheet 13 = .ok (.ifCond .eq 9, 3) := by decide +kernel
theorem dX8_sheet_16 : decode cX8_sheet 16 = .ok (.iload_n 3, 1) := by decide +kernel
theorem dX8_sheet_17 : decode cX8_sheet 17 = .ok (.bipush 48, 2) := by decide +kernel
theorem dX8_sheet_19 : decode cX8_sheet 19 = .ok (.if_icmp .le 6, 3) := by decide +kernel
theorem dX8_sheet_22 : decode cX8_sheet 22 = .ok (.bipush (-2), 2) := by decide +kernel
theorem dX8_sheet_24 : decode cX8_sheet 24 = .ok (.ireturn, 1) := by decide +kernel
theorem dX8_sheet_25 : decode cX8_sheet 25 = .ok (.iload_n 3, 1) := by decide +kernel
theorem dX8_sheet_26 : decode cX8_sheet 26 = .ok (.ifCond .ge 9, 3) := by decide +kernel
theorem dX8_sheet_29 : decode cX8_sheet 29 = .ok (.aload_n 0, 1) := by decide +kernel
theorem dX8_sheet_30 : decode cX8_sheet 30 = .ok (.iconst 5, 1) := by decide +kernel
theorem dX8_sheet_31 : decode cX8_sheet 31 = .ok (.invokevirtual 127, 3) := by decide +kernel
theorem dX8_sheet_34 : decode cX8_sheet 34 = .ok (.ireturn, 1) := by decide +kernel
theorem dX8_sheet_35 : decode cX8_sheet 35 = .ok (.aload_n 0, 1) := by decide +kernel
theorem dX8_sheet_36 : decode cX8_sheet 36 = .ok (.getfield 67, 3) := by decide +kernel
theorem dX8_sheet_39 : decode cX8_sheet 39 = .ok (.iload_n 1, 1) := by decide +kernel
theorem dX8_sheet_40 : decode cX8_sheet 40 = .ok (.iconst 1, 1) := by decide +kernel
theorem dX8_sheet_41 : decode cX8_sheet 41 = .ok (.bastore, 1) := by decide +kernel
theorem dX8_sheet_42 : decode cX8_sheet 42 = .ok (.aload_n 0, 1) := by decide +kernel
theorem dX8_sheet_43 : decode cX8_sheet 43 = .ok (.getfield 71, 3) := by decide +kernel
theorem dX8_sheet_46 : decode cX8_sheet 46 = .ok (.iload_n 1, 1) := by decide +kernel
theorem dX8_sheet_47 : decode cX8_sheet 47 = .ok (.iload_n 2, 1) := by decide +kernel
theorem dX8_sheet_48 : decode cX8_sheet 48 = .ok (.iastore, 1) := by decide +kernel
theorem dX8_sheet_49 : decode cX8_sheet 49 = .ok (.aload_n 0, 1) := by decide +kernel
theorem dX8_sheet_50 : decode cX8_sheet 50 = .ok (.getfield 74, 3) := by decide +kernel
theorem dX8_sheet_53 : decode cX8_sheet 53 = .ok (.iload_n 1, 1) := by decide +kernel
theorem dX8_sheet_54 : decode cX8_sheet 54 = .ok (.iload_n 3, 1) := by decide +kernel
theorem dX8_sheet_55 : decode cX8_sheet 55 = .ok (.iastore, 1) := by decide +kernel
theorem dX8_sheet_56 : decode cX8_sheet 56 = .ok (.iconst 0, 1) := by decide +kernel
theorem dX8_sheet_57 : decode cX8_sheet 57 = .ok (.istore 4, 2) := by decide +kernel
theorem dX8_sheet_59 : decode cX8_sheet 59 = .ok (.iload 4, 2) := by decide +kernel
theorem dX8_sheet_61 : decode cX8_sheet 61 = .ok (.bipush 48, 2) := by decide +kernel
theorem dX8_sheet_63 : decode cX8_sheet 63 = .ok (.if_icmp .ge 22, 3) := by decide +kernel
theorem dX8_sheet_66 : decode cX8_sheet 66 = .ok (.aload_n 0, 1) := by decide +kernel
theorem dX8_sheet_67 : decode cX8_sheet 67 = .ok (.getfield 77, 3) := by decide +kernel
theorem dX8_sheet_70 : decode cX8_sheet 70 = .ok (.bipush 48, 2) := by decide +kernel
theorem dX8_sheet_72 : decode cX8_sheet 72 = .ok (.iload_n 1, 1) := by decide +kernel
theorem dX8_sheet_73 : decode cX8_sheet 73 = .ok (.imul, 1) := by decide +kernel
theorem dX8_sheet_74 : decode cX8_sheet 74 = .ok (.iload 4, 2) := by decide +kernel
theorem dX8_sheet_76 : decode cX8_sheet 76 = .ok (.iadd, 1) := by decide +kernel
theorem dX8_sheet_77 : decode cX8_sheet 77 = .ok (.iconst 0, 1) := by decide +kernel
theorem dX8_sheet_78 : decode cX8_sheet 78 = .ok (.iastore, 1) := by decide +kernel
theorem dX8_sheet_79 : decode cX8_sheet 79 = .ok (.iinc 4 1, 3) := by decide +kernel
theorem dX8_sheet_82 : decode cX8_sheet 82 = .ok (.goto (-23), 3) := by decide +kernel
theorem dX8_sheet_85 : decode cX8_sheet 85 = .ok (.iload_n 3, 1) := by decide +kernel
theorem dX8_sheet_86 : decode cX8_sheet 86 = .ok (.ireturn, 1) := by decide +kernel
set_option maxRecDepth 20000 in
theorem ggX8_lose_X8_isSheet : GoodIn wsX8_lose wsX8_isSheet := goodIn_r _ [6, 7, 8, 5, 9] (by decide +kernel) (by decide +kernel)
set_option maxRecDepth 20000 in
theorem gX8_lose_X8_isSheet : GoodIn wsX8_lose (va_wsS RX8 124 yX8_isSheet wsX8_isSheet) := goodIn_app (goodIn_of _ (by decide +kernel)) ggX8_lose_X8_isSheet
set_option maxRecDepth 20000 in
theorem ggX8_lose_X8_meets : GoodIn wsX8_lose wsX8_meets := goodIn_r _ [13, 14, 15, 16, 17, 18, 19, 20, 21, 22, 23, 24, 25, 26, 27, 28, 29, 30, 31, 32, 33, 34, 35, 36, 37, 38, 39, 40, 41, 42, 43] (by decide +kernel) (by decide +kernel)
set_option maxRecDepth 20000 in
theorem gX8_lose_X8_meets : GoodIn wsX8_lose (wsV RX8 127 RX8 yX8_meets wsX8_meets) := goodIn_app (goodIn_of _ (by decide +kernel)) ggX8_lose_X8_meets
theorem dX8_lose_0 : decode cX8_lose 0 = .ok (.iload_n 1, 1) := by decide +kernel
theorem dX8_lose_1 : decode cX8_lose 1 = .ok (.invokestatic 124, 3) := by decide +kernel
theorem dX8_lose_4 : decode cX8_lose 4 = .ok (.ifCond .ne 6, 3) := by decide +kernel
theorem dX8_lose_7 : decode cX8_lose 7 = .ok (.bipush (-2), 2) := by decide +kernel
theorem dX8_lose_9 : decode cX8_lose 9 = .ok (.ireturn, 1) := by decide +kernel
theorem dX8_lose_10 : decode cX8_lose 10 = .ok (.aload_n 0, 1) := by decide +kernel
theorem dX8_lose_11 : decode cX8_lose 11 = .ok (.getfield 67, 3) := by decide +kernel
theorem dX8_lose_14 : decode cX8_lose 14 = .ok (.iload_n 1, 1) := by decide +kernel
theorem dX8_lose_15 : decode cX8_lose 15 = .ok (.baload, 1) := by decide +kernel
theorem dX8_lose_16 : decode cX8_lose 16 = .ok (.ifCond .ne 9, 3) := by decide +kernel
theorem dX8_lose_19 : decode cX8_lose 19 = .ok (.aload_n 0, 1) := by decide +kernel
theorem dX8_lose_20 : decode cX8_lose 20 = .ok (.iconst 1, 1) := by decide +kernel
theorem dX8_lose_21 : decode cX8_lose 21 = .ok (.invokevirtual 127, 3) := by decide +kernel
theorem dX8_lose_24 : decode cX8_lose 24 = .ok (.ireturn, 1) := by decide +kernel
theorem dX8_lose_25 : decode cX8_lose 25 = .ok (.aload_n 0, 1) := by decide +kernel
theorem dX8_lose_26 : decode cX8_lose 26 = .ok (.getfield 67, 3) := by decide +kernel
theorem dX8_lose_29 : decode cX8_lose 29 = .ok (.iload_n 1, 1) := by decide +kernel
theorem dX8_lose_30 : decode cX8_lose 30 = .ok (.iconst 0, 1) := by decide +kernel
theorem dX8_lose_31 : decode cX8_lose 31 = .ok (.bastore, 1) := by decide +kernel
theorem dX8_lose_32 : decode cX8_lose 32 = .ok (.aload_n 0, 1) := by decide +kernel
theorem dX8_lose_33 : decode cX8_lose 33 = .ok (.getfield 74, 3) := by decide +kernel
theorem dX8_lose_36 : decode cX8_lose 36 = .ok (.iload_n 1, 1) := by decide +kernel
theorem dX8_lose_37 : decode cX8_lose 37 = .ok (.iaload, 1) := by decide +kernel
theorem dX8_lose_38 : decode cX8_lose 38 = .ok (.ireturn, 1) := by decide +kernel
set_option maxRecDepth 20000 in
theorem ggX8_lacks_X8_in : GoodIn wsX8_lacks wsX8_in := goodIn_r _ [7] (by decide +kernel) (by decide +kernel)
set_option maxRecDepth 20000 in
theorem gX8_lacks_X8_in : GoodIn wsX8_lacks (va_wsS RX8 85 yX8_in wsX8_in) := goodIn_app (goodIn_of _ (by decide +kernel)) ggX8_lacks_X8_in
theorem dX8_lacks_0 : decode cX8_lacks 0 = .ok (.aload_n 0, 1) := by decide +kernel
theorem dX8_lacks_1 : decode cX8_lacks 1 = .ok (.getfield 67, 3) := by decide +kernel
theorem dX8_lacks_4 : decode cX8_lacks 4 = .ok (.iload_n 1, 1) := by decide +kernel
theorem dX8_lacks_5 : decode cX8_lacks 5 = .ok (.baload, 1) := by decide +kernel
theorem dX8_lacks_6 : decode cX8_lacks 6 = .ok (.ifCond .ne 7, 3) := by decide +kernel
theorem dX8_lacks_9 : decode cX8_lacks 9 = .ok (.iconst 1, 1) := by decide +kernel
theorem dX8_lacks_10 : decode cX8_lacks 10 = .ok (.goto 38, 3) := by decide +kernel
theorem dX8_lacks_13 : decode cX8_lacks 13 = .ok (.aload_n 0, 1) := by decide +kernel
theorem dX8_lacks_14 : decode cX8_lacks 14 = .ok (.getfield 71, 3) := by decide +kernel
theorem dX8_lacks_17 : decode cX8_lacks 17 = .ok (.iload_n 1, 1) := by decide +kernel
theorem dX8_lacks_18 : decode cX8_lacks 18 = .ok (.iaload, 1) := by decide +kernel
theorem dX8_lacks_19 : decode cX8_lacks 19 = .ok (.iload_n 2, 1) := by decide +kernel
theorem dX8_lacks_20 : decode cX8_lacks 20 = .ok (.if_icmp .eq 7, 3) := by decide +kernel
theorem dX8_lacks_23 : decode cX8_lacks 23 = .ok (.iconst 3, 1) := by decide +kernel
theorem dX8_lacks_24 : decode cX8_lacks 24 = .ok (.goto 24, 3) := by decide +kernel
theorem dX8_lacks_27 : decode cX8_lacks 27 = .ok (.iload_n 3, 1) := by decide +kernel
theorem dX8_lacks_28 : decode cX8_lacks 28 = .ok (.iconst 0, 1) := by decide +kernel
theorem dX8_lacks_29 : decode cX8_lacks 29 = .ok (.aload_n 0, 1) := by decide +kernel
theorem dX8_lacks_30 : decode cX8_lacks 30 = .ok (.getfield 74, 3) := by decide +kernel
theorem dX8_lacks_33 : decode cX8_lacks 33 = .ok (.iload_n 1, 1) := by decide +kernel
theorem dX8_lacks_34 : decode cX8_lacks 34 = .ok (.iaload, 1) := by decide +kernel
theorem dX8_lacks_35 : decode cX8_lacks 35 = .ok (.iconst 1, 1) := by decide +kernel
theorem dX8_lacks_36 : decode cX8_lacks 36 = .ok (.isub, 1) := by decide +kernel
theorem dX8_lacks_37 : decode cX8_lacks 37 = .ok (.invokestatic 85, 3) := by decide +kernel
theorem dX8_lacks_40 : decode cX8_lacks 40 = .ok (.ifCond .eq 7, 3) := by decide +kernel
theorem dX8_lacks_43 : decode cX8_lacks 43 = .ok (.iconst 0, 1) := by decide +kernel
theorem dX8_lacks_44 : decode cX8_lacks 44 = .ok (.goto 4, 3) := by decide +kernel
theorem dX8_lacks_47 : decode cX8_lacks 47 = .ok (.iconst 2, 1) := by decide +kernel
theorem dX8_lacks_48 : decode cX8_lacks 48 = .ok (.ireturn, 1) := by decide +kernel
theorem dX8_keep_0 : decode cX8_keep 0 = .ok (.aload_n 0, 1) := by decide +kernel
theorem dX8_keep_1 : decode cX8_keep 1 = .ok (.getfield 77, 3) := by decide +kernel
theorem dX8_keep_4 : decode cX8_keep 4 = .ok (.bipush 48, 2) := by decide +kernel
theorem dX8_keep_6 : decode cX8_keep 6 = .ok (.iload_n 1, 1) := by decide +kernel
theorem dX8_keep_7 : decode cX8_keep 7 = .ok (.imul, 1) := by decide +kernel
theorem dX8_keep_8 : decode cX8_keep 8 = .ok (.iload_n 2, 1) := by decide +kernel
theorem dX8_keep_9 : decode cX8_keep 9 = .ok (.iadd, 1) := by decide +kernel
theorem dX8_keep_10 : decode cX8_keep 10 = .ok (.aload_n 0, 1) := by decide +kernel
theorem dX8_keep_11 : decode cX8_keep 11 = .ok (.getfield 71, 3) := by decide +kernel
theorem dX8_keep_14 : decode cX8_keep 14 = .ok (.iload_n 1, 1) := by decide +kernel
theorem dX8_keep_15 : decode cX8_keep 15 = .ok (.iaload, 1) := by decide +kernel
theorem dX8_keep_16 : decode cX8_keep 16 = .ok (.ifCond .ne 8, 3) := by decide +kernel
theorem dX8_keep_19 : decode cX8_keep 19 = .ok (.iload_n 3, 1) := by decide +kernel
theorem dX8_keep_20 : decode cX8_keep 20 = .ok (.i2b, 1) := by decide +kernel
theorem dX8_keep_21 : decode cX8_keep 21 = .ok (.goto 19, 3) := by decide +kernel
theorem dX8_keep_24 : decode cX8_keep 24 = .ok (.aload_n 0, 1) := by decide +kernel
theorem dX8_keep_25 : decode cX8_keep 25 = .ok (.getfield 71, 3) := by decide +kernel
theorem dX8_keep_28 : decode cX8_keep 28 = .ok (.iload_n 1, 1) := by decide +kernel
theorem dX8_keep_29 : decode cX8_keep 29 = .ok (.iaload, 1) := by decide +kernel
theorem dX8_keep_30 : decode cX8_keep 30 = .ok (.iconst 1, 1) := by decide +kernel
theorem dX8_keep_31 : decode cX8_keep 31 = .ok (.if_icmp .ne 8, 3) := by decide +kernel
theorem dX8_keep_34 : decode cX8_keep 34 = .ok (.iload_n 3, 1) := by decide +kernel
theorem dX8_keep_35 : decode cX8_keep 35 = .ok (.i2s, 1) := by decide +kernel
theorem dX8_keep_36 : decode cX8_keep 36 = .ok (.goto 4, 3) := by decide +kernel
theorem dX8_keep_39 : decode cX8_keep 39 = .ok (.iload_n 3, 1) := by decide +kernel
theorem dX8_keep_40 : decode cX8_keep 40 = .ok (.iastore, 1) := by decide +kernel
theorem dX8_keep_41 : decode cX8_keep 41 = .ok (.return_, 1) := by decide +kernel
set_option maxRecDepth 20000 in
theorem ggX8_put_X8_isSheet : GoodIn wsX8_put wsX8_isSheet := goodIn_r _ [4, 5, 6, 3, 7] (by decide +kernel) (by decide +kernel)
set_option maxRecDepth 20000 in
theorem gX8_put_X8_isSheet : GoodIn wsX8_put (va_wsS RX8 124 yX8_isSheet wsX8_isSheet) := goodIn_app (goodIn_of _ (by decide +kernel)) ggX8_put_X8_isSheet
set_option maxRecDepth 20000 in
theorem ggX8_put_X8_in : GoodIn wsX8_put wsX8_in := goodIn_r _ [7] (by decide +kernel) (by decide +kernel)
set_option maxRecDepth 20000 in
theorem gX8_put_X8_in : GoodIn wsX8_put (va_wsS RX8 85 yX8_in wsX8_in) := goodIn_app (goodIn_of _ (by decide +kernel)) ggX8_put_X8_in
set_option maxRecDepth 20000 in
theorem ggX8_put_X8_lacks : GoodIn wsX8_put wsX8_lacks := goodIn_r _ [11, 12, 13, 14, 5, 6, 3, 7, 25, 26, 27, 28, 29, 30, 31, 32, 33, 34, 35, 36, 37, 38, 39, 40, 41, 42, 43, 44, 45, 46, 47, 48, 49, 50, 51, 52, 53] (by decide +kernel) (by decide +kernel)
set_option maxRecDepth 20000 in
theorem gX8_put_X8_lacks : GoodIn wsX8_put (wsV RX8 216 RX8 yX8_lacks wsX8_lacks) := goodIn_app (goodIn_of _ (by decide +kernel)) ggX8_put_X8_lacks
set_option maxRecDepth 20000 in
theorem ggX8_put_X8_meets : GoodIn wsX8_put wsX8_meets := goodIn_r _ [18, 19, 25, 26, 27, 28, 29, 30, 31, 32, 33, 34, 35, 36, 37, 38, 39, 40, 41, 42, 43, 44, 45, 46, 47, 48, 49, 50, 51, 52, 53] (by decide +kernel) (by decide +kernel)
set_option maxRecDepth 20000 in
theorem gX8_put_X8_meets : GoodIn wsX8_put (wsV RX8 127 RX8 yX8_meets wsX8_meets) := goodIn_app (goodIn_of _ (by decide +kernel)) ggX8_put_X8_meets
set_option maxRecDepth 20000 in
theorem ggX8_put_X8_keep : GoodIn wsX8_put wsX8_keep := goodIn_r _ [23, 24, 13, 25, 26, 27, 28, 29, 30, 31, 32, 33, 34, 35, 36, 37, 38, 39, 40, 41, 42, 43, 44, 45, 46, 47, 48, 49, 50, 51, 52, 53] (by decide +kernel) (by decide +kernel)
set_option maxRecDepth 20000 in
theorem gX8_put_X8_keep : GoodIn wsX8_put (wsV RX8 219 RX8 yX8_keep wsX8_keep) := goodIn_app (goodIn_of _ (by decide +kernel)) ggX8_put_X8_keep
theorem dX8_put_0 : decode cX8_put 0 = .ok (.iload_n 1, 1) := by decide +kernel
theorem dX8_put_1 : decode cX8_put 1 = .ok (.invokestatic 124, 3) := by decide +kernel
theorem dX8_put_4 : decode cX8_put 4 = .ok (.ifCond .eq 12, 3) := by decide +kernel
theorem dX8_put_7 : decode cX8_put 7 = .ok (.iload_n 2, 1) := by decide +kernel
theorem dX8_put_8 : decode cX8_put 8 = .ok (.iconst 0, 1) := by decide +kernel
theorem dX8_put_9 : decode cX8_put 9 = .ok (.iconst 2, 1) := by decide +kernel
theorem dX8_put_10 : decode cX8_put 10 = .ok (.invokestatic 85, 3) := by decide +kernel
theorem dX8_put_13 : decode cX8_put 13 = .ok (.ifCond .ne 6, 3) := by decide +kernel
theorem dX8_put_16 : decode cX8_put 16 = .ok (.bipush (-2), 2) := by decide +kernel
theorem dX8_put_18 : decode cX8_put 18 = .ok (.ireturn, 1) := by decide +kernel
theorem dX8_put_19 : decode cX8_put 19 = .ok (.aload_n 0, 1) := by decide +kernel
theorem dX8_put_20 : decode cX8_put 20 = .ok (.iload_n 1, 1) := by decide +kernel
theorem dX8_put_21 : decode cX8_put 21 = .ok (.iload_n 2, 1) := by decide +kernel
theorem dX8_put_22 : decode cX8_put 22 = .ok (.iload_n 3, 1) := by decide +kernel
theorem dX8_put_23 : decode cX8_put 23 = .ok (.invokevirtual 216, 3) := by decide +kernel
theorem dX8_put_26 : decode cX8_put 26 = .ok (.istore 5, 2) := by decide +kernel
theorem dX8_put_28 : decode cX8_put 28 = .ok (.iload 5, 2) := by decide +kernel
theorem dX8_put_30 : decode cX8_put 30 = .ok (.ifCond .le 10, 3) := by decide +kernel
theorem dX8_put_33 : decode cX8_put 33 = .ok (.aload_n 0, 1) := by decide +kernel
theorem dX8_put_34 : decode cX8_put 34 = .ok (.iload 5, 2) := by decide +kernel
theorem dX8_put_36 : decode cX8_put 36 = .ok (.invokevirtual 127, 3) := by decide +kernel
theorem dX8_put_39 : decode cX8_put 39 = .ok (.ireturn, 1) := by decide +kernel
theorem dX8_put_40 : decode cX8_put 40 = .ok (.aload_n 0, 1) := by decide +kernel
theorem dX8_put_41 : decode cX8_put 41 = .ok (.iload_n 1, 1) := by decide +kernel
theorem dX8_put_42 : decode cX8_put 42 = .ok (.iload_n 3, 1) := by decide +kernel
theorem dX8_put_43 : decode cX8_put 43 = .ok (.iload 4, 2) := by decide +kernel
theorem dX8_put_45 : decode cX8_put 45 = .ok (.invokevirtual 219, 3) := by decide +kernel
theorem dX8_put_48 : decode cX8_put 48 = .ok (.iconst 1, 1) := by decide +kernel
theorem dX8_put_49 : decode cX8_put 49 = .ok (.ireturn, 1) := by decide +kernel
set_option maxRecDepth 20000 in
theorem ggX8_get_X8_isSheet : GoodIn wsX8_get wsX8_isSheet := goodIn_r _ [7, 8, 9, 6, 10] (by decide +kernel) (by decide +kernel)
set_option maxRecDepth 20000 in
theorem gX8_get_X8_isSheet : GoodIn wsX8_get (va_wsS RX8 124 yX8_isSheet wsX8_isSheet) := goodIn_app (goodIn_of _ (by decide +kernel)) ggX8_get_X8_isSheet
set_option maxRecDepth 20000 in
theorem ggX8_get_X8_in : GoodIn wsX8_get wsX8_in := goodIn_r _ [10] (by decide +kernel) (by decide +kernel)
set_option maxRecDepth 20000 in
theorem gX8_get_X8_in : GoodIn wsX8_get (va_wsS RX8 85 yX8_in wsX8_in) := goodIn_app (goodIn_of _ (by decide +kernel)) ggX8_get_X8_in
set_option maxRecDepth 20000 in
theorem ggX8_get_X8_lacks : GoodIn wsX8_get wsX8_lacks := goodIn_r _ [14, 15, 16, 17, 8, 9, 6, 10, 18, 19, 20, 21, 22, 23, 24, 25, 26, 27, 28, 29, 30, 31, 32, 33, 34, 35, 36, 37, 38, 39, 40, 41, 42, 43, 44, 45, 46] (by decide +kernel) (by decide +kernel)
set_option maxRecDepth 20000 in
theorem gX8_get_X8_lacks : GoodIn wsX8_get (wsV RX8 216 RX8 yX8_lacks wsX8_lacks) := goodIn_app (goodIn_of _ (by decide +kernel)) ggX8_get_X8_lacks
theorem dX8_get_0 : decode cX8_get 0 = .ok (.iload_n 1, 1) := by decide +kernel
theorem dX8_get_1 : decode cX8_get 1 = .ok (.invokestatic 124, 3) := by decide +kernel
theorem dX8_get_4 : decode cX8_get 4 = .ok (.ifCond .eq 12, 3) := by decide +kernel
theorem dX8_get_7 : decode cX8_get 7 = .ok (.iload_n 2, 1) := by decide +kernel
theorem dX8_get_8 : decode cX8_get 8 = .ok (.iconst 0, 1) := by decide +kernel
theorem dX8_get_9 : decode cX8_get 9 = .ok (.iconst 2, 1) := by decide +kernel
theorem dX8_get_10 : decode cX8_get 10 = .ok (.invokestatic 85, 3) := by decide +kernel
theorem dX8_get_13 : decode cX8_get 13 = .ok (.ifCond .ne 6, 3) := by decide +kernel
theorem dX8_get_16 : decode cX8_get 16 = .ok (.ldc 223, 2) := by decide +kernel
theorem dX8_get_18 : decode cX8_get 18 = .ok (.ireturn, 1) := by decide +kernel
theorem dX8_get_19 : decode cX8_get 19 = .ok (.aload_n 0, 1) := by decide +kernel
theorem dX8_get_20 : decode cX8_get 20 = .ok (.iload_n 1, 1) := by decide +kernel
theorem dX8_get_21 : decode cX8_get 21 = .ok (.iload_n 2, 1) := by decide +kernel
theorem dX8_get_22 : decode cX8_get 22 = .ok (.iload_n 3, 1) := by decide +kernel
theorem dX8_get_23 : decode cX8_get 23 = .ok (.invokevirtual 216, 3) := by decide +kernel
theorem dX8_get_26 : decode cX8_get 26 = .ok (.istore 4, 2) := by decide +kernel
theorem dX8_get_28 : decode cX8_get 28 = .ok (.iload 4, 2) := by decide +kernel
theorem dX8_get_30 : decode cX8_get 30 = .ok (.ifCond .le 12, 3) := by decide +kernel
theorem dX8_get_33 : decode cX8_get 33 = .ok (.aload_n 0, 1) := by decide +kernel
theorem dX8_get_34 : decode cX8_get 34 = .ok (.iload 4, 2) := by decide +kernel
theorem dX8_get_36 : decode cX8_get 36 = .ok (.putfield 213, 3) := by decide +kernel
theorem dX8_get_39 : decode cX8_get 39 = .ok (.ldc 223, 2) := by decide +kernel
theorem dX8_get_41 : decode cX8_get 41 = .ok (.ireturn, 1) := by decide +kernel
theorem dX8_get_42 : decode cX8_get 42 = .ok (.aload_n 0, 1) := by decide +kernel
theorem dX8_get_43 : decode cX8_get 43 = .ok (.getfield 77, 3) := by decide +kernel
theorem dX8_get_46 : decode cX8_get 46 = .ok (.bipush 48, 2) := by decide +kernel
theorem dX8_get_48 : decode cX8_get 48 = .ok (.iload_n 1, 1) := by decide +kernel
theorem dX8_get_49 : decode cX8_get 49 = .ok (.imul, 1) := by decide +kernel
theorem dX8_get_50 : decode cX8_get 50 = .ok (.iload_n 3, 1) := by decide +kernel
theorem dX8_get_51 : decode cX8_get 51 = .ok (.iadd, 1) := by decide +kernel
theorem dX8_get_52 : decode cX8_get 52 = .ok (.iaload, 1) := by decide +kernel
theorem dX8_get_53 : decode cX8_get 53 = .ok (.ireturn, 1) := by decide +kernel
set_option maxRecDepth 20000 in
theorem ggX8_copy_X8_isSheet : GoodIn wsX8_copy wsX8_isSheet := goodIn_r _ [9, 10, 11, 8, 12] (by decide +kernel) (by decide +kernel)
set_option maxRecDepth 20000 in
theorem gX8_copy_X8_isSheet : GoodIn wsX8_copy (va_wsS RX8 124 yX8_isSheet wsX8_isSheet) := goodIn_app (goodIn_of _ (by decide +kernel)) ggX8_copy_X8_isSheet
set_option maxRecDepth 20000 in
theorem ggX8_copy_X8_meets : GoodIn wsX8_copy wsX8_meets := goodIn_r _ [16, 17, 18, 19, 20, 21, 22, 23, 24, 25, 26, 27, 28, 29, 30, 31, 32, 33, 34, 35, 36, 37, 38, 39, 40, 41, 42, 43, 44, 45, 46] (by decide +kernel) (by decide +kernel)
set_option maxRecDepth 20000 in
theorem gX8_copy_X8_meets : GoodIn wsX8_copy (wsV RX8 127 RX8 yX8_meets wsX8_meets) := goodIn_app (goodIn_of _ (by decide +kernel)) ggX8_copy_X8_meets
theorem dX8_copy_0 : decode cX8_copy 0 = .ok (.iload_n 1, 1) := by decide +kernel
theorem dX8_copy_1 : decode cX8_copy 1 = .ok (.invokestatic 124, 3) := by decide +kernel
theorem dX8_copy_4 : decode cX8_copy 4 = .ok (.ifCond .eq 10, 3) := by decide +kernel
theorem dX8_copy_7 : decode cX8_copy 7 = .ok (.iload_n 3, 1) := by decide +kernel
theorem dX8_copy_8 : decode cX8_copy 8 = .ok (.invokestatic 124, 3) := by decide +kernel
theorem dX8_copy_11 : decode cX8_copy 11 = .ok (.ifCond .ne 6, 3) := by decide +kernel
theorem dX8_copy_14 : decode cX8_copy 14 = .ok (.bipush (-2), 2) := by decide +kernel
theorem dX8_copy_16 : decode cX8_copy 16 = .ok (.ireturn, 1) := by decide +kernel
theorem dX8_copy_17 : decode cX8_copy 17 = .ok (.aload_n 0, 1) := by decide +kernel
theorem dX8_copy_18 : decode cX8_copy 18 = .ok (.getfield 67, 3) := by decide +kernel
theorem dX8_copy_21 : decode cX8_copy 21 = .ok (.iload_n 1, 1) := by decide +kernel
theorem dX8_copy_22 : decode cX8_copy 22 = .ok (.baload, 1) := by decide +kernel
theorem dX8_copy_23 : decode cX8_copy 23 = .ok (.ifCond .eq 12, 3) := by decide +kernel
theorem dX8_copy_26 : decode cX8_copy 26 = .ok (.aload_n 0, 1) := by decide +kernel
theorem dX8_copy_27 : decode cX8_copy 27 = .ok (.getfield 67, 3) := by decide +kernel
theorem dX8_copy_30 : decode cX8_copy 30 = .ok (.iload_n 3, 1) := by decide +kernel
theorem dX8_copy_31 : decode cX8_copy 31 = .ok (.baload, 1) := by decide +kernel
theorem dX8_copy_32 : decode cX8_copy 32 = .ok (.ifCond .ne 9, 3) := by decide +kernel
theorem dX8_copy_35 : decode cX8_copy 35 = .ok (.aload_n 0, 1) := by decide +kernel
theorem dX8_copy_36 : decode cX8_copy 36 = .ok (.iconst 1, 1) := by decide +kernel
theorem dX8_copy_37 : decode cX8_copy 37 = .ok (.invokevirtual 127, 3) := by decide +kernel
theorem dX8_copy_40 : decode cX8_copy 40 = .ok (.ireturn, 1) := by decide +kernel
theorem dX8_copy_41 : decode cX8_copy 41 = .ok (.aload_n 0, 1) := by decide +kernel
theorem dX8_copy_42 : decode cX8_copy 42 = .ok (.getfield 71, 3) := by decide +kernel
theorem dX8_copy_45 : decode cX8_copy 45 = .ok (.iload_n 1, 1) := by decide +kernel
theorem dX8_copy_46 : decode cX8_copy 46 = .ok (.iaload, 1) := by decide +kernel
theorem dX8_copy_47 : decode cX8_copy 47 = .ok (.aload_n 0, 1) := by decide +kernel
theorem dX8_copy_48 : decode cX8_copy 48 = .ok (.getfield 71, 3) := by decide +kernel
theorem dX8_copy_51 : decode cX8_copy 51 = .ok (.iload_n 3, 1) := by decide +kernel
theorem dX8_copy_52 : decode cX8_copy 52 = .ok (.iaload, 1) := by decide +kernel
theorem dX8_copy_53 : decode cX8_copy 53 = .ok (.if_icmp .eq 9, 3) := by decide +kernel
theorem dX8_copy_56 : decode cX8_copy 56 = .ok (.aload_n 0, 1) := by decide +kernel
theorem dX8_copy_57 : decode cX8_copy 57 = .ok (.iconst 4, 1) := by decide +kernel
theorem dX8_copy_58 : decode cX8_copy 58 = .ok (.invokevirtual 127, 3) := by decide +kernel
theorem dX8_copy_61 : decode cX8_copy 61 = .ok (.ireturn, 1) := by decide +kernel
theorem dX8_copy_62 : decode cX8_copy 62 = .ok (.iload_n 2, 1) := by decide +kernel
theorem dX8_copy_63 : decode cX8_copy 63 = .ok (.ifCond .lt 48, 3) := by decide +kernel
theorem dX8_copy_66 : decode cX8_copy 66 = .ok (.iload 4, 2) := by decide +kernel
theorem dX8_copy_68 : decode cX8_copy 68 = .ok (.ifCond .lt 43, 3) := by decide +kernel
theorem dX8_copy_71 : decode cX8_copy 71 = .ok (.iload 5, 2) := by decide +kernel
theorem dX8_copy_73 : decode cX8_copy 73 = .ok (.ifCond .lt 38, 3) := by decide +kernel
theorem dX8_copy_76 : decode cX8_copy 76 = .ok (.iload_n 2, 1) := by decide +kernel
theorem dX8_copy_77 : decode cX8_copy 77 = .ok (.i2l, 1) := by decide +kernel
theorem dX8_copy_78 : decode cX8_copy 78 = .ok (.iload 5, 2) := by decide +kernel
theorem dX8_copy_80 : decode cX8_copy 80 = .ok (.i2l, 1) := by decide +kernel
theorem dX8_copy_81 : decode cX8_copy 81 = .ok (.ladd, 1) := by decide +kernel
theorem dX8_copy_82 : decode cX8_copy 82 = .ok (.aload_n 0, 1) := by decide +kernel
theorem dX8_copy_83 : decode cX8_copy 83 = .ok (.getfield 74, 3) := by decide +kernel
theorem dX8_copy_86 : decode cX8_copy 86 = .ok (.iload_n 1, 1) := by decide +kernel
theorem dX8_copy_87 : decode cX8_copy 87 = .ok (.iaload, 1) := by decide +kernel
theorem dX8_copy_88 : decode cX8_copy 88 = .ok (.i2l, 1) := by decide +kernel
theorem dX8_copy_89 : decode cX8_copy 89 = .ok (.lcmp, 1) := by decide +kernel
theorem dX8_copy_90 : decode cX8_copy 90 = .ok (.ifCond .gt 21, 3) := by decide +kernel
theorem dX8_copy_93 : decode cX8_copy 93 = .ok (.iload 4, 2) := by decide +kernel
theorem dX8_copy_95 : decode cX8_copy 95 = .ok (.i2l, 1) := by decide +kernel
theorem dX8_copy_96 : decode cX8_copy 96 = .ok (.iload 5, 2) := by decide +kernel
theorem dX8_copy_98 : decode cX8_copy 98 = .ok (.i2l, 1) := by decide +kernel
theorem dX8_copy_99 : decode cX8_copy 99 = .ok (.ladd, 1) := by decide +kernel
theorem dX8_copy_100 : decode cX8_copy 100 = .ok (.aload_n 0, 1) := by decide +kernel
theorem dX8_copy_101 : decode cX8_copy 101 = .ok (.getfield 74, 3) := by decide +kernel
theorem dX8_copy_104 : decode cX8_copy 104 = .ok (.iload_n 3, 1) := by decide +kernel
theorem dX8_copy_105 : decode cX8_copy 105 = .ok (.iaload, 1) := by decide +kernel
theorem dX8_copy_106 : decode cX8_copy 106 = .ok (.i2l, 1) := by decide +kernel
theorem dX8_copy_107 : decode cX8_copy 107 = .ok (.lcmp, 1) := by decide +kernel
theorem dX8_copy_108 : decode cX8_copy 108 = .ok (.ifCond .le 9, 3) := by decide +kernel
theorem dX8_copy_111 : decode cX8_copy 111 = .ok (.aload_n 0, 1) := by decide +kernel
theorem dX8_copy_112 : decode cX8_copy 112 = .ok (.iconst 2, 1) := by decide +kernel
theorem dX8_copy_113 : decode cX8_copy 113 = .ok (.invokevirtual 127, 3) := by decide +kernel
theorem dX8_copy_116 : decode cX8_copy 116 = .ok (.ireturn, 1) := by decide +kernel
theorem dX8_copy_117 : decode cX8_copy 117 = .ok (.iconst 0, 1) := by decide +kernel
theorem dX8_copy_118 : decode cX8_copy 118 = .ok (.istore 6, 2) := by decide +kernel
theorem dX8_copy_120 : decode cX8_copy 120 = .ok (.iload 6, 2) := by decide +kernel
theorem dX8_copy_122 : decode cX8_copy 122 = .ok (.iload 5, 2) := by decide +kernel
theorem dX8_copy_124 : decode cX8_copy 124 = .ok (.if_icmp .ge 30, 3) := by decide +kernel
theorem dX8_copy_127 : decode cX8_copy 127 = .ok (.aload_n 0, 1) := by decide +kernel
theorem dX8_copy_128 : decode cX8_copy 128 = .ok (.getfield 80, 3) := by decide +kernel
theorem dX8_copy_131 : decode cX8_copy 131 = .ok (.iload 6, 2) := by decide +kernel
theorem dX8_copy_133 : decode cX8_copy 133 = .ok (.aload_n 0, 1) := by decide +kernel
theorem dX8_copy_134 : decode cX8_copy 134 = .ok (.getfield 77, 3) := by decide +kernel
theorem dX8_copy_137 : decode cX8_copy 137 = .ok (.bipush 48, 2) := by decide +kernel
theorem dX8_copy_139 : decode cX8_copy 139 = .ok (.iload_n 1, 1) := by decide +kernel
theorem dX8_copy_140 : decode cX8_copy 140 = .ok (.imul, 1) := by decide +kernel
theorem dX8_copy_141 : decode cX8_copy 141 = .ok (.iload_n 2, 1) := by decide +kernel
theorem dX8_copy_142 : decode cX8_copy 142 = .ok (.iadd, 1) := by decide +kernel
theorem dX8_copy_143 : decode cX8_copy 143 = .ok (.iload 6, 2) := by decide +kernel
theorem dX8_copy_145 : decode cX8_copy 145 = .ok (.iadd, 1) := by decide +kernel
theorem dX8_copy_146 : decode cX8_copy 146 = .ok (.iaload, 1) := by decide +kernel
theorem dX8_copy_147 : decode cX8_copy 147 = .ok (.iastore, 1) := by decide +kernel
theorem dX8_copy_148 : decode cX8_copy 148 = .ok (.iinc 6 1, 3) := by decide +kernel
theorem dX8_copy_151 : decode cX8_copy 151 = .ok (.goto (-31), 3) := by decide +kernel
theorem dX8_copy_154 : decode cX8_copy 154 = .ok (.iconst 0, 1) := by decide +kernel
theorem dX8_copy_155 : decode cX8_copy 155 = .ok (.istore 6, 2) := by decide +kernel
theorem dX8_copy_157 : decode cX8_copy 157 = .ok (.iload 6, 2) := by decide +kernel
theorem dX8_copy_159 : decode cX8_copy 159 = .ok (.iload 5, 2) := by decide +kernel
theorem dX8_copy_161 : decode cX8_copy 161 = .ok (.if_icmp .ge 31, 3) := by decide +kernel
theorem dX8_copy_164 : decode cX8_copy 164 = .ok (.aload_n 0, 1) := by decide +kernel
theorem dX8_copy_165 : decode cX8_copy 165 = .ok (.getfield 77, 3) := by decide +kernel
theorem dX8_copy_168 : decode cX8_copy 168 = .ok (.bipush 48, 2) := by decide +kernel
theorem dX8_copy_170 : decode cX8_copy 170 = .ok (.iload_n 3, 1) := by decide +kernel
theorem dX8_copy_171 : decode cX8_copy 171 = .ok (.imul, 1) := by decide +kernel
theorem dX8_copy_172 : decode cX8_copy 172 = .ok (.iload 4, 2) := by decide +kernel
theorem dX8_copy_174 : decode cX8_copy 174 = .ok (.iadd, 1) := by decide +kernel
theorem dX8_copy_175 : decode cX8_copy 175 = .ok (.iload 6, 2) := by decide +kernel
theorem dX8_copy_177 : decode cX8_copy 177 = .ok (.iadd, 1) := by decide +kernel
theorem dX8_copy_178 : decode cX8_copy 178 = .ok (.aload_n 0, 1) := by decide +kernel
theorem dX8_copy_179 : decode cX8_copy 179 = .ok (.getfield 80, 3) := by decide +kernel
theorem dX8_copy_182 : decode cX8_copy 182 = .ok (.iload 6, 2) := by decide +kernel
theorem dX8_copy_184 : decode cX8_copy 184 = .ok (.iaload, 1) := by decide +kernel
theorem dX8_copy_185 : decode cX8_copy 185 = .ok (.iastore, 1) := by decide +kernel
theorem dX8_copy_186 : decode cX8_copy 186 = .ok (.iinc 6 1, 3) := by decide +kernel
theorem dX8_copy_189 : decode cX8_copy 189 = .ok (.goto (-32), 3) := by decide +kernel
theorem dX8_copy_192 : decode cX8_copy 192 = .ok (.iconst 1, 1) := by decide +kernel
theorem dX8_copy_193 : decode cX8_copy 193 = .ok (.ireturn, 1) := by decide +kernel
set_option maxRecDepth 20000 in
theorem ggX8_write_X8_isBehind : GoodIn wsX8_write wsX8_isBehind := goodIn_r _ [9, 10, 11, 12, 13, 8, 14, 15, 16, 17, 18, 19, 20, 21, 22, 3, 23, 24, 25, 26, 27, 28, 29, 30, 31, 32, 33, 34, 35, 36, 37, 38, 82, 83, 84, 85, 86, 87, 88, 89, 90, 91, 92, 93, 94, 95, 96, 97, 98, 99, 100, 101, 102, 103, 104, 105, 106, 107, 108, 109, 110] (by decide +kernel) (by decide +kernel)
set_option maxRecDepth 20000 in
theorem gX8_write_X8_isBehind : GoodIn wsX8_write (wsV RX8 149 RX8 yX8_isBehind wsX8_isBehind) := goodIn_app (goodIn_of _ (by decide +kernel)) ggX8_write_X8_isBehind
set_option maxRecDepth 20000 in
theorem ggX8_write_X8_isSheet : GoodIn wsX8_write wsX8_isSheet := goodIn_r _ [41, 31, 32, 8, 33] (by decide +kernel) (by decide +kernel)
set_option maxRecDepth 20000 in
theorem gX8_write_X8_isSheet : GoodIn wsX8_write (va_wsS RX8 124 yX8_isSheet wsX8_isSheet) := goodIn_app (goodIn_of _ (by decide +kernel)) ggX8_write_X8_isSheet
set_option maxRecDepth 20000 in
theorem ggX8_write_X8_meets : GoodIn wsX8_write wsX8_meets := goodIn_r _ [45, 46, 82, 83, 84, 85, 86, 87, 88, 89, 90, 91, 92, 93, 94, 95, 96, 97, 98, 99, 100, 101, 102, 103, 104, 105, 106, 107, 108, 109, 110] (by decide +kernel) (by decide +kernel)
set_option maxRecDepth 20000 in
theorem gX8_write_X8_meets : GoodIn wsX8_write (wsV RX8 127 RX8 yX8_meets wsX8_meets) := goodIn_app (goodIn_of _ (by decide +kernel)) ggX8_write_X8_meets
set_option maxRecDepth 20000 in
theorem ggX8_write_X8_runs : GoodIn wsX8_write wsX8_runs := goodIn_r _ [50, 51, 3, 52, 53, 54, 55, 4, 56, 57, 25, 58, 59, 60, 8, 61, 24, 62, 63, 64, 65, 66, 38, 67, 68, 69, 70, 71, 72, 73, 74, 75, 82, 83, 84, 85, 86, 87, 88, 89, 90, 91, 92, 93, 94, 95, 96, 97, 98, 99, 100, 101, 102, 103, 104, 105, 106, 107, 108, 109, 110] (by decide +kernel) (by decide +kernel)
set_option maxRecDepth 20000 in
theorem gX8_write_X8_runs : GoodIn wsX8_write (wsV RX8 146 RX8 yX8_runs wsX8_runs) := goodIn_app (goodIn_of _ (by decide +kernel)) ggX8_write_X8_runs
set_option maxRecDepth 20000 in
theorem ggX8_write_X8_keep : GoodIn wsX8_write wsX8_keep := goodIn_r _ [79, 80, 81, 82, 83, 84, 85, 86, 87, 88, 89, 90, 91, 92, 93, 94, 95, 96, 97, 98, 99, 100, 101, 102, 103, 104, 105, 106, 107, 108, 109, 110] (by decide +kernel) (by decide +kernel)
set_option maxRecDepth 20000 in
theorem gX8_write_X8_keep : GoodIn wsX8_write (wsV RX8 219 RX8 yX8_keep wsX8_keep) := goodIn_app (goodIn_of _ (by decide +kernel)) ggX8_write_X8_keep
theorem dX8_write_0 : decode cX8_write 0 = .ok (.aload_n 0, 1) := by decide +kernel
theorem dX8_write_1 : decode cX8_write 1 = .ok (.iload_n 1, 1) := by decide +kernel
theorem dX8_write_2 : decode cX8_write 2 = .ok (.invokevirtual 149, 3) := by decide +kernel
theorem dX8_write_5 : decode cX8_write 5 = .ok (.ifCond .eq 10, 3) := by decide +kernel
theorem dX8_write_8 : decode cX8_write 8 = .ok (.iload_n 2, 1) := by decide +kernel
theorem dX8_write_9 : decode cX8_write 9 = .ok (.invokestatic 124, 3) := by decide +kernel
theorem dX8_write_12 : decode cX8_write 12 = .ok (.ifCond .ne 6, 3) := by decide +kernel
theorem dX8_write_15 : decode cX8_write 15 = .ok (.bipush (-2), 2) := by decide +kernel
theorem dX8_write_17 : decode cX8_write 17 = .ok (.ireturn, 1) := by decide +kernel
theorem dX8_write_18 : decode cX8_write 18 = .ok (.aload_n 0, 1) := by decide +kernel
theorem dX8_write_19 : decode cX8_write 19 = .ok (.getfield 67, 3) := by decide +kernel
theorem dX8_write_22 : decode cX8_write 22 = .ok (.iload_n 2, 1) := by decide +kernel
theorem dX8_write_23 : decode cX8_write 23 = .ok (.baload, 1) := by decide +kernel
theorem dX8_write_24 : decode cX8_write 24 = .ok (.ifCond .ne 9, 3) := by decide +kernel
theorem dX8_write_27 : decode cX8_write 27 = .ok (.aload_n 0, 1) := by decide +kernel
theorem dX8_write_28 : decode cX8_write 28 = .ok (.iconst 1, 1) := by decide +kernel
theorem dX8_write_29 : decode cX8_write 29 = .ok (.invokevirtual 127, 3) := by decide +kernel
theorem dX8_write_32 : decode cX8_write 32 = .ok (.ireturn, 1) := by decide +kernel
theorem dX8_write_33 : decode cX8_write 33 = .ok (.aload_n 0, 1) := by decide +kernel
theorem dX8_write_34 : decode cX8_write 34 = .ok (.iload_n 1, 1) := by decide +kernel
theorem dX8_write_35 : decode cX8_write 35 = .ok (.invokevirtual 146, 3) := by decide +kernel
theorem dX8_write_38 : decode cX8_write 38 = .ok (.iconst 0, 1) := by decide +kernel
theorem dX8_write_39 : decode cX8_write 39 = .ok (.istore_n 3, 1) := by decide +kernel
theorem dX8_write_40 : decode cX8_write 40 = .ok (.iload_n 3, 1) := by decide +kernel
theorem dX8_write_41 : decode cX8_write 41 = .ok (.aload_n 0, 1) := by decide +kernel
theorem dX8_write_42 : decode cX8_write 42 = .ok (.getfield 74, 3) := by decide +kernel
theorem dX8_write_45 : decode cX8_write 45 = .ok (.iload_n 2, 1) := by decide +kernel
theorem dX8_write_46 : decode cX8_write 46 = .ok (.iaload, 1) := by decide +kernel
theorem dX8_write_47 : decode cX8_write 47 = .ok (.if_icmp .ge 29, 3) := by decide +kernel
theorem dX8_write_50 : decode cX8_write 50 = .ok (.iload_n 3, 1) := by decide +kernel
theorem dX8_write_51 : decode cX8_write 51 = .ok (.aload_n 0, 1) := by decide +kernel
theorem dX8_write_52 : decode cX8_write 52 = .ok (.getfield 89, 3) := by decide +kernel
theorem dX8_write_55 : decode cX8_write 55 = .ok (.if_icmp .ge 21, 3) := by decide +kernel
theorem dX8_write_58 : decode cX8_write 58 = .ok (.aload_n 0, 1) := by decide +kernel
theorem dX8_write_59 : decode cX8_write 59 = .ok (.iload_n 2, 1) := by decide +kernel
theorem dX8_write_60 : decode cX8_write 60 = .ok (.iload_n 3, 1) := by decide +kernel
theorem dX8_write_61 : decode cX8_write 61 = .ok (.aload_n 0, 1) := by decide +kernel
theorem dX8_write_62 : decode cX8_write 62 = .ok (.getfield 34, 3) := by decide +kernel
theorem dX8_write_65 : decode cX8_write 65 = .ok (.iload_n 3, 1) := by decide +kernel
theorem dX8_write_66 : decode cX8_write 66 = .ok (.iaload, 1) := by decide +kernel
theorem dX8_write_67 : decode cX8_write 67 = .ok (.invokevirtual 219, 3) := by decide +kernel
theorem dX8_write_70 : decode cX8_write 70 = .ok (.iinc 3 1, 3) := by decide +kernel
theorem dX8_write_73 : decode cX8_write 73 = .ok (.goto (-33), 3) := by decide +kernel
theorem dX8_write_76 : decode cX8_write 76 = .ok (.iload_n 3, 1) := by decide +kernel
theorem dX8_write_77 : decode cX8_write 77 = .ok (.ireturn, 1) := by decide +kernel
set_option maxRecDepth 20000 in
theorem ggX8_sumOf_X8_reads : GoodIn wsX8_sumOf wsX8_reads := goodIn_r _ [10, 11, 12, 13, 9, 14, 15, 16, 17, 18, 2, 19, 3, 20, 21, 22, 23, 24, 25, 26, 27, 28, 29, 30, 31, 32, 1, 33, 62, 63, 64, 65, 66, 67, 68, 69, 70, 71, 72, 73, 74, 75, 76, 77, 78, 79, 80, 81, 82, 83, 84, 85, 86, 87, 88, 89, 90] (by decide +kernel) (by decide +kernel)
set_option maxRecDepth 20000 in
theorem gX8_sumOf_X8_reads : GoodIn wsX8_sumOf (wsV RX8 111 RX8 yX8_reads wsX8_reads) := goodIn_app (goodIn_of _ (by decide +kernel)) ggX8_sumOf_X8_reads
set_option maxRecDepth 20000 in
theorem ggX8_sumOf_X8_runs : GoodIn wsX8_sumOf wsX8_runs := goodIn_r _ [37, 5, 2, 38, 39, 40, 41, 4, 42, 43, 20, 44, 45, 46, 9, 47, 3, 48, 49, 50, 51, 52, 33, 53, 54, 55, 56, 57, 58, 59, 60, 61, 62, 63, 64, 65, 66, 67, 68, 69, 70, 71, 72, 73, 74, 75, 76, 77, 78, 79, 80, 81, 82, 83, 84, 85, 86, 87, 88, 89, 90] (by decide +kernel) (by decide +kernel)
set_option maxRecDepth 20000 in
theorem gX8_sumOf_X8_runs : GoodIn wsX8_sumOf (wsV RX8 146 RX8 yX8_runs wsX8_runs) := goodIn_app (goodIn_of _ (by decide +kernel)) ggX8_sumOf_X8_runs
theorem dX8_sumOf_0 : decode cX8_sumOf 0 = .ok (.aload_n 0, 1) := by decide +kernel
theorem dX8_sumOf_1 : decode cX8_sumOf 1 = .ok (.invokevirtual 111, 3) := by decide +kernel
theorem dX8_sumOf_4 : decode cX8_sumOf 4 = .ok (.aload_n 0, 1) := by decide +kernel
theorem dX8_sumOf_5 : decode cX8_sumOf 5 = .ok (.iload_n 1, 1) := by decide +kernel
theorem dX8_sumOf_6 : decode cX8_sumOf 6 = .ok (.bipush 7, 2) := by decide +kernel
theorem dX8_sumOf_8 : decode cX8_sumOf 8 = .ok (.if_icmp .ne 10, 3) := by decide +kernel
theorem dX8_sumOf_11 : decode cX8_sumOf 11 = .ok (.aload_n 0, 1) := by decide +kernel
theorem dX8_sumOf_12 : decode cX8_sumOf 12 = .ok (.getfield 97, 3) := by decide +kernel
theorem dX8_sumOf_15 : decode cX8_sumOf 15 = .ok (.goto 4, 3) := by decide +kernel
theorem dX8_sumOf_18 : decode cX8_sumOf 18 = .ok (.iconst 0, 1) := by decide +kernel
theorem dX8_sumOf_19 : decode cX8_sumOf 19 = .ok (.invokevirtual 146, 3) := by decide +kernel
theorem dX8_sumOf_22 : decode cX8_sumOf 22 = .ok (.iconst 0, 1) := by decide +kernel
theorem dX8_sumOf_23 : decode cX8_sumOf 23 = .ok (.istore_n 2, 1) := by decide +kernel
theorem dX8_sumOf_24 : decode cX8_sumOf 24 = .ok (.iconst 0, 1) := by decide +kernel
theorem dX8_sumOf_25 : decode cX8_sumOf 25 = .ok (.istore_n 3, 1) := by decide +kernel
theorem dX8_sumOf_26 : decode cX8_sumOf 26 = .ok (.iload_n 3, 1) := by decide +kernel
theorem dX8_sumOf_27 : decode cX8_sumOf 27 = .ok (.aload_n 0, 1) := by decide +kernel
theorem dX8_sumOf_28 : decode cX8_sumOf 28 = .ok (.getfield 89, 3) := by decide +kernel
theorem dX8_sumOf_31 : decode cX8_sumOf 31 = .ok (.if_icmp .ge 32, 3) := by decide +kernel
theorem dX8_sumOf_34 : decode cX8_sumOf 34 = .ok (.iload_n 2, 1) := by decide +kernel
theorem dX8_sumOf_35 : decode cX8_sumOf 35 = .ok (.iload_n 1, 1) := by decide +kernel
theorem dX8_sumOf_36 : decode cX8_sumOf 36 = .ok (.iconst 5, 1) := by decide +kernel
theorem dX8_sumOf_37 : decode cX8_sumOf 37 = .ok (.if_icmp .ne 12, 3) := by decide +kernel
theorem dX8_sumOf_40 : decode cX8_sumOf 40 = .ok (.aload_n 0, 1) := by decide +kernel
theorem dX8_sumOf_41 : decode cX8_sumOf 41 = .ok (.getfield 16, 3) := by decide +kernel
theorem dX8_sumOf_44 : decode cX8_sumOf 44 = .ok (.iload_n 3, 1) := by decide +kernel
theorem dX8_sumOf_45 : decode cX8_sumOf 45 = .ok (.iaload, 1) := by decide +kernel
theorem dX8_sumOf_46 : decode cX8_sumOf 46 = .ok (.goto 9, 3) := by decide +kernel
theorem dX8_sumOf_49 : decode cX8_sumOf 49 = .ok (.aload_n 0, 1) := by decide +kernel
theorem dX8_sumOf_50 : decode cX8_sumOf 50 = .ok (.getfield 34, 3) := by decide +kernel
theorem dX8_sumOf_53 : decode cX8_sumOf 53 = .ok (.iload_n 3, 1) := by decide +kernel
theorem dX8_sumOf_54 : decode cX8_sumOf 54 = .ok (.iaload, 1) := by decide +kernel
theorem dX8_sumOf_55 : decode cX8_sumOf 55 = .ok (.iadd, 1) := by decide +kernel
theorem dX8_sumOf_56 : decode cX8_sumOf 56 = .ok (.istore_n 2, 1) := by decide +kernel
theorem dX8_sumOf_57 : decode cX8_sumOf 57 = .ok (.iinc 3 1, 3) := by decide +kernel
theorem dX8_sumOf_60 : decode cX8_sumOf 60 = .ok (.goto (-34), 3) := by decide +kernel
theorem dX8_sumOf_63 : decode cX8_sumOf 63 = .ok (.iload_n 1, 1) := by decide +kernel
theorem dX8_sumOf_64 : decode cX8_sumOf 64 = .ok (.ifCond .ne 10, 3) := by decide +kernel
theorem dX8_sumOf_67 : decode cX8_sumOf 67 = .ok (.aload_n 0, 1) := by decide +kernel
theorem dX8_sumOf_68 : decode cX8_sumOf 68 = .ok (.getfield 89, 3) := by decide +kernel
theorem dX8_sumOf_71 : decode cX8_sumOf 71 = .ok (.goto 29, 3) := by decide +kernel
theorem dX8_sumOf_74 : decode cX8_sumOf 74 = .ok (.iload_n 1, 1) := by decide +kernel
theorem dX8_sumOf_75 : decode cX8_sumOf 75 = .ok (.iconst 1, 1) := by decide +kernel
theorem dX8_sumOf_76 : decode cX8_sumOf 76 = .ok (.if_icmp .ne 10, 3) := by decide +kernel
theorem dX8_sumOf_79 : decode cX8_sumOf 79 = .ok (.aload_n 0, 1) := by decide +kernel
theorem dX8_sumOf_80 : decode cX8_sumOf 80 = .ok (.getfield 97, 3) := by decide +kernel
theorem dX8_sumOf_83 : decode cX8_sumOf 83 = .ok (.goto 17, 3) := by decide +kernel
theorem dX8_sumOf_86 : decode cX8_sumOf 86 = .ok (.iload_n 1, 1) := by decide +kernel
theorem dX8_sumOf_87 : decode cX8_sumOf 87 = .ok (.bipush 7, 2) := by decide +kernel
theorem dX8_sumOf_89 : decode cX8_sumOf 89 = .ok (.if_icmp .ne 10, 3) := by decide +kernel
theorem dX8_sumOf_92 : decode cX8_sumOf 92 = .ok (.aload_n 0, 1) := by decide +kernel
theorem dX8_sumOf_93 : decode cX8_sumOf 93 = .ok (.getfield 136, 3) := by decide +kernel
theorem dX8_sumOf_96 : decode cX8_sumOf 96 = .ok (.goto 4, 3) := by decide +kernel
theorem dX8_sumOf_99 : decode cX8_sumOf 99 = .ok (.iload_n 2, 1) := by decide +kernel
theorem dX8_sumOf_100 : decode cX8_sumOf 100 = .ok (.ireturn, 1) := by decide +kernel
set_option maxRecDepth 20000 in
theorem ggX8_count_X8_sumOf : GoodIn wsX8_count wsX8_sumOf := goodIn_r _ [8, 9, 10, 11, 12, 13, 14, 15, 16, 7, 17, 18, 19, 20, 21, 22, 23, 24, 25, 1, 26, 27, 28, 29, 30, 31, 32, 33, 34, 35, 36, 37, 38, 39, 40, 41, 42, 43, 44, 45, 46, 47, 48, 49, 50, 51, 52, 53, 54, 55, 56, 57, 58, 59, 60, 61, 62, 63, 64, 65, 66, 67, 68, 69, 70, 71, 72, 73, 74, 75, 76, 77, 78, 79, 80, 81, 82, 83, 84, 85, 86, 87, 88, 89, 90, 91, 92, 93, 94, 95, 96] (by decide +kernel) (by decide +kernel)
set_option maxRecDepth 20000 in
theorem gX8_count_X8_sumOf : GoodIn wsX8_count (wsV RX8 224 RX8 yX8_sumOf wsX8_sumOf) := goodIn_app (goodIn_of _ (by decide +kernel)) ggX8_count_X8_sumOf
theorem dX8_count_0 : decode cX8_count 0 = .ok (.iload_n 1, 1) := by decide +kernel
theorem dX8_count_1 : decode cX8_count 1 = .ok (.tableswitch 76 0 8 #[51, 51, 57, 57, 66, 51, 51, 51, 71], 51) := by decide +kernel
theorem dX8_count_52 : decode cX8_count 52 = .ok (.aload_n 0, 1) := by decide +kernel
theorem dX8_count_53 : decode cX8_count 53 = .ok (.iload_n 1, 1) := by decide +kernel
theorem dX8_count_54 : decode cX8_count 54 = .ok (.invokevirtual 224, 3) := by decide +kernel
theorem dX8_count_57 : decode cX8_count 57 = .ok (.ireturn, 1) := by decide +kernel
theorem dX8_count_58 : decode cX8_count 58 = .ok (.aload_n 0, 1) := by decide +kernel
theorem dX8_count_59 : decode cX8_count 59 = .ok (.getfield 7, 3) := by decide +kernel
theorem dX8_count_62 : decode cX8_count 62 = .ok (.iload_n 1, 1) := by decide +kernel
theorem dX8_count_63 : decode cX8_count 63 = .ok (.iconst 2, 1) := by decide +kernel
theorem dX8_count_64 : decode cX8_count 64 = .ok (.isub, 1) := by decide +kernel
theorem dX8_count_65 : decode cX8_count 65 = .ok (.iaload, 1) := by decide +kernel
theorem dX8_count_66 : decode cX8_count 66 = .ok (.ireturn, 1) := by decide +kernel
theorem dX8_count_67 : decode cX8_count 67 = .ok (.aload_n 0, 1) := by decide +kernel
theorem dX8_count_68 : decode cX8_count 68 = .ok (.getfield 189, 3) := by decide +kernel
theorem dX8_count_71 : decode cX8_count 71 = .ok (.ireturn, 1) := by decide +kernel
theorem dX8_count_72 : decode cX8_count 72 = .ok (.aload_n 0, 1) := by decide +kernel
theorem dX8_count_73 : decode cX8_count 73 = .ok (.getfield 213, 3) := by decide +kernel
theorem dX8_count_76 : decode cX8_count 76 = .ok (.ireturn, 1) := by decide +kernel
theorem dX8_count_77 : decode cX8_count 77 = .ok (.bipush (-2), 2) := by decide +kernel
theorem dX8_count_79 : decode cX8_count 79 = .ok (.ireturn, 1) := by decide +kernel
set_option maxRecDepth 20000 in
theorem ggX8_digest_X8_count : GoodIn wsX8_digest wsX8_count := goodIn_r _ [11, 12, 13, 14, 15, 16, 17, 10, 18, 6, 3, 4, 19, 20, 21, 22, 23, 24, 25, 26, 27, 28, 29, 30, 31, 32, 5, 33, 34, 35, 36, 37, 38, 39, 40, 41, 42, 43, 44, 45, 46, 47, 48, 49, 50, 51, 52, 53, 54, 55, 56, 57, 58, 59, 60, 61, 62, 63, 64, 65, 66, 67, 68, 69, 70, 71, 72, 73, 146, 147, 148, 149, 150, 151, 152, 153, 154, 155, 156, 157, 158, 159, 160, 161, 162, 163, 164, 165, 166, 167, 168, 169, 170, 171, 172, 173, 174] (by decide +kernel) (by decide +kernel)
set_option maxRecDepth 20000 in
theorem gX8_digest_X8_count : GoodIn wsX8_digest (wsV RX8 231 RX8 yX8_count wsX8_count) := goodIn_app (goodIn_of _ (by decide +kernel)) ggX8_digest_X8_count
set_option maxRecDepth 20000 in
theorem ggX8_digest_X8_faultOf : GoodIn wsX8_digest wsX8_faultOf := goodIn_r _ [28, 29, 30, 31, 10, 32, 3, 12, 4, 5, 33, 34, 35, 36, 37, 38, 39, 40, 41, 42, 43, 44, 6, 45, 146, 147, 148, 149, 150, 151, 152, 153, 154, 155, 156, 157, 158, 159, 160, 161, 162, 163, 164, 165, 166, 167, 168, 169, 170, 171, 172, 173, 174] (by decide +kernel) (by decide +kernel)
set_option maxRecDepth 20000 in
theorem gX8_digest_X8_faultOf : GoodIn wsX8_digest (wsV RX8 107 RX8 yX8_faultOf wsX8_faultOf) := goodIn_app (goodIn_of _ (by decide +kernel)) ggX8_digest_X8_faultOf
set_option maxRecDepth 20000 in
theorem ggX8_digest_X8_stateOf : GoodIn wsX8_digest wsX8_stateOf := goodIn_r _ [77, 19, 50, 51, 52, 46, 47, 48, 10, 49, 20, 3, 53, 54, 55, 5, 56, 57, 58, 59, 4, 60, 61, 62, 63, 64, 45, 65, 66, 67, 68, 69, 70, 71, 72, 73, 146, 147, 148, 149, 150, 151, 152, 153, 154, 155, 156, 157, 158, 159, 160, 161, 162, 163, 164, 165, 166, 167, 168, 169, 170, 171, 172, 173, 174] (by decide +kernel) (by decide +kernel)
set_option maxRecDepth 20000 in
theorem gX8_digest_X8_stateOf : GoodIn wsX8_digest (wsV RX8 152 RX8 yX8_stateOf wsX8_stateOf) := goodIn_app (goodIn_of _ (by decide +kernel)) ggX8_digest_X8_stateOf
set_option maxRecDepth 20000 in
theorem ggX8_digest_X8_restOf : GoodIn wsX8_digest wsX8_restOf := goodIn_r _ [81, 3, 55, 82, 83, 53, 21, 22, 23, 10, 24, 25, 26, 27, 28, 29, 30, 31, 32, 12, 4, 5, 33, 34, 35, 36, 37, 38, 39, 40, 41, 42, 43, 44, 6, 45, 56, 57, 58, 59, 19, 60, 65, 66, 67, 68, 54, 69, 70, 71, 72, 73, 146, 147, 148, 149, 150, 151, 152, 153, 154, 155, 156, 157, 158, 159, 160, 161, 162, 163, 164, 165, 166, 167, 168, 169, 170, 171, 172, 173, 174] (by decide +kernel) (by decide +kernel)
set_option maxRecDepth 20000 in
theorem gX8_digest_X8_restOf : GoodIn wsX8_digest (wsV RX8 169 RX8 yX8_restOf wsX8_restOf) := goodIn_app (goodIn_of _ (by decide +kernel)) ggX8_digest_X8_restOf
set_option maxRecDepth 20000 in
theorem ggX8_digest_X8_downBy : GoodIn wsX8_digest wsX8_downBy := goodIn_r _ [87, 3, 21, 22, 23, 10, 24, 25, 26, 27, 28, 29, 30, 31, 32, 12, 4, 5, 33, 34, 35, 36, 37, 38, 39, 40, 41, 42, 43, 44, 6, 45, 56, 57, 58, 59, 19, 60, 88, 89, 90, 91, 92, 93, 94, 95, 55, 96, 97, 98, 99, 53, 65, 66, 67, 68, 54, 69, 70, 71, 72, 73, 146, 147, 148, 149, 150, 151, 152, 153, 154, 155, 156, 157, 158, 159, 160, 161, 162, 163, 164, 165, 166, 167, 168, 169, 170, 171, 172, 173, 174] (by decide +kernel) (by decide +kernel)
set_option maxRecDepth 20000 in
theorem gX8_digest_X8_downBy : GoodIn wsX8_digest (wsV RX8 183 RX8 yX8_downBy wsX8_downBy) := goodIn_app (goodIn_of _ (by decide +kernel)) ggX8_digest_X8_downBy
set_option maxRecDepth 20000 in
theorem ggX8_digest_X8_hidOf : GoodIn wsX8_digest wsX8_hidOf := goodIn_r _ [103, 60, 4, 104, 105, 106, 10, 107, 13, 21, 22, 23, 24, 25, 26, 27, 28, 29, 30, 31, 32, 3, 12, 5, 33, 34, 35, 36, 37, 38, 39, 40, 41, 42, 43, 44, 6, 45, 108, 109, 110, 111, 112, 113, 53, 114, 46, 47, 48, 49, 20, 50, 51, 52, 19, 54, 55, 56, 57, 58, 59, 61, 62, 63, 64, 65, 66, 67, 68, 69, 70, 71, 72, 73, 146, 147, 148, 149, 150, 151, 152, 153, 154, 155, 156, 157, 158, 159, 160, 161, 162, 163, 164, 165, 166, 167, 168, 169, 170, 171, 172, 173, 174] (by decide +kernel) (by decide +kernel)
set_option maxRecDepth 20000 in
theorem gX8_digest_X8_hidOf : GoodIn wsX8_digest (wsV RX8 198 RX8 yX8_hidOf wsX8_hidOf) := goodIn_app (goodIn_of _ (by decide +kernel)) ggX8_digest_X8_hidOf
set_option maxRecDepth 20000 in
theorem ggX8_digest_X8_payerOf : GoodIn wsX8_digest wsX8_payerOf := goodIn_r _ [118, 3, 53, 69, 55, 46, 47, 48, 10, 49, 20, 50, 51, 52, 19, 54, 5, 56, 57, 58, 59, 4, 60, 61, 62, 63, 64, 45, 65, 66, 67, 68, 70, 71, 72, 73, 146, 147, 148, 149, 150, 151, 152, 153, 154, 155, 156, 157, 158, 159, 160, 161, 162, 163, 164, 165, 166, 167, 168, 169, 170, 171, 172, 173, 174] (by decide +kernel) (by decide +kernel)
set_option maxRecDepth 20000 in
theorem gX8_digest_X8_payerOf : GoodIn wsX8_digest (wsV RX8 159 RX8 yX8_payerOf wsX8_payerOf) := goodIn_app (goodIn_of _ (by decide +kernel)) ggX8_digest_X8_payerOf
set_option maxRecDepth 20000 in
theorem ggX8_digest_X8_best : GoodIn wsX8_digest wsX8_best := goodIn_r _ [122, 123, 124, 125, 126, 10, 127, 6, 21, 22, 23, 24, 25, 26, 27, 28, 29, 30, 31, 32, 3, 12, 4, 5, 33, 34, 35, 36, 37, 38, 39, 40, 41, 42, 43, 44, 45, 128, 129, 130, 131, 132, 133, 134, 135, 55, 19, 83, 53, 56, 57, 58, 59, 60, 61, 62, 63, 64, 65, 66, 67, 68, 54, 69, 70, 71, 72, 73, 146, 147, 148, 149, 150, 151, 152, 153, 154, 155, 156, 157, 158, 159, 160, 161, 162, 163, 164, 165, 166, 167, 168, 169, 170, 171, 172, 173, 174] (by decide +kernel) (by decide +kernel)
set_option maxRecDepth 20000 in
theorem gX8_digest_X8_best : GoodIn wsX8_digest (wsV RX8 234 RX8 yX8_best wsX8_best) := goodIn_app (goodIn_of _ (by decide +kernel)) ggX8_digest_X8_best
set_option maxRecDepth 20000 in
theorem ggX8_digest_X8_beggarsNow : GoodIn wsX8_digest wsX8_beggarsNow := goodIn_r _ [139, 6, 3, 51, 50, 21, 22, 23, 10, 24, 25, 26, 27, 28, 29, 30, 31, 32, 12, 4, 5, 33, 34, 35, 36, 37, 38, 39, 40, 41, 42, 43, 44, 45, 46, 47, 48, 49, 20, 52, 53, 19, 54, 55, 56, 57, 58, 59, 60, 61, 62, 63, 64, 65, 66, 67, 68, 69, 70, 71, 72, 73, 146, 147, 148, 149, 150, 151, 152, 153, 154, 155, 156, 157, 158, 159, 160, 161, 162, 163, 164, 165, 166, 167, 168, 169, 170, 171, 172, 173, 174] (by decide +kernel) (by decide +kernel)
set_option maxRecDepth 20000 in
theorem gX8_digest_X8_beggarsNow : GoodIn wsX8_digest (wsV RX8 162 RX8 yX8_beggarsNow wsX8_beggarsNow) := goodIn_app (goodIn_of _ (by decide +kernel)) ggX8_digest_X8_beggarsNow
set_option maxRecDepth 20000 in
theorem ggX8_digest_X8_unlikeNow : GoodIn wsX8_digest wsX8_unlikeNow := goodIn_r _ [107, 13, 21, 22, 23, 10, 24, 25, 26, 27, 28, 29, 30, 31, 32, 3, 12, 4, 5, 33, 34, 35, 36, 37, 38, 39, 40, 41, 42, 43, 44, 6, 45, 108, 109, 110, 111, 112, 113, 53, 114, 46, 47, 48, 49, 20, 50, 51, 52, 19, 54, 55, 56, 57, 58, 59, 60, 61, 62, 63, 64, 65, 66, 67, 68, 69, 70, 71, 72, 73, 146, 147, 148, 149, 150, 151, 152, 153, 154, 155, 156, 157, 158, 159, 160, 161, 162, 163, 164, 165, 166, 167, 168, 169, 170, 171, 172, 173, 174] (by decide +kernel) (by decide +kernel)
set_option maxRecDepth 20000 in
theorem gX8_digest_X8_unlikeNow : GoodIn wsX8_digest (wsV RX8 195 RX8 yX8_unlikeNow wsX8_unlikeNow) := goodIn_app (goodIn_of _ (by decide +kernel)) ggX8_digest_X8_unlikeNow
set_option maxRecDepth 20000 in
theorem ggX8_digest_X8_luckOf : GoodIn wsX8_digest wsX8_luckOf := goodIn_r _ [142, 143, 144, 10, 145] (by decide +kernel) (by decide +kernel)
set_option maxRecDepth 20000 in
theorem gX8_digest_X8_luckOf : GoodIn wsX8_digest (va_wsS RX8 205 yX8_luckOf wsX8_luckOf) := goodIn_app (goodIn_of _ (by decide +kernel)) ggX8_digest_X8_luckOf
theorem dX8_digest_0 : decode cX8_digest 0 = .ok (.ldc2_w 227, 3) := by decide +kernel
theorem dX8_digest_3 : decode cX8_digest 3 = .ok (.lstore_n 1, 1) := by decide +kernel
theorem dX8_digest_4 : decode cX8_digest 4 = .ok (.iconst 0, 1) := by decide +kernel
theorem dX8_digest_5 : decode cX8_digest 5 = .ok (.istore_n 3, 1) := by decide +kernel
theorem dX8_digest_6 : decode cX8_digest 6 = .ok (.iload_n 3, 1) := by decide +kernel
theorem dX8_digest_7 : decode cX8_digest 7 = .ok (.bipush 8, 2) := by decide +kernel
theorem dX8_digest_9 : decode cX8_digest 9 = .ok (.if_icmp .ge 22, 3) := by decide +kernel
theorem dX8_digest_12 : decode cX8_digest 12 = .ok (.ldc2_w 229, 3) := by decide +kernel
theorem dX8_digest_15 : decode cX8_digest 15 = .ok (.lload_n 1, 1) := by decide +kernel
theorem dX8_digest_16 : decode cX8_digest 16 = .ok (.lmul, 1) := by decide +kernel
theorem dX8_digest_17 : decode cX8_digest 17 = .ok (.aload_n 0, 1) := by decide +kernel
theorem dX8_digest_18 : decode cX8_digest 18 = .ok (.iload_n 3, 1) := by decide +kernel
theorem dX8_digest_19 : decode cX8_digest 19 = .ok (.invokevirtual 231, 3) := by decide +kernel
theorem dX8_digest_22 : decode cX8_digest 22 = .ok (.i2l, 1) := by decide +kernel
