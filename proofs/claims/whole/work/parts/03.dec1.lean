theorem dX0_init_0 : decode cX0_init 0 = .ok (.aload_n 0, 1) := by decide +kernel
theorem dX0_init_1 : decode cX0_init 1 = .ok (.invokespecial 3, 3) := by decide +kernel
theorem dX0_init_4 : decode cX0_init 4 = .ok (.aload_n 0, 1) := by decide +kernel
theorem dX0_init_5 : decode cX0_init 5 = .ok (.bipush 48, 2) := by decide +kernel
theorem dX0_init_7 : decode cX0_init 7 = .ok (.newarray .int, 2) := by decide +kernel
theorem dX0_init_9 : decode cX0_init 9 = .ok (.putfield 9, 3) := by decide +kernel
theorem dX0_init_12 : decode cX0_init 12 = .ok (.aload_n 0, 1) := by decide +kernel
theorem dX0_init_13 : decode cX0_init 13 = .ok (.bipush 48, 2) := by decide +kernel
theorem dX0_init_15 : decode cX0_init 15 = .ok (.newarray .int, 2) := by decide +kernel
theorem dX0_init_17 : decode cX0_init 17 = .ok (.putfield 15, 3) := by decide +kernel
theorem dX0_init_20 : decode cX0_init 20 = .ok (.aload_n 0, 1) := by decide +kernel
theorem dX0_init_21 : decode cX0_init 21 = .ok (.bipush 6, 2) := by decide +kernel
theorem dX0_init_23 : decode cX0_init 23 = .ok (.newarray .int, 2) := by decide +kernel
theorem dX0_init_25 : decode cX0_init 25 = .ok (.putfield 18, 3) := by decide +kernel
theorem dX0_init_28 : decode cX0_init 28 = .ok (.aload_n 0, 1) := by decide +kernel
theorem dX0_init_29 : decode cX0_init 29 = .ok (.bipush 6, 2) := by decide +kernel
theorem dX0_init_31 : decode cX0_init 31 = .ok (.newarray .int, 2) := by decide +kernel
theorem dX0_init_33 : decode cX0_init 33 = .ok (.putfield 21, 3) := by decide +kernel
theorem dX0_init_36 : decode cX0_init 36 = .ok (.aload_n 0, 1) := by decide +kernel
theorem dX0_init_37 : decode cX0_init 37 = .ok (.bipush 6, 2) := by decide +kernel
theorem dX0_init_39 : decode cX0_init 39 = .ok (.newarray .int, 2) := by decide +kernel
theorem dX0_init_41 : decode cX0_init 41 = .ok (.putfield 24, 3) := by decide +kernel
theorem dX0_init_44 : decode cX0_init 44 = .ok (.aload_n 0, 1) := by decide +kernel
theorem dX0_init_45 : decode cX0_init 45 = .ok (.bipush 6, 2) := by decide +kernel
theorem dX0_init_47 : decode cX0_init 47 = .ok (.newarray .int, 2) := by decide +kernel
theorem dX0_init_49 : decode cX0_init 49 = .ok (.putfield 27, 3) := by decide +kernel
theorem dX0_init_52 : decode cX0_init 52 = .ok (.aload_n 0, 1) := by decide +kernel
theorem dX0_init_53 : decode cX0_init 53 = .ok (.bipush 6, 2) := by decide +kernel
theorem dX0_init_55 : decode cX0_init 55 = .ok (.newarray .int, 2) := by decide +kernel
theorem dX0_init_57 : decode cX0_init 57 = .ok (.putfield 30, 3) := by decide +kernel
theorem dX0_init_60 : decode cX0_init 60 = .ok (.aload_n 0, 1) := by decide +kernel
theorem dX0_init_61 : decode cX0_init 61 = .ok (.bipush 48, 2) := by decide +kernel
theorem dX0_init_63 : decode cX0_init 63 = .ok (.newarray .int, 2) := by decide +kernel
theorem dX0_init_65 : decode cX0_init 65 = .ok (.putfield 33, 3) := by decide +kernel
theorem dX0_init_68 : decode cX0_init 68 = .ok (.aload_n 0, 1) := by decide +kernel
theorem dX0_init_69 : decode cX0_init 69 = .ok (.iconst 0, 1) := by decide +kernel
theorem dX0_init_70 : decode cX0_init 70 = .ok (.putfield 36, 3) := by decide +kernel
theorem dX0_init_73 : decode cX0_init 73 = .ok (.aload_n 0, 1) := by decide +kernel
theorem dX0_init_74 : decode cX0_init 74 = .ok (.iconst (-1), 1) := by decide +kernel
theorem dX0_init_75 : decode cX0_init 75 = .ok (.putfield 40, 3) := by decide +kernel
theorem dX0_init_78 : decode cX0_init 78 = .ok (.aload_n 0, 1) := by decide +kernel
theorem dX0_init_79 : decode cX0_init 79 = .ok (.aload_n 1, 1) := by decide +kernel
theorem dX0_init_80 : decode cX0_init 80 = .ok (.putfield 43, 3) := by decide +kernel
theorem dX0_init_83 : decode cX0_init 83 = .ok (.return_, 1) := by decide +kernel
set_option maxRecDepth 20000 in
theorem ggX0_understand_X6_faultInRows : GoodIn wsX0_understand wsX6_faultInRows := goodIn_r _ [12, 13, 14, 15, 16, 11, 17, 18, 19, 20, 47, 48] (by decide +kernel) (by decide +kernel)
set_option maxRecDepth 20000 in
theorem gX0_understand_X6_faultInRows : GoodIn wsX0_understand (wsV RX0 52 RX6 yX6_faultInRows wsX6_faultInRows) := goodIn_app (goodIn_of _ (by decide +kernel)) ggX0_understand_X6_faultInRows
set_option maxRecDepth 20000 in
theorem ggX0_understand_X0_seat : GoodIn wsX0_understand wsX0_seat := goodIn_r _ [25, 26, 6, 18, 19, 20, 27, 28, 29, 30, 31, 32, 33, 34, 35, 36, 37] (by decide +kernel) (by decide +kernel)
set_option maxRecDepth 20000 in
theorem gX0_understand_X0_seat : GoodIn wsX0_understand (wsV RX0 64 RX0 yX0_seat wsX0_seat) := goodIn_app (goodIn_of _ (by decide +kernel)) ggX0_understand_X0_seat
theorem dX0_understand_0 : decode cX0_understand 0 = .ok (.aload_n 0, 1) := by decide +kernel
theorem dX0_understand_1 : decode cX0_understand 1 = .ok (.getfield 43, 3) := by decide +kernel
theorem dX0_understand_4 : decode cX0_understand 4 = .ok (.getfield 47, 3) := by decide +kernel
theorem dX0_understand_7 : decode cX0_understand 7 = .ok (.istore_n 2, 1) := by decide +kernel
theorem dX0_understand_8 : decode cX0_understand 8 = .ok (.aload_n 0, 1) := by decide +kernel
theorem dX0_understand_9 : decode cX0_understand 9 = .ok (.aload_n 1, 1) := by decide +kernel
theorem dX0_understand_10 : decode cX0_understand 10 = .ok (.iload_n 2, 1) := by decide +kernel
theorem dX0_understand_11 : decode cX0_understand 11 = .ok (.bipush 8, 2) := by decide +kernel
theorem dX0_understand_13 : decode cX0_understand 13 = .ok (.iconst 1, 1) := by decide +kernel
theorem dX0_understand_14 : decode cX0_understand 14 = .ok (.invokevirtual 52, 3) := by decide +kernel
theorem dX0_understand_17 : decode cX0_understand 17 = .ok (.putfield 40, 3) := by decide +kernel
theorem dX0_understand_20 : decode cX0_understand 20 = .ok (.aload_n 0, 1) := by decide +kernel
theorem dX0_understand_21 : decode cX0_understand 21 = .ok (.aload_n 0, 1) := by decide +kernel
theorem dX0_understand_22 : decode cX0_understand 22 = .ok (.getfield 40, 3) := by decide +kernel
theorem dX0_understand_25 : decode cX0_understand 25 = .ok (.iconst (-1), 1) := by decide +kernel
theorem dX0_understand_26 : decode cX0_understand 26 = .ok (.if_icmp .ne 16, 3) := by decide +kernel
theorem dX0_understand_29 : decode cX0_understand 29 = .ok (.aload_n 1, 1) := by decide +kernel
theorem dX0_understand_30 : decode cX0_understand 30 = .ok (.getfield 58, 3) := by decide +kernel
theorem dX0_understand_33 : decode cX0_understand 33 = .ok (.iconst 1, 1) := by decide +kernel
theorem dX0_understand_34 : decode cX0_understand 34 = .ok (.iadd, 1) := by decide +kernel
theorem dX0_understand_35 : decode cX0_understand 35 = .ok (.iload_n 2, 1) := by decide +kernel
theorem dX0_understand_36 : decode cX0_understand 36 = .ok (.iconst 1, 1) := by decide +kernel
theorem dX0_understand_37 : decode cX0_understand 37 = .ok (.iadd, 1) := by decide +kernel
theorem dX0_understand_38 : decode cX0_understand 38 = .ok (.idiv, 1) := by decide +kernel
theorem dX0_understand_39 : decode cX0_understand 39 = .ok (.goto 4, 3) := by decide +kernel
theorem dX0_understand_42 : decode cX0_understand 42 = .ok (.iconst 0, 1) := by decide +kernel
theorem dX0_understand_43 : decode cX0_understand 43 = .ok (.putfield 36, 3) := by decide +kernel
theorem dX0_understand_46 : decode cX0_understand 46 = .ok (.iload_n 2, 1) := by decide +kernel
theorem dX0_understand_47 : decode cX0_understand 47 = .ok (.ifCond .ne 8, 3) := by decide +kernel
theorem dX0_understand_50 : decode cX0_understand 50 = .ok (.aload_n 0, 1) := by decide +kernel
theorem dX0_understand_51 : decode cX0_understand 51 = .ok (.iconst 0, 1) := by decide +kernel
theorem dX0_understand_52 : decode cX0_understand 52 = .ok (.putfield 36, 3) := by decide +kernel
theorem dX0_understand_55 : decode cX0_understand 55 = .ok (.iconst 0, 1) := by decide +kernel
theorem dX0_understand_56 : decode cX0_understand 56 = .ok (.istore_n 3, 1) := by decide +kernel
theorem dX0_understand_57 : decode cX0_understand 57 = .ok (.iload_n 3, 1) := by decide +kernel
theorem dX0_understand_58 : decode cX0_understand 58 = .ok (.bipush 48, 2) := by decide +kernel
theorem dX0_understand_60 : decode cX0_understand 60 = .ok (.if_icmp .ge 16, 3) := by decide +kernel
theorem dX0_understand_63 : decode cX0_understand 63 = .ok (.aload_n 0, 1) := by decide +kernel
theorem dX0_understand_64 : decode cX0_understand 64 = .ok (.getfield 15, 3) := by decide +kernel
theorem dX0_understand_67 : decode cX0_understand 67 = .ok (.iload_n 3, 1) := by decide +kernel
theorem dX0_understand_68 : decode cX0_understand 68 = .ok (.iconst 0, 1) := by decide +kernel
theorem dX0_understand_69 : decode cX0_understand 69 = .ok (.iastore, 1) := by decide +kernel
theorem dX0_understand_70 : decode cX0_understand 70 = .ok (.iinc 3 1, 3) := by decide +kernel
theorem dX0_understand_73 : decode cX0_understand 73 = .ok (.goto (-16), 3) := by decide +kernel
theorem dX0_understand_76 : decode cX0_understand 76 = .ok (.iconst 0, 1) := by decide +kernel
theorem dX0_understand_77 : decode cX0_understand 77 = .ok (.istore_n 3, 1) := by decide +kernel
theorem dX0_understand_78 : decode cX0_understand 78 = .ok (.iload_n 3, 1) := by decide +kernel
theorem dX0_understand_79 : decode cX0_understand 79 = .ok (.aload_n 0, 1) := by decide +kernel
theorem dX0_understand_80 : decode cX0_understand 80 = .ok (.getfield 36, 3) := by decide +kernel
theorem dX0_understand_83 : decode cX0_understand 83 = .ok (.if_icmp .ge 44, 3) := by decide +kernel
theorem dX0_understand_86 : decode cX0_understand 86 = .ok (.iconst 0, 1) := by decide +kernel
theorem dX0_understand_87 : decode cX0_understand 87 = .ok (.istore 4, 2) := by decide +kernel
theorem dX0_understand_89 : decode cX0_understand 89 = .ok (.iload 4, 2) := by decide +kernel
theorem dX0_understand_91 : decode cX0_understand 91 = .ok (.iload_n 2, 1) := by decide +kernel
theorem dX0_understand_92 : decode cX0_understand 92 = .ok (.if_icmp .ge 29, 3) := by decide +kernel
theorem dX0_understand_95 : decode cX0_understand 95 = .ok (.aload_n 0, 1) := by decide +kernel
theorem dX0_understand_96 : decode cX0_understand 96 = .ok (.iload_n 3, 1) := by decide +kernel
theorem dX0_understand_97 : decode cX0_understand 97 = .ok (.iload 4, 2) := by decide +kernel
theorem dX0_understand_99 : decode cX0_understand 99 = .ok (.aload_n 1, 1) := by decide +kernel
theorem dX0_understand_100 : decode cX0_understand 100 = .ok (.getfield 61, 3) := by decide +kernel
theorem dX0_understand_103 : decode cX0_understand 103 = .ok (.iload_n 3, 1) := by decide +kernel
theorem dX0_understand_104 : decode cX0_understand 104 = .ok (.iload_n 2, 1) := by decide +kernel
theorem dX0_understand_105 : decode cX0_understand 105 = .ok (.iconst 1, 1) := by decide +kernel
theorem dX0_understand_106 : decode cX0_understand 106 = .ok (.iadd, 1) := by decide +kernel
theorem dX0_understand_107 : decode cX0_understand 107 = .ok (.imul, 1) := by decide +kernel
theorem dX0_understand_108 : decode cX0_understand 108 = .ok (.iload 4, 2) := by decide +kernel
theorem dX0_understand_110 : decode cX0_understand 110 = .ok (.iadd, 1) := by decide +kernel
theorem dX0_understand_111 : decode cX0_understand 111 = .ok (.iaload, 1) := by decide +kernel
theorem dX0_understand_112 : decode cX0_understand 112 = .ok (.invokevirtual 64, 3) := by decide +kernel
theorem dX0_understand_115 : decode cX0_understand 115 = .ok (.iinc 4 1, 3) := by decide +kernel
theorem dX0_understand_118 : decode cX0_understand 118 = .ok (.goto (-29), 3) := by decide +kernel
theorem dX0_understand_121 : decode cX0_understand 121 = .ok (.iinc 3 1, 3) := by decide +kernel
theorem dX0_understand_124 : decode cX0_understand 124 = .ok (.goto (-46), 3) := by decide +kernel
theorem dX0_understand_127 : decode cX0_understand 127 = .ok (.return_, 1) := by decide +kernel
set_option maxRecDepth 20000 in
theorem ggX0_seat_X7_isIn : GoodIn wsX0_seat wsX7_isIn := goodIn_r _ [5] (by decide +kernel) (by decide +kernel)
set_option maxRecDepth 20000 in
theorem gX0_seat_X7_isIn_n68 : GoodIn wsX0_seat (wsX7_isIn) := ggX0_seat_X7_isIn
theorem dX0_seat_0 : decode cX0_seat 0 = .ok (.iload_n 3, 1) := by decide +kernel
theorem dX0_seat_1 : decode cX0_seat 1 = .ok (.bipush 45, 2) := by decide +kernel
theorem dX0_seat_3 : decode cX0_seat 3 = .ok (.if_icmp .ne 7, 3) := by decide +kernel
theorem dX0_seat_6 : decode cX0_seat 6 = .ok (.iconst (-1), 1) := by decide +kernel
theorem dX0_seat_7 : decode cX0_seat 7 = .ok (.goto 7, 3) := by decide +kernel
theorem dX0_seat_10 : decode cX0_seat 10 = .ok (.iload_n 3, 1) := by decide +kernel
theorem dX0_seat_11 : decode cX0_seat 11 = .ok (.bipush 48, 2) := by decide +kernel
theorem dX0_seat_13 : decode cX0_seat 13 = .ok (.isub, 1) := by decide +kernel
theorem dX0_seat_14 : decode cX0_seat 14 = .ok (.istore 4, 2) := by decide +kernel
theorem dX0_seat_16 : decode cX0_seat 16 = .ok (.aload_n 0, 1) := by decide +kernel
theorem dX0_seat_17 : decode cX0_seat 17 = .ok (.getfield 9, 3) := by decide +kernel
theorem dX0_seat_20 : decode cX0_seat 20 = .ok (.iload_n 1, 1) := by decide +kernel
theorem dX0_seat_21 : decode cX0_seat 21 = .ok (.bipush 6, 2) := by decide +kernel
theorem dX0_seat_23 : decode cX0_seat 23 = .ok (.imul, 1) := by decide +kernel
theorem dX0_seat_24 : decode cX0_seat 24 = .ok (.iload_n 2, 1) := by decide +kernel
theorem dX0_seat_25 : decode cX0_seat 25 = .ok (.iadd, 1) := by decide +kernel
theorem dX0_seat_26 : decode cX0_seat 26 = .ok (.iload 4, 2) := by decide +kernel
theorem dX0_seat_28 : decode cX0_seat 28 = .ok (.iastore, 1) := by decide +kernel
theorem dX0_seat_29 : decode cX0_seat 29 = .ok (.iload 4, 2) := by decide +kernel
theorem dX0_seat_31 : decode cX0_seat 31 = .ok (.iconst 0, 1) := by decide +kernel
theorem dX0_seat_32 : decode cX0_seat 32 = .ok (.iconst 5, 1) := by decide +kernel
theorem dX0_seat_33 : decode cX0_seat 33 = .ok (.invokestatic 68, 3) := by decide +kernel
theorem dX0_seat_36 : decode cX0_seat 36 = .ok (.ifCond .eq 21, 3) := by decide +kernel
theorem dX0_seat_39 : decode cX0_seat 39 = .ok (.aload_n 0, 1) := by decide +kernel
theorem dX0_seat_40 : decode cX0_seat 40 = .ok (.getfield 15, 3) := by decide +kernel
theorem dX0_seat_43 : decode cX0_seat 43 = .ok (.iload_n 1, 1) := by decide +kernel
theorem dX0_seat_44 : decode cX0_seat 44 = .ok (.bipush 6, 2) := by decide +kernel
theorem dX0_seat_46 : decode cX0_seat 46 = .ok (.imul, 1) := by decide +kernel
theorem dX0_seat_47 : decode cX0_seat 47 = .ok (.iload 4, 2) := by decide +kernel
theorem dX0_seat_49 : decode cX0_seat 49 = .ok (.iadd, 1) := by decide +kernel
theorem dX0_seat_50 : decode cX0_seat 50 = .ok (.dup2, 1) := by decide +kernel
theorem dX0_seat_51 : decode cX0_seat 51 = .ok (.iaload, 1) := by decide +kernel
theorem dX0_seat_52 : decode cX0_seat 52 = .ok (.iconst 1, 1) := by decide +kernel
theorem dX0_seat_53 : decode cX0_seat 53 = .ok (.iload_n 2, 1) := by decide +kernel
theorem dX0_seat_54 : decode cX0_seat 54 = .ok (.ishl, 1) := by decide +kernel
theorem dX0_seat_55 : decode cX0_seat 55 = .ok (.ior, 1) := by decide +kernel
theorem dX0_seat_56 : decode cX0_seat 56 = .ok (.iastore, 1) := by decide +kernel
theorem dX0_seat_57 : decode cX0_seat 57 = .ok (.return_, 1) := by decide +kernel
theorem dX0_tableOf_0 : decode cX0_tableOf 0 = .ok (.aload_n 0, 1) := by decide +kernel
theorem dX0_tableOf_1 : decode cX0_tableOf 1 = .ok (.getfield 9, 3) := by decide +kernel
theorem dX0_tableOf_4 : decode cX0_tableOf 4 = .ok (.iload_n 1, 1) := by decide +kernel
theorem dX0_tableOf_5 : decode cX0_tableOf 5 = .ok (.bipush 6, 2) := by decide +kernel
theorem dX0_tableOf_7 : decode cX0_tableOf 7 = .ok (.imul, 1) := by decide +kernel
theorem dX0_tableOf_8 : decode cX0_tableOf 8 = .ok (.iload_n 2, 1) := by decide +kernel
theorem dX0_tableOf_9 : decode cX0_tableOf 9 = .ok (.iadd, 1) := by decide +kernel
theorem dX0_tableOf_10 : decode cX0_tableOf 10 = .ok (.iaload, 1) := by decide +kernel
theorem dX0_tableOf_11 : decode cX0_tableOf 11 = .ok (.ireturn, 1) := by decide +kernel
theorem dX0_seatedAt_0 : decode cX0_seatedAt 0 = .ok (.aload_n 0, 1) := by decide +kernel
theorem dX0_seatedAt_1 : decode cX0_seatedAt 1 = .ok (.getfield 15, 3) := by decide +kernel
theorem dX0_seatedAt_4 : decode cX0_seatedAt 4 = .ok (.iload_n 1, 1) := by decide +kernel
theorem dX0_seatedAt_5 : decode cX0_seatedAt 5 = .ok (.bipush 6, 2) := by decide +kernel
theorem dX0_seatedAt_7 : decode cX0_seatedAt 7 = .ok (.imul, 1) := by decide +kernel
theorem dX0_seatedAt_8 : decode cX0_seatedAt 8 = .ok (.iload_n 2, 1) := by decide +kernel
theorem dX0_seatedAt_9 : decode cX0_seatedAt 9 = .ok (.iadd, 1) := by decide +kernel
theorem dX0_seatedAt_10 : decode cX0_seatedAt 10 = .ok (.iaload, 1) := by decide +kernel
theorem dX0_seatedAt_11 : decode cX0_seatedAt 11 = .ok (.ireturn, 1) := by decide +kernel
set_option maxRecDepth 20000 in
theorem ggX0_meals_X0_seatedAt : GoodIn wsX0_meals wsX0_seatedAt := goodIn_r _ [6, 7, 15, 16, 17, 18, 19, 20, 21, 22, 23, 24, 25] (by decide +kernel) (by decide +kernel)
set_option maxRecDepth 20000 in
theorem gX0_meals_X0_seatedAt : GoodIn wsX0_meals (wsV RX0 72 RX0 yX0_seatedAt wsX0_seatedAt) := goodIn_app (goodIn_of _ (by decide +kernel)) ggX0_meals_X0_seatedAt
set_option maxRecDepth 20000 in
theorem ggX0_meals_J6_bitCount_0f7a4 : GoodIn wsX0_meals wsJ6_bitCount_0f7a4 := goodIn_r _ [11, 12, 13, 14] (by decide +kernel) (by decide +kernel)
set_option maxRecDepth 20000 in
theorem gX0_meals_J6_bitCount_0f7a4 : GoodIn wsX0_meals (va_wsS RX0 76 yJ6_bitCount_0f7a4 wsJ6_bitCount_0f7a4) := goodIn_app (goodIn_of _ (by decide +kernel)) ggX0_meals_J6_bitCount_0f7a4
theorem dX0_meals_0 : decode cX0_meals 0 = .ok (.iconst 0, 1) := by decide +kernel
theorem dX0_meals_1 : decode cX0_meals 1 = .ok (.istore_n 1, 1) := by decide +kernel
theorem dX0_meals_2 : decode cX0_meals 2 = .ok (.iconst 0, 1) := by decide +kernel
theorem dX0_meals_3 : decode cX0_meals 3 = .ok (.istore_n 2, 1) := by decide +kernel
theorem dX0_meals_4 : decode cX0_meals 4 = .ok (.iload_n 2, 1) := by decide +kernel
theorem dX0_meals_5 : decode cX0_meals 5 = .ok (.aload_n 0, 1) := by decide +kernel
theorem dX0_meals_6 : decode cX0_meals 6 = .ok (.getfield 36, 3) := by decide +kernel
theorem dX0_meals_9 : decode cX0_meals 9 = .ok (.if_icmp .ge 35, 3) := by decide +kernel
theorem dX0_meals_12 : decode cX0_meals 12 = .ok (.iconst 0, 1) := by decide +kernel
theorem dX0_meals_13 : decode cX0_meals 13 = .ok (.istore_n 3, 1) := by decide +kernel
theorem dX0_meals_14 : decode cX0_meals 14 = .ok (.iload_n 3, 1) := by decide +kernel
theorem dX0_meals_15 : decode cX0_meals 15 = .ok (.bipush 6, 2) := by decide +kernel
theorem dX0_meals_17 : decode cX0_meals 17 = .ok (.if_icmp .ge 21, 3) := by decide +kernel
theorem dX0_meals_20 : decode cX0_meals 20 = .ok (.iload_n 1, 1) := by decide +kernel
theorem dX0_meals_21 : decode cX0_meals 21 = .ok (.aload_n 0, 1) := by decide +kernel
theorem dX0_meals_22 : decode cX0_meals 22 = .ok (.iload_n 2, 1) := by decide +kernel
theorem dX0_meals_23 : decode cX0_meals 23 = .ok (.iload_n 3, 1) := by decide +kernel
theorem dX0_meals_24 : decode cX0_meals 24 = .ok (.invokevirtual 72, 3) := by decide +kernel
theorem dX0_meals_27 : decode cX0_meals 27 = .ok (.invokestatic 76, 3) := by decide +kernel
theorem dX0_meals_30 : decode cX0_meals 30 = .ok (.iadd, 1) := by decide +kernel
theorem dX0_meals_31 : decode cX0_meals 31 = .ok (.istore_n 1, 1) := by decide +kernel
theorem dX0_meals_32 : decode cX0_meals 32 = .ok (.iinc 3 1, 3) := by decide +kernel
theorem dX0_meals_35 : decode cX0_meals 35 = .ok (.goto (-21), 3) := by decide +kernel
theorem dX0_meals_38 : decode cX0_meals 38 = .ok (.iinc 2 1, 3) := by decide +kernel
theorem dX0_meals_41 : decode cX0_meals 41 = .ok (.goto (-37), 3) := by decide +kernel
theorem dX0_meals_44 : decode cX0_meals 44 = .ok (.iload_n 1, 1) := by decide +kernel
theorem dX0_meals_45 : decode cX0_meals 45 = .ok (.ireturn, 1) := by decide +kernel
set_option maxRecDepth 20000 in
theorem ggX0_play_X2_tellHandsAtFirst : GoodIn wsX0_play wsX2_tellHandsAtFirst := goodIn_r _ [7, 8, 9, 10, 6, 11, 12, 13, 14, 15, 16, 17, 72, 73, 74, 75, 76, 77, 78, 79, 80] (by decide +kernel) (by decide +kernel)
set_option maxRecDepth 20000 in
theorem gX0_play_X2_tellHandsAtFirst : GoodIn wsX0_play (wsV RX0 82 RX2 yX2_tellHandsAtFirst wsX2_tellHandsAtFirst) := goodIn_app (goodIn_of _ (by decide +kernel)) ggX0_play_X2_tellHandsAtFirst
set_option maxRecDepth 20000 in
theorem ggX0_play_X0_playFromHands : GoodIn wsX0_play wsX0_playFromHands := goodIn_r _ [22, 23, 24, 25, 26, 27, 28, 21, 29, 1, 2, 30, 31, 32, 33, 16, 34, 35, 36, 37, 38, 39, 40, 41, 42, 43, 44, 45, 6, 46, 47, 48, 49, 50, 51, 52, 53, 54, 55, 56, 57, 58, 59, 60, 61, 62, 63, 64, 65, 66, 67, 68, 69, 70, 71, 72, 73, 74, 75, 76, 77, 78, 79, 80] (by decide +kernel) (by decide +kernel)
set_option maxRecDepth 20000 in
theorem gX0_play_X0_playFromHands : GoodIn wsX0_play (wsV RX0 86 RX0 yX0_playFromHands wsX0_playFromHands) := goodIn_app (goodIn_of _ (by decide +kernel)) ggX0_play_X0_playFromHands
theorem dX0_play_0 : decode cX0_play 0 = .ok (.aload_n 0, 1) := by decide +kernel
theorem dX0_play_1 : decode cX0_play 1 = .ok (.getfield 43, 3) := by decide +kernel
theorem dX0_play_4 : decode cX0_play 4 = .ok (.aload_n 0, 1) := by decide +kernel
theorem dX0_play_5 : decode cX0_play 5 = .ok (.getfield 18, 3) := by decide +kernel
theorem dX0_play_8 : decode cX0_play 8 = .ok (.invokevirtual 82, 3) := by decide +kernel
theorem dX0_play_11 : decode cX0_play 11 = .ok (.aload_n 0, 1) := by decide +kernel
theorem dX0_play_12 : decode cX0_play 12 = .ok (.iload_n 1, 1) := by decide +kernel
theorem dX0_play_13 : decode cX0_play 13 = .ok (.invokevirtual 86, 3) := by decide +kernel
theorem dX0_play_16 : decode cX0_play 16 = .ok (.return_, 1) := by decide +kernel
set_option maxRecDepth 20000 in
theorem ggX0_playFromHands_X0_playRound : GoodIn wsX0_playFromHands wsX0_playRound := goodIn_r _ [8, 9, 10, 11, 12, 13, 14, 15, 16, 1, 2, 17, 3, 18, 19, 20, 21, 22, 7, 23, 24, 25, 26, 27, 28, 29, 30, 31, 32, 33, 34, 35, 36, 37, 38, 39, 40, 41, 42, 43, 44, 45, 46, 47, 48, 49, 50, 51, 52, 53, 54, 55, 56, 57, 58, 59, 60, 61, 62, 63] (by decide +kernel) (by decide +kernel)
set_option maxRecDepth 20000 in
theorem gX0_playFromHands_X0_playRound : GoodIn wsX0_playFromHands (wsV RX0 90 RX0 yX0_playRound wsX0_playRound) := goodIn_app (goodIn_of _ (by decide +kernel)) ggX0_playFromHands_X0_playRound
theorem dX0_playFromHands_0 : decode cX0_playFromHands 0 = .ok (.iconst 0, 1) := by decide +kernel
theorem dX0_playFromHands_1 : decode cX0_playFromHands 1 = .ok (.istore_n 2, 1) := by decide +kernel
theorem dX0_playFromHands_2 : decode cX0_playFromHands 2 = .ok (.iload_n 2, 1) := by decide +kernel
theorem dX0_playFromHands_3 : decode cX0_playFromHands 3 = .ok (.bipush 6, 2) := by decide +kernel
theorem dX0_playFromHands_5 : decode cX0_playFromHands 5 = .ok (.if_icmp .ge 30, 3) := by decide +kernel
theorem dX0_playFromHands_8 : decode cX0_playFromHands 8 = .ok (.aload_n 0, 1) := by decide +kernel
theorem dX0_playFromHands_9 : decode cX0_playFromHands 9 = .ok (.getfield 21, 3) := by decide +kernel
theorem dX0_playFromHands_12 : decode cX0_playFromHands 12 = .ok (.iload_n 2, 1) := by decide +kernel
theorem dX0_playFromHands_13 : decode cX0_playFromHands 13 = .ok (.iconst 0, 1) := by decide +kernel
theorem dX0_playFromHands_14 : decode cX0_playFromHands 14 = .ok (.iastore, 1) := by decide +kernel
theorem dX0_playFromHands_15 : decode cX0_playFromHands 15 = .ok (.aload_n 0, 1) := by decide +kernel
theorem dX0_playFromHands_16 : decode cX0_playFromHands 16 = .ok (.getfield 24, 3) := by decide +kernel
theorem dX0_playFromHands_19 : decode cX0_playFromHands 19 = .ok (.iload_n 2, 1) := by decide +kernel
theorem dX0_playFromHands_20 : decode cX0_playFromHands 20 = .ok (.iconst 0, 1) := by decide +kernel
theorem dX0_playFromHands_21 : decode cX0_playFromHands 21 = .ok (.iastore, 1) := by decide +kernel
theorem dX0_playFromHands_22 : decode cX0_playFromHands 22 = .ok (.aload_n 0, 1) := by decide +kernel
theorem dX0_playFromHands_23 : decode cX0_playFromHands 23 = .ok (.getfield 27, 3) := by decide +kernel
theorem dX0_playFromHands_26 : decode cX0_playFromHands 26 = .ok (.iload_n 2, 1) := by decide +kernel
theorem dX0_playFromHands_27 : decode cX0_playFromHands 27 = .ok (.iconst 0, 1) := by decide +kernel
theorem dX0_playFromHands_28 : decode cX0_playFromHands 28 = .ok (.iastore, 1) := by decide +kernel
theorem dX0_playFromHands_29 : decode cX0_playFromHands 29 = .ok (.iinc 2 1, 3) := by decide +kernel
theorem dX0_playFromHands_32 : decode cX0_playFromHands 32 = .ok (.goto (-30), 3) := by decide +kernel
theorem dX0_playFromHands_35 : decode cX0_playFromHands 35 = .ok (.iconst 0, 1) := by decide +kernel
theorem dX0_playFromHands_36 : decode cX0_playFromHands 36 = .ok (.istore_n 2, 1) := by decide +kernel
theorem dX0_playFromHands_37 : decode cX0_playFromHands 37 = .ok (.iload_n 2, 1) := by decide +kernel
theorem dX0_playFromHands_38 : decode cX0_playFromHands 38 = .ok (.iload_n 1, 1) := by decide +kernel
theorem dX0_playFromHands_39 : decode cX0_playFromHands 39 = .ok (.if_icmp .ge 14, 3) := by decide +kernel
theorem dX0_playFromHands_42 : decode cX0_playFromHands 42 = .ok (.aload_n 0, 1) := by decide +kernel
theorem dX0_playFromHands_43 : decode cX0_playFromHands 43 = .ok (.iload_n 2, 1) := by decide +kernel
theorem dX0_playFromHands_44 : decode cX0_playFromHands 44 = .ok (.invokevirtual 90, 3) := by decide +kernel
theorem dX0_playFromHands_47 : decode cX0_playFromHands 47 = .ok (.iinc 2 1, 3) := by decide +kernel
theorem dX0_playFromHands_50 : decode cX0_playFromHands 50 = .ok (.goto (-13), 3) := by decide +kernel
theorem dX0_playFromHands_53 : decode cX0_playFromHands 53 = .ok (.return_, 1) := by decide +kernel
set_option maxRecDepth 20000 in
theorem ggX0_playRound_X0_seatedAt : GoodIn wsX0_playRound wsX0_seatedAt := goodIn_r _ [19, 20, 40, 41, 42, 43, 44, 45, 46, 47, 48, 49, 50] (by decide +kernel) (by decide +kernel)
set_option maxRecDepth 20000 in
theorem gX0_playRound_X0_seatedAt : GoodIn wsX0_playRound (wsV RX0 72 RX0 yX0_seatedAt wsX0_seatedAt) := goodIn_app (goodIn_of _ (by decide +kernel)) ggX0_playRound_X0_seatedAt
set_option maxRecDepth 20000 in
theorem ggX0_playRound_X2_charge : GoodIn wsX0_playRound wsX2_charge := goodIn_r _ [25, 26, 27, 28, 29, 30, 31, 32, 24, 33, 34, 51, 52, 53, 54, 55, 56, 57, 58, 59] (by decide +kernel) (by decide +kernel)
set_option maxRecDepth 20000 in
theorem gX0_playRound_X2_charge : GoodIn wsX0_playRound (wsV RX0 93 RX2 yX2_charge wsX2_charge) := goodIn_app (goodIn_of _ (by decide +kernel)) ggX0_playRound_X2_charge
set_option maxRecDepth 20000 in
theorem ggX0_playRound_X0_tableOf : GoodIn wsX0_playRound wsX0_tableOf := goodIn_r _ [38, 39, 40, 41, 42, 43, 44, 45, 46, 47, 48, 49, 50] (by decide +kernel) (by decide +kernel)
set_option maxRecDepth 20000 in
theorem gX0_playRound_X0_tableOf : GoodIn wsX0_playRound (wsV RX0 97 RX0 yX0_tableOf wsX0_tableOf) := goodIn_app (goodIn_of _ (by decide +kernel)) ggX0_playRound_X0_tableOf
theorem dX0_playRound_0 : decode cX0_playRound 0 = .ok (.iconst 0, 1) := by decide +kernel
theorem dX0_playRound_1 : decode cX0_playRound 1 = .ok (.istore_n 2, 1) := by decide +kernel
theorem dX0_playRound_2 : decode cX0_playRound 2 = .ok (.iload_n 2, 1) := by decide +kernel
theorem dX0_playRound_3 : decode cX0_playRound 3 = .ok (.bipush 6, 2) := by decide +kernel
theorem dX0_playRound_5 : decode cX0_playRound 5 = .ok (.if_icmp .ge 35, 3) := by decide +kernel
theorem dX0_playRound_8 : decode cX0_playRound 8 = .ok (.aload_n 0, 1) := by decide +kernel
theorem dX0_playRound_9 : decode cX0_playRound 9 = .ok (.iload_n 1, 1) := by decide +kernel
theorem dX0_playRound_10 : decode cX0_playRound 10 = .ok (.iload_n 2, 1) := by decide +kernel
theorem dX0_playRound_11 : decode cX0_playRound 11 = .ok (.invokevirtual 72, 3) := by decide +kernel
theorem dX0_playRound_14 : decode cX0_playRound 14 = .ok (.ifCond .eq 20, 3) := by decide +kernel
theorem dX0_playRound_17 : decode cX0_playRound 17 = .ok (.aload_n 0, 1) := by decide +kernel
theorem dX0_playRound_18 : decode cX0_playRound 18 = .ok (.getfield 43, 3) := by decide +kernel
theorem dX0_playRound_21 : decode cX0_playRound 21 = .ok (.aload_n 0, 1) := by decide +kernel
theorem dX0_playRound_22 : decode cX0_playRound 22 = .ok (.iload_n 1, 1) := by decide +kernel
theorem dX0_playRound_23 : decode cX0_playRound 23 = .ok (.iload_n 2, 1) := by decide +kernel
theorem dX0_playRound_24 : decode cX0_playRound 24 = .ok (.invokevirtual 72, 3) := by decide +kernel
theorem dX0_playRound_27 : decode cX0_playRound 27 = .ok (.aload_n 0, 1) := by decide +kernel
theorem dX0_playRound_28 : decode cX0_playRound 28 = .ok (.getfield 18, 3) := by decide +kernel
theorem dX0_playRound_31 : decode cX0_playRound 31 = .ok (.invokevirtual 93, 3) := by decide +kernel
theorem dX0_playRound_34 : decode cX0_playRound 34 = .ok (.iinc 2 1, 3) := by decide +kernel
theorem dX0_playRound_37 : decode cX0_playRound 37 = .ok (.goto (-35), 3) := by decide +kernel
theorem dX0_playRound_40 : decode cX0_playRound 40 = .ok (.iconst 0, 1) := by decide +kernel
theorem dX0_playRound_41 : decode cX0_playRound 41 = .ok (.istore_n 2, 1) := by decide +kernel
theorem dX0_playRound_42 : decode cX0_playRound 42 = .ok (.iload_n 2, 1) := by decide +kernel
theorem dX0_playRound_43 : decode cX0_playRound 43 = .ok (.aload_n 0, 1) := by decide +kernel
theorem dX0_playRound_44 : decode cX0_playRound 44 = .ok (.getfield 43, 3) := by decide +kernel
theorem dX0_playRound_47 : decode cX0_playRound 47 = .ok (.getfield 47, 3) := by decide +kernel
theorem dX0_playRound_50 : decode cX0_playRound 50 = .ok (.if_icmp .ge 140, 3) := by decide +kernel
theorem dX0_playRound_53 : decode cX0_playRound 53 = .ok (.aload_n 0, 1) := by decide +kernel
theorem dX0_playRound_54 : decode cX0_playRound 54 = .ok (.iload_n 1, 1) := by decide +kernel
theorem dX0_playRound_55 : decode cX0_playRound 55 = .ok (.iload_n 2, 1) := by decide +kernel
theorem dX0_playRound_56 : decode cX0_playRound 56 = .ok (.invokevirtual 97, 3) := by decide +kernel
theorem dX0_playRound_59 : decode cX0_playRound 59 = .ok (.iconst (-1), 1) := by decide +kernel
theorem dX0_playRound_60 : decode cX0_playRound 60 = .ok (.if_icmp .ne 7, 3) := by decide +kernel
theorem dX0_playRound_63 : decode cX0_playRound 63 = .ok (.iconst 1, 1) := by decide +kernel
theorem dX0_playRound_64 : decode cX0_playRound 64 = .ok (.goto 4, 3) := by decide +kernel
theorem dX0_playRound_67 : decode cX0_playRound 67 = .ok (.iconst 0, 1) := by decide +kernel
theorem dX0_playRound_68 : decode cX0_playRound 68 = .ok (.istore_n 3, 1) := by decide +kernel
theorem dX0_playRound_69 : decode cX0_playRound 69 = .ok (.iload_n 3, 1) := by decide +kernel
theorem dX0_playRound_70 : decode cX0_playRound 70 = .ok (.ifCond .eq 7, 3) := by decide +kernel
theorem dX0_playRound_73 : decode cX0_playRound 73 = .ok (.iconst 0, 1) := by decide +kernel
theorem dX0_playRound_74 : decode cX0_playRound 74 = .ok (.goto 12, 3) := by decide +kernel
theorem dX0_playRound_77 : decode cX0_playRound 77 = .ok (.aload_n 0, 1) := by decide +kernel
theorem dX0_playRound_78 : decode cX0_playRound 78 = .ok (.getfield 43, 3) := by decide +kernel
theorem dX0_playRound_81 : decode cX0_playRound 81 = .ok (.getfield 100, 3) := by decide +kernel
theorem dX0_playRound_84 : decode cX0_playRound 84 = .ok (.iload_n 2, 1) := by decide +kernel
theorem dX0_playRound_85 : decode cX0_playRound 85 = .ok (.iaload, 1) := by decide +kernel
theorem dX0_playRound_86 : decode cX0_playRound 86 = .ok (.istore 4, 2) := by decide +kernel
theorem dX0_playRound_88 : decode cX0_playRound 88 = .ok (.iload 4, 2) := by decide +kernel
theorem dX0_playRound_90 : decode cX0_playRound 90 = .ok (.aload_n 0, 1) := by decide +kernel
theorem dX0_playRound_91 : decode cX0_playRound 91 = .ok (.getfield 18, 3) := by decide +kernel
theorem dX0_playRound_94 : decode cX0_playRound 94 = .ok (.iload_n 2, 1) := by decide +kernel
theorem dX0_playRound_95 : decode cX0_playRound 95 = .ok (.iaload, 1) := by decide +kernel
theorem dX0_playRound_96 : decode cX0_playRound 96 = .ok (.invokestatic 103, 3) := by decide +kernel
theorem dX0_playRound_99 : decode cX0_playRound 99 = .ok (.istore 5, 2) := by decide +kernel
theorem dX0_playRound_101 : decode cX0_playRound 101 = .ok (.aload_n 0, 1) := by decide +kernel
theorem dX0_playRound_102 : decode cX0_playRound 102 = .ok (.getfield 18, 3) := by decide +kernel
theorem dX0_playRound_105 : decode cX0_playRound 105 = .ok (.iload_n 2, 1) := by decide +kernel
theorem dX0_playRound_106 : decode cX0_playRound 106 = .ok (.dup2, 1) := by decide +kernel
theorem dX0_playRound_107 : decode cX0_playRound 107 = .ok (.iaload, 1) := by decide +kernel
theorem dX0_playRound_108 : decode cX0_playRound 108 = .ok (.iload 5, 2) := by decide +kernel
theorem dX0_playRound_110 : decode cX0_playRound 110 = .ok (.isub, 1) := by decide +kernel
theorem dX0_playRound_111 : decode cX0_playRound 111 = .ok (.iastore, 1) := by decide +kernel
theorem dX0_playRound_112 : decode cX0_playRound 112 = .ok (.aload_n 0, 1) := by decide +kernel
theorem dX0_playRound_113 : decode cX0_playRound 113 = .ok (.getfield 21, 3) := by decide +kernel
theorem dX0_playRound_116 : decode cX0_playRound 116 = .ok (.iload_n 2, 1) := by decide +kernel
theorem dX0_playRound_117 : decode cX0_playRound 117 = .ok (.dup2, 1) := by decide +kernel
theorem dX0_playRound_118 : decode cX0_playRound 118 = .ok (.iaload, 1) := by decide +kernel
theorem dX0_playRound_119 : decode cX0_playRound 119 = .ok (.iload 5, 2) := by decide +kernel
theorem dX0_playRound_121 : decode cX0_playRound 121 = .ok (.iadd, 1) := by decide +kernel
theorem dX0_playRound_122 : decode cX0_playRound 122 = .ok (.iastore, 1) := by decide +kernel
theorem dX0_playRound_123 : decode cX0_playRound 123 = .ok (.aload_n 0, 1) := by decide +kernel
theorem dX0_playRound_124 : decode cX0_playRound 124 = .ok (.getfield 24, 3) := by decide +kernel
theorem dX0_playRound_127 : decode cX0_playRound 127 = .ok (.iload_n 2, 1) := by decide +kernel
theorem dX0_playRound_128 : decode cX0_playRound 128 = .ok (.dup2, 1) := by decide +kernel
theorem dX0_playRound_129 : decode cX0_playRound 129 = .ok (.iaload, 1) := by decide +kernel
theorem dX0_playRound_130 : decode cX0_playRound 130 = .ok (.iload_n 3, 1) := by decide +kernel
theorem dX0_playRound_131 : decode cX0_playRound 131 = .ok (.ifCond .eq 7, 3) := by decide +kernel
theorem dX0_playRound_134 : decode cX0_playRound 134 = .ok (.iconst 0, 1) := by decide +kernel
theorem dX0_playRound_135 : decode cX0_playRound 135 = .ok (.goto 12, 3) := by decide +kernel
theorem dX0_playRound_138 : decode cX0_playRound 138 = .ok (.aload_n 0, 1) := by decide +kernel
theorem dX0_playRound_139 : decode cX0_playRound 139 = .ok (.getfield 43, 3) := by decide +kernel
theorem dX0_playRound_142 : decode cX0_playRound 142 = .ok (.getfield 108, 3) := by decide +kernel
theorem dX0_playRound_145 : decode cX0_playRound 145 = .ok (.iload_n 2, 1) := by decide +kernel
theorem dX0_playRound_146 : decode cX0_playRound 146 = .ok (.iaload, 1) := by decide +kernel
theorem dX0_playRound_147 : decode cX0_playRound 147 = .ok (.iadd, 1) := by decide +kernel
theorem dX0_playRound_148 : decode cX0_playRound 148 = .ok (.iastore, 1) := by decide +kernel
theorem dX0_playRound_149 : decode cX0_playRound 149 = .ok (.aload_n 0, 1) := by decide +kernel
theorem dX0_playRound_150 : decode cX0_playRound 150 = .ok (.getfield 27, 3) := by decide +kernel
theorem dX0_playRound_153 : decode cX0_playRound 153 = .ok (.iload_n 2, 1) := by decide +kernel
theorem dX0_playRound_154 : decode cX0_playRound 154 = .ok (.dup2, 1) := by decide +kernel
theorem dX0_playRound_155 : decode cX0_playRound 155 = .ok (.iaload, 1) := by decide +kernel
theorem dX0_playRound_156 : decode cX0_playRound 156 = .ok (.iload 4, 2) := by decide +kernel
theorem dX0_playRound_158 : decode cX0_playRound 158 = .ok (.iload 5, 2) := by decide +kernel
theorem dX0_playRound_160 : decode cX0_playRound 160 = .ok (.isub, 1) := by decide +kernel
theorem dX0_playRound_161 : decode cX0_playRound 161 = .ok (.iadd, 1) := by decide +kernel
theorem dX0_playRound_162 : decode cX0_playRound 162 = .ok (.iastore, 1) := by decide +kernel
theorem dX0_playRound_163 : decode cX0_playRound 163 = .ok (.aload_n 0, 1) := by decide +kernel
theorem dX0_playRound_164 : decode cX0_playRound 164 = .ok (.getfield 30, 3) := by decide +kernel
theorem dX0_playRound_167 : decode cX0_playRound 167 = .ok (.iload_n 2, 1) := by decide +kernel
theorem dX0_playRound_168 : decode cX0_playRound 168 = .ok (.iload 5, 2) := by decide +kernel
theorem dX0_playRound_170 : decode cX0_playRound 170 = .ok (.iastore, 1) := by decide +kernel
theorem dX0_playRound_171 : decode cX0_playRound 171 = .ok (.aload_n 0, 1) := by decide +kernel
theorem dX0_playRound_172 : decode cX0_playRound 172 = .ok (.getfield 33, 3) := by decide +kernel
theorem dX0_playRound_175 : decode cX0_playRound 175 = .ok (.iload_n 1, 1) := by decide +kernel
theorem dX0_playRound_176 : decode cX0_playRound 176 = .ok (.bipush 6, 2) := by decide +kernel
theorem dX0_playRound_178 : decode cX0_playRound 178 = .ok (.imul, 1) := by decide +kernel
theorem dX0_playRound_179 : decode cX0_playRound 179 = .ok (.iload_n 2, 1) := by decide +kernel
theorem dX0_playRound_180 : decode cX0_playRound 180 = .ok (.iadd, 1) := by decide +kernel
theorem dX0_playRound_181 : decode cX0_playRound 181 = .ok (.iload 5, 2) := by decide +kernel
theorem dX0_playRound_183 : decode cX0_playRound 183 = .ok (.iastore, 1) := by decide +kernel
theorem dX0_playRound_184 : decode cX0_playRound 184 = .ok (.iinc 2 1, 3) := by decide +kernel
theorem dX0_playRound_187 : decode cX0_playRound 187 = .ok (.goto (-145), 3) := by decide +kernel
theorem dX0_playRound_190 : decode cX0_playRound 190 = .ok (.return_, 1) := by decide +kernel
theorem dX0_sumsOf_0 : decode cX0_sumsOf 0 = .ok (.iload_n 1, 1) := by decide +kernel
theorem dX0_sumsOf_1 : decode cX0_sumsOf 1 = .ok (.tableswitch 42 0 2 #[27, 32, 37], 27) := by decide +kernel
theorem dX0_sumsOf_28 : decode cX0_sumsOf 28 = .ok (.aload_n 0, 1) := by decide +kernel
theorem dX0_sumsOf_29 : decode cX0_sumsOf 29 = .ok (.getfield 18, 3) := by decide +kernel
theorem dX0_sumsOf_32 : decode cX0_sumsOf 32 = .ok (.areturn, 1) := by decide +kernel
theorem dX0_sumsOf_33 : decode cX0_sumsOf 33 = .ok (.aload_n 0, 1) := by decide +kernel
theorem dX0_sumsOf_34 : decode cX0_sumsOf 34 = .ok (.getfield 21, 3) := by decide +kernel
theorem dX0_sumsOf_37 : decode cX0_sumsOf 37 = .ok (.areturn, 1) := by decide +kernel
theorem dX0_sumsOf_38 : decode cX0_sumsOf 38 = .ok (.aload_n 0, 1) := by decide +kernel
theorem dX0_sumsOf_39 : decode cX0_sumsOf 39 = .ok (.getfield 24, 3) := by decide +kernel
theorem dX0_sumsOf_42 : decode cX0_sumsOf 42 = .ok (.areturn, 1) := by decide +kernel
theorem dX0_sumsOf_43 : decode cX0_sumsOf 43 = .ok (.aload_n 0, 1) := by decide +kernel
theorem dX0_sumsOf_44 : decode cX0_sumsOf 44 = .ok (.getfield 27, 3) := by decide +kernel
theorem dX0_sumsOf_47 : decode cX0_sumsOf 47 = .ok (.areturn, 1) := by decide +kernel
theorem dX1_init_0 : decode cX1_init 0 = .ok (.aload_n 0, 1) := by decide +kernel
theorem dX1_init_1 : decode cX1_init 1 = .ok (.invokespecial 3, 3) := by decide +kernel
theorem dX1_init_4 : decode cX1_init 4 = .ok (.aload_n 0, 1) := by decide +kernel
theorem dX1_init_5 : decode cX1_init 5 = .ok (.bipush 6, 2) := by decide +kernel
theorem dX1_init_7 : decode cX1_init 7 = .ok (.newarray .int, 2) := by decide +kernel
theorem dX1_init_9 : decode cX1_init 9 = .ok (.putfield 9, 3) := by decide +kernel
theorem dX1_init_12 : decode cX1_init 12 = .ok (.aload_n 0, 1) := by decide +kernel
theorem dX1_init_13 : decode cX1_init 13 = .ok (.sipush 3616, 3) := by decide +kernel
theorem dX1_init_16 : decode cX1_init 16 = .ok (.newarray .int, 2) := by decide +kernel
theorem dX1_init_18 : decode cX1_init 18 = .ok (.putfield 15, 3) := by decide +kernel
theorem dX1_init_21 : decode cX1_init 21 = .ok (.aload_n 0, 1) := by decide +kernel
theorem dX1_init_22 : decode cX1_init 22 = .ok (.aload_n 1, 1) := by decide +kernel
theorem dX1_init_23 : decode cX1_init 23 = .ok (.putfield 18, 3) := by decide +kernel
theorem dX1_init_26 : decode cX1_init 26 = .ok (.return_, 1) := by decide +kernel
set_option maxRecDepth 20000 in
theorem ggX1_follow_X2_tellHandsAtFirst : GoodIn wsX1_follow wsX2_tellHandsAtFirst := goodIn_r _ [11, 12, 13, 14, 10, 15, 16, 17, 18, 19, 20, 21, 60, 61, 62, 63, 64, 65, 66, 67, 68] (by decide +kernel) (by decide +kernel)
set_option maxRecDepth 20000 in
theorem gX1_follow_X2_tellHandsAtFirst : GoodIn wsX1_follow (wsV RX1 34 RX2 yX2_tellHandsAtFirst wsX2_tellHandsAtFirst) := goodIn_app (goodIn_of _ (by decide +kernel)) ggX1_follow_X2_tellHandsAtFirst
set_option maxRecDepth 20000 in
theorem ggX1_follow_X1_packed : GoodIn wsX1_follow wsX1_packed := goodIn_r _ [26, 1, 2, 5, 56, 57, 58, 59, 60, 61, 62, 63, 64, 65, 66, 67, 68] (by decide +kernel) (by decide +kernel)
set_option maxRecDepth 20000 in
theorem gX1_follow_X1_packed : GoodIn wsX1_follow (wsV RX1 38 RX1 yX1_packed wsX1_packed) := goodIn_app (goodIn_of _ (by decide +kernel)) ggX1_follow_X1_packed
set_option maxRecDepth 20000 in
theorem ggX1_follow_X1_unpack : GoodIn wsX1_follow wsX1_unpack := goodIn_r _ [30, 1, 2, 5, 31, 32, 25, 33, 56, 57, 58, 59, 60, 61, 62, 63, 64, 65, 66, 67, 68] (by decide +kernel) (by decide +kernel)
set_option maxRecDepth 20000 in
theorem gX1_follow_X1_unpack : GoodIn wsX1_follow (wsV RX1 42 RX1 yX1_unpack wsX1_unpack) := goodIn_app (goodIn_of _ (by decide +kernel)) ggX1_follow_X1_unpack
set_option maxRecDepth 20000 in
theorem ggX1_follow_X1_pay : GoodIn wsX1_follow wsX1_pay := goodIn_r _ [37, 1, 2, 38, 5, 39, 40, 41, 20, 42, 43, 44, 45, 10, 46, 47, 48, 49, 50, 51, 52, 53, 54, 55, 56, 57, 58, 59, 60, 61, 62, 63, 64, 65, 66, 67, 68] (by decide +kernel) (by decide +kernel)
set_option maxRecDepth 20000 in
theorem gX1_follow_X1_pay : GoodIn wsX1_follow (wsV RX1 46 RX1 yX1_pay wsX1_pay) := goodIn_app (goodIn_of _ (by decide +kernel)) ggX1_follow_X1_pay
theorem dX1_follow_0 : decode cX1_follow 0 = .ok (.aload_n 0, 1) := by decide +kernel
theorem dX1_follow_1 : decode cX1_follow 1 = .ok (.aload_n 0, 1) := by decide +kernel
theorem dX1_follow_2 : decode cX1_follow 2 = .ok (.getfield 18, 3) := by decide +kernel
theorem dX1_follow_5 : decode cX1_follow 5 = .ok (.getfield 22, 3) := by decide +kernel
theorem dX1_follow_8 : decode cX1_follow 8 = .ok (.iconst 4, 1) := by decide +kernel
theorem dX1_follow_9 : decode cX1_follow 9 = .ok (.if_icmp .le 7, 3) := by decide +kernel
theorem dX1_follow_12 : decode cX1_follow 12 = .ok (.iconst 0, 1) := by decide +kernel
theorem dX1_follow_13 : decode cX1_follow 13 = .ok (.goto 14, 3) := by decide +kernel
theorem dX1_follow_16 : decode cX1_follow 16 = .ok (.getstatic 28, 3) := by decide +kernel
theorem dX1_follow_19 : decode cX1_follow 19 = .ok (.aload_n 0, 1) := by decide +kernel
theorem dX1_follow_20 : decode cX1_follow 20 = .ok (.getfield 18, 3) := by decide +kernel
theorem dX1_follow_23 : decode cX1_follow 23 = .ok (.getfield 22, 3) := by decide +kernel
theorem dX1_follow_26 : decode cX1_follow 26 = .ok (.iaload, 1) := by decide +kernel
theorem dX1_follow_27 : decode cX1_follow 27 = .ok (.putfield 31, 3) := by decide +kernel
theorem dX1_follow_30 : decode cX1_follow 30 = .ok (.aload_n 0, 1) := by decide +kernel
theorem dX1_follow_31 : decode cX1_follow 31 = .ok (.getfield 31, 3) := by decide +kernel
theorem dX1_follow_34 : decode cX1_follow 34 = .ok (.ifCond .ne 4, 3) := by decide +kernel
theorem dX1_follow_37 : decode cX1_follow 37 = .ok (.return_, 1) := by decide +kernel
theorem dX1_follow_38 : decode cX1_follow 38 = .ok (.aload_n 0, 1) := by decide +kernel
theorem dX1_follow_39 : decode cX1_follow 39 = .ok (.getfield 18, 3) := by decide +kernel
theorem dX1_follow_42 : decode cX1_follow 42 = .ok (.aload_n 0, 1) := by decide +kernel
theorem dX1_follow_43 : decode cX1_follow 43 = .ok (.getfield 9, 3) := by decide +kernel
theorem dX1_follow_46 : decode cX1_follow 46 = .ok (.invokevirtual 34, 3) := by decide +kernel
theorem dX1_follow_49 : decode cX1_follow 49 = .ok (.aload_n 0, 1) := by decide +kernel
theorem dX1_follow_50 : decode cX1_follow 50 = .ok (.getfield 15, 3) := by decide +kernel
theorem dX1_follow_53 : decode cX1_follow 53 = .ok (.iconst 0, 1) := by decide +kernel
theorem dX1_follow_54 : decode cX1_follow 54 = .ok (.aload_n 0, 1) := by decide +kernel
theorem dX1_follow_55 : decode cX1_follow 55 = .ok (.invokevirtual 38, 3) := by decide +kernel
theorem dX1_follow_58 : decode cX1_follow 58 = .ok (.iastore, 1) := by decide +kernel
theorem dX1_follow_59 : decode cX1_follow 59 = .ok (.iconst 1, 1) := by decide +kernel
theorem dX1_follow_60 : decode cX1_follow 60 = .ok (.aload_n 0, 1) := by decide +kernel
theorem dX1_follow_61 : decode cX1_follow 61 = .ok (.getfield 31, 3) := by decide +kernel
theorem dX1_follow_64 : decode cX1_follow 64 = .ok (.iadd, 1) := by decide +kernel
theorem dX1_follow_65 : decode cX1_follow 65 = .ok (.aload_n 0, 1) := by decide +kernel
theorem dX1_follow_66 : decode cX1_follow 66 = .ok (.getfield 31, 3) := by decide +kernel
theorem dX1_follow_69 : decode cX1_follow 69 = .ok (.aload_n 0, 1) := by decide +kernel
theorem dX1_follow_70 : decode cX1_follow 70 = .ok (.getfield 31, 3) := by decide +kernel
theorem dX1_follow_73 : decode cX1_follow 73 = .ok (.imul, 1) := by decide +kernel
theorem dX1_follow_74 : decode cX1_follow 74 = .ok (.iadd, 1) := by decide +kernel
theorem dX1_follow_75 : decode cX1_follow 75 = .ok (.istore_n 1, 1) := by decide +kernel
theorem dX1_follow_76 : decode cX1_follow 76 = .ok (.iconst 0, 1) := by decide +kernel
theorem dX1_follow_77 : decode cX1_follow 77 = .ok (.istore_n 2, 1) := by decide +kernel
theorem dX1_follow_78 : decode cX1_follow 78 = .ok (.iload_n 2, 1) := by decide +kernel
theorem dX1_follow_79 : decode cX1_follow 79 = .ok (.iload_n 1, 1) := by decide +kernel
theorem dX1_follow_80 : decode cX1_follow 80 = .ok (.if_icmp .ge 59, 3) := by decide +kernel
theorem dX1_follow_83 : decode cX1_follow 83 = .ok (.iconst 0, 1) := by decide +kernel
theorem dX1_follow_84 : decode cX1_follow 84 = .ok (.istore_n 3, 1) := by decide +kernel
theorem dX1_follow_85 : decode cX1_follow 85 = .ok (.iload_n 3, 1) := by decide +kernel
theorem dX1_follow_86 : decode cX1_follow 86 = .ok (.aload_n 0, 1) := by decide +kernel
theorem dX1_follow_87 : decode cX1_follow 87 = .ok (.getfield 31, 3) := by decide +kernel
theorem dX1_follow_90 : decode cX1_follow 90 = .ok (.if_icmp .ge 43, 3) := by decide +kernel
theorem dX1_follow_93 : decode cX1_follow 93 = .ok (.aload_n 0, 1) := by decide +kernel
theorem dX1_follow_94 : decode cX1_follow 94 = .ok (.aload_n 0, 1) := by decide +kernel
theorem dX1_follow_95 : decode cX1_follow 95 = .ok (.getfield 15, 3) := by decide +kernel
theorem dX1_follow_98 : decode cX1_follow 98 = .ok (.iload_n 2, 1) := by decide +kernel
theorem dX1_follow_99 : decode cX1_follow 99 = .ok (.iaload, 1) := by decide +kernel
theorem dX1_follow_100 : decode cX1_follow 100 = .ok (.invokevirtual 42, 3) := by decide +kernel
theorem dX1_follow_103 : decode cX1_follow 103 = .ok (.aload_n 0, 1) := by decide +kernel
theorem dX1_follow_104 : decode cX1_follow 104 = .ok (.iload_n 3, 1) := by decide +kernel
theorem dX1_follow_105 : decode cX1_follow 105 = .ok (.invokevirtual 46, 3) := by decide +kernel
theorem dX1_follow_108 : decode cX1_follow 108 = .ok (.aload_n 0, 1) := by decide +kernel
theorem dX1_follow_109 : decode cX1_follow 109 = .ok (.getfield 15, 3) := by decide +kernel
theorem dX1_follow_112 : decode cX1_follow 112 = .ok (.iload_n 2, 1) := by decide +kernel
theorem dX1_follow_113 : decode cX1_follow 113 = .ok (.aload_n 0, 1) := by decide +kernel
theorem dX1_follow_114 : decode cX1_follow 114 = .ok (.getfield 31, 3) := by decide +kernel
theorem dX1_follow_117 : decode cX1_follow 117 = .ok (.imul, 1) := by decide +kernel
theorem dX1_follow_118 : decode cX1_follow 118 = .ok (.iconst 1, 1) := by decide +kernel
theorem dX1_follow_119 : decode cX1_follow 119 = .ok (.iadd, 1) := by decide +kernel
theorem dX1_follow_120 : decode cX1_follow 120 = .ok (.iload_n 3, 1) := by decide +kernel
theorem dX1_follow_121 : decode cX1_follow 121 = .ok (.iadd, 1) := by decide +kernel
theorem dX1_follow_122 : decode cX1_follow 122 = .ok (.aload_n 0, 1) := by decide +kernel
theorem dX1_follow_123 : decode cX1_follow 123 = .ok (.invokevirtual 38, 3) := by decide +kernel
theorem dX1_follow_126 : decode cX1_follow 126 = .ok (.iastore, 1) := by decide +kernel
theorem dX1_follow_127 : decode cX1_follow 127 = .ok (.iinc 3 1, 3) := by decide +kernel
theorem dX1_follow_130 : decode cX1_follow 130 = .ok (.goto (-45), 3) := by decide +kernel
theorem dX1_follow_133 : decode cX1_follow 133 = .ok (.iinc 2 1, 3) := by decide +kernel
theorem dX1_follow_136 : decode cX1_follow 136 = .ok (.goto (-58), 3) := by decide +kernel
theorem dX1_follow_139 : decode cX1_follow 139 = .ok (.return_, 1) := by decide +kernel
set_option maxRecDepth 20000 in
theorem ggX1_fewestDown_X1_fewest : GoodIn wsX1_fewestDown wsX1_fewest := goodIn_r _ [5, 6, 7, 8, 9, 10, 4, 11, 12, 13, 14, 15, 16, 17, 18, 19, 20, 21, 22, 23, 24, 25, 26, 27, 28, 29] (by decide +kernel) (by decide +kernel)
set_option maxRecDepth 20000 in
theorem gX1_fewestDown_X1_fewest : GoodIn wsX1_fewestDown (wsV RX1 49 RX1 yX1_fewest wsX1_fewest) := goodIn_app (goodIn_of _ (by decide +kernel)) ggX1_fewestDown_X1_fewest
theorem dX1_fewestDown_0 : decode cX1_fewestDown 0 = .ok (.aload_n 0, 1) := by decide +kernel
theorem dX1_fewestDown_1 : decode cX1_fewestDown 1 = .ok (.iload_n 1, 1) := by decide +kernel
theorem dX1_fewestDown_2 : decode cX1_fewestDown 2 = .ok (.iload_n 2, 1) := by decide +kernel
theorem dX1_fewestDown_3 : decode cX1_fewestDown 3 = .ok (.invokevirtual 49, 3) := by decide +kernel
theorem dX1_fewestDown_6 : decode cX1_fewestDown 6 = .ok (.ireturn, 1) := by decide +kernel
set_option maxRecDepth 20000 in
theorem ggX1_fewestAlike_X1_fewest : GoodIn wsX1_fewestAlike wsX1_fewest := goodIn_r _ [5, 6, 7, 8, 9, 10, 4, 11, 12, 13, 14, 15, 16, 17, 18, 19, 20, 21, 22, 23, 24, 25, 26, 27, 28, 29] (by decide +kernel) (by decide +kernel)
set_option maxRecDepth 20000 in
theorem gX1_fewestAlike_X1_fewest : GoodIn wsX1_fewestAlike (wsV RX1 49 RX1 yX1_fewest wsX1_fewest) := goodIn_app (goodIn_of _ (by decide +kernel)) ggX1_fewestAlike_X1_fewest
theorem dX1_fewestAlike_0 : decode cX1_fewestAlike 0 = .ok (.aload_n 0, 1) := by decide +kernel
theorem dX1_fewestAlike_1 : decode cX1_fewestAlike 1 = .ok (.iconst (-1), 1) := by decide +kernel
theorem dX1_fewestAlike_2 : decode cX1_fewestAlike 2 = .ok (.iconst 0, 1) := by decide +kernel
theorem dX1_fewestAlike_3 : decode cX1_fewestAlike 3 = .ok (.invokevirtual 49, 3) := by decide +kernel
theorem dX1_fewestAlike_6 : decode cX1_fewestAlike 6 = .ok (.ireturn, 1) := by decide +kernel
set_option maxRecDepth 20000 in
theorem ggX1_fewest_X1_areAlike : GoodIn wsX1_fewest wsX1_areAlike := goodIn_r _ [7, 8, 9, 10, 11, 6, 12, 13, 14, 15, 16, 17, 18, 19, 20, 21, 22, 23, 24, 25] (by decide +kernel) (by decide +kernel)
set_option maxRecDepth 20000 in
theorem gX1_fewest_X1_areAlike : GoodIn wsX1_fewest (wsV RX1 53 RX1 yX1_areAlike wsX1_areAlike) := goodIn_app (goodIn_of _ (by decide +kernel)) ggX1_fewest_X1_areAlike
set_option maxRecDepth 20000 in
theorem ggX1_fewest_X1_handIn : GoodIn wsX1_fewest wsX1_handIn := goodIn_r _ [12] (by decide +kernel) (by decide +kernel)
set_option maxRecDepth 20000 in
theorem gX1_fewest_X1_handIn : GoodIn wsX1_fewest (va_wsS RX1 57 yX1_handIn wsX1_handIn) := goodIn_app (goodIn_of _ (by decide +kernel)) ggX1_fewest_X1_handIn
theorem dX1_fewest_0 : decode cX1_fewest 0 = .ok (.aload_n 0, 1) := by decide +kernel
theorem dX1_fewest_1 : decode cX1_fewest 1 = .ok (.getfield 31, 3) := by decide +kernel
theorem dX1_fewest_4 : decode cX1_fewest 4 = .ok (.ifCond .ne 6, 3) := by decide +kernel
theorem dX1_fewest_7 : decode cX1_fewest 7 = .ok (.bipush (-4), 2) := by decide +kernel
theorem dX1_fewest_9 : decode cX1_fewest 9 = .ok (.ireturn, 1) := by decide +kernel
theorem dX1_fewest_10 : decode cX1_fewest 10 = .ok (.iconst 0, 1) := by decide +kernel
theorem dX1_fewest_11 : decode cX1_fewest 11 = .ok (.istore_n 3, 1) := by decide +kernel
theorem dX1_fewest_12 : decode cX1_fewest 12 = .ok (.iconst 1, 1) := by decide +kernel
theorem dX1_fewest_13 : decode cX1_fewest 13 = .ok (.istore 4, 2) := by decide +kernel
theorem dX1_fewest_15 : decode cX1_fewest 15 = .ok (.iconst 0, 1) := by decide +kernel
theorem dX1_fewest_16 : decode cX1_fewest 16 = .ok (.istore 5, 2) := by decide +kernel
theorem dX1_fewest_18 : decode cX1_fewest 18 = .ok (.iload 5, 2) := by decide +kernel
theorem dX1_fewest_20 : decode cX1_fewest 20 = .ok (.iconst 3, 1) := by decide +kernel
theorem dX1_fewest_21 : decode cX1_fewest 21 = .ok (.if_icmp .gt 81, 3) := by decide +kernel
theorem dX1_fewest_24 : decode cX1_fewest 24 = .ok (.iload_n 3, 1) := by decide +kernel
theorem dX1_fewest_25 : decode cX1_fewest 25 = .ok (.istore 6, 2) := by decide +kernel
theorem dX1_fewest_27 : decode cX1_fewest 27 = .ok (.iload 6, 2) := by decide +kernel
theorem dX1_fewest_29 : decode cX1_fewest 29 = .ok (.iload_n 3, 1) := by decide +kernel
theorem dX1_fewest_30 : decode cX1_fewest 30 = .ok (.iload 4, 2) := by decide +kernel
theorem dX1_fewest_32 : decode cX1_fewest 32 = .ok (.iadd, 1) := by decide +kernel
theorem dX1_fewest_33 : decode cX1_fewest 33 = .ok (.if_icmp .ge 49, 3) := by decide +kernel
theorem dX1_fewest_36 : decode cX1_fewest 36 = .ok (.iload_n 1, 1) := by decide +kernel
theorem dX1_fewest_37 : decode cX1_fewest 37 = .ok (.iconst (-1), 1) := by decide +kernel
theorem dX1_fewest_38 : decode cX1_fewest 38 = .ok (.if_icmp .ne 20, 3) := by decide +kernel
theorem dX1_fewest_41 : decode cX1_fewest 41 = .ok (.aload_n 0, 1) := by decide +kernel
theorem dX1_fewest_42 : decode cX1_fewest 42 = .ok (.aload_n 0, 1) := by decide +kernel
theorem dX1_fewest_43 : decode cX1_fewest 43 = .ok (.getfield 15, 3) := by decide +kernel
theorem dX1_fewest_46 : decode cX1_fewest 46 = .ok (.iload 6, 2) := by decide +kernel
theorem dX1_fewest_48 : decode cX1_fewest 48 = .ok (.iaload, 1) := by decide +kernel
theorem dX1_fewest_49 : decode cX1_fewest 49 = .ok (.invokevirtual 53, 3) := by decide +kernel
theorem dX1_fewest_52 : decode cX1_fewest 52 = .ok (.ifCond .eq 24, 3) := by decide +kernel
theorem dX1_fewest_55 : decode cX1_fewest 55 = .ok (.goto 18, 3) := by decide +kernel
theorem dX1_fewest_58 : decode cX1_fewest 58 = .ok (.aload_n 0, 1) := by decide +kernel
theorem dX1_fewest_59 : decode cX1_fewest 59 = .ok (.getfield 15, 3) := by decide +kernel
theorem dX1_fewest_62 : decode cX1_fewest 62 = .ok (.iload 6, 2) := by decide +kernel
theorem dX1_fewest_64 : decode cX1_fewest 64 = .ok (.iaload, 1) := by decide +kernel
theorem dX1_fewest_65 : decode cX1_fewest 65 = .ok (.iload_n 1, 1) := by decide +kernel
theorem dX1_fewest_66 : decode cX1_fewest 66 = .ok (.invokestatic 57, 3) := by decide +kernel
theorem dX1_fewest_69 : decode cX1_fewest 69 = .ok (.iload_n 2, 1) := by decide +kernel
theorem dX1_fewest_70 : decode cX1_fewest 70 = .ok (.if_icmp .ne 6, 3) := by decide +kernel
theorem dX1_fewest_73 : decode cX1_fewest 73 = .ok (.iload 5, 2) := by decide +kernel
theorem dX1_fewest_75 : decode cX1_fewest 75 = .ok (.ireturn, 1) := by decide +kernel
theorem dX1_fewest_76 : decode cX1_fewest 76 = .ok (.iinc 6 1, 3) := by decide +kernel
theorem dX1_fewest_79 : decode cX1_fewest 79 = .ok (.goto (-52), 3) := by decide +kernel
theorem dX1_fewest_82 : decode cX1_fewest 82 = .ok (.iload_n 3, 1) := by decide +kernel
theorem dX1_fewest_83 : decode cX1_fewest 83 = .ok (.iload 4, 2) := by decide +kernel
theorem dX1_fewest_85 : decode cX1_fewest 85 = .ok (.iadd, 1) := by decide +kernel
theorem dX1_fewest_86 : decode cX1_fewest 86 = .ok (.istore_n 3, 1) := by decide +kernel
theorem dX1_fewest_87 : decode cX1_fewest 87 = .ok (.iload 4, 2) := by decide +kernel
theorem dX1_fewest_89 : decode cX1_fewest 89 = .ok (.aload_n 0, 1) := by decide +kernel
theorem dX1_fewest_90 : decode cX1_fewest 90 = .ok (.getfield 31, 3) := by decide +kernel
theorem dX1_fewest_93 : decode cX1_fewest 93 = .ok (.imul, 1) := by decide +kernel
theorem dX1_fewest_94 : decode cX1_fewest 94 = .ok (.istore 4, 2) := by decide +kernel
theorem dX1_fewest_96 : decode cX1_fewest 96 = .ok (.iinc 5 1, 3) := by decide +kernel
theorem dX1_fewest_99 : decode cX1_fewest 99 = .ok (.goto (-81), 3) := by decide +kernel
theorem dX1_fewest_102 : decode cX1_fewest 102 = .ok (.iconst (-1), 1) := by decide +kernel
theorem dX1_fewest_103 : decode cX1_fewest 103 = .ok (.ireturn, 1) := by decide +kernel
set_option maxRecDepth 20000 in
theorem ggX1_areAlike_X1_handIn : GoodIn wsX1_areAlike wsX1_handIn := goodIn_r _ [6] (by decide +kernel) (by decide +kernel)
set_option maxRecDepth 20000 in
theorem gX1_areAlike_X1_handIn : GoodIn wsX1_areAlike (va_wsS RX1 57 yX1_handIn wsX1_handIn) := goodIn_app (goodIn_of _ (by decide +kernel)) ggX1_areAlike_X1_handIn
theorem dX1_areAlike_0 : decode cX1_areAlike 0 = .ok (.iconst 1, 1) := by decide +kernel
theorem dX1_areAlike_1 : decode cX1_areAlike 1 = .ok (.istore_n 2, 1) := by decide +kernel
theorem dX1_areAlike_2 : decode cX1_areAlike 2 = .ok (.iload_n 2, 1) := by decide +kernel
theorem dX1_areAlike_3 : decode cX1_areAlike 3 = .ok (.aload_n 0, 1) := by decide +kernel
theorem dX1_areAlike_4 : decode cX1_areAlike 4 = .ok (.getfield 18, 3) := by decide +kernel
theorem dX1_areAlike_7 : decode cX1_areAlike 7 = .ok (.getfield 22, 3) := by decide +kernel
theorem dX1_areAlike_10 : decode cX1_areAlike 10 = .ok (.if_icmp .ge 24, 3) := by decide +kernel
theorem dX1_areAlike_13 : decode cX1_areAlike 13 = .ok (.iload_n 1, 1) := by decide +kernel
theorem dX1_areAlike_14 : decode cX1_areAlike 14 = .ok (.iload_n 2, 1) := by decide +kernel
theorem dX1_areAlike_15 : decode cX1_areAlike 15 = .ok (.invokestatic 57, 3) := by decide +kernel
theorem dX1_areAlike_18 : decode cX1_areAlike 18 = .ok (.iload_n 1, 1) := by decide +kernel
theorem dX1_areAlike_19 : decode cX1_areAlike 19 = .ok (.iconst 0, 1) := by decide +kernel
theorem dX1_areAlike_20 : decode cX1_areAlike 20 = .ok (.invokestatic 57, 3) := by decide +kernel
theorem dX1_areAlike_23 : decode cX1_areAlike 23 = .ok (.if_icmp .eq 5, 3) := by decide +kernel
theorem dX1_areAlike_26 : decode cX1_areAlike 26 = .ok (.iconst 0, 1) := by decide +kernel
theorem dX1_areAlike_27 : decode cX1_areAlike 27 = .ok (.ireturn, 1) := by decide +kernel
theorem dX1_areAlike_28 : decode cX1_areAlike 28 = .ok (.iinc 2 1, 3) := by decide +kernel
theorem dX1_areAlike_31 : decode cX1_areAlike 31 = .ok (.goto (-29), 3) := by decide +kernel
theorem dX1_areAlike_34 : decode cX1_areAlike 34 = .ok (.iconst 1, 1) := by decide +kernel
theorem dX1_areAlike_35 : decode cX1_areAlike 35 = .ok (.ireturn, 1) := by decide +kernel
theorem dX1_handIn_0 : decode cX1_handIn 0 = .ok (.iload_n 0, 1) := by decide +kernel
theorem dX1_handIn_1 : decode cX1_handIn 1 = .ok (.bipush 7, 2) := by decide +kernel
theorem dX1_handIn_3 : decode cX1_handIn 3 = .ok (.iload_n 1, 1) := by decide +kernel
theorem dX1_handIn_4 : decode cX1_handIn 4 = .ok (.imul, 1) := by decide +kernel
theorem dX1_handIn_5 : decode cX1_handIn 5 = .ok (.ishr, 1) := by decide +kernel
theorem dX1_handIn_6 : decode cX1_handIn 6 = .ok (.bipush 127, 2) := by decide +kernel
theorem dX1_handIn_8 : decode cX1_handIn 8 = .ok (.iand, 1) := by decide +kernel
theorem dX1_handIn_9 : decode cX1_handIn 9 = .ok (.ireturn, 1) := by decide +kernel
theorem dX1_packed_0 : decode cX1_packed 0 = .ok (.iconst 0, 1) := by decide +kernel
theorem dX1_packed_1 : decode cX1_packed 1 = .ok (.istore_n 1, 1) := by decide +kernel
theorem dX1_packed_2 : decode cX1_packed 2 = .ok (.iconst 0, 1) := by decide +kernel
theorem dX1_packed_3 : decode cX1_packed 3 = .ok (.istore_n 2, 1) := by decide +kernel
theorem dX1_packed_4 : decode cX1_packed 4 = .ok (.iload_n 2, 1) := by decide +kernel
theorem dX1_packed_5 : decode cX1_packed 5 = .ok (.aload_n 0, 1) := by decide +kernel
theorem dX1_packed_6 : decode cX1_packed 6 = .ok (.getfield 18, 3) := by decide +kernel
theorem dX1_packed_9 : decode cX1_packed 9 = .ok (.getfield 22, 3) := by decide +kernel
theorem dX1_packed_12 : decode cX1_packed 12 = .ok (.if_icmp .ge 23, 3) := by decide +kernel
theorem dX1_packed_15 : decode cX1_packed 15 = .ok (.iload_n 1, 1) := by decide +kernel
theorem dX1_packed_16 : decode cX1_packed 16 = .ok (.aload_n 0, 1) := by decide +kernel
theorem dX1_packed_17 : decode cX1_packed 17 = .ok (.getfield 9, 3) := by decide +kernel
theorem dX1_packed_20 : decode cX1_packed 20 = .ok (.iload_n 2, 1) := by decide +kernel
theorem dX1_packed_21 : decode cX1_packed 21 = .ok (.iaload, 1) := by decide +kernel
theorem dX1_packed_22 : decode cX1_packed 22 = .ok (.bipush 7, 2) := by decide +kernel
theorem dX1_packed_24 : decode cX1_packed 24 = .ok (.iload_n 2, 1) := by decide +kernel
theorem dX1_packed_25 : decode cX1_packed 25 = .ok (.imul, 1) := by decide +kernel
theorem dX1_packed_26 : decode cX1_packed 26 = .ok (.ishl, 1) := by decide +kernel
theorem dX1_packed_27 : decode cX1_packed 27 = .ok (.ior, 1) := by decide +kernel
theorem dX1_packed_28 : decode cX1_packed 28 = .ok (.istore_n 1, 1) := by decide +kernel
theorem dX1_packed_29 : decode cX1_packed 29 = .ok (.iinc 2 1, 3) := by decide +kernel
theorem dX1_packed_32 : decode cX1_packed 32 = .ok (.goto (-28), 3) := by decide +kernel
theorem dX1_packed_35 : decode cX1_packed 35 = .ok (.iload_n 1, 1) := by decide +kernel
theorem dX1_packed_36 : decode cX1_packed 36 = .ok (.ireturn, 1) := by decide +kernel
set_option maxRecDepth 20000 in
theorem ggX1_unpack_X1_handIn : GoodIn wsX1_unpack wsX1_handIn := goodIn_r _ [7] (by decide +kernel) (by decide +kernel)
set_option maxRecDepth 20000 in
theorem gX1_unpack_X1_handIn : GoodIn wsX1_unpack (va_wsS RX1 57 yX1_handIn wsX1_handIn) := goodIn_app (goodIn_of _ (by decide +kernel)) ggX1_unpack_X1_handIn
theorem dX1_unpack_0 : decode cX1_unpack 0 = .ok (.iconst 0, 1) := by decide +kernel
theorem dX1_unpack_1 : decode cX1_unpack 1 = .ok (.istore_n 2, 1) := by decide +kernel
theorem dX1_unpack_2 : decode cX1_unpack 2 = .ok (.iload_n 2, 1) := by decide +kernel
theorem dX1_unpack_3 : decode cX1_unpack 3 = .ok (.aload_n 0, 1) := by decide +kernel
theorem dX1_unpack_4 : decode cX1_unpack 4 = .ok (.getfield 18, 3) := by decide +kernel
theorem dX1_unpack_7 : decode cX1_unpack 7 = .ok (.getfield 22, 3) := by decide +kernel
theorem dX1_unpack_10 : decode cX1_unpack 10 = .ok (.if_icmp .ge 20, 3) := by decide +kernel
theorem dX1_unpack_13 : decode cX1_unpack 13 = .ok (.aload_n 0, 1) := by decide +kernel
theorem dX1_unpack_14 : decode cX1_unpack 14 = .ok (.getfield 9, 3) := by decide +kernel
theorem dX1_unpack_17 : decode cX1_unpack 17 = .ok (.iload_n 2, 1) := by decide +kernel
theorem dX1_unpack_18 : decode cX1_unpack 18 = .ok (.iload_n 1, 1) := by decide +kernel
theorem dX1_unpack_19 : decode cX1_unpack 19 = .ok (.iload_n 2, 1) := by decide +kernel
theorem dX1_unpack_20 : decode cX1_unpack 20 = .ok (.invokestatic 57, 3) := by decide +kernel
theorem dX1_unpack_23 : decode cX1_unpack 23 = .ok (.iastore, 1) := by decide +kernel
theorem dX1_unpack_24 : decode cX1_unpack 24 = .ok (.iinc 2 1, 3) := by decide +kernel
theorem dX1_unpack_27 : decode cX1_unpack 27 = .ok (.goto (-25), 3) := by decide +kernel
theorem dX1_unpack_30 : decode cX1_unpack 30 = .ok (.return_, 1) := by decide +kernel
set_option maxRecDepth 20000 in
theorem ggX1_pay_X2_charge : GoodIn wsX1_pay wsX2_charge := goodIn_r _ [14, 15, 16, 17, 18, 19, 20, 21, 13, 22, 23, 28, 29, 30, 31, 32, 33, 34, 35, 36] (by decide +kernel) (by decide +kernel)
set_option maxRecDepth 20000 in
theorem gX1_pay_X2_charge : GoodIn wsX1_pay (wsV RX1 63 RX2 yX2_charge wsX2_charge) := goodIn_app (goodIn_of _ (by decide +kernel)) ggX1_pay_X2_charge
theorem dX1_pay_0 : decode cX1_pay 0 = .ok (.iconst 0, 1) := by decide +kernel
theorem dX1_pay_1 : decode cX1_pay 1 = .ok (.istore_n 2, 1) := by decide +kernel
theorem dX1_pay_2 : decode cX1_pay 2 = .ok (.iload_n 2, 1) := by decide +kernel
theorem dX1_pay_3 : decode cX1_pay 3 = .ok (.iconst 4, 1) := by decide +kernel
theorem dX1_pay_4 : decode cX1_pay 4 = .ok (.if_icmp .ge 65, 3) := by decide +kernel
theorem dX1_pay_7 : decode cX1_pay 7 = .ok (.iconst 0, 1) := by decide +kernel
theorem dX1_pay_8 : decode cX1_pay 8 = .ok (.istore_n 3, 1) := by decide +kernel
theorem dX1_pay_9 : decode cX1_pay 9 = .ok (.iconst 0, 1) := by decide +kernel
theorem dX1_pay_10 : decode cX1_pay 10 = .ok (.istore 4, 2) := by decide +kernel
theorem dX1_pay_12 : decode cX1_pay 12 = .ok (.iload 4, 2) := by decide +kernel
theorem dX1_pay_14 : decode cX1_pay 14 = .ok (.aload_n 0, 1) := by decide +kernel
theorem dX1_pay_15 : decode cX1_pay 15 = .ok (.getfield 18, 3) := by decide +kernel
theorem dX1_pay_18 : decode cX1_pay 18 = .ok (.getfield 22, 3) := by decide +kernel
theorem dX1_pay_21 : decode cX1_pay 21 = .ok (.if_icmp .ge 30, 3) := by decide +kernel
theorem dX1_pay_24 : decode cX1_pay 24 = .ok (.getstatic 60, 3) := by decide +kernel
theorem dX1_pay_27 : decode cX1_pay 27 = .ok (.iload_n 1, 1) := by decide +kernel
theorem dX1_pay_28 : decode cX1_pay 28 = .ok (.iconst 4, 1) := by decide +kernel
theorem dX1_pay_29 : decode cX1_pay 29 = .ok (.imul, 1) := by decide +kernel
theorem dX1_pay_30 : decode cX1_pay 30 = .ok (.iload 4, 2) := by decide +kernel
theorem dX1_pay_32 : decode cX1_pay 32 = .ok (.iadd, 1) := by decide +kernel
theorem dX1_pay_33 : decode cX1_pay 33 = .ok (.iaload, 1) := by decide +kernel
theorem dX1_pay_34 : decode cX1_pay 34 = .ok (.iload_n 2, 1) := by decide +kernel
theorem dX1_pay_35 : decode cX1_pay 35 = .ok (.if_icmp .ne 10, 3) := by decide +kernel
theorem dX1_pay_38 : decode cX1_pay 38 = .ok (.iload_n 3, 1) := by decide +kernel
theorem dX1_pay_39 : decode cX1_pay 39 = .ok (.iconst 1, 1) := by decide +kernel
theorem dX1_pay_40 : decode cX1_pay 40 = .ok (.iload 4, 2) := by decide +kernel
theorem dX1_pay_42 : decode cX1_pay 42 = .ok (.ishl, 1) := by decide +kernel
theorem dX1_pay_43 : decode cX1_pay 43 = .ok (.ior, 1) := by decide +kernel
theorem dX1_pay_44 : decode cX1_pay 44 = .ok (.istore_n 3, 1) := by decide +kernel
theorem dX1_pay_45 : decode cX1_pay 45 = .ok (.iinc 4 1, 3) := by decide +kernel
theorem dX1_pay_48 : decode cX1_pay 48 = .ok (.goto (-36), 3) := by decide +kernel
theorem dX1_pay_51 : decode cX1_pay 51 = .ok (.aload_n 0, 1) := by decide +kernel
theorem dX1_pay_52 : decode cX1_pay 52 = .ok (.getfield 18, 3) := by decide +kernel
theorem dX1_pay_55 : decode cX1_pay 55 = .ok (.iload_n 3, 1) := by decide +kernel
theorem dX1_pay_56 : decode cX1_pay 56 = .ok (.aload_n 0, 1) := by decide +kernel
theorem dX1_pay_57 : decode cX1_pay 57 = .ok (.getfield 9, 3) := by decide +kernel
theorem dX1_pay_60 : decode cX1_pay 60 = .ok (.invokevirtual 63, 3) := by decide +kernel
theorem dX1_pay_63 : decode cX1_pay 63 = .ok (.iinc 2 1, 3) := by decide +kernel
theorem dX1_pay_66 : decode cX1_pay 66 = .ok (.goto (-64), 3) := by decide +kernel
theorem dX1_pay_69 : decode cX1_pay 69 = .ok (.iconst 0, 1) := by decide +kernel
theorem dX1_pay_70 : decode cX1_pay 70 = .ok (.istore_n 2, 1) := by decide +kernel
theorem dX1_pay_71 : decode cX1_pay 71 = .ok (.iload_n 2, 1) := by decide +kernel
theorem dX1_pay_72 : decode cX1_pay 72 = .ok (.aload_n 0, 1) := by decide +kernel
theorem dX1_pay_73 : decode cX1_pay 73 = .ok (.getfield 18, 3) := by decide +kernel
theorem dX1_pay_76 : decode cX1_pay 76 = .ok (.getfield 22, 3) := by decide +kernel
theorem dX1_pay_79 : decode cX1_pay 79 = .ok (.if_icmp .ge 36, 3) := by decide +kernel
theorem dX1_pay_82 : decode cX1_pay 82 = .ok (.aload_n 0, 1) := by decide +kernel
theorem dX1_pay_83 : decode cX1_pay 83 = .ok (.getfield 9, 3) := by decide +kernel
theorem dX1_pay_86 : decode cX1_pay 86 = .ok (.iload_n 2, 1) := by decide +kernel
theorem dX1_pay_87 : decode cX1_pay 87 = .ok (.dup2, 1) := by decide +kernel
theorem dX1_pay_88 : decode cX1_pay 88 = .ok (.iaload, 1) := by decide +kernel
theorem dX1_pay_89 : decode cX1_pay 89 = .ok (.aload_n 0, 1) := by decide +kernel
theorem dX1_pay_90 : decode cX1_pay 90 = .ok (.getfield 18, 3) := by decide +kernel
theorem dX1_pay_93 : decode cX1_pay 93 = .ok (.getfield 67, 3) := by decide +kernel
theorem dX1_pay_96 : decode cX1_pay 96 = .ok (.iload_n 2, 1) := by decide +kernel
theorem dX1_pay_97 : decode cX1_pay 97 = .ok (.iaload, 1) := by decide +kernel
theorem dX1_pay_98 : decode cX1_pay 98 = .ok (.aload_n 0, 1) := by decide +kernel
theorem dX1_pay_99 : decode cX1_pay 99 = .ok (.getfield 9, 3) := by decide +kernel
theorem dX1_pay_102 : decode cX1_pay 102 = .ok (.iload_n 2, 1) := by decide +kernel
theorem dX1_pay_103 : decode cX1_pay 103 = .ok (.iaload, 1) := by decide +kernel
theorem dX1_pay_104 : decode cX1_pay 104 = .ok (.invokestatic 70, 3) := by decide +kernel
theorem dX1_pay_107 : decode cX1_pay 107 = .ok (.isub, 1) := by decide +kernel
theorem dX1_pay_108 : decode cX1_pay 108 = .ok (.iastore, 1) := by decide +kernel
theorem dX1_pay_109 : decode cX1_pay 109 = .ok (.iinc 2 1, 3) := by decide +kernel
theorem dX1_pay_112 : decode cX1_pay 112 = .ok (.goto (-41), 3) := by decide +kernel
theorem dX1_pay_115 : decode cX1_pay 115 = .ok (.return_, 1) := by decide +kernel
theorem dX2_init_0 : decode cX2_init 0 = .ok (.aload_n 0, 1) := by decide +kernel
theorem dX2_init_1 : decode cX2_init 1 = .ok (.invokespecial 3, 3) := by decide +kernel
theorem dX2_init_4 : decode cX2_init 4 = .ok (.aload_n 0, 1) := by decide +kernel
theorem dX2_init_5 : decode cX2_init 5 = .ok (.bipush 6, 2) := by decide +kernel
theorem dX2_init_7 : decode cX2_init 7 = .ok (.newarray .int, 2) := by decide +kernel
theorem dX2_init_9 : decode cX2_init 9 = .ok (.putfield 9, 3) := by decide +kernel
theorem dX2_init_12 : decode cX2_init 12 = .ok (.aload_n 0, 1) := by decide +kernel
theorem dX2_init_13 : decode cX2_init 13 = .ok (.bipush 6, 2) := by decide +kernel
theorem dX2_init_15 : decode cX2_init 15 = .ok (.newarray .int, 2) := by decide +kernel
theorem dX2_init_17 : decode cX2_init 17 = .ok (.putfield 15, 3) := by decide +kernel
theorem dX2_init_20 : decode cX2_init 20 = .ok (.aload_n 0, 1) := by decide +kernel
theorem dX2_init_21 : decode cX2_init 21 = .ok (.bipush 6, 2) := by decide +kernel
theorem dX2_init_23 : decode cX2_init 23 = .ok (.newarray .int, 2) := by decide +kernel
theorem dX2_init_25 : decode cX2_init 25 = .ok (.putfield 18, 3) := by decide +kernel
theorem dX2_init_28 : decode cX2_init 28 = .ok (.aload_n 0, 1) := by decide +kernel
theorem dX2_init_29 : decode cX2_init 29 = .ok (.bipush 6, 2) := by decide +kernel
theorem dX2_init_31 : decode cX2_init 31 = .ok (.newarray .int, 2) := by decide +kernel
theorem dX2_init_33 : decode cX2_init 33 = .ok (.putfield 21, 3) := by decide +kernel
theorem dX2_init_36 : decode cX2_init 36 = .ok (.aload_n 0, 1) := by decide +kernel
theorem dX2_init_37 : decode cX2_init 37 = .ok (.bipush 6, 2) := by decide +kernel
theorem dX2_init_39 : decode cX2_init 39 = .ok (.newarray .int, 2) := by decide +kernel
theorem dX2_init_41 : decode cX2_init 41 = .ok (.putfield 24, 3) := by decide +kernel
theorem dX2_init_44 : decode cX2_init 44 = .ok (.aload_n 0, 1) := by decide +kernel
theorem dX2_init_45 : decode cX2_init 45 = .ok (.iconst 0, 1) := by decide +kernel
theorem dX2_init_46 : decode cX2_init 46 = .ok (.putfield 27, 3) := by decide +kernel
theorem dX2_init_49 : decode cX2_init 49 = .ok (.aload_n 0, 1) := by decide +kernel
theorem dX2_init_50 : decode cX2_init 50 = .ok (.iconst (-1), 1) := by decide +kernel
theorem dX2_init_51 : decode cX2_init 51 = .ok (.putfield 31, 3) := by decide +kernel
theorem dX2_init_54 : decode cX2_init 54 = .ok (.aload_n 0, 1) := by decide +kernel
theorem dX2_init_55 : decode cX2_init 55 = .ok (.iconst 0, 1) := by decide +kernel
theorem dX2_init_56 : decode cX2_init 56 = .ok (.putfield 34, 3) := by decide +kernel
theorem dX2_init_59 : decode cX2_init 59 = .ok (.aload_n 0, 1) := by decide +kernel
theorem dX2_init_60 : decode cX2_init 60 = .ok (.iconst 0, 1) := by decide +kernel
theorem dX2_init_61 : decode cX2_init 61 = .ok (.putfield 37, 3) := by decide +kernel
theorem dX2_init_64 : decode cX2_init 64 = .ok (.iconst 0, 1) := by decide +kernel
theorem dX2_init_65 : decode cX2_init 65 = .ok (.istore_n 1, 1) := by decide +kernel
theorem dX2_init_66 : decode cX2_init 66 = .ok (.iload_n 1, 1) := by decide +kernel
theorem dX2_init_67 : decode cX2_init 67 = .ok (.bipush 6, 2) := by decide +kernel
theorem dX2_init_69 : decode cX2_init 69 = .ok (.if_icmp .ge 17, 3) := by decide +kernel
theorem dX2_init_72 : decode cX2_init 72 = .ok (.aload_n 0, 1) := by decide +kernel
theorem dX2_init_73 : decode cX2_init 73 = .ok (.getfield 21, 3) := by decide +kernel
theorem dX2_init_76 : decode cX2_init 76 = .ok (.iload_n 1, 1) := by decide +kernel
theorem dX2_init_77 : decode cX2_init 77 = .ok (.bipush 20, 2) := by decide +kernel
theorem dX2_init_79 : decode cX2_init 79 = .ok (.iastore, 1) := by decide +kernel
theorem dX2_init_80 : decode cX2_init 80 = .ok (.iinc 1 1, 3) := by decide +kernel
theorem dX2_init_83 : decode cX2_init 83 = .ok (.goto (-17), 3) := by decide +kernel
theorem dX2_init_86 : decode cX2_init 86 = .ok (.return_, 1) := by decide +kernel
set_option maxRecDepth 20000 in
theorem ggX2_understand_X6_faultInRows : GoodIn wsX2_understand wsX6_faultInRows := goodIn_r _ [10, 11, 12, 13, 14, 9, 15, 16, 17, 18, 32, 33] (by decide +kernel) (by decide +kernel)
set_option maxRecDepth 20000 in
theorem gX2_understand_X6_faultInRows : GoodIn wsX2_understand (wsV RX2 40 RX6 yX6_faultInRows wsX6_faultInRows) := goodIn_app (goodIn_of _ (by decide +kernel)) ggX2_understand_X6_faultInRows
set_option maxRecDepth 20000 in
theorem ggX2_understand_X6_twoFigures : GoodIn wsX2_understand wsX6_twoFigures := goodIn_r _ [22, 11, 12, 32, 33] (by decide +kernel) (by decide +kernel)
set_option maxRecDepth 20000 in
theorem gX2_understand_X6_twoFigures : GoodIn wsX2_understand (wsV RX2 49 RX6 yX6_twoFigures wsX6_twoFigures) := goodIn_app (goodIn_of _ (by decide +kernel)) ggX2_understand_X6_twoFigures
theorem dX2_understand_0 : decode cX2_understand 0 = .ok (.aload_n 0, 1) := by decide +kernel
theorem dX2_understand_1 : decode cX2_understand 1 = .ok (.aload_n 1, 1) := by decide +kernel
theorem dX2_understand_2 : decode cX2_understand 2 = .ok (.iconst 4, 1) := by decide +kernel
theorem dX2_understand_3 : decode cX2_understand 3 = .ok (.bipush 6, 2) := by decide +kernel
theorem dX2_understand_5 : decode cX2_understand 5 = .ok (.iconst 0, 1) := by decide +kernel
theorem dX2_understand_6 : decode cX2_understand 6 = .ok (.invokevirtual 40, 3) := by decide +kernel
theorem dX2_understand_9 : decode cX2_understand 9 = .ok (.putfield 31, 3) := by decide +kernel
theorem dX2_understand_12 : decode cX2_understand 12 = .ok (.aload_n 0, 1) := by decide +kernel
theorem dX2_understand_13 : decode cX2_understand 13 = .ok (.aload_n 0, 1) := by decide +kernel
theorem dX2_understand_14 : decode cX2_understand 14 = .ok (.getfield 31, 3) := by decide +kernel
theorem dX2_understand_17 : decode cX2_understand 17 = .ok (.iconst (-1), 1) := by decide +kernel
theorem dX2_understand_18 : decode cX2_understand 18 = .ok (.if_icmp .ne 14, 3) := by decide +kernel
theorem dX2_understand_21 : decode cX2_understand 21 = .ok (.aload_n 1, 1) := by decide +kernel
theorem dX2_understand_22 : decode cX2_understand 22 = .ok (.getfield 46, 3) := by decide +kernel
theorem dX2_understand_25 : decode cX2_understand 25 = .ok (.iconst 1, 1) := by decide +kernel
theorem dX2_understand_26 : decode cX2_understand 26 = .ok (.iadd, 1) := by decide +kernel
theorem dX2_understand_27 : decode cX2_understand 27 = .ok (.iconst 5, 1) := by decide +kernel
theorem dX2_understand_28 : decode cX2_understand 28 = .ok (.idiv, 1) := by decide +kernel
theorem dX2_understand_29 : decode cX2_understand 29 = .ok (.goto 4, 3) := by decide +kernel
theorem dX2_understand_32 : decode cX2_understand 32 = .ok (.iconst 0, 1) := by decide +kernel
theorem dX2_understand_33 : decode cX2_understand 33 = .ok (.putfield 27, 3) := by decide +kernel
theorem dX2_understand_36 : decode cX2_understand 36 = .ok (.iconst 0, 1) := by decide +kernel
theorem dX2_understand_37 : decode cX2_understand 37 = .ok (.istore_n 2, 1) := by decide +kernel
theorem dX2_understand_38 : decode cX2_understand 38 = .ok (.iload_n 2, 1) := by decide +kernel
theorem dX2_understand_39 : decode cX2_understand 39 = .ok (.bipush 6, 2) := by decide +kernel
theorem dX2_understand_41 : decode cX2_understand 41 = .ok (.if_icmp .ge 67, 3) := by decide +kernel
theorem dX2_understand_44 : decode cX2_understand 44 = .ok (.iload_n 2, 1) := by decide +kernel
theorem dX2_understand_45 : decode cX2_understand 45 = .ok (.aload_n 0, 1) := by decide +kernel
theorem dX2_understand_46 : decode cX2_understand 46 = .ok (.getfield 27, 3) := by decide +kernel
theorem dX2_understand_49 : decode cX2_understand 49 = .ok (.if_icmp .ge 7, 3) := by decide +kernel
theorem dX2_understand_52 : decode cX2_understand 52 = .ok (.iconst 1, 1) := by decide +kernel
theorem dX2_understand_53 : decode cX2_understand 53 = .ok (.goto 4, 3) := by decide +kernel
theorem dX2_understand_56 : decode cX2_understand 56 = .ok (.iconst 0, 1) := by decide +kernel
theorem dX2_understand_57 : decode cX2_understand 57 = .ok (.istore_n 3, 1) := by decide +kernel
theorem dX2_understand_58 : decode cX2_understand 58 = .ok (.aload_n 0, 1) := by decide +kernel
theorem dX2_understand_59 : decode cX2_understand 59 = .ok (.getfield 9, 3) := by decide +kernel
theorem dX2_understand_62 : decode cX2_understand 62 = .ok (.iload_n 2, 1) := by decide +kernel
theorem dX2_understand_63 : decode cX2_understand 63 = .ok (.iload_n 3, 1) := by decide +kernel
theorem dX2_understand_64 : decode cX2_understand 64 = .ok (.ifCond .eq 13, 3) := by decide +kernel
theorem dX2_understand_67 : decode cX2_understand 67 = .ok (.aload_n 1, 1) := by decide +kernel
theorem dX2_understand_68 : decode cX2_understand 68 = .ok (.iload_n 2, 1) := by decide +kernel
theorem dX2_understand_69 : decode cX2_understand 69 = .ok (.iconst 5, 1) := by decide +kernel
theorem dX2_understand_70 : decode cX2_understand 70 = .ok (.imul, 1) := by decide +kernel
theorem dX2_understand_71 : decode cX2_understand 71 = .ok (.invokevirtual 49, 3) := by decide +kernel
theorem dX2_understand_74 : decode cX2_understand 74 = .ok (.goto 4, 3) := by decide +kernel
theorem dX2_understand_77 : decode cX2_understand 77 = .ok (.iconst 0, 1) := by decide +kernel
theorem dX2_understand_78 : decode cX2_understand 78 = .ok (.iastore, 1) := by decide +kernel
theorem dX2_understand_79 : decode cX2_understand 79 = .ok (.aload_n 0, 1) := by decide +kernel
theorem dX2_understand_80 : decode cX2_understand 80 = .ok (.getfield 15, 3) := by decide +kernel
theorem dX2_understand_83 : decode cX2_understand 83 = .ok (.iload_n 2, 1) := by decide +kernel
theorem dX2_understand_84 : decode cX2_understand 84 = .ok (.iload_n 3, 1) := by decide +kernel
theorem dX2_understand_85 : decode cX2_understand 85 = .ok (.ifCond .eq 15, 3) := by decide +kernel
theorem dX2_understand_88 : decode cX2_understand 88 = .ok (.aload_n 1, 1) := by decide +kernel
theorem dX2_understand_89 : decode cX2_understand 89 = .ok (.iload_n 2, 1) := by decide +kernel
theorem dX2_understand_90 : decode cX2_understand 90 = .ok (.iconst 5, 1) := by decide +kernel
theorem dX2_understand_91 : decode cX2_understand 91 = .ok (.imul, 1) := by decide +kernel
theorem dX2_understand_92 : decode cX2_understand 92 = .ok (.iconst 2, 1) := by decide +kernel
theorem dX2_understand_93 : decode cX2_understand 93 = .ok (.iadd, 1) := by decide +kernel
theorem dX2_understand_94 : decode cX2_understand 94 = .ok (.invokevirtual 49, 3) := by decide +kernel
theorem dX2_understand_97 : decode cX2_understand 97 = .ok (.goto 4, 3) := by decide +kernel
theorem dX2_understand_100 : decode cX2_understand 100 = .ok (.iconst 0, 1) := by decide +kernel
theorem dX2_understand_101 : decode cX2_understand 101 = .ok (.iastore, 1) := by decide +kernel
theorem dX2_understand_102 : decode cX2_understand 102 = .ok (.iinc 2 1, 3) := by decide +kernel
theorem dX2_understand_105 : decode cX2_understand 105 = .ok (.goto (-67), 3) := by decide +kernel
theorem dX2_understand_108 : decode cX2_understand 108 = .ok (.return_, 1) := by decide +kernel
theorem dX2_handAtFirst_0 : decode cX2_handAtFirst 0 = .ok (.iconst 0, 1) := by decide +kernel
theorem dX2_handAtFirst_1 : decode cX2_handAtFirst 1 = .ok (.aload_n 0, 1) := by decide +kernel
theorem dX2_handAtFirst_2 : decode cX2_handAtFirst 2 = .ok (.getfield 9, 3) := by decide +kernel
theorem dX2_handAtFirst_5 : decode cX2_handAtFirst 5 = .ok (.iload_n 1, 1) := by decide +kernel
theorem dX2_handAtFirst_6 : decode cX2_handAtFirst 6 = .ok (.iaload, 1) := by decide +kernel
theorem dX2_handAtFirst_7 : decode cX2_handAtFirst 7 = .ok (.aload_n 0, 1) := by decide +kernel
theorem dX2_handAtFirst_8 : decode cX2_handAtFirst 8 = .ok (.getfield 18, 3) := by decide +kernel
theorem dX2_handAtFirst_11 : decode cX2_handAtFirst 11 = .ok (.iload_n 1, 1) := by decide +kernel
theorem dX2_handAtFirst_12 : decode cX2_handAtFirst 12 = .ok (.iaload, 1) := by decide +kernel
theorem dX2_handAtFirst_13 : decode cX2_handAtFirst 13 = .ok (.isub, 1) := by decide +kernel
theorem dX2_handAtFirst_14 : decode cX2_handAtFirst 14 = .ok (.invokestatic 53, 3) := by decide +kernel
theorem dX2_handAtFirst_17 : decode cX2_handAtFirst 17 = .ok (.ireturn, 1) := by decide +kernel
set_option maxRecDepth 20000 in
theorem ggX2_tellHandsAtFirst_X2_handAtFirst : GoodIn wsX2_tellHandsAtFirst wsX2_handAtFirst := goodIn_r _ [5, 6, 7, 8, 9, 10, 11, 12, 13, 14, 15, 16, 17, 18, 19, 20] (by decide +kernel) (by decide +kernel)
set_option maxRecDepth 20000 in
theorem gX2_tellHandsAtFirst_X2_handAtFirst : GoodIn wsX2_tellHandsAtFirst (wsV RX2 59 RX2 yX2_handAtFirst wsX2_handAtFirst) := goodIn_app (goodIn_of _ (by decide +kernel)) ggX2_tellHandsAtFirst_X2_handAtFirst
theorem dX2_tellHandsAtFirst_0 : decode cX2_tellHandsAtFirst 0 = .ok (.iconst 0, 1) := by decide +kernel
theorem dX2_tellHandsAtFirst_1 : decode cX2_tellHandsAtFirst 1 = .ok (.istore_n 2, 1) := by decide +kernel
theorem dX2_tellHandsAtFirst_2 : decode cX2_tellHandsAtFirst 2 = .ok (.iload_n 2, 1) := by decide +kernel
theorem dX2_tellHandsAtFirst_3 : decode cX2_tellHandsAtFirst 3 = .ok (.bipush 6, 2) := by decide +kernel
theorem dX2_tellHandsAtFirst_5 : decode cX2_tellHandsAtFirst 5 = .ok (.if_icmp .ge 17, 3) := by decide +kernel
theorem dX2_tellHandsAtFirst_8 : decode cX2_tellHandsAtFirst 8 = .ok (.aload_n 1, 1) := by decide +kernel
theorem dX2_tellHandsAtFirst_9 : decode cX2_tellHandsAtFirst 9 = .ok (.iload_n 2, 1) := by decide +kernel
theorem dX2_tellHandsAtFirst_10 : decode cX2_tellHandsAtFirst 10 = .ok (.aload_n 0, 1) := by decide +kernel
theorem dX2_tellHandsAtFirst_11 : decode cX2_tellHandsAtFirst 11 = .ok (.iload_n 2, 1) := by decide +kernel
theorem dX2_tellHandsAtFirst_12 : decode cX2_tellHandsAtFirst 12 = .ok (.invokevirtual 59, 3) := by decide +kernel
theorem dX2_tellHandsAtFirst_15 : decode cX2_tellHandsAtFirst 15 = .ok (.iastore, 1) := by decide +kernel
theorem dX2_tellHandsAtFirst_16 : decode cX2_tellHandsAtFirst 16 = .ok (.iinc 2 1, 3) := by decide +kernel
theorem dX2_tellHandsAtFirst_19 : decode cX2_tellHandsAtFirst 19 = .ok (.goto (-17), 3) := by decide +kernel
theorem dX2_tellHandsAtFirst_22 : decode cX2_tellHandsAtFirst 22 = .ok (.return_, 1) := by decide +kernel
theorem dX2_together_0 : decode cX2_together 0 = .ok (.iconst 0, 1) := by decide +kernel
theorem dX2_together_1 : decode cX2_together 1 = .ok (.istore_n 2, 1) := by decide +kernel
theorem dX2_together_2 : decode cX2_together 2 = .ok (.iconst 0, 1) := by decide +kernel
theorem dX2_together_3 : decode cX2_together 3 = .ok (.istore_n 3, 1) := by decide +kernel
theorem dX2_together_4 : decode cX2_together 4 = .ok (.iload_n 3, 1) := by decide +kernel
theorem dX2_together_5 : decode cX2_together 5 = .ok (.aload_n 0, 1) := by decide +kernel
theorem dX2_together_6 : decode cX2_together 6 = .ok (.getfield 27, 3) := by decide +kernel
theorem dX2_together_9 : decode cX2_together 9 = .ok (.if_icmp .ge 15, 3) := by decide +kernel
theorem dX2_together_12 : decode cX2_together 12 = .ok (.iload_n 2, 1) := by decide +kernel
theorem dX2_together_13 : decode cX2_together 13 = .ok (.aload_n 1, 1) := by decide +kernel
theorem dX2_together_14 : decode cX2_together 14 = .ok (.iload_n 3, 1) := by decide +kernel
theorem dX2_together_15 : decode cX2_together 15 = .ok (.iaload, 1) := by decide +kernel
theorem dX2_together_16 : decode cX2_together 16 = .ok (.iadd, 1) := by decide +kernel
theorem dX2_together_17 : decode cX2_together 17 = .ok (.istore_n 2, 1) := by decide +kernel
theorem dX2_together_18 : decode cX2_together 18 = .ok (.iinc 3 1, 3) := by decide +kernel
theorem dX2_together_21 : decode cX2_together 21 = .ok (.goto (-17), 3) := by decide +kernel
theorem dX2_together_24 : decode cX2_together 24 = .ok (.iload_n 2, 1) := by decide +kernel
theorem dX2_together_25 : decode cX2_together 25 = .ok (.ireturn, 1) := by decide +kernel
theorem dX2_aheadBy_0 : decode cX2_aheadBy 0 = .ok (.iconst (-1), 1) := by decide +kernel
theorem dX2_aheadBy_1 : decode cX2_aheadBy 1 = .ok (.istore_n 3, 1) := by decide +kernel
theorem dX2_aheadBy_2 : decode cX2_aheadBy 2 = .ok (.iconst 0, 1) := by decide +kernel
theorem dX2_aheadBy_3 : decode cX2_aheadBy 3 = .ok (.istore 4, 2) := by decide +kernel
theorem dX2_aheadBy_5 : decode cX2_aheadBy 5 = .ok (.iload 4, 2) := by decide +kernel
theorem dX2_aheadBy_7 : decode cX2_aheadBy 7 = .ok (.aload_n 0, 1) := by decide +kernel
theorem dX2_aheadBy_8 : decode cX2_aheadBy 8 = .ok (.getfield 27, 3) := by decide +kernel
theorem dX2_aheadBy_11 : decode cX2_aheadBy 11 = .ok (.if_icmp .ge 66, 3) := by decide +kernel
theorem dX2_aheadBy_14 : decode cX2_aheadBy 14 = .ok (.iload_n 2, 1) := by decide +kernel
theorem dX2_aheadBy_15 : decode cX2_aheadBy 15 = .ok (.iconst 1, 1) := by decide +kernel
theorem dX2_aheadBy_16 : decode cX2_aheadBy 16 = .ok (.iload 4, 2) := by decide +kernel
theorem dX2_aheadBy_18 : decode cX2_aheadBy 18 = .ok (.ishl, 1) := by decide +kernel
theorem dX2_aheadBy_19 : decode cX2_aheadBy 19 = .ok (.iand, 1) := by decide +kernel
theorem dX2_aheadBy_20 : decode cX2_aheadBy 20 = .ok (.ifCond .eq 7, 3) := by decide +kernel
theorem dX2_aheadBy_23 : decode cX2_aheadBy 23 = .ok (.iconst 1, 1) := by decide +kernel
theorem dX2_aheadBy_24 : decode cX2_aheadBy 24 = .ok (.goto 4, 3) := by decide +kernel
theorem dX2_aheadBy_27 : decode cX2_aheadBy 27 = .ok (.iconst 0, 1) := by decide +kernel
theorem dX2_aheadBy_28 : decode cX2_aheadBy 28 = .ok (.istore 5, 2) := by decide +kernel
theorem dX2_aheadBy_30 : decode cX2_aheadBy 30 = .ok (.iload 5, 2) := by decide +kernel
theorem dX2_aheadBy_32 : decode cX2_aheadBy 32 = .ok (.ifCond .eq 39, 3) := by decide +kernel
theorem dX2_aheadBy_35 : decode cX2_aheadBy 35 = .ok (.iload_n 3, 1) := by decide +kernel
theorem dX2_aheadBy_36 : decode cX2_aheadBy 36 = .ok (.iconst (-1), 1) := by decide +kernel
theorem dX2_aheadBy_37 : decode cX2_aheadBy 37 = .ok (.if_icmp .eq 31, 3) := by decide +kernel
theorem dX2_aheadBy_40 : decode cX2_aheadBy 40 = .ok (.aload_n 1, 1) := by decide +kernel
theorem dX2_aheadBy_41 : decode cX2_aheadBy 41 = .ok (.iload 4, 2) := by decide +kernel
theorem dX2_aheadBy_43 : decode cX2_aheadBy 43 = .ok (.iaload, 1) := by decide +kernel
theorem dX2_aheadBy_44 : decode cX2_aheadBy 44 = .ok (.aload_n 1, 1) := by decide +kernel
theorem dX2_aheadBy_45 : decode cX2_aheadBy 45 = .ok (.iload_n 3, 1) := by decide +kernel
theorem dX2_aheadBy_46 : decode cX2_aheadBy 46 = .ok (.iaload, 1) := by decide +kernel
theorem dX2_aheadBy_47 : decode cX2_aheadBy 47 = .ok (.if_icmp .gt 21, 3) := by decide +kernel
theorem dX2_aheadBy_50 : decode cX2_aheadBy 50 = .ok (.aload_n 0, 1) := by decide +kernel
theorem dX2_aheadBy_51 : decode cX2_aheadBy 51 = .ok (.getfield 37, 3) := by decide +kernel
theorem dX2_aheadBy_54 : decode cX2_aheadBy 54 = .ok (.iconst 1, 1) := by decide +kernel
theorem dX2_aheadBy_55 : decode cX2_aheadBy 55 = .ok (.if_icmp .ne 16, 3) := by decide +kernel
theorem dX2_aheadBy_58 : decode cX2_aheadBy 58 = .ok (.aload_n 1, 1) := by decide +kernel
theorem dX2_aheadBy_59 : decode cX2_aheadBy 59 = .ok (.iload 4, 2) := by decide +kernel
theorem dX2_aheadBy_61 : decode cX2_aheadBy 61 = .ok (.iaload, 1) := by decide +kernel
theorem dX2_aheadBy_62 : decode cX2_aheadBy 62 = .ok (.aload_n 1, 1) := by decide +kernel
theorem dX2_aheadBy_63 : decode cX2_aheadBy 63 = .ok (.iload_n 3, 1) := by decide +kernel
theorem dX2_aheadBy_64 : decode cX2_aheadBy 64 = .ok (.iaload, 1) := by decide +kernel
theorem dX2_aheadBy_65 : decode cX2_aheadBy 65 = .ok (.if_icmp .ne 6, 3) := by decide +kernel
theorem dX2_aheadBy_68 : decode cX2_aheadBy 68 = .ok (.iload 4, 2) := by decide +kernel
theorem dX2_aheadBy_70 : decode cX2_aheadBy 70 = .ok (.istore_n 3, 1) := by decide +kernel
theorem dX2_aheadBy_71 : decode cX2_aheadBy 71 = .ok (.iinc 4 1, 3) := by decide +kernel
theorem dX2_aheadBy_74 : decode cX2_aheadBy 74 = .ok (.goto (-69), 3) := by decide +kernel
theorem dX2_aheadBy_77 : decode cX2_aheadBy 77 = .ok (.iload_n 3, 1) := by decide +kernel
theorem dX2_aheadBy_78 : decode cX2_aheadBy 78 = .ok (.ireturn, 1) := by decide +kernel
set_option maxRecDepth 20000 in
theorem ggX2_charge_X2_aheadBy : GoodIn wsX2_charge wsX2_aheadBy := goodIn_r _ [9, 1, 10, 11, 12, 13, 14, 15, 16, 17, 18, 19] (by decide +kernel) (by decide +kernel)
set_option maxRecDepth 20000 in
theorem gX2_charge_X2_aheadBy : GoodIn wsX2_charge (wsV RX2 62 RX2 yX2_aheadBy wsX2_aheadBy) := goodIn_app (goodIn_of _ (by decide +kernel)) ggX2_charge_X2_aheadBy
theorem dX2_charge_0 : decode cX2_charge 0 = .ok (.iconst 0, 1) := by decide +kernel
theorem dX2_charge_1 : decode cX2_charge 1 = .ok (.istore_n 3, 1) := by decide +kernel
theorem dX2_charge_2 : decode cX2_charge 2 = .ok (.iconst 0, 1) := by decide +kernel
theorem dX2_charge_3 : decode cX2_charge 3 = .ok (.istore 4, 2) := by decide +kernel
theorem dX2_charge_5 : decode cX2_charge 5 = .ok (.iload 4, 2) := by decide +kernel
theorem dX2_charge_7 : decode cX2_charge 7 = .ok (.aload_n 0, 1) := by decide +kernel
theorem dX2_charge_8 : decode cX2_charge 8 = .ok (.getfield 27, 3) := by decide +kernel
theorem dX2_charge_11 : decode cX2_charge 11 = .ok (.if_icmp .ge 54, 3) := by decide +kernel
theorem dX2_charge_14 : decode cX2_charge 14 = .ok (.iload_n 1, 1) := by decide +kernel
theorem dX2_charge_15 : decode cX2_charge 15 = .ok (.iconst 1, 1) := by decide +kernel
theorem dX2_charge_16 : decode cX2_charge 16 = .ok (.iload 4, 2) := by decide +kernel
theorem dX2_charge_18 : decode cX2_charge 18 = .ok (.ishl, 1) := by decide +kernel
theorem dX2_charge_19 : decode cX2_charge 19 = .ok (.iand, 1) := by decide +kernel
theorem dX2_charge_20 : decode cX2_charge 20 = .ok (.ifCond .eq 39, 3) := by decide +kernel
theorem dX2_charge_23 : decode cX2_charge 23 = .ok (.aload_n 0, 1) := by decide +kernel
theorem dX2_charge_24 : decode cX2_charge 24 = .ok (.getfield 24, 3) := by decide +kernel
theorem dX2_charge_27 : decode cX2_charge 27 = .ok (.iload 4, 2) := by decide +kernel
theorem dX2_charge_29 : decode cX2_charge 29 = .ok (.aload_n 0, 1) := by decide +kernel
theorem dX2_charge_30 : decode cX2_charge 30 = .ok (.getfield 34, 3) := by decide +kernel
theorem dX2_charge_33 : decode cX2_charge 33 = .ok (.iconst 2, 1) := by decide +kernel
theorem dX2_charge_34 : decode cX2_charge 34 = .ok (.if_icmp .ne 13, 3) := by decide +kernel
theorem dX2_charge_37 : decode cX2_charge 37 = .ok (.aload_n 0, 1) := by decide +kernel
theorem dX2_charge_38 : decode cX2_charge 38 = .ok (.getfield 15, 3) := by decide +kernel
theorem dX2_charge_41 : decode cX2_charge 41 = .ok (.iload 4, 2) := by decide +kernel
theorem dX2_charge_43 : decode cX2_charge 43 = .ok (.iaload, 1) := by decide +kernel
theorem dX2_charge_44 : decode cX2_charge 44 = .ok (.goto 4, 3) := by decide +kernel
theorem dX2_charge_47 : decode cX2_charge 47 = .ok (.iconst 0, 1) := by decide +kernel
theorem dX2_charge_48 : decode cX2_charge 48 = .ok (.iastore, 1) := by decide +kernel
theorem dX2_charge_49 : decode cX2_charge 49 = .ok (.iload_n 3, 1) := by decide +kernel
theorem dX2_charge_50 : decode cX2_charge 50 = .ok (.aload_n 0, 1) := by decide +kernel
theorem dX2_charge_51 : decode cX2_charge 51 = .ok (.getfield 15, 3) := by decide +kernel
theorem dX2_charge_54 : decode cX2_charge 54 = .ok (.iload 4, 2) := by decide +kernel
theorem dX2_charge_56 : decode cX2_charge 56 = .ok (.iaload, 1) := by decide +kernel
theorem dX2_charge_57 : decode cX2_charge 57 = .ok (.iadd, 1) := by decide +kernel
theorem dX2_charge_58 : decode cX2_charge 58 = .ok (.istore_n 3, 1) := by decide +kernel
theorem dX2_charge_59 : decode cX2_charge 59 = .ok (.iinc 4 1, 3) := by decide +kernel
theorem dX2_charge_62 : decode cX2_charge 62 = .ok (.goto (-57), 3) := by decide +kernel
theorem dX2_charge_65 : decode cX2_charge 65 = .ok (.aload_n 0, 1) := by decide +kernel
theorem dX2_charge_66 : decode cX2_charge 66 = .ok (.getfield 34, 3) := by decide +kernel
theorem dX2_charge_69 : decode cX2_charge 69 = .ok (.iconst 2, 1) := by decide +kernel
theorem dX2_charge_70 : decode cX2_charge 70 = .ok (.if_icmp .ne 7, 3) := by decide +kernel
theorem dX2_charge_73 : decode cX2_charge 73 = .ok (.iconst (-1), 1) := by decide +kernel
theorem dX2_charge_74 : decode cX2_charge 74 = .ok (.goto 9, 3) := by decide +kernel
theorem dX2_charge_77 : decode cX2_charge 77 = .ok (.aload_n 0, 1) := by decide +kernel
theorem dX2_charge_78 : decode cX2_charge 78 = .ok (.aload_n 2, 1) := by decide +kernel
theorem dX2_charge_79 : decode cX2_charge 79 = .ok (.iload_n 1, 1) := by decide +kernel
theorem dX2_charge_80 : decode cX2_charge 80 = .ok (.invokevirtual 62, 3) := by decide +kernel
theorem dX2_charge_83 : decode cX2_charge 83 = .ok (.istore 4, 2) := by decide +kernel
theorem dX2_charge_85 : decode cX2_charge 85 = .ok (.iload 4, 2) := by decide +kernel
theorem dX2_charge_87 : decode cX2_charge 87 = .ok (.iconst (-1), 1) := by decide +kernel
theorem dX2_charge_88 : decode cX2_charge 88 = .ok (.if_icmp .ne 4, 3) := by decide +kernel
theorem dX2_charge_91 : decode cX2_charge 91 = .ok (.return_, 1) := by decide +kernel
theorem dX2_charge_92 : decode cX2_charge 92 = .ok (.aload_n 0, 1) := by decide +kernel
theorem dX2_charge_93 : decode cX2_charge 93 = .ok (.getfield 34, 3) := by decide +kernel
theorem dX2_charge_96 : decode cX2_charge 96 = .ok (.iconst 1, 1) := by decide +kernel
theorem dX2_charge_97 : decode cX2_charge 97 = .ok (.if_icmp .ne 19, 3) := by decide +kernel
theorem dX2_charge_100 : decode cX2_charge 100 = .ok (.aload_n 0, 1) := by decide +kernel
theorem dX2_charge_101 : decode cX2_charge 101 = .ok (.aload_n 2, 1) := by decide +kernel
theorem dX2_charge_102 : decode cX2_charge 102 = .ok (.iload_n 1, 1) := by decide +kernel
theorem dX2_charge_103 : decode cX2_charge 103 = .ok (.iconst 1, 1) := by decide +kernel
theorem dX2_charge_104 : decode cX2_charge 104 = .ok (.iload 4, 2) := by decide +kernel
theorem dX2_charge_106 : decode cX2_charge 106 = .ok (.ishl, 1) := by decide +kernel
theorem dX2_charge_107 : decode cX2_charge 107 = .ok (.iconst (-1), 1) := by decide +kernel
theorem dX2_charge_108 : decode cX2_charge 108 = .ok (.ixor, 1) := by decide +kernel
theorem dX2_charge_109 : decode cX2_charge 109 = .ok (.iand, 1) := by decide +kernel
theorem dX2_charge_110 : decode cX2_charge 110 = .ok (.invokevirtual 62, 3) := by decide +kernel
theorem dX2_charge_113 : decode cX2_charge 113 = .ok (.goto 4, 3) := by decide +kernel
theorem dX2_charge_116 : decode cX2_charge 116 = .ok (.iconst (-1), 1) := by decide +kernel
theorem dX2_charge_117 : decode cX2_charge 117 = .ok (.istore 5, 2) := by decide +kernel
theorem dX2_charge_119 : decode cX2_charge 119 = .ok (.aload_n 0, 1) := by decide +kernel
theorem dX2_charge_120 : decode cX2_charge 120 = .ok (.getfield 24, 3) := by decide +kernel
theorem dX2_charge_123 : decode cX2_charge 123 = .ok (.iload 4, 2) := by decide +kernel
theorem dX2_charge_125 : decode cX2_charge 125 = .ok (.iload 5, 2) := by decide +kernel
theorem dX2_charge_127 : decode cX2_charge 127 = .ok (.iconst (-1), 1) := by decide +kernel
theorem dX2_charge_128 : decode cX2_charge 128 = .ok (.if_icmp .ne 7, 3) := by decide +kernel
theorem dX2_charge_131 : decode cX2_charge 131 = .ok (.iload_n 3, 1) := by decide +kernel
theorem dX2_charge_132 : decode cX2_charge 132 = .ok (.goto 6, 3) := by decide +kernel
theorem dX2_charge_135 : decode cX2_charge 135 = .ok (.iload_n 3, 1) := by decide +kernel
theorem dX2_charge_136 : decode cX2_charge 136 = .ok (.iconst 2, 1) := by decide +kernel
theorem dX2_charge_137 : decode cX2_charge 137 = .ok (.idiv, 1) := by decide +kernel
theorem dX2_charge_138 : decode cX2_charge 138 = .ok (.iastore, 1) := by decide +kernel
theorem dX2_charge_139 : decode cX2_charge 139 = .ok (.iload 5, 2) := by decide +kernel
theorem dX2_charge_141 : decode cX2_charge 141 = .ok (.iconst (-1), 1) := by decide +kernel
theorem dX2_charge_142 : decode cX2_charge 142 = .ok (.if_icmp .eq 15, 3) := by decide +kernel
theorem dX2_charge_145 : decode cX2_charge 145 = .ok (.aload_n 0, 1) := by decide +kernel
theorem dX2_charge_146 : decode cX2_charge 146 = .ok (.getfield 24, 3) := by decide +kernel
theorem dX2_charge_149 : decode cX2_charge 149 = .ok (.iload 5, 2) := by decide +kernel
theorem dX2_charge_151 : decode cX2_charge 151 = .ok (.iload_n 3, 1) := by decide +kernel
theorem dX2_charge_152 : decode cX2_charge 152 = .ok (.iload_n 3, 1) := by decide +kernel
theorem dX2_charge_153 : decode cX2_charge 153 = .ok (.iconst 2, 1) := by decide +kernel
theorem dX2_charge_154 : decode cX2_charge 154 = .ok (.idiv, 1) := by decide +kernel
theorem dX2_charge_155 : decode cX2_charge 155 = .ok (.isub, 1) := by decide +kernel
theorem dX2_charge_156 : decode cX2_charge 156 = .ok (.iastore, 1) := by decide +kernel
theorem dX2_charge_157 : decode cX2_charge 157 = .ok (.return_, 1) := by decide +kernel
set_option maxRecDepth 20000 in
theorem ggX2_payOf_X2_charge : GoodIn wsX2_payOf wsX2_charge := goodIn_r _ [10, 11, 1, 12, 13, 14, 15, 16, 9, 17, 18, 19, 20, 21, 22, 23, 24, 25, 26, 27] (by decide +kernel) (by decide +kernel)
set_option maxRecDepth 20000 in
theorem gX2_payOf_X2_charge : GoodIn wsX2_payOf (wsV RX2 66 RX2 yX2_charge wsX2_charge) := goodIn_app (goodIn_of _ (by decide +kernel)) ggX2_payOf_X2_charge
theorem dX2_payOf_0 : decode cX2_payOf 0 = .ok (.aload_n 0, 1) := by decide +kernel
theorem dX2_payOf_1 : decode cX2_payOf 1 = .ok (.iload_n 2, 1) := by decide +kernel
theorem dX2_payOf_2 : decode cX2_payOf 2 = .ok (.aload_n 3, 1) := by decide +kernel
theorem dX2_payOf_3 : decode cX2_payOf 3 = .ok (.invokevirtual 66, 3) := by decide +kernel
theorem dX2_payOf_6 : decode cX2_payOf 6 = .ok (.aload_n 0, 1) := by decide +kernel
theorem dX2_payOf_7 : decode cX2_payOf 7 = .ok (.getfield 24, 3) := by decide +kernel
theorem dX2_payOf_10 : decode cX2_payOf 10 = .ok (.iload_n 1, 1) := by decide +kernel
theorem dX2_payOf_11 : decode cX2_payOf 11 = .ok (.iaload, 1) := by decide +kernel
theorem dX2_payOf_12 : decode cX2_payOf 12 = .ok (.aload_n 3, 1) := by decide +kernel
theorem dX2_payOf_13 : decode cX2_payOf 13 = .ok (.iload_n 1, 1) := by decide +kernel
theorem dX2_payOf_14 : decode cX2_payOf 14 = .ok (.iaload, 1) := by decide +kernel
theorem dX2_payOf_15 : decode cX2_payOf 15 = .ok (.invokestatic 70, 3) := by decide +kernel
theorem dX2_payOf_18 : decode cX2_payOf 18 = .ok (.ireturn, 1) := by decide +kernel
theorem dX3_init_0 : decode cX3_init 0 = .ok (.aload_n 0, 1) := by decide +kernel
theorem dX3_init_1 : decode cX3_init 1 = .ok (.invokespecial 3, 3) := by decide +kernel
theorem dX3_init_4 : decode cX3_init 4 = .ok (.aload_n 0, 1) := by decide +kernel
theorem dX3_init_5 : decode cX3_init 5 = .ok (.bipush 6, 2) := by decide +kernel
theorem dX3_init_7 : decode cX3_init 7 = .ok (.newarray .int, 2) := by decide +kernel
theorem dX3_init_9 : decode cX3_init 9 = .ok (.putfield 9, 3) := by decide +kernel
theorem dX3_init_12 : decode cX3_init 12 = .ok (.aload_n 0, 1) := by decide +kernel
theorem dX3_init_13 : decode cX3_init 13 = .ok (.sipush 384, 3) := by decide +kernel
theorem dX3_init_16 : decode cX3_init 16 = .ok (.newarray .int, 2) := by decide +kernel
theorem dX3_init_18 : decode cX3_init 18 = .ok (.putfield 15, 3) := by decide +kernel
theorem dX3_init_21 : decode cX3_init 21 = .ok (.aload_n 0, 1) := by decide +kernel
theorem dX3_init_22 : decode cX3_init 22 = .ok (.iconst 4, 1) := by decide +kernel
theorem dX3_init_23 : decode cX3_init 23 = .ok (.newarray .int, 2) := by decide +kernel
theorem dX3_init_25 : decode cX3_init 25 = .ok (.putfield 18, 3) := by decide +kernel
theorem dX3_init_28 : decode cX3_init 28 = .ok (.aload_n 0, 1) := by decide +kernel
theorem dX3_init_29 : decode cX3_init 29 = .ok (.aload_n 1, 1) := by decide +kernel
theorem dX3_init_30 : decode cX3_init 30 = .ok (.putfield 21, 3) := by decide +kernel
theorem dX3_init_33 : decode cX3_init 33 = .ok (.aload_n 0, 1) := by decide +kernel
theorem dX3_init_34 : decode cX3_init 34 = .ok (.aload_n 2, 1) := by decide +kernel
theorem dX3_init_35 : decode cX3_init 35 = .ok (.putfield 25, 3) := by decide +kernel
theorem dX3_init_38 : decode cX3_init 38 = .ok (.return_, 1) := by decide +kernel
set_option maxRecDepth 20000 in
theorem ggX3_findBest_X2_tellHandsAtFirst : GoodIn wsX3_findBest wsX2_tellHandsAtFirst := goodIn_r _ [13, 14, 15, 16, 12, 17, 18, 19, 20, 21, 22, 23, 60, 61, 62, 63, 64, 65, 66, 67, 68] (by decide +kernel) (by decide +kernel)
set_option maxRecDepth 20000 in
theorem gX3_findBest_X2_tellHandsAtFirst : GoodIn wsX3_findBest (wsV RX3 39 RX2 yX2_tellHandsAtFirst wsX2_tellHandsAtFirst) := goodIn_app (goodIn_of _ (by decide +kernel)) ggX3_findBest_X2_tellHandsAtFirst
set_option maxRecDepth 20000 in
theorem ggX3_findBest_X0_seatedAt : GoodIn wsX3_findBest wsX0_seatedAt := goodIn_r _ [28, 29, 69, 70, 71, 72, 73, 74, 75, 76, 77, 78, 79] (by decide +kernel) (by decide +kernel)
set_option maxRecDepth 20000 in
theorem gX3_findBest_X0_seatedAt : GoodIn wsX3_findBest (wsV RX3 45 RX0 yX0_seatedAt wsX0_seatedAt) := goodIn_app (goodIn_of _ (by decide +kernel)) ggX3_findBest_X0_seatedAt
set_option maxRecDepth 20000 in
theorem ggX3_findBest_X2_payOf : GoodIn wsX3_findBest wsX2_payOf := goodIn_r _ [33, 34, 35, 36, 22, 37, 38, 39, 40, 12, 41, 42, 43, 44, 45, 46, 47, 48, 49, 60, 61, 62, 63, 64, 65, 66, 67, 68] (by decide +kernel) (by decide +kernel)
set_option maxRecDepth 20000 in
theorem gX3_findBest_X2_payOf : GoodIn wsX3_findBest (wsV RX3 57 RX2 yX2_payOf wsX2_payOf) := goodIn_app (goodIn_of _ (by decide +kernel)) ggX3_findBest_X2_payOf
theorem dX3_findBest_0 : decode cX3_findBest 0 = .ok (.aload_n 0, 1) := by decide +kernel
theorem dX3_findBest_1 : decode cX3_findBest 1 = .ok (.iconst 0, 1) := by decide +kernel
theorem dX3_findBest_2 : decode cX3_findBest 2 = .ok (.putfield 29, 3) := by decide +kernel
theorem dX3_findBest_5 : decode cX3_findBest 5 = .ok (.aload_n 0, 1) := by decide +kernel
theorem dX3_findBest_6 : decode cX3_findBest 6 = .ok (.iconst (-1), 1) := by decide +kernel
theorem dX3_findBest_7 : decode cX3_findBest 7 = .ok (.putfield 33, 3) := by decide +kernel
theorem dX3_findBest_10 : decode cX3_findBest 10 = .ok (.aload_n 0, 1) := by decide +kernel
theorem dX3_findBest_11 : decode cX3_findBest 11 = .ok (.iconst 0, 1) := by decide +kernel
theorem dX3_findBest_12 : decode cX3_findBest 12 = .ok (.putfield 36, 3) := by decide +kernel
theorem dX3_findBest_15 : decode cX3_findBest 15 = .ok (.aload_n 0, 1) := by decide +kernel
theorem dX3_findBest_16 : decode cX3_findBest 16 = .ok (.getfield 21, 3) := by decide +kernel
theorem dX3_findBest_19 : decode cX3_findBest 19 = .ok (.aload_n 0, 1) := by decide +kernel
theorem dX3_findBest_20 : decode cX3_findBest 20 = .ok (.getfield 9, 3) := by decide +kernel
theorem dX3_findBest_23 : decode cX3_findBest 23 = .ok (.invokevirtual 39, 3) := by decide +kernel
theorem dX3_findBest_26 : decode cX3_findBest 26 = .ok (.iconst 0, 1) := by decide +kernel
theorem dX3_findBest_27 : decode cX3_findBest 27 = .ok (.istore_n 3, 1) := by decide +kernel
theorem dX3_findBest_28 : decode cX3_findBest 28 = .ok (.iload_n 3, 1) := by decide +kernel
theorem dX3_findBest_29 : decode cX3_findBest 29 = .ok (.bipush 6, 2) := by decide +kernel
theorem dX3_findBest_31 : decode cX3_findBest 31 = .ok (.if_icmp .ge 117, 3) := by decide +kernel
theorem dX3_findBest_34 : decode cX3_findBest 34 = .ok (.aload_n 0, 1) := by decide +kernel
theorem dX3_findBest_35 : decode cX3_findBest 35 = .ok (.getfield 25, 3) := by decide +kernel
theorem dX3_findBest_38 : decode cX3_findBest 38 = .ok (.iload_n 1, 1) := by decide +kernel
theorem dX3_findBest_39 : decode cX3_findBest 39 = .ok (.iload_n 3, 1) := by decide +kernel
theorem dX3_findBest_40 : decode cX3_findBest 40 = .ok (.invokevirtual 45, 3) := by decide +kernel
theorem dX3_findBest_43 : decode cX3_findBest 43 = .ok (.iconst 1, 1) := by decide +kernel
theorem dX3_findBest_44 : decode cX3_findBest 44 = .ok (.iload_n 2, 1) := by decide +kernel
theorem dX3_findBest_45 : decode cX3_findBest 45 = .ok (.ishl, 1) := by decide +kernel
theorem dX3_findBest_46 : decode cX3_findBest 46 = .ok (.ior, 1) := by decide +kernel
theorem dX3_findBest_47 : decode cX3_findBest 47 = .ok (.istore 4, 2) := by decide +kernel
theorem dX3_findBest_49 : decode cX3_findBest 49 = .ok (.iconst 0, 1) := by decide +kernel
theorem dX3_findBest_50 : decode cX3_findBest 50 = .ok (.istore 5, 2) := by decide +kernel
theorem dX3_findBest_52 : decode cX3_findBest 52 = .ok (.iload 5, 2) := by decide +kernel
theorem dX3_findBest_54 : decode cX3_findBest 54 = .ok (.aload_n 0, 1) := by decide +kernel
theorem dX3_findBest_55 : decode cX3_findBest 55 = .ok (.getfield 21, 3) := by decide +kernel
theorem dX3_findBest_58 : decode cX3_findBest 58 = .ok (.getfield 51, 3) := by decide +kernel
theorem dX3_findBest_61 : decode cX3_findBest 61 = .ok (.iload_n 2, 1) := by decide +kernel
theorem dX3_findBest_62 : decode cX3_findBest 62 = .ok (.iaload, 1) := by decide +kernel
theorem dX3_findBest_63 : decode cX3_findBest 63 = .ok (.if_icmp .gt 79, 3) := by decide +kernel
theorem dX3_findBest_66 : decode cX3_findBest 66 = .ok (.aload_n 0, 1) := by decide +kernel
theorem dX3_findBest_67 : decode cX3_findBest 67 = .ok (.getfield 9, 3) := by decide +kernel
theorem dX3_findBest_70 : decode cX3_findBest 70 = .ok (.iload_n 2, 1) := by decide +kernel
theorem dX3_findBest_71 : decode cX3_findBest 71 = .ok (.aload_n 0, 1) := by decide +kernel
theorem dX3_findBest_72 : decode cX3_findBest 72 = .ok (.getfield 21, 3) := by decide +kernel
theorem dX3_findBest_75 : decode cX3_findBest 75 = .ok (.getfield 51, 3) := by decide +kernel
theorem dX3_findBest_78 : decode cX3_findBest 78 = .ok (.iload_n 2, 1) := by decide +kernel
theorem dX3_findBest_79 : decode cX3_findBest 79 = .ok (.iaload, 1) := by decide +kernel
theorem dX3_findBest_80 : decode cX3_findBest 80 = .ok (.iload 5, 2) := by decide +kernel
theorem dX3_findBest_82 : decode cX3_findBest 82 = .ok (.isub, 1) := by decide +kernel
theorem dX3_findBest_83 : decode cX3_findBest 83 = .ok (.iastore, 1) := by decide +kernel
theorem dX3_findBest_84 : decode cX3_findBest 84 = .ok (.aload_n 0, 1) := by decide +kernel
theorem dX3_findBest_85 : decode cX3_findBest 85 = .ok (.getfield 21, 3) := by decide +kernel
theorem dX3_findBest_88 : decode cX3_findBest 88 = .ok (.getfield 54, 3) := by decide +kernel
theorem dX3_findBest_91 : decode cX3_findBest 91 = .ok (.iload_n 2, 1) := by decide +kernel
theorem dX3_findBest_92 : decode cX3_findBest 92 = .ok (.iaload, 1) := by decide +kernel
theorem dX3_findBest_93 : decode cX3_findBest 93 = .ok (.aload_n 0, 1) := by decide +kernel
theorem dX3_findBest_94 : decode cX3_findBest 94 = .ok (.getfield 21, 3) := by decide +kernel
theorem dX3_findBest_97 : decode cX3_findBest 97 = .ok (.iload_n 2, 1) := by decide +kernel
theorem dX3_findBest_98 : decode cX3_findBest 98 = .ok (.iload 4, 2) := by decide +kernel
theorem dX3_findBest_100 : decode cX3_findBest 100 = .ok (.aload_n 0, 1) := by decide +kernel
theorem dX3_findBest_101 : decode cX3_findBest 101 = .ok (.getfield 9, 3) := by decide +kernel
theorem dX3_findBest_104 : decode cX3_findBest 104 = .ok (.invokevirtual 57, 3) := by decide +kernel
theorem dX3_findBest_107 : decode cX3_findBest 107 = .ok (.isub, 1) := by decide +kernel
theorem dX3_findBest_108 : decode cX3_findBest 108 = .ok (.istore 6, 2) := by decide +kernel
theorem dX3_findBest_110 : decode cX3_findBest 110 = .ok (.iload 6, 2) := by decide +kernel
theorem dX3_findBest_112 : decode cX3_findBest 112 = .ok (.aload_n 0, 1) := by decide +kernel
theorem dX3_findBest_113 : decode cX3_findBest 113 = .ok (.getfield 29, 3) := by decide +kernel
theorem dX3_findBest_116 : decode cX3_findBest 116 = .ok (.if_icmp .le 20, 3) := by decide +kernel
theorem dX3_findBest_119 : decode cX3_findBest 119 = .ok (.aload_n 0, 1) := by decide +kernel
theorem dX3_findBest_120 : decode cX3_findBest 120 = .ok (.iload 6, 2) := by decide +kernel
theorem dX3_findBest_122 : decode cX3_findBest 122 = .ok (.putfield 29, 3) := by decide +kernel
theorem dX3_findBest_125 : decode cX3_findBest 125 = .ok (.aload_n 0, 1) := by decide +kernel
theorem dX3_findBest_126 : decode cX3_findBest 126 = .ok (.iload_n 3, 1) := by decide +kernel
theorem dX3_findBest_127 : decode cX3_findBest 127 = .ok (.putfield 33, 3) := by decide +kernel
theorem dX3_findBest_130 : decode cX3_findBest 130 = .ok (.aload_n 0, 1) := by decide +kernel
theorem dX3_findBest_131 : decode cX3_findBest 131 = .ok (.iload 5, 2) := by decide +kernel
theorem dX3_findBest_133 : decode cX3_findBest 133 = .ok (.putfield 36, 3) := by decide +kernel
theorem dX3_findBest_136 : decode cX3_findBest 136 = .ok (.iinc 5 1, 3) := by decide +kernel
theorem dX3_findBest_139 : decode cX3_findBest 139 = .ok (.goto (-87), 3) := by decide +kernel
theorem dX3_findBest_142 : decode cX3_findBest 142 = .ok (.iinc 3 1, 3) := by decide +kernel
theorem dX3_findBest_145 : decode cX3_findBest 145 = .ok (.goto (-117), 3) := by decide +kernel
theorem dX3_findBest_148 : decode cX3_findBest 148 = .ok (.return_, 1) := by decide +kernel
theorem dX3_bestTold_0 : decode cX3_bestTold 0 = .ok (.iload_n 1, 1) := by decide +kernel
theorem dX3_bestTold_1 : decode cX3_bestTold 1 = .ok (.ifCond .ne 10, 3) := by decide +kernel
theorem dX3_bestTold_4 : decode cX3_bestTold 4 = .ok (.aload_n 0, 1) := by decide +kernel
theorem dX3_bestTold_5 : decode cX3_bestTold 5 = .ok (.getfield 29, 3) := by decide +kernel
theorem dX3_bestTold_8 : decode cX3_bestTold 8 = .ok (.goto 19, 3) := by decide +kernel
theorem dX3_bestTold_11 : decode cX3_bestTold 11 = .ok (.iload_n 1, 1) := by decide +kernel
theorem dX3_bestTold_12 : decode cX3_bestTold 12 = .ok (.iconst 1, 1) := by decide +kernel
theorem dX3_bestTold_13 : decode cX3_bestTold 13 = .ok (.if_icmp .ne 10, 3) := by decide +kernel
theorem dX3_bestTold_16 : decode cX3_bestTold 16 = .ok (.aload_n 0, 1) := by decide +kernel
theorem dX3_bestTold_17 : decode cX3_bestTold 17 = .ok (.getfield 33, 3) := by decide +kernel
theorem dX3_bestTold_20 : decode cX3_bestTold 20 = .ok (.goto 7, 3) := by decide +kernel
theorem dX3_bestTold_23 : decode cX3_bestTold 23 = .ok (.aload_n 0, 1) := by decide +kernel
theorem dX3_bestTold_24 : decode cX3_bestTold 24 = .ok (.getfield 36, 3) := by decide +kernel
theorem dX3_bestTold_27 : decode cX3_bestTold 27 = .ok (.ireturn, 1) := by decide +kernel
set_option maxRecDepth 20000 in
theorem ggX3_findRests_X3_findGains : GoodIn wsX3_findRests wsX3_findGains := goodIn_r _ [9, 3, 10, 4, 11, 12, 13, 14, 15, 16, 17, 18, 19, 20, 21, 22, 23, 24, 25, 26, 27, 28, 29, 30, 31, 32, 33, 34, 35, 36, 37, 38, 39, 40, 41, 42, 43, 44, 58, 59, 60, 61, 62, 63, 64, 65, 66, 67, 68, 69, 70, 71, 72, 73, 74, 75, 76] (by decide +kernel) (by decide +kernel)
set_option maxRecDepth 20000 in
theorem gX3_findRests_X3_findGains : GoodIn wsX3_findRests (wsV RX3 61 RX3 yX3_findGains wsX3_findGains) := goodIn_app (goodIn_of _ (by decide +kernel)) ggX3_findRests_X3_findGains
set_option maxRecDepth 20000 in
theorem ggX3_findRests_X3_isRest : GoodIn wsX3_findRests wsX3_isRest := goodIn_r _ [48, 49, 3, 4, 50, 51, 52, 8, 53, 54, 55, 56, 57, 11, 58, 59, 60, 61, 62, 63, 64, 65, 66, 67, 68, 69, 70, 71, 72, 73, 74, 75, 76] (by decide +kernel) (by decide +kernel)
set_option maxRecDepth 20000 in
theorem gX3_findRests_X3_isRest : GoodIn wsX3_findRests (wsV RX3 73 RX3 yX3_isRest wsX3_isRest) := goodIn_app (goodIn_of _ (by decide +kernel)) ggX3_findRests_X3_isRest
theorem dX3_findRests_0 : decode cX3_findRests 0 = .ok (.aload_n 0, 1) := by decide +kernel
theorem dX3_findRests_1 : decode cX3_findRests 1 = .ok (.invokevirtual 61, 3) := by decide +kernel
theorem dX3_findRests_4 : decode cX3_findRests 4 = .ok (.aload_n 0, 1) := by decide +kernel
theorem dX3_findRests_5 : decode cX3_findRests 5 = .ok (.iconst 0, 1) := by decide +kernel
theorem dX3_findRests_6 : decode cX3_findRests 6 = .ok (.putfield 64, 3) := by decide +kernel
theorem dX3_findRests_9 : decode cX3_findRests 9 = .ok (.aload_n 0, 1) := by decide +kernel
theorem dX3_findRests_10 : decode cX3_findRests 10 = .ok (.iconst (-1), 1) := by decide +kernel
theorem dX3_findRests_11 : decode cX3_findRests 11 = .ok (.putfield 67, 3) := by decide +kernel
theorem dX3_findRests_14 : decode cX3_findRests 14 = .ok (.iconst 1, 1) := by decide +kernel
theorem dX3_findRests_15 : decode cX3_findRests 15 = .ok (.iconst 2, 1) := by decide +kernel
theorem dX3_findRests_16 : decode cX3_findRests 16 = .ok (.aload_n 0, 1) := by decide +kernel
theorem dX3_findRests_17 : decode cX3_findRests 17 = .ok (.getfield 21, 3) := by decide +kernel
theorem dX3_findRests_20 : decode cX3_findRests 20 = .ok (.getfield 70, 3) := by decide +kernel
theorem dX3_findRests_23 : decode cX3_findRests 23 = .ok (.imul, 1) := by decide +kernel
theorem dX3_findRests_24 : decode cX3_findRests 24 = .ok (.ishl, 1) := by decide +kernel
theorem dX3_findRests_25 : decode cX3_findRests 25 = .ok (.istore_n 1, 1) := by decide +kernel
theorem dX3_findRests_26 : decode cX3_findRests 26 = .ok (.iconst 0, 1) := by decide +kernel
theorem dX3_findRests_27 : decode cX3_findRests 27 = .ok (.istore_n 2, 1) := by decide +kernel
theorem dX3_findRests_28 : decode cX3_findRests 28 = .ok (.iload_n 2, 1) := by decide +kernel
theorem dX3_findRests_29 : decode cX3_findRests 29 = .ok (.iload_n 1, 1) := by decide +kernel
theorem dX3_findRests_30 : decode cX3_findRests 30 = .ok (.if_icmp .ge 46, 3) := by decide +kernel
theorem dX3_findRests_33 : decode cX3_findRests 33 = .ok (.aload_n 0, 1) := by decide +kernel
theorem dX3_findRests_34 : decode cX3_findRests 34 = .ok (.iload_n 2, 1) := by decide +kernel
theorem dX3_findRests_35 : decode cX3_findRests 35 = .ok (.invokevirtual 73, 3) := by decide +kernel
theorem dX3_findRests_38 : decode cX3_findRests 38 = .ok (.ifCond .eq 32, 3) := by decide +kernel
theorem dX3_findRests_41 : decode cX3_findRests 41 = .ok (.aload_n 0, 1) := by decide +kernel
theorem dX3_findRests_42 : decode cX3_findRests 42 = .ok (.aload_n 0, 1) := by decide +kernel
theorem dX3_findRests_43 : decode cX3_findRests 43 = .ok (.getfield 64, 3) := by decide +kernel
theorem dX3_findRests_46 : decode cX3_findRests 46 = .ok (.ifCond .ne 7, 3) := by decide +kernel
theorem dX3_findRests_49 : decode cX3_findRests 49 = .ok (.iload_n 2, 1) := by decide +kernel
theorem dX3_findRests_50 : decode cX3_findRests 50 = .ok (.goto 7, 3) := by decide +kernel
theorem dX3_findRests_53 : decode cX3_findRests 53 = .ok (.aload_n 0, 1) := by decide +kernel
theorem dX3_findRests_54 : decode cX3_findRests 54 = .ok (.getfield 67, 3) := by decide +kernel
theorem dX3_findRests_57 : decode cX3_findRests 57 = .ok (.putfield 67, 3) := by decide +kernel
theorem dX3_findRests_60 : decode cX3_findRests 60 = .ok (.aload_n 0, 1) := by decide +kernel
theorem dX3_findRests_61 : decode cX3_findRests 61 = .ok (.dup, 1) := by decide +kernel
theorem dX3_findRests_62 : decode cX3_findRests 62 = .ok (.getfield 64, 3) := by decide +kernel
theorem dX3_findRests_65 : decode cX3_findRests 65 = .ok (.iconst 1, 1) := by decide +kernel
theorem dX3_findRests_66 : decode cX3_findRests 66 = .ok (.iadd, 1) := by decide +kernel
theorem dX3_findRests_67 : decode cX3_findRests 67 = .ok (.putfield 64, 3) := by decide +kernel
theorem dX3_findRests_70 : decode cX3_findRests 70 = .ok (.iinc 2 1, 3) := by decide +kernel
theorem dX3_findRests_73 : decode cX3_findRests 73 = .ok (.goto (-45), 3) := by decide +kernel
theorem dX3_findRests_76 : decode cX3_findRests 76 = .ok (.return_, 1) := by decide +kernel
set_option maxRecDepth 20000 in
theorem ggX3_firstRestTable_X3_choiceIn : GoodIn wsX3_firstRestTable wsX3_choiceIn := goodIn_r _ [6, 7, 8, 9, 10, 11, 12, 13, 14, 15, 16, 17, 18, 19, 20, 21, 22, 23, 24, 25, 26, 27] (by decide +kernel) (by decide +kernel)
set_option maxRecDepth 20000 in
theorem gX3_firstRestTable_X3_choiceIn : GoodIn wsX3_firstRestTable (wsV RX3 77 RX3 yX3_choiceIn wsX3_choiceIn) := goodIn_app (goodIn_of _ (by decide +kernel)) ggX3_firstRestTable_X3_choiceIn
theorem dX3_firstRestTable_0 : decode cX3_firstRestTable 0 = .ok (.aload_n 0, 1) := by decide +kernel
theorem dX3_firstRestTable_1 : decode cX3_firstRestTable 1 = .ok (.getfield 67, 3) := by decide +kernel
theorem dX3_firstRestTable_4 : decode cX3_firstRestTable 4 = .ok (.iconst (-1), 1) := by decide +kernel
theorem dX3_firstRestTable_5 : decode cX3_firstRestTable 5 = .ok (.if_icmp .ne 7, 3) := by decide +kernel
theorem dX3_firstRestTable_8 : decode cX3_firstRestTable 8 = .ok (.iconst (-1), 1) := by decide +kernel
theorem dX3_firstRestTable_9 : decode cX3_firstRestTable 9 = .ok (.goto 14, 3) := by decide +kernel
theorem dX3_firstRestTable_12 : decode cX3_firstRestTable 12 = .ok (.aload_n 0, 1) := by decide +kernel
theorem dX3_firstRestTable_13 : decode cX3_firstRestTable 13 = .ok (.aload_n 0, 1) := by decide +kernel
theorem dX3_firstRestTable_14 : decode cX3_firstRestTable 14 = .ok (.getfield 67, 3) := by decide +kernel
theorem dX3_firstRestTable_17 : decode cX3_firstRestTable 17 = .ok (.iload_n 1, 1) := by decide +kernel
theorem dX3_firstRestTable_18 : decode cX3_firstRestTable 18 = .ok (.invokevirtual 77, 3) := by decide +kernel
theorem dX3_firstRestTable_21 : decode cX3_firstRestTable 21 = .ok (.iconst 1, 1) := by decide +kernel
theorem dX3_firstRestTable_22 : decode cX3_firstRestTable 22 = .ok (.isub, 1) := by decide +kernel
theorem dX3_firstRestTable_23 : decode cX3_firstRestTable 23 = .ok (.ireturn, 1) := by decide +kernel
set_option maxRecDepth 20000 in
theorem ggX3_findGains_X2_tellHandsAtFirst : GoodIn wsX3_findGains wsX2_tellHandsAtFirst := goodIn_r _ [15, 16, 17, 18, 14, 19, 20, 21, 22, 23, 9, 24, 48, 49, 50, 51, 52, 53, 54, 55, 56] (by decide +kernel) (by decide +kernel)
set_option maxRecDepth 20000 in
theorem gX3_findGains_X2_tellHandsAtFirst : GoodIn wsX3_findGains (wsV RX3 39 RX2 yX2_tellHandsAtFirst wsX2_tellHandsAtFirst) := goodIn_app (goodIn_of _ (by decide +kernel)) ggX3_findGains_X2_tellHandsAtFirst
set_option maxRecDepth 20000 in
theorem ggX3_findGains_X2_charge : GoodIn wsX3_findGains wsX2_charge := goodIn_r _ [28, 29, 30, 31, 32, 33, 34, 35, 14, 36, 37, 48, 49, 50, 51, 52, 53, 54, 55, 56] (by decide +kernel) (by decide +kernel)
set_option maxRecDepth 20000 in
theorem gX3_findGains_X2_charge : GoodIn wsX3_findGains (wsV RX3 80 RX2 yX2_charge wsX2_charge) := goodIn_app (goodIn_of _ (by decide +kernel)) ggX3_findGains_X2_charge
theorem dX3_findGains_0 : decode cX3_findGains 0 = .ok (.aload_n 0, 1) := by decide +kernel
theorem dX3_findGains_1 : decode cX3_findGains 1 = .ok (.getfield 21, 3) := by decide +kernel
theorem dX3_findGains_4 : decode cX3_findGains 4 = .ok (.aload_n 0, 1) := by decide +kernel
theorem dX3_findGains_5 : decode cX3_findGains 5 = .ok (.getfield 9, 3) := by decide +kernel
theorem dX3_findGains_8 : decode cX3_findGains 8 = .ok (.invokevirtual 39, 3) := by decide +kernel
theorem dX3_findGains_11 : decode cX3_findGains 11 = .ok (.iconst 1, 1) := by decide +kernel
theorem dX3_findGains_12 : decode cX3_findGains 12 = .ok (.aload_n 0, 1) := by decide +kernel
theorem dX3_findGains_13 : decode cX3_findGains 13 = .ok (.getfield 21, 3) := by decide +kernel
theorem dX3_findGains_16 : decode cX3_findGains 16 = .ok (.getfield 70, 3) := by decide +kernel
theorem dX3_findGains_19 : decode cX3_findGains 19 = .ok (.ishl, 1) := by decide +kernel
theorem dX3_findGains_20 : decode cX3_findGains 20 = .ok (.istore_n 1, 1) := by decide +kernel
theorem dX3_findGains_21 : decode cX3_findGains 21 = .ok (.iconst 1, 1) := by decide +kernel
theorem dX3_findGains_22 : decode cX3_findGains 22 = .ok (.istore_n 2, 1) := by decide +kernel
theorem dX3_findGains_23 : decode cX3_findGains 23 = .ok (.iload_n 2, 1) := by decide +kernel
theorem dX3_findGains_24 : decode cX3_findGains 24 = .ok (.iload_n 1, 1) := by decide +kernel
theorem dX3_findGains_25 : decode cX3_findGains 25 = .ok (.if_icmp .ge 79, 3) := by decide +kernel
theorem dX3_findGains_28 : decode cX3_findGains 28 = .ok (.aload_n 0, 1) := by decide +kernel
theorem dX3_findGains_29 : decode cX3_findGains 29 = .ok (.getfield 21, 3) := by decide +kernel
theorem dX3_findGains_32 : decode cX3_findGains 32 = .ok (.iload_n 2, 1) := by decide +kernel
theorem dX3_findGains_33 : decode cX3_findGains 33 = .ok (.aload_n 0, 1) := by decide +kernel
theorem dX3_findGains_34 : decode cX3_findGains 34 = .ok (.getfield 9, 3) := by decide +kernel
theorem dX3_findGains_37 : decode cX3_findGains 37 = .ok (.invokevirtual 80, 3) := by decide +kernel
theorem dX3_findGains_40 : decode cX3_findGains 40 = .ok (.iconst 0, 1) := by decide +kernel
theorem dX3_findGains_41 : decode cX3_findGains 41 = .ok (.istore_n 3, 1) := by decide +kernel
theorem dX3_findGains_42 : decode cX3_findGains 42 = .ok (.iload_n 3, 1) := by decide +kernel
theorem dX3_findGains_43 : decode cX3_findGains 43 = .ok (.aload_n 0, 1) := by decide +kernel
theorem dX3_findGains_44 : decode cX3_findGains 44 = .ok (.getfield 21, 3) := by decide +kernel
theorem dX3_findGains_47 : decode cX3_findGains 47 = .ok (.getfield 70, 3) := by decide +kernel
theorem dX3_findGains_50 : decode cX3_findGains 50 = .ok (.if_icmp .ge 48, 3) := by decide +kernel
theorem dX3_findGains_53 : decode cX3_findGains 53 = .ok (.aload_n 0, 1) := by decide +kernel
theorem dX3_findGains_54 : decode cX3_findGains 54 = .ok (.getfield 15, 3) := by decide +kernel
theorem dX3_findGains_57 : decode cX3_findGains 57 = .ok (.iload_n 3, 1) := by decide +kernel
theorem dX3_findGains_58 : decode cX3_findGains 58 = .ok (.bipush 64, 2) := by decide +kernel
theorem dX3_findGains_60 : decode cX3_findGains 60 = .ok (.imul, 1) := by decide +kernel
theorem dX3_findGains_61 : decode cX3_findGains 61 = .ok (.iload_n 2, 1) := by decide +kernel
theorem dX3_findGains_62 : decode cX3_findGains 62 = .ok (.iadd, 1) := by decide +kernel
theorem dX3_findGains_63 : decode cX3_findGains 63 = .ok (.aload_n 0, 1) := by decide +kernel
theorem dX3_findGains_64 : decode cX3_findGains 64 = .ok (.getfield 21, 3) := by decide +kernel
theorem dX3_findGains_67 : decode cX3_findGains 67 = .ok (.getfield 54, 3) := by decide +kernel
theorem dX3_findGains_70 : decode cX3_findGains 70 = .ok (.iload_n 3, 1) := by decide +kernel
theorem dX3_findGains_71 : decode cX3_findGains 71 = .ok (.iaload, 1) := by decide +kernel
theorem dX3_findGains_72 : decode cX3_findGains 72 = .ok (.aload_n 0, 1) := by decide +kernel
theorem dX3_findGains_73 : decode cX3_findGains 73 = .ok (.getfield 21, 3) := by decide +kernel
theorem dX3_findGains_76 : decode cX3_findGains 76 = .ok (.getfield 84, 3) := by decide +kernel
theorem dX3_findGains_79 : decode cX3_findGains 79 = .ok (.iload_n 3, 1) := by decide +kernel
theorem dX3_findGains_80 : decode cX3_findGains 80 = .ok (.iaload, 1) := by decide +kernel
theorem dX3_findGains_81 : decode cX3_findGains 81 = .ok (.aload_n 0, 1) := by decide +kernel
theorem dX3_findGains_82 : decode cX3_findGains 82 = .ok (.getfield 9, 3) := by decide +kernel
theorem dX3_findGains_85 : decode cX3_findGains 85 = .ok (.iload_n 3, 1) := by decide +kernel
theorem dX3_findGains_86 : decode cX3_findGains 86 = .ok (.iaload, 1) := by decide +kernel
theorem dX3_findGains_87 : decode cX3_findGains 87 = .ok (.invokestatic 87, 3) := by decide +kernel
theorem dX3_findGains_90 : decode cX3_findGains 90 = .ok (.isub, 1) := by decide +kernel
theorem dX3_findGains_91 : decode cX3_findGains 91 = .ok (.iastore, 1) := by decide +kernel
theorem dX3_findGains_92 : decode cX3_findGains 92 = .ok (.iinc 3 1, 3) := by decide +kernel
theorem dX3_findGains_95 : decode cX3_findGains 95 = .ok (.goto (-53), 3) := by decide +kernel
theorem dX3_findGains_98 : decode cX3_findGains 98 = .ok (.iinc 2 1, 3) := by decide +kernel
theorem dX3_findGains_101 : decode cX3_findGains 101 = .ok (.goto (-78), 3) := by decide +kernel
theorem dX3_findGains_104 : decode cX3_findGains 104 = .ok (.return_, 1) := by decide +kernel
theorem dX3_choiceIn_0 : decode cX3_choiceIn 0 = .ok (.iload_n 1, 1) := by decide +kernel
theorem dX3_choiceIn_1 : decode cX3_choiceIn 1 = .ok (.iconst 2, 1) := by decide +kernel
theorem dX3_choiceIn_2 : decode cX3_choiceIn 2 = .ok (.aload_n 0, 1) := by decide +kernel
theorem dX3_choiceIn_3 : decode cX3_choiceIn 3 = .ok (.getfield 21, 3) := by decide +kernel
theorem dX3_choiceIn_6 : decode cX3_choiceIn 6 = .ok (.getfield 70, 3) := by decide +kernel
theorem dX3_choiceIn_9 : decode cX3_choiceIn 9 = .ok (.iconst 1, 1) := by decide +kernel
theorem dX3_choiceIn_10 : decode cX3_choiceIn 10 = .ok (.isub, 1) := by decide +kernel
theorem dX3_choiceIn_11 : decode cX3_choiceIn 11 = .ok (.iload_n 2, 1) := by decide +kernel
theorem dX3_choiceIn_12 : decode cX3_choiceIn 12 = .ok (.isub, 1) := by decide +kernel
theorem dX3_choiceIn_13 : decode cX3_choiceIn 13 = .ok (.imul, 1) := by decide +kernel
theorem dX3_choiceIn_14 : decode cX3_choiceIn 14 = .ok (.ishr, 1) := by decide +kernel
theorem dX3_choiceIn_15 : decode cX3_choiceIn 15 = .ok (.iconst 3, 1) := by decide +kernel
theorem dX3_choiceIn_16 : decode cX3_choiceIn 16 = .ok (.iand, 1) := by decide +kernel
theorem dX3_choiceIn_17 : decode cX3_choiceIn 17 = .ok (.ireturn, 1) := by decide +kernel
set_option maxRecDepth 20000 in
theorem ggX3_isRest_X3_choiceIn : GoodIn wsX3_isRest wsX3_choiceIn := goodIn_r _ [8, 2, 3, 14, 15, 16, 17, 18, 19, 20, 21, 22, 23, 24, 25, 26, 27, 28, 29, 30, 31, 32] (by decide +kernel) (by decide +kernel)
set_option maxRecDepth 20000 in
theorem gX3_isRest_X3_choiceIn : GoodIn wsX3_isRest (wsV RX3 77 RX3 yX3_choiceIn wsX3_choiceIn) := goodIn_app (goodIn_of _ (by decide +kernel)) ggX3_isRest_X3_choiceIn
set_option maxRecDepth 20000 in
theorem ggX3_isRest_X3_gainBy : GoodIn wsX3_isRest wsX3_gainBy := goodIn_r _ [12, 13, 1, 14, 15, 16, 17, 18, 19, 20, 21, 22, 23] (by decide +kernel) (by decide +kernel)
set_option maxRecDepth 20000 in
theorem gX3_isRest_X3_gainBy : GoodIn wsX3_isRest (wsV RX3 92 RX3 yX3_gainBy wsX3_gainBy) := goodIn_app (goodIn_of _ (by decide +kernel)) ggX3_isRest_X3_gainBy
theorem dX3_isRest_0 : decode cX3_isRest 0 = .ok (.iconst 0, 1) := by decide +kernel
theorem dX3_isRest_1 : decode cX3_isRest 1 = .ok (.istore_n 2, 1) := by decide +kernel
theorem dX3_isRest_2 : decode cX3_isRest 2 = .ok (.iload_n 2, 1) := by decide +kernel
theorem dX3_isRest_3 : decode cX3_isRest 3 = .ok (.iconst 4, 1) := by decide +kernel
theorem dX3_isRest_4 : decode cX3_isRest 4 = .ok (.if_icmp .ge 16, 3) := by decide +kernel
theorem dX3_isRest_7 : decode cX3_isRest 7 = .ok (.aload_n 0, 1) := by decide +kernel
theorem dX3_isRest_8 : decode cX3_isRest 8 = .ok (.getfield 18, 3) := by decide +kernel
theorem dX3_isRest_11 : decode cX3_isRest 11 = .ok (.iload_n 2, 1) := by decide +kernel
theorem dX3_isRest_12 : decode cX3_isRest 12 = .ok (.iconst 0, 1) := by decide +kernel
theorem dX3_isRest_13 : decode cX3_isRest 13 = .ok (.iastore, 1) := by decide +kernel
theorem dX3_isRest_14 : decode cX3_isRest 14 = .ok (.iinc 2 1, 3) := by decide +kernel
theorem dX3_isRest_17 : decode cX3_isRest 17 = .ok (.goto (-15), 3) := by decide +kernel
theorem dX3_isRest_20 : decode cX3_isRest 20 = .ok (.iconst 0, 1) := by decide +kernel
theorem dX3_isRest_21 : decode cX3_isRest 21 = .ok (.istore_n 2, 1) := by decide +kernel
theorem dX3_isRest_22 : decode cX3_isRest 22 = .ok (.iload_n 2, 1) := by decide +kernel
theorem dX3_isRest_23 : decode cX3_isRest 23 = .ok (.aload_n 0, 1) := by decide +kernel
theorem dX3_isRest_24 : decode cX3_isRest 24 = .ok (.getfield 21, 3) := by decide +kernel
theorem dX3_isRest_27 : decode cX3_isRest 27 = .ok (.getfield 70, 3) := by decide +kernel
theorem dX3_isRest_30 : decode cX3_isRest 30 = .ok (.if_icmp .ge 26, 3) := by decide +kernel
theorem dX3_isRest_33 : decode cX3_isRest 33 = .ok (.aload_n 0, 1) := by decide +kernel
theorem dX3_isRest_34 : decode cX3_isRest 34 = .ok (.getfield 18, 3) := by decide +kernel
theorem dX3_isRest_37 : decode cX3_isRest 37 = .ok (.aload_n 0, 1) := by decide +kernel
theorem dX3_isRest_38 : decode cX3_isRest 38 = .ok (.iload_n 1, 1) := by decide +kernel
theorem dX3_isRest_39 : decode cX3_isRest 39 = .ok (.iload_n 2, 1) := by decide +kernel
theorem dX3_isRest_40 : decode cX3_isRest 40 = .ok (.invokevirtual 77, 3) := by decide +kernel
theorem dX3_isRest_43 : decode cX3_isRest 43 = .ok (.dup2, 1) := by decide +kernel
theorem dX3_isRest_44 : decode cX3_isRest 44 = .ok (.iaload, 1) := by decide +kernel
theorem dX3_isRest_45 : decode cX3_isRest 45 = .ok (.iconst 1, 1) := by decide +kernel
theorem dX3_isRest_46 : decode cX3_isRest 46 = .ok (.iload_n 2, 1) := by decide +kernel
theorem dX3_isRest_47 : decode cX3_isRest 47 = .ok (.ishl, 1) := by decide +kernel
theorem dX3_isRest_48 : decode cX3_isRest 48 = .ok (.ior, 1) := by decide +kernel
theorem dX3_isRest_49 : decode cX3_isRest 49 = .ok (.iastore, 1) := by decide +kernel
theorem dX3_isRest_50 : decode cX3_isRest 50 = .ok (.iinc 2 1, 3) := by decide +kernel
theorem dX3_isRest_53 : decode cX3_isRest 53 = .ok (.goto (-31), 3) := by decide +kernel
theorem dX3_isRest_56 : decode cX3_isRest 56 = .ok (.iconst 0, 1) := by decide +kernel
theorem dX3_isRest_57 : decode cX3_isRest 57 = .ok (.istore_n 2, 1) := by decide +kernel
theorem dX3_isRest_58 : decode cX3_isRest 58 = .ok (.iload_n 2, 1) := by decide +kernel
theorem dX3_isRest_59 : decode cX3_isRest 59 = .ok (.aload_n 0, 1) := by decide +kernel
theorem dX3_isRest_60 : decode cX3_isRest 60 = .ok (.getfield 21, 3) := by decide +kernel
theorem dX3_isRest_63 : decode cX3_isRest 63 = .ok (.getfield 70, 3) := by decide +kernel
theorem dX3_isRest_66 : decode cX3_isRest 66 = .ok (.if_icmp .ge 49, 3) := by decide +kernel
theorem dX3_isRest_69 : decode cX3_isRest 69 = .ok (.aload_n 0, 1) := by decide +kernel
theorem dX3_isRest_70 : decode cX3_isRest 70 = .ok (.aload_n 0, 1) := by decide +kernel
theorem dX3_isRest_71 : decode cX3_isRest 71 = .ok (.iload_n 1, 1) := by decide +kernel
theorem dX3_isRest_72 : decode cX3_isRest 72 = .ok (.iload_n 2, 1) := by decide +kernel
theorem dX3_isRest_73 : decode cX3_isRest 73 = .ok (.invokevirtual 77, 3) := by decide +kernel
theorem dX3_isRest_76 : decode cX3_isRest 76 = .ok (.iload_n 2, 1) := by decide +kernel
theorem dX3_isRest_77 : decode cX3_isRest 77 = .ok (.invokevirtual 92, 3) := by decide +kernel
theorem dX3_isRest_80 : decode cX3_isRest 80 = .ok (.istore_n 3, 1) := by decide +kernel
theorem dX3_isRest_81 : decode cX3_isRest 81 = .ok (.iconst 0, 1) := by decide +kernel
theorem dX3_isRest_82 : decode cX3_isRest 82 = .ok (.istore 4, 2) := by decide +kernel
theorem dX3_isRest_84 : decode cX3_isRest 84 = .ok (.iload 4, 2) := by decide +kernel
theorem dX3_isRest_86 : decode cX3_isRest 86 = .ok (.iconst 4, 1) := by decide +kernel
theorem dX3_isRest_87 : decode cX3_isRest 87 = .ok (.if_icmp .ge 22, 3) := by decide +kernel
theorem dX3_isRest_90 : decode cX3_isRest 90 = .ok (.aload_n 0, 1) := by decide +kernel
theorem dX3_isRest_91 : decode cX3_isRest 91 = .ok (.iload 4, 2) := by decide +kernel
theorem dX3_isRest_93 : decode cX3_isRest 93 = .ok (.iload_n 2, 1) := by decide +kernel
theorem dX3_isRest_94 : decode cX3_isRest 94 = .ok (.invokevirtual 92, 3) := by decide +kernel
theorem dX3_isRest_97 : decode cX3_isRest 97 = .ok (.iload_n 3, 1) := by decide +kernel
theorem dX3_isRest_98 : decode cX3_isRest 98 = .ok (.if_icmp .le 5, 3) := by decide +kernel
theorem dX3_isRest_101 : decode cX3_isRest 101 = .ok (.iconst 0, 1) := by decide +kernel
theorem dX3_isRest_102 : decode cX3_isRest 102 = .ok (.ireturn, 1) := by decide +kernel
theorem dX3_isRest_103 : decode cX3_isRest 103 = .ok (.iinc 4 1, 3) := by decide +kernel
theorem dX3_isRest_106 : decode cX3_isRest 106 = .ok (.goto (-22), 3) := by decide +kernel
theorem dX3_isRest_109 : decode cX3_isRest 109 = .ok (.iinc 2 1, 3) := by decide +kernel
theorem dX3_isRest_112 : decode cX3_isRest 112 = .ok (.goto (-54), 3) := by decide +kernel
theorem dX3_isRest_115 : decode cX3_isRest 115 = .ok (.iconst 1, 1) := by decide +kernel
theorem dX3_isRest_116 : decode cX3_isRest 116 = .ok (.ireturn, 1) := by decide +kernel
theorem dX3_gainBy_0 : decode cX3_gainBy 0 = .ok (.iload_n 1, 1) := by decide +kernel
theorem dX3_gainBy_1 : decode cX3_gainBy 1 = .ok (.ifCond .ne 7, 3) := by decide +kernel
theorem dX3_gainBy_4 : decode cX3_gainBy 4 = .ok (.iconst 0, 1) := by decide +kernel
theorem dX3_gainBy_5 : decode cX3_gainBy 5 = .ok (.goto 23, 3) := by decide +kernel
theorem dX3_gainBy_8 : decode cX3_gainBy 8 = .ok (.aload_n 0, 1) := by decide +kernel
theorem dX3_gainBy_9 : decode cX3_gainBy 9 = .ok (.getfield 15, 3) := by decide +kernel
theorem dX3_gainBy_12 : decode cX3_gainBy 12 = .ok (.iload_n 2, 1) := by decide +kernel
theorem dX3_gainBy_13 : decode cX3_gainBy 13 = .ok (.bipush 64, 2) := by decide +kernel
theorem dX3_gainBy_15 : decode cX3_gainBy 15 = .ok (.imul, 1) := by decide +kernel
theorem dX3_gainBy_16 : decode cX3_gainBy 16 = .ok (.aload_n 0, 1) := by decide +kernel
theorem dX3_gainBy_17 : decode cX3_gainBy 17 = .ok (.getfield 18, 3) := by decide +kernel
theorem dX3_gainBy_20 : decode cX3_gainBy 20 = .ok (.iload_n 1, 1) := by decide +kernel
theorem dX3_gainBy_21 : decode cX3_gainBy 21 = .ok (.iaload, 1) := by decide +kernel
theorem dX3_gainBy_22 : decode cX3_gainBy 22 = .ok (.iconst 1, 1) := by decide +kernel
theorem dX3_gainBy_23 : decode cX3_gainBy 23 = .ok (.iload_n 2, 1) := by decide +kernel
theorem dX3_gainBy_24 : decode cX3_gainBy 24 = .ok (.ishl, 1) := by decide +kernel
theorem dX3_gainBy_25 : decode cX3_gainBy 25 = .ok (.ior, 1) := by decide +kernel
theorem dX3_gainBy_26 : decode cX3_gainBy 26 = .ok (.iadd, 1) := by decide +kernel
theorem dX3_gainBy_27 : decode cX3_gainBy 27 = .ok (.iaload, 1) := by decide +kernel
theorem dX3_gainBy_28 : decode cX3_gainBy 28 = .ok (.ireturn, 1) := by decide +kernel
theorem dX4_init_0 : decode cX4_init 0 = .ok (.aload_n 0, 1) := by decide +kernel
theorem dX4_init_1 : decode cX4_init 1 = .ok (.invokespecial 3, 3) := by decide +kernel
theorem dX4_init_4 : decode cX4_init 4 = .ok (.aload_n 0, 1) := by decide +kernel
theorem dX4_init_5 : decode cX4_init 5 = .ok (.bipush 6, 2) := by decide +kernel
theorem dX4_init_7 : decode cX4_init 7 = .ok (.newarray .int, 2) := by decide +kernel
theorem dX4_init_9 : decode cX4_init 9 = .ok (.putfield 9, 3) := by decide +kernel
theorem dX4_init_12 : decode cX4_init 12 = .ok (.aload_n 0, 1) := by decide +kernel
theorem dX4_init_13 : decode cX4_init 13 = .ok (.bipush 8, 2) := by decide +kernel
theorem dX4_init_15 : decode cX4_init 15 = .ok (.newarray .int, 2) := by decide +kernel
theorem dX4_init_17 : decode cX4_init 17 = .ok (.putfield 15, 3) := by decide +kernel
theorem dX4_init_20 : decode cX4_init 20 = .ok (.aload_n 0, 1) := by decide +kernel
theorem dX4_init_21 : decode cX4_init 21 = .ok (.bipush 8, 2) := by decide +kernel
theorem dX4_init_23 : decode cX4_init 23 = .ok (.newarray .int, 2) := by decide +kernel
theorem dX4_init_25 : decode cX4_init 25 = .ok (.putfield 18, 3) := by decide +kernel
theorem dX4_init_28 : decode cX4_init 28 = .ok (.aload_n 0, 1) := by decide +kernel
theorem dX4_init_29 : decode cX4_init 29 = .ok (.bipush 8, 2) := by decide +kernel
theorem dX4_init_31 : decode cX4_init 31 = .ok (.newarray .int, 2) := by decide +kernel
theorem dX4_init_33 : decode cX4_init 33 = .ok (.putfield 21, 3) := by decide +kernel
theorem dX4_init_36 : decode cX4_init 36 = .ok (.aload_n 0, 1) := by decide +kernel
theorem dX4_init_37 : decode cX4_init 37 = .ok (.iconst 0, 1) := by decide +kernel
theorem dX4_init_38 : decode cX4_init 38 = .ok (.putfield 24, 3) := by decide +kernel
theorem dX4_init_41 : decode cX4_init 41 = .ok (.aload_n 0, 1) := by decide +kernel
theorem dX4_init_42 : decode cX4_init 42 = .ok (.aload_n 1, 1) := by decide +kernel
theorem dX4_init_43 : decode cX4_init 43 = .ok (.putfield 28, 3) := by decide +kernel
theorem dX4_init_46 : decode cX4_init 46 = .ok (.aload_n 0, 1) := by decide +kernel
theorem dX4_init_47 : decode cX4_init 47 = .ok (.aload_n 2, 1) := by decide +kernel
theorem dX4_init_48 : decode cX4_init 48 = .ok (.putfield 32, 3) := by decide +kernel
theorem dX4_init_51 : decode cX4_init 51 = .ok (.return_, 1) := by decide +kernel
set_option maxRecDepth 20000 in
theorem ggX4_leastPassed_X2_tellHandsAtFirst : GoodIn wsX4_leastPassed wsX2_tellHandsAtFirst := goodIn_r _ [7, 8, 9, 10, 6, 11, 12, 13, 14, 15, 16, 17, 45, 46, 47, 48, 49, 50, 51, 52, 53] (by decide +kernel) (by decide +kernel)
set_option maxRecDepth 20000 in
theorem gX4_leastPassed_X2_tellHandsAtFirst : GoodIn wsX4_leastPassed (wsV RX4 36 RX2 yX2_tellHandsAtFirst wsX2_tellHandsAtFirst) := goodIn_app (goodIn_of _ (by decide +kernel)) ggX4_leastPassed_X2_tellHandsAtFirst
set_option maxRecDepth 20000 in
theorem ggX4_leastPassed_X2_payOf : GoodIn wsX4_leastPassed wsX2_payOf := goodIn_r _ [21, 22, 23, 24, 16, 25, 26, 27, 28, 6, 29, 30, 31, 32, 33, 34, 35, 36, 37, 45, 46, 47, 48, 49, 50, 51, 52, 53] (by decide +kernel) (by decide +kernel)
set_option maxRecDepth 20000 in
theorem gX4_leastPassed_X2_payOf : GoodIn wsX4_leastPassed (wsV RX4 42 RX2 yX2_payOf wsX2_payOf) := goodIn_app (goodIn_of _ (by decide +kernel)) ggX4_leastPassed_X2_payOf
theorem dX4_leastPassed_0 : decode cX4_leastPassed 0 = .ok (.aload_n 0, 1) := by decide +kernel
theorem dX4_leastPassed_1 : decode cX4_leastPassed 1 = .ok (.getfield 28, 3) := by decide +kernel
theorem dX4_leastPassed_4 : decode cX4_leastPassed 4 = .ok (.aload_n 0, 1) := by decide +kernel
theorem dX4_leastPassed_5 : decode cX4_leastPassed 5 = .ok (.getfield 9, 3) := by decide +kernel
theorem dX4_leastPassed_8 : decode cX4_leastPassed 8 = .ok (.invokevirtual 36, 3) := by decide +kernel
theorem dX4_leastPassed_11 : decode cX4_leastPassed 11 = .ok (.aload_n 0, 1) := by decide +kernel
theorem dX4_leastPassed_12 : decode cX4_leastPassed 12 = .ok (.getfield 28, 3) := by decide +kernel
theorem dX4_leastPassed_15 : decode cX4_leastPassed 15 = .ok (.iload_n 2, 1) := by decide +kernel
theorem dX4_leastPassed_16 : decode cX4_leastPassed 16 = .ok (.iload_n 1, 1) := by decide +kernel
theorem dX4_leastPassed_17 : decode cX4_leastPassed 17 = .ok (.aload_n 0, 1) := by decide +kernel
theorem dX4_leastPassed_18 : decode cX4_leastPassed 18 = .ok (.getfield 9, 3) := by decide +kernel
theorem dX4_leastPassed_21 : decode cX4_leastPassed 21 = .ok (.invokevirtual 42, 3) := by decide +kernel
theorem dX4_leastPassed_24 : decode cX4_leastPassed 24 = .ok (.istore 4, 2) := by decide +kernel
theorem dX4_leastPassed_26 : decode cX4_leastPassed 26 = .ok (.aload_n 0, 1) := by decide +kernel
theorem dX4_leastPassed_27 : decode cX4_leastPassed 27 = .ok (.getfield 9, 3) := by decide +kernel
theorem dX4_leastPassed_30 : decode cX4_leastPassed 30 = .ok (.iload_n 2, 1) := by decide +kernel
theorem dX4_leastPassed_31 : decode cX4_leastPassed 31 = .ok (.iaload, 1) := by decide +kernel
theorem dX4_leastPassed_32 : decode cX4_leastPassed 32 = .ok (.istore 5, 2) := by decide +kernel
theorem dX4_leastPassed_34 : decode cX4_leastPassed 34 = .ok (.iconst 1, 1) := by decide +kernel
theorem dX4_leastPassed_35 : decode cX4_leastPassed 35 = .ok (.istore 6, 2) := by decide +kernel
theorem dX4_leastPassed_37 : decode cX4_leastPassed 37 = .ok (.iload 6, 2) := by decide +kernel
theorem dX4_leastPassed_39 : decode cX4_leastPassed 39 = .ok (.iload 5, 2) := by decide +kernel
theorem dX4_leastPassed_41 : decode cX4_leastPassed 41 = .ok (.if_icmp .gt 50, 3) := by decide +kernel
theorem dX4_leastPassed_44 : decode cX4_leastPassed 44 = .ok (.aload_n 0, 1) := by decide +kernel
theorem dX4_leastPassed_45 : decode cX4_leastPassed 45 = .ok (.getfield 9, 3) := by decide +kernel
theorem dX4_leastPassed_48 : decode cX4_leastPassed 48 = .ok (.iload_n 2, 1) := by decide +kernel
theorem dX4_leastPassed_49 : decode cX4_leastPassed 49 = .ok (.dup2, 1) := by decide +kernel
theorem dX4_leastPassed_50 : decode cX4_leastPassed 50 = .ok (.iaload, 1) := by decide +kernel
theorem dX4_leastPassed_51 : decode cX4_leastPassed 51 = .ok (.iconst 1, 1) := by decide +kernel
theorem dX4_leastPassed_52 : decode cX4_leastPassed 52 = .ok (.isub, 1) := by decide +kernel
theorem dX4_leastPassed_53 : decode cX4_leastPassed 53 = .ok (.iastore, 1) := by decide +kernel
theorem dX4_leastPassed_54 : decode cX4_leastPassed 54 = .ok (.aload_n 0, 1) := by decide +kernel
theorem dX4_leastPassed_55 : decode cX4_leastPassed 55 = .ok (.getfield 9, 3) := by decide +kernel
theorem dX4_leastPassed_58 : decode cX4_leastPassed 58 = .ok (.iload_n 3, 1) := by decide +kernel
theorem dX4_leastPassed_59 : decode cX4_leastPassed 59 = .ok (.dup2, 1) := by decide +kernel
theorem dX4_leastPassed_60 : decode cX4_leastPassed 60 = .ok (.iaload, 1) := by decide +kernel
theorem dX4_leastPassed_61 : decode cX4_leastPassed 61 = .ok (.iconst 1, 1) := by decide +kernel
theorem dX4_leastPassed_62 : decode cX4_leastPassed 62 = .ok (.iadd, 1) := by decide +kernel
theorem dX4_leastPassed_63 : decode cX4_leastPassed 63 = .ok (.iastore, 1) := by decide +kernel
theorem dX4_leastPassed_64 : decode cX4_leastPassed 64 = .ok (.aload_n 0, 1) := by decide +kernel
theorem dX4_leastPassed_65 : decode cX4_leastPassed 65 = .ok (.getfield 28, 3) := by decide +kernel
theorem dX4_leastPassed_68 : decode cX4_leastPassed 68 = .ok (.iload_n 2, 1) := by decide +kernel
theorem dX4_leastPassed_69 : decode cX4_leastPassed 69 = .ok (.iload_n 1, 1) := by decide +kernel
theorem dX4_leastPassed_70 : decode cX4_leastPassed 70 = .ok (.aload_n 0, 1) := by decide +kernel
theorem dX4_leastPassed_71 : decode cX4_leastPassed 71 = .ok (.getfield 9, 3) := by decide +kernel
theorem dX4_leastPassed_74 : decode cX4_leastPassed 74 = .ok (.invokevirtual 42, 3) := by decide +kernel
theorem dX4_leastPassed_77 : decode cX4_leastPassed 77 = .ok (.iload 4, 2) := by decide +kernel
theorem dX4_leastPassed_79 : decode cX4_leastPassed 79 = .ok (.if_icmp .ge 6, 3) := by decide +kernel
theorem dX4_leastPassed_82 : decode cX4_leastPassed 82 = .ok (.iload 6, 2) := by decide +kernel
theorem dX4_leastPassed_84 : decode cX4_leastPassed 84 = .ok (.ireturn, 1) := by decide +kernel
theorem dX4_leastPassed_85 : decode cX4_leastPassed 85 = .ok (.iinc 6 1, 3) := by decide +kernel
theorem dX4_leastPassed_88 : decode cX4_leastPassed 88 = .ok (.goto (-51), 3) := by decide +kernel
theorem dX4_leastPassed_91 : decode cX4_leastPassed 91 = .ok (.iconst (-1), 1) := by decide +kernel
theorem dX4_leastPassed_92 : decode cX4_leastPassed 92 = .ok (.ireturn, 1) := by decide +kernel
theorem dX4_remember_0 : decode cX4_remember 0 = .ok (.aload_n 0, 1) := by decide +kernel
theorem dX4_remember_1 : decode cX4_remember 1 = .ok (.getfield 24, 3) := by decide +kernel
theorem dX4_remember_4 : decode cX4_remember 4 = .ok (.bipush 8, 2) := by decide +kernel
theorem dX4_remember_6 : decode cX4_remember 6 = .ok (.if_icmp .ge 43, 3) := by decide +kernel
theorem dX4_remember_9 : decode cX4_remember 9 = .ok (.aload_n 0, 1) := by decide +kernel
theorem dX4_remember_10 : decode cX4_remember 10 = .ok (.getfield 15, 3) := by decide +kernel
theorem dX4_remember_13 : decode cX4_remember 13 = .ok (.aload_n 0, 1) := by decide +kernel
theorem dX4_remember_14 : decode cX4_remember 14 = .ok (.getfield 24, 3) := by decide +kernel
theorem dX4_remember_17 : decode cX4_remember 17 = .ok (.iload_n 1, 1) := by decide +kernel
theorem dX4_remember_18 : decode cX4_remember 18 = .ok (.iastore, 1) := by decide +kernel
theorem dX4_remember_19 : decode cX4_remember 19 = .ok (.aload_n 0, 1) := by decide +kernel
theorem dX4_remember_20 : decode cX4_remember 20 = .ok (.getfield 18, 3) := by decide +kernel
theorem dX4_remember_23 : decode cX4_remember 23 = .ok (.aload_n 0, 1) := by decide +kernel
theorem dX4_remember_24 : decode cX4_remember 24 = .ok (.getfield 24, 3) := by decide +kernel
theorem dX4_remember_27 : decode cX4_remember 27 = .ok (.iload_n 2, 1) := by decide +kernel
theorem dX4_remember_28 : decode cX4_remember 28 = .ok (.iastore, 1) := by decide +kernel
theorem dX4_remember_29 : decode cX4_remember 29 = .ok (.aload_n 0, 1) := by decide +kernel
theorem dX4_remember_30 : decode cX4_remember 30 = .ok (.getfield 21, 3) := by decide +kernel
theorem dX4_remember_33 : decode cX4_remember 33 = .ok (.aload_n 0, 1) := by decide +kernel
theorem dX4_remember_34 : decode cX4_remember 34 = .ok (.getfield 24, 3) := by decide +kernel
theorem dX4_remember_37 : decode cX4_remember 37 = .ok (.iload_n 3, 1) := by decide +kernel
theorem dX4_remember_38 : decode cX4_remember 38 = .ok (.iastore, 1) := by decide +kernel
theorem dX4_remember_39 : decode cX4_remember 39 = .ok (.aload_n 0, 1) := by decide +kernel
theorem dX4_remember_40 : decode cX4_remember 40 = .ok (.dup, 1) := by decide +kernel
theorem dX4_remember_41 : decode cX4_remember 41 = .ok (.getfield 24, 3) := by decide +kernel
theorem dX4_remember_44 : decode cX4_remember 44 = .ok (.iconst 1, 1) := by decide +kernel
theorem dX4_remember_45 : decode cX4_remember 45 = .ok (.iadd, 1) := by decide +kernel
theorem dX4_remember_46 : decode cX4_remember 46 = .ok (.putfield 24, 3) := by decide +kernel
theorem dX4_remember_49 : decode cX4_remember 49 = .ok (.return_, 1) := by decide +kernel
set_option maxRecDepth 20000 in
theorem ggX4_unlikeSeen_X4_paidAsPlayed : GoodIn wsX4_unlikeSeen wsX4_paidAsPlayed := goodIn_r _ [13, 3, 14, 2, 5, 15, 16, 17, 18, 19, 20, 21, 22, 23, 24, 25, 26, 27, 28, 29, 30, 31, 32] (by decide +kernel) (by decide +kernel)
set_option maxRecDepth 20000 in
theorem gX4_unlikeSeen_X4_paidAsPlayed : GoodIn wsX4_unlikeSeen (wsV RX4 54 RX4 yX4_paidAsPlayed wsX4_paidAsPlayed) := goodIn_app (goodIn_of _ (by decide +kernel)) ggX4_unlikeSeen_X4_paidAsPlayed
theorem dX4_unlikeSeen_0 : decode cX4_unlikeSeen 0 = .ok (.iconst 0, 1) := by decide +kernel
theorem dX4_unlikeSeen_1 : decode cX4_unlikeSeen 1 = .ok (.istore_n 1, 1) := by decide +kernel
theorem dX4_unlikeSeen_2 : decode cX4_unlikeSeen 2 = .ok (.iconst 0, 1) := by decide +kernel
theorem dX4_unlikeSeen_3 : decode cX4_unlikeSeen 3 = .ok (.istore_n 2, 1) := by decide +kernel
theorem dX4_unlikeSeen_4 : decode cX4_unlikeSeen 4 = .ok (.iload_n 2, 1) := by decide +kernel
theorem dX4_unlikeSeen_5 : decode cX4_unlikeSeen 5 = .ok (.aload_n 0, 1) := by decide +kernel
theorem dX4_unlikeSeen_6 : decode cX4_unlikeSeen 6 = .ok (.getfield 24, 3) := by decide +kernel
theorem dX4_unlikeSeen_9 : decode cX4_unlikeSeen 9 = .ok (.if_icmp .ge 68, 3) := by decide +kernel
theorem dX4_unlikeSeen_12 : decode cX4_unlikeSeen 12 = .ok (.aload_n 0, 1) := by decide +kernel
theorem dX4_unlikeSeen_13 : decode cX4_unlikeSeen 13 = .ok (.getfield 15, 3) := by decide +kernel
theorem dX4_unlikeSeen_16 : decode cX4_unlikeSeen 16 = .ok (.iload_n 2, 1) := by decide +kernel
theorem dX4_unlikeSeen_17 : decode cX4_unlikeSeen 17 = .ok (.iaload, 1) := by decide +kernel
theorem dX4_unlikeSeen_18 : decode cX4_unlikeSeen 18 = .ok (.aload_n 0, 1) := by decide +kernel
theorem dX4_unlikeSeen_19 : decode cX4_unlikeSeen 19 = .ok (.getfield 32, 3) := by decide +kernel
theorem dX4_unlikeSeen_22 : decode cX4_unlikeSeen 22 = .ok (.getfield 46, 3) := by decide +kernel
theorem dX4_unlikeSeen_25 : decode cX4_unlikeSeen 25 = .ok (.if_icmp .ge 23, 3) := by decide +kernel
theorem dX4_unlikeSeen_28 : decode cX4_unlikeSeen 28 = .ok (.aload_n 0, 1) := by decide +kernel
theorem dX4_unlikeSeen_29 : decode cX4_unlikeSeen 29 = .ok (.getfield 18, 3) := by decide +kernel
theorem dX4_unlikeSeen_32 : decode cX4_unlikeSeen 32 = .ok (.iload_n 2, 1) := by decide +kernel
theorem dX4_unlikeSeen_33 : decode cX4_unlikeSeen 33 = .ok (.iaload, 1) := by decide +kernel
theorem dX4_unlikeSeen_34 : decode cX4_unlikeSeen 34 = .ok (.aload_n 0, 1) := by decide +kernel
theorem dX4_unlikeSeen_35 : decode cX4_unlikeSeen 35 = .ok (.getfield 28, 3) := by decide +kernel
theorem dX4_unlikeSeen_38 : decode cX4_unlikeSeen 38 = .ok (.getfield 51, 3) := by decide +kernel
theorem dX4_unlikeSeen_41 : decode cX4_unlikeSeen 41 = .ok (.if_icmp .ge 7, 3) := by decide +kernel
theorem dX4_unlikeSeen_44 : decode cX4_unlikeSeen 44 = .ok (.iconst 1, 1) := by decide +kernel
theorem dX4_unlikeSeen_45 : decode cX4_unlikeSeen 45 = .ok (.goto 4, 3) := by decide +kernel
theorem dX4_unlikeSeen_48 : decode cX4_unlikeSeen 48 = .ok (.iconst 0, 1) := by decide +kernel
theorem dX4_unlikeSeen_49 : decode cX4_unlikeSeen 49 = .ok (.istore_n 3, 1) := by decide +kernel
theorem dX4_unlikeSeen_50 : decode cX4_unlikeSeen 50 = .ok (.iload_n 3, 1) := by decide +kernel
theorem dX4_unlikeSeen_51 : decode cX4_unlikeSeen 51 = .ok (.ifCond .eq 17, 3) := by decide +kernel
theorem dX4_unlikeSeen_54 : decode cX4_unlikeSeen 54 = .ok (.aload_n 0, 1) := by decide +kernel
theorem dX4_unlikeSeen_55 : decode cX4_unlikeSeen 55 = .ok (.iload_n 2, 1) := by decide +kernel
theorem dX4_unlikeSeen_56 : decode cX4_unlikeSeen 56 = .ok (.invokevirtual 54, 3) := by decide +kernel
theorem dX4_unlikeSeen_59 : decode cX4_unlikeSeen 59 = .ok (.aload_n 0, 1) := by decide +kernel
theorem dX4_unlikeSeen_60 : decode cX4_unlikeSeen 60 = .ok (.getfield 21, 3) := by decide +kernel
theorem dX4_unlikeSeen_63 : decode cX4_unlikeSeen 63 = .ok (.iload_n 2, 1) := by decide +kernel
theorem dX4_unlikeSeen_64 : decode cX4_unlikeSeen 64 = .ok (.iaload, 1) := by decide +kernel
theorem dX4_unlikeSeen_65 : decode cX4_unlikeSeen 65 = .ok (.if_icmp .eq 6, 3) := by decide +kernel
theorem dX4_unlikeSeen_68 : decode cX4_unlikeSeen 68 = .ok (.iinc 1 1, 3) := by decide +kernel
theorem dX4_unlikeSeen_71 : decode cX4_unlikeSeen 71 = .ok (.iinc 2 1, 3) := by decide +kernel
theorem dX4_unlikeSeen_74 : decode cX4_unlikeSeen 74 = .ok (.goto (-70), 3) := by decide +kernel
theorem dX4_unlikeSeen_77 : decode cX4_unlikeSeen 77 = .ok (.iload_n 1, 1) := by decide +kernel
theorem dX4_unlikeSeen_78 : decode cX4_unlikeSeen 78 = .ok (.ireturn, 1) := by decide +kernel
theorem dX4_paidAsPlayed_0 : decode cX4_paidAsPlayed 0 = .ok (.aload_n 0, 1) := by decide +kernel
theorem dX4_paidAsPlayed_1 : decode cX4_paidAsPlayed 1 = .ok (.getfield 32, 3) := by decide +kernel
theorem dX4_paidAsPlayed_4 : decode cX4_paidAsPlayed 4 = .ok (.getfield 58, 3) := by decide +kernel
theorem dX4_paidAsPlayed_7 : decode cX4_paidAsPlayed 7 = .ok (.aload_n 0, 1) := by decide +kernel
theorem dX4_paidAsPlayed_8 : decode cX4_paidAsPlayed 8 = .ok (.getfield 15, 3) := by decide +kernel
theorem dX4_paidAsPlayed_11 : decode cX4_paidAsPlayed 11 = .ok (.iload_n 1, 1) := by decide +kernel
theorem dX4_paidAsPlayed_12 : decode cX4_paidAsPlayed 12 = .ok (.iaload, 1) := by decide +kernel
theorem dX4_paidAsPlayed_13 : decode cX4_paidAsPlayed 13 = .ok (.bipush 6, 2) := by decide +kernel
theorem dX4_paidAsPlayed_15 : decode cX4_paidAsPlayed 15 = .ok (.imul, 1) := by decide +kernel
theorem dX4_paidAsPlayed_16 : decode cX4_paidAsPlayed 16 = .ok (.aload_n 0, 1) := by decide +kernel
theorem dX4_paidAsPlayed_17 : decode cX4_paidAsPlayed 17 = .ok (.getfield 18, 3) := by decide +kernel
theorem dX4_paidAsPlayed_20 : decode cX4_paidAsPlayed 20 = .ok (.iload_n 1, 1) := by decide +kernel
theorem dX4_paidAsPlayed_21 : decode cX4_paidAsPlayed 21 = .ok (.iaload, 1) := by decide +kernel
theorem dX4_paidAsPlayed_22 : decode cX4_paidAsPlayed 22 = .ok (.iadd, 1) := by decide +kernel
theorem dX4_paidAsPlayed_23 : decode cX4_paidAsPlayed 23 = .ok (.iaload, 1) := by decide +kernel
theorem dX4_paidAsPlayed_24 : decode cX4_paidAsPlayed 24 = .ok (.ireturn, 1) := by decide +kernel
set_option maxRecDepth 20000 in
theorem ggX4_leastHidden_X2_tellHandsAtFirst : GoodIn wsX4_leastHidden wsX2_tellHandsAtFirst := goodIn_r _ [10, 11, 12, 13, 9, 14, 15, 16, 17, 18, 19, 20, 88, 89, 90, 91, 92, 93, 94, 95, 96] (by decide +kernel) (by decide +kernel)
set_option maxRecDepth 20000 in
theorem gX4_leastHidden_X2_tellHandsAtFirst : GoodIn wsX4_leastHidden (wsV RX4 36 RX2 yX2_tellHandsAtFirst wsX2_tellHandsAtFirst) := goodIn_app (goodIn_of _ (by decide +kernel)) ggX4_leastHidden_X2_tellHandsAtFirst
set_option maxRecDepth 20000 in
theorem ggX4_leastHidden_X0_playFromHands : GoodIn wsX4_leastHidden wsX0_playFromHands := goodIn_r _ [25, 26, 27, 28, 29, 30, 31, 24, 32, 33, 34, 35, 36, 37, 38, 19, 39, 40, 41, 42, 43, 44, 45, 46, 47, 48, 49, 50, 9, 51, 52, 53, 54, 55, 56, 57, 58, 59, 60, 61, 62, 63, 64, 65, 97, 98, 99, 100, 101, 102, 103, 104, 105, 106, 107, 88, 89, 90, 91, 92, 93, 94, 95, 96] (by decide +kernel) (by decide +kernel)
set_option maxRecDepth 20000 in
theorem gX4_leastHidden_X0_playFromHands : GoodIn wsX4_leastHidden (wsV RX4 67 RX0 yX0_playFromHands wsX0_playFromHands) := goodIn_app (goodIn_of _ (by decide +kernel)) ggX4_leastHidden_X0_playFromHands
set_option maxRecDepth 20000 in
theorem ggX4_leastHidden_X4_unlikeSeen : GoodIn wsX4_leastHidden wsX4_unlikeSeen := goodIn_r _ [70, 71, 72, 3, 5, 73, 1, 74, 75, 76, 77, 78, 69, 79, 80, 81, 82, 83, 84, 85, 86, 87, 97, 98, 99, 100, 101, 102, 103, 104, 105, 106, 107, 88, 89, 90, 91, 92, 93, 94, 95, 96] (by decide +kernel) (by decide +kernel)
set_option maxRecDepth 20000 in
theorem gX4_leastHidden_X4_unlikeSeen : GoodIn wsX4_leastHidden (wsV RX4 71 RX4 yX4_unlikeSeen wsX4_unlikeSeen) := goodIn_app (goodIn_of _ (by decide +kernel)) ggX4_leastHidden_X4_unlikeSeen
theorem dX4_leastHidden_0 : decode cX4_leastHidden 0 = .ok (.iconst 0, 1) := by decide +kernel
theorem dX4_leastHidden_1 : decode cX4_leastHidden 1 = .ok (.istore_n 2, 1) := by decide +kernel
theorem dX4_leastHidden_2 : decode cX4_leastHidden 2 = .ok (.iload_n 2, 1) := by decide +kernel
theorem dX4_leastHidden_3 : decode cX4_leastHidden 3 = .ok (.aload_n 0, 1) := by decide +kernel
theorem dX4_leastHidden_4 : decode cX4_leastHidden 4 = .ok (.getfield 28, 3) := by decide +kernel
theorem dX4_leastHidden_7 : decode cX4_leastHidden 7 = .ok (.getfield 61, 3) := by decide +kernel
theorem dX4_leastHidden_10 : decode cX4_leastHidden 10 = .ok (.iload_n 1, 1) := by decide +kernel
theorem dX4_leastHidden_11 : decode cX4_leastHidden 11 = .ok (.iaload, 1) := by decide +kernel
theorem dX4_leastHidden_12 : decode cX4_leastHidden 12 = .ok (.if_icmp .gt 66, 3) := by decide +kernel
theorem dX4_leastHidden_15 : decode cX4_leastHidden 15 = .ok (.aload_n 0, 1) := by decide +kernel
theorem dX4_leastHidden_16 : decode cX4_leastHidden 16 = .ok (.getfield 28, 3) := by decide +kernel
theorem dX4_leastHidden_19 : decode cX4_leastHidden 19 = .ok (.aload_n 0, 1) := by decide +kernel
theorem dX4_leastHidden_20 : decode cX4_leastHidden 20 = .ok (.getfield 32, 3) := by decide +kernel
theorem dX4_leastHidden_23 : decode cX4_leastHidden 23 = .ok (.getfield 64, 3) := by decide +kernel
theorem dX4_leastHidden_26 : decode cX4_leastHidden 26 = .ok (.invokevirtual 36, 3) := by decide +kernel
theorem dX4_leastHidden_29 : decode cX4_leastHidden 29 = .ok (.aload_n 0, 1) := by decide +kernel
theorem dX4_leastHidden_30 : decode cX4_leastHidden 30 = .ok (.getfield 32, 3) := by decide +kernel
theorem dX4_leastHidden_33 : decode cX4_leastHidden 33 = .ok (.getfield 64, 3) := by decide +kernel
theorem dX4_leastHidden_36 : decode cX4_leastHidden 36 = .ok (.iload_n 1, 1) := by decide +kernel
theorem dX4_leastHidden_37 : decode cX4_leastHidden 37 = .ok (.aload_n 0, 1) := by decide +kernel
theorem dX4_leastHidden_38 : decode cX4_leastHidden 38 = .ok (.getfield 28, 3) := by decide +kernel
theorem dX4_leastHidden_41 : decode cX4_leastHidden 41 = .ok (.getfield 61, 3) := by decide +kernel
theorem dX4_leastHidden_44 : decode cX4_leastHidden 44 = .ok (.iload_n 1, 1) := by decide +kernel
theorem dX4_leastHidden_45 : decode cX4_leastHidden 45 = .ok (.iaload, 1) := by decide +kernel
theorem dX4_leastHidden_46 : decode cX4_leastHidden 46 = .ok (.iload_n 2, 1) := by decide +kernel
theorem dX4_leastHidden_47 : decode cX4_leastHidden 47 = .ok (.isub, 1) := by decide +kernel
theorem dX4_leastHidden_48 : decode cX4_leastHidden 48 = .ok (.iastore, 1) := by decide +kernel
theorem dX4_leastHidden_49 : decode cX4_leastHidden 49 = .ok (.aload_n 0, 1) := by decide +kernel
theorem dX4_leastHidden_50 : decode cX4_leastHidden 50 = .ok (.getfield 32, 3) := by decide +kernel
theorem dX4_leastHidden_53 : decode cX4_leastHidden 53 = .ok (.aload_n 0, 1) := by decide +kernel
theorem dX4_leastHidden_54 : decode cX4_leastHidden 54 = .ok (.getfield 32, 3) := by decide +kernel
theorem dX4_leastHidden_57 : decode cX4_leastHidden 57 = .ok (.getfield 46, 3) := by decide +kernel
theorem dX4_leastHidden_60 : decode cX4_leastHidden 60 = .ok (.invokevirtual 67, 3) := by decide +kernel
theorem dX4_leastHidden_63 : decode cX4_leastHidden 63 = .ok (.aload_n 0, 1) := by decide +kernel
theorem dX4_leastHidden_64 : decode cX4_leastHidden 64 = .ok (.invokevirtual 71, 3) := by decide +kernel
theorem dX4_leastHidden_67 : decode cX4_leastHidden 67 = .ok (.ifCond .ne 5, 3) := by decide +kernel
theorem dX4_leastHidden_70 : decode cX4_leastHidden 70 = .ok (.iload_n 2, 1) := by decide +kernel
theorem dX4_leastHidden_71 : decode cX4_leastHidden 71 = .ok (.ireturn, 1) := by decide +kernel
theorem dX4_leastHidden_72 : decode cX4_leastHidden 72 = .ok (.iinc 2 1, 3) := by decide +kernel
theorem dX4_leastHidden_75 : decode cX4_leastHidden 75 = .ok (.goto (-73), 3) := by decide +kernel
theorem dX4_leastHidden_78 : decode cX4_leastHidden 78 = .ok (.iconst (-1), 1) := by decide +kernel
theorem dX4_leastHidden_79 : decode cX4_leastHidden 79 = .ok (.ireturn, 1) := by decide +kernel
theorem dX5_init_0 : decode cX5_init 0 = .ok (.aload_n 0, 1) := by decide +kernel
theorem dX5_init_1 : decode cX5_init 1 = .ok (.invokespecial 3, 3) := by decide +kernel
theorem dX5_init_4 : decode cX5_init 4 = .ok (.aload_n 0, 1) := by decide +kernel
theorem dX5_init_5 : decode cX5_init 5 = .ok (.bipush 48, 2) := by decide +kernel
theorem dX5_init_7 : decode cX5_init 7 = .ok (.newarray .int, 2) := by decide +kernel
theorem dX5_init_9 : decode cX5_init 9 = .ok (.putfield 9, 3) := by decide +kernel
theorem dX5_init_12 : decode cX5_init 12 = .ok (.aload_n 0, 1) := by decide +kernel
theorem dX5_init_13 : decode cX5_init 13 = .ok (.iconst 0, 1) := by decide +kernel
