theorem dX5_init_14 : decode cX5_init 14 = .ok (.putfield 15, 3) := by decide +kernel
theorem dX5_init_17 : decode cX5_init 17 = .ok (.aload_n 0, 1) := by decide +kernel
theorem dX5_init_18 : decode cX5_init 18 = .ok (.iconst 0, 1) := by decide +kernel
theorem dX5_init_19 : decode cX5_init 19 = .ok (.putfield 19, 3) := by decide +kernel
theorem dX5_init_22 : decode cX5_init 22 = .ok (.aload_n 0, 1) := by decide +kernel
theorem dX5_init_23 : decode cX5_init 23 = .ok (.iconst 1, 1) := by decide +kernel
theorem dX5_init_24 : decode cX5_init 24 = .ok (.putfield 22, 3) := by decide +kernel
theorem dX5_init_27 : decode cX5_init 27 = .ok (.return_, 1) := by decide +kernel
theorem dX5_renew_0 : decode cX5_renew 0 = .ok (.aload_n 0, 1) := by decide +kernel
theorem dX5_renew_1 : decode cX5_renew 1 = .ok (.iconst 0, 1) := by decide +kernel
theorem dX5_renew_2 : decode cX5_renew 2 = .ok (.putfield 22, 3) := by decide +kernel
theorem dX5_renew_5 : decode cX5_renew 5 = .ok (.aload_n 0, 1) := by decide +kernel
theorem dX5_renew_6 : decode cX5_renew 6 = .ok (.iload_n 1, 1) := by decide +kernel
theorem dX5_renew_7 : decode cX5_renew 7 = .ok (.putfield 15, 3) := by decide +kernel
theorem dX5_renew_10 : decode cX5_renew 10 = .ok (.aload_n 0, 1) := by decide +kernel
theorem dX5_renew_11 : decode cX5_renew 11 = .ok (.iload_n 2, 1) := by decide +kernel
theorem dX5_renew_12 : decode cX5_renew 12 = .ok (.putfield 19, 3) := by decide +kernel
theorem dX5_renew_15 : decode cX5_renew 15 = .ok (.iconst 0, 1) := by decide +kernel
theorem dX5_renew_16 : decode cX5_renew 16 = .ok (.istore_n 3, 1) := by decide +kernel
theorem dX5_renew_17 : decode cX5_renew 17 = .ok (.iload_n 3, 1) := by decide +kernel
theorem dX5_renew_18 : decode cX5_renew 18 = .ok (.bipush 48, 2) := by decide +kernel
theorem dX5_renew_20 : decode cX5_renew 20 = .ok (.if_icmp .ge 16, 3) := by decide +kernel
theorem dX5_renew_23 : decode cX5_renew 23 = .ok (.aload_n 0, 1) := by decide +kernel
theorem dX5_renew_24 : decode cX5_renew 24 = .ok (.getfield 9, 3) := by decide +kernel
theorem dX5_renew_27 : decode cX5_renew 27 = .ok (.iload_n 3, 1) := by decide +kernel
theorem dX5_renew_28 : decode cX5_renew 28 = .ok (.iconst 0, 1) := by decide +kernel
theorem dX5_renew_29 : decode cX5_renew 29 = .ok (.iastore, 1) := by decide +kernel
theorem dX5_renew_30 : decode cX5_renew 30 = .ok (.iinc 3 1, 3) := by decide +kernel
theorem dX5_renew_33 : decode cX5_renew 33 = .ok (.goto (-16), 3) := by decide +kernel
theorem dX5_renew_36 : decode cX5_renew 36 = .ok (.return_, 1) := by decide +kernel
theorem dX5_findingAt_0 : decode cX5_findingAt 0 = .ok (.aload_n 0, 1) := by decide +kernel
theorem dX5_findingAt_1 : decode cX5_findingAt 1 = .ok (.getfield 22, 3) := by decide +kernel
theorem dX5_findingAt_4 : decode cX5_findingAt 4 = .ok (.ifCond .eq 5, 3) := by decide +kernel
theorem dX5_findingAt_7 : decode cX5_findingAt 7 = .ok (.iconst 1, 1) := by decide +kernel
theorem dX5_findingAt_8 : decode cX5_findingAt 8 = .ok (.ireturn, 1) := by decide +kernel
theorem dX5_findingAt_9 : decode cX5_findingAt 9 = .ok (.aload_n 0, 1) := by decide +kernel
theorem dX5_findingAt_10 : decode cX5_findingAt 10 = .ok (.getfield 15, 3) := by decide +kernel
theorem dX5_findingAt_13 : decode cX5_findingAt 13 = .ok (.iload_n 1, 1) := by decide +kernel
theorem dX5_findingAt_14 : decode cX5_findingAt 14 = .ok (.if_icmp .eq 5, 3) := by decide +kernel
theorem dX5_findingAt_17 : decode cX5_findingAt 17 = .ok (.iconst 3, 1) := by decide +kernel
theorem dX5_findingAt_18 : decode cX5_findingAt 18 = .ok (.ireturn, 1) := by decide +kernel
theorem dX5_findingAt_19 : decode cX5_findingAt 19 = .ok (.iload_n 2, 1) := by decide +kernel
theorem dX5_findingAt_20 : decode cX5_findingAt 20 = .ok (.ifCond .lt 11, 3) := by decide +kernel
theorem dX5_findingAt_23 : decode cX5_findingAt 23 = .ok (.iload_n 2, 1) := by decide +kernel
theorem dX5_findingAt_24 : decode cX5_findingAt 24 = .ok (.aload_n 0, 1) := by decide +kernel
theorem dX5_findingAt_25 : decode cX5_findingAt 25 = .ok (.getfield 19, 3) := by decide +kernel
theorem dX5_findingAt_28 : decode cX5_findingAt 28 = .ok (.if_icmp .lt 7, 3) := by decide +kernel
theorem dX5_findingAt_31 : decode cX5_findingAt 31 = .ok (.iconst 2, 1) := by decide +kernel
theorem dX5_findingAt_32 : decode cX5_findingAt 32 = .ok (.goto 4, 3) := by decide +kernel
theorem dX5_findingAt_35 : decode cX5_findingAt 35 = .ok (.iconst 0, 1) := by decide +kernel
theorem dX5_findingAt_36 : decode cX5_findingAt 36 = .ok (.ireturn, 1) := by decide +kernel
theorem dX5_hasItems_0 : decode cX5_hasItems 0 = .ok (.iload_n 1, 1) := by decide +kernel
theorem dX5_hasItems_1 : decode cX5_hasItems 1 = .ok (.ifCond .lt 29, 3) := by decide +kernel
theorem dX5_hasItems_4 : decode cX5_hasItems 4 = .ok (.iload_n 2, 1) := by decide +kernel
theorem dX5_hasItems_5 : decode cX5_hasItems 5 = .ok (.ifCond .lt 25, 3) := by decide +kernel
theorem dX5_hasItems_8 : decode cX5_hasItems 8 = .ok (.iload_n 1, 1) := by decide +kernel
theorem dX5_hasItems_9 : decode cX5_hasItems 9 = .ok (.aload_n 0, 1) := by decide +kernel
theorem dX5_hasItems_10 : decode cX5_hasItems 10 = .ok (.getfield 19, 3) := by decide +kernel
theorem dX5_hasItems_13 : decode cX5_hasItems 13 = .ok (.if_icmp .gt 17, 3) := by decide +kernel
theorem dX5_hasItems_16 : decode cX5_hasItems 16 = .ok (.iload_n 2, 1) := by decide +kernel
theorem dX5_hasItems_17 : decode cX5_hasItems 17 = .ok (.aload_n 0, 1) := by decide +kernel
theorem dX5_hasItems_18 : decode cX5_hasItems 18 = .ok (.getfield 19, 3) := by decide +kernel
theorem dX5_hasItems_21 : decode cX5_hasItems 21 = .ok (.iload_n 1, 1) := by decide +kernel
theorem dX5_hasItems_22 : decode cX5_hasItems 22 = .ok (.isub, 1) := by decide +kernel
theorem dX5_hasItems_23 : decode cX5_hasItems 23 = .ok (.if_icmp .gt 7, 3) := by decide +kernel
theorem dX5_hasItems_26 : decode cX5_hasItems 26 = .ok (.iconst 1, 1) := by decide +kernel
theorem dX5_hasItems_27 : decode cX5_hasItems 27 = .ok (.goto 4, 3) := by decide +kernel
theorem dX5_hasItems_30 : decode cX5_hasItems 30 = .ok (.iconst 0, 1) := by decide +kernel
theorem dX5_hasItems_31 : decode cX5_hasItems 31 = .ok (.ireturn, 1) := by decide +kernel
theorem dX5_store_0 : decode cX5_store 0 = .ok (.aload_n 0, 1) := by decide +kernel
theorem dX5_store_1 : decode cX5_store 1 = .ok (.getfield 9, 3) := by decide +kernel
theorem dX5_store_4 : decode cX5_store 4 = .ok (.iload_n 1, 1) := by decide +kernel
theorem dX5_store_5 : decode cX5_store 5 = .ok (.aload_n 0, 1) := by decide +kernel
theorem dX5_store_6 : decode cX5_store 6 = .ok (.getfield 15, 3) := by decide +kernel
theorem dX5_store_9 : decode cX5_store 9 = .ok (.ifCond .ne 8, 3) := by decide +kernel
theorem dX5_store_12 : decode cX5_store 12 = .ok (.iload_n 2, 1) := by decide +kernel
theorem dX5_store_13 : decode cX5_store 13 = .ok (.i2b, 1) := by decide +kernel
theorem dX5_store_14 : decode cX5_store 14 = .ok (.goto 17, 3) := by decide +kernel
theorem dX5_store_17 : decode cX5_store 17 = .ok (.aload_n 0, 1) := by decide +kernel
theorem dX5_store_18 : decode cX5_store 18 = .ok (.getfield 15, 3) := by decide +kernel
theorem dX5_store_21 : decode cX5_store 21 = .ok (.iconst 1, 1) := by decide +kernel
theorem dX5_store_22 : decode cX5_store 22 = .ok (.if_icmp .ne 8, 3) := by decide +kernel
theorem dX5_store_25 : decode cX5_store 25 = .ok (.iload_n 2, 1) := by decide +kernel
theorem dX5_store_26 : decode cX5_store 26 = .ok (.i2s, 1) := by decide +kernel
theorem dX5_store_27 : decode cX5_store 27 = .ok (.goto 4, 3) := by decide +kernel
theorem dX5_store_30 : decode cX5_store 30 = .ok (.iload_n 2, 1) := by decide +kernel
theorem dX5_store_31 : decode cX5_store 31 = .ok (.iastore, 1) := by decide +kernel
theorem dX5_store_32 : decode cX5_store 32 = .ok (.return_, 1) := by decide +kernel
theorem dX6_init_0 : decode cX6_init 0 = .ok (.aload_n 0, 1) := by decide +kernel
theorem dX6_init_1 : decode cX6_init 1 = .ok (.invokespecial 3, 3) := by decide +kernel
theorem dX6_init_4 : decode cX6_init 4 = .ok (.aload_n 0, 1) := by decide +kernel
theorem dX6_init_5 : decode cX6_init 5 = .ok (.iload_n 1, 1) := by decide +kernel
theorem dX6_init_6 : decode cX6_init 6 = .ok (.newarray .int, 2) := by decide +kernel
theorem dX6_init_8 : decode cX6_init 8 = .ok (.putfield 9, 3) := by decide +kernel
theorem dX6_init_11 : decode cX6_init 11 = .ok (.aload_n 0, 1) := by decide +kernel
theorem dX6_init_12 : decode cX6_init 12 = .ok (.iconst 0, 1) := by decide +kernel
theorem dX6_init_13 : decode cX6_init 13 = .ok (.putfield 15, 3) := by decide +kernel
theorem dX6_init_16 : decode cX6_init 16 = .ok (.return_, 1) := by decide +kernel
theorem dX6_isFull_0 : decode cX6_isFull 0 = .ok (.aload_n 0, 1) := by decide +kernel
theorem dX6_isFull_1 : decode cX6_isFull 1 = .ok (.getfield 15, 3) := by decide +kernel
theorem dX6_isFull_4 : decode cX6_isFull 4 = .ok (.aload_n 0, 1) := by decide +kernel
theorem dX6_isFull_5 : decode cX6_isFull 5 = .ok (.getfield 9, 3) := by decide +kernel
theorem dX6_isFull_8 : decode cX6_isFull 8 = .ok (.arraylength, 1) := by decide +kernel
theorem dX6_isFull_9 : decode cX6_isFull 9 = .ok (.if_icmp .lt 7, 3) := by decide +kernel
theorem dX6_isFull_12 : decode cX6_isFull 12 = .ok (.iconst 1, 1) := by decide +kernel
theorem dX6_isFull_13 : decode cX6_isFull 13 = .ok (.goto 4, 3) := by decide +kernel
theorem dX6_isFull_16 : decode cX6_isFull 16 = .ok (.iconst 0, 1) := by decide +kernel
theorem dX6_isFull_17 : decode cX6_isFull 17 = .ok (.ireturn, 1) := by decide +kernel
set_option maxRecDepth 20000 in
theorem ggX6_append_X6_isFull : GoodIn wsX6_append wsX6_isFull := goodIn_r _ [7, 2, 1, 8, 9] (by decide +kernel) (by decide +kernel)
set_option maxRecDepth 20000 in
theorem gX6_append_X6_isFull : GoodIn wsX6_append (wsV RX6 19 RX6 yX6_isFull wsX6_isFull) := goodIn_app (goodIn_of _ (by decide +kernel)) ggX6_append_X6_isFull
theorem dX6_append_0 : decode cX6_append 0 = .ok (.aload_n 0, 1) := by decide +kernel
theorem dX6_append_1 : decode cX6_append 1 = .ok (.invokevirtual 19, 3) := by decide +kernel
theorem dX6_append_4 : decode cX6_append 4 = .ok (.ifCond .ne 23, 3) := by decide +kernel
theorem dX6_append_7 : decode cX6_append 7 = .ok (.aload_n 0, 1) := by decide +kernel
theorem dX6_append_8 : decode cX6_append 8 = .ok (.getfield 9, 3) := by decide +kernel
theorem dX6_append_11 : decode cX6_append 11 = .ok (.aload_n 0, 1) := by decide +kernel
theorem dX6_append_12 : decode cX6_append 12 = .ok (.getfield 15, 3) := by decide +kernel
theorem dX6_append_15 : decode cX6_append 15 = .ok (.iload_n 1, 1) := by decide +kernel
theorem dX6_append_16 : decode cX6_append 16 = .ok (.iastore, 1) := by decide +kernel
theorem dX6_append_17 : decode cX6_append 17 = .ok (.aload_n 0, 1) := by decide +kernel
theorem dX6_append_18 : decode cX6_append 18 = .ok (.dup, 1) := by decide +kernel
theorem dX6_append_19 : decode cX6_append 19 = .ok (.getfield 15, 3) := by decide +kernel
theorem dX6_append_22 : decode cX6_append 22 = .ok (.iconst 1, 1) := by decide +kernel
theorem dX6_append_23 : decode cX6_append 23 = .ok (.iadd, 1) := by decide +kernel
theorem dX6_append_24 : decode cX6_append 24 = .ok (.putfield 15, 3) := by decide +kernel
theorem dX6_append_27 : decode cX6_append 27 = .ok (.return_, 1) := by decide +kernel
set_option maxRecDepth 20000 in
theorem ggX6_faultInRows_X6_isSign : GoodIn wsX6_faultInRows wsX6_isSign := goodIn_r _ [6, 7, 8, 9] (by decide +kernel) (by decide +kernel)
set_option maxRecDepth 20000 in
theorem gX6_faultInRows_X6_isSign : GoodIn wsX6_faultInRows (va_wsS RX6 23 yX6_isSign wsX6_isSign) := goodIn_app (goodIn_of _ (by decide +kernel)) ggX6_faultInRows_X6_isSign
theorem dX6_faultInRows_0 : decode cX6_faultInRows 0 = .ok (.aload_n 0, 1) := by decide +kernel
theorem dX6_faultInRows_1 : decode cX6_faultInRows 1 = .ok (.getfield 15, 3) := by decide +kernel
theorem dX6_faultInRows_4 : decode cX6_faultInRows 4 = .ok (.ifCond .ne 5, 3) := by decide +kernel
theorem dX6_faultInRows_7 : decode cX6_faultInRows 7 = .ok (.iconst (-1), 1) := by decide +kernel
theorem dX6_faultInRows_8 : decode cX6_faultInRows 8 = .ok (.ireturn, 1) := by decide +kernel
theorem dX6_faultInRows_9 : decode cX6_faultInRows 9 = .ok (.iload_n 1, 1) := by decide +kernel
theorem dX6_faultInRows_10 : decode cX6_faultInRows 10 = .ok (.ifCond .gt 5, 3) := by decide +kernel
theorem dX6_faultInRows_13 : decode cX6_faultInRows 13 = .ok (.iconst 0, 1) := by decide +kernel
theorem dX6_faultInRows_14 : decode cX6_faultInRows 14 = .ok (.ireturn, 1) := by decide +kernel
theorem dX6_faultInRows_15 : decode cX6_faultInRows 15 = .ok (.iconst 0, 1) := by decide +kernel
theorem dX6_faultInRows_16 : decode cX6_faultInRows 16 = .ok (.istore 4, 2) := by decide +kernel
theorem dX6_faultInRows_18 : decode cX6_faultInRows 18 = .ok (.iload 4, 2) := by decide +kernel
theorem dX6_faultInRows_20 : decode cX6_faultInRows 20 = .ok (.aload_n 0, 1) := by decide +kernel
theorem dX6_faultInRows_21 : decode cX6_faultInRows 21 = .ok (.getfield 15, 3) := by decide +kernel
theorem dX6_faultInRows_24 : decode cX6_faultInRows 24 = .ok (.if_icmp .ge 74, 3) := by decide +kernel
theorem dX6_faultInRows_27 : decode cX6_faultInRows 27 = .ok (.iload 4, 2) := by decide +kernel
theorem dX6_faultInRows_29 : decode cX6_faultInRows 29 = .ok (.iload_n 1, 1) := by decide +kernel
theorem dX6_faultInRows_30 : decode cX6_faultInRows 30 = .ok (.iconst 1, 1) := by decide +kernel
theorem dX6_faultInRows_31 : decode cX6_faultInRows 31 = .ok (.iadd, 1) := by decide +kernel
theorem dX6_faultInRows_32 : decode cX6_faultInRows 32 = .ok (.irem, 1) := by decide +kernel
theorem dX6_faultInRows_33 : decode cX6_faultInRows 33 = .ok (.istore 5, 2) := by decide +kernel
theorem dX6_faultInRows_35 : decode cX6_faultInRows 35 = .ok (.iload 5, 2) := by decide +kernel
theorem dX6_faultInRows_37 : decode cX6_faultInRows 37 = .ok (.iload_n 1, 1) := by decide +kernel
theorem dX6_faultInRows_38 : decode cX6_faultInRows 38 = .ok (.if_icmp .ne 23, 3) := by decide +kernel
theorem dX6_faultInRows_41 : decode cX6_faultInRows 41 = .ok (.aload_n 0, 1) := by decide +kernel
theorem dX6_faultInRows_42 : decode cX6_faultInRows 42 = .ok (.getfield 9, 3) := by decide +kernel
theorem dX6_faultInRows_45 : decode cX6_faultInRows 45 = .ok (.iload 4, 2) := by decide +kernel
theorem dX6_faultInRows_47 : decode cX6_faultInRows 47 = .ok (.iaload, 1) := by decide +kernel
theorem dX6_faultInRows_48 : decode cX6_faultInRows 48 = .ok (.bipush 59, 2) := by decide +kernel
theorem dX6_faultInRows_50 : decode cX6_faultInRows 50 = .ok (.if_icmp .ne 7, 3) := by decide +kernel
theorem dX6_faultInRows_53 : decode cX6_faultInRows 53 = .ok (.iconst 1, 1) := by decide +kernel
theorem dX6_faultInRows_54 : decode cX6_faultInRows 54 = .ok (.goto 18, 3) := by decide +kernel
theorem dX6_faultInRows_57 : decode cX6_faultInRows 57 = .ok (.iconst 0, 1) := by decide +kernel
theorem dX6_faultInRows_58 : decode cX6_faultInRows 58 = .ok (.goto 14, 3) := by decide +kernel
theorem dX6_faultInRows_61 : decode cX6_faultInRows 61 = .ok (.aload_n 0, 1) := by decide +kernel
theorem dX6_faultInRows_62 : decode cX6_faultInRows 62 = .ok (.getfield 9, 3) := by decide +kernel
theorem dX6_faultInRows_65 : decode cX6_faultInRows 65 = .ok (.iload 4, 2) := by decide +kernel
theorem dX6_faultInRows_67 : decode cX6_faultInRows 67 = .ok (.iaload, 1) := by decide +kernel
theorem dX6_faultInRows_68 : decode cX6_faultInRows 68 = .ok (.iload_n 3, 1) := by decide +kernel
theorem dX6_faultInRows_69 : decode cX6_faultInRows 69 = .ok (.invokestatic 23, 3) := by decide +kernel
theorem dX6_faultInRows_72 : decode cX6_faultInRows 72 = .ok (.istore 6, 2) := by decide +kernel
theorem dX6_faultInRows_74 : decode cX6_faultInRows 74 = .ok (.iload 6, 2) := by decide +kernel
theorem dX6_faultInRows_76 : decode cX6_faultInRows 76 = .ok (.ifCond .eq 13, 3) := by decide +kernel
theorem dX6_faultInRows_79 : decode cX6_faultInRows 79 = .ok (.iload 4, 2) := by decide +kernel
theorem dX6_faultInRows_81 : decode cX6_faultInRows 81 = .ok (.iload_n 1, 1) := by decide +kernel
theorem dX6_faultInRows_82 : decode cX6_faultInRows 82 = .ok (.iconst 1, 1) := by decide +kernel
theorem dX6_faultInRows_83 : decode cX6_faultInRows 83 = .ok (.iadd, 1) := by decide +kernel
theorem dX6_faultInRows_84 : decode cX6_faultInRows 84 = .ok (.idiv, 1) := by decide +kernel
theorem dX6_faultInRows_85 : decode cX6_faultInRows 85 = .ok (.iload_n 2, 1) := by decide +kernel
theorem dX6_faultInRows_86 : decode cX6_faultInRows 86 = .ok (.if_icmp .lt 6, 3) := by decide +kernel
theorem dX6_faultInRows_89 : decode cX6_faultInRows 89 = .ok (.iload 4, 2) := by decide +kernel
theorem dX6_faultInRows_91 : decode cX6_faultInRows 91 = .ok (.ireturn, 1) := by decide +kernel
theorem dX6_faultInRows_92 : decode cX6_faultInRows 92 = .ok (.iinc 4 1, 3) := by decide +kernel
theorem dX6_faultInRows_95 : decode cX6_faultInRows 95 = .ok (.goto (-77), 3) := by decide +kernel
theorem dX6_faultInRows_98 : decode cX6_faultInRows 98 = .ok (.aload_n 0, 1) := by decide +kernel
theorem dX6_faultInRows_99 : decode cX6_faultInRows 99 = .ok (.getfield 15, 3) := by decide +kernel
theorem dX6_faultInRows_102 : decode cX6_faultInRows 102 = .ok (.iload_n 1, 1) := by decide +kernel
theorem dX6_faultInRows_103 : decode cX6_faultInRows 103 = .ok (.iconst 1, 1) := by decide +kernel
theorem dX6_faultInRows_104 : decode cX6_faultInRows 104 = .ok (.iadd, 1) := by decide +kernel
theorem dX6_faultInRows_105 : decode cX6_faultInRows 105 = .ok (.irem, 1) := by decide +kernel
theorem dX6_faultInRows_106 : decode cX6_faultInRows 106 = .ok (.iload_n 1, 1) := by decide +kernel
theorem dX6_faultInRows_107 : decode cX6_faultInRows 107 = .ok (.if_icmp .ne 7, 3) := by decide +kernel
theorem dX6_faultInRows_110 : decode cX6_faultInRows 110 = .ok (.iconst (-1), 1) := by decide +kernel
theorem dX6_faultInRows_111 : decode cX6_faultInRows 111 = .ok (.goto 7, 3) := by decide +kernel
theorem dX6_faultInRows_114 : decode cX6_faultInRows 114 = .ok (.aload_n 0, 1) := by decide +kernel
theorem dX6_faultInRows_115 : decode cX6_faultInRows 115 = .ok (.getfield 15, 3) := by decide +kernel
theorem dX6_faultInRows_118 : decode cX6_faultInRows 118 = .ok (.ireturn, 1) := by decide +kernel
set_option maxRecDepth 20000 in
theorem ggX6_isSign_X7_isIn : GoodIn wsX6_isSign wsX7_isIn := goodIn_r _ [3] (by decide +kernel) (by decide +kernel)
set_option maxRecDepth 20000 in
theorem gX6_isSign_X7_isIn_n27 : GoodIn wsX6_isSign (wsX7_isIn) := ggX6_isSign_X7_isIn
theorem dX6_isSign_0 : decode cX6_isSign 0 = .ok (.iload_n 1, 1) := by decide +kernel
theorem dX6_isSign_1 : decode cX6_isSign 1 = .ok (.ifCond .eq 28, 3) := by decide +kernel
theorem dX6_isSign_4 : decode cX6_isSign 4 = .ok (.iload_n 0, 1) := by decide +kernel
theorem dX6_isSign_5 : decode cX6_isSign 5 = .ok (.bipush 45, 2) := by decide +kernel
theorem dX6_isSign_7 : decode cX6_isSign 7 = .ok (.if_icmp .eq 14, 3) := by decide +kernel
theorem dX6_isSign_10 : decode cX6_isSign 10 = .ok (.iload_n 0, 1) := by decide +kernel
theorem dX6_isSign_11 : decode cX6_isSign 11 = .ok (.bipush 48, 2) := by decide +kernel
theorem dX6_isSign_13 : decode cX6_isSign 13 = .ok (.bipush 53, 2) := by decide +kernel
theorem dX6_isSign_15 : decode cX6_isSign 15 = .ok (.invokestatic 27, 3) := by decide +kernel
theorem dX6_isSign_18 : decode cX6_isSign 18 = .ok (.ifCond .eq 7, 3) := by decide +kernel
theorem dX6_isSign_21 : decode cX6_isSign 21 = .ok (.iconst 1, 1) := by decide +kernel
theorem dX6_isSign_22 : decode cX6_isSign 22 = .ok (.goto 15, 3) := by decide +kernel
theorem dX6_isSign_25 : decode cX6_isSign 25 = .ok (.iconst 0, 1) := by decide +kernel
theorem dX6_isSign_26 : decode cX6_isSign 26 = .ok (.goto 11, 3) := by decide +kernel
theorem dX6_isSign_29 : decode cX6_isSign 29 = .ok (.iload_n 0, 1) := by decide +kernel
theorem dX6_isSign_30 : decode cX6_isSign 30 = .ok (.bipush 48, 2) := by decide +kernel
theorem dX6_isSign_32 : decode cX6_isSign 32 = .ok (.bipush 57, 2) := by decide +kernel
theorem dX6_isSign_34 : decode cX6_isSign 34 = .ok (.invokestatic 27, 3) := by decide +kernel
theorem dX6_isSign_37 : decode cX6_isSign 37 = .ok (.ireturn, 1) := by decide +kernel
theorem dX6_twoFigures_0 : decode cX6_twoFigures 0 = .ok (.iload_n 1, 1) := by decide +kernel
theorem dX6_twoFigures_1 : decode cX6_twoFigures 1 = .ok (.ifCond .lt 13, 3) := by decide +kernel
theorem dX6_twoFigures_4 : decode cX6_twoFigures 4 = .ok (.iload_n 1, 1) := by decide +kernel
theorem dX6_twoFigures_5 : decode cX6_twoFigures 5 = .ok (.iconst 1, 1) := by decide +kernel
theorem dX6_twoFigures_6 : decode cX6_twoFigures 6 = .ok (.iadd, 1) := by decide +kernel
theorem dX6_twoFigures_7 : decode cX6_twoFigures 7 = .ok (.aload_n 0, 1) := by decide +kernel
theorem dX6_twoFigures_8 : decode cX6_twoFigures 8 = .ok (.getfield 15, 3) := by decide +kernel
theorem dX6_twoFigures_11 : decode cX6_twoFigures 11 = .ok (.if_icmp .lt 5, 3) := by decide +kernel
theorem dX6_twoFigures_14 : decode cX6_twoFigures 14 = .ok (.iconst 0, 1) := by decide +kernel
theorem dX6_twoFigures_15 : decode cX6_twoFigures 15 = .ok (.ireturn, 1) := by decide +kernel
theorem dX6_twoFigures_16 : decode cX6_twoFigures 16 = .ok (.bipush 10, 2) := by decide +kernel
theorem dX6_twoFigures_18 : decode cX6_twoFigures 18 = .ok (.aload_n 0, 1) := by decide +kernel
theorem dX6_twoFigures_19 : decode cX6_twoFigures 19 = .ok (.getfield 9, 3) := by decide +kernel
theorem dX6_twoFigures_22 : decode cX6_twoFigures 22 = .ok (.iload_n 1, 1) := by decide +kernel
theorem dX6_twoFigures_23 : decode cX6_twoFigures 23 = .ok (.iaload, 1) := by decide +kernel
theorem dX6_twoFigures_24 : decode cX6_twoFigures 24 = .ok (.bipush 48, 2) := by decide +kernel
theorem dX6_twoFigures_26 : decode cX6_twoFigures 26 = .ok (.isub, 1) := by decide +kernel
theorem dX6_twoFigures_27 : decode cX6_twoFigures 27 = .ok (.imul, 1) := by decide +kernel
theorem dX6_twoFigures_28 : decode cX6_twoFigures 28 = .ok (.aload_n 0, 1) := by decide +kernel
theorem dX6_twoFigures_29 : decode cX6_twoFigures 29 = .ok (.getfield 9, 3) := by decide +kernel
theorem dX6_twoFigures_32 : decode cX6_twoFigures 32 = .ok (.iload_n 1, 1) := by decide +kernel
theorem dX6_twoFigures_33 : decode cX6_twoFigures 33 = .ok (.iconst 1, 1) := by decide +kernel
theorem dX6_twoFigures_34 : decode cX6_twoFigures 34 = .ok (.iadd, 1) := by decide +kernel
theorem dX6_twoFigures_35 : decode cX6_twoFigures 35 = .ok (.iaload, 1) := by decide +kernel
theorem dX6_twoFigures_36 : decode cX6_twoFigures 36 = .ok (.iadd, 1) := by decide +kernel
theorem dX6_twoFigures_37 : decode cX6_twoFigures 37 = .ok (.bipush 48, 2) := by decide +kernel
theorem dX6_twoFigures_39 : decode cX6_twoFigures 39 = .ok (.isub, 1) := by decide +kernel
theorem dX6_twoFigures_40 : decode cX6_twoFigures 40 = .ok (.ireturn, 1) := by decide +kernel
set_option maxRecDepth 20000 in
theorem ggX7_init_X6_init : GoodIn wsX7_init wsX6_init := goodIn_r _ [35, 36, 2, 3, 37, 38, 39, 102, 103] (by decide +kernel) (by decide +kernel)
set_option maxRecDepth 20000 in
theorem gX7_init_X6_init : GoodIn wsX7_init (wsX6_init) := ggX7_init_X6_init
set_option maxRecDepth 20000 in
theorem ggX7_init_X2_init : GoodIn wsX7_init wsX2_init := goodIn_r _ [42, 43, 2, 3, 37, 44, 45, 46, 47, 48, 49, 50, 51, 52, 112, 113, 114, 115, 116, 117, 118, 119, 120] (by decide +kernel) (by decide +kernel)
set_option maxRecDepth 20000 in
theorem gX7_init_X2_init : GoodIn wsX7_init (wsX2_init) := ggX7_init_X2_init
set_option maxRecDepth 20000 in
theorem ggX7_init_X0_init : GoodIn wsX7_init wsX0_init := goodIn_r _ [55, 56, 2, 3, 37, 57, 58, 59, 60, 61, 62, 63, 64, 65, 66, 67, 121, 122, 123, 124, 125, 126, 127, 128, 129, 130, 131] (by decide +kernel) (by decide +kernel)
set_option maxRecDepth 20000 in
theorem gX7_init_X0_init : GoodIn wsX7_init (wsX0_init) := ggX7_init_X0_init
set_option maxRecDepth 20000 in
theorem ggX7_init_X3_init : GoodIn wsX7_init wsX3_init := goodIn_r _ [70, 71, 2, 3, 37, 72, 73, 74, 75, 76, 132, 133, 134, 135, 136, 137, 138, 139, 140, 141] (by decide +kernel) (by decide +kernel)
set_option maxRecDepth 20000 in
theorem gX7_init_X3_init : GoodIn wsX7_init (wsX3_init) := ggX7_init_X3_init
set_option maxRecDepth 20000 in
theorem ggX7_init_X1_init : GoodIn wsX7_init wsX1_init := goodIn_r _ [79, 80, 2, 3, 37, 81, 82, 83, 142, 143, 144, 145] (by decide +kernel) (by decide +kernel)
set_option maxRecDepth 20000 in
theorem gX7_init_X1_init : GoodIn wsX7_init (wsX1_init) := ggX7_init_X1_init
set_option maxRecDepth 20000 in
theorem ggX7_init_X4_init : GoodIn wsX7_init wsX4_init := goodIn_r _ [86, 87, 2, 3, 37, 88, 89, 90, 91, 92, 93, 94, 146, 147, 148, 149, 150, 151, 152] (by decide +kernel) (by decide +kernel)
set_option maxRecDepth 20000 in
theorem gX7_init_X4_init : GoodIn wsX7_init (wsX4_init) := ggX7_init_X4_init
set_option maxRecDepth 20000 in
theorem ggX7_init_X5_init : GoodIn wsX7_init wsX5_init := goodIn_r _ [96, 97, 2, 3, 37, 98, 99, 100, 101, 153, 154, 155, 156] (by decide +kernel) (by decide +kernel)
set_option maxRecDepth 20000 in
theorem gX7_init_X5_init_n63 : GoodIn wsX7_init (wsX5_init) := ggX7_init_X5_init
theorem dX7_init_0 : decode cX7_init 0 = .ok (.aload_n 0, 1) := by decide +kernel
theorem dX7_init_1 : decode cX7_init 1 = .ok (.invokespecial 1, 3) := by decide +kernel
theorem dX7_init_4 : decode cX7_init 4 = .ok (.aload_n 0, 1) := by decide +kernel
theorem dX7_init_5 : decode cX7_init 5 = .ok (.iconst 2, 1) := by decide +kernel
theorem dX7_init_6 : decode cX7_init 6 = .ok (.anewarray 7, 3) := by decide +kernel
theorem dX7_init_9 : decode cX7_init 9 = .ok (.dup, 1) := by decide +kernel
theorem dX7_init_10 : decode cX7_init 10 = .ok (.iconst 0, 1) := by decide +kernel
theorem dX7_init_11 : decode cX7_init 11 = .ok (.new 7, 3) := by decide +kernel
theorem dX7_init_14 : decode cX7_init 14 = .ok (.dup, 1) := by decide +kernel
theorem dX7_init_15 : decode cX7_init 15 = .ok (.bipush 30, 2) := by decide +kernel
theorem dX7_init_17 : decode cX7_init 17 = .ok (.invokespecial 11, 3) := by decide +kernel
theorem dX7_init_20 : decode cX7_init 20 = .ok (.aastore, 1) := by decide +kernel
theorem dX7_init_21 : decode cX7_init 21 = .ok (.dup, 1) := by decide +kernel
theorem dX7_init_22 : decode cX7_init 22 = .ok (.iconst 1, 1) := by decide +kernel
theorem dX7_init_23 : decode cX7_init 23 = .ok (.new 7, 3) := by decide +kernel
theorem dX7_init_26 : decode cX7_init 26 = .ok (.dup, 1) := by decide +kernel
theorem dX7_init_27 : decode cX7_init 27 = .ok (.bipush 60, 2) := by decide +kernel
theorem dX7_init_29 : decode cX7_init 29 = .ok (.invokespecial 11, 3) := by decide +kernel
theorem dX7_init_32 : decode cX7_init 32 = .ok (.aastore, 1) := by decide +kernel
theorem dX7_init_33 : decode cX7_init 33 = .ok (.putfield 14, 3) := by decide +kernel
theorem dX7_init_36 : decode cX7_init 36 = .ok (.aload_n 0, 1) := by decide +kernel
theorem dX7_init_37 : decode cX7_init 37 = .ok (.new 18, 3) := by decide +kernel
theorem dX7_init_40 : decode cX7_init 40 = .ok (.dup, 1) := by decide +kernel
theorem dX7_init_41 : decode cX7_init 41 = .ok (.invokespecial 20, 3) := by decide +kernel
theorem dX7_init_44 : decode cX7_init 44 = .ok (.putfield 21, 3) := by decide +kernel
theorem dX7_init_47 : decode cX7_init 47 = .ok (.aload_n 0, 1) := by decide +kernel
theorem dX7_init_48 : decode cX7_init 48 = .ok (.new 25, 3) := by decide +kernel
theorem dX7_init_51 : decode cX7_init 51 = .ok (.dup, 1) := by decide +kernel
theorem dX7_init_52 : decode cX7_init 52 = .ok (.aload_n 0, 1) := by decide +kernel
theorem dX7_init_53 : decode cX7_init 53 = .ok (.getfield 21, 3) := by decide +kernel
theorem dX7_init_56 : decode cX7_init 56 = .ok (.invokespecial 27, 3) := by decide +kernel
theorem dX7_init_59 : decode cX7_init 59 = .ok (.putfield 30, 3) := by decide +kernel
theorem dX7_init_62 : decode cX7_init 62 = .ok (.aload_n 0, 1) := by decide +kernel
theorem dX7_init_63 : decode cX7_init 63 = .ok (.new 34, 3) := by decide +kernel
theorem dX7_init_66 : decode cX7_init 66 = .ok (.dup, 1) := by decide +kernel
theorem dX7_init_67 : decode cX7_init 67 = .ok (.aload_n 0, 1) := by decide +kernel
theorem dX7_init_68 : decode cX7_init 68 = .ok (.getfield 21, 3) := by decide +kernel
theorem dX7_init_71 : decode cX7_init 71 = .ok (.aload_n 0, 1) := by decide +kernel
theorem dX7_init_72 : decode cX7_init 72 = .ok (.getfield 30, 3) := by decide +kernel
theorem dX7_init_75 : decode cX7_init 75 = .ok (.invokespecial 36, 3) := by decide +kernel
theorem dX7_init_78 : decode cX7_init 78 = .ok (.putfield 39, 3) := by decide +kernel
theorem dX7_init_81 : decode cX7_init 81 = .ok (.aload_n 0, 1) := by decide +kernel
theorem dX7_init_82 : decode cX7_init 82 = .ok (.new 43, 3) := by decide +kernel
theorem dX7_init_85 : decode cX7_init 85 = .ok (.dup, 1) := by decide +kernel
theorem dX7_init_86 : decode cX7_init 86 = .ok (.aload_n 0, 1) := by decide +kernel
theorem dX7_init_87 : decode cX7_init 87 = .ok (.getfield 21, 3) := by decide +kernel
theorem dX7_init_90 : decode cX7_init 90 = .ok (.invokespecial 45, 3) := by decide +kernel
theorem dX7_init_93 : decode cX7_init 93 = .ok (.putfield 46, 3) := by decide +kernel
theorem dX7_init_96 : decode cX7_init 96 = .ok (.aload_n 0, 1) := by decide +kernel
theorem dX7_init_97 : decode cX7_init 97 = .ok (.new 50, 3) := by decide +kernel
theorem dX7_init_100 : decode cX7_init 100 = .ok (.dup, 1) := by decide +kernel
theorem dX7_init_101 : decode cX7_init 101 = .ok (.aload_n 0, 1) := by decide +kernel
theorem dX7_init_102 : decode cX7_init 102 = .ok (.getfield 21, 3) := by decide +kernel
theorem dX7_init_105 : decode cX7_init 105 = .ok (.aload_n 0, 1) := by decide +kernel
theorem dX7_init_106 : decode cX7_init 106 = .ok (.getfield 30, 3) := by decide +kernel
theorem dX7_init_109 : decode cX7_init 109 = .ok (.invokespecial 52, 3) := by decide +kernel
theorem dX7_init_112 : decode cX7_init 112 = .ok (.putfield 53, 3) := by decide +kernel
theorem dX7_init_115 : decode cX7_init 115 = .ok (.aload_n 0, 1) := by decide +kernel
theorem dX7_init_116 : decode cX7_init 116 = .ok (.iconst 4, 1) := by decide +kernel
theorem dX7_init_117 : decode cX7_init 117 = .ok (.anewarray 57, 3) := by decide +kernel
theorem dX7_init_120 : decode cX7_init 120 = .ok (.putfield 59, 3) := by decide +kernel
theorem dX7_init_123 : decode cX7_init 123 = .ok (.iconst 0, 1) := by decide +kernel
theorem dX7_init_124 : decode cX7_init 124 = .ok (.istore_n 1, 1) := by decide +kernel
theorem dX7_init_125 : decode cX7_init 125 = .ok (.iload_n 1, 1) := by decide +kernel
theorem dX7_init_126 : decode cX7_init 126 = .ok (.iconst 4, 1) := by decide +kernel
theorem dX7_init_127 : decode cX7_init 127 = .ok (.if_icmp .ge 22, 3) := by decide +kernel
theorem dX7_init_130 : decode cX7_init 130 = .ok (.aload_n 0, 1) := by decide +kernel
theorem dX7_init_131 : decode cX7_init 131 = .ok (.getfield 59, 3) := by decide +kernel
theorem dX7_init_134 : decode cX7_init 134 = .ok (.iload_n 1, 1) := by decide +kernel
theorem dX7_init_135 : decode cX7_init 135 = .ok (.new 57, 3) := by decide +kernel
theorem dX7_init_138 : decode cX7_init 138 = .ok (.dup, 1) := by decide +kernel
theorem dX7_init_139 : decode cX7_init 139 = .ok (.invokespecial 63, 3) := by decide +kernel
theorem dX7_init_142 : decode cX7_init 142 = .ok (.aastore, 1) := by decide +kernel
theorem dX7_init_143 : decode cX7_init 143 = .ok (.iinc 1 1, 3) := by decide +kernel
theorem dX7_init_146 : decode cX7_init 146 = .ok (.goto (-21), 3) := by decide +kernel
theorem dX7_init_149 : decode cX7_init 149 = .ok (.aload_n 0, 1) := by decide +kernel
theorem dX7_init_150 : decode cX7_init 150 = .ok (.iconst 0, 1) := by decide +kernel
theorem dX7_init_151 : decode cX7_init 151 = .ok (.putfield 64, 3) := by decide +kernel
theorem dX7_init_154 : decode cX7_init 154 = .ok (.return_, 1) := by decide +kernel
set_option maxRecDepth 20000 in
theorem ggX7_type_X7_isText : GoodIn wsX7_type wsX7_isText := goodIn_r _ [6, 7, 8, 5, 9] (by decide +kernel) (by decide +kernel)
set_option maxRecDepth 20000 in
theorem gX7_type_X7_isText : GoodIn wsX7_type (va_wsS RX7 68 yX7_isText wsX7_isText) := goodIn_app (goodIn_of _ (by decide +kernel)) ggX7_type_X7_isText
set_option maxRecDepth 20000 in
theorem ggX7_type_X7_isIn : GoodIn wsX7_type wsX7_isIn := goodIn_r _ [9] (by decide +kernel) (by decide +kernel)
set_option maxRecDepth 20000 in
theorem gX7_type_X7_isIn : GoodIn wsX7_type (va_wsS RX7 72 yX7_isIn wsX7_isIn) := goodIn_app (goodIn_of _ (by decide +kernel)) ggX7_type_X7_isIn
set_option maxRecDepth 20000 in
theorem ggX7_type_X6_isFull : GoodIn wsX7_type wsX6_isFull := goodIn_r _ [14, 15, 16, 75, 76] (by decide +kernel) (by decide +kernel)
set_option maxRecDepth 20000 in
theorem gX7_type_X6_isFull : GoodIn wsX7_type (wsV RX7 76 RX6 yX6_isFull wsX6_isFull) := goodIn_app (goodIn_of _ (by decide +kernel)) ggX7_type_X6_isFull
set_option maxRecDepth 20000 in
theorem ggX7_type_X6_append : GoodIn wsX7_type wsX6_append := goodIn_r _ [20, 16, 15, 21, 11, 12, 13, 14, 75, 76] (by decide +kernel) (by decide +kernel)
set_option maxRecDepth 20000 in
theorem gX7_type_X6_append : GoodIn wsX7_type (wsV RX7 80 RX6 yX6_append wsX6_append) := goodIn_app (goodIn_of _ (by decide +kernel)) ggX7_type_X6_append
set_option maxRecDepth 20000 in
theorem ggX7_type_X7_understandTexts : GoodIn wsX7_type wsX7_understandTexts := goodIn_r _ [25, 26, 1, 27, 28, 29, 30, 31, 32, 33, 34, 35, 36, 37, 38, 39, 40, 13, 41, 15, 16, 42, 43, 44, 8, 5, 9, 45, 46, 47, 48, 49, 50, 51, 52, 53, 54, 55, 56, 57, 58, 59, 60, 61, 62, 63, 64, 65, 66, 67, 68, 69, 70, 71, 72, 73, 74, 77, 78, 79, 80, 81, 82, 83, 84, 85, 75, 76, 86, 87, 88, 89, 90, 91, 92, 93, 94, 95, 96] (by decide +kernel) (by decide +kernel)
set_option maxRecDepth 20000 in
theorem gX7_type_X7_understandTexts : GoodIn wsX7_type (wsV RX7 83 RX7 yX7_understandTexts wsX7_understandTexts) := goodIn_app (goodIn_of _ (by decide +kernel)) ggX7_type_X7_understandTexts
theorem dX7_type_0 : decode cX7_type 0 = .ok (.iload_n 1, 1) := by decide +kernel
theorem dX7_type_1 : decode cX7_type 1 = .ok (.invokestatic 68, 3) := by decide +kernel
theorem dX7_type_4 : decode cX7_type 4 = .ok (.ifCond .eq 14, 3) := by decide +kernel
theorem dX7_type_7 : decode cX7_type 7 = .ok (.iload_n 2, 1) := by decide +kernel
theorem dX7_type_8 : decode cX7_type 8 = .ok (.iconst 0, 1) := by decide +kernel
theorem dX7_type_9 : decode cX7_type 9 = .ok (.sipush 255, 3) := by decide +kernel
theorem dX7_type_12 : decode cX7_type 12 = .ok (.invokestatic 72, 3) := by decide +kernel
theorem dX7_type_15 : decode cX7_type 15 = .ok (.ifCond .ne 6, 3) := by decide +kernel
theorem dX7_type_18 : decode cX7_type 18 = .ok (.bipush (-2), 2) := by decide +kernel
theorem dX7_type_20 : decode cX7_type 20 = .ok (.ireturn, 1) := by decide +kernel
theorem dX7_type_21 : decode cX7_type 21 = .ok (.aload_n 0, 1) := by decide +kernel
theorem dX7_type_22 : decode cX7_type 22 = .ok (.getfield 14, 3) := by decide +kernel
theorem dX7_type_25 : decode cX7_type 25 = .ok (.iload_n 1, 1) := by decide +kernel
theorem dX7_type_26 : decode cX7_type 26 = .ok (.aaload, 1) := by decide +kernel
theorem dX7_type_27 : decode cX7_type 27 = .ok (.invokevirtual 76, 3) := by decide +kernel
theorem dX7_type_30 : decode cX7_type 30 = .ok (.ifCond .eq 6, 3) := by decide +kernel
theorem dX7_type_33 : decode cX7_type 33 = .ok (.bipush (-4), 2) := by decide +kernel
theorem dX7_type_35 : decode cX7_type 35 = .ok (.ireturn, 1) := by decide +kernel
theorem dX7_type_36 : decode cX7_type 36 = .ok (.aload_n 0, 1) := by decide +kernel
theorem dX7_type_37 : decode cX7_type 37 = .ok (.getfield 14, 3) := by decide +kernel
theorem dX7_type_40 : decode cX7_type 40 = .ok (.iload_n 1, 1) := by decide +kernel
theorem dX7_type_41 : decode cX7_type 41 = .ok (.aaload, 1) := by decide +kernel
theorem dX7_type_42 : decode cX7_type 42 = .ok (.iload_n 2, 1) := by decide +kernel
theorem dX7_type_43 : decode cX7_type 43 = .ok (.invokevirtual 80, 3) := by decide +kernel
theorem dX7_type_46 : decode cX7_type 46 = .ok (.aload_n 0, 1) := by decide +kernel
theorem dX7_type_47 : decode cX7_type 47 = .ok (.invokevirtual 83, 3) := by decide +kernel
theorem dX7_type_50 : decode cX7_type 50 = .ok (.aload_n 0, 1) := by decide +kernel
theorem dX7_type_51 : decode cX7_type 51 = .ok (.getfield 14, 3) := by decide +kernel
theorem dX7_type_54 : decode cX7_type 54 = .ok (.iload_n 1, 1) := by decide +kernel
theorem dX7_type_55 : decode cX7_type 55 = .ok (.aaload, 1) := by decide +kernel
theorem dX7_type_56 : decode cX7_type 56 = .ok (.getfield 86, 3) := by decide +kernel
theorem dX7_type_59 : decode cX7_type 59 = .ok (.ireturn, 1) := by decide +kernel
set_option maxRecDepth 20000 in
theorem ggX7_wipe_X7_isText : GoodIn wsX7_wipe wsX7_isText := goodIn_r _ [6, 7, 8, 5, 9] (by decide +kernel) (by decide +kernel)
set_option maxRecDepth 20000 in
theorem gX7_wipe_X7_isText : GoodIn wsX7_wipe (va_wsS RX7 68 yX7_isText wsX7_isText) := goodIn_app (goodIn_of _ (by decide +kernel)) ggX7_wipe_X7_isText
set_option maxRecDepth 20000 in
theorem ggX7_wipe_X7_understandTexts : GoodIn wsX7_wipe wsX7_understandTexts := goodIn_r _ [13, 14, 1, 15, 16, 17, 18, 19, 20, 21, 22, 23, 24, 25, 26, 27, 28, 29, 30, 31, 32, 33, 34, 35, 8, 5, 9, 36, 37, 38, 39, 40, 41, 42, 43, 44, 45, 46, 47, 48, 49, 50, 51, 52, 53, 54, 55, 56, 57, 58, 59, 60, 61, 62, 63, 64, 65, 68, 69, 70, 71, 72, 73, 74, 75, 76, 66, 67, 77, 78, 79, 80, 81, 82, 83, 84, 85, 86, 87] (by decide +kernel) (by decide +kernel)
set_option maxRecDepth 20000 in
theorem gX7_wipe_X7_understandTexts : GoodIn wsX7_wipe (wsV RX7 83 RX7 yX7_understandTexts wsX7_understandTexts) := goodIn_app (goodIn_of _ (by decide +kernel)) ggX7_wipe_X7_understandTexts
theorem dX7_wipe_0 : decode cX7_wipe 0 = .ok (.iload_n 1, 1) := by decide +kernel
theorem dX7_wipe_1 : decode cX7_wipe 1 = .ok (.invokestatic 68, 3) := by decide +kernel
theorem dX7_wipe_4 : decode cX7_wipe 4 = .ok (.ifCond .ne 6, 3) := by decide +kernel
theorem dX7_wipe_7 : decode cX7_wipe 7 = .ok (.bipush (-2), 2) := by decide +kernel
theorem dX7_wipe_9 : decode cX7_wipe 9 = .ok (.ireturn, 1) := by decide +kernel
theorem dX7_wipe_10 : decode cX7_wipe 10 = .ok (.aload_n 0, 1) := by decide +kernel
theorem dX7_wipe_11 : decode cX7_wipe 11 = .ok (.getfield 14, 3) := by decide +kernel
theorem dX7_wipe_14 : decode cX7_wipe 14 = .ok (.iload_n 1, 1) := by decide +kernel
theorem dX7_wipe_15 : decode cX7_wipe 15 = .ok (.aaload, 1) := by decide +kernel
theorem dX7_wipe_16 : decode cX7_wipe 16 = .ok (.getfield 86, 3) := by decide +kernel
theorem dX7_wipe_19 : decode cX7_wipe 19 = .ok (.istore_n 2, 1) := by decide +kernel
theorem dX7_wipe_20 : decode cX7_wipe 20 = .ok (.aload_n 0, 1) := by decide +kernel
theorem dX7_wipe_21 : decode cX7_wipe 21 = .ok (.getfield 14, 3) := by decide +kernel
theorem dX7_wipe_24 : decode cX7_wipe 24 = .ok (.iload_n 1, 1) := by decide +kernel
theorem dX7_wipe_25 : decode cX7_wipe 25 = .ok (.aaload, 1) := by decide +kernel
theorem dX7_wipe_26 : decode cX7_wipe 26 = .ok (.iconst 0, 1) := by decide +kernel
theorem dX7_wipe_27 : decode cX7_wipe 27 = .ok (.putfield 86, 3) := by decide +kernel
theorem dX7_wipe_30 : decode cX7_wipe 30 = .ok (.aload_n 0, 1) := by decide +kernel
theorem dX7_wipe_31 : decode cX7_wipe 31 = .ok (.invokevirtual 83, 3) := by decide +kernel
theorem dX7_wipe_34 : decode cX7_wipe 34 = .ok (.iload_n 2, 1) := by decide +kernel
theorem dX7_wipe_35 : decode cX7_wipe 35 = .ok (.ireturn, 1) := by decide +kernel
set_option maxRecDepth 20000 in
theorem ggX7_fault_X7_isText : GoodIn wsX7_fault wsX7_isText := goodIn_r _ [8, 9, 10, 7, 11] (by decide +kernel) (by decide +kernel)
set_option maxRecDepth 20000 in
theorem gX7_fault_X7_isText : GoodIn wsX7_fault (va_wsS RX7 68 yX7_isText wsX7_isText) := goodIn_app (goodIn_of _ (by decide +kernel)) ggX7_fault_X7_isText
theorem dX7_fault_0 : decode cX7_fault 0 = .ok (.iload_n 1, 1) := by decide +kernel
theorem dX7_fault_1 : decode cX7_fault 1 = .ok (.invokestatic 68, 3) := by decide +kernel
theorem dX7_fault_4 : decode cX7_fault 4 = .ok (.ifCond .ne 6, 3) := by decide +kernel
theorem dX7_fault_7 : decode cX7_fault 7 = .ok (.bipush (-2), 2) := by decide +kernel
theorem dX7_fault_9 : decode cX7_fault 9 = .ok (.ireturn, 1) := by decide +kernel
theorem dX7_fault_10 : decode cX7_fault 10 = .ok (.iload_n 1, 1) := by decide +kernel
theorem dX7_fault_11 : decode cX7_fault 11 = .ok (.ifCond .ne 13, 3) := by decide +kernel
theorem dX7_fault_14 : decode cX7_fault 14 = .ok (.aload_n 0, 1) := by decide +kernel
theorem dX7_fault_15 : decode cX7_fault 15 = .ok (.getfield 21, 3) := by decide +kernel
theorem dX7_fault_18 : decode cX7_fault 18 = .ok (.getfield 89, 3) := by decide +kernel
theorem dX7_fault_21 : decode cX7_fault 21 = .ok (.goto 10, 3) := by decide +kernel
theorem dX7_fault_24 : decode cX7_fault 24 = .ok (.aload_n 0, 1) := by decide +kernel
theorem dX7_fault_25 : decode cX7_fault 25 = .ok (.getfield 30, 3) := by decide +kernel
theorem dX7_fault_28 : decode cX7_fault 28 = .ok (.getfield 92, 3) := by decide +kernel
theorem dX7_fault_31 : decode cX7_fault 31 = .ok (.ireturn, 1) := by decide +kernel
set_option maxRecDepth 20000 in
theorem ggX7_person_X7_isPerson : GoodIn wsX7_person wsX7_isPerson := goodIn_r _ [8, 1, 9, 10, 11, 7, 12, 13, 14, 15, 16, 17, 18, 19, 20, 21, 22, 23, 24, 25, 26, 27, 28, 29] (by decide +kernel) (by decide +kernel)
set_option maxRecDepth 20000 in
theorem gX7_person_X7_isPerson : GoodIn wsX7_person (wsV RX7 93 RX7 yX7_isPerson wsX7_isPerson) := goodIn_app (goodIn_of _ (by decide +kernel)) ggX7_person_X7_isPerson
set_option maxRecDepth 20000 in
theorem ggX7_person_X7_isIn : GoodIn wsX7_person wsX7_isIn := goodIn_r _ [12] (by decide +kernel) (by decide +kernel)
set_option maxRecDepth 20000 in
theorem gX7_person_X7_isIn : GoodIn wsX7_person (va_wsS RX7 72 yX7_isIn wsX7_isIn) := goodIn_app (goodIn_of _ (by decide +kernel)) ggX7_person_X7_isIn
theorem dX7_person_0 : decode cX7_person 0 = .ok (.aload_n 0, 1) := by decide +kernel
theorem dX7_person_1 : decode cX7_person 1 = .ok (.iload_n 1, 1) := by decide +kernel
theorem dX7_person_2 : decode cX7_person 2 = .ok (.invokevirtual 93, 3) := by decide +kernel
theorem dX7_person_5 : decode cX7_person 5 = .ok (.ifCond .eq 12, 3) := by decide +kernel
theorem dX7_person_8 : decode cX7_person 8 = .ok (.iload_n 2, 1) := by decide +kernel
theorem dX7_person_9 : decode cX7_person 9 = .ok (.iconst 0, 1) := by decide +kernel
theorem dX7_person_10 : decode cX7_person 10 = .ok (.iconst 1, 1) := by decide +kernel
theorem dX7_person_11 : decode cX7_person 11 = .ok (.invokestatic 72, 3) := by decide +kernel
theorem dX7_person_14 : decode cX7_person 14 = .ok (.ifCond .ne 6, 3) := by decide +kernel
theorem dX7_person_17 : decode cX7_person 17 = .ok (.bipush (-2), 2) := by decide +kernel
theorem dX7_person_19 : decode cX7_person 19 = .ok (.ireturn, 1) := by decide +kernel
theorem dX7_person_20 : decode cX7_person 20 = .ok (.iload_n 2, 1) := by decide +kernel
theorem dX7_person_21 : decode cX7_person 21 = .ok (.ifCond .ne 15, 3) := by decide +kernel
theorem dX7_person_24 : decode cX7_person 24 = .ok (.aload_n 0, 1) := by decide +kernel
theorem dX7_person_25 : decode cX7_person 25 = .ok (.getfield 21, 3) := by decide +kernel
theorem dX7_person_28 : decode cX7_person 28 = .ok (.getfield 96, 3) := by decide +kernel
theorem dX7_person_31 : decode cX7_person 31 = .ok (.iload_n 1, 1) := by decide +kernel
theorem dX7_person_32 : decode cX7_person 32 = .ok (.iaload, 1) := by decide +kernel
theorem dX7_person_33 : decode cX7_person 33 = .ok (.goto 12, 3) := by decide +kernel
theorem dX7_person_36 : decode cX7_person 36 = .ok (.aload_n 0, 1) := by decide +kernel
theorem dX7_person_37 : decode cX7_person 37 = .ok (.getfield 21, 3) := by decide +kernel
theorem dX7_person_40 : decode cX7_person 40 = .ok (.getfield 100, 3) := by decide +kernel
theorem dX7_person_43 : decode cX7_person 43 = .ok (.iload_n 1, 1) := by decide +kernel
theorem dX7_person_44 : decode cX7_person 44 = .ok (.iaload, 1) := by decide +kernel
theorem dX7_person_45 : decode cX7_person 45 = .ok (.ireturn, 1) := by decide +kernel
set_option maxRecDepth 20000 in
theorem ggX7_sits_X7_isRound : GoodIn wsX7_sits wsX7_isRound := goodIn_r _ [6, 1, 7, 8, 9, 5, 10, 23, 24, 25, 26, 27, 28, 29, 30, 31, 32, 33, 34, 35, 36, 37, 38, 39, 40, 41] (by decide +kernel) (by decide +kernel)
set_option maxRecDepth 20000 in
theorem gX7_sits_X7_isRound : GoodIn wsX7_sits (wsV RX7 103 RX7 yX7_isRound wsX7_isRound) := goodIn_app (goodIn_of _ (by decide +kernel)) ggX7_sits_X7_isRound
set_option maxRecDepth 20000 in
theorem ggX7_sits_X7_isPerson : GoodIn wsX7_sits wsX7_isPerson := goodIn_r _ [14, 15, 16, 8, 9, 5, 10, 23, 24, 25, 26, 27, 28, 29, 30, 42, 43, 44, 45, 46, 47, 48, 49, 50] (by decide +kernel) (by decide +kernel)
set_option maxRecDepth 20000 in
theorem gX7_sits_X7_isPerson : GoodIn wsX7_sits (wsV RX7 93 RX7 yX7_isPerson wsX7_isPerson) := goodIn_app (goodIn_of _ (by decide +kernel)) ggX7_sits_X7_isPerson
set_option maxRecDepth 20000 in
theorem ggX7_sits_X0_tableOf : GoodIn wsX7_sits wsX0_tableOf := goodIn_r _ [21, 22, 31, 32, 33, 34, 35, 36, 37, 38, 39, 40, 41] (by decide +kernel) (by decide +kernel)
set_option maxRecDepth 20000 in
theorem gX7_sits_X0_tableOf : GoodIn wsX7_sits (wsV RX7 106 RX0 yX0_tableOf wsX0_tableOf) := goodIn_app (goodIn_of _ (by decide +kernel)) ggX7_sits_X0_tableOf
theorem dX7_sits_0 : decode cX7_sits 0 = .ok (.aload_n 0, 1) := by decide +kernel
theorem dX7_sits_1 : decode cX7_sits 1 = .ok (.iload_n 1, 1) := by decide +kernel
theorem dX7_sits_2 : decode cX7_sits 2 = .ok (.invokevirtual 103, 3) := by decide +kernel
theorem dX7_sits_5 : decode cX7_sits 5 = .ok (.ifCond .eq 11, 3) := by decide +kernel
theorem dX7_sits_8 : decode cX7_sits 8 = .ok (.aload_n 0, 1) := by decide +kernel
theorem dX7_sits_9 : decode cX7_sits 9 = .ok (.iload_n 2, 1) := by decide +kernel
theorem dX7_sits_10 : decode cX7_sits 10 = .ok (.invokevirtual 93, 3) := by decide +kernel
theorem dX7_sits_13 : decode cX7_sits 13 = .ok (.ifCond .ne 6, 3) := by decide +kernel
theorem dX7_sits_16 : decode cX7_sits 16 = .ok (.bipush (-2), 2) := by decide +kernel
theorem dX7_sits_18 : decode cX7_sits 18 = .ok (.ireturn, 1) := by decide +kernel
theorem dX7_sits_19 : decode cX7_sits 19 = .ok (.aload_n 0, 1) := by decide +kernel
theorem dX7_sits_20 : decode cX7_sits 20 = .ok (.getfield 30, 3) := by decide +kernel
theorem dX7_sits_23 : decode cX7_sits 23 = .ok (.iload_n 1, 1) := by decide +kernel
theorem dX7_sits_24 : decode cX7_sits 24 = .ok (.iload_n 2, 1) := by decide +kernel
theorem dX7_sits_25 : decode cX7_sits 25 = .ok (.invokevirtual 106, 3) := by decide +kernel
theorem dX7_sits_28 : decode cX7_sits 28 = .ok (.ireturn, 1) := by decide +kernel
set_option maxRecDepth 20000 in
theorem ggX7_home_X7_isIn : GoodIn wsX7_home wsX7_isIn := goodIn_r _ [6] (by decide +kernel) (by decide +kernel)
set_option maxRecDepth 20000 in
theorem gX7_home_X7_isIn : GoodIn wsX7_home (va_wsS RX7 72 yX7_isIn wsX7_isIn) := goodIn_app (goodIn_of _ (by decide +kernel)) ggX7_home_X7_isIn
theorem dX7_home_0 : decode cX7_home 0 = .ok (.iload_n 1, 1) := by decide +kernel
theorem dX7_home_1 : decode cX7_home 1 = .ok (.iconst 0, 1) := by decide +kernel
theorem dX7_home_2 : decode cX7_home 2 = .ok (.iconst 5, 1) := by decide +kernel
theorem dX7_home_3 : decode cX7_home 3 = .ok (.invokestatic 72, 3) := by decide +kernel
theorem dX7_home_6 : decode cX7_home 6 = .ok (.ifCond .eq 13, 3) := by decide +kernel
theorem dX7_home_9 : decode cX7_home 9 = .ok (.iload_n 2, 1) := by decide +kernel
theorem dX7_home_10 : decode cX7_home 10 = .ok (.iconst 0, 1) := by decide +kernel
theorem dX7_home_11 : decode cX7_home 11 = .ok (.bipush 99, 2) := by decide +kernel
theorem dX7_home_13 : decode cX7_home 13 = .ok (.invokestatic 72, 3) := by decide +kernel
theorem dX7_home_16 : decode cX7_home 16 = .ok (.ifCond .ne 6, 3) := by decide +kernel
theorem dX7_home_19 : decode cX7_home 19 = .ok (.bipush (-2), 2) := by decide +kernel
theorem dX7_home_21 : decode cX7_home 21 = .ok (.ireturn, 1) := by decide +kernel
theorem dX7_home_22 : decode cX7_home 22 = .ok (.aload_n 0, 1) := by decide +kernel
theorem dX7_home_23 : decode cX7_home 23 = .ok (.getfield 21, 3) := by decide +kernel
theorem dX7_home_26 : decode cX7_home 26 = .ok (.getfield 110, 3) := by decide +kernel
theorem dX7_home_29 : decode cX7_home 29 = .ok (.iload_n 1, 1) := by decide +kernel
theorem dX7_home_30 : decode cX7_home 30 = .ok (.iaload, 1) := by decide +kernel
theorem dX7_home_31 : decode cX7_home 31 = .ok (.istore_n 3, 1) := by decide +kernel
theorem dX7_home_32 : decode cX7_home 32 = .ok (.aload_n 0, 1) := by decide +kernel
theorem dX7_home_33 : decode cX7_home 33 = .ok (.getfield 21, 3) := by decide +kernel
theorem dX7_home_36 : decode cX7_home 36 = .ok (.getfield 110, 3) := by decide +kernel
theorem dX7_home_39 : decode cX7_home 39 = .ok (.iload_n 1, 1) := by decide +kernel
theorem dX7_home_40 : decode cX7_home 40 = .ok (.iload_n 2, 1) := by decide +kernel
theorem dX7_home_41 : decode cX7_home 41 = .ok (.iastore, 1) := by decide +kernel
theorem dX7_home_42 : decode cX7_home 42 = .ok (.iload_n 3, 1) := by decide +kernel
theorem dX7_home_43 : decode cX7_home 43 = .ok (.ireturn, 1) := by decide +kernel
set_option maxRecDepth 20000 in
theorem ggX7_worth_X7_isIn : GoodIn wsX7_worth wsX7_isIn := goodIn_r _ [6] (by decide +kernel) (by decide +kernel)
set_option maxRecDepth 20000 in
theorem gX7_worth_X7_isIn : GoodIn wsX7_worth (va_wsS RX7 72 yX7_isIn wsX7_isIn) := goodIn_app (goodIn_of _ (by decide +kernel)) ggX7_worth_X7_isIn
theorem dX7_worth_0 : decode cX7_worth 0 = .ok (.iload_n 1, 1) := by decide +kernel
theorem dX7_worth_1 : decode cX7_worth 1 = .ok (.iconst 0, 1) := by decide +kernel
theorem dX7_worth_2 : decode cX7_worth 2 = .ok (.iconst 5, 1) := by decide +kernel
theorem dX7_worth_3 : decode cX7_worth 3 = .ok (.invokestatic 72, 3) := by decide +kernel
theorem dX7_worth_6 : decode cX7_worth 6 = .ok (.ifCond .eq 13, 3) := by decide +kernel
theorem dX7_worth_9 : decode cX7_worth 9 = .ok (.iload_n 2, 1) := by decide +kernel
theorem dX7_worth_10 : decode cX7_worth 10 = .ok (.iconst 0, 1) := by decide +kernel
theorem dX7_worth_11 : decode cX7_worth 11 = .ok (.bipush 99, 2) := by decide +kernel
theorem dX7_worth_13 : decode cX7_worth 13 = .ok (.invokestatic 72, 3) := by decide +kernel
theorem dX7_worth_16 : decode cX7_worth 16 = .ok (.ifCond .ne 6, 3) := by decide +kernel
theorem dX7_worth_19 : decode cX7_worth 19 = .ok (.bipush (-2), 2) := by decide +kernel
theorem dX7_worth_21 : decode cX7_worth 21 = .ok (.ireturn, 1) := by decide +kernel
theorem dX7_worth_22 : decode cX7_worth 22 = .ok (.aload_n 0, 1) := by decide +kernel
theorem dX7_worth_23 : decode cX7_worth 23 = .ok (.getfield 21, 3) := by decide +kernel
theorem dX7_worth_26 : decode cX7_worth 26 = .ok (.getfield 113, 3) := by decide +kernel
theorem dX7_worth_29 : decode cX7_worth 29 = .ok (.iload_n 1, 1) := by decide +kernel
theorem dX7_worth_30 : decode cX7_worth 30 = .ok (.iaload, 1) := by decide +kernel
theorem dX7_worth_31 : decode cX7_worth 31 = .ok (.istore_n 3, 1) := by decide +kernel
theorem dX7_worth_32 : decode cX7_worth 32 = .ok (.aload_n 0, 1) := by decide +kernel
theorem dX7_worth_33 : decode cX7_worth 33 = .ok (.getfield 21, 3) := by decide +kernel
theorem dX7_worth_36 : decode cX7_worth 36 = .ok (.getfield 113, 3) := by decide +kernel
theorem dX7_worth_39 : decode cX7_worth 39 = .ok (.iload_n 1, 1) := by decide +kernel
theorem dX7_worth_40 : decode cX7_worth 40 = .ok (.iload_n 2, 1) := by decide +kernel
theorem dX7_worth_41 : decode cX7_worth 41 = .ok (.iastore, 1) := by decide +kernel
theorem dX7_worth_42 : decode cX7_worth 42 = .ok (.iload_n 3, 1) := by decide +kernel
theorem dX7_worth_43 : decode cX7_worth 43 = .ok (.ireturn, 1) := by decide +kernel
set_option maxRecDepth 20000 in
theorem ggX7_read_X7_isSheet : GoodIn wsX7_read wsX7_isSheet := goodIn_r _ [14, 15, 16, 13, 17] (by decide +kernel) (by decide +kernel)
set_option maxRecDepth 20000 in
theorem gX7_read_X7_isSheet : GoodIn wsX7_read (va_wsS RX7 116 yX7_isSheet wsX7_isSheet) := goodIn_app (goodIn_of _ (by decide +kernel)) ggX7_read_X7_isSheet
set_option maxRecDepth 20000 in
theorem ggX7_read_X7_found : GoodIn wsX7_read wsX7_found := goodIn_r _ [21, 22, 23, 24, 25, 26, 27, 28, 29, 30] (by decide +kernel) (by decide +kernel)
set_option maxRecDepth 20000 in
theorem gX7_read_X7_found : GoodIn wsX7_read (wsV RX7 123 RX7 yX7_found wsX7_found) := goodIn_app (goodIn_of _ (by decide +kernel)) ggX7_read_X7_found
set_option maxRecDepth 20000 in
theorem ggX7_read_X7_isIn : GoodIn wsX7_read wsX7_isIn := goodIn_r _ [17] (by decide +kernel) (by decide +kernel)
set_option maxRecDepth 20000 in
theorem gX7_read_X7_isIn : GoodIn wsX7_read (va_wsS RX7 72 yX7_isIn wsX7_isIn) := goodIn_app (goodIn_of _ (by decide +kernel)) ggX7_read_X7_isIn
theorem dX7_read_0 : decode cX7_read 0 = .ok (.iload_n 1, 1) := by decide +kernel
theorem dX7_read_1 : decode cX7_read 1 = .ok (.invokestatic 116, 3) := by decide +kernel
theorem dX7_read_4 : decode cX7_read 4 = .ok (.ifCond .ne 6, 3) := by decide +kernel
theorem dX7_read_7 : decode cX7_read 7 = .ok (.bipush (-2), 2) := by decide +kernel
theorem dX7_read_9 : decode cX7_read 9 = .ok (.ireturn, 1) := by decide +kernel
theorem dX7_read_10 : decode cX7_read 10 = .ok (.aload_n 0, 1) := by decide +kernel
theorem dX7_read_11 : decode cX7_read 11 = .ok (.getfield 59, 3) := by decide +kernel
theorem dX7_read_14 : decode cX7_read 14 = .ok (.iload_n 1, 1) := by decide +kernel
theorem dX7_read_15 : decode cX7_read 15 = .ok (.aaload, 1) := by decide +kernel
theorem dX7_read_16 : decode cX7_read 16 = .ok (.getfield 119, 3) := by decide +kernel
theorem dX7_read_19 : decode cX7_read 19 = .ok (.ifCond .eq 9, 3) := by decide +kernel
theorem dX7_read_22 : decode cX7_read 22 = .ok (.aload_n 0, 1) := by decide +kernel
theorem dX7_read_23 : decode cX7_read 23 = .ok (.iconst 1, 1) := by decide +kernel
theorem dX7_read_24 : decode cX7_read 24 = .ok (.invokevirtual 123, 3) := by decide +kernel
theorem dX7_read_27 : decode cX7_read 27 = .ok (.ireturn, 1) := by decide +kernel
theorem dX7_read_28 : decode cX7_read 28 = .ok (.aload_n 0, 1) := by decide +kernel
theorem dX7_read_29 : decode cX7_read 29 = .ok (.getfield 59, 3) := by decide +kernel
theorem dX7_read_32 : decode cX7_read 32 = .ok (.iload_n 1, 1) := by decide +kernel
theorem dX7_read_33 : decode cX7_read 33 = .ok (.aaload, 1) := by decide +kernel
theorem dX7_read_34 : decode cX7_read 34 = .ok (.getfield 127, 3) := by decide +kernel
theorem dX7_read_37 : decode cX7_read 37 = .ok (.bipush 6, 2) := by decide +kernel
theorem dX7_read_39 : decode cX7_read 39 = .ok (.invokestatic 130, 3) := by decide +kernel
theorem dX7_read_42 : decode cX7_read 42 = .ok (.istore_n 2, 1) := by decide +kernel
theorem dX7_read_43 : decode cX7_read 43 = .ok (.iconst 0, 1) := by decide +kernel
theorem dX7_read_44 : decode cX7_read 44 = .ok (.istore_n 3, 1) := by decide +kernel
theorem dX7_read_45 : decode cX7_read 45 = .ok (.iload_n 3, 1) := by decide +kernel
theorem dX7_read_46 : decode cX7_read 46 = .ok (.iload_n 2, 1) := by decide +kernel
theorem dX7_read_47 : decode cX7_read 47 = .ok (.if_icmp .ge 46, 3) := by decide +kernel
theorem dX7_read_50 : decode cX7_read 50 = .ok (.aload_n 0, 1) := by decide +kernel
theorem dX7_read_51 : decode cX7_read 51 = .ok (.getfield 59, 3) := by decide +kernel
theorem dX7_read_54 : decode cX7_read 54 = .ok (.iload_n 1, 1) := by decide +kernel
theorem dX7_read_55 : decode cX7_read 55 = .ok (.aaload, 1) := by decide +kernel
theorem dX7_read_56 : decode cX7_read 56 = .ok (.getfield 135, 3) := by decide +kernel
theorem dX7_read_59 : decode cX7_read 59 = .ok (.iload_n 3, 1) := by decide +kernel
theorem dX7_read_60 : decode cX7_read 60 = .ok (.iaload, 1) := by decide +kernel
theorem dX7_read_61 : decode cX7_read 61 = .ok (.istore 4, 2) := by decide +kernel
theorem dX7_read_63 : decode cX7_read 63 = .ok (.iload 4, 2) := by decide +kernel
theorem dX7_read_65 : decode cX7_read 65 = .ok (.iconst 0, 1) := by decide +kernel
theorem dX7_read_66 : decode cX7_read 66 = .ok (.bipush 99, 2) := by decide +kernel
theorem dX7_read_68 : decode cX7_read 68 = .ok (.invokestatic 72, 3) := by decide +kernel
theorem dX7_read_71 : decode cX7_read 71 = .ok (.ifCond .ne 5, 3) := by decide +kernel
theorem dX7_read_74 : decode cX7_read 74 = .ok (.iload_n 3, 1) := by decide +kernel
theorem dX7_read_75 : decode cX7_read 75 = .ok (.ireturn, 1) := by decide +kernel
theorem dX7_read_76 : decode cX7_read 76 = .ok (.aload_n 0, 1) := by decide +kernel
theorem dX7_read_77 : decode cX7_read 77 = .ok (.getfield 21, 3) := by decide +kernel
theorem dX7_read_80 : decode cX7_read 80 = .ok (.getfield 110, 3) := by decide +kernel
theorem dX7_read_83 : decode cX7_read 83 = .ok (.iload_n 3, 1) := by decide +kernel
theorem dX7_read_84 : decode cX7_read 84 = .ok (.iload 4, 2) := by decide +kernel
theorem dX7_read_86 : decode cX7_read 86 = .ok (.iastore, 1) := by decide +kernel
theorem dX7_read_87 : decode cX7_read 87 = .ok (.iinc 3 1, 3) := by decide +kernel
theorem dX7_read_90 : decode cX7_read 90 = .ok (.goto (-45), 3) := by decide +kernel
theorem dX7_read_93 : decode cX7_read 93 = .ok (.iload_n 2, 1) := by decide +kernel
theorem dX7_read_94 : decode cX7_read 94 = .ok (.ireturn, 1) := by decide +kernel
set_option maxRecDepth 20000 in
theorem ggX7_set_X7_isIn : GoodIn wsX7_set wsX7_isIn := goodIn_r _ [7] (by decide +kernel) (by decide +kernel)
set_option maxRecDepth 20000 in
theorem gX7_set_X7_isIn : GoodIn wsX7_set (va_wsS RX7 72 yX7_isIn wsX7_isIn) := goodIn_app (goodIn_of _ (by decide +kernel)) ggX7_set_X7_isIn
theorem dX7_set_0 : decode cX7_set 0 = .ok (.iload_n 1, 1) := by decide +kernel
theorem dX7_set_1 : decode cX7_set 1 = .ok (.iconst 0, 1) := by decide +kernel
theorem dX7_set_2 : decode cX7_set 2 = .ok (.iconst 1, 1) := by decide +kernel
theorem dX7_set_3 : decode cX7_set 3 = .ok (.invokestatic 72, 3) := by decide +kernel
theorem dX7_set_6 : decode cX7_set 6 = .ok (.ifCond .eq 20, 3) := by decide +kernel
theorem dX7_set_9 : decode cX7_set 9 = .ok (.iload_n 2, 1) := by decide +kernel
theorem dX7_set_10 : decode cX7_set 10 = .ok (.iconst 0, 1) := by decide +kernel
theorem dX7_set_11 : decode cX7_set 11 = .ok (.iload_n 1, 1) := by decide +kernel
theorem dX7_set_12 : decode cX7_set 12 = .ok (.ifCond .ne 7, 3) := by decide +kernel
theorem dX7_set_15 : decode cX7_set 15 = .ok (.iconst 2, 1) := by decide +kernel
theorem dX7_set_16 : decode cX7_set 16 = .ok (.goto 4, 3) := by decide +kernel
theorem dX7_set_19 : decode cX7_set 19 = .ok (.iconst 1, 1) := by decide +kernel
theorem dX7_set_20 : decode cX7_set 20 = .ok (.invokestatic 72, 3) := by decide +kernel
theorem dX7_set_23 : decode cX7_set 23 = .ok (.ifCond .ne 6, 3) := by decide +kernel
theorem dX7_set_26 : decode cX7_set 26 = .ok (.bipush (-2), 2) := by decide +kernel
theorem dX7_set_28 : decode cX7_set 28 = .ok (.ireturn, 1) := by decide +kernel
theorem dX7_set_29 : decode cX7_set 29 = .ok (.iload_n 1, 1) := by decide +kernel
theorem dX7_set_30 : decode cX7_set 30 = .ok (.ifCond .ne 13, 3) := by decide +kernel
theorem dX7_set_33 : decode cX7_set 33 = .ok (.aload_n 0, 1) := by decide +kernel
theorem dX7_set_34 : decode cX7_set 34 = .ok (.getfield 21, 3) := by decide +kernel
theorem dX7_set_37 : decode cX7_set 37 = .ok (.getfield 138, 3) := by decide +kernel
theorem dX7_set_40 : decode cX7_set 40 = .ok (.goto 10, 3) := by decide +kernel
theorem dX7_set_43 : decode cX7_set 43 = .ok (.aload_n 0, 1) := by decide +kernel
theorem dX7_set_44 : decode cX7_set 44 = .ok (.getfield 21, 3) := by decide +kernel
theorem dX7_set_47 : decode cX7_set 47 = .ok (.getfield 141, 3) := by decide +kernel
theorem dX7_set_50 : decode cX7_set 50 = .ok (.istore_n 3, 1) := by decide +kernel
theorem dX7_set_51 : decode cX7_set 51 = .ok (.iload_n 1, 1) := by decide +kernel
theorem dX7_set_52 : decode cX7_set 52 = .ok (.ifCond .ne 14, 3) := by decide +kernel
theorem dX7_set_55 : decode cX7_set 55 = .ok (.aload_n 0, 1) := by decide +kernel
theorem dX7_set_56 : decode cX7_set 56 = .ok (.getfield 21, 3) := by decide +kernel
theorem dX7_set_59 : decode cX7_set 59 = .ok (.iload_n 2, 1) := by decide +kernel
theorem dX7_set_60 : decode cX7_set 60 = .ok (.putfield 138, 3) := by decide +kernel
theorem dX7_set_63 : decode cX7_set 63 = .ok (.goto 11, 3) := by decide +kernel
theorem dX7_set_66 : decode cX7_set 66 = .ok (.aload_n 0, 1) := by decide +kernel
theorem dX7_set_67 : decode cX7_set 67 = .ok (.getfield 21, 3) := by decide +kernel
theorem dX7_set_70 : decode cX7_set 70 = .ok (.iload_n 2, 1) := by decide +kernel
theorem dX7_set_71 : decode cX7_set 71 = .ok (.putfield 141, 3) := by decide +kernel
theorem dX7_set_74 : decode cX7_set 74 = .ok (.iload_n 3, 1) := by decide +kernel
theorem dX7_set_75 : decode cX7_set 75 = .ok (.ireturn, 1) := by decide +kernel
set_option maxRecDepth 20000 in
theorem ggX7_state_X7_isPerson : GoodIn wsX7_state wsX7_isPerson := goodIn_r _ [7, 8, 9, 10, 11, 6, 12, 81, 82, 83, 84, 85, 86, 87, 88, 100, 101, 102, 103, 104, 105, 106, 107, 108] (by decide +kernel) (by decide +kernel)
set_option maxRecDepth 20000 in
theorem gX7_state_X7_isPerson : GoodIn wsX7_state (wsV RX7 93 RX7 yX7_isPerson wsX7_isPerson) := goodIn_app (goodIn_of _ (by decide +kernel)) ggX7_state_X7_isPerson
set_option maxRecDepth 20000 in
theorem ggX7_state_X7_isIn : GoodIn wsX7_state wsX7_isIn := goodIn_r _ [12] (by decide +kernel) (by decide +kernel)
set_option maxRecDepth 20000 in
theorem gX7_state_X7_isIn : GoodIn wsX7_state (va_wsS RX7 72 yX7_isIn wsX7_isIn) := goodIn_app (goodIn_of _ (by decide +kernel)) ggX7_state_X7_isIn
set_option maxRecDepth 20000 in
theorem ggX7_state_X0_play : GoodIn wsX7_state wsX0_play := goodIn_r _ [17, 18, 19, 20, 21, 22, 23, 24, 25, 26, 27, 28, 29, 30, 31, 32, 33, 34, 35, 36, 37, 16, 38, 39, 40, 41, 42, 43, 44, 45, 46, 47, 48, 49, 50, 51, 52, 53, 54, 55, 56, 57, 58, 59, 60, 61, 62, 63, 64, 65, 66, 67, 68, 69, 70, 71, 72, 73, 74, 75, 76, 89, 90, 91, 92, 93, 94, 95, 96, 97, 98, 99, 100, 101, 102, 103, 104, 105, 106, 107, 108] (by decide +kernel) (by decide +kernel)
set_option maxRecDepth 20000 in
theorem gX7_state_X0_play : GoodIn wsX7_state (wsV RX7 147 RX0 yX0_play wsX0_play) := goodIn_app (goodIn_of _ (by decide +kernel)) ggX7_state_X0_play
set_option maxRecDepth 20000 in
theorem ggX7_state_X0_sumsOf : GoodIn wsX7_state wsX0_sumsOf := goodIn_r _ [80, 19, 39, 40, 41, 89, 90, 91, 92, 93, 94, 95, 96, 97, 98, 99] (by decide +kernel) (by decide +kernel)
set_option maxRecDepth 20000 in
theorem gX7_state_X0_sumsOf : GoodIn wsX7_state (wsV RX7 150 RX0 yX0_sumsOf wsX0_sumsOf) := goodIn_app (goodIn_of _ (by decide +kernel)) ggX7_state_X0_sumsOf
theorem dX7_state_0 : decode cX7_state 0 = .ok (.aload_n 0, 1) := by decide +kernel
theorem dX7_state_1 : decode cX7_state 1 = .ok (.iload_n 1, 1) := by decide +kernel
theorem dX7_state_2 : decode cX7_state 2 = .ok (.invokevirtual 93, 3) := by decide +kernel
theorem dX7_state_5 : decode cX7_state 5 = .ok (.ifCond .eq 27, 3) := by decide +kernel
theorem dX7_state_8 : decode cX7_state 8 = .ok (.iload_n 2, 1) := by decide +kernel
theorem dX7_state_9 : decode cX7_state 9 = .ok (.iconst 0, 1) := by decide +kernel
theorem dX7_state_10 : decode cX7_state 10 = .ok (.aload_n 0, 1) := by decide +kernel
theorem dX7_state_11 : decode cX7_state 11 = .ok (.getfield 30, 3) := by decide +kernel
theorem dX7_state_14 : decode cX7_state 14 = .ok (.getfield 144, 3) := by decide +kernel
theorem dX7_state_17 : decode cX7_state 17 = .ok (.invokestatic 72, 3) := by decide +kernel
theorem dX7_state_20 : decode cX7_state 20 = .ok (.ifCond .eq 12, 3) := by decide +kernel
theorem dX7_state_23 : decode cX7_state 23 = .ok (.iload_n 3, 1) := by decide +kernel
theorem dX7_state_24 : decode cX7_state 24 = .ok (.iconst 0, 1) := by decide +kernel
theorem dX7_state_25 : decode cX7_state 25 = .ok (.iconst 3, 1) := by decide +kernel
theorem dX7_state_26 : decode cX7_state 26 = .ok (.invokestatic 72, 3) := by decide +kernel
theorem dX7_state_29 : decode cX7_state 29 = .ok (.ifCond .ne 6, 3) := by decide +kernel
theorem dX7_state_32 : decode cX7_state 32 = .ok (.bipush (-2), 2) := by decide +kernel
theorem dX7_state_34 : decode cX7_state 34 = .ok (.ireturn, 1) := by decide +kernel
theorem dX7_state_35 : decode cX7_state 35 = .ok (.aload_n 0, 1) := by decide +kernel
theorem dX7_state_36 : decode cX7_state 36 = .ok (.getfield 30, 3) := by decide +kernel
theorem dX7_state_39 : decode cX7_state 39 = .ok (.iload_n 2, 1) := by decide +kernel
theorem dX7_state_40 : decode cX7_state 40 = .ok (.invokevirtual 147, 3) := by decide +kernel
theorem dX7_state_43 : decode cX7_state 43 = .ok (.aload_n 0, 1) := by decide +kernel
theorem dX7_state_44 : decode cX7_state 44 = .ok (.getfield 30, 3) := by decide +kernel
theorem dX7_state_47 : decode cX7_state 47 = .ok (.iload_n 3, 1) := by decide +kernel
theorem dX7_state_48 : decode cX7_state 48 = .ok (.invokevirtual 150, 3) := by decide +kernel
theorem dX7_state_51 : decode cX7_state 51 = .ok (.iload_n 1, 1) := by decide +kernel
theorem dX7_state_52 : decode cX7_state 52 = .ok (.iaload, 1) := by decide +kernel
theorem dX7_state_53 : decode cX7_state 53 = .ok (.ireturn, 1) := by decide +kernel
set_option maxRecDepth 20000 in
theorem ggX7_all_X7_isIn : GoodIn wsX7_all wsX7_isIn := goodIn_r _ [7] (by decide +kernel) (by decide +kernel)
set_option maxRecDepth 20000 in
theorem gX7_all_X7_isIn : GoodIn wsX7_all (va_wsS RX7 72 yX7_isIn wsX7_isIn) := goodIn_app (goodIn_of _ (by decide +kernel)) ggX7_all_X7_isIn
set_option maxRecDepth 20000 in
theorem ggX7_all_X0_play : GoodIn wsX7_all wsX0_play := goodIn_r _ [12, 13, 14, 15, 16, 17, 18, 19, 20, 21, 22, 23, 24, 25, 26, 27, 28, 29, 30, 31, 32, 11, 33, 34, 35, 36, 37, 38, 39, 40, 41, 42, 43, 44, 45, 46, 47, 48, 49, 50, 51, 52, 53, 54, 55, 56, 57, 58, 59, 60, 61, 62, 63, 64, 65, 66, 67, 68, 69, 70, 71, 88, 89, 90, 91, 92, 93, 94, 95, 96, 97, 98, 99, 100, 101, 102, 103, 104, 105, 106, 107] (by decide +kernel) (by decide +kernel)
set_option maxRecDepth 20000 in
theorem gX7_all_X0_play : GoodIn wsX7_all (wsV RX7 147 RX0 yX0_play wsX0_play) := goodIn_app (goodIn_of _ (by decide +kernel)) ggX7_all_X0_play
set_option maxRecDepth 20000 in
theorem ggX7_all_X0_sumsOf : GoodIn wsX7_all wsX0_sumsOf := goodIn_r _ [75, 14, 34, 35, 36, 88, 89, 90, 91, 92, 93, 94, 95, 96, 97, 98] (by decide +kernel) (by decide +kernel)
set_option maxRecDepth 20000 in
theorem gX7_all_X0_sumsOf : GoodIn wsX7_all (wsV RX7 150 RX0 yX0_sumsOf wsX0_sumsOf) := goodIn_app (goodIn_of _ (by decide +kernel)) ggX7_all_X0_sumsOf
set_option maxRecDepth 20000 in
theorem ggX7_all_X2_together : GoodIn wsX7_all wsX2_together := goodIn_r _ [79, 58, 99, 100, 101, 102, 103, 104, 105, 106, 107] (by decide +kernel) (by decide +kernel)
set_option maxRecDepth 20000 in
theorem gX7_all_X2_together : GoodIn wsX7_all (wsV RX7 154 RX2 yX2_together wsX2_together) := goodIn_app (goodIn_of _ (by decide +kernel)) ggX7_all_X2_together
theorem dX7_all_0 : decode cX7_all 0 = .ok (.iload_n 1, 1) := by decide +kernel
theorem dX7_all_1 : decode cX7_all 1 = .ok (.iconst 0, 1) := by decide +kernel
theorem dX7_all_2 : decode cX7_all 2 = .ok (.aload_n 0, 1) := by decide +kernel
theorem dX7_all_3 : decode cX7_all 3 = .ok (.getfield 30, 3) := by decide +kernel
theorem dX7_all_6 : decode cX7_all 6 = .ok (.getfield 144, 3) := by decide +kernel
theorem dX7_all_9 : decode cX7_all 9 = .ok (.invokestatic 72, 3) := by decide +kernel
theorem dX7_all_12 : decode cX7_all 12 = .ok (.ifCond .eq 12, 3) := by decide +kernel
theorem dX7_all_15 : decode cX7_all 15 = .ok (.iload_n 2, 1) := by decide +kernel
theorem dX7_all_16 : decode cX7_all 16 = .ok (.iconst 0, 1) := by decide +kernel
theorem dX7_all_17 : decode cX7_all 17 = .ok (.iconst 3, 1) := by decide +kernel
theorem dX7_all_18 : decode cX7_all 18 = .ok (.invokestatic 72, 3) := by decide +kernel
theorem dX7_all_21 : decode cX7_all 21 = .ok (.ifCond .ne 6, 3) := by decide +kernel
theorem dX7_all_24 : decode cX7_all 24 = .ok (.bipush (-2), 2) := by decide +kernel
theorem dX7_all_26 : decode cX7_all 26 = .ok (.ireturn, 1) := by decide +kernel
theorem dX7_all_27 : decode cX7_all 27 = .ok (.aload_n 0, 1) := by decide +kernel
theorem dX7_all_28 : decode cX7_all 28 = .ok (.getfield 30, 3) := by decide +kernel
theorem dX7_all_31 : decode cX7_all 31 = .ok (.iload_n 1, 1) := by decide +kernel
theorem dX7_all_32 : decode cX7_all 32 = .ok (.invokevirtual 147, 3) := by decide +kernel
theorem dX7_all_35 : decode cX7_all 35 = .ok (.aload_n 0, 1) := by decide +kernel
theorem dX7_all_36 : decode cX7_all 36 = .ok (.getfield 21, 3) := by decide +kernel
theorem dX7_all_39 : decode cX7_all 39 = .ok (.aload_n 0, 1) := by decide +kernel
theorem dX7_all_40 : decode cX7_all 40 = .ok (.getfield 30, 3) := by decide +kernel
theorem dX7_all_43 : decode cX7_all 43 = .ok (.iload_n 2, 1) := by decide +kernel
theorem dX7_all_44 : decode cX7_all 44 = .ok (.invokevirtual 150, 3) := by decide +kernel
theorem dX7_all_47 : decode cX7_all 47 = .ok (.invokevirtual 154, 3) := by decide +kernel
theorem dX7_all_50 : decode cX7_all 50 = .ok (.ireturn, 1) := by decide +kernel
set_option maxRecDepth 20000 in
theorem ggX7_payer_X7_isRound : GoodIn wsX7_payer wsX7_isRound := goodIn_r _ [8, 1, 9, 10, 11, 7, 12, 79, 80, 81, 82, 83, 84, 85, 86, 87, 88, 89, 90, 91, 92, 93, 94, 95, 96, 97] (by decide +kernel) (by decide +kernel)
set_option maxRecDepth 20000 in
theorem gX7_payer_X7_isRound : GoodIn wsX7_payer (wsV RX7 103 RX7 yX7_isRound wsX7_isRound) := goodIn_app (goodIn_of _ (by decide +kernel)) ggX7_payer_X7_isRound
set_option maxRecDepth 20000 in
theorem ggX7_payer_X7_isIn : GoodIn wsX7_payer wsX7_isIn := goodIn_r _ [12] (by decide +kernel) (by decide +kernel)
set_option maxRecDepth 20000 in
theorem gX7_payer_X7_isIn : GoodIn wsX7_payer (va_wsS RX7 72 yX7_isIn wsX7_isIn) := goodIn_app (goodIn_of _ (by decide +kernel)) ggX7_payer_X7_isIn
set_option maxRecDepth 20000 in
theorem ggX7_payer_X0_play : GoodIn wsX7_payer wsX0_play := goodIn_r _ [17, 18, 19, 20, 21, 22, 23, 24, 25, 26, 27, 28, 29, 30, 31, 32, 33, 34, 35, 36, 37, 16, 38, 39, 40, 41, 42, 43, 44, 45, 46, 47, 48, 49, 50, 51, 52, 53, 54, 55, 56, 57, 58, 59, 60, 61, 62, 63, 64, 65, 66, 67, 68, 69, 70, 71, 72, 73, 74, 75, 76, 87, 88, 89, 90, 91, 92, 93, 94, 95, 96, 97, 98, 99, 100, 101, 102, 103, 104, 105, 106] (by decide +kernel) (by decide +kernel)
set_option maxRecDepth 20000 in
theorem gX7_payer_X0_play : GoodIn wsX7_payer (wsV RX7 147 RX0 yX0_play wsX0_play) := goodIn_app (goodIn_of _ (by decide +kernel)) ggX7_payer_X0_play
set_option maxRecDepth 20000 in
theorem ggX7_payer_X0_seatedAt : GoodIn wsX7_payer wsX0_seatedAt := goodIn_r _ [57, 58, 87, 88, 89, 90, 91, 92, 93, 94, 95, 96, 97] (by decide +kernel) (by decide +kernel)
set_option maxRecDepth 20000 in
theorem gX7_payer_X0_seatedAt : GoodIn wsX7_payer (wsV RX7 161 RX0 yX0_seatedAt wsX0_seatedAt) := goodIn_app (goodIn_of _ (by decide +kernel)) ggX7_payer_X0_seatedAt
set_option maxRecDepth 20000 in
theorem ggX7_payer_X2_aheadBy : GoodIn wsX7_payer wsX2_aheadBy := goodIn_r _ [70, 63, 71, 98, 99, 100, 101, 102, 103, 104, 105, 106] (by decide +kernel) (by decide +kernel)
set_option maxRecDepth 20000 in
theorem gX7_payer_X2_aheadBy : GoodIn wsX7_payer (wsV RX7 164 RX2 yX2_aheadBy wsX2_aheadBy) := goodIn_app (goodIn_of _ (by decide +kernel)) ggX7_payer_X2_aheadBy
theorem dX7_payer_0 : decode cX7_payer 0 = .ok (.aload_n 0, 1) := by decide +kernel
theorem dX7_payer_1 : decode cX7_payer 1 = .ok (.iload_n 1, 1) := by decide +kernel
theorem dX7_payer_2 : decode cX7_payer 2 = .ok (.invokevirtual 103, 3) := by decide +kernel
theorem dX7_payer_5 : decode cX7_payer 5 = .ok (.ifCond .eq 12, 3) := by decide +kernel
theorem dX7_payer_8 : decode cX7_payer 8 = .ok (.iload_n 2, 1) := by decide +kernel
theorem dX7_payer_9 : decode cX7_payer 9 = .ok (.iconst 0, 1) := by decide +kernel
theorem dX7_payer_10 : decode cX7_payer 10 = .ok (.iconst 5, 1) := by decide +kernel
theorem dX7_payer_11 : decode cX7_payer 11 = .ok (.invokestatic 72, 3) := by decide +kernel
theorem dX7_payer_14 : decode cX7_payer 14 = .ok (.ifCond .ne 6, 3) := by decide +kernel
theorem dX7_payer_17 : decode cX7_payer 17 = .ok (.bipush (-2), 2) := by decide +kernel
theorem dX7_payer_19 : decode cX7_payer 19 = .ok (.ireturn, 1) := by decide +kernel
theorem dX7_payer_20 : decode cX7_payer 20 = .ok (.aload_n 0, 1) := by decide +kernel
theorem dX7_payer_21 : decode cX7_payer 21 = .ok (.getfield 30, 3) := by decide +kernel
theorem dX7_payer_24 : decode cX7_payer 24 = .ok (.iload_n 1, 1) := by decide +kernel
theorem dX7_payer_25 : decode cX7_payer 25 = .ok (.iconst 1, 1) := by decide +kernel
theorem dX7_payer_26 : decode cX7_payer 26 = .ok (.iadd, 1) := by decide +kernel
theorem dX7_payer_27 : decode cX7_payer 27 = .ok (.invokevirtual 147, 3) := by decide +kernel
theorem dX7_payer_30 : decode cX7_payer 30 = .ok (.aload_n 0, 1) := by decide +kernel
theorem dX7_payer_31 : decode cX7_payer 31 = .ok (.getfield 21, 3) := by decide +kernel
theorem dX7_payer_34 : decode cX7_payer 34 = .ok (.aload_n 0, 1) := by decide +kernel
theorem dX7_payer_35 : decode cX7_payer 35 = .ok (.getfield 30, 3) := by decide +kernel
theorem dX7_payer_38 : decode cX7_payer 38 = .ok (.getfield 158, 3) := by decide +kernel
theorem dX7_payer_41 : decode cX7_payer 41 = .ok (.aload_n 0, 1) := by decide +kernel
theorem dX7_payer_42 : decode cX7_payer 42 = .ok (.getfield 30, 3) := by decide +kernel
theorem dX7_payer_45 : decode cX7_payer 45 = .ok (.iload_n 1, 1) := by decide +kernel
theorem dX7_payer_46 : decode cX7_payer 46 = .ok (.iload_n 2, 1) := by decide +kernel
theorem dX7_payer_47 : decode cX7_payer 47 = .ok (.invokevirtual 161, 3) := by decide +kernel
theorem dX7_payer_50 : decode cX7_payer 50 = .ok (.invokevirtual 164, 3) := by decide +kernel
theorem dX7_payer_53 : decode cX7_payer 53 = .ok (.ireturn, 1) := by decide +kernel
set_option maxRecDepth 20000 in
theorem ggX7_beggars_X0_play : GoodIn wsX7_beggars wsX0_play := goodIn_r _ [11, 12, 13, 14, 15, 16, 17, 18, 19, 20, 21, 22, 23, 24, 25, 26, 27, 28, 29, 30, 31, 10, 32, 33, 34, 35, 36, 37, 38, 39, 40, 41, 42, 43, 44, 45, 46, 47, 48, 49, 50, 51, 52, 53, 54, 55, 56, 57, 58, 59, 60, 61, 62, 63, 64, 65, 66, 67, 68, 69, 70, 79, 80, 81, 82, 83, 84, 85, 86, 87, 88, 89, 90, 91, 92, 93, 94, 95, 96, 97, 98] (by decide +kernel) (by decide +kernel)
set_option maxRecDepth 20000 in
theorem gX7_beggars_X0_play : GoodIn wsX7_beggars (wsV RX7 147 RX0 yX0_play wsX0_play) := goodIn_app (goodIn_of _ (by decide +kernel)) ggX7_beggars_X0_play
theorem dX7_beggars_0 : decode cX7_beggars 0 = .ok (.aload_n 0, 1) := by decide +kernel
theorem dX7_beggars_1 : decode cX7_beggars 1 = .ok (.getfield 30, 3) := by decide +kernel
theorem dX7_beggars_4 : decode cX7_beggars 4 = .ok (.aload_n 0, 1) := by decide +kernel
theorem dX7_beggars_5 : decode cX7_beggars 5 = .ok (.getfield 30, 3) := by decide +kernel
theorem dX7_beggars_8 : decode cX7_beggars 8 = .ok (.getfield 144, 3) := by decide +kernel
theorem dX7_beggars_11 : decode cX7_beggars 11 = .ok (.invokevirtual 147, 3) := by decide +kernel
theorem dX7_beggars_14 : decode cX7_beggars 14 = .ok (.iconst 0, 1) := by decide +kernel
theorem dX7_beggars_15 : decode cX7_beggars 15 = .ok (.istore_n 1, 1) := by decide +kernel
theorem dX7_beggars_16 : decode cX7_beggars 16 = .ok (.iconst 0, 1) := by decide +kernel
theorem dX7_beggars_17 : decode cX7_beggars 17 = .ok (.istore_n 2, 1) := by decide +kernel
theorem dX7_beggars_18 : decode cX7_beggars 18 = .ok (.iload_n 2, 1) := by decide +kernel
theorem dX7_beggars_19 : decode cX7_beggars 19 = .ok (.aload_n 0, 1) := by decide +kernel
theorem dX7_beggars_20 : decode cX7_beggars 20 = .ok (.getfield 21, 3) := by decide +kernel
theorem dX7_beggars_23 : decode cX7_beggars 23 = .ok (.getfield 168, 3) := by decide +kernel
theorem dX7_beggars_26 : decode cX7_beggars 26 = .ok (.if_icmp .ge 39, 3) := by decide +kernel
theorem dX7_beggars_29 : decode cX7_beggars 29 = .ok (.aload_n 0, 1) := by decide +kernel
theorem dX7_beggars_30 : decode cX7_beggars 30 = .ok (.getfield 30, 3) := by decide +kernel
theorem dX7_beggars_33 : decode cX7_beggars 33 = .ok (.getfield 171, 3) := by decide +kernel
theorem dX7_beggars_36 : decode cX7_beggars 36 = .ok (.iload_n 2, 1) := by decide +kernel
theorem dX7_beggars_37 : decode cX7_beggars 37 = .ok (.iaload, 1) := by decide +kernel
theorem dX7_beggars_38 : decode cX7_beggars 38 = .ok (.ifCond .le 21, 3) := by decide +kernel
theorem dX7_beggars_41 : decode cX7_beggars 41 = .ok (.aload_n 0, 1) := by decide +kernel
theorem dX7_beggars_42 : decode cX7_beggars 42 = .ok (.getfield 30, 3) := by decide +kernel
theorem dX7_beggars_45 : decode cX7_beggars 45 = .ok (.getfield 174, 3) := by decide +kernel
theorem dX7_beggars_48 : decode cX7_beggars 48 = .ok (.iload_n 2, 1) := by decide +kernel
theorem dX7_beggars_49 : decode cX7_beggars 49 = .ok (.iaload, 1) := by decide +kernel
theorem dX7_beggars_50 : decode cX7_beggars 50 = .ok (.ifCond .ne 9, 3) := by decide +kernel
theorem dX7_beggars_53 : decode cX7_beggars 53 = .ok (.iload_n 1, 1) := by decide +kernel
theorem dX7_beggars_54 : decode cX7_beggars 54 = .ok (.iconst 1, 1) := by decide +kernel
theorem dX7_beggars_55 : decode cX7_beggars 55 = .ok (.iload_n 2, 1) := by decide +kernel
theorem dX7_beggars_56 : decode cX7_beggars 56 = .ok (.ishl, 1) := by decide +kernel
theorem dX7_beggars_57 : decode cX7_beggars 57 = .ok (.ior, 1) := by decide +kernel
theorem dX7_beggars_58 : decode cX7_beggars 58 = .ok (.istore_n 1, 1) := by decide +kernel
theorem dX7_beggars_59 : decode cX7_beggars 59 = .ok (.iinc 2 1, 3) := by decide +kernel
theorem dX7_beggars_62 : decode cX7_beggars 62 = .ok (.goto (-44), 3) := by decide +kernel
theorem dX7_beggars_65 : decode cX7_beggars 65 = .ok (.iload_n 1, 1) := by decide +kernel
theorem dX7_beggars_66 : decode cX7_beggars 66 = .ok (.ireturn, 1) := by decide +kernel
set_option maxRecDepth 20000 in
theorem ggX7_best_X7_isRound : GoodIn wsX7_best wsX7_isRound := goodIn_r _ [7, 8, 9, 10, 11, 6, 12, 77, 78, 79, 80, 81, 82, 83, 84, 85, 86, 87, 88, 89, 90, 91, 92, 93, 94, 95] (by decide +kernel) (by decide +kernel)
set_option maxRecDepth 20000 in
theorem gX7_best_X7_isRound : GoodIn wsX7_best (wsV RX7 103 RX7 yX7_isRound wsX7_isRound) := goodIn_app (goodIn_of _ (by decide +kernel)) ggX7_best_X7_isRound
set_option maxRecDepth 20000 in
theorem ggX7_best_X7_isPerson : GoodIn wsX7_best wsX7_isPerson := goodIn_r _ [16, 17, 18, 10, 11, 6, 12, 77, 78, 79, 80, 81, 82, 83, 84, 96, 97, 98, 99, 100, 101, 102, 103, 104] (by decide +kernel) (by decide +kernel)
set_option maxRecDepth 20000 in
theorem gX7_best_X7_isPerson : GoodIn wsX7_best (wsV RX7 93 RX7 yX7_isPerson wsX7_isPerson) := goodIn_app (goodIn_of _ (by decide +kernel)) ggX7_best_X7_isPerson
set_option maxRecDepth 20000 in
theorem ggX7_best_X7_isIn : GoodIn wsX7_best wsX7_isIn := goodIn_r _ [12] (by decide +kernel) (by decide +kernel)
set_option maxRecDepth 20000 in
theorem gX7_best_X7_isIn : GoodIn wsX7_best (va_wsS RX7 72 yX7_isIn wsX7_isIn) := goodIn_app (goodIn_of _ (by decide +kernel)) ggX7_best_X7_isIn
set_option maxRecDepth 20000 in
theorem ggX7_best_X3_findBest : GoodIn wsX7_best wsX3_findBest := goodIn_r _ [23, 24, 25, 26, 27, 28, 29, 30, 31, 32, 33, 34, 35, 36, 37, 38, 39, 40, 41, 42, 43, 44, 45, 46, 47, 48, 49, 50, 51, 52, 53, 54, 55, 56, 57, 58, 59, 60, 61, 62, 63, 64, 65, 66, 67, 68, 69, 70, 71, 72, 105, 106, 107, 108, 109, 110, 111, 112, 113, 114, 96, 97, 98, 99, 100, 101, 102, 103, 104, 85, 86, 87, 88, 89, 90, 91, 92, 93, 94, 95] (by decide +kernel) (by decide +kernel)
set_option maxRecDepth 20000 in
theorem gX7_best_X3_findBest : GoodIn wsX7_best (wsV RX7 178 RX3 yX3_findBest wsX3_findBest) := goodIn_app (goodIn_of _ (by decide +kernel)) ggX7_best_X3_findBest
set_option maxRecDepth 20000 in
theorem ggX7_best_X3_bestTold : GoodIn wsX7_best wsX3_bestTold := goodIn_r _ [76, 24, 25, 26, 105, 106, 107, 108, 109, 110, 111, 112, 113, 114] (by decide +kernel) (by decide +kernel)
set_option maxRecDepth 20000 in
theorem gX7_best_X3_bestTold : GoodIn wsX7_best (wsV RX7 182 RX3 yX3_bestTold wsX3_bestTold) := goodIn_app (goodIn_of _ (by decide +kernel)) ggX7_best_X3_bestTold
theorem dX7_best_0 : decode cX7_best 0 = .ok (.aload_n 0, 1) := by decide +kernel
theorem dX7_best_1 : decode cX7_best 1 = .ok (.iload_n 1, 1) := by decide +kernel
theorem dX7_best_2 : decode cX7_best 2 = .ok (.invokevirtual 103, 3) := by decide +kernel
theorem dX7_best_5 : decode cX7_best 5 = .ok (.ifCond .eq 20, 3) := by decide +kernel
theorem dX7_best_8 : decode cX7_best 8 = .ok (.aload_n 0, 1) := by decide +kernel
theorem dX7_best_9 : decode cX7_best 9 = .ok (.iload_n 2, 1) := by decide +kernel
theorem dX7_best_10 : decode cX7_best 10 = .ok (.invokevirtual 93, 3) := by decide +kernel
theorem dX7_best_13 : decode cX7_best 13 = .ok (.ifCond .eq 12, 3) := by decide +kernel
theorem dX7_best_16 : decode cX7_best 16 = .ok (.iload_n 3, 1) := by decide +kernel
theorem dX7_best_17 : decode cX7_best 17 = .ok (.iconst 0, 1) := by decide +kernel
theorem dX7_best_18 : decode cX7_best 18 = .ok (.iconst 2, 1) := by decide +kernel
theorem dX7_best_19 : decode cX7_best 19 = .ok (.invokestatic 72, 3) := by decide +kernel
theorem dX7_best_22 : decode cX7_best 22 = .ok (.ifCond .ne 6, 3) := by decide +kernel
theorem dX7_best_25 : decode cX7_best 25 = .ok (.ldc 177, 2) := by decide +kernel
theorem dX7_best_27 : decode cX7_best 27 = .ok (.ireturn, 1) := by decide +kernel
theorem dX7_best_28 : decode cX7_best 28 = .ok (.aload_n 0, 1) := by decide +kernel
theorem dX7_best_29 : decode cX7_best 29 = .ok (.getfield 39, 3) := by decide +kernel
theorem dX7_best_32 : decode cX7_best 32 = .ok (.iload_n 1, 1) := by decide +kernel
theorem dX7_best_33 : decode cX7_best 33 = .ok (.iload_n 2, 1) := by decide +kernel
theorem dX7_best_34 : decode cX7_best 34 = .ok (.invokevirtual 178, 3) := by decide +kernel
theorem dX7_best_37 : decode cX7_best 37 = .ok (.aload_n 0, 1) := by decide +kernel
theorem dX7_best_38 : decode cX7_best 38 = .ok (.getfield 39, 3) := by decide +kernel
theorem dX7_best_41 : decode cX7_best 41 = .ok (.iload_n 3, 1) := by decide +kernel
theorem dX7_best_42 : decode cX7_best 42 = .ok (.invokevirtual 182, 3) := by decide +kernel
theorem dX7_best_45 : decode cX7_best 45 = .ok (.ireturn, 1) := by decide +kernel
set_option maxRecDepth 20000 in
theorem ggX7_rest_X7_isPerson : GoodIn wsX7_rest wsX7_isPerson := goodIn_r _ [7, 8, 9, 10, 11, 6, 12, 78, 79, 80, 81, 82, 83, 84, 85, 96, 97, 98, 99, 100, 101, 102, 103, 104] (by decide +kernel) (by decide +kernel)
set_option maxRecDepth 20000 in
theorem gX7_rest_X7_isPerson : GoodIn wsX7_rest (wsV RX7 93 RX7 yX7_isPerson wsX7_isPerson) := goodIn_app (goodIn_of _ (by decide +kernel)) ggX7_rest_X7_isPerson
set_option maxRecDepth 20000 in
theorem ggX7_rest_X3_findRests : GoodIn wsX7_rest wsX3_findRests := goodIn_r _ [17, 18, 19, 20, 21, 22, 23, 24, 16, 25, 26, 27, 28, 29, 30, 31, 32, 33, 34, 35, 36, 37, 38, 39, 40, 41, 42, 43, 44, 45, 46, 47, 48, 49, 50, 51, 52, 53, 54, 55, 56, 57, 58, 59, 60, 61, 62, 63, 64, 65, 66, 67, 68, 69, 70, 71, 72, 73, 86, 87, 88, 89, 90, 91, 92, 93, 94, 95, 96, 97, 98, 99, 100, 101, 102, 103, 104] (by decide +kernel) (by decide +kernel)
set_option maxRecDepth 20000 in
theorem gX7_rest_X3_findRests : GoodIn wsX7_rest (wsV RX7 185 RX3 yX3_findRests wsX3_findRests) := goodIn_app (goodIn_of _ (by decide +kernel)) ggX7_rest_X3_findRests
set_option maxRecDepth 20000 in
theorem ggX7_rest_X3_firstRestTable : GoodIn wsX7_rest wsX3_firstRestTable := goodIn_r _ [77, 19, 66, 67, 68, 16, 69, 20, 21, 86, 87, 88, 89, 90, 91, 92, 93, 94, 95, 96, 97, 98, 99, 100, 101, 102, 103, 104] (by decide +kernel) (by decide +kernel)
set_option maxRecDepth 20000 in
theorem gX7_rest_X3_firstRestTable : GoodIn wsX7_rest (wsV RX7 191 RX3 yX3_firstRestTable wsX3_firstRestTable) := goodIn_app (goodIn_of _ (by decide +kernel)) ggX7_rest_X3_firstRestTable
theorem dX7_rest_0 : decode cX7_rest 0 = .ok (.iload_n 1, 1) := by decide +kernel
theorem dX7_rest_1 : decode cX7_rest 1 = .ok (.iconst (-1), 1) := by decide +kernel
theorem dX7_rest_2 : decode cX7_rest 2 = .ok (.if_icmp .eq 14, 3) := by decide +kernel
theorem dX7_rest_5 : decode cX7_rest 5 = .ok (.aload_n 0, 1) := by decide +kernel
theorem dX7_rest_6 : decode cX7_rest 6 = .ok (.iload_n 1, 1) := by decide +kernel
theorem dX7_rest_7 : decode cX7_rest 7 = .ok (.invokevirtual 93, 3) := by decide +kernel
theorem dX7_rest_10 : decode cX7_rest 10 = .ok (.ifCond .ne 6, 3) := by decide +kernel
theorem dX7_rest_13 : decode cX7_rest 13 = .ok (.bipush (-2), 2) := by decide +kernel
theorem dX7_rest_15 : decode cX7_rest 15 = .ok (.ireturn, 1) := by decide +kernel
theorem dX7_rest_16 : decode cX7_rest 16 = .ok (.aload_n 0, 1) := by decide +kernel
theorem dX7_rest_17 : decode cX7_rest 17 = .ok (.getfield 39, 3) := by decide +kernel
theorem dX7_rest_20 : decode cX7_rest 20 = .ok (.invokevirtual 185, 3) := by decide +kernel
theorem dX7_rest_23 : decode cX7_rest 23 = .ok (.iload_n 1, 1) := by decide +kernel
theorem dX7_rest_24 : decode cX7_rest 24 = .ok (.iconst (-1), 1) := by decide +kernel
theorem dX7_rest_25 : decode cX7_rest 25 = .ok (.if_icmp .ne 13, 3) := by decide +kernel
theorem dX7_rest_28 : decode cX7_rest 28 = .ok (.aload_n 0, 1) := by decide +kernel
theorem dX7_rest_29 : decode cX7_rest 29 = .ok (.getfield 39, 3) := by decide +kernel
theorem dX7_rest_32 : decode cX7_rest 32 = .ok (.getfield 188, 3) := by decide +kernel
theorem dX7_rest_35 : decode cX7_rest 35 = .ok (.goto 11, 3) := by decide +kernel
theorem dX7_rest_38 : decode cX7_rest 38 = .ok (.aload_n 0, 1) := by decide +kernel
theorem dX7_rest_39 : decode cX7_rest 39 = .ok (.getfield 39, 3) := by decide +kernel
theorem dX7_rest_42 : decode cX7_rest 42 = .ok (.iload_n 1, 1) := by decide +kernel
theorem dX7_rest_43 : decode cX7_rest 43 = .ok (.invokevirtual 191, 3) := by decide +kernel
theorem dX7_rest_46 : decode cX7_rest 46 = .ok (.ireturn, 1) := by decide +kernel
set_option maxRecDepth 20000 in
theorem ggX7_down_X7_isPerson : GoodIn wsX7_down wsX7_isPerson := goodIn_r _ [6, 7, 8, 9, 10, 5, 11, 83, 84, 85, 86, 87, 88, 89, 90, 91, 92, 93, 94, 95, 96, 97, 98, 99] (by decide +kernel) (by decide +kernel)
set_option maxRecDepth 20000 in
theorem gX7_down_X7_isPerson : GoodIn wsX7_down (wsV RX7 93 RX7 yX7_isPerson wsX7_isPerson) := goodIn_app (goodIn_of _ (by decide +kernel)) ggX7_down_X7_isPerson
set_option maxRecDepth 20000 in
theorem ggX7_down_X7_isIn : GoodIn wsX7_down wsX7_isIn := goodIn_r _ [11] (by decide +kernel) (by decide +kernel)
set_option maxRecDepth 20000 in
theorem gX7_down_X7_isIn : GoodIn wsX7_down (va_wsS RX7 72 yX7_isIn wsX7_isIn) := goodIn_app (goodIn_of _ (by decide +kernel)) ggX7_down_X7_isIn
set_option maxRecDepth 20000 in
theorem ggX7_down_X1_follow : GoodIn wsX7_down wsX1_follow := goodIn_r _ [16, 17, 18, 19, 20, 21, 22, 23, 24, 25, 26, 27, 28, 29, 30, 31, 32, 33, 34, 35, 36, 37, 38, 39, 40, 15, 41, 42, 43, 44, 45, 46, 47, 48, 49, 50, 51, 52, 53, 54, 55, 56, 57, 58, 59, 60, 61, 62, 63, 64, 65, 66, 67, 68, 69, 70, 100, 101, 102, 103, 91, 92, 93, 94, 95, 96, 97, 98, 99] (by decide +kernel) (by decide +kernel)
set_option maxRecDepth 20000 in
theorem gX7_down_X1_follow : GoodIn wsX7_down (wsV RX7 194 RX1 yX1_follow wsX1_follow) := goodIn_app (goodIn_of _ (by decide +kernel)) ggX7_down_X1_follow
set_option maxRecDepth 20000 in
theorem ggX7_down_X1_fewestDown : GoodIn wsX7_down wsX1_fewestDown := goodIn_r _ [74, 75, 76, 77, 15, 78, 20, 22, 79, 80, 81, 82, 17, 18, 46, 47, 48, 100, 101, 102, 103, 91, 92, 93, 94, 95, 96, 97, 98, 99] (by decide +kernel) (by decide +kernel)
set_option maxRecDepth 20000 in
theorem gX7_down_X1_fewestDown : GoodIn wsX7_down (wsV RX7 197 RX1 yX1_fewestDown wsX1_fewestDown) := goodIn_app (goodIn_of _ (by decide +kernel)) ggX7_down_X1_fewestDown
theorem dX7_down_0 : decode cX7_down 0 = .ok (.aload_n 0, 1) := by decide +kernel
theorem dX7_down_1 : decode cX7_down 1 = .ok (.iload_n 1, 1) := by decide +kernel
theorem dX7_down_2 : decode cX7_down 2 = .ok (.invokevirtual 93, 3) := by decide +kernel
theorem dX7_down_5 : decode cX7_down 5 = .ok (.ifCond .eq 13, 3) := by decide +kernel
theorem dX7_down_8 : decode cX7_down 8 = .ok (.iload_n 2, 1) := by decide +kernel
theorem dX7_down_9 : decode cX7_down 9 = .ok (.iconst 0, 1) := by decide +kernel
theorem dX7_down_10 : decode cX7_down 10 = .ok (.bipush 99, 2) := by decide +kernel
theorem dX7_down_12 : decode cX7_down 12 = .ok (.invokestatic 72, 3) := by decide +kernel
theorem dX7_down_15 : decode cX7_down 15 = .ok (.ifCond .ne 6, 3) := by decide +kernel
theorem dX7_down_18 : decode cX7_down 18 = .ok (.bipush (-2), 2) := by decide +kernel
theorem dX7_down_20 : decode cX7_down 20 = .ok (.ireturn, 1) := by decide +kernel
theorem dX7_down_21 : decode cX7_down 21 = .ok (.aload_n 0, 1) := by decide +kernel
theorem dX7_down_22 : decode cX7_down 22 = .ok (.getfield 46, 3) := by decide +kernel
theorem dX7_down_25 : decode cX7_down 25 = .ok (.invokevirtual 194, 3) := by decide +kernel
theorem dX7_down_28 : decode cX7_down 28 = .ok (.aload_n 0, 1) := by decide +kernel
theorem dX7_down_29 : decode cX7_down 29 = .ok (.getfield 46, 3) := by decide +kernel
theorem dX7_down_32 : decode cX7_down 32 = .ok (.iload_n 1, 1) := by decide +kernel
theorem dX7_down_33 : decode cX7_down 33 = .ok (.iload_n 2, 1) := by decide +kernel
theorem dX7_down_34 : decode cX7_down 34 = .ok (.invokevirtual 197, 3) := by decide +kernel
theorem dX7_down_37 : decode cX7_down 37 = .ok (.ireturn, 1) := by decide +kernel
set_option maxRecDepth 20000 in
theorem ggX7_alike_X1_follow : GoodIn wsX7_alike wsX1_follow := goodIn_r _ [6, 7, 8, 9, 10, 11, 12, 13, 14, 15, 16, 17, 18, 19, 20, 21, 22, 23, 24, 25, 26, 27, 28, 29, 30, 5, 31, 32, 33, 34, 35, 36, 37, 38, 39, 40, 41, 42, 43, 44, 45, 46, 47, 48, 49, 50, 51, 52, 53, 54, 55, 56, 57, 58, 59, 60, 81, 82, 83, 84, 85, 86, 87, 88, 89, 90, 91, 92, 93] (by decide +kernel) (by decide +kernel)
set_option maxRecDepth 20000 in
theorem gX7_alike_X1_follow : GoodIn wsX7_alike (wsV RX7 194 RX1 yX1_follow wsX1_follow) := goodIn_app (goodIn_of _ (by decide +kernel)) ggX7_alike_X1_follow
set_option maxRecDepth 20000 in
theorem ggX7_alike_X1_fewestAlike : GoodIn wsX7_alike wsX1_fewestAlike := goodIn_r _ [64, 65, 66, 67, 5, 68, 10, 12, 69, 70, 71, 72, 7, 8, 36, 37, 38, 81, 82, 83, 84, 85, 86, 87, 88, 89, 90, 91, 92, 93] (by decide +kernel) (by decide +kernel)
set_option maxRecDepth 20000 in
theorem gX7_alike_X1_fewestAlike : GoodIn wsX7_alike (wsV RX7 200 RX1 yX1_fewestAlike wsX1_fewestAlike) := goodIn_app (goodIn_of _ (by decide +kernel)) ggX7_alike_X1_fewestAlike
theorem dX7_alike_0 : decode cX7_alike 0 = .ok (.aload_n 0, 1) := by decide +kernel
theorem dX7_alike_1 : decode cX7_alike 1 = .ok (.getfield 46, 3) := by decide +kernel
theorem dX7_alike_4 : decode cX7_alike 4 = .ok (.invokevirtual 194, 3) := by decide +kernel
theorem dX7_alike_7 : decode cX7_alike 7 = .ok (.aload_n 0, 1) := by decide +kernel
theorem dX7_alike_8 : decode cX7_alike 8 = .ok (.getfield 46, 3) := by decide +kernel
theorem dX7_alike_11 : decode cX7_alike 11 = .ok (.invokevirtual 200, 3) := by decide +kernel
theorem dX7_alike_14 : decode cX7_alike 14 = .ok (.ireturn, 1) := by decide +kernel
set_option maxRecDepth 20000 in
theorem ggX7_dark_X7_isRound : GoodIn wsX7_dark wsX7_isRound := goodIn_r _ [7, 1, 8, 9, 10, 6, 11, 71, 72, 73, 74, 75, 76, 77, 78, 79, 80, 81, 82, 83, 84, 85, 86, 87, 88, 89] (by decide +kernel) (by decide +kernel)
set_option maxRecDepth 20000 in
theorem gX7_dark_X7_isRound : GoodIn wsX7_dark (wsV RX7 103 RX7 yX7_isRound wsX7_isRound) := goodIn_app (goodIn_of _ (by decide +kernel)) ggX7_dark_X7_isRound
set_option maxRecDepth 20000 in
theorem ggX7_dark_X7_isPerson : GoodIn wsX7_dark wsX7_isPerson := goodIn_r _ [15, 16, 17, 9, 10, 6, 11, 71, 72, 73, 74, 75, 76, 77, 78, 90, 91, 92, 93, 94, 95, 96, 97, 98] (by decide +kernel) (by decide +kernel)
set_option maxRecDepth 20000 in
theorem gX7_dark_X7_isPerson : GoodIn wsX7_dark (wsV RX7 93 RX7 yX7_isPerson wsX7_isPerson) := goodIn_app (goodIn_of _ (by decide +kernel)) ggX7_dark_X7_isPerson
set_option maxRecDepth 20000 in
theorem ggX7_dark_X0_tableOf : GoodIn wsX7_dark wsX0_tableOf := goodIn_r _ [22, 23, 79, 80, 81, 82, 83, 84, 85, 86, 87, 88, 89] (by decide +kernel) (by decide +kernel)
set_option maxRecDepth 20000 in
theorem gX7_dark_X0_tableOf : GoodIn wsX7_dark (wsV RX7 106 RX0 yX0_tableOf wsX0_tableOf) := goodIn_app (goodIn_of _ (by decide +kernel)) ggX7_dark_X0_tableOf
set_option maxRecDepth 20000 in
theorem ggX7_dark_X0_seatedAt : GoodIn wsX7_dark wsX0_seatedAt := goodIn_r _ [27, 28, 79, 80, 81, 82, 83, 84, 85, 86, 87, 88, 89] (by decide +kernel) (by decide +kernel)
set_option maxRecDepth 20000 in
theorem gX7_dark_X0_seatedAt : GoodIn wsX7_dark (wsV RX7 161 RX0 yX0_seatedAt wsX0_seatedAt) := goodIn_app (goodIn_of _ (by decide +kernel)) ggX7_dark_X0_seatedAt
set_option maxRecDepth 20000 in
theorem ggX7_dark_X4_leastPassed : GoodIn wsX7_dark wsX4_leastPassed := goodIn_r _ [33, 34, 35, 36, 37, 38, 39, 40, 41, 42, 43, 44, 45, 46, 47, 48, 49, 50, 51, 52, 53, 54, 55, 56, 57, 58, 59, 60, 61, 62, 63, 64, 65, 66, 67, 68, 69, 70, 99, 100, 101, 102, 103, 104, 105, 90, 91, 92, 93, 94, 95, 96, 97, 98] (by decide +kernel) (by decide +kernel)
set_option maxRecDepth 20000 in
theorem gX7_dark_X4_leastPassed : GoodIn wsX7_dark (wsV RX7 204 RX4 yX4_leastPassed wsX4_leastPassed) := goodIn_app (goodIn_of _ (by decide +kernel)) ggX7_dark_X4_leastPassed
theorem dX7_dark_0 : decode cX7_dark 0 = .ok (.aload_n 0, 1) := by decide +kernel
theorem dX7_dark_1 : decode cX7_dark 1 = .ok (.iload_n 1, 1) := by decide +kernel
theorem dX7_dark_2 : decode cX7_dark 2 = .ok (.invokevirtual 103, 3) := by decide +kernel
theorem dX7_dark_5 : decode cX7_dark 5 = .ok (.ifCond .eq 24, 3) := by decide +kernel
theorem dX7_dark_8 : decode cX7_dark 8 = .ok (.aload_n 0, 1) := by decide +kernel
theorem dX7_dark_9 : decode cX7_dark 9 = .ok (.iload_n 2, 1) := by decide +kernel
theorem dX7_dark_10 : decode cX7_dark 10 = .ok (.invokevirtual 93, 3) := by decide +kernel
theorem dX7_dark_13 : decode cX7_dark 13 = .ok (.ifCond .eq 16, 3) := by decide +kernel
theorem dX7_dark_16 : decode cX7_dark 16 = .ok (.aload_n 0, 1) := by decide +kernel
theorem dX7_dark_17 : decode cX7_dark 17 = .ok (.iload_n 3, 1) := by decide +kernel
theorem dX7_dark_18 : decode cX7_dark 18 = .ok (.invokevirtual 93, 3) := by decide +kernel
theorem dX7_dark_21 : decode cX7_dark 21 = .ok (.ifCond .eq 8, 3) := by decide +kernel
theorem dX7_dark_24 : decode cX7_dark 24 = .ok (.iload_n 2, 1) := by decide +kernel
theorem dX7_dark_25 : decode cX7_dark 25 = .ok (.iload_n 3, 1) := by decide +kernel
theorem dX7_dark_26 : decode cX7_dark 26 = .ok (.if_icmp .ne 6, 3) := by decide +kernel
theorem dX7_dark_29 : decode cX7_dark 29 = .ok (.bipush (-2), 2) := by decide +kernel
theorem dX7_dark_31 : decode cX7_dark 31 = .ok (.ireturn, 1) := by decide +kernel
theorem dX7_dark_32 : decode cX7_dark 32 = .ok (.aload_n 0, 1) := by decide +kernel
theorem dX7_dark_33 : decode cX7_dark 33 = .ok (.getfield 30, 3) := by decide +kernel
theorem dX7_dark_36 : decode cX7_dark 36 = .ok (.iload_n 1, 1) := by decide +kernel
theorem dX7_dark_37 : decode cX7_dark 37 = .ok (.iload_n 2, 1) := by decide +kernel
theorem dX7_dark_38 : decode cX7_dark 38 = .ok (.invokevirtual 106, 3) := by decide +kernel
theorem dX7_dark_41 : decode cX7_dark 41 = .ok (.istore 4, 2) := by decide +kernel
theorem dX7_dark_43 : decode cX7_dark 43 = .ok (.iload 4, 2) := by decide +kernel
theorem dX7_dark_45 : decode cX7_dark 45 = .ok (.iconst (-1), 1) := by decide +kernel
theorem dX7_dark_46 : decode cX7_dark 46 = .ok (.if_icmp .eq 17, 3) := by decide +kernel
theorem dX7_dark_49 : decode cX7_dark 49 = .ok (.iload 4, 2) := by decide +kernel
theorem dX7_dark_51 : decode cX7_dark 51 = .ok (.aload_n 0, 1) := by decide +kernel
theorem dX7_dark_52 : decode cX7_dark 52 = .ok (.getfield 30, 3) := by decide +kernel
theorem dX7_dark_55 : decode cX7_dark 55 = .ok (.iload_n 1, 1) := by decide +kernel
theorem dX7_dark_56 : decode cX7_dark 56 = .ok (.iload_n 3, 1) := by decide +kernel
theorem dX7_dark_57 : decode cX7_dark 57 = .ok (.invokevirtual 106, 3) := by decide +kernel
theorem dX7_dark_60 : decode cX7_dark 60 = .ok (.if_icmp .eq 6, 3) := by decide +kernel
theorem dX7_dark_63 : decode cX7_dark 63 = .ok (.bipush (-3), 2) := by decide +kernel
theorem dX7_dark_65 : decode cX7_dark 65 = .ok (.ireturn, 1) := by decide +kernel
theorem dX7_dark_66 : decode cX7_dark 66 = .ok (.aload_n 0, 1) := by decide +kernel
theorem dX7_dark_67 : decode cX7_dark 67 = .ok (.getfield 53, 3) := by decide +kernel
theorem dX7_dark_70 : decode cX7_dark 70 = .ok (.aload_n 0, 1) := by decide +kernel
theorem dX7_dark_71 : decode cX7_dark 71 = .ok (.getfield 30, 3) := by decide +kernel
theorem dX7_dark_74 : decode cX7_dark 74 = .ok (.iload_n 1, 1) := by decide +kernel
theorem dX7_dark_75 : decode cX7_dark 75 = .ok (.iload 4, 2) := by decide +kernel
theorem dX7_dark_77 : decode cX7_dark 77 = .ok (.invokevirtual 161, 3) := by decide +kernel
theorem dX7_dark_80 : decode cX7_dark 80 = .ok (.iload_n 2, 1) := by decide +kernel
theorem dX7_dark_81 : decode cX7_dark 81 = .ok (.iload_n 3, 1) := by decide +kernel
theorem dX7_dark_82 : decode cX7_dark 82 = .ok (.invokevirtual 204, 3) := by decide +kernel
theorem dX7_dark_85 : decode cX7_dark 85 = .ok (.ireturn, 1) := by decide +kernel
set_option maxRecDepth 20000 in
theorem ggX7_seen_X7_isIn : GoodIn wsX7_seen wsX7_isIn := goodIn_r _ [6] (by decide +kernel) (by decide +kernel)
set_option maxRecDepth 20000 in
theorem gX7_seen_X7_isIn : GoodIn wsX7_seen (va_wsS RX7 72 yX7_isIn wsX7_isIn) := goodIn_app (goodIn_of _ (by decide +kernel)) ggX7_seen_X7_isIn
set_option maxRecDepth 20000 in
theorem ggX7_seen_X4_remember : GoodIn wsX7_seen wsX4_remember := goodIn_r _ [11, 12, 13, 14, 15, 24, 25, 26, 27, 28, 29, 30] (by decide +kernel) (by decide +kernel)
set_option maxRecDepth 20000 in
theorem gX7_seen_X4_remember : GoodIn wsX7_seen (wsV RX7 211 RX4 yX4_remember wsX4_remember) := goodIn_app (goodIn_of _ (by decide +kernel)) ggX7_seen_X4_remember
theorem dX7_seen_0 : decode cX7_seen 0 = .ok (.iload_n 1, 1) := by decide +kernel
theorem dX7_seen_1 : decode cX7_seen 1 = .ok (.iconst 0, 1) := by decide +kernel
theorem dX7_seen_2 : decode cX7_seen 2 = .ok (.bipush 7, 2) := by decide +kernel
theorem dX7_seen_4 : decode cX7_seen 4 = .ok (.invokestatic 72, 3) := by decide +kernel
theorem dX7_seen_7 : decode cX7_seen 7 = .ok (.ifCond .eq 22, 3) := by decide +kernel
theorem dX7_seen_10 : decode cX7_seen 10 = .ok (.iload_n 2, 1) := by decide +kernel
theorem dX7_seen_11 : decode cX7_seen 11 = .ok (.iconst 0, 1) := by decide +kernel
theorem dX7_seen_12 : decode cX7_seen 12 = .ok (.iconst 5, 1) := by decide +kernel
theorem dX7_seen_13 : decode cX7_seen 13 = .ok (.invokestatic 72, 3) := by decide +kernel
theorem dX7_seen_16 : decode cX7_seen 16 = .ok (.ifCond .eq 13, 3) := by decide +kernel
theorem dX7_seen_19 : decode cX7_seen 19 = .ok (.iload_n 3, 1) := by decide +kernel
theorem dX7_seen_20 : decode cX7_seen 20 = .ok (.iconst 0, 1) := by decide +kernel
theorem dX7_seen_21 : decode cX7_seen 21 = .ok (.bipush 99, 2) := by decide +kernel
theorem dX7_seen_23 : decode cX7_seen 23 = .ok (.invokestatic 72, 3) := by decide +kernel
theorem dX7_seen_26 : decode cX7_seen 26 = .ok (.ifCond .ne 6, 3) := by decide +kernel
theorem dX7_seen_29 : decode cX7_seen 29 = .ok (.bipush (-2), 2) := by decide +kernel
theorem dX7_seen_31 : decode cX7_seen 31 = .ok (.ireturn, 1) := by decide +kernel
theorem dX7_seen_32 : decode cX7_seen 32 = .ok (.aload_n 0, 1) := by decide +kernel
theorem dX7_seen_33 : decode cX7_seen 33 = .ok (.getfield 53, 3) := by decide +kernel
theorem dX7_seen_36 : decode cX7_seen 36 = .ok (.getfield 208, 3) := by decide +kernel
theorem dX7_seen_39 : decode cX7_seen 39 = .ok (.bipush 8, 2) := by decide +kernel
theorem dX7_seen_41 : decode cX7_seen 41 = .ok (.if_icmp .lt 6, 3) := by decide +kernel
theorem dX7_seen_44 : decode cX7_seen 44 = .ok (.bipush (-4), 2) := by decide +kernel
theorem dX7_seen_46 : decode cX7_seen 46 = .ok (.ireturn, 1) := by decide +kernel
theorem dX7_seen_47 : decode cX7_seen 47 = .ok (.aload_n 0, 1) := by decide +kernel
theorem dX7_seen_48 : decode cX7_seen 48 = .ok (.getfield 53, 3) := by decide +kernel
theorem dX7_seen_51 : decode cX7_seen 51 = .ok (.iload_n 1, 1) := by decide +kernel
theorem dX7_seen_52 : decode cX7_seen 52 = .ok (.iload_n 2, 1) := by decide +kernel
theorem dX7_seen_53 : decode cX7_seen 53 = .ok (.iload_n 3, 1) := by decide +kernel
theorem dX7_seen_54 : decode cX7_seen 54 = .ok (.invokevirtual 211, 3) := by decide +kernel
theorem dX7_seen_57 : decode cX7_seen 57 = .ok (.aload_n 0, 1) := by decide +kernel
theorem dX7_seen_58 : decode cX7_seen 58 = .ok (.getfield 53, 3) := by decide +kernel
theorem dX7_seen_61 : decode cX7_seen 61 = .ok (.getfield 208, 3) := by decide +kernel
theorem dX7_seen_64 : decode cX7_seen 64 = .ok (.ireturn, 1) := by decide +kernel
theorem dX7_forget_0 : decode cX7_forget 0 = .ok (.aload_n 0, 1) := by decide +kernel
theorem dX7_forget_1 : decode cX7_forget 1 = .ok (.getfield 53, 3) := by decide +kernel
theorem dX7_forget_4 : decode cX7_forget 4 = .ok (.getfield 208, 3) := by decide +kernel
theorem dX7_forget_7 : decode cX7_forget 7 = .ok (.istore_n 1, 1) := by decide +kernel
theorem dX7_forget_8 : decode cX7_forget 8 = .ok (.aload_n 0, 1) := by decide +kernel
theorem dX7_forget_9 : decode cX7_forget 9 = .ok (.getfield 53, 3) := by decide +kernel
theorem dX7_forget_12 : decode cX7_forget 12 = .ok (.iconst 0, 1) := by decide +kernel
theorem dX7_forget_13 : decode cX7_forget 13 = .ok (.putfield 208, 3) := by decide +kernel
theorem dX7_forget_16 : decode cX7_forget 16 = .ok (.iload_n 1, 1) := by decide +kernel
theorem dX7_forget_17 : decode cX7_forget 17 = .ok (.ireturn, 1) := by decide +kernel
set_option maxRecDepth 20000 in
theorem ggX7_unlike_X0_play : GoodIn wsX7_unlike wsX0_play := goodIn_r _ [8, 9, 10, 11, 12, 13, 14, 15, 16, 17, 18, 19, 20, 21, 22, 23, 24, 25, 26, 27, 28, 7, 29, 30, 31, 32, 33, 34, 35, 36, 37, 38, 39, 40, 41, 42, 43, 44, 45, 46, 47, 48, 49, 50, 51, 52, 53, 54, 55, 56, 57, 58, 59, 60, 61, 62, 63, 64, 65, 66, 67, 94, 95, 96, 97, 98, 99, 100, 101, 102, 103, 104, 105, 106, 107, 108, 109, 110, 111, 112, 113] (by decide +kernel) (by decide +kernel)
set_option maxRecDepth 20000 in
theorem gX7_unlike_X0_play : GoodIn wsX7_unlike (wsV RX7 147 RX0 yX0_play wsX0_play) := goodIn_app (goodIn_of _ (by decide +kernel)) ggX7_unlike_X0_play
set_option maxRecDepth 20000 in
theorem ggX7_unlike_X4_unlikeSeen : GoodIn wsX7_unlike wsX4_unlikeSeen := goodIn_r _ [72, 73, 74, 75, 76, 77, 78, 79, 80, 81, 82, 83, 71, 84, 85, 114, 115, 116, 117, 118, 119, 120, 94, 95, 96, 97, 98, 99, 100, 101, 102, 103, 104, 105, 106, 107, 108, 109, 110, 111, 112, 113] (by decide +kernel) (by decide +kernel)
set_option maxRecDepth 20000 in
theorem gX7_unlike_X4_unlikeSeen : GoodIn wsX7_unlike (wsV RX7 215 RX4 yX4_unlikeSeen wsX4_unlikeSeen) := goodIn_app (goodIn_of _ (by decide +kernel)) ggX7_unlike_X4_unlikeSeen
theorem dX7_unlike_0 : decode cX7_unlike 0 = .ok (.aload_n 0, 1) := by decide +kernel
theorem dX7_unlike_1 : decode cX7_unlike 1 = .ok (.getfield 30, 3) := by decide +kernel
theorem dX7_unlike_4 : decode cX7_unlike 4 = .ok (.aload_n 0, 1) := by decide +kernel
theorem dX7_unlike_5 : decode cX7_unlike 5 = .ok (.getfield 30, 3) := by decide +kernel
theorem dX7_unlike_8 : decode cX7_unlike 8 = .ok (.getfield 144, 3) := by decide +kernel
theorem dX7_unlike_11 : decode cX7_unlike 11 = .ok (.invokevirtual 147, 3) := by decide +kernel
theorem dX7_unlike_14 : decode cX7_unlike 14 = .ok (.aload_n 0, 1) := by decide +kernel
theorem dX7_unlike_15 : decode cX7_unlike 15 = .ok (.getfield 53, 3) := by decide +kernel
theorem dX7_unlike_18 : decode cX7_unlike 18 = .ok (.invokevirtual 215, 3) := by decide +kernel
theorem dX7_unlike_21 : decode cX7_unlike 21 = .ok (.ireturn, 1) := by decide +kernel
set_option maxRecDepth 20000 in
theorem ggX7_hid_X7_isPerson : GoodIn wsX7_hid wsX7_isPerson := goodIn_r _ [6, 7, 8, 9, 10, 5, 11, 96, 97, 98, 99, 100, 101, 102, 103, 104, 105, 106, 107, 108, 109, 110, 111, 112] (by decide +kernel) (by decide +kernel)
set_option maxRecDepth 20000 in
theorem gX7_hid_X7_isPerson : GoodIn wsX7_hid (wsV RX7 93 RX7 yX7_isPerson wsX7_isPerson) := goodIn_app (goodIn_of _ (by decide +kernel)) ggX7_hid_X7_isPerson
set_option maxRecDepth 20000 in
theorem ggX7_hid_X4_leastHidden : GoodIn wsX7_hid wsX4_leastHidden := goodIn_r _ [16, 17, 18, 19, 20, 21, 22, 23, 24, 25, 26, 27, 28, 29, 30, 31, 32, 33, 34, 35, 36, 37, 38, 39, 40, 41, 42, 43, 44, 45, 46, 47, 48, 49, 50, 51, 52, 53, 54, 55, 56, 57, 58, 59, 60, 61, 62, 63, 64, 65, 66, 67, 68, 69, 70, 71, 72, 73, 74, 75, 76, 77, 78, 79, 80, 81, 82, 83, 84, 15, 85, 86, 87, 88, 89, 90, 91, 92, 93, 94, 95, 113, 114, 115, 116, 117, 118, 119, 104, 105, 106, 107, 108, 109, 110, 111, 112, 120, 121, 122, 123, 124, 125, 126, 127, 128, 129, 130] (by decide +kernel) (by decide +kernel)
set_option maxRecDepth 20000 in
theorem gX7_hid_X4_leastHidden : GoodIn wsX7_hid (wsV RX7 218 RX4 yX4_leastHidden wsX4_leastHidden) := goodIn_app (goodIn_of _ (by decide +kernel)) ggX7_hid_X4_leastHidden
theorem dX7_hid_0 : decode cX7_hid 0 = .ok (.aload_n 0, 1) := by decide +kernel
theorem dX7_hid_1 : decode cX7_hid 1 = .ok (.iload_n 1, 1) := by decide +kernel
theorem dX7_hid_2 : decode cX7_hid 2 = .ok (.invokevirtual 93, 3) := by decide +kernel
theorem dX7_hid_5 : decode cX7_hid 5 = .ok (.ifCond .eq 14, 3) := by decide +kernel
theorem dX7_hid_8 : decode cX7_hid 8 = .ok (.aload_n 0, 1) := by decide +kernel
theorem dX7_hid_9 : decode cX7_hid 9 = .ok (.getfield 53, 3) := by decide +kernel
theorem dX7_hid_12 : decode cX7_hid 12 = .ok (.iload_n 1, 1) := by decide +kernel
theorem dX7_hid_13 : decode cX7_hid 13 = .ok (.invokevirtual 218, 3) := by decide +kernel
theorem dX7_hid_16 : decode cX7_hid 16 = .ok (.goto 5, 3) := by decide +kernel
theorem dX7_hid_19 : decode cX7_hid 19 = .ok (.bipush (-2), 2) := by decide +kernel
theorem dX7_hid_21 : decode cX7_hid 21 = .ok (.ireturn, 1) := by decide +kernel
set_option maxRecDepth 20000 in
theorem ggX7_luck_X7_isIn : GoodIn wsX7_luck wsX7_isIn := goodIn_r _ [9] (by decide +kernel) (by decide +kernel)
set_option maxRecDepth 20000 in
theorem gX7_luck_X7_isIn : GoodIn wsX7_luck (va_wsS RX7 72 yX7_isIn wsX7_isIn) := goodIn_app (goodIn_of _ (by decide +kernel)) ggX7_luck_X7_isIn
set_option maxRecDepth 20000 in
theorem ggX7_luck_X7_greatestDivisor : GoodIn wsX7_luck wsX7_greatestDivisor := goodIn_r _ [12] (by decide +kernel) (by decide +kernel)
set_option maxRecDepth 20000 in
theorem gX7_luck_X7_greatestDivisor : GoodIn wsX7_luck (va_wsS RX7 225 yX7_greatestDivisor wsX7_greatestDivisor) := goodIn_app (goodIn_of _ (by decide +kernel)) ggX7_luck_X7_greatestDivisor
set_option maxRecDepth 20000 in
theorem ggX7_luck_X7_power : GoodIn wsX7_luck wsX7_power := goodIn_r _ [15] (by decide +kernel) (by decide +kernel)
set_option maxRecDepth 20000 in
theorem gX7_luck_X7_power : GoodIn wsX7_luck (va_wsS RX7 228 yX7_power wsX7_power) := goodIn_app (goodIn_of _ (by decide +kernel)) ggX7_luck_X7_power
theorem dX7_luck_0 : decode cX7_luck 0 = .ok (.iload_n 1, 1) := by decide +kernel
theorem dX7_luck_1 : decode cX7_luck 1 = .ok (.iconst 0, 1) := by decide +kernel
theorem dX7_luck_2 : decode cX7_luck 2 = .ok (.iconst 5, 1) := by decide +kernel
theorem dX7_luck_3 : decode cX7_luck 3 = .ok (.invokestatic 72, 3) := by decide +kernel
theorem dX7_luck_6 : decode cX7_luck 6 = .ok (.ifCond .eq 33, 3) := by decide +kernel
theorem dX7_luck_9 : decode cX7_luck 9 = .ok (.iload_n 2, 1) := by decide +kernel
theorem dX7_luck_10 : decode cX7_luck 10 = .ok (.iconst 0, 1) := by decide +kernel
theorem dX7_luck_11 : decode cX7_luck 11 = .ok (.bipush 99, 2) := by decide +kernel
theorem dX7_luck_13 : decode cX7_luck 13 = .ok (.invokestatic 72, 3) := by decide +kernel
theorem dX7_luck_16 : decode cX7_luck 16 = .ok (.ifCond .eq 23, 3) := by decide +kernel
theorem dX7_luck_19 : decode cX7_luck 19 = .ok (.iload_n 3, 1) := by decide +kernel
theorem dX7_luck_20 : decode cX7_luck 20 = .ok (.iconst 1, 1) := by decide +kernel
theorem dX7_luck_21 : decode cX7_luck 21 = .ok (.bipush 99, 2) := by decide +kernel
theorem dX7_luck_23 : decode cX7_luck 23 = .ok (.invokestatic 72, 3) := by decide +kernel
theorem dX7_luck_26 : decode cX7_luck 26 = .ok (.ifCond .eq 13, 3) := by decide +kernel
theorem dX7_luck_29 : decode cX7_luck 29 = .ok (.iload 4, 2) := by decide +kernel
theorem dX7_luck_31 : decode cX7_luck 31 = .ok (.iconst 0, 1) := by decide +kernel
theorem dX7_luck_32 : decode cX7_luck 32 = .ok (.iconst 1, 1) := by decide +kernel
theorem dX7_luck_33 : decode cX7_luck 33 = .ok (.invokestatic 72, 3) := by decide +kernel
theorem dX7_luck_36 : decode cX7_luck 36 = .ok (.ifCond .ne 7, 3) := by decide +kernel
theorem dX7_luck_39 : decode cX7_luck 39 = .ok (.ldc2_w 223, 3) := by decide +kernel
theorem dX7_luck_42 : decode cX7_luck 42 = .ok (.lreturn, 1) := by decide +kernel
theorem dX7_luck_43 : decode cX7_luck 43 = .ok (.iload_n 3, 1) := by decide +kernel
theorem dX7_luck_44 : decode cX7_luck 44 = .ok (.iconst 1, 1) := by decide +kernel
theorem dX7_luck_45 : decode cX7_luck 45 = .ok (.iadd, 1) := by decide +kernel
theorem dX7_luck_46 : decode cX7_luck 46 = .ok (.istore 5, 2) := by decide +kernel
theorem dX7_luck_48 : decode cX7_luck 48 = .ok (.iload_n 2, 1) := by decide +kernel
theorem dX7_luck_49 : decode cX7_luck 49 = .ok (.iload 5, 2) := by decide +kernel
theorem dX7_luck_51 : decode cX7_luck 51 = .ok (.invokestatic 130, 3) := by decide +kernel
theorem dX7_luck_54 : decode cX7_luck 54 = .ok (.istore 6, 2) := by decide +kernel
theorem dX7_luck_56 : decode cX7_luck 56 = .ok (.iload 6, 2) := by decide +kernel
theorem dX7_luck_58 : decode cX7_luck 58 = .ok (.iload 5, 2) := by decide +kernel
theorem dX7_luck_60 : decode cX7_luck 60 = .ok (.invokestatic 225, 3) := by decide +kernel
theorem dX7_luck_63 : decode cX7_luck 63 = .ok (.istore 7, 2) := by decide +kernel
theorem dX7_luck_65 : decode cX7_luck 65 = .ok (.iload 4, 2) := by decide +kernel
theorem dX7_luck_67 : decode cX7_luck 67 = .ok (.ifCond .ne 8, 3) := by decide +kernel
theorem dX7_luck_70 : decode cX7_luck 70 = .ok (.iload 6, 2) := by decide +kernel
theorem dX7_luck_72 : decode cX7_luck 72 = .ok (.goto 5, 3) := by decide +kernel
theorem dX7_luck_75 : decode cX7_luck 75 = .ok (.iload 5, 2) := by decide +kernel
theorem dX7_luck_77 : decode cX7_luck 77 = .ok (.iload 7, 2) := by decide +kernel
theorem dX7_luck_79 : decode cX7_luck 79 = .ok (.idiv, 1) := by decide +kernel
theorem dX7_luck_80 : decode cX7_luck 80 = .ok (.i2l, 1) := by decide +kernel
theorem dX7_luck_81 : decode cX7_luck 81 = .ok (.iload_n 1, 1) := by decide +kernel
theorem dX7_luck_82 : decode cX7_luck 82 = .ok (.invokestatic 228, 3) := by decide +kernel
theorem dX7_luck_85 : decode cX7_luck 85 = .ok (.lreturn, 1) := by decide +kernel
set_option maxRecDepth 20000 in
theorem ggX7_sheet_X7_isSheet : GoodIn wsX7_sheet wsX7_isSheet := goodIn_r _ [5, 6, 7, 4, 8] (by decide +kernel) (by decide +kernel)
set_option maxRecDepth 20000 in
theorem gX7_sheet_X7_isSheet : GoodIn wsX7_sheet (va_wsS RX7 116 yX7_isSheet wsX7_isSheet) := goodIn_app (goodIn_of _ (by decide +kernel)) ggX7_sheet_X7_isSheet
set_option maxRecDepth 20000 in
theorem ggX7_sheet_X7_isForm : GoodIn wsX7_sheet wsX7_isForm := goodIn_r _ [11, 6, 7, 4, 8] (by decide +kernel) (by decide +kernel)
set_option maxRecDepth 20000 in
theorem gX7_sheet_X7_isForm : GoodIn wsX7_sheet (va_wsS RX7 232 yX7_isForm wsX7_isForm) := goodIn_app (goodIn_of _ (by decide +kernel)) ggX7_sheet_X7_isForm
set_option maxRecDepth 20000 in
theorem ggX7_sheet_X7_found : GoodIn wsX7_sheet wsX7_found := goodIn_r _ [15, 16, 26, 27, 28, 29, 30, 31, 32, 33] (by decide +kernel) (by decide +kernel)
set_option maxRecDepth 20000 in
theorem gX7_sheet_X7_found : GoodIn wsX7_sheet (wsV RX7 123 RX7 yX7_found wsX7_found) := goodIn_app (goodIn_of _ (by decide +kernel)) ggX7_sheet_X7_found
set_option maxRecDepth 20000 in
theorem ggX7_sheet_X5_renew : GoodIn wsX7_sheet wsX5_renew := goodIn_r _ [21, 22, 23, 24, 25, 34, 35, 36, 37] (by decide +kernel) (by decide +kernel)
set_option maxRecDepth 20000 in
theorem gX7_sheet_X5_renew : GoodIn wsX7_sheet (wsV RX7 235 RX5 yX5_renew wsX5_renew) := goodIn_app (goodIn_of _ (by decide +kernel)) ggX7_sheet_X5_renew
theorem dX7_sheet_0 : decode cX7_sheet 0 = .ok (.iload_n 1, 1) := by decide +kernel
theorem dX7_sheet_1 : decode cX7_sheet 1 = .ok (.invokestatic 116, 3) := by decide +kernel
theorem dX7_sheet_4 : decode cX7_sheet 4 = .ok (.ifCond .eq 16, 3) := by decide +kernel
theorem dX7_sheet_7 : decode cX7_sheet 7 = .ok (.iload_n 2, 1) := by decide +kernel
theorem dX7_sheet_8 : decode cX7_sheet 8 = .ok (.invokestatic 232, 3) := by decide +kernel
theorem dX7_sheet_11 : decode cX7_sheet 11 = .ok (.ifCond .eq 9, 3) := by decide +kernel
theorem dX7_sheet_14 : decode cX7_sheet 14 = .ok (.iload_n 3, 1) := by decide +kernel
theorem dX7_sheet_15 : decode cX7_sheet 15 = .ok (.bipush 48, 2) := by decide +kernel
theorem dX7_sheet_17 : decode cX7_sheet 17 = .ok (.if_icmp .le 6, 3) := by decide +kernel
theorem dX7_sheet_20 : decode cX7_sheet 20 = .ok (.bipush (-2), 2) := by decide +kernel
theorem dX7_sheet_22 : decode cX7_sheet 22 = .ok (.ireturn, 1) := by decide +kernel
theorem dX7_sheet_23 : decode cX7_sheet 23 = .ok (.iload_n 3, 1) := by decide +kernel
theorem dX7_sheet_24 : decode cX7_sheet 24 = .ok (.ifCond .ge 9, 3) := by decide +kernel
theorem dX7_sheet_27 : decode cX7_sheet 27 = .ok (.aload_n 0, 1) := by decide +kernel
theorem dX7_sheet_28 : decode cX7_sheet 28 = .ok (.iconst 5, 1) := by decide +kernel
theorem dX7_sheet_29 : decode cX7_sheet 29 = .ok (.invokevirtual 123, 3) := by decide +kernel
theorem dX7_sheet_32 : decode cX7_sheet 32 = .ok (.ireturn, 1) := by decide +kernel
theorem dX7_sheet_33 : decode cX7_sheet 33 = .ok (.aload_n 0, 1) := by decide +kernel
theorem dX7_sheet_34 : decode cX7_sheet 34 = .ok (.getfield 59, 3) := by decide +kernel
theorem dX7_sheet_37 : decode cX7_sheet 37 = .ok (.iload_n 1, 1) := by decide +kernel
theorem dX7_sheet_38 : decode cX7_sheet 38 = .ok (.aaload, 1) := by decide +kernel
theorem dX7_sheet_39 : decode cX7_sheet 39 = .ok (.iload_n 2, 1) := by decide +kernel
theorem dX7_sheet_40 : decode cX7_sheet 40 = .ok (.iload_n 3, 1) := by decide +kernel
theorem dX7_sheet_41 : decode cX7_sheet 41 = .ok (.invokevirtual 235, 3) := by decide +kernel
theorem dX7_sheet_44 : decode cX7_sheet 44 = .ok (.iload_n 3, 1) := by decide +kernel
theorem dX7_sheet_45 : decode cX7_sheet 45 = .ok (.ireturn, 1) := by decide +kernel
set_option maxRecDepth 20000 in
theorem ggX7_lose_X7_isSheet : GoodIn wsX7_lose wsX7_isSheet := goodIn_r _ [7, 8, 9, 6, 10] (by decide +kernel) (by decide +kernel)
set_option maxRecDepth 20000 in
theorem gX7_lose_X7_isSheet : GoodIn wsX7_lose (va_wsS RX7 116 yX7_isSheet wsX7_isSheet) := goodIn_app (goodIn_of _ (by decide +kernel)) ggX7_lose_X7_isSheet
set_option maxRecDepth 20000 in
theorem ggX7_lose_X7_found : GoodIn wsX7_lose wsX7_found := goodIn_r _ [14, 15, 16, 17, 18, 19, 20, 21, 22, 23] (by decide +kernel) (by decide +kernel)
set_option maxRecDepth 20000 in
theorem gX7_lose_X7_found : GoodIn wsX7_lose (wsV RX7 123 RX7 yX7_found wsX7_found) := goodIn_app (goodIn_of _ (by decide +kernel)) ggX7_lose_X7_found
theorem dX7_lose_0 : decode cX7_lose 0 = .ok (.iload_n 1, 1) := by decide +kernel
theorem dX7_lose_1 : decode cX7_lose 1 = .ok (.invokestatic 116, 3) := by decide +kernel
theorem dX7_lose_4 : decode cX7_lose 4 = .ok (.ifCond .ne 6, 3) := by decide +kernel
theorem dX7_lose_7 : decode cX7_lose 7 = .ok (.bipush (-2), 2) := by decide +kernel
theorem dX7_lose_9 : decode cX7_lose 9 = .ok (.ireturn, 1) := by decide +kernel
theorem dX7_lose_10 : decode cX7_lose 10 = .ok (.aload_n 0, 1) := by decide +kernel
theorem dX7_lose_11 : decode cX7_lose 11 = .ok (.getfield 59, 3) := by decide +kernel
theorem dX7_lose_14 : decode cX7_lose 14 = .ok (.iload_n 1, 1) := by decide +kernel
theorem dX7_lose_15 : decode cX7_lose 15 = .ok (.aaload, 1) := by decide +kernel
theorem dX7_lose_16 : decode cX7_lose 16 = .ok (.getfield 119, 3) := by decide +kernel
theorem dX7_lose_19 : decode cX7_lose 19 = .ok (.ifCond .eq 9, 3) := by decide +kernel
theorem dX7_lose_22 : decode cX7_lose 22 = .ok (.aload_n 0, 1) := by decide +kernel
theorem dX7_lose_23 : decode cX7_lose 23 = .ok (.iconst 1, 1) := by decide +kernel
theorem dX7_lose_24 : decode cX7_lose 24 = .ok (.invokevirtual 123, 3) := by decide +kernel
theorem dX7_lose_27 : decode cX7_lose 27 = .ok (.ireturn, 1) := by decide +kernel
theorem dX7_lose_28 : decode cX7_lose 28 = .ok (.aload_n 0, 1) := by decide +kernel
theorem dX7_lose_29 : decode cX7_lose 29 = .ok (.getfield 59, 3) := by decide +kernel
theorem dX7_lose_32 : decode cX7_lose 32 = .ok (.iload_n 1, 1) := by decide +kernel
theorem dX7_lose_33 : decode cX7_lose 33 = .ok (.aaload, 1) := by decide +kernel
theorem dX7_lose_34 : decode cX7_lose 34 = .ok (.iconst 1, 1) := by decide +kernel
theorem dX7_lose_35 : decode cX7_lose 35 = .ok (.putfield 119, 3) := by decide +kernel
theorem dX7_lose_38 : decode cX7_lose 38 = .ok (.aload_n 0, 1) := by decide +kernel
theorem dX7_lose_39 : decode cX7_lose 39 = .ok (.getfield 59, 3) := by decide +kernel
theorem dX7_lose_42 : decode cX7_lose 42 = .ok (.iload_n 1, 1) := by decide +kernel
theorem dX7_lose_43 : decode cX7_lose 43 = .ok (.aaload, 1) := by decide +kernel
theorem dX7_lose_44 : decode cX7_lose 44 = .ok (.getfield 127, 3) := by decide +kernel
theorem dX7_lose_47 : decode cX7_lose 47 = .ok (.ireturn, 1) := by decide +kernel
set_option maxRecDepth 20000 in
theorem ggX7_put_X7_isSheet : GoodIn wsX7_put wsX7_isSheet := goodIn_r _ [5, 6, 7, 4, 8] (by decide +kernel) (by decide +kernel)
set_option maxRecDepth 20000 in
theorem gX7_put_X7_isSheet : GoodIn wsX7_put (va_wsS RX7 116 yX7_isSheet wsX7_isSheet) := goodIn_app (goodIn_of _ (by decide +kernel)) ggX7_put_X7_isSheet
set_option maxRecDepth 20000 in
theorem ggX7_put_X7_isForm : GoodIn wsX7_put wsX7_isForm := goodIn_r _ [11, 6, 7, 4, 8] (by decide +kernel) (by decide +kernel)
set_option maxRecDepth 20000 in
theorem gX7_put_X7_isForm : GoodIn wsX7_put (va_wsS RX7 232 yX7_isForm wsX7_isForm) := goodIn_app (goodIn_of _ (by decide +kernel)) ggX7_put_X7_isForm
set_option maxRecDepth 20000 in
theorem ggX7_put_X5_findingAt : GoodIn wsX7_put wsX5_findingAt := goodIn_r _ [16, 17, 18, 19, 38, 39, 40, 41] (by decide +kernel) (by decide +kernel)
set_option maxRecDepth 20000 in
theorem gX7_put_X5_findingAt : GoodIn wsX7_put (wsV RX7 238 RX5 yX5_findingAt wsX5_findingAt) := goodIn_app (goodIn_of _ (by decide +kernel)) ggX7_put_X5_findingAt
set_option maxRecDepth 20000 in
theorem ggX7_put_X7_found : GoodIn wsX7_put wsX7_found := goodIn_r _ [23, 24, 30, 31, 32, 33, 34, 35, 36, 37] (by decide +kernel) (by decide +kernel)
set_option maxRecDepth 20000 in
theorem gX7_put_X7_found : GoodIn wsX7_put (wsV RX7 123 RX7 yX7_found wsX7_found) := goodIn_app (goodIn_of _ (by decide +kernel)) ggX7_put_X7_found
set_option maxRecDepth 20000 in
theorem ggX7_put_X5_store : GoodIn wsX7_put wsX5_store := goodIn_r _ [28, 29, 18, 38, 39, 40, 41] (by decide +kernel) (by decide +kernel)
set_option maxRecDepth 20000 in
theorem gX7_put_X5_store : GoodIn wsX7_put (wsV RX7 241 RX5 yX5_store wsX5_store) := goodIn_app (goodIn_of _ (by decide +kernel)) ggX7_put_X5_store
theorem dX7_put_0 : decode cX7_put 0 = .ok (.iload_n 1, 1) := by decide +kernel
theorem dX7_put_1 : decode cX7_put 1 = .ok (.invokestatic 116, 3) := by decide +kernel
theorem dX7_put_4 : decode cX7_put 4 = .ok (.ifCond .eq 10, 3) := by decide +kernel
theorem dX7_put_7 : decode cX7_put 7 = .ok (.iload_n 2, 1) := by decide +kernel
theorem dX7_put_8 : decode cX7_put 8 = .ok (.invokestatic 232, 3) := by decide +kernel
theorem dX7_put_11 : decode cX7_put 11 = .ok (.ifCond .ne 6, 3) := by decide +kernel
theorem dX7_put_14 : decode cX7_put 14 = .ok (.bipush (-2), 2) := by decide +kernel
theorem dX7_put_16 : decode cX7_put 16 = .ok (.ireturn, 1) := by decide +kernel
theorem dX7_put_17 : decode cX7_put 17 = .ok (.aload_n 0, 1) := by decide +kernel
theorem dX7_put_18 : decode cX7_put 18 = .ok (.getfield 59, 3) := by decide +kernel
theorem dX7_put_21 : decode cX7_put 21 = .ok (.iload_n 1, 1) := by decide +kernel
theorem dX7_put_22 : decode cX7_put 22 = .ok (.aaload, 1) := by decide +kernel
theorem dX7_put_23 : decode cX7_put 23 = .ok (.iload_n 2, 1) := by decide +kernel
theorem dX7_put_24 : decode cX7_put 24 = .ok (.iload_n 3, 1) := by decide +kernel
theorem dX7_put_25 : decode cX7_put 25 = .ok (.invokevirtual 238, 3) := by decide +kernel
theorem dX7_put_28 : decode cX7_put 28 = .ok (.istore 5, 2) := by decide +kernel
theorem dX7_put_30 : decode cX7_put 30 = .ok (.iload 5, 2) := by decide +kernel
theorem dX7_put_32 : decode cX7_put 32 = .ok (.ifCond .eq 10, 3) := by decide +kernel
theorem dX7_put_35 : decode cX7_put 35 = .ok (.aload_n 0, 1) := by decide +kernel
theorem dX7_put_36 : decode cX7_put 36 = .ok (.iload 5, 2) := by decide +kernel
theorem dX7_put_38 : decode cX7_put 38 = .ok (.invokevirtual 123, 3) := by decide +kernel
theorem dX7_put_41 : decode cX7_put 41 = .ok (.ireturn, 1) := by decide +kernel
theorem dX7_put_42 : decode cX7_put 42 = .ok (.aload_n 0, 1) := by decide +kernel
theorem dX7_put_43 : decode cX7_put 43 = .ok (.getfield 59, 3) := by decide +kernel
theorem dX7_put_46 : decode cX7_put 46 = .ok (.iload_n 1, 1) := by decide +kernel
theorem dX7_put_47 : decode cX7_put 47 = .ok (.aaload, 1) := by decide +kernel
theorem dX7_put_48 : decode cX7_put 48 = .ok (.iload_n 3, 1) := by decide +kernel
theorem dX7_put_49 : decode cX7_put 49 = .ok (.iload 4, 2) := by decide +kernel
theorem dX7_put_51 : decode cX7_put 51 = .ok (.invokevirtual 241, 3) := by decide +kernel
theorem dX7_put_54 : decode cX7_put 54 = .ok (.iconst 1, 1) := by decide +kernel
theorem dX7_put_55 : decode cX7_put 55 = .ok (.ireturn, 1) := by decide +kernel
set_option maxRecDepth 20000 in
theorem ggX7_get_X7_isSheet : GoodIn wsX7_get wsX7_isSheet := goodIn_r _ [7, 8, 9, 6, 10] (by decide +kernel) (by decide +kernel)
set_option maxRecDepth 20000 in
theorem gX7_get_X7_isSheet : GoodIn wsX7_get (va_wsS RX7 116 yX7_isSheet wsX7_isSheet) := goodIn_app (goodIn_of _ (by decide +kernel)) ggX7_get_X7_isSheet
set_option maxRecDepth 20000 in
theorem ggX7_get_X7_isForm : GoodIn wsX7_get wsX7_isForm := goodIn_r _ [13, 8, 9, 6, 10] (by decide +kernel) (by decide +kernel)
set_option maxRecDepth 20000 in
theorem gX7_get_X7_isForm : GoodIn wsX7_get (va_wsS RX7 232 yX7_isForm wsX7_isForm) := goodIn_app (goodIn_of _ (by decide +kernel)) ggX7_get_X7_isForm
set_option maxRecDepth 20000 in
theorem ggX7_get_X5_findingAt : GoodIn wsX7_get wsX5_findingAt := goodIn_r _ [18, 19, 20, 21, 35, 36, 37, 38] (by decide +kernel) (by decide +kernel)
set_option maxRecDepth 20000 in
theorem gX7_get_X5_findingAt : GoodIn wsX7_get (wsV RX7 238 RX5 yX5_findingAt wsX5_findingAt) := goodIn_app (goodIn_of _ (by decide +kernel)) ggX7_get_X5_findingAt
set_option maxRecDepth 20000 in
theorem ggX7_get_X7_found : GoodIn wsX7_get wsX7_found := goodIn_r _ [25, 26, 27, 28, 29, 30, 31, 32, 33, 34] (by decide +kernel) (by decide +kernel)
set_option maxRecDepth 20000 in
theorem gX7_get_X7_found : GoodIn wsX7_get (wsV RX7 123 RX7 yX7_found wsX7_found) := goodIn_app (goodIn_of _ (by decide +kernel)) ggX7_get_X7_found
theorem dX7_get_0 : decode cX7_get 0 = .ok (.iload_n 1, 1) := by decide +kernel
theorem dX7_get_1 : decode cX7_get 1 = .ok (.invokestatic 116, 3) := by decide +kernel
theorem dX7_get_4 : decode cX7_get 4 = .ok (.ifCond .eq 10, 3) := by decide +kernel
theorem dX7_get_7 : decode cX7_get 7 = .ok (.iload_n 2, 1) := by decide +kernel
theorem dX7_get_8 : decode cX7_get 8 = .ok (.invokestatic 232, 3) := by decide +kernel
theorem dX7_get_11 : decode cX7_get 11 = .ok (.ifCond .ne 6, 3) := by decide +kernel
theorem dX7_get_14 : decode cX7_get 14 = .ok (.ldc 246, 2) := by decide +kernel
theorem dX7_get_16 : decode cX7_get 16 = .ok (.ireturn, 1) := by decide +kernel
theorem dX7_get_17 : decode cX7_get 17 = .ok (.aload_n 0, 1) := by decide +kernel
theorem dX7_get_18 : decode cX7_get 18 = .ok (.getfield 59, 3) := by decide +kernel
theorem dX7_get_21 : decode cX7_get 21 = .ok (.iload_n 1, 1) := by decide +kernel
theorem dX7_get_22 : decode cX7_get 22 = .ok (.aaload, 1) := by decide +kernel
theorem dX7_get_23 : decode cX7_get 23 = .ok (.iload_n 2, 1) := by decide +kernel
theorem dX7_get_24 : decode cX7_get 24 = .ok (.iload_n 3, 1) := by decide +kernel
theorem dX7_get_25 : decode cX7_get 25 = .ok (.invokevirtual 238, 3) := by decide +kernel
theorem dX7_get_28 : decode cX7_get 28 = .ok (.istore 4, 2) := by decide +kernel
theorem dX7_get_30 : decode cX7_get 30 = .ok (.iload 4, 2) := by decide +kernel
theorem dX7_get_32 : decode cX7_get 32 = .ok (.ifCond .eq 13, 3) := by decide +kernel
theorem dX7_get_35 : decode cX7_get 35 = .ok (.aload_n 0, 1) := by decide +kernel
theorem dX7_get_36 : decode cX7_get 36 = .ok (.iload 4, 2) := by decide +kernel
theorem dX7_get_38 : decode cX7_get 38 = .ok (.invokevirtual 123, 3) := by decide +kernel
theorem dX7_get_41 : decode cX7_get 41 = .ok (.pop, 1) := by decide +kernel
theorem dX7_get_42 : decode cX7_get 42 = .ok (.ldc 246, 2) := by decide +kernel
theorem dX7_get_44 : decode cX7_get 44 = .ok (.ireturn, 1) := by decide +kernel
theorem dX7_get_45 : decode cX7_get 45 = .ok (.aload_n 0, 1) := by decide +kernel
theorem dX7_get_46 : decode cX7_get 46 = .ok (.getfield 59, 3) := by decide +kernel
theorem dX7_get_49 : decode cX7_get 49 = .ok (.iload_n 1, 1) := by decide +kernel
theorem dX7_get_50 : decode cX7_get 50 = .ok (.aaload, 1) := by decide +kernel
theorem dX7_get_51 : decode cX7_get 51 = .ok (.getfield 135, 3) := by decide +kernel
theorem dX7_get_54 : decode cX7_get 54 = .ok (.iload_n 3, 1) := by decide +kernel
theorem dX7_get_55 : decode cX7_get 55 = .ok (.iaload, 1) := by decide +kernel
theorem dX7_get_56 : decode cX7_get 56 = .ok (.ireturn, 1) := by decide +kernel
set_option maxRecDepth 20000 in
theorem ggX7_copy_X7_isSheet : GoodIn wsX7_copy wsX7_isSheet := goodIn_r _ [12, 13, 14, 11, 15] (by decide +kernel) (by decide +kernel)
set_option maxRecDepth 20000 in
theorem gX7_copy_X7_isSheet : GoodIn wsX7_copy (va_wsS RX7 116 yX7_isSheet wsX7_isSheet) := goodIn_app (goodIn_of _ (by decide +kernel)) ggX7_copy_X7_isSheet
set_option maxRecDepth 20000 in
theorem ggX7_copy_X7_found : GoodIn wsX7_copy wsX7_found := goodIn_r _ [19, 20, 27, 28, 29, 30, 31, 32, 33, 34] (by decide +kernel) (by decide +kernel)
set_option maxRecDepth 20000 in
theorem gX7_copy_X7_found : GoodIn wsX7_copy (wsV RX7 123 RX7 yX7_found wsX7_found) := goodIn_app (goodIn_of _ (by decide +kernel)) ggX7_copy_X7_found
set_option maxRecDepth 20000 in
theorem ggX7_copy_X5_hasItems : GoodIn wsX7_copy wsX5_hasItems := goodIn_r _ [25, 26, 35, 36, 37, 38] (by decide +kernel) (by decide +kernel)
set_option maxRecDepth 20000 in
theorem gX7_copy_X5_hasItems : GoodIn wsX7_copy (wsV RX7 250 RX5 yX5_hasItems wsX5_hasItems) := goodIn_app (goodIn_of _ (by decide +kernel)) ggX7_copy_X5_hasItems
theorem dX7_copy_0 : decode cX7_copy 0 = .ok (.iload_n 1, 1) := by decide +kernel
theorem dX7_copy_1 : decode cX7_copy 1 = .ok (.invokestatic 116, 3) := by decide +kernel
theorem dX7_copy_4 : decode cX7_copy 4 = .ok (.ifCond .eq 10, 3) := by decide +kernel
theorem dX7_copy_7 : decode cX7_copy 7 = .ok (.iload_n 3, 1) := by decide +kernel
theorem dX7_copy_8 : decode cX7_copy 8 = .ok (.invokestatic 116, 3) := by decide +kernel
theorem dX7_copy_11 : decode cX7_copy 11 = .ok (.ifCond .ne 6, 3) := by decide +kernel
theorem dX7_copy_14 : decode cX7_copy 14 = .ok (.bipush (-2), 2) := by decide +kernel
theorem dX7_copy_16 : decode cX7_copy 16 = .ok (.ireturn, 1) := by decide +kernel
theorem dX7_copy_17 : decode cX7_copy 17 = .ok (.aload_n 0, 1) := by decide +kernel
theorem dX7_copy_18 : decode cX7_copy 18 = .ok (.getfield 59, 3) := by decide +kernel
theorem dX7_copy_21 : decode cX7_copy 21 = .ok (.iload_n 1, 1) := by decide +kernel
theorem dX7_copy_22 : decode cX7_copy 22 = .ok (.aaload, 1) := by decide +kernel
theorem dX7_copy_23 : decode cX7_copy 23 = .ok (.astore 6, 2) := by decide +kernel
theorem dX7_copy_25 : decode cX7_copy 25 = .ok (.aload_n 0, 1) := by decide +kernel
theorem dX7_copy_26 : decode cX7_copy 26 = .ok (.getfield 59, 3) := by decide +kernel
theorem dX7_copy_29 : decode cX7_copy 29 = .ok (.iload_n 3, 1) := by decide +kernel
theorem dX7_copy_30 : decode cX7_copy 30 = .ok (.aaload, 1) := by decide +kernel
theorem dX7_copy_31 : decode cX7_copy 31 = .ok (.astore 7, 2) := by decide +kernel
theorem dX7_copy_33 : decode cX7_copy 33 = .ok (.aload 6, 2) := by decide +kernel
theorem dX7_copy_35 : decode cX7_copy 35 = .ok (.getfield 119, 3) := by decide +kernel
theorem dX7_copy_38 : decode cX7_copy 38 = .ok (.ifCond .ne 11, 3) := by decide +kernel
theorem dX7_copy_41 : decode cX7_copy 41 = .ok (.aload 7, 2) := by decide +kernel
theorem dX7_copy_43 : decode cX7_copy 43 = .ok (.getfield 119, 3) := by decide +kernel
theorem dX7_copy_46 : decode cX7_copy 46 = .ok (.ifCond .eq 9, 3) := by decide +kernel
theorem dX7_copy_49 : decode cX7_copy 49 = .ok (.aload_n 0, 1) := by decide +kernel
theorem dX7_copy_50 : decode cX7_copy 50 = .ok (.iconst 1, 1) := by decide +kernel
theorem dX7_copy_51 : decode cX7_copy 51 = .ok (.invokevirtual 123, 3) := by decide +kernel
theorem dX7_copy_54 : decode cX7_copy 54 = .ok (.ireturn, 1) := by decide +kernel
theorem dX7_copy_55 : decode cX7_copy 55 = .ok (.aload 6, 2) := by decide +kernel
theorem dX7_copy_57 : decode cX7_copy 57 = .ok (.getfield 247, 3) := by decide +kernel
theorem dX7_copy_60 : decode cX7_copy 60 = .ok (.aload 7, 2) := by decide +kernel
theorem dX7_copy_62 : decode cX7_copy 62 = .ok (.getfield 247, 3) := by decide +kernel
theorem dX7_copy_65 : decode cX7_copy 65 = .ok (.if_icmp .eq 9, 3) := by decide +kernel
theorem dX7_copy_68 : decode cX7_copy 68 = .ok (.aload_n 0, 1) := by decide +kernel
theorem dX7_copy_69 : decode cX7_copy 69 = .ok (.iconst 4, 1) := by decide +kernel
theorem dX7_copy_70 : decode cX7_copy 70 = .ok (.invokevirtual 123, 3) := by decide +kernel
theorem dX7_copy_73 : decode cX7_copy 73 = .ok (.ireturn, 1) := by decide +kernel
theorem dX7_copy_74 : decode cX7_copy 74 = .ok (.aload 6, 2) := by decide +kernel
theorem dX7_copy_76 : decode cX7_copy 76 = .ok (.iload_n 2, 1) := by decide +kernel
theorem dX7_copy_77 : decode cX7_copy 77 = .ok (.iload 5, 2) := by decide +kernel
theorem dX7_copy_79 : decode cX7_copy 79 = .ok (.invokevirtual 250, 3) := by decide +kernel
theorem dX7_copy_82 : decode cX7_copy 82 = .ok (.ifCond .eq 15, 3) := by decide +kernel
theorem dX7_copy_85 : decode cX7_copy 85 = .ok (.aload 7, 2) := by decide +kernel
theorem dX7_copy_87 : decode cX7_copy 87 = .ok (.iload 4, 2) := by decide +kernel
theorem dX7_copy_89 : decode cX7_copy 89 = .ok (.iload 5, 2) := by decide +kernel
theorem dX7_copy_91 : decode cX7_copy 91 = .ok (.invokevirtual 250, 3) := by decide +kernel
theorem dX7_copy_94 : decode cX7_copy 94 = .ok (.ifCond .ne 9, 3) := by decide +kernel
theorem dX7_copy_97 : decode cX7_copy 97 = .ok (.aload_n 0, 1) := by decide +kernel
theorem dX7_copy_98 : decode cX7_copy 98 = .ok (.iconst 2, 1) := by decide +kernel
theorem dX7_copy_99 : decode cX7_copy 99 = .ok (.invokevirtual 123, 3) := by decide +kernel
theorem dX7_copy_102 : decode cX7_copy 102 = .ok (.ireturn, 1) := by decide +kernel
theorem dX7_copy_103 : decode cX7_copy 103 = .ok (.aload 6, 2) := by decide +kernel
theorem dX7_copy_105 : decode cX7_copy 105 = .ok (.getfield 135, 3) := by decide +kernel
theorem dX7_copy_108 : decode cX7_copy 108 = .ok (.iload_n 2, 1) := by decide +kernel
theorem dX7_copy_109 : decode cX7_copy 109 = .ok (.aload 7, 2) := by decide +kernel
theorem dX7_copy_111 : decode cX7_copy 111 = .ok (.getfield 135, 3) := by decide +kernel
theorem dX7_copy_114 : decode cX7_copy 114 = .ok (.iload 4, 2) := by decide +kernel
theorem dX7_copy_116 : decode cX7_copy 116 = .ok (.iload 5, 2) := by decide +kernel
theorem dX7_copy_118 : decode cX7_copy 118 = .ok (.invokestatic 254, 3) := by decide +kernel
theorem dX7_copy_121 : decode cX7_copy 121 = .ok (.iconst 1, 1) := by decide +kernel
theorem dX7_copy_122 : decode cX7_copy 122 = .ok (.ireturn, 1) := by decide +kernel
set_option maxRecDepth 20000 in
theorem ggX7_write_X7_isIn : GoodIn wsX7_write wsX7_isIn := goodIn_r _ [16] (by decide +kernel) (by decide +kernel)
set_option maxRecDepth 20000 in
theorem gX7_write_X7_isIn : GoodIn wsX7_write (va_wsS RX7 72 yX7_isIn wsX7_isIn) := goodIn_app (goodIn_of _ (by decide +kernel)) ggX7_write_X7_isIn
set_option maxRecDepth 20000 in
theorem ggX7_write_X7_isSheet : GoodIn wsX7_write wsX7_isSheet := goodIn_r _ [19, 13, 14, 15, 16] (by decide +kernel) (by decide +kernel)
set_option maxRecDepth 20000 in
theorem gX7_write_X7_isSheet : GoodIn wsX7_write (va_wsS RX7 116 yX7_isSheet wsX7_isSheet) := goodIn_app (goodIn_of _ (by decide +kernel)) ggX7_write_X7_isSheet
set_option maxRecDepth 20000 in
theorem ggX7_write_X7_found : GoodIn wsX7_write wsX7_found := goodIn_r _ [23, 24, 93, 94, 95, 96, 97, 98, 99, 100] (by decide +kernel) (by decide +kernel)
set_option maxRecDepth 20000 in
theorem gX7_write_X7_found : GoodIn wsX7_write (wsV RX7 123 RX7 yX7_found wsX7_found) := goodIn_app (goodIn_of _ (by decide +kernel)) ggX7_write_X7_found
set_option maxRecDepth 20000 in
theorem ggX7_write_X0_play : GoodIn wsX7_write wsX0_play := goodIn_r _ [29, 30, 31, 32, 33, 34, 35, 36, 37, 38, 39, 40, 41, 42, 43, 44, 10, 45, 46, 47, 48, 28, 49, 50, 51, 52, 53, 54, 55, 56, 57, 58, 59, 9, 11, 60, 61, 62, 63, 64, 65, 66, 67, 68, 69, 70, 71, 72, 73, 74, 75, 76, 77, 78, 79, 80, 81, 82, 83, 84, 85, 101, 102, 103, 104, 105, 106, 107, 108, 109, 110, 111, 116, 117, 118, 119, 120, 121, 122, 123, 124] (by decide +kernel) (by decide +kernel)
set_option maxRecDepth 20000 in
theorem gX7_write_X0_play : GoodIn wsX7_write (wsV RX7 147 RX0 yX0_play wsX0_play) := goodIn_app (goodIn_of _ (by decide +kernel)) ggX7_write_X0_play
set_option maxRecDepth 20000 in
theorem ggX7_write_X5_store : GoodIn wsX7_write wsX5_store := goodIn_r _ [90, 91, 92, 112, 113, 114, 115] (by decide +kernel) (by decide +kernel)
set_option maxRecDepth 20000 in
theorem gX7_write_X5_store : GoodIn wsX7_write (wsV RX7 241 RX5 yX5_store wsX5_store) := goodIn_app (goodIn_of _ (by decide +kernel)) ggX7_write_X5_store
theorem dX7_write_0 : decode cX7_write 0 = .ok (.iload_n 1, 1) := by decide +kernel
theorem dX7_write_1 : decode cX7_write 1 = .ok (.iconst 0, 1) := by decide +kernel
theorem dX7_write_2 : decode cX7_write 2 = .ok (.aload_n 0, 1) := by decide +kernel
theorem dX7_write_3 : decode cX7_write 3 = .ok (.getfield 30, 3) := by decide +kernel
theorem dX7_write_6 : decode cX7_write 6 = .ok (.getfield 144, 3) := by decide +kernel
theorem dX7_write_9 : decode cX7_write 9 = .ok (.invokestatic 72, 3) := by decide +kernel
theorem dX7_write_12 : decode cX7_write 12 = .ok (.ifCond .eq 10, 3) := by decide +kernel
theorem dX7_write_15 : decode cX7_write 15 = .ok (.iload_n 2, 1) := by decide +kernel
theorem dX7_write_16 : decode cX7_write 16 = .ok (.invokestatic 116, 3) := by decide +kernel
theorem dX7_write_19 : decode cX7_write 19 = .ok (.ifCond .ne 6, 3) := by decide +kernel
theorem dX7_write_22 : decode cX7_write 22 = .ok (.bipush (-2), 2) := by decide +kernel
theorem dX7_write_24 : decode cX7_write 24 = .ok (.ireturn, 1) := by decide +kernel
theorem dX7_write_25 : decode cX7_write 25 = .ok (.aload_n 0, 1) := by decide +kernel
theorem dX7_write_26 : decode cX7_write 26 = .ok (.getfield 59, 3) := by decide +kernel
theorem dX7_write_29 : decode cX7_write 29 = .ok (.iload_n 2, 1) := by decide +kernel
theorem dX7_write_30 : decode cX7_write 30 = .ok (.aaload, 1) := by decide +kernel
theorem dX7_write_31 : decode cX7_write 31 = .ok (.getfield 119, 3) := by decide +kernel
theorem dX7_write_34 : decode cX7_write 34 = .ok (.ifCond .eq 9, 3) := by decide +kernel
theorem dX7_write_37 : decode cX7_write 37 = .ok (.aload_n 0, 1) := by decide +kernel
theorem dX7_write_38 : decode cX7_write 38 = .ok (.iconst 1, 1) := by decide +kernel
theorem dX7_write_39 : decode cX7_write 39 = .ok (.invokevirtual 123, 3) := by decide +kernel
theorem dX7_write_42 : decode cX7_write 42 = .ok (.ireturn, 1) := by decide +kernel
theorem dX7_write_43 : decode cX7_write 43 = .ok (.aload_n 0, 1) := by decide +kernel
theorem dX7_write_44 : decode cX7_write 44 = .ok (.getfield 30, 3) := by decide +kernel
theorem dX7_write_47 : decode cX7_write 47 = .ok (.iload_n 1, 1) := by decide +kernel
theorem dX7_write_48 : decode cX7_write 48 = .ok (.invokevirtual 147, 3) := by decide +kernel
theorem dX7_write_51 : decode cX7_write 51 = .ok (.aload_n 0, 1) := by decide +kernel
theorem dX7_write_52 : decode cX7_write 52 = .ok (.getfield 59, 3) := by decide +kernel
theorem dX7_write_55 : decode cX7_write 55 = .ok (.iload_n 2, 1) := by decide +kernel
theorem dX7_write_56 : decode cX7_write 56 = .ok (.aaload, 1) := by decide +kernel
theorem dX7_write_57 : decode cX7_write 57 = .ok (.getfield 127, 3) := by decide +kernel
theorem dX7_write_60 : decode cX7_write 60 = .ok (.aload_n 0, 1) := by decide +kernel
theorem dX7_write_61 : decode cX7_write 61 = .ok (.getfield 21, 3) := by decide +kernel
theorem dX7_write_64 : decode cX7_write 64 = .ok (.getfield 168, 3) := by decide +kernel
theorem dX7_write_67 : decode cX7_write 67 = .ok (.invokestatic 130, 3) := by decide +kernel
theorem dX7_write_70 : decode cX7_write 70 = .ok (.istore_n 3, 1) := by decide +kernel
theorem dX7_write_71 : decode cX7_write 71 = .ok (.iconst 0, 1) := by decide +kernel
theorem dX7_write_72 : decode cX7_write 72 = .ok (.istore 4, 2) := by decide +kernel
theorem dX7_write_74 : decode cX7_write 74 = .ok (.iload 4, 2) := by decide +kernel
theorem dX7_write_76 : decode cX7_write 76 = .ok (.iload_n 3, 1) := by decide +kernel
theorem dX7_write_77 : decode cX7_write 77 = .ok (.if_icmp .ge 30, 3) := by decide +kernel
theorem dX7_write_80 : decode cX7_write 80 = .ok (.aload_n 0, 1) := by decide +kernel
theorem dX7_write_81 : decode cX7_write 81 = .ok (.getfield 59, 3) := by decide +kernel
theorem dX7_write_84 : decode cX7_write 84 = .ok (.iload_n 2, 1) := by decide +kernel
theorem dX7_write_85 : decode cX7_write 85 = .ok (.aaload, 1) := by decide +kernel
theorem dX7_write_86 : decode cX7_write 86 = .ok (.iload 4, 2) := by decide +kernel
theorem dX7_write_88 : decode cX7_write 88 = .ok (.aload_n 0, 1) := by decide +kernel
theorem dX7_write_89 : decode cX7_write 89 = .ok (.getfield 30, 3) := by decide +kernel
theorem dX7_write_92 : decode cX7_write 92 = .ok (.getfield 260, 3) := by decide +kernel
theorem dX7_write_95 : decode cX7_write 95 = .ok (.iload 4, 2) := by decide +kernel
theorem dX7_write_97 : decode cX7_write 97 = .ok (.iaload, 1) := by decide +kernel
theorem dX7_write_98 : decode cX7_write 98 = .ok (.invokevirtual 241, 3) := by decide +kernel
theorem dX7_write_101 : decode cX7_write 101 = .ok (.iinc 4 1, 3) := by decide +kernel
theorem dX7_write_104 : decode cX7_write 104 = .ok (.goto (-30), 3) := by decide +kernel
theorem dX7_write_107 : decode cX7_write 107 = .ok (.iload_n 3, 1) := by decide +kernel
theorem dX7_write_108 : decode cX7_write 108 = .ok (.ireturn, 1) := by decide +kernel
set_option maxRecDepth 20000 in
theorem ggX7_count_X2_together : GoodIn wsX7_count wsX2_together := goodIn_r _ [15, 16, 111, 112, 113, 114, 115, 116, 117, 118, 119] (by decide +kernel) (by decide +kernel)
set_option maxRecDepth 20000 in
theorem gX7_count_X2_together : GoodIn wsX7_count (wsV RX7 154 RX2 yX2_together wsX2_together) := goodIn_app (goodIn_of _ (by decide +kernel)) ggX7_count_X2_together
set_option maxRecDepth 20000 in
theorem ggX7_count_X7_all : GoodIn wsX7_count wsX7_all := goodIn_r _ [21, 3, 4, 1, 22, 23, 20, 24, 25, 26, 27, 28, 29, 30, 31, 32, 33, 34, 14, 35, 36, 37, 38, 39, 40, 41, 42, 43, 44, 45, 46, 47, 48, 49, 50, 51, 52, 53, 54, 55, 56, 57, 58, 59, 60, 61, 62, 63, 64, 65, 66, 67, 68, 69, 70, 71, 72, 73, 16, 74, 75, 76, 77, 78, 79, 80, 81, 82, 83, 84, 85, 86, 87, 88, 89, 90, 11, 12, 13, 15, 103, 104, 105, 106, 107, 108, 109, 110, 120, 121, 122, 123, 124, 125, 126, 127, 128, 129, 130, 111, 112, 113, 114, 115, 116, 117, 118, 119] (by decide +kernel) (by decide +kernel)
set_option maxRecDepth 20000 in
theorem gX7_count_X7_all : GoodIn wsX7_count (wsV RX7 263 RX7 yX7_all wsX7_all) := goodIn_app (goodIn_of _ (by decide +kernel)) ggX7_count_X7_all
set_option maxRecDepth 20000 in
theorem ggX7_count_X0_meals : GoodIn wsX7_count wsX0_meals := goodIn_r _ [94, 95, 65, 66, 67, 28, 68, 69, 96, 97, 98, 99, 100, 101, 102, 120, 121, 122, 123, 124, 125, 126, 127, 128, 129, 130] (by decide +kernel) (by decide +kernel)
set_option maxRecDepth 20000 in
theorem gX7_count_X0_meals : GoodIn wsX7_count (wsV RX7 266 RX0 yX0_meals wsX0_meals) := goodIn_app (goodIn_of _ (by decide +kernel)) ggX7_count_X0_meals
theorem dX7_count_0 : decode cX7_count 0 = .ok (.iload_n 1, 1) := by decide +kernel
theorem dX7_count_1 : decode cX7_count 1 = .ok (.tableswitch 130 0 8 #[51, 59, 67, 77, 87, 95, 110, 117, 125], 51) := by decide +kernel
theorem dX7_count_52 : decode cX7_count 52 = .ok (.aload_n 0, 1) := by decide +kernel
theorem dX7_count_53 : decode cX7_count 53 = .ok (.getfield 21, 3) := by decide +kernel
theorem dX7_count_56 : decode cX7_count 56 = .ok (.getfield 168, 3) := by decide +kernel
theorem dX7_count_59 : decode cX7_count 59 = .ok (.ireturn, 1) := by decide +kernel
theorem dX7_count_60 : decode cX7_count 60 = .ok (.aload_n 0, 1) := by decide +kernel
theorem dX7_count_61 : decode cX7_count 61 = .ok (.getfield 30, 3) := by decide +kernel
theorem dX7_count_64 : decode cX7_count 64 = .ok (.getfield 144, 3) := by decide +kernel
theorem dX7_count_67 : decode cX7_count 67 = .ok (.ireturn, 1) := by decide +kernel
theorem dX7_count_68 : decode cX7_count 68 = .ok (.aload_n 0, 1) := by decide +kernel
theorem dX7_count_69 : decode cX7_count 69 = .ok (.getfield 14, 3) := by decide +kernel
theorem dX7_count_72 : decode cX7_count 72 = .ok (.iconst 0, 1) := by decide +kernel
theorem dX7_count_73 : decode cX7_count 73 = .ok (.aaload, 1) := by decide +kernel
theorem dX7_count_74 : decode cX7_count 74 = .ok (.getfield 86, 3) := by decide +kernel
theorem dX7_count_77 : decode cX7_count 77 = .ok (.ireturn, 1) := by decide +kernel
theorem dX7_count_78 : decode cX7_count 78 = .ok (.aload_n 0, 1) := by decide +kernel
theorem dX7_count_79 : decode cX7_count 79 = .ok (.getfield 14, 3) := by decide +kernel
theorem dX7_count_82 : decode cX7_count 82 = .ok (.iconst 1, 1) := by decide +kernel
theorem dX7_count_83 : decode cX7_count 83 = .ok (.aaload, 1) := by decide +kernel
theorem dX7_count_84 : decode cX7_count 84 = .ok (.getfield 86, 3) := by decide +kernel
theorem dX7_count_87 : decode cX7_count 87 = .ok (.ireturn, 1) := by decide +kernel
theorem dX7_count_88 : decode cX7_count 88 = .ok (.aload_n 0, 1) := by decide +kernel
theorem dX7_count_89 : decode cX7_count 89 = .ok (.getfield 53, 3) := by decide +kernel
theorem dX7_count_92 : decode cX7_count 92 = .ok (.getfield 208, 3) := by decide +kernel
theorem dX7_count_95 : decode cX7_count 95 = .ok (.ireturn, 1) := by decide +kernel
theorem dX7_count_96 : decode cX7_count 96 = .ok (.aload_n 0, 1) := by decide +kernel
theorem dX7_count_97 : decode cX7_count 97 = .ok (.getfield 21, 3) := by decide +kernel
theorem dX7_count_100 : decode cX7_count 100 = .ok (.aload_n 0, 1) := by decide +kernel
theorem dX7_count_101 : decode cX7_count 101 = .ok (.getfield 21, 3) := by decide +kernel
theorem dX7_count_104 : decode cX7_count 104 = .ok (.getfield 96, 3) := by decide +kernel
theorem dX7_count_107 : decode cX7_count 107 = .ok (.invokevirtual 154, 3) := by decide +kernel
theorem dX7_count_110 : decode cX7_count 110 = .ok (.ireturn, 1) := by decide +kernel
theorem dX7_count_111 : decode cX7_count 111 = .ok (.aload_n 0, 1) := by decide +kernel
theorem dX7_count_112 : decode cX7_count 112 = .ok (.iconst 0, 1) := by decide +kernel
theorem dX7_count_113 : decode cX7_count 113 = .ok (.iconst 0, 1) := by decide +kernel
theorem dX7_count_114 : decode cX7_count 114 = .ok (.invokevirtual 263, 3) := by decide +kernel
theorem dX7_count_117 : decode cX7_count 117 = .ok (.ireturn, 1) := by decide +kernel
theorem dX7_count_118 : decode cX7_count 118 = .ok (.aload_n 0, 1) := by decide +kernel
theorem dX7_count_119 : decode cX7_count 119 = .ok (.getfield 30, 3) := by decide +kernel
theorem dX7_count_122 : decode cX7_count 122 = .ok (.invokevirtual 266, 3) := by decide +kernel
theorem dX7_count_125 : decode cX7_count 125 = .ok (.ireturn, 1) := by decide +kernel
theorem dX7_count_126 : decode cX7_count 126 = .ok (.aload_n 0, 1) := by decide +kernel
theorem dX7_count_127 : decode cX7_count 127 = .ok (.getfield 64, 3) := by decide +kernel
theorem dX7_count_130 : decode cX7_count 130 = .ok (.ireturn, 1) := by decide +kernel
theorem dX7_count_131 : decode cX7_count 131 = .ok (.bipush (-2), 2) := by decide +kernel
theorem dX7_count_133 : decode cX7_count 133 = .ok (.ireturn, 1) := by decide +kernel
set_option maxRecDepth 20000 in
theorem ggX7_digest_X7_count : GoodIn wsX7_digest wsX7_count := goodIn_r _ [13, 4, 5, 6, 7, 14, 15, 16, 17, 18, 19, 20, 21, 22, 23, 24, 25, 26, 27, 28, 12, 29, 30, 31, 32, 33, 34, 35, 36, 37, 38, 39, 40, 41, 42, 43, 44, 45, 46, 47, 48, 49, 50, 51, 52, 53, 54, 55, 56, 57, 58, 59, 60, 61, 62, 63, 64, 65, 66, 67, 68, 69, 70, 71, 72, 73, 74, 75, 76, 77, 78, 79, 80, 81, 82, 83, 84, 85, 86, 87, 88, 89, 90, 91, 92, 93, 94, 95, 96, 97, 98, 99, 100, 101, 102, 103, 104, 105, 106, 107, 108, 109, 110, 305, 306, 307, 308, 309, 310, 311, 312, 313, 314, 315, 316, 317, 318, 319, 320, 321, 322, 323, 324, 325, 326, 327, 328, 329, 330, 331, 332, 343, 344, 345, 346, 347, 348, 349, 350, 351] (by decide +kernel) (by decide +kernel)
set_option maxRecDepth 20000 in
theorem gX7_digest_X7_count : GoodIn wsX7_digest (wsV RX7 271 RX7 yX7_count wsX7_count) := goodIn_app (goodIn_of _ (by decide +kernel)) ggX7_digest_X7_count
set_option maxRecDepth 20000 in
theorem ggX7_digest_X7_mixed : GoodIn wsX7_digest wsX7_mixed := goodIn_r _ [113, 114] (by decide +kernel) (by decide +kernel)
set_option maxRecDepth 20000 in
theorem gX7_digest_X7_mixed : GoodIn wsX7_digest (va_wsS RX7 274 yX7_mixed wsX7_mixed) := goodIn_app (goodIn_of _ (by decide +kernel)) ggX7_digest_X7_mixed
set_option maxRecDepth 20000 in
theorem ggX7_digest_X7_fault : GoodIn wsX7_digest wsX7_fault := goodIn_r _ [118, 4, 119, 6, 120, 121, 122, 12, 123, 30, 31, 32, 305, 306, 307, 308, 309, 310, 311, 312, 313, 314, 315, 316, 317, 318, 319, 320, 321, 322, 323, 324, 325, 326, 327, 328, 329, 330, 331, 332] (by decide +kernel) (by decide +kernel)
set_option maxRecDepth 20000 in
theorem gX7_digest_X7_fault : GoodIn wsX7_digest (wsV RX7 278 RX7 yX7_fault wsX7_fault) := goodIn_app (goodIn_of _ (by decide +kernel)) ggX7_digest_X7_fault
set_option maxRecDepth 20000 in
theorem ggX7_digest_X3_findRests : GoodIn wsX7_digest wsX3_findRests := goodIn_r _ [128, 129, 130, 131, 132, 133, 134, 135, 127, 136, 137, 138, 139, 140, 141, 68, 52, 69, 142, 41, 42, 23, 43, 44, 45, 46, 47, 48, 49, 50, 51, 53, 143, 79, 80, 81, 25, 82, 83, 84, 85, 86, 87, 88, 89, 144, 145, 146, 147, 148, 149, 150, 151, 152, 153, 154, 155, 156, 333, 334, 335, 336, 337, 338, 339, 340, 341, 342, 313, 314, 315, 316, 317, 318, 319, 320, 321] (by decide +kernel) (by decide +kernel)
set_option maxRecDepth 20000 in
theorem gX7_digest_X3_findRests : GoodIn wsX7_digest (wsV RX7 185 RX3 yX3_findRests wsX3_findRests) := goodIn_app (goodIn_of _ (by decide +kernel)) ggX7_digest_X3_findRests
set_option maxRecDepth 20000 in
theorem ggX7_digest_X1_follow : GoodIn wsX7_digest wsX1_follow := goodIn_r _ [161, 162, 163, 164, 165, 166, 167, 168, 41, 42, 23, 43, 44, 45, 46, 47, 48, 49, 50, 51, 52, 53, 169, 170, 171, 160, 172, 173, 174, 175, 176, 177, 178, 179, 180, 181, 182, 183, 184, 185, 186, 68, 69, 187, 79, 80, 81, 25, 82, 83, 84, 85, 86, 87, 88, 89, 352, 353, 354, 355, 313, 314, 315, 316, 317, 318, 319, 320, 321] (by decide +kernel) (by decide +kernel)
set_option maxRecDepth 20000 in
theorem gX7_digest_X1_follow : GoodIn wsX7_digest (wsV RX7 194 RX1 yX1_follow wsX1_follow) := goodIn_app (goodIn_of _ (by decide +kernel)) ggX7_digest_X1_follow
set_option maxRecDepth 20000 in
theorem ggX7_digest_X7_mixedPerson : GoodIn wsX7_digest wsX7_mixedPerson := goodIn_r _ [191, 6, 7, 2, 3, 16, 192, 193, 194, 12, 195, 4, 18, 196, 197, 198, 199, 200, 5, 30, 31, 32, 111, 112, 113, 114, 33, 34, 35, 36, 37, 38, 39, 40, 41, 42, 23, 43, 44, 45, 46, 47, 48, 49, 50, 51, 52, 53, 54, 55, 56, 57, 58, 59, 60, 61, 62, 63, 64, 65, 66, 67, 68, 69, 70, 71, 72, 73, 74, 75, 76, 77, 78, 79, 80, 81, 25, 82, 83, 84, 85, 86, 87, 88, 89, 90, 91, 92, 93, 94, 95, 96, 97, 98, 201, 202, 203, 127, 204, 130, 149, 150, 151, 152, 131, 132, 205, 206, 207, 160, 208, 209, 210, 211, 212, 165, 167, 213, 214, 215, 216, 162, 163, 177, 178, 179, 217, 218, 219, 220, 221, 222, 223, 224, 225, 226, 227, 228, 229, 230, 231, 232, 233, 234, 235, 236, 237, 238, 239, 240, 241, 242, 305, 306, 307, 308, 309, 310, 311, 312, 322, 323, 324, 325, 326, 327, 328, 329, 330, 331, 332, 313, 314, 315, 316, 317, 318, 319, 320, 321, 333, 334, 335, 336, 337, 338, 339, 340, 341, 342, 352, 353, 354, 355, 345, 346, 347, 348, 349, 350, 351] (by decide +kernel) (by decide +kernel)
set_option maxRecDepth 20000 in
theorem gX7_digest_X7_mixedPerson : GoodIn wsX7_digest (wsV RX7 281 RX7 yX7_mixedPerson wsX7_mixedPerson) := goodIn_app (goodIn_of _ (by decide +kernel)) ggX7_digest_X7_mixedPerson
set_option maxRecDepth 20000 in
theorem ggX7_digest_X7_mixedRound : GoodIn wsX7_digest wsX7_mixedRound := goodIn_r _ [246, 2, 247, 248, 249, 12, 250, 6, 4, 251, 252, 253, 254, 255, 7, 30, 31, 32, 33, 34, 35, 36, 37, 38, 39, 40, 41, 42, 23, 43, 44, 45, 46, 47, 48, 49, 50, 51, 52, 53, 54, 55, 56, 57, 58, 59, 60, 61, 62, 63, 64, 65, 66, 67, 68, 69, 70, 71, 72, 73, 74, 75, 76, 77, 78, 79, 80, 81, 25, 82, 83, 84, 85, 86, 87, 88, 89, 90, 91, 92, 93, 94, 256, 257, 111, 112, 113, 114, 258, 259, 260, 127, 261, 262, 263, 264, 131, 137, 265, 266, 139, 142, 267, 268, 269, 270, 271, 272, 273, 274, 275, 276, 277, 305, 306, 307, 308, 309, 310, 311, 312, 322, 323, 324, 325, 326, 327, 328, 329, 330, 331, 332, 313, 314, 315, 316, 317, 318, 319, 320, 321, 333, 334, 335, 336, 337, 338, 339, 340, 341, 342] (by decide +kernel) (by decide +kernel)
set_option maxRecDepth 20000 in
theorem gX7_digest_X7_mixedRound : GoodIn wsX7_digest (wsV RX7 284 RX7 yX7_mixedRound wsX7_mixedRound) := goodIn_app (goodIn_of _ (by decide +kernel)) ggX7_digest_X7_mixedRound
set_option maxRecDepth 20000 in
theorem ggX7_digest_X7_beggars : GoodIn wsX7_digest wsX7_beggars := goodIn_r _ [281, 6, 7, 4, 5, 282, 283, 33, 34, 35, 36, 37, 38, 39, 40, 41, 42, 23, 43, 44, 45, 46, 47, 48, 49, 50, 51, 52, 53, 54, 55, 56, 57, 58, 59, 60, 61, 62, 63, 64, 65, 66, 67, 68, 69, 70, 71, 72, 73, 74, 75, 76, 77, 78, 79, 80, 81, 25, 82, 83, 84, 85, 86, 87, 88, 89, 90, 91, 92, 93, 94, 305, 306, 307, 308, 309, 310, 311, 312, 322, 323, 324, 325, 326, 327, 328, 329, 330, 331, 332, 313, 314, 315, 316, 317, 318, 319, 320, 321] (by decide +kernel) (by decide +kernel)
set_option maxRecDepth 20000 in
theorem gX7_digest_X7_beggars : GoodIn wsX7_digest (wsV RX7 287 RX7 yX7_beggars wsX7_beggars) := goodIn_app (goodIn_of _ (by decide +kernel)) ggX7_digest_X7_beggars
set_option maxRecDepth 20000 in
theorem ggX7_digest_X1_fewestAlike : GoodIn wsX7_digest wsX1_fewestAlike := goodIn_r _ [287, 209, 210, 211, 160, 212, 165, 167, 213, 214, 215, 216, 162, 163, 177, 178, 179, 352, 353, 354, 355, 313, 314, 315, 316, 317, 318, 319, 320, 321] (by decide +kernel) (by decide +kernel)
set_option maxRecDepth 20000 in
theorem gX7_digest_X1_fewestAlike : GoodIn wsX7_digest (wsV RX7 200 RX1 yX1_fewestAlike wsX1_fewestAlike) := goodIn_app (goodIn_of _ (by decide +kernel)) ggX7_digest_X1_fewestAlike
set_option maxRecDepth 20000 in
theorem ggX7_digest_X7_unlike : GoodIn wsX7_digest wsX7_unlike := goodIn_r _ [291, 6, 7, 16, 33, 34, 35, 36, 37, 38, 39, 40, 41, 42, 23, 43, 44, 45, 46, 47, 48, 49, 50, 51, 52, 53, 54, 55, 56, 57, 58, 59, 60, 61, 62, 63, 64, 65, 66, 67, 68, 69, 70, 71, 72, 73, 74, 75, 76, 77, 78, 79, 80, 81, 25, 82, 83, 84, 85, 86, 87, 88, 89, 90, 91, 92, 93, 94, 292, 230, 231, 220, 232, 233, 234, 224, 226, 235, 222, 236, 237, 238, 239, 240, 241, 242, 305, 306, 307, 308, 309, 310, 311, 312, 322, 323, 324, 325, 326, 327, 328, 329, 330, 331, 332, 313, 314, 315, 316, 317, 318, 319, 320, 321, 345, 346, 347, 348, 349, 350, 351] (by decide +kernel) (by decide +kernel)
set_option maxRecDepth 20000 in
theorem gX7_digest_X7_unlike : GoodIn wsX7_digest (wsV RX7 290 RX7 yX7_unlike wsX7_unlike) := goodIn_app (goodIn_of _ (by decide +kernel)) ggX7_digest_X7_unlike
set_option maxRecDepth 20000 in
theorem ggX7_digest_X7_luck : GoodIn wsX7_digest wsX7_luck := goodIn_r _ [296, 297, 298, 68, 52, 69, 30, 31, 12, 32, 299, 300, 301, 302, 303, 304] (by decide +kernel) (by decide +kernel)
set_option maxRecDepth 20000 in
theorem gX7_digest_X7_luck : GoodIn wsX7_digest (wsV RX7 293 RX7 yX7_luck wsX7_luck) := goodIn_app (goodIn_of _ (by decide +kernel)) ggX7_digest_X7_luck
theorem dX7_digest_0 : decode cX7_digest 0 = .ok (.ldc2_w 269, 3) := by decide +kernel
theorem dX7_digest_3 : decode cX7_digest 3 = .ok (.lstore_n 1, 1) := by decide +kernel
theorem dX7_digest_4 : decode cX7_digest 4 = .ok (.iconst 0, 1) := by decide +kernel
theorem dX7_digest_5 : decode cX7_digest 5 = .ok (.istore_n 3, 1) := by decide +kernel
theorem dX7_digest_6 : decode cX7_digest 6 = .ok (.iload_n 3, 1) := by decide +kernel
theorem dX7_digest_7 : decode cX7_digest 7 = .ok (.bipush 7, 2) := by decide +kernel
theorem dX7_digest_9 : decode cX7_digest 9 = .ok (.if_icmp .gt 20, 3) := by decide +kernel
theorem dX7_digest_12 : decode cX7_digest 12 = .ok (.lload_n 1, 1) := by decide +kernel
theorem dX7_digest_13 : decode cX7_digest 13 = .ok (.aload_n 0, 1) := by decide +kernel
theorem dX7_digest_14 : decode cX7_digest 14 = .ok (.iload_n 3, 1) := by decide +kernel
theorem dX7_digest_15 : decode cX7_digest 15 = .ok (.invokevirtual 271, 3) := by decide +kernel
theorem dX7_digest_18 : decode cX7_digest 18 = .ok (.i2l, 1) := by decide +kernel
theorem dX7_digest_19 : decode cX7_digest 19 = .ok (.invokestatic 274, 3) := by decide +kernel
theorem dX7_digest_22 : decode cX7_digest 22 = .ok (.lstore_n 1, 1) := by decide +kernel
theorem dX7_digest_23 : decode cX7_digest 23 = .ok (.iinc 3 1, 3) := by decide +kernel
theorem dX7_digest_26 : decode cX7_digest 26 = .ok (.goto (-20), 3) := by decide +kernel
theorem dX7_digest_29 : decode cX7_digest 29 = .ok (.lload_n 1, 1) := by decide +kernel
theorem dX7_digest_30 : decode cX7_digest 30 = .ok (.aload_n 0, 1) := by decide +kernel
theorem dX7_digest_31 : decode cX7_digest 31 = .ok (.iconst 0, 1) := by decide +kernel
theorem dX7_digest_32 : decode cX7_digest 32 = .ok (.invokevirtual 278, 3) := by decide +kernel
theorem dX7_digest_35 : decode cX7_digest 35 = .ok (.i2l, 1) := by decide +kernel
theorem dX7_digest_36 : decode cX7_digest 36 = .ok (.invokestatic 274, 3) := by decide +kernel
theorem dX7_digest_39 : decode cX7_digest 39 = .ok (.aload_n 0, 1) := by decide +kernel
theorem dX7_digest_40 : decode cX7_digest 40 = .ok (.iconst 1, 1) := by decide +kernel
theorem dX7_digest_41 : decode cX7_digest 41 = .ok (.invokevirtual 278, 3) := by decide +kernel
theorem dX7_digest_44 : decode cX7_digest 44 = .ok (.i2l, 1) := by decide +kernel
theorem dX7_digest_45 : decode cX7_digest 45 = .ok (.invokestatic 274, 3) := by decide +kernel
theorem dX7_digest_48 : decode cX7_digest 48 = .ok (.lstore_n 1, 1) := by decide +kernel
theorem dX7_digest_49 : decode cX7_digest 49 = .ok (.aload_n 0, 1) := by decide +kernel
theorem dX7_digest_50 : decode cX7_digest 50 = .ok (.getfield 39, 3) := by decide +kernel
theorem dX7_digest_53 : decode cX7_digest 53 = .ok (.invokevirtual 185, 3) := by decide +kernel
theorem dX7_digest_56 : decode cX7_digest 56 = .ok (.aload_n 0, 1) := by decide +kernel
theorem dX7_digest_57 : decode cX7_digest 57 = .ok (.getfield 46, 3) := by decide +kernel
theorem dX7_digest_60 : decode cX7_digest 60 = .ok (.invokevirtual 194, 3) := by decide +kernel
theorem dX7_digest_63 : decode cX7_digest 63 = .ok (.iconst 0, 1) := by decide +kernel
theorem dX7_digest_64 : decode cX7_digest 64 = .ok (.istore_n 3, 1) := by decide +kernel
theorem dX7_digest_65 : decode cX7_digest 65 = .ok (.iload_n 3, 1) := by decide +kernel
theorem dX7_digest_66 : decode cX7_digest 66 = .ok (.aload_n 0, 1) := by decide +kernel
theorem dX7_digest_67 : decode cX7_digest 67 = .ok (.getfield 21, 3) := by decide +kernel
theorem dX7_digest_70 : decode cX7_digest 70 = .ok (.getfield 168, 3) := by decide +kernel
theorem dX7_digest_73 : decode cX7_digest 73 = .ok (.if_icmp .ge 16, 3) := by decide +kernel
theorem dX7_digest_76 : decode cX7_digest 76 = .ok (.aload_n 0, 1) := by decide +kernel
theorem dX7_digest_77 : decode cX7_digest 77 = .ok (.lload_n 1, 1) := by decide +kernel
theorem dX7_digest_78 : decode cX7_digest 78 = .ok (.iload_n 3, 1) := by decide +kernel
theorem dX7_digest_79 : decode cX7_digest 79 = .ok (.invokevirtual 281, 3) := by decide +kernel
theorem dX7_digest_82 : decode cX7_digest 82 = .ok (.lstore_n 1, 1) := by decide +kernel
theorem dX7_digest_83 : decode cX7_digest 83 = .ok (.iinc 3 1, 3) := by decide +kernel
theorem dX7_digest_86 : decode cX7_digest 86 = .ok (.goto (-21), 3) := by decide +kernel
theorem dX7_digest_89 : decode cX7_digest 89 = .ok (.iconst 0, 1) := by decide +kernel
theorem dX7_digest_90 : decode cX7_digest 90 = .ok (.istore_n 3, 1) := by decide +kernel
theorem dX7_digest_91 : decode cX7_digest 91 = .ok (.iload_n 3, 1) := by decide +kernel
theorem dX7_digest_92 : decode cX7_digest 92 = .ok (.aload_n 0, 1) := by decide +kernel
theorem dX7_digest_93 : decode cX7_digest 93 = .ok (.getfield 30, 3) := by decide +kernel
theorem dX7_digest_96 : decode cX7_digest 96 = .ok (.getfield 144, 3) := by decide +kernel
theorem dX7_digest_99 : decode cX7_digest 99 = .ok (.if_icmp .ge 16, 3) := by decide +kernel
theorem dX7_digest_102 : decode cX7_digest 102 = .ok (.aload_n 0, 1) := by decide +kernel
theorem dX7_digest_103 : decode cX7_digest 103 = .ok (.lload_n 1, 1) := by decide +kernel
theorem dX7_digest_104 : decode cX7_digest 104 = .ok (.iload_n 3, 1) := by decide +kernel
theorem dX7_digest_105 : decode cX7_digest 105 = .ok (.invokevirtual 284, 3) := by decide +kernel
theorem dX7_digest_108 : decode cX7_digest 108 = .ok (.lstore_n 1, 1) := by decide +kernel
theorem dX7_digest_109 : decode cX7_digest 109 = .ok (.iinc 3 1, 3) := by decide +kernel
theorem dX7_digest_112 : decode cX7_digest 112 = .ok (.goto (-21), 3) := by decide +kernel
theorem dX7_digest_115 : decode cX7_digest 115 = .ok (.lload_n 1, 1) := by decide +kernel
theorem dX7_digest_116 : decode cX7_digest 116 = .ok (.aload_n 0, 1) := by decide +kernel
theorem dX7_digest_117 : decode cX7_digest 117 = .ok (.invokevirtual 287, 3) := by decide +kernel
