theorem dX7_digest_120 : decode cX7_digest 120 = .ok (.i2l, 1) := by decide +kernel
theorem dX7_digest_121 : decode cX7_digest 121 = .ok (.invokestatic 274, 3) := by decide +kernel
theorem dX7_digest_124 : decode cX7_digest 124 = .ok (.aload_n 0, 1) := by decide +kernel
theorem dX7_digest_125 : decode cX7_digest 125 = .ok (.getfield 39, 3) := by decide +kernel
theorem dX7_digest_128 : decode cX7_digest 128 = .ok (.getfield 188, 3) := by decide +kernel
theorem dX7_digest_131 : decode cX7_digest 131 = .ok (.i2l, 1) := by decide +kernel
theorem dX7_digest_132 : decode cX7_digest 132 = .ok (.invokestatic 274, 3) := by decide +kernel
theorem dX7_digest_135 : decode cX7_digest 135 = .ok (.lstore_n 1, 1) := by decide +kernel
theorem dX7_digest_136 : decode cX7_digest 136 = .ok (.lload_n 1, 1) := by decide +kernel
theorem dX7_digest_137 : decode cX7_digest 137 = .ok (.aload_n 0, 1) := by decide +kernel
theorem dX7_digest_138 : decode cX7_digest 138 = .ok (.getfield 46, 3) := by decide +kernel
theorem dX7_digest_141 : decode cX7_digest 141 = .ok (.invokevirtual 200, 3) := by decide +kernel
theorem dX7_digest_144 : decode cX7_digest 144 = .ok (.i2l, 1) := by decide +kernel
theorem dX7_digest_145 : decode cX7_digest 145 = .ok (.invokestatic 274, 3) := by decide +kernel
theorem dX7_digest_148 : decode cX7_digest 148 = .ok (.aload_n 0, 1) := by decide +kernel
theorem dX7_digest_149 : decode cX7_digest 149 = .ok (.invokevirtual 290, 3) := by decide +kernel
theorem dX7_digest_152 : decode cX7_digest 152 = .ok (.i2l, 1) := by decide +kernel
theorem dX7_digest_153 : decode cX7_digest 153 = .ok (.invokestatic 274, 3) := by decide +kernel
theorem dX7_digest_156 : decode cX7_digest 156 = .ok (.lstore_n 1, 1) := by decide +kernel
theorem dX7_digest_157 : decode cX7_digest 157 = .ok (.lload_n 1, 1) := by decide +kernel
theorem dX7_digest_158 : decode cX7_digest 158 = .ok (.aload_n 0, 1) := by decide +kernel
theorem dX7_digest_159 : decode cX7_digest 159 = .ok (.iconst 2, 1) := by decide +kernel
theorem dX7_digest_160 : decode cX7_digest 160 = .ok (.bipush 30, 2) := by decide +kernel
theorem dX7_digest_162 : decode cX7_digest 162 = .ok (.bipush 50, 2) := by decide +kernel
theorem dX7_digest_164 : decode cX7_digest 164 = .ok (.iconst 0, 1) := by decide +kernel
theorem dX7_digest_165 : decode cX7_digest 165 = .ok (.invokevirtual 293, 3) := by decide +kernel
theorem dX7_digest_168 : decode cX7_digest 168 = .ok (.invokestatic 274, 3) := by decide +kernel
theorem dX7_digest_171 : decode cX7_digest 171 = .ok (.aload_n 0, 1) := by decide +kernel
theorem dX7_digest_172 : decode cX7_digest 172 = .ok (.iconst 2, 1) := by decide +kernel
theorem dX7_digest_173 : decode cX7_digest 173 = .ok (.bipush 30, 2) := by decide +kernel
theorem dX7_digest_175 : decode cX7_digest 175 = .ok (.bipush 50, 2) := by decide +kernel
theorem dX7_digest_177 : decode cX7_digest 177 = .ok (.iconst 1, 1) := by decide +kernel
theorem dX7_digest_178 : decode cX7_digest 178 = .ok (.invokevirtual 293, 3) := by decide +kernel
theorem dX7_digest_181 : decode cX7_digest 181 = .ok (.invokestatic 274, 3) := by decide +kernel
theorem dX7_digest_184 : decode cX7_digest 184 = .ok (.lreturn, 1) := by decide +kernel
set_option maxRecDepth 20000 in
theorem ggX7_mixedPerson_X7_person : GoodIn wsX7_mixedPerson wsX7_person := goodIn_r _ [10, 11, 12, 13, 14, 15, 16, 9, 17, 18, 19, 20, 21, 152, 153, 154, 155, 156, 157, 158, 159, 171, 172, 173, 174, 175, 176, 177, 178, 179] (by decide +kernel) (by decide +kernel)
set_option maxRecDepth 20000 in
theorem gX7_mixedPerson_X7_person : GoodIn wsX7_mixedPerson (wsV RX7 297 RX7 yX7_person wsX7_person) := goodIn_app (goodIn_of _ (by decide +kernel)) ggX7_mixedPerson_X7_person
set_option maxRecDepth 20000 in
theorem ggX7_mixedPerson_X7_mixed : GoodIn wsX7_mixedPerson wsX7_mixed := goodIn_r _ [24, 25] (by decide +kernel) (by decide +kernel)
set_option maxRecDepth 20000 in
theorem gX7_mixedPerson_X7_mixed : GoodIn wsX7_mixedPerson (va_wsS RX7 274 yX7_mixed wsX7_mixed) := goodIn_app (goodIn_of _ (by decide +kernel)) ggX7_mixedPerson_X7_mixed
set_option maxRecDepth 20000 in
theorem ggX7_mixedPerson_X0_play : GoodIn wsX7_mixedPerson wsX0_play := goodIn_r _ [30, 31, 32, 33, 34, 35, 36, 37, 38, 39, 40, 41, 42, 43, 44, 45, 46, 47, 48, 49, 50, 29, 51, 52, 53, 54, 55, 56, 57, 58, 59, 60, 61, 62, 63, 64, 65, 66, 67, 68, 69, 70, 71, 72, 73, 74, 75, 76, 77, 78, 79, 80, 81, 82, 83, 84, 85, 86, 87, 88, 89, 160, 161, 162, 163, 164, 165, 166, 167, 168, 169, 170, 171, 172, 173, 174, 175, 176, 177, 178, 179] (by decide +kernel) (by decide +kernel)
set_option maxRecDepth 20000 in
theorem gX7_mixedPerson_X0_play : GoodIn wsX7_mixedPerson (wsV RX7 147 RX0 yX0_play wsX0_play) := goodIn_app (goodIn_of _ (by decide +kernel)) ggX7_mixedPerson_X0_play
set_option maxRecDepth 20000 in
theorem ggX7_mixedPerson_X0_sumsOf : GoodIn wsX7_mixedPerson wsX0_sumsOf := goodIn_r _ [93, 32, 52, 53, 54, 160, 161, 162, 163, 164, 165, 166, 167, 168, 169, 170] (by decide +kernel) (by decide +kernel)
set_option maxRecDepth 20000 in
theorem gX7_mixedPerson_X0_sumsOf : GoodIn wsX7_mixedPerson (wsV RX7 150 RX0 yX0_sumsOf wsX0_sumsOf) := goodIn_app (goodIn_of _ (by decide +kernel)) ggX7_mixedPerson_X0_sumsOf
set_option maxRecDepth 20000 in
theorem ggX7_mixedPerson_X3_firstRestTable : GoodIn wsX7_mixedPerson wsX3_firstRestTable := goodIn_r _ [98, 99, 100, 101, 102, 97, 103, 104, 105, 180, 181, 182, 183, 184, 185, 186, 187, 188, 189, 171, 172, 173, 174, 175, 176, 177, 178, 179] (by decide +kernel) (by decide +kernel)
set_option maxRecDepth 20000 in
theorem gX7_mixedPerson_X3_firstRestTable : GoodIn wsX7_mixedPerson (wsV RX7 191 RX3 yX3_firstRestTable wsX3_firstRestTable) := goodIn_app (goodIn_of _ (by decide +kernel)) ggX7_mixedPerson_X3_firstRestTable
set_option maxRecDepth 20000 in
theorem ggX7_mixedPerson_X1_fewestDown : GoodIn wsX7_mixedPerson wsX1_fewestDown := goodIn_r _ [110, 111, 112, 113, 109, 114, 115, 116, 117, 118, 119, 120, 121, 122, 123, 124, 125, 190, 191, 192, 193, 171, 172, 173, 174, 175, 176, 177, 178, 179] (by decide +kernel) (by decide +kernel)
set_option maxRecDepth 20000 in
theorem gX7_mixedPerson_X1_fewestDown : GoodIn wsX7_mixedPerson (wsV RX7 197 RX1 yX1_fewestDown wsX1_fewestDown) := goodIn_app (goodIn_of _ (by decide +kernel)) ggX7_mixedPerson_X1_fewestDown
set_option maxRecDepth 20000 in
theorem ggX7_mixedPerson_X4_leastHidden : GoodIn wsX7_mixedPerson wsX4_leastHidden := goodIn_r _ [130, 131, 132, 133, 134, 135, 136, 34, 35, 36, 37, 38, 39, 40, 41, 42, 43, 44, 45, 46, 47, 137, 49, 50, 29, 51, 52, 53, 54, 55, 56, 57, 58, 31, 32, 59, 60, 61, 62, 63, 64, 65, 66, 67, 68, 69, 70, 71, 72, 73, 74, 75, 76, 77, 78, 79, 80, 81, 82, 83, 84, 85, 86, 87, 88, 89, 138, 139, 140, 129, 141, 142, 143, 144, 145, 146, 147, 148, 149, 150, 151, 194, 195, 196, 197, 198, 199, 200, 171, 172, 173, 174, 175, 176, 177, 178, 179, 160, 161, 162, 163, 164, 165, 166, 167, 168, 169, 170] (by decide +kernel) (by decide +kernel)
set_option maxRecDepth 20000 in
theorem gX7_mixedPerson_X4_leastHidden : GoodIn wsX7_mixedPerson (wsV RX7 218 RX4 yX4_leastHidden wsX4_leastHidden) := goodIn_app (goodIn_of _ (by decide +kernel)) ggX7_mixedPerson_X4_leastHidden
theorem dX7_mixedPerson_0 : decode cX7_mixedPerson 0 = .ok (.lload_n 1, 1) := by decide +kernel
theorem dX7_mixedPerson_1 : decode cX7_mixedPerson 1 = .ok (.aload_n 0, 1) := by decide +kernel
theorem dX7_mixedPerson_2 : decode cX7_mixedPerson 2 = .ok (.iload_n 3, 1) := by decide +kernel
theorem dX7_mixedPerson_3 : decode cX7_mixedPerson 3 = .ok (.iconst 0, 1) := by decide +kernel
theorem dX7_mixedPerson_4 : decode cX7_mixedPerson 4 = .ok (.invokevirtual 297, 3) := by decide +kernel
theorem dX7_mixedPerson_7 : decode cX7_mixedPerson 7 = .ok (.i2l, 1) := by decide +kernel
theorem dX7_mixedPerson_8 : decode cX7_mixedPerson 8 = .ok (.invokestatic 274, 3) := by decide +kernel
theorem dX7_mixedPerson_11 : decode cX7_mixedPerson 11 = .ok (.aload_n 0, 1) := by decide +kernel
theorem dX7_mixedPerson_12 : decode cX7_mixedPerson 12 = .ok (.iload_n 3, 1) := by decide +kernel
theorem dX7_mixedPerson_13 : decode cX7_mixedPerson 13 = .ok (.iconst 1, 1) := by decide +kernel
theorem dX7_mixedPerson_14 : decode cX7_mixedPerson 14 = .ok (.invokevirtual 297, 3) := by decide +kernel
theorem dX7_mixedPerson_17 : decode cX7_mixedPerson 17 = .ok (.i2l, 1) := by decide +kernel
theorem dX7_mixedPerson_18 : decode cX7_mixedPerson 18 = .ok (.invokestatic 274, 3) := by decide +kernel
theorem dX7_mixedPerson_21 : decode cX7_mixedPerson 21 = .ok (.lstore 4, 2) := by decide +kernel
theorem dX7_mixedPerson_23 : decode cX7_mixedPerson 23 = .ok (.aload_n 0, 1) := by decide +kernel
theorem dX7_mixedPerson_24 : decode cX7_mixedPerson 24 = .ok (.getfield 30, 3) := by decide +kernel
theorem dX7_mixedPerson_27 : decode cX7_mixedPerson 27 = .ok (.aload_n 0, 1) := by decide +kernel
theorem dX7_mixedPerson_28 : decode cX7_mixedPerson 28 = .ok (.getfield 30, 3) := by decide +kernel
theorem dX7_mixedPerson_31 : decode cX7_mixedPerson 31 = .ok (.getfield 144, 3) := by decide +kernel
theorem dX7_mixedPerson_34 : decode cX7_mixedPerson 34 = .ok (.invokevirtual 147, 3) := by decide +kernel
theorem dX7_mixedPerson_37 : decode cX7_mixedPerson 37 = .ok (.iconst 0, 1) := by decide +kernel
theorem dX7_mixedPerson_38 : decode cX7_mixedPerson 38 = .ok (.istore 6, 2) := by decide +kernel
theorem dX7_mixedPerson_40 : decode cX7_mixedPerson 40 = .ok (.iload 6, 2) := by decide +kernel
theorem dX7_mixedPerson_42 : decode cX7_mixedPerson 42 = .ok (.iconst 3, 1) := by decide +kernel
theorem dX7_mixedPerson_43 : decode cX7_mixedPerson 43 = .ok (.if_icmp .gt 28, 3) := by decide +kernel
theorem dX7_mixedPerson_46 : decode cX7_mixedPerson 46 = .ok (.lload 4, 2) := by decide +kernel
theorem dX7_mixedPerson_48 : decode cX7_mixedPerson 48 = .ok (.aload_n 0, 1) := by decide +kernel
theorem dX7_mixedPerson_49 : decode cX7_mixedPerson 49 = .ok (.getfield 30, 3) := by decide +kernel
theorem dX7_mixedPerson_52 : decode cX7_mixedPerson 52 = .ok (.iload 6, 2) := by decide +kernel
theorem dX7_mixedPerson_54 : decode cX7_mixedPerson 54 = .ok (.invokevirtual 150, 3) := by decide +kernel
theorem dX7_mixedPerson_57 : decode cX7_mixedPerson 57 = .ok (.iload_n 3, 1) := by decide +kernel
theorem dX7_mixedPerson_58 : decode cX7_mixedPerson 58 = .ok (.iaload, 1) := by decide +kernel
theorem dX7_mixedPerson_59 : decode cX7_mixedPerson 59 = .ok (.i2l, 1) := by decide +kernel
theorem dX7_mixedPerson_60 : decode cX7_mixedPerson 60 = .ok (.invokestatic 274, 3) := by decide +kernel
theorem dX7_mixedPerson_63 : decode cX7_mixedPerson 63 = .ok (.lstore 4, 2) := by decide +kernel
theorem dX7_mixedPerson_65 : decode cX7_mixedPerson 65 = .ok (.iinc 6 1, 3) := by decide +kernel
theorem dX7_mixedPerson_68 : decode cX7_mixedPerson 68 = .ok (.goto (-28), 3) := by decide +kernel
theorem dX7_mixedPerson_71 : decode cX7_mixedPerson 71 = .ok (.lload 4, 2) := by decide +kernel
theorem dX7_mixedPerson_73 : decode cX7_mixedPerson 73 = .ok (.aload_n 0, 1) := by decide +kernel
theorem dX7_mixedPerson_74 : decode cX7_mixedPerson 74 = .ok (.getfield 39, 3) := by decide +kernel
theorem dX7_mixedPerson_77 : decode cX7_mixedPerson 77 = .ok (.iload_n 3, 1) := by decide +kernel
theorem dX7_mixedPerson_78 : decode cX7_mixedPerson 78 = .ok (.invokevirtual 191, 3) := by decide +kernel
theorem dX7_mixedPerson_81 : decode cX7_mixedPerson 81 = .ok (.i2l, 1) := by decide +kernel
theorem dX7_mixedPerson_82 : decode cX7_mixedPerson 82 = .ok (.invokestatic 274, 3) := by decide +kernel
theorem dX7_mixedPerson_85 : decode cX7_mixedPerson 85 = .ok (.lstore 4, 2) := by decide +kernel
theorem dX7_mixedPerson_87 : decode cX7_mixedPerson 87 = .ok (.lload 4, 2) := by decide +kernel
theorem dX7_mixedPerson_89 : decode cX7_mixedPerson 89 = .ok (.aload_n 0, 1) := by decide +kernel
theorem dX7_mixedPerson_90 : decode cX7_mixedPerson 90 = .ok (.getfield 46, 3) := by decide +kernel
theorem dX7_mixedPerson_93 : decode cX7_mixedPerson 93 = .ok (.iload_n 3, 1) := by decide +kernel
theorem dX7_mixedPerson_94 : decode cX7_mixedPerson 94 = .ok (.bipush 10, 2) := by decide +kernel
theorem dX7_mixedPerson_96 : decode cX7_mixedPerson 96 = .ok (.invokevirtual 197, 3) := by decide +kernel
theorem dX7_mixedPerson_99 : decode cX7_mixedPerson 99 = .ok (.i2l, 1) := by decide +kernel
theorem dX7_mixedPerson_100 : decode cX7_mixedPerson 100 = .ok (.invokestatic 274, 3) := by decide +kernel
theorem dX7_mixedPerson_103 : decode cX7_mixedPerson 103 = .ok (.aload_n 0, 1) := by decide +kernel
theorem dX7_mixedPerson_104 : decode cX7_mixedPerson 104 = .ok (.getfield 53, 3) := by decide +kernel
theorem dX7_mixedPerson_107 : decode cX7_mixedPerson 107 = .ok (.iload_n 3, 1) := by decide +kernel
theorem dX7_mixedPerson_108 : decode cX7_mixedPerson 108 = .ok (.invokevirtual 218, 3) := by decide +kernel
theorem dX7_mixedPerson_111 : decode cX7_mixedPerson 111 = .ok (.i2l, 1) := by decide +kernel
theorem dX7_mixedPerson_112 : decode cX7_mixedPerson 112 = .ok (.invokestatic 274, 3) := by decide +kernel
theorem dX7_mixedPerson_115 : decode cX7_mixedPerson 115 = .ok (.lreturn, 1) := by decide +kernel
set_option maxRecDepth 20000 in
theorem ggX7_mixedRound_X7_payer : GoodIn wsX7_mixedRound wsX7_payer := goodIn_r _ [6, 7, 8, 9, 10, 11, 12, 5, 13, 14, 15, 16, 17, 18, 19, 20, 21, 22, 23, 24, 25, 26, 27, 28, 29, 30, 31, 32, 33, 34, 35, 36, 37, 38, 39, 40, 41, 42, 43, 44, 45, 46, 47, 48, 49, 50, 51, 52, 53, 54, 55, 56, 57, 58, 59, 60, 61, 62, 63, 64, 65, 66, 67, 68, 69, 70, 71, 72, 73, 74, 75, 76, 77, 78, 79, 80, 81, 82, 83, 113, 114, 115, 116, 117, 118, 119, 120, 121, 122, 123, 124, 125, 126, 127, 128, 129, 130, 131, 132, 133, 134, 135, 136, 137, 138, 139, 140] (by decide +kernel) (by decide +kernel)
set_option maxRecDepth 20000 in
theorem gX7_mixedRound_X7_payer : GoodIn wsX7_mixedRound (wsV RX7 300 RX7 yX7_payer wsX7_payer) := goodIn_app (goodIn_of _ (by decide +kernel)) ggX7_mixedRound_X7_payer
set_option maxRecDepth 20000 in
theorem ggX7_mixedRound_X7_mixed : GoodIn wsX7_mixedRound wsX7_mixed := goodIn_r _ [86, 87] (by decide +kernel) (by decide +kernel)
set_option maxRecDepth 20000 in
theorem gX7_mixedRound_X7_mixed : GoodIn wsX7_mixedRound (va_wsS RX7 274 yX7_mixed wsX7_mixed) := goodIn_app (goodIn_of _ (by decide +kernel)) ggX7_mixedRound_X7_mixed
set_option maxRecDepth 20000 in
theorem ggX7_mixedRound_X3_findBest : GoodIn wsX7_mixedRound wsX3_findBest := goodIn_r _ [92, 93, 94, 95, 96, 97, 98, 99, 100, 101, 26, 27, 28, 29, 30, 31, 32, 33, 34, 35, 36, 37, 38, 39, 102, 60, 61, 21, 62, 63, 103, 104, 105, 106, 69, 107, 54, 55, 108, 65, 66, 67, 68, 70, 71, 72, 73, 74, 75, 76, 141, 142, 143, 144, 145, 146, 147, 148, 149, 150, 132, 133, 134, 135, 136, 137, 138, 139, 140, 121, 122, 123, 124, 125, 126, 127, 128, 129, 130, 131] (by decide +kernel) (by decide +kernel)
set_option maxRecDepth 20000 in
theorem gX7_mixedRound_X3_findBest : GoodIn wsX7_mixedRound (wsV RX7 178 RX3 yX3_findBest wsX3_findBest) := goodIn_app (goodIn_of _ (by decide +kernel)) ggX7_mixedRound_X3_findBest
set_option maxRecDepth 20000 in
theorem ggX7_mixedRound_X3_bestTold : GoodIn wsX7_mixedRound wsX3_bestTold := goodIn_r _ [112, 93, 94, 95, 141, 142, 143, 144, 145, 146, 147, 148, 149, 150] (by decide +kernel) (by decide +kernel)
set_option maxRecDepth 20000 in
theorem gX7_mixedRound_X3_bestTold : GoodIn wsX7_mixedRound (wsV RX7 182 RX3 yX3_bestTold wsX3_bestTold) := goodIn_app (goodIn_of _ (by decide +kernel)) ggX7_mixedRound_X3_bestTold
theorem dX7_mixedRound_0 : decode cX7_mixedRound 0 = .ok (.lload_n 1, 1) := by decide +kernel
theorem dX7_mixedRound_1 : decode cX7_mixedRound 1 = .ok (.aload_n 0, 1) := by decide +kernel
theorem dX7_mixedRound_2 : decode cX7_mixedRound 2 = .ok (.iload_n 3, 1) := by decide +kernel
theorem dX7_mixedRound_3 : decode cX7_mixedRound 3 = .ok (.iconst 0, 1) := by decide +kernel
theorem dX7_mixedRound_4 : decode cX7_mixedRound 4 = .ok (.invokevirtual 300, 3) := by decide +kernel
theorem dX7_mixedRound_7 : decode cX7_mixedRound 7 = .ok (.i2l, 1) := by decide +kernel
theorem dX7_mixedRound_8 : decode cX7_mixedRound 8 = .ok (.invokestatic 274, 3) := by decide +kernel
theorem dX7_mixedRound_11 : decode cX7_mixedRound 11 = .ok (.aload_n 0, 1) := by decide +kernel
theorem dX7_mixedRound_12 : decode cX7_mixedRound 12 = .ok (.iload_n 3, 1) := by decide +kernel
theorem dX7_mixedRound_13 : decode cX7_mixedRound 13 = .ok (.iconst 1, 1) := by decide +kernel
theorem dX7_mixedRound_14 : decode cX7_mixedRound 14 = .ok (.invokevirtual 300, 3) := by decide +kernel
theorem dX7_mixedRound_17 : decode cX7_mixedRound 17 = .ok (.i2l, 1) := by decide +kernel
theorem dX7_mixedRound_18 : decode cX7_mixedRound 18 = .ok (.invokestatic 274, 3) := by decide +kernel
theorem dX7_mixedRound_21 : decode cX7_mixedRound 21 = .ok (.lstore 4, 2) := by decide +kernel
theorem dX7_mixedRound_23 : decode cX7_mixedRound 23 = .ok (.aload_n 0, 1) := by decide +kernel
theorem dX7_mixedRound_24 : decode cX7_mixedRound 24 = .ok (.getfield 39, 3) := by decide +kernel
theorem dX7_mixedRound_27 : decode cX7_mixedRound 27 = .ok (.iload_n 3, 1) := by decide +kernel
theorem dX7_mixedRound_28 : decode cX7_mixedRound 28 = .ok (.iconst 0, 1) := by decide +kernel
theorem dX7_mixedRound_29 : decode cX7_mixedRound 29 = .ok (.invokevirtual 178, 3) := by decide +kernel
theorem dX7_mixedRound_32 : decode cX7_mixedRound 32 = .ok (.iconst 0, 1) := by decide +kernel
theorem dX7_mixedRound_33 : decode cX7_mixedRound 33 = .ok (.istore 6, 2) := by decide +kernel
theorem dX7_mixedRound_35 : decode cX7_mixedRound 35 = .ok (.iload 6, 2) := by decide +kernel
theorem dX7_mixedRound_37 : decode cX7_mixedRound 37 = .ok (.iconst 2, 1) := by decide +kernel
theorem dX7_mixedRound_38 : decode cX7_mixedRound 38 = .ok (.if_icmp .gt 26, 3) := by decide +kernel
theorem dX7_mixedRound_41 : decode cX7_mixedRound 41 = .ok (.lload 4, 2) := by decide +kernel
theorem dX7_mixedRound_43 : decode cX7_mixedRound 43 = .ok (.aload_n 0, 1) := by decide +kernel
theorem dX7_mixedRound_44 : decode cX7_mixedRound 44 = .ok (.getfield 39, 3) := by decide +kernel
theorem dX7_mixedRound_47 : decode cX7_mixedRound 47 = .ok (.iload 6, 2) := by decide +kernel
theorem dX7_mixedRound_49 : decode cX7_mixedRound 49 = .ok (.invokevirtual 182, 3) := by decide +kernel
theorem dX7_mixedRound_52 : decode cX7_mixedRound 52 = .ok (.i2l, 1) := by decide +kernel
theorem dX7_mixedRound_53 : decode cX7_mixedRound 53 = .ok (.invokestatic 274, 3) := by decide +kernel
theorem dX7_mixedRound_56 : decode cX7_mixedRound 56 = .ok (.lstore 4, 2) := by decide +kernel
theorem dX7_mixedRound_58 : decode cX7_mixedRound 58 = .ok (.iinc 6 1, 3) := by decide +kernel
theorem dX7_mixedRound_61 : decode cX7_mixedRound 61 = .ok (.goto (-26), 3) := by decide +kernel
theorem dX7_mixedRound_64 : decode cX7_mixedRound 64 = .ok (.lload 4, 2) := by decide +kernel
theorem dX7_mixedRound_66 : decode cX7_mixedRound 66 = .ok (.lreturn, 1) := by decide +kernel
theorem dX7_mixed_0 : decode cX7_mixed 0 = .ok (.ldc2_w 303, 3) := by decide +kernel
theorem dX7_mixed_3 : decode cX7_mixed 3 = .ok (.lload_n 0, 1) := by decide +kernel
theorem dX7_mixed_4 : decode cX7_mixed 4 = .ok (.lmul, 1) := by decide +kernel
theorem dX7_mixed_5 : decode cX7_mixed 5 = .ok (.lload_n 2, 1) := by decide +kernel
theorem dX7_mixed_6 : decode cX7_mixed 6 = .ok (.ladd, 1) := by decide +kernel
theorem dX7_mixed_7 : decode cX7_mixed 7 = .ok (.lreturn, 1) := by decide +kernel
set_option maxRecDepth 20000 in
theorem ggX7_understandTexts_X2_understand : GoodIn wsX7_understandTexts wsX2_understand := goodIn_r _ [8, 9, 10, 11, 12, 13, 14, 15, 16, 17, 18, 19, 20, 21, 22, 23, 24, 25, 26, 27, 28, 29, 30, 57, 58, 59, 60, 61, 62, 63, 64, 65, 66, 67] (by decide +kernel) (by decide +kernel)
set_option maxRecDepth 20000 in
theorem gX7_understandTexts_X2_understand : GoodIn wsX7_understandTexts (wsV RX7 305 RX2 yX2_understand wsX2_understand) := goodIn_app (goodIn_of _ (by decide +kernel)) ggX7_understandTexts_X2_understand
set_option maxRecDepth 20000 in
theorem ggX7_understandTexts_X0_understand : GoodIn wsX7_understandTexts wsX0_understand := goodIn_r _ [35, 36, 37, 38, 39, 40, 41, 42, 43, 15, 16, 17, 18, 19, 20, 21, 22, 23, 24, 25, 26, 44, 45, 46, 34, 47, 48, 68, 69, 70, 71, 72, 73, 74, 75, 76, 77, 78, 57, 58, 59, 60, 61, 62, 63, 64, 65, 66, 67] (by decide +kernel) (by decide +kernel)
set_option maxRecDepth 20000 in
theorem gX7_understandTexts_X0_understand : GoodIn wsX7_understandTexts (wsV RX7 309 RX0 yX0_understand wsX0_understand) := goodIn_app (goodIn_of _ (by decide +kernel)) ggX7_understandTexts_X0_understand
theorem dX7_understandTexts_0 : decode cX7_understandTexts 0 = .ok (.aload_n 0, 1) := by decide +kernel
theorem dX7_understandTexts_1 : decode cX7_understandTexts 1 = .ok (.getfield 21, 3) := by decide +kernel
theorem dX7_understandTexts_4 : decode cX7_understandTexts 4 = .ok (.aload_n 0, 1) := by decide +kernel
theorem dX7_understandTexts_5 : decode cX7_understandTexts 5 = .ok (.getfield 14, 3) := by decide +kernel
theorem dX7_understandTexts_8 : decode cX7_understandTexts 8 = .ok (.iconst 0, 1) := by decide +kernel
theorem dX7_understandTexts_9 : decode cX7_understandTexts 9 = .ok (.aaload, 1) := by decide +kernel
theorem dX7_understandTexts_10 : decode cX7_understandTexts 10 = .ok (.invokevirtual 305, 3) := by decide +kernel
theorem dX7_understandTexts_13 : decode cX7_understandTexts 13 = .ok (.aload_n 0, 1) := by decide +kernel
theorem dX7_understandTexts_14 : decode cX7_understandTexts 14 = .ok (.getfield 30, 3) := by decide +kernel
theorem dX7_understandTexts_17 : decode cX7_understandTexts 17 = .ok (.aload_n 0, 1) := by decide +kernel
theorem dX7_understandTexts_18 : decode cX7_understandTexts 18 = .ok (.getfield 14, 3) := by decide +kernel
theorem dX7_understandTexts_21 : decode cX7_understandTexts 21 = .ok (.iconst 1, 1) := by decide +kernel
theorem dX7_understandTexts_22 : decode cX7_understandTexts 22 = .ok (.aaload, 1) := by decide +kernel
theorem dX7_understandTexts_23 : decode cX7_understandTexts 23 = .ok (.invokevirtual 309, 3) := by decide +kernel
theorem dX7_understandTexts_26 : decode cX7_understandTexts 26 = .ok (.return_, 1) := by decide +kernel
theorem dX7_found_0 : decode cX7_found 0 = .ok (.aload_n 0, 1) := by decide +kernel
theorem dX7_found_1 : decode cX7_found 1 = .ok (.iload_n 1, 1) := by decide +kernel
theorem dX7_found_2 : decode cX7_found 2 = .ok (.putfield 64, 3) := by decide +kernel
theorem dX7_found_5 : decode cX7_found 5 = .ok (.bipush (-10), 2) := by decide +kernel
theorem dX7_found_7 : decode cX7_found 7 = .ok (.iload_n 1, 1) := by decide +kernel
theorem dX7_found_8 : decode cX7_found 8 = .ok (.isub, 1) := by decide +kernel
theorem dX7_found_9 : decode cX7_found 9 = .ok (.ireturn, 1) := by decide +kernel
set_option maxRecDepth 20000 in
theorem ggX7_isPerson_X7_isIn : GoodIn wsX7_isPerson wsX7_isIn := goodIn_r _ [6] (by decide +kernel) (by decide +kernel)
set_option maxRecDepth 20000 in
theorem gX7_isPerson_X7_isIn : GoodIn wsX7_isPerson (va_wsS RX7 72 yX7_isIn wsX7_isIn) := goodIn_app (goodIn_of _ (by decide +kernel)) ggX7_isPerson_X7_isIn
theorem dX7_isPerson_0 : decode cX7_isPerson 0 = .ok (.iload_n 1, 1) := by decide +kernel
theorem dX7_isPerson_1 : decode cX7_isPerson 1 = .ok (.iconst 0, 1) := by decide +kernel
theorem dX7_isPerson_2 : decode cX7_isPerson 2 = .ok (.aload_n 0, 1) := by decide +kernel
theorem dX7_isPerson_3 : decode cX7_isPerson 3 = .ok (.getfield 21, 3) := by decide +kernel
theorem dX7_isPerson_6 : decode cX7_isPerson 6 = .ok (.getfield 168, 3) := by decide +kernel
theorem dX7_isPerson_9 : decode cX7_isPerson 9 = .ok (.iconst 1, 1) := by decide +kernel
theorem dX7_isPerson_10 : decode cX7_isPerson 10 = .ok (.isub, 1) := by decide +kernel
theorem dX7_isPerson_11 : decode cX7_isPerson 11 = .ok (.invokestatic 72, 3) := by decide +kernel
theorem dX7_isPerson_14 : decode cX7_isPerson 14 = .ok (.ireturn, 1) := by decide +kernel
set_option maxRecDepth 20000 in
theorem ggX7_isRound_X7_isIn : GoodIn wsX7_isRound wsX7_isIn := goodIn_r _ [6] (by decide +kernel) (by decide +kernel)
set_option maxRecDepth 20000 in
theorem gX7_isRound_X7_isIn : GoodIn wsX7_isRound (va_wsS RX7 72 yX7_isIn wsX7_isIn) := goodIn_app (goodIn_of _ (by decide +kernel)) ggX7_isRound_X7_isIn
theorem dX7_isRound_0 : decode cX7_isRound 0 = .ok (.iload_n 1, 1) := by decide +kernel
theorem dX7_isRound_1 : decode cX7_isRound 1 = .ok (.iconst 0, 1) := by decide +kernel
theorem dX7_isRound_2 : decode cX7_isRound 2 = .ok (.aload_n 0, 1) := by decide +kernel
theorem dX7_isRound_3 : decode cX7_isRound 3 = .ok (.getfield 30, 3) := by decide +kernel
theorem dX7_isRound_6 : decode cX7_isRound 6 = .ok (.getfield 144, 3) := by decide +kernel
theorem dX7_isRound_9 : decode cX7_isRound 9 = .ok (.iconst 1, 1) := by decide +kernel
theorem dX7_isRound_10 : decode cX7_isRound 10 = .ok (.isub, 1) := by decide +kernel
theorem dX7_isRound_11 : decode cX7_isRound 11 = .ok (.invokestatic 72, 3) := by decide +kernel
theorem dX7_isRound_14 : decode cX7_isRound 14 = .ok (.ireturn, 1) := by decide +kernel
set_option maxRecDepth 20000 in
theorem ggX7_isText_X7_isIn : GoodIn wsX7_isText wsX7_isIn := goodIn_r _ [4] (by decide +kernel) (by decide +kernel)
set_option maxRecDepth 20000 in
theorem gX7_isText_X7_isIn : GoodIn wsX7_isText (va_wsS RX7 72 yX7_isIn wsX7_isIn) := goodIn_app (goodIn_of _ (by decide +kernel)) ggX7_isText_X7_isIn
theorem dX7_isText_0 : decode cX7_isText 0 = .ok (.iload_n 0, 1) := by decide +kernel
theorem dX7_isText_1 : decode cX7_isText 1 = .ok (.iconst 0, 1) := by decide +kernel
theorem dX7_isText_2 : decode cX7_isText 2 = .ok (.iconst 1, 1) := by decide +kernel
theorem dX7_isText_3 : decode cX7_isText 3 = .ok (.invokestatic 72, 3) := by decide +kernel
theorem dX7_isText_6 : decode cX7_isText 6 = .ok (.ireturn, 1) := by decide +kernel
set_option maxRecDepth 20000 in
theorem ggX7_isSheet_X7_isIn : GoodIn wsX7_isSheet wsX7_isIn := goodIn_r _ [4] (by decide +kernel) (by decide +kernel)
set_option maxRecDepth 20000 in
theorem gX7_isSheet_X7_isIn : GoodIn wsX7_isSheet (va_wsS RX7 72 yX7_isIn wsX7_isIn) := goodIn_app (goodIn_of _ (by decide +kernel)) ggX7_isSheet_X7_isIn
theorem dX7_isSheet_0 : decode cX7_isSheet 0 = .ok (.iload_n 0, 1) := by decide +kernel
theorem dX7_isSheet_1 : decode cX7_isSheet 1 = .ok (.iconst 0, 1) := by decide +kernel
theorem dX7_isSheet_2 : decode cX7_isSheet 2 = .ok (.iconst 3, 1) := by decide +kernel
theorem dX7_isSheet_3 : decode cX7_isSheet 3 = .ok (.invokestatic 72, 3) := by decide +kernel
theorem dX7_isSheet_6 : decode cX7_isSheet 6 = .ok (.ireturn, 1) := by decide +kernel
set_option maxRecDepth 20000 in
theorem ggX7_isForm_X7_isIn : GoodIn wsX7_isForm wsX7_isIn := goodIn_r _ [4] (by decide +kernel) (by decide +kernel)
set_option maxRecDepth 20000 in
theorem gX7_isForm_X7_isIn : GoodIn wsX7_isForm (va_wsS RX7 72 yX7_isIn wsX7_isIn) := goodIn_app (goodIn_of _ (by decide +kernel)) ggX7_isForm_X7_isIn
theorem dX7_isForm_0 : decode cX7_isForm 0 = .ok (.iload_n 0, 1) := by decide +kernel
theorem dX7_isForm_1 : decode cX7_isForm 1 = .ok (.iconst 0, 1) := by decide +kernel
theorem dX7_isForm_2 : decode cX7_isForm 2 = .ok (.iconst 2, 1) := by decide +kernel
theorem dX7_isForm_3 : decode cX7_isForm 3 = .ok (.invokestatic 72, 3) := by decide +kernel
theorem dX7_isForm_6 : decode cX7_isForm 6 = .ok (.ireturn, 1) := by decide +kernel
theorem dX7_isIn_0 : decode cX7_isIn 0 = .ok (.iload_n 0, 1) := by decide +kernel
theorem dX7_isIn_1 : decode cX7_isIn 1 = .ok (.iload_n 1, 1) := by decide +kernel
theorem dX7_isIn_2 : decode cX7_isIn 2 = .ok (.if_icmp .lt 12, 3) := by decide +kernel
theorem dX7_isIn_5 : decode cX7_isIn 5 = .ok (.iload_n 0, 1) := by decide +kernel
theorem dX7_isIn_6 : decode cX7_isIn 6 = .ok (.iload_n 2, 1) := by decide +kernel
theorem dX7_isIn_7 : decode cX7_isIn 7 = .ok (.if_icmp .gt 7, 3) := by decide +kernel
theorem dX7_isIn_10 : decode cX7_isIn 10 = .ok (.iconst 1, 1) := by decide +kernel
theorem dX7_isIn_11 : decode cX7_isIn 11 = .ok (.goto 4, 3) := by decide +kernel
theorem dX7_isIn_14 : decode cX7_isIn 14 = .ok (.iconst 0, 1) := by decide +kernel
theorem dX7_isIn_15 : decode cX7_isIn 15 = .ok (.ireturn, 1) := by decide +kernel
theorem dX7_greatestDivisor_0 : decode cX7_greatestDivisor 0 = .ok (.iload_n 1, 1) := by decide +kernel
theorem dX7_greatestDivisor_1 : decode cX7_greatestDivisor 1 = .ok (.istore_n 2, 1) := by decide +kernel
theorem dX7_greatestDivisor_2 : decode cX7_greatestDivisor 2 = .ok (.iload_n 2, 1) := by decide +kernel
theorem dX7_greatestDivisor_3 : decode cX7_greatestDivisor 3 = .ok (.iconst 1, 1) := by decide +kernel
theorem dX7_greatestDivisor_4 : decode cX7_greatestDivisor 4 = .ok (.if_icmp .le 23, 3) := by decide +kernel
theorem dX7_greatestDivisor_7 : decode cX7_greatestDivisor 7 = .ok (.iload_n 0, 1) := by decide +kernel
theorem dX7_greatestDivisor_8 : decode cX7_greatestDivisor 8 = .ok (.iload_n 2, 1) := by decide +kernel
theorem dX7_greatestDivisor_9 : decode cX7_greatestDivisor 9 = .ok (.irem, 1) := by decide +kernel
theorem dX7_greatestDivisor_10 : decode cX7_greatestDivisor 10 = .ok (.ifCond .ne 11, 3) := by decide +kernel
theorem dX7_greatestDivisor_13 : decode cX7_greatestDivisor 13 = .ok (.iload_n 1, 1) := by decide +kernel
theorem dX7_greatestDivisor_14 : decode cX7_greatestDivisor 14 = .ok (.iload_n 2, 1) := by decide +kernel
theorem dX7_greatestDivisor_15 : decode cX7_greatestDivisor 15 = .ok (.irem, 1) := by decide +kernel
theorem dX7_greatestDivisor_16 : decode cX7_greatestDivisor 16 = .ok (.ifCond .ne 5, 3) := by decide +kernel
theorem dX7_greatestDivisor_19 : decode cX7_greatestDivisor 19 = .ok (.iload_n 2, 1) := by decide +kernel
theorem dX7_greatestDivisor_20 : decode cX7_greatestDivisor 20 = .ok (.ireturn, 1) := by decide +kernel
theorem dX7_greatestDivisor_21 : decode cX7_greatestDivisor 21 = .ok (.iinc 2 (-1), 3) := by decide +kernel
theorem dX7_greatestDivisor_24 : decode cX7_greatestDivisor 24 = .ok (.goto (-22), 3) := by decide +kernel
theorem dX7_greatestDivisor_27 : decode cX7_greatestDivisor 27 = .ok (.iconst 1, 1) := by decide +kernel
theorem dX7_greatestDivisor_28 : decode cX7_greatestDivisor 28 = .ok (.ireturn, 1) := by decide +kernel
theorem dX7_power_0 : decode cX7_power 0 = .ok (.lconst 1, 1) := by decide +kernel
theorem dX7_power_1 : decode cX7_power 1 = .ok (.lstore_n 3, 1) := by decide +kernel
theorem dX7_power_2 : decode cX7_power 2 = .ok (.iconst 0, 1) := by decide +kernel
theorem dX7_power_3 : decode cX7_power 3 = .ok (.istore 5, 2) := by decide +kernel
theorem dX7_power_5 : decode cX7_power 5 = .ok (.iload 5, 2) := by decide +kernel
theorem dX7_power_7 : decode cX7_power 7 = .ok (.iload_n 2, 1) := by decide +kernel
theorem dX7_power_8 : decode cX7_power 8 = .ok (.if_icmp .ge 13, 3) := by decide +kernel
theorem dX7_power_11 : decode cX7_power 11 = .ok (.lload_n 3, 1) := by decide +kernel
theorem dX7_power_12 : decode cX7_power 12 = .ok (.lload_n 0, 1) := by decide +kernel
theorem dX7_power_13 : decode cX7_power 13 = .ok (.lmul, 1) := by decide +kernel
theorem dX7_power_14 : decode cX7_power 14 = .ok (.lstore_n 3, 1) := by decide +kernel
theorem dX7_power_15 : decode cX7_power 15 = .ok (.iinc 5 1, 3) := by decide +kernel
theorem dX7_power_18 : decode cX7_power 18 = .ok (.goto (-13), 3) := by decide +kernel
theorem dX7_power_21 : decode cX7_power 21 = .ok (.lload_n 3, 1) := by decide +kernel
theorem dX7_power_22 : decode cX7_power 22 = .ok (.lreturn, 1) := by decide +kernel
theorem dX8_init_0 : decode cX8_init 0 = .ok (.aload_n 0, 1) := by decide +kernel
theorem dX8_init_1 : decode cX8_init 1 = .ok (.invokespecial 1, 3) := by decide +kernel
theorem dX8_init_4 : decode cX8_init 4 = .ok (.aload_n 0, 1) := by decide +kernel
theorem dX8_init_5 : decode cX8_init 5 = .ok (.iconst 2, 1) := by decide +kernel
theorem dX8_init_6 : decode cX8_init 6 = .ok (.newarray .int, 2) := by decide +kernel
theorem dX8_init_8 : decode cX8_init 8 = .ok (.putfield 7, 3) := by decide +kernel
theorem dX8_init_11 : decode cX8_init 11 = .ok (.aload_n 0, 1) := by decide +kernel
theorem dX8_init_12 : decode cX8_init 12 = .ok (.bipush 120, 2) := by decide +kernel
theorem dX8_init_14 : decode cX8_init 14 = .ok (.newarray .int, 2) := by decide +kernel
theorem dX8_init_16 : decode cX8_init 16 = .ok (.putfield 13, 3) := by decide +kernel
theorem dX8_init_19 : decode cX8_init 19 = .ok (.aload_n 0, 1) := by decide +kernel
theorem dX8_init_20 : decode cX8_init 20 = .ok (.bipush 7, 2) := by decide +kernel
theorem dX8_init_22 : decode cX8_init 22 = .ok (.newarray .int, 2) := by decide +kernel
theorem dX8_init_24 : decode cX8_init 24 = .ok (.putfield 16, 3) := by decide +kernel
theorem dX8_init_27 : decode cX8_init 27 = .ok (.aload_n 0, 1) := by decide +kernel
theorem dX8_init_28 : decode cX8_init 28 = .ok (.bipush 7, 2) := by decide +kernel
theorem dX8_init_30 : decode cX8_init 30 = .ok (.newarray .int, 2) := by decide +kernel
theorem dX8_init_32 : decode cX8_init 32 = .ok (.putfield 19, 3) := by decide +kernel
theorem dX8_init_35 : decode cX8_init 35 = .ok (.aload_n 0, 1) := by decide +kernel
theorem dX8_init_36 : decode cX8_init 36 = .ok (.bipush 54, 2) := by decide +kernel
theorem dX8_init_38 : decode cX8_init 38 = .ok (.newarray .int, 2) := by decide +kernel
theorem dX8_init_40 : decode cX8_init 40 = .ok (.putfield 22, 3) := by decide +kernel
theorem dX8_init_43 : decode cX8_init 43 = .ok (.aload_n 0, 1) := by decide +kernel
theorem dX8_init_44 : decode cX8_init 44 = .ok (.bipush 6, 2) := by decide +kernel
theorem dX8_init_46 : decode cX8_init 46 = .ok (.newarray .int, 2) := by decide +kernel
theorem dX8_init_48 : decode cX8_init 48 = .ok (.putfield 25, 3) := by decide +kernel
theorem dX8_init_51 : decode cX8_init 51 = .ok (.aload_n 0, 1) := by decide +kernel
theorem dX8_init_52 : decode cX8_init 52 = .ok (.bipush 6, 2) := by decide +kernel
theorem dX8_init_54 : decode cX8_init 54 = .ok (.newarray .int, 2) := by decide +kernel
theorem dX8_init_56 : decode cX8_init 56 = .ok (.putfield 28, 3) := by decide +kernel
theorem dX8_init_59 : decode cX8_init 59 = .ok (.aload_n 0, 1) := by decide +kernel
theorem dX8_init_60 : decode cX8_init 60 = .ok (.iconst 2, 1) := by decide +kernel
theorem dX8_init_61 : decode cX8_init 61 = .ok (.newarray .int, 2) := by decide +kernel
theorem dX8_init_63 : decode cX8_init 63 = .ok (.putfield 31, 3) := by decide +kernel
theorem dX8_init_66 : decode cX8_init 66 = .ok (.aload_n 0, 1) := by decide +kernel
theorem dX8_init_67 : decode cX8_init 67 = .ok (.bipush 7, 2) := by decide +kernel
theorem dX8_init_69 : decode cX8_init 69 = .ok (.newarray .int, 2) := by decide +kernel
theorem dX8_init_71 : decode cX8_init 71 = .ok (.putfield 34, 3) := by decide +kernel
theorem dX8_init_74 : decode cX8_init 74 = .ok (.aload_n 0, 1) := by decide +kernel
theorem dX8_init_75 : decode cX8_init 75 = .ok (.bipush 7, 2) := by decide +kernel
theorem dX8_init_77 : decode cX8_init 77 = .ok (.newarray .int, 2) := by decide +kernel
theorem dX8_init_79 : decode cX8_init 79 = .ok (.putfield 37, 3) := by decide +kernel
theorem dX8_init_82 : decode cX8_init 82 = .ok (.aload_n 0, 1) := by decide +kernel
theorem dX8_init_83 : decode cX8_init 83 = .ok (.bipush 7, 2) := by decide +kernel
theorem dX8_init_85 : decode cX8_init 85 = .ok (.newarray .int, 2) := by decide +kernel
theorem dX8_init_87 : decode cX8_init 87 = .ok (.putfield 40, 3) := by decide +kernel
theorem dX8_init_90 : decode cX8_init 90 = .ok (.aload_n 0, 1) := by decide +kernel
theorem dX8_init_91 : decode cX8_init 91 = .ok (.bipush 7, 2) := by decide +kernel
theorem dX8_init_93 : decode cX8_init 93 = .ok (.newarray .int, 2) := by decide +kernel
theorem dX8_init_95 : decode cX8_init 95 = .ok (.putfield 43, 3) := by decide +kernel
theorem dX8_init_98 : decode cX8_init 98 = .ok (.aload_n 0, 1) := by decide +kernel
theorem dX8_init_99 : decode cX8_init 99 = .ok (.bipush 7, 2) := by decide +kernel
theorem dX8_init_101 : decode cX8_init 101 = .ok (.newarray .int, 2) := by decide +kernel
theorem dX8_init_103 : decode cX8_init 103 = .ok (.putfield 46, 3) := by decide +kernel
theorem dX8_init_106 : decode cX8_init 106 = .ok (.aload_n 0, 1) := by decide +kernel
theorem dX8_init_107 : decode cX8_init 107 = .ok (.bipush 7, 2) := by decide +kernel
theorem dX8_init_109 : decode cX8_init 109 = .ok (.newarray .int, 2) := by decide +kernel
theorem dX8_init_111 : decode cX8_init 111 = .ok (.putfield 49, 3) := by decide +kernel
theorem dX8_init_114 : decode cX8_init 114 = .ok (.aload_n 0, 1) := by decide +kernel
theorem dX8_init_115 : decode cX8_init 115 = .ok (.bipush 7, 2) := by decide +kernel
theorem dX8_init_117 : decode cX8_init 117 = .ok (.newarray .int, 2) := by decide +kernel
theorem dX8_init_119 : decode cX8_init 119 = .ok (.putfield 52, 3) := by decide +kernel
theorem dX8_init_122 : decode cX8_init 122 = .ok (.aload_n 0, 1) := by decide +kernel
theorem dX8_init_123 : decode cX8_init 123 = .ok (.sipush 24576, 3) := by decide +kernel
theorem dX8_init_126 : decode cX8_init 126 = .ok (.newarray .int, 2) := by decide +kernel
theorem dX8_init_128 : decode cX8_init 128 = .ok (.putfield 55, 3) := by decide +kernel
theorem dX8_init_131 : decode cX8_init 131 = .ok (.aload_n 0, 1) := by decide +kernel
theorem dX8_init_132 : decode cX8_init 132 = .ok (.bipush 8, 2) := by decide +kernel
theorem dX8_init_134 : decode cX8_init 134 = .ok (.newarray .int, 2) := by decide +kernel
theorem dX8_init_136 : decode cX8_init 136 = .ok (.putfield 58, 3) := by decide +kernel
theorem dX8_init_139 : decode cX8_init 139 = .ok (.aload_n 0, 1) := by decide +kernel
theorem dX8_init_140 : decode cX8_init 140 = .ok (.bipush 8, 2) := by decide +kernel
theorem dX8_init_142 : decode cX8_init 142 = .ok (.newarray .int, 2) := by decide +kernel
theorem dX8_init_144 : decode cX8_init 144 = .ok (.putfield 61, 3) := by decide +kernel
theorem dX8_init_147 : decode cX8_init 147 = .ok (.aload_n 0, 1) := by decide +kernel
theorem dX8_init_148 : decode cX8_init 148 = .ok (.bipush 8, 2) := by decide +kernel
theorem dX8_init_150 : decode cX8_init 150 = .ok (.newarray .int, 2) := by decide +kernel
theorem dX8_init_152 : decode cX8_init 152 = .ok (.putfield 64, 3) := by decide +kernel
theorem dX8_init_155 : decode cX8_init 155 = .ok (.aload_n 0, 1) := by decide +kernel
theorem dX8_init_156 : decode cX8_init 156 = .ok (.iconst 4, 1) := by decide +kernel
theorem dX8_init_157 : decode cX8_init 157 = .ok (.newarray .boolean, 2) := by decide +kernel
theorem dX8_init_159 : decode cX8_init 159 = .ok (.putfield 67, 3) := by decide +kernel
theorem dX8_init_162 : decode cX8_init 162 = .ok (.aload_n 0, 1) := by decide +kernel
theorem dX8_init_163 : decode cX8_init 163 = .ok (.iconst 4, 1) := by decide +kernel
theorem dX8_init_164 : decode cX8_init 164 = .ok (.newarray .int, 2) := by decide +kernel
theorem dX8_init_166 : decode cX8_init 166 = .ok (.putfield 71, 3) := by decide +kernel
theorem dX8_init_169 : decode cX8_init 169 = .ok (.aload_n 0, 1) := by decide +kernel
theorem dX8_init_170 : decode cX8_init 170 = .ok (.iconst 4, 1) := by decide +kernel
theorem dX8_init_171 : decode cX8_init 171 = .ok (.newarray .int, 2) := by decide +kernel
theorem dX8_init_173 : decode cX8_init 173 = .ok (.putfield 74, 3) := by decide +kernel
theorem dX8_init_176 : decode cX8_init 176 = .ok (.aload_n 0, 1) := by decide +kernel
theorem dX8_init_177 : decode cX8_init 177 = .ok (.sipush 192, 3) := by decide +kernel
theorem dX8_init_180 : decode cX8_init 180 = .ok (.newarray .int, 2) := by decide +kernel
theorem dX8_init_182 : decode cX8_init 182 = .ok (.putfield 77, 3) := by decide +kernel
theorem dX8_init_185 : decode cX8_init 185 = .ok (.aload_n 0, 1) := by decide +kernel
theorem dX8_init_186 : decode cX8_init 186 = .ok (.bipush 48, 2) := by decide +kernel
theorem dX8_init_188 : decode cX8_init 188 = .ok (.newarray .int, 2) := by decide +kernel
theorem dX8_init_190 : decode cX8_init 190 = .ok (.putfield 80, 3) := by decide +kernel
theorem dX8_init_193 : decode cX8_init 193 = .ok (.iconst 0, 1) := by decide +kernel
theorem dX8_init_194 : decode cX8_init 194 = .ok (.istore_n 1, 1) := by decide +kernel
theorem dX8_init_195 : decode cX8_init 195 = .ok (.iload_n 1, 1) := by decide +kernel
theorem dX8_init_196 : decode cX8_init 196 = .ok (.bipush 6, 2) := by decide +kernel
theorem dX8_init_198 : decode cX8_init 198 = .ok (.if_icmp .ge 17, 3) := by decide +kernel
theorem dX8_init_201 : decode cX8_init 201 = .ok (.aload_n 0, 1) := by decide +kernel
theorem dX8_init_202 : decode cX8_init 202 = .ok (.getfield 28, 3) := by decide +kernel
theorem dX8_init_205 : decode cX8_init 205 = .ok (.iload_n 1, 1) := by decide +kernel
theorem dX8_init_206 : decode cX8_init 206 = .ok (.bipush 20, 2) := by decide +kernel
theorem dX8_init_208 : decode cX8_init 208 = .ok (.iastore, 1) := by decide +kernel
theorem dX8_init_209 : decode cX8_init 209 = .ok (.iinc 1 1, 3) := by decide +kernel
theorem dX8_init_212 : decode cX8_init 212 = .ok (.goto (-17), 3) := by decide +kernel
theorem dX8_init_215 : decode cX8_init 215 = .ok (.return_, 1) := by decide +kernel
theorem dX8_in_0 : decode cX8_in 0 = .ok (.iload_n 0, 1) := by decide +kernel
theorem dX8_in_1 : decode cX8_in 1 = .ok (.iload_n 1, 1) := by decide +kernel
theorem dX8_in_2 : decode cX8_in 2 = .ok (.if_icmp .lt 12, 3) := by decide +kernel
theorem dX8_in_5 : decode cX8_in 5 = .ok (.iload_n 0, 1) := by decide +kernel
theorem dX8_in_6 : decode cX8_in 6 = .ok (.iload_n 2, 1) := by decide +kernel
theorem dX8_in_7 : decode cX8_in 7 = .ok (.if_icmp .gt 7, 3) := by decide +kernel
theorem dX8_in_10 : decode cX8_in 10 = .ok (.iconst 1, 1) := by decide +kernel
theorem dX8_in_11 : decode cX8_in 11 = .ok (.goto 4, 3) := by decide +kernel
theorem dX8_in_14 : decode cX8_in 14 = .ok (.iconst 0, 1) := by decide +kernel
theorem dX8_in_15 : decode cX8_in 15 = .ok (.ireturn, 1) := by decide +kernel
theorem dX8_no_0 : decode cX8_no 0 = .ok (.ldc2_w 83, 3) := by decide +kernel
theorem dX8_no_3 : decode cX8_no 3 = .ok (.iload_n 0, 1) := by decide +kernel
theorem dX8_no_4 : decode cX8_no 4 = .ok (.i2l, 1) := by decide +kernel
theorem dX8_no_5 : decode cX8_no 5 = .ok (.lsub, 1) := by decide +kernel
theorem dX8_no_6 : decode cX8_no 6 = .ok (.lreturn, 1) := by decide +kernel
theorem dX8_lowest_0 : decode cX8_lowest 0 = .ok (.lload_n 0, 1) := by decide +kernel
theorem dX8_lowest_1 : decode cX8_lowest 1 = .ok (.lstore 5, 2) := by decide +kernel
theorem dX8_lowest_3 : decode cX8_lowest 3 = .ok (.lload_n 2, 1) := by decide +kernel
theorem dX8_lowest_4 : decode cX8_lowest 4 = .ok (.lstore 7, 2) := by decide +kernel
theorem dX8_lowest_6 : decode cX8_lowest 6 = .ok (.lload 7, 2) := by decide +kernel
theorem dX8_lowest_8 : decode cX8_lowest 8 = .ok (.lconst 0, 1) := by decide +kernel
theorem dX8_lowest_9 : decode cX8_lowest 9 = .ok (.lcmp, 1) := by decide +kernel
theorem dX8_lowest_10 : decode cX8_lowest 10 = .ok (.ifCond .eq 21, 3) := by decide +kernel
theorem dX8_lowest_13 : decode cX8_lowest 13 = .ok (.lload 5, 2) := by decide +kernel
theorem dX8_lowest_15 : decode cX8_lowest 15 = .ok (.lload 7, 2) := by decide +kernel
theorem dX8_lowest_17 : decode cX8_lowest 17 = .ok (.lrem, 1) := by decide +kernel
theorem dX8_lowest_18 : decode cX8_lowest 18 = .ok (.lstore 9, 2) := by decide +kernel
theorem dX8_lowest_20 : decode cX8_lowest 20 = .ok (.lload 7, 2) := by decide +kernel
theorem dX8_lowest_22 : decode cX8_lowest 22 = .ok (.lstore 5, 2) := by decide +kernel
theorem dX8_lowest_24 : decode cX8_lowest 24 = .ok (.lload 9, 2) := by decide +kernel
theorem dX8_lowest_26 : decode cX8_lowest 26 = .ok (.lstore 7, 2) := by decide +kernel
theorem dX8_lowest_28 : decode cX8_lowest 28 = .ok (.goto (-22), 3) := by decide +kernel
theorem dX8_lowest_31 : decode cX8_lowest 31 = .ok (.iload 4, 2) := by decide +kernel
theorem dX8_lowest_33 : decode cX8_lowest 33 = .ok (.ifCond .ne 10, 3) := by decide +kernel
theorem dX8_lowest_36 : decode cX8_lowest 36 = .ok (.lload_n 0, 1) := by decide +kernel
theorem dX8_lowest_37 : decode cX8_lowest 37 = .ok (.lload 5, 2) := by decide +kernel
theorem dX8_lowest_39 : decode cX8_lowest 39 = .ok (.ldiv, 1) := by decide +kernel
theorem dX8_lowest_40 : decode cX8_lowest 40 = .ok (.goto 7, 3) := by decide +kernel
theorem dX8_lowest_43 : decode cX8_lowest 43 = .ok (.lload_n 2, 1) := by decide +kernel
theorem dX8_lowest_44 : decode cX8_lowest 44 = .ok (.lload 5, 2) := by decide +kernel
theorem dX8_lowest_46 : decode cX8_lowest 46 = .ok (.ldiv, 1) := by decide +kernel
theorem dX8_lowest_47 : decode cX8_lowest 47 = .ok (.lreturn, 1) := by decide +kernel
set_option maxRecDepth 20000 in
theorem ggX8_type_X8_in : GoodIn wsX8_type wsX8_in := goodIn_r _ [6] (by decide +kernel) (by decide +kernel)
set_option maxRecDepth 20000 in
theorem gX8_type_X8_in : GoodIn wsX8_type (va_wsS RX8 85 yX8_in wsX8_in) := goodIn_app (goodIn_of _ (by decide +kernel)) ggX8_type_X8_in
theorem dX8_type_0 : decode cX8_type 0 = .ok (.iload_n 1, 1) := by decide +kernel
theorem dX8_type_1 : decode cX8_type 1 = .ok (.iconst 0, 1) := by decide +kernel
theorem dX8_type_2 : decode cX8_type 2 = .ok (.iconst 1, 1) := by decide +kernel
theorem dX8_type_3 : decode cX8_type 3 = .ok (.invokestatic 85, 3) := by decide +kernel
theorem dX8_type_6 : decode cX8_type 6 = .ok (.ifCond .eq 14, 3) := by decide +kernel
theorem dX8_type_9 : decode cX8_type 9 = .ok (.iload_n 2, 1) := by decide +kernel
theorem dX8_type_10 : decode cX8_type 10 = .ok (.iconst 0, 1) := by decide +kernel
theorem dX8_type_11 : decode cX8_type 11 = .ok (.sipush 255, 3) := by decide +kernel
theorem dX8_type_14 : decode cX8_type 14 = .ok (.invokestatic 85, 3) := by decide +kernel
theorem dX8_type_17 : decode cX8_type 17 = .ok (.ifCond .ne 6, 3) := by decide +kernel
theorem dX8_type_20 : decode cX8_type 20 = .ok (.bipush (-2), 2) := by decide +kernel
theorem dX8_type_22 : decode cX8_type 22 = .ok (.ireturn, 1) := by decide +kernel
theorem dX8_type_23 : decode cX8_type 23 = .ok (.aload_n 0, 1) := by decide +kernel
theorem dX8_type_24 : decode cX8_type 24 = .ok (.getfield 7, 3) := by decide +kernel
theorem dX8_type_27 : decode cX8_type 27 = .ok (.iload_n 1, 1) := by decide +kernel
theorem dX8_type_28 : decode cX8_type 28 = .ok (.iaload, 1) := by decide +kernel
theorem dX8_type_29 : decode cX8_type 29 = .ok (.iload_n 1, 1) := by decide +kernel
theorem dX8_type_30 : decode cX8_type 30 = .ok (.ifCond .ne 8, 3) := by decide +kernel
theorem dX8_type_33 : decode cX8_type 33 = .ok (.bipush 30, 2) := by decide +kernel
theorem dX8_type_35 : decode cX8_type 35 = .ok (.goto 5, 3) := by decide +kernel
theorem dX8_type_38 : decode cX8_type 38 = .ok (.bipush 60, 2) := by decide +kernel
theorem dX8_type_40 : decode cX8_type 40 = .ok (.if_icmp .ne 6, 3) := by decide +kernel
theorem dX8_type_43 : decode cX8_type 43 = .ok (.bipush (-4), 2) := by decide +kernel
theorem dX8_type_45 : decode cX8_type 45 = .ok (.ireturn, 1) := by decide +kernel
theorem dX8_type_46 : decode cX8_type 46 = .ok (.aload_n 0, 1) := by decide +kernel
theorem dX8_type_47 : decode cX8_type 47 = .ok (.getfield 13, 3) := by decide +kernel
theorem dX8_type_50 : decode cX8_type 50 = .ok (.bipush 60, 2) := by decide +kernel
theorem dX8_type_52 : decode cX8_type 52 = .ok (.iload_n 1, 1) := by decide +kernel
theorem dX8_type_53 : decode cX8_type 53 = .ok (.imul, 1) := by decide +kernel
theorem dX8_type_54 : decode cX8_type 54 = .ok (.aload_n 0, 1) := by decide +kernel
theorem dX8_type_55 : decode cX8_type 55 = .ok (.getfield 7, 3) := by decide +kernel
theorem dX8_type_58 : decode cX8_type 58 = .ok (.iload_n 1, 1) := by decide +kernel
theorem dX8_type_59 : decode cX8_type 59 = .ok (.iaload, 1) := by decide +kernel
theorem dX8_type_60 : decode cX8_type 60 = .ok (.iadd, 1) := by decide +kernel
theorem dX8_type_61 : decode cX8_type 61 = .ok (.iload_n 2, 1) := by decide +kernel
theorem dX8_type_62 : decode cX8_type 62 = .ok (.iastore, 1) := by decide +kernel
theorem dX8_type_63 : decode cX8_type 63 = .ok (.aload_n 0, 1) := by decide +kernel
theorem dX8_type_64 : decode cX8_type 64 = .ok (.getfield 7, 3) := by decide +kernel
theorem dX8_type_67 : decode cX8_type 67 = .ok (.iload_n 1, 1) := by decide +kernel
theorem dX8_type_68 : decode cX8_type 68 = .ok (.dup2, 1) := by decide +kernel
theorem dX8_type_69 : decode cX8_type 69 = .ok (.iaload, 1) := by decide +kernel
theorem dX8_type_70 : decode cX8_type 70 = .ok (.iconst 1, 1) := by decide +kernel
theorem dX8_type_71 : decode cX8_type 71 = .ok (.iadd, 1) := by decide +kernel
theorem dX8_type_72 : decode cX8_type 72 = .ok (.iastore, 1) := by decide +kernel
theorem dX8_type_73 : decode cX8_type 73 = .ok (.aload_n 0, 1) := by decide +kernel
theorem dX8_type_74 : decode cX8_type 74 = .ok (.getfield 7, 3) := by decide +kernel
theorem dX8_type_77 : decode cX8_type 77 = .ok (.iload_n 1, 1) := by decide +kernel
theorem dX8_type_78 : decode cX8_type 78 = .ok (.iaload, 1) := by decide +kernel
theorem dX8_type_79 : decode cX8_type 79 = .ok (.ireturn, 1) := by decide +kernel
set_option maxRecDepth 20000 in
theorem ggX8_wipe_X8_in : GoodIn wsX8_wipe wsX8_in := goodIn_r _ [5] (by decide +kernel) (by decide +kernel)
set_option maxRecDepth 20000 in
theorem gX8_wipe_X8_in : GoodIn wsX8_wipe (va_wsS RX8 85 yX8_in wsX8_in) := goodIn_app (goodIn_of _ (by decide +kernel)) ggX8_wipe_X8_in
theorem dX8_wipe_0 : decode cX8_wipe 0 = .ok (.iload_n 1, 1) := by decide +kernel
theorem dX8_wipe_1 : decode cX8_wipe 1 = .ok (.iconst 0, 1) := by decide +kernel
theorem dX8_wipe_2 : decode cX8_wipe 2 = .ok (.iconst 1, 1) := by decide +kernel
theorem dX8_wipe_3 : decode cX8_wipe 3 = .ok (.invokestatic 85, 3) := by decide +kernel
theorem dX8_wipe_6 : decode cX8_wipe 6 = .ok (.ifCond .ne 6, 3) := by decide +kernel
theorem dX8_wipe_9 : decode cX8_wipe 9 = .ok (.bipush (-2), 2) := by decide +kernel
theorem dX8_wipe_11 : decode cX8_wipe 11 = .ok (.ireturn, 1) := by decide +kernel
theorem dX8_wipe_12 : decode cX8_wipe 12 = .ok (.aload_n 0, 1) := by decide +kernel
theorem dX8_wipe_13 : decode cX8_wipe 13 = .ok (.getfield 7, 3) := by decide +kernel
theorem dX8_wipe_16 : decode cX8_wipe 16 = .ok (.iload_n 1, 1) := by decide +kernel
theorem dX8_wipe_17 : decode cX8_wipe 17 = .ok (.iaload, 1) := by decide +kernel
theorem dX8_wipe_18 : decode cX8_wipe 18 = .ok (.istore_n 2, 1) := by decide +kernel
theorem dX8_wipe_19 : decode cX8_wipe 19 = .ok (.aload_n 0, 1) := by decide +kernel
theorem dX8_wipe_20 : decode cX8_wipe 20 = .ok (.getfield 7, 3) := by decide +kernel
theorem dX8_wipe_23 : decode cX8_wipe 23 = .ok (.iload_n 1, 1) := by decide +kernel
theorem dX8_wipe_24 : decode cX8_wipe 24 = .ok (.iconst 0, 1) := by decide +kernel
theorem dX8_wipe_25 : decode cX8_wipe 25 = .ok (.iastore, 1) := by decide +kernel
theorem dX8_wipe_26 : decode cX8_wipe 26 = .ok (.iload_n 2, 1) := by decide +kernel
theorem dX8_wipe_27 : decode cX8_wipe 27 = .ok (.ireturn, 1) := by decide +kernel
theorem dX8_byteAt_0 : decode cX8_byteAt 0 = .ok (.iload_n 2, 1) := by decide +kernel
theorem dX8_byteAt_1 : decode cX8_byteAt 1 = .ok (.aload_n 0, 1) := by decide +kernel
theorem dX8_byteAt_2 : decode cX8_byteAt 2 = .ok (.getfield 7, 3) := by decide +kernel
theorem dX8_byteAt_5 : decode cX8_byteAt 5 = .ok (.iload_n 1, 1) := by decide +kernel
theorem dX8_byteAt_6 : decode cX8_byteAt 6 = .ok (.iaload, 1) := by decide +kernel
theorem dX8_byteAt_7 : decode cX8_byteAt 7 = .ok (.if_icmp .ge 17, 3) := by decide +kernel
theorem dX8_byteAt_10 : decode cX8_byteAt 10 = .ok (.aload_n 0, 1) := by decide +kernel
theorem dX8_byteAt_11 : decode cX8_byteAt 11 = .ok (.getfield 13, 3) := by decide +kernel
theorem dX8_byteAt_14 : decode cX8_byteAt 14 = .ok (.bipush 60, 2) := by decide +kernel
theorem dX8_byteAt_16 : decode cX8_byteAt 16 = .ok (.iload_n 1, 1) := by decide +kernel
theorem dX8_byteAt_17 : decode cX8_byteAt 17 = .ok (.imul, 1) := by decide +kernel
theorem dX8_byteAt_18 : decode cX8_byteAt 18 = .ok (.iload_n 2, 1) := by decide +kernel
theorem dX8_byteAt_19 : decode cX8_byteAt 19 = .ok (.iadd, 1) := by decide +kernel
theorem dX8_byteAt_20 : decode cX8_byteAt 20 = .ok (.iaload, 1) := by decide +kernel
theorem dX8_byteAt_21 : decode cX8_byteAt 21 = .ok (.goto 4, 3) := by decide +kernel
theorem dX8_byteAt_24 : decode cX8_byteAt 24 = .ok (.iconst (-1), 1) := by decide +kernel
theorem dX8_byteAt_25 : decode cX8_byteAt 25 = .ok (.ireturn, 1) := by decide +kernel
set_option maxRecDepth 20000 in
theorem ggX8_readsPeople_X8_byteAt : GoodIn wsX8_readsPeople wsX8_byteAt := goodIn_r _ [9, 2, 10, 14, 15, 16, 17, 18, 19, 20, 21, 22, 23, 24, 25, 26, 27, 28, 29, 30, 31, 32, 33, 34, 35, 36, 37, 38, 39, 40, 41, 42] (by decide +kernel) (by decide +kernel)
set_option maxRecDepth 20000 in
theorem gX8_readsPeople_X8_byteAt : GoodIn wsX8_readsPeople (wsV RX8 93 RX8 yX8_byteAt wsX8_byteAt) := goodIn_app (goodIn_of _ (by decide +kernel)) ggX8_readsPeople_X8_byteAt
set_option maxRecDepth 20000 in
theorem ggX8_readsPeople_X8_in : GoodIn wsX8_readsPeople wsX8_in := goodIn_r _ [13] (by decide +kernel) (by decide +kernel)
set_option maxRecDepth 20000 in
theorem gX8_readsPeople_X8_in : GoodIn wsX8_readsPeople (va_wsS RX8 85 yX8_in wsX8_in) := goodIn_app (goodIn_of _ (by decide +kernel)) ggX8_readsPeople_X8_in
theorem dX8_readsPeople_0 : decode cX8_readsPeople 0 = .ok (.aload_n 0, 1) := by decide +kernel
theorem dX8_readsPeople_1 : decode cX8_readsPeople 1 = .ok (.iconst 0, 1) := by decide +kernel
theorem dX8_readsPeople_2 : decode cX8_readsPeople 2 = .ok (.putfield 89, 3) := by decide +kernel
theorem dX8_readsPeople_5 : decode cX8_readsPeople 5 = .ok (.iconst 0, 1) := by decide +kernel
theorem dX8_readsPeople_6 : decode cX8_readsPeople 6 = .ok (.istore_n 1, 1) := by decide +kernel
theorem dX8_readsPeople_7 : decode cX8_readsPeople 7 = .ok (.iconst 0, 1) := by decide +kernel
theorem dX8_readsPeople_8 : decode cX8_readsPeople 8 = .ok (.istore_n 2, 1) := by decide +kernel
theorem dX8_readsPeople_9 : decode cX8_readsPeople 9 = .ok (.iload_n 2, 1) := by decide +kernel
theorem dX8_readsPeople_10 : decode cX8_readsPeople 10 = .ok (.aload_n 0, 1) := by decide +kernel
theorem dX8_readsPeople_11 : decode cX8_readsPeople 11 = .ok (.getfield 7, 3) := by decide +kernel
theorem dX8_readsPeople_14 : decode cX8_readsPeople 14 = .ok (.iconst 0, 1) := by decide +kernel
theorem dX8_readsPeople_15 : decode cX8_readsPeople 15 = .ok (.iaload, 1) := by decide +kernel
theorem dX8_readsPeople_16 : decode cX8_readsPeople 16 = .ok (.if_icmp .lt 7, 3) := by decide +kernel
theorem dX8_readsPeople_19 : decode cX8_readsPeople 19 = .ok (.iload_n 2, 1) := by decide +kernel
theorem dX8_readsPeople_20 : decode cX8_readsPeople 20 = .ok (.ifCond .le 150, 3) := by decide +kernel
theorem dX8_readsPeople_23 : decode cX8_readsPeople 23 = .ok (.iload_n 1, 1) := by decide +kernel
theorem dX8_readsPeople_24 : decode cX8_readsPeople 24 = .ok (.bipush 6, 2) := by decide +kernel
theorem dX8_readsPeople_26 : decode cX8_readsPeople 26 = .ok (.if_icmp .ne 5, 3) := by decide +kernel
theorem dX8_readsPeople_29 : decode cX8_readsPeople 29 = .ok (.iload_n 2, 1) := by decide +kernel
theorem dX8_readsPeople_30 : decode cX8_readsPeople 30 = .ok (.ireturn, 1) := by decide +kernel
theorem dX8_readsPeople_31 : decode cX8_readsPeople 31 = .ok (.iconst 0, 1) := by decide +kernel
theorem dX8_readsPeople_32 : decode cX8_readsPeople 32 = .ok (.istore_n 3, 1) := by decide +kernel
theorem dX8_readsPeople_33 : decode cX8_readsPeople 33 = .ok (.iload_n 3, 1) := by decide +kernel
theorem dX8_readsPeople_34 : decode cX8_readsPeople 34 = .ok (.iconst 4, 1) := by decide +kernel
theorem dX8_readsPeople_35 : decode cX8_readsPeople 35 = .ok (.if_icmp .ge 31, 3) := by decide +kernel
theorem dX8_readsPeople_38 : decode cX8_readsPeople 38 = .ok (.aload_n 0, 1) := by decide +kernel
theorem dX8_readsPeople_39 : decode cX8_readsPeople 39 = .ok (.iconst 0, 1) := by decide +kernel
theorem dX8_readsPeople_40 : decode cX8_readsPeople 40 = .ok (.iload_n 2, 1) := by decide +kernel
theorem dX8_readsPeople_41 : decode cX8_readsPeople 41 = .ok (.iload_n 3, 1) := by decide +kernel
theorem dX8_readsPeople_42 : decode cX8_readsPeople 42 = .ok (.iadd, 1) := by decide +kernel
theorem dX8_readsPeople_43 : decode cX8_readsPeople 43 = .ok (.invokevirtual 93, 3) := by decide +kernel
theorem dX8_readsPeople_46 : decode cX8_readsPeople 46 = .ok (.bipush 48, 2) := by decide +kernel
theorem dX8_readsPeople_48 : decode cX8_readsPeople 48 = .ok (.bipush 57, 2) := by decide +kernel
theorem dX8_readsPeople_50 : decode cX8_readsPeople 50 = .ok (.invokestatic 85, 3) := by decide +kernel
theorem dX8_readsPeople_53 : decode cX8_readsPeople 53 = .ok (.ifCond .ne 7, 3) := by decide +kernel
theorem dX8_readsPeople_56 : decode cX8_readsPeople 56 = .ok (.iload_n 2, 1) := by decide +kernel
theorem dX8_readsPeople_57 : decode cX8_readsPeople 57 = .ok (.iload_n 3, 1) := by decide +kernel
theorem dX8_readsPeople_58 : decode cX8_readsPeople 58 = .ok (.iadd, 1) := by decide +kernel
theorem dX8_readsPeople_59 : decode cX8_readsPeople 59 = .ok (.ireturn, 1) := by decide +kernel
theorem dX8_readsPeople_60 : decode cX8_readsPeople 60 = .ok (.iinc 3 1, 3) := by decide +kernel
theorem dX8_readsPeople_63 : decode cX8_readsPeople 63 = .ok (.goto (-30), 3) := by decide +kernel
theorem dX8_readsPeople_66 : decode cX8_readsPeople 66 = .ok (.aload_n 0, 1) := by decide +kernel
theorem dX8_readsPeople_67 : decode cX8_readsPeople 67 = .ok (.getfield 16, 3) := by decide +kernel
theorem dX8_readsPeople_70 : decode cX8_readsPeople 70 = .ok (.iload_n 1, 1) := by decide +kernel
theorem dX8_readsPeople_71 : decode cX8_readsPeople 71 = .ok (.bipush 10, 2) := by decide +kernel
theorem dX8_readsPeople_73 : decode cX8_readsPeople 73 = .ok (.aload_n 0, 1) := by decide +kernel
theorem dX8_readsPeople_74 : decode cX8_readsPeople 74 = .ok (.iconst 0, 1) := by decide +kernel
theorem dX8_readsPeople_75 : decode cX8_readsPeople 75 = .ok (.iload_n 2, 1) := by decide +kernel
theorem dX8_readsPeople_76 : decode cX8_readsPeople 76 = .ok (.invokevirtual 93, 3) := by decide +kernel
theorem dX8_readsPeople_79 : decode cX8_readsPeople 79 = .ok (.bipush 48, 2) := by decide +kernel
theorem dX8_readsPeople_81 : decode cX8_readsPeople 81 = .ok (.isub, 1) := by decide +kernel
theorem dX8_readsPeople_82 : decode cX8_readsPeople 82 = .ok (.imul, 1) := by decide +kernel
theorem dX8_readsPeople_83 : decode cX8_readsPeople 83 = .ok (.aload_n 0, 1) := by decide +kernel
theorem dX8_readsPeople_84 : decode cX8_readsPeople 84 = .ok (.iconst 0, 1) := by decide +kernel
theorem dX8_readsPeople_85 : decode cX8_readsPeople 85 = .ok (.iload_n 2, 1) := by decide +kernel
theorem dX8_readsPeople_86 : decode cX8_readsPeople 86 = .ok (.iconst 1, 1) := by decide +kernel
theorem dX8_readsPeople_87 : decode cX8_readsPeople 87 = .ok (.iadd, 1) := by decide +kernel
theorem dX8_readsPeople_88 : decode cX8_readsPeople 88 = .ok (.invokevirtual 93, 3) := by decide +kernel
theorem dX8_readsPeople_91 : decode cX8_readsPeople 91 = .ok (.iadd, 1) := by decide +kernel
theorem dX8_readsPeople_92 : decode cX8_readsPeople 92 = .ok (.bipush 48, 2) := by decide +kernel
theorem dX8_readsPeople_94 : decode cX8_readsPeople 94 = .ok (.isub, 1) := by decide +kernel
theorem dX8_readsPeople_95 : decode cX8_readsPeople 95 = .ok (.iastore, 1) := by decide +kernel
theorem dX8_readsPeople_96 : decode cX8_readsPeople 96 = .ok (.aload_n 0, 1) := by decide +kernel
theorem dX8_readsPeople_97 : decode cX8_readsPeople 97 = .ok (.getfield 19, 3) := by decide +kernel
theorem dX8_readsPeople_100 : decode cX8_readsPeople 100 = .ok (.iload_n 1, 1) := by decide +kernel
theorem dX8_readsPeople_101 : decode cX8_readsPeople 101 = .ok (.bipush 10, 2) := by decide +kernel
theorem dX8_readsPeople_103 : decode cX8_readsPeople 103 = .ok (.aload_n 0, 1) := by decide +kernel
theorem dX8_readsPeople_104 : decode cX8_readsPeople 104 = .ok (.iconst 0, 1) := by decide +kernel
theorem dX8_readsPeople_105 : decode cX8_readsPeople 105 = .ok (.iload_n 2, 1) := by decide +kernel
theorem dX8_readsPeople_106 : decode cX8_readsPeople 106 = .ok (.iconst 2, 1) := by decide +kernel
theorem dX8_readsPeople_107 : decode cX8_readsPeople 107 = .ok (.iadd, 1) := by decide +kernel
theorem dX8_readsPeople_108 : decode cX8_readsPeople 108 = .ok (.invokevirtual 93, 3) := by decide +kernel
theorem dX8_readsPeople_111 : decode cX8_readsPeople 111 = .ok (.bipush 48, 2) := by decide +kernel
theorem dX8_readsPeople_113 : decode cX8_readsPeople 113 = .ok (.isub, 1) := by decide +kernel
theorem dX8_readsPeople_114 : decode cX8_readsPeople 114 = .ok (.imul, 1) := by decide +kernel
theorem dX8_readsPeople_115 : decode cX8_readsPeople 115 = .ok (.aload_n 0, 1) := by decide +kernel
theorem dX8_readsPeople_116 : decode cX8_readsPeople 116 = .ok (.iconst 0, 1) := by decide +kernel
theorem dX8_readsPeople_117 : decode cX8_readsPeople 117 = .ok (.iload_n 2, 1) := by decide +kernel
theorem dX8_readsPeople_118 : decode cX8_readsPeople 118 = .ok (.iconst 3, 1) := by decide +kernel
theorem dX8_readsPeople_119 : decode cX8_readsPeople 119 = .ok (.iadd, 1) := by decide +kernel
theorem dX8_readsPeople_120 : decode cX8_readsPeople 120 = .ok (.invokevirtual 93, 3) := by decide +kernel
theorem dX8_readsPeople_123 : decode cX8_readsPeople 123 = .ok (.iadd, 1) := by decide +kernel
theorem dX8_readsPeople_124 : decode cX8_readsPeople 124 = .ok (.bipush 48, 2) := by decide +kernel
theorem dX8_readsPeople_126 : decode cX8_readsPeople 126 = .ok (.isub, 1) := by decide +kernel
theorem dX8_readsPeople_127 : decode cX8_readsPeople 127 = .ok (.iastore, 1) := by decide +kernel
theorem dX8_readsPeople_128 : decode cX8_readsPeople 128 = .ok (.iinc 1 1, 3) := by decide +kernel
theorem dX8_readsPeople_131 : decode cX8_readsPeople 131 = .ok (.iinc 2 4, 3) := by decide +kernel
theorem dX8_readsPeople_134 : decode cX8_readsPeople 134 = .ok (.iload_n 2, 1) := by decide +kernel
theorem dX8_readsPeople_135 : decode cX8_readsPeople 135 = .ok (.aload_n 0, 1) := by decide +kernel
theorem dX8_readsPeople_136 : decode cX8_readsPeople 136 = .ok (.getfield 7, 3) := by decide +kernel
theorem dX8_readsPeople_139 : decode cX8_readsPeople 139 = .ok (.iconst 0, 1) := by decide +kernel
theorem dX8_readsPeople_140 : decode cX8_readsPeople 140 = .ok (.iaload, 1) := by decide +kernel
theorem dX8_readsPeople_141 : decode cX8_readsPeople 141 = .ok (.if_icmp .ne 10, 3) := by decide +kernel
theorem dX8_readsPeople_144 : decode cX8_readsPeople 144 = .ok (.aload_n 0, 1) := by decide +kernel
theorem dX8_readsPeople_145 : decode cX8_readsPeople 145 = .ok (.iload_n 1, 1) := by decide +kernel
theorem dX8_readsPeople_146 : decode cX8_readsPeople 146 = .ok (.putfield 89, 3) := by decide +kernel
theorem dX8_readsPeople_149 : decode cX8_readsPeople 149 = .ok (.iconst (-1), 1) := by decide +kernel
theorem dX8_readsPeople_150 : decode cX8_readsPeople 150 = .ok (.ireturn, 1) := by decide +kernel
theorem dX8_readsPeople_151 : decode cX8_readsPeople 151 = .ok (.aload_n 0, 1) := by decide +kernel
theorem dX8_readsPeople_152 : decode cX8_readsPeople 152 = .ok (.iconst 0, 1) := by decide +kernel
theorem dX8_readsPeople_153 : decode cX8_readsPeople 153 = .ok (.iload_n 2, 1) := by decide +kernel
theorem dX8_readsPeople_154 : decode cX8_readsPeople 154 = .ok (.invokevirtual 93, 3) := by decide +kernel
theorem dX8_readsPeople_157 : decode cX8_readsPeople 157 = .ok (.bipush 59, 2) := by decide +kernel
theorem dX8_readsPeople_159 : decode cX8_readsPeople 159 = .ok (.if_icmp .eq 5, 3) := by decide +kernel
theorem dX8_readsPeople_162 : decode cX8_readsPeople 162 = .ok (.iload_n 2, 1) := by decide +kernel
theorem dX8_readsPeople_163 : decode cX8_readsPeople 163 = .ok (.ireturn, 1) := by decide +kernel
theorem dX8_readsPeople_164 : decode cX8_readsPeople 164 = .ok (.iinc 2 1, 3) := by decide +kernel
theorem dX8_readsPeople_167 : decode cX8_readsPeople 167 = .ok (.goto (-158), 3) := by decide +kernel
theorem dX8_readsPeople_170 : decode cX8_readsPeople 170 = .ok (.iconst (-1), 1) := by decide +kernel
theorem dX8_readsPeople_171 : decode cX8_readsPeople 171 = .ok (.ireturn, 1) := by decide +kernel
set_option maxRecDepth 20000 in
theorem ggX8_readsRounds_X8_byteAt : GoodIn wsX8_readsRounds wsX8_byteAt := goodIn_r _ [9, 3, 10, 14, 15, 16, 17, 18, 19, 20, 21, 22, 23, 24, 25, 26, 27, 28, 29, 30, 31, 32, 33, 34, 35, 36, 37, 38, 39, 40, 41, 42] (by decide +kernel) (by decide +kernel)
set_option maxRecDepth 20000 in
theorem gX8_readsRounds_X8_byteAt : GoodIn wsX8_readsRounds (wsV RX8 93 RX8 yX8_byteAt wsX8_byteAt) := goodIn_app (goodIn_of _ (by decide +kernel)) ggX8_readsRounds_X8_byteAt
set_option maxRecDepth 20000 in
theorem ggX8_readsRounds_X8_in : GoodIn wsX8_readsRounds wsX8_in := goodIn_r _ [13] (by decide +kernel) (by decide +kernel)
set_option maxRecDepth 20000 in
theorem gX8_readsRounds_X8_in : GoodIn wsX8_readsRounds (va_wsS RX8 85 yX8_in wsX8_in) := goodIn_app (goodIn_of _ (by decide +kernel)) ggX8_readsRounds_X8_in
theorem dX8_readsRounds_0 : decode cX8_readsRounds 0 = .ok (.aload_n 0, 1) := by decide +kernel
theorem dX8_readsRounds_1 : decode cX8_readsRounds 1 = .ok (.iconst 0, 1) := by decide +kernel
theorem dX8_readsRounds_2 : decode cX8_readsRounds 2 = .ok (.putfield 97, 3) := by decide +kernel
theorem dX8_readsRounds_5 : decode cX8_readsRounds 5 = .ok (.aload_n 0, 1) := by decide +kernel
theorem dX8_readsRounds_6 : decode cX8_readsRounds 6 = .ok (.getfield 89, 3) := by decide +kernel
theorem dX8_readsRounds_9 : decode cX8_readsRounds 9 = .ok (.ifCond .ne 18, 3) := by decide +kernel
theorem dX8_readsRounds_12 : decode cX8_readsRounds 12 = .ok (.aload_n 0, 1) := by decide +kernel
theorem dX8_readsRounds_13 : decode cX8_readsRounds 13 = .ok (.getfield 7, 3) := by decide +kernel
theorem dX8_readsRounds_16 : decode cX8_readsRounds 16 = .ok (.iconst 1, 1) := by decide +kernel
theorem dX8_readsRounds_17 : decode cX8_readsRounds 17 = .ok (.iaload, 1) := by decide +kernel
theorem dX8_readsRounds_18 : decode cX8_readsRounds 18 = .ok (.ifCond .le 7, 3) := by decide +kernel
theorem dX8_readsRounds_21 : decode cX8_readsRounds 21 = .ok (.iconst 0, 1) := by decide +kernel
theorem dX8_readsRounds_22 : decode cX8_readsRounds 22 = .ok (.goto 4, 3) := by decide +kernel
theorem dX8_readsRounds_25 : decode cX8_readsRounds 25 = .ok (.iconst (-1), 1) := by decide +kernel
theorem dX8_readsRounds_26 : decode cX8_readsRounds 26 = .ok (.ireturn, 1) := by decide +kernel
theorem dX8_readsRounds_27 : decode cX8_readsRounds 27 = .ok (.iconst 0, 1) := by decide +kernel
theorem dX8_readsRounds_28 : decode cX8_readsRounds 28 = .ok (.istore_n 1, 1) := by decide +kernel
theorem dX8_readsRounds_29 : decode cX8_readsRounds 29 = .ok (.iconst 0, 1) := by decide +kernel
theorem dX8_readsRounds_30 : decode cX8_readsRounds 30 = .ok (.istore_n 2, 1) := by decide +kernel
theorem dX8_readsRounds_31 : decode cX8_readsRounds 31 = .ok (.iload_n 2, 1) := by decide +kernel
theorem dX8_readsRounds_32 : decode cX8_readsRounds 32 = .ok (.aload_n 0, 1) := by decide +kernel
theorem dX8_readsRounds_33 : decode cX8_readsRounds 33 = .ok (.getfield 7, 3) := by decide +kernel
theorem dX8_readsRounds_36 : decode cX8_readsRounds 36 = .ok (.iconst 1, 1) := by decide +kernel
theorem dX8_readsRounds_37 : decode cX8_readsRounds 37 = .ok (.iaload, 1) := by decide +kernel
theorem dX8_readsRounds_38 : decode cX8_readsRounds 38 = .ok (.if_icmp .lt 7, 3) := by decide +kernel
theorem dX8_readsRounds_41 : decode cX8_readsRounds 41 = .ok (.iload_n 2, 1) := by decide +kernel
theorem dX8_readsRounds_42 : decode cX8_readsRounds 42 = .ok (.ifCond .le 125, 3) := by decide +kernel
theorem dX8_readsRounds_45 : decode cX8_readsRounds 45 = .ok (.iload_n 1, 1) := by decide +kernel
theorem dX8_readsRounds_46 : decode cX8_readsRounds 46 = .ok (.bipush 8, 2) := by decide +kernel
theorem dX8_readsRounds_48 : decode cX8_readsRounds 48 = .ok (.if_icmp .ne 5, 3) := by decide +kernel
theorem dX8_readsRounds_51 : decode cX8_readsRounds 51 = .ok (.iload_n 2, 1) := by decide +kernel
theorem dX8_readsRounds_52 : decode cX8_readsRounds 52 = .ok (.ireturn, 1) := by decide +kernel
theorem dX8_readsRounds_53 : decode cX8_readsRounds 53 = .ok (.iconst 0, 1) := by decide +kernel
theorem dX8_readsRounds_54 : decode cX8_readsRounds 54 = .ok (.istore_n 3, 1) := by decide +kernel
theorem dX8_readsRounds_55 : decode cX8_readsRounds 55 = .ok (.iload_n 3, 1) := by decide +kernel
theorem dX8_readsRounds_56 : decode cX8_readsRounds 56 = .ok (.aload_n 0, 1) := by decide +kernel
theorem dX8_readsRounds_57 : decode cX8_readsRounds 57 = .ok (.getfield 89, 3) := by decide +kernel
theorem dX8_readsRounds_60 : decode cX8_readsRounds 60 = .ok (.if_icmp .ge 68, 3) := by decide +kernel
theorem dX8_readsRounds_63 : decode cX8_readsRounds 63 = .ok (.aload_n 0, 1) := by decide +kernel
theorem dX8_readsRounds_64 : decode cX8_readsRounds 64 = .ok (.iconst 1, 1) := by decide +kernel
theorem dX8_readsRounds_65 : decode cX8_readsRounds 65 = .ok (.iload_n 2, 1) := by decide +kernel
theorem dX8_readsRounds_66 : decode cX8_readsRounds 66 = .ok (.invokevirtual 93, 3) := by decide +kernel
theorem dX8_readsRounds_69 : decode cX8_readsRounds 69 = .ok (.istore 4, 2) := by decide +kernel
theorem dX8_readsRounds_71 : decode cX8_readsRounds 71 = .ok (.iload 4, 2) := by decide +kernel
theorem dX8_readsRounds_73 : decode cX8_readsRounds 73 = .ok (.bipush 45, 2) := by decide +kernel
theorem dX8_readsRounds_75 : decode cX8_readsRounds 75 = .ok (.if_icmp .eq 17, 3) := by decide +kernel
theorem dX8_readsRounds_78 : decode cX8_readsRounds 78 = .ok (.iload 4, 2) := by decide +kernel
theorem dX8_readsRounds_80 : decode cX8_readsRounds 80 = .ok (.bipush 48, 2) := by decide +kernel
theorem dX8_readsRounds_82 : decode cX8_readsRounds 82 = .ok (.bipush 53, 2) := by decide +kernel
theorem dX8_readsRounds_84 : decode cX8_readsRounds 84 = .ok (.invokestatic 85, 3) := by decide +kernel
theorem dX8_readsRounds_87 : decode cX8_readsRounds 87 = .ok (.ifCond .ne 5, 3) := by decide +kernel
theorem dX8_readsRounds_90 : decode cX8_readsRounds 90 = .ok (.iload_n 2, 1) := by decide +kernel
theorem dX8_readsRounds_91 : decode cX8_readsRounds 91 = .ok (.ireturn, 1) := by decide +kernel
theorem dX8_readsRounds_92 : decode cX8_readsRounds 92 = .ok (.aload_n 0, 1) := by decide +kernel
theorem dX8_readsRounds_93 : decode cX8_readsRounds 93 = .ok (.getfield 22, 3) := by decide +kernel
theorem dX8_readsRounds_96 : decode cX8_readsRounds 96 = .ok (.bipush 6, 2) := by decide +kernel
theorem dX8_readsRounds_98 : decode cX8_readsRounds 98 = .ok (.iload_n 1, 1) := by decide +kernel
theorem dX8_readsRounds_99 : decode cX8_readsRounds 99 = .ok (.imul, 1) := by decide +kernel
theorem dX8_readsRounds_100 : decode cX8_readsRounds 100 = .ok (.iload_n 3, 1) := by decide +kernel
theorem dX8_readsRounds_101 : decode cX8_readsRounds 101 = .ok (.iadd, 1) := by decide +kernel
theorem dX8_readsRounds_102 : decode cX8_readsRounds 102 = .ok (.iload 4, 2) := by decide +kernel
theorem dX8_readsRounds_104 : decode cX8_readsRounds 104 = .ok (.bipush 45, 2) := by decide +kernel
theorem dX8_readsRounds_106 : decode cX8_readsRounds 106 = .ok (.if_icmp .ne 7, 3) := by decide +kernel
theorem dX8_readsRounds_109 : decode cX8_readsRounds 109 = .ok (.iconst (-1), 1) := by decide +kernel
theorem dX8_readsRounds_110 : decode cX8_readsRounds 110 = .ok (.goto 8, 3) := by decide +kernel
theorem dX8_readsRounds_113 : decode cX8_readsRounds 113 = .ok (.iload 4, 2) := by decide +kernel
theorem dX8_readsRounds_115 : decode cX8_readsRounds 115 = .ok (.bipush 48, 2) := by decide +kernel
theorem dX8_readsRounds_117 : decode cX8_readsRounds 117 = .ok (.isub, 1) := by decide +kernel
theorem dX8_readsRounds_118 : decode cX8_readsRounds 118 = .ok (.iastore, 1) := by decide +kernel
theorem dX8_readsRounds_119 : decode cX8_readsRounds 119 = .ok (.iinc 2 1, 3) := by decide +kernel
theorem dX8_readsRounds_122 : decode cX8_readsRounds 122 = .ok (.iinc 3 1, 3) := by decide +kernel
theorem dX8_readsRounds_125 : decode cX8_readsRounds 125 = .ok (.goto (-70), 3) := by decide +kernel
theorem dX8_readsRounds_128 : decode cX8_readsRounds 128 = .ok (.iinc 1 1, 3) := by decide +kernel
theorem dX8_readsRounds_131 : decode cX8_readsRounds 131 = .ok (.iload_n 2, 1) := by decide +kernel
theorem dX8_readsRounds_132 : decode cX8_readsRounds 132 = .ok (.aload_n 0, 1) := by decide +kernel
theorem dX8_readsRounds_133 : decode cX8_readsRounds 133 = .ok (.getfield 7, 3) := by decide +kernel
theorem dX8_readsRounds_136 : decode cX8_readsRounds 136 = .ok (.iconst 1, 1) := by decide +kernel
theorem dX8_readsRounds_137 : decode cX8_readsRounds 137 = .ok (.iaload, 1) := by decide +kernel
theorem dX8_readsRounds_138 : decode cX8_readsRounds 138 = .ok (.if_icmp .ne 10, 3) := by decide +kernel
theorem dX8_readsRounds_141 : decode cX8_readsRounds 141 = .ok (.aload_n 0, 1) := by decide +kernel
theorem dX8_readsRounds_142 : decode cX8_readsRounds 142 = .ok (.iload_n 1, 1) := by decide +kernel
theorem dX8_readsRounds_143 : decode cX8_readsRounds 143 = .ok (.putfield 97, 3) := by decide +kernel
theorem dX8_readsRounds_146 : decode cX8_readsRounds 146 = .ok (.iconst (-1), 1) := by decide +kernel
theorem dX8_readsRounds_147 : decode cX8_readsRounds 147 = .ok (.ireturn, 1) := by decide +kernel
theorem dX8_readsRounds_148 : decode cX8_readsRounds 148 = .ok (.aload_n 0, 1) := by decide +kernel
theorem dX8_readsRounds_149 : decode cX8_readsRounds 149 = .ok (.iconst 1, 1) := by decide +kernel
theorem dX8_readsRounds_150 : decode cX8_readsRounds 150 = .ok (.iload_n 2, 1) := by decide +kernel
theorem dX8_readsRounds_151 : decode cX8_readsRounds 151 = .ok (.invokevirtual 93, 3) := by decide +kernel
theorem dX8_readsRounds_154 : decode cX8_readsRounds 154 = .ok (.bipush 59, 2) := by decide +kernel
theorem dX8_readsRounds_156 : decode cX8_readsRounds 156 = .ok (.if_icmp .eq 5, 3) := by decide +kernel
theorem dX8_readsRounds_159 : decode cX8_readsRounds 159 = .ok (.iload_n 2, 1) := by decide +kernel
theorem dX8_readsRounds_160 : decode cX8_readsRounds 160 = .ok (.ireturn, 1) := by decide +kernel
theorem dX8_readsRounds_161 : decode cX8_readsRounds 161 = .ok (.iinc 2 1, 3) := by decide +kernel
theorem dX8_readsRounds_164 : decode cX8_readsRounds 164 = .ok (.goto (-133), 3) := by decide +kernel
theorem dX8_readsRounds_167 : decode cX8_readsRounds 167 = .ok (.iconst (-1), 1) := by decide +kernel
theorem dX8_readsRounds_168 : decode cX8_readsRounds 168 = .ok (.ireturn, 1) := by decide +kernel
set_option maxRecDepth 20000 in
theorem ggX8_faultOf_X8_readsPeople : GoodIn wsX8_faultOf wsX8_readsPeople := goodIn_r _ [5, 6, 7, 8, 9, 10, 11, 12, 4, 13, 14, 15, 16, 17, 24, 25, 26, 27, 28, 29, 30, 31, 32, 33, 34, 35, 36, 37, 38, 39, 40, 41, 42, 43, 44, 45, 46, 47, 48, 49, 50, 51, 52] (by decide +kernel) (by decide +kernel)
set_option maxRecDepth 20000 in
theorem gX8_faultOf_X8_readsPeople : GoodIn wsX8_faultOf (wsV RX8 100 RX8 yX8_readsPeople wsX8_readsPeople) := goodIn_app (goodIn_of _ (by decide +kernel)) ggX8_faultOf_X8_readsPeople
set_option maxRecDepth 20000 in
theorem ggX8_faultOf_X8_readsRounds : GoodIn wsX8_faultOf wsX8_readsRounds := goodIn_r _ [21, 22, 6, 7, 23, 10, 11, 12, 4, 13, 14, 15, 16, 17, 24, 25, 26, 27, 28, 29, 30, 31, 32, 33, 34, 35, 36, 37, 38, 39, 40, 41, 42, 43, 44, 45, 46, 47, 48, 49, 50, 51, 52] (by decide +kernel) (by decide +kernel)
set_option maxRecDepth 20000 in
theorem gX8_faultOf_X8_readsRounds : GoodIn wsX8_faultOf (wsV RX8 104 RX8 yX8_readsRounds wsX8_readsRounds) := goodIn_app (goodIn_of _ (by decide +kernel)) ggX8_faultOf_X8_readsRounds
theorem dX8_faultOf_0 : decode cX8_faultOf 0 = .ok (.aload_n 0, 1) := by decide +kernel
theorem dX8_faultOf_1 : decode cX8_faultOf 1 = .ok (.invokevirtual 100, 3) := by decide +kernel
theorem dX8_faultOf_4 : decode cX8_faultOf 4 = .ok (.istore_n 2, 1) := by decide +kernel
theorem dX8_faultOf_5 : decode cX8_faultOf 5 = .ok (.aload_n 0, 1) := by decide +kernel
theorem dX8_faultOf_6 : decode cX8_faultOf 6 = .ok (.invokevirtual 104, 3) := by decide +kernel
theorem dX8_faultOf_9 : decode cX8_faultOf 9 = .ok (.istore_n 3, 1) := by decide +kernel
theorem dX8_faultOf_10 : decode cX8_faultOf 10 = .ok (.iload_n 1, 1) := by decide +kernel
theorem dX8_faultOf_11 : decode cX8_faultOf 11 = .ok (.ifCond .ne 7, 3) := by decide +kernel
theorem dX8_faultOf_14 : decode cX8_faultOf 14 = .ok (.iload_n 2, 1) := by decide +kernel
theorem dX8_faultOf_15 : decode cX8_faultOf 15 = .ok (.goto 4, 3) := by decide +kernel
theorem dX8_faultOf_18 : decode cX8_faultOf 18 = .ok (.iload_n 3, 1) := by decide +kernel
theorem dX8_faultOf_19 : decode cX8_faultOf 19 = .ok (.ireturn, 1) := by decide +kernel
set_option maxRecDepth 20000 in
theorem ggX8_reads_X8_faultOf : GoodIn wsX8_reads wsX8_faultOf := goodIn_r _ [5, 6, 7, 8, 4, 9, 10, 11, 12, 13, 14, 15, 16, 17, 18, 19, 20, 21, 22, 23, 24, 25, 26, 27, 28, 29, 30, 31, 32, 33, 34, 35, 36, 37, 38, 39, 40, 41, 42, 43, 44, 45, 46, 47, 48, 49, 50, 51, 52, 53, 54, 55, 56] (by decide +kernel) (by decide +kernel)
set_option maxRecDepth 20000 in
theorem gX8_reads_X8_faultOf : GoodIn wsX8_reads (wsV RX8 107 RX8 yX8_faultOf wsX8_faultOf) := goodIn_app (goodIn_of _ (by decide +kernel)) ggX8_reads_X8_faultOf
theorem dX8_reads_0 : decode cX8_reads 0 = .ok (.aload_n 0, 1) := by decide +kernel
theorem dX8_reads_1 : decode cX8_reads 1 = .ok (.iconst 0, 1) := by decide +kernel
theorem dX8_reads_2 : decode cX8_reads 2 = .ok (.invokevirtual 107, 3) := by decide +kernel
theorem dX8_reads_5 : decode cX8_reads 5 = .ok (.istore_n 1, 1) := by decide +kernel
theorem dX8_reads_6 : decode cX8_reads 6 = .ok (.return_, 1) := by decide +kernel
set_option maxRecDepth 20000 in
theorem ggX8_fault_X8_in : GoodIn wsX8_fault wsX8_in := goodIn_r _ [4] (by decide +kernel) (by decide +kernel)
set_option maxRecDepth 20000 in
theorem gX8_fault_X8_in : GoodIn wsX8_fault (va_wsS RX8 85 yX8_in wsX8_in) := goodIn_app (goodIn_of _ (by decide +kernel)) ggX8_fault_X8_in
set_option maxRecDepth 20000 in
theorem ggX8_fault_X8_faultOf : GoodIn wsX8_fault wsX8_faultOf := goodIn_r _ [8, 9, 10, 11, 3, 12, 13, 14, 15, 16, 17, 18, 19, 20, 21, 1, 2, 4, 22, 23, 24, 25, 26, 27, 28, 29, 30, 31, 32, 33, 34, 35, 36, 37, 38, 39, 40, 41, 42, 43, 44, 45, 46, 47, 48, 49, 50, 51, 52, 53, 54, 55, 56] (by decide +kernel) (by decide +kernel)
set_option maxRecDepth 20000 in
theorem gX8_fault_X8_faultOf : GoodIn wsX8_fault (wsV RX8 107 RX8 yX8_faultOf wsX8_faultOf) := goodIn_app (goodIn_of _ (by decide +kernel)) ggX8_fault_X8_faultOf
theorem dX8_fault_0 : decode cX8_fault 0 = .ok (.iload_n 1, 1) := by decide +kernel
theorem dX8_fault_1 : decode cX8_fault 1 = .ok (.iconst 0, 1) := by decide +kernel
theorem dX8_fault_2 : decode cX8_fault 2 = .ok (.iconst 1, 1) := by decide +kernel
theorem dX8_fault_3 : decode cX8_fault 3 = .ok (.invokestatic 85, 3) := by decide +kernel
theorem dX8_fault_6 : decode cX8_fault 6 = .ok (.ifCond .eq 11, 3) := by decide +kernel
theorem dX8_fault_9 : decode cX8_fault 9 = .ok (.aload_n 0, 1) := by decide +kernel
theorem dX8_fault_10 : decode cX8_fault 10 = .ok (.iload_n 1, 1) := by decide +kernel
theorem dX8_fault_11 : decode cX8_fault 11 = .ok (.invokevirtual 107, 3) := by decide +kernel
theorem dX8_fault_14 : decode cX8_fault 14 = .ok (.goto 5, 3) := by decide +kernel
theorem dX8_fault_17 : decode cX8_fault 17 = .ok (.bipush (-2), 2) := by decide +kernel
theorem dX8_fault_19 : decode cX8_fault 19 = .ok (.ireturn, 1) := by decide +kernel
set_option maxRecDepth 20000 in
theorem ggX8_isPerson_X8_reads : GoodIn wsX8_isPerson wsX8_reads := goodIn_r _ [6, 7, 8, 9, 5, 10, 11, 12, 13, 14, 1, 15, 16, 17, 18, 19, 20, 21, 22, 23, 24, 25, 26, 27, 28, 29, 30, 31, 32, 33, 34, 35, 36, 37, 38, 39, 40, 41, 42, 43, 44, 45, 46, 47, 48, 49, 50, 51, 52, 53, 54, 55, 56, 57, 58, 59, 60] (by decide +kernel) (by decide +kernel)
set_option maxRecDepth 20000 in
theorem gX8_isPerson_X8_reads : GoodIn wsX8_isPerson (wsV RX8 111 RX8 yX8_reads wsX8_reads) := goodIn_app (goodIn_of _ (by decide +kernel)) ggX8_isPerson_X8_reads
set_option maxRecDepth 20000 in
theorem ggX8_isPerson_X8_in : GoodIn wsX8_isPerson wsX8_in := goodIn_r _ [25] (by decide +kernel) (by decide +kernel)
set_option maxRecDepth 20000 in
theorem gX8_isPerson_X8_in : GoodIn wsX8_isPerson (va_wsS RX8 85 yX8_in wsX8_in) := goodIn_app (goodIn_of _ (by decide +kernel)) ggX8_isPerson_X8_in
theorem dX8_isPerson_0 : decode cX8_isPerson 0 = .ok (.aload_n 0, 1) := by decide +kernel
theorem dX8_isPerson_1 : decode cX8_isPerson 1 = .ok (.invokevirtual 111, 3) := by decide +kernel
theorem dX8_isPerson_4 : decode cX8_isPerson 4 = .ok (.iload_n 1, 1) := by decide +kernel
theorem dX8_isPerson_5 : decode cX8_isPerson 5 = .ok (.iconst 0, 1) := by decide +kernel
theorem dX8_isPerson_6 : decode cX8_isPerson 6 = .ok (.aload_n 0, 1) := by decide +kernel
theorem dX8_isPerson_7 : decode cX8_isPerson 7 = .ok (.getfield 89, 3) := by decide +kernel
theorem dX8_isPerson_10 : decode cX8_isPerson 10 = .ok (.iconst 1, 1) := by decide +kernel
theorem dX8_isPerson_11 : decode cX8_isPerson 11 = .ok (.isub, 1) := by decide +kernel
theorem dX8_isPerson_12 : decode cX8_isPerson 12 = .ok (.invokestatic 85, 3) := by decide +kernel
theorem dX8_isPerson_15 : decode cX8_isPerson 15 = .ok (.ireturn, 1) := by decide +kernel
set_option maxRecDepth 20000 in
theorem ggX8_isRound_X8_reads : GoodIn wsX8_isRound wsX8_reads := goodIn_r _ [6, 7, 8, 9, 5, 10, 11, 12, 13, 14, 15, 16, 17, 18, 19, 20, 21, 22, 23, 24, 25, 26, 27, 28, 29, 30, 1, 31, 32, 33, 34, 35, 36, 37, 38, 39, 40, 41, 42, 43, 44, 45, 46, 47, 48, 49, 50, 51, 52, 53, 54, 55, 56, 57, 58, 59, 60] (by decide +kernel) (by decide +kernel)
set_option maxRecDepth 20000 in
theorem gX8_isRound_X8_reads : GoodIn wsX8_isRound (wsV RX8 111 RX8 yX8_reads wsX8_reads) := goodIn_app (goodIn_of _ (by decide +kernel)) ggX8_isRound_X8_reads
set_option maxRecDepth 20000 in
theorem ggX8_isRound_X8_in : GoodIn wsX8_isRound wsX8_in := goodIn_r _ [26] (by decide +kernel) (by decide +kernel)
set_option maxRecDepth 20000 in
theorem gX8_isRound_X8_in : GoodIn wsX8_isRound (va_wsS RX8 85 yX8_in wsX8_in) := goodIn_app (goodIn_of _ (by decide +kernel)) ggX8_isRound_X8_in
theorem dX8_isRound_0 : decode cX8_isRound 0 = .ok (.aload_n 0, 1) := by decide +kernel
theorem dX8_isRound_1 : decode cX8_isRound 1 = .ok (.invokevirtual 111, 3) := by decide +kernel
theorem dX8_isRound_4 : decode cX8_isRound 4 = .ok (.iload_n 1, 1) := by decide +kernel
theorem dX8_isRound_5 : decode cX8_isRound 5 = .ok (.iconst 0, 1) := by decide +kernel
theorem dX8_isRound_6 : decode cX8_isRound 6 = .ok (.aload_n 0, 1) := by decide +kernel
theorem dX8_isRound_7 : decode cX8_isRound 7 = .ok (.getfield 97, 3) := by decide +kernel
theorem dX8_isRound_10 : decode cX8_isRound 10 = .ok (.iconst 1, 1) := by decide +kernel
theorem dX8_isRound_11 : decode cX8_isRound 11 = .ok (.isub, 1) := by decide +kernel
theorem dX8_isRound_12 : decode cX8_isRound 12 = .ok (.invokestatic 85, 3) := by decide +kernel
theorem dX8_isRound_15 : decode cX8_isRound 15 = .ok (.ireturn, 1) := by decide +kernel
set_option maxRecDepth 20000 in
theorem ggX8_isSix_X8_in : GoodIn wsX8_isSix wsX8_in := goodIn_r _ [4] (by decide +kernel) (by decide +kernel)
set_option maxRecDepth 20000 in
theorem gX8_isSix_X8_in : GoodIn wsX8_isSix (va_wsS RX8 85 yX8_in wsX8_in) := goodIn_app (goodIn_of _ (by decide +kernel)) ggX8_isSix_X8_in
theorem dX8_isSix_0 : decode cX8_isSix 0 = .ok (.iload_n 0, 1) := by decide +kernel
theorem dX8_isSix_1 : decode cX8_isSix 1 = .ok (.iconst 0, 1) := by decide +kernel
theorem dX8_isSix_2 : decode cX8_isSix 2 = .ok (.iconst 5, 1) := by decide +kernel
theorem dX8_isSix_3 : decode cX8_isSix 3 = .ok (.invokestatic 85, 3) := by decide +kernel
theorem dX8_isSix_6 : decode cX8_isSix 6 = .ok (.ireturn, 1) := by decide +kernel
set_option maxRecDepth 20000 in
theorem ggX8_person_X8_isPerson : GoodIn wsX8_person wsX8_isPerson := goodIn_r _ [7, 8, 9, 10, 11, 6, 12, 13, 14, 15, 16, 17, 18, 19, 20, 21, 1, 2, 22, 23, 24, 25, 26, 27, 28, 29, 30, 31, 32, 33, 34, 35, 36, 37, 38, 39, 40, 41, 42, 43, 44, 45, 46, 47, 48, 49, 50, 51, 52, 53, 54, 55, 56, 57, 58, 59, 60, 61, 62, 63, 64] (by decide +kernel) (by decide +kernel)
set_option maxRecDepth 20000 in
theorem gX8_person_X8_isPerson : GoodIn wsX8_person (wsV RX8 114 RX8 yX8_isPerson wsX8_isPerson) := goodIn_app (goodIn_of _ (by decide +kernel)) ggX8_person_X8_isPerson
set_option maxRecDepth 20000 in
theorem ggX8_person_X8_in : GoodIn wsX8_person wsX8_in := goodIn_r _ [29] (by decide +kernel) (by decide +kernel)
set_option maxRecDepth 20000 in
theorem gX8_person_X8_in : GoodIn wsX8_person (va_wsS RX8 85 yX8_in wsX8_in) := goodIn_app (goodIn_of _ (by decide +kernel)) ggX8_person_X8_in
theorem dX8_person_0 : decode cX8_person 0 = .ok (.aload_n 0, 1) := by decide +kernel
theorem dX8_person_1 : decode cX8_person 1 = .ok (.iload_n 1, 1) := by decide +kernel
theorem dX8_person_2 : decode cX8_person 2 = .ok (.invokevirtual 114, 3) := by decide +kernel
theorem dX8_person_5 : decode cX8_person 5 = .ok (.ifCond .eq 34, 3) := by decide +kernel
theorem dX8_person_8 : decode cX8_person 8 = .ok (.iload_n 2, 1) := by decide +kernel
theorem dX8_person_9 : decode cX8_person 9 = .ok (.iconst 0, 1) := by decide +kernel
theorem dX8_person_10 : decode cX8_person 10 = .ok (.iconst 1, 1) := by decide +kernel
theorem dX8_person_11 : decode cX8_person 11 = .ok (.invokestatic 85, 3) := by decide +kernel
theorem dX8_person_14 : decode cX8_person 14 = .ok (.ifCond .eq 25, 3) := by decide +kernel
theorem dX8_person_17 : decode cX8_person 17 = .ok (.iload_n 2, 1) := by decide +kernel
theorem dX8_person_18 : decode cX8_person 18 = .ok (.ifCond .ne 12, 3) := by decide +kernel
theorem dX8_person_21 : decode cX8_person 21 = .ok (.aload_n 0, 1) := by decide +kernel
theorem dX8_person_22 : decode cX8_person 22 = .ok (.getfield 16, 3) := by decide +kernel
theorem dX8_person_25 : decode cX8_person 25 = .ok (.iload_n 1, 1) := by decide +kernel
theorem dX8_person_26 : decode cX8_person 26 = .ok (.iaload, 1) := by decide +kernel
theorem dX8_person_27 : decode cX8_person 27 = .ok (.goto 14, 3) := by decide +kernel
theorem dX8_person_30 : decode cX8_person 30 = .ok (.aload_n 0, 1) := by decide +kernel
theorem dX8_person_31 : decode cX8_person 31 = .ok (.getfield 19, 3) := by decide +kernel
theorem dX8_person_34 : decode cX8_person 34 = .ok (.iload_n 1, 1) := by decide +kernel
theorem dX8_person_35 : decode cX8_person 35 = .ok (.iaload, 1) := by decide +kernel
theorem dX8_person_36 : decode cX8_person 36 = .ok (.goto 5, 3) := by decide +kernel
theorem dX8_person_39 : decode cX8_person 39 = .ok (.bipush (-2), 2) := by decide +kernel
theorem dX8_person_41 : decode cX8_person 41 = .ok (.ireturn, 1) := by decide +kernel
set_option maxRecDepth 20000 in
theorem ggX8_sits_X8_isRound : GoodIn wsX8_sits wsX8_isRound := goodIn_r _ [6, 7, 8, 9, 10, 5, 11, 12, 13, 14, 15, 16, 17, 18, 19, 20, 21, 22, 23, 24, 25, 26, 27, 28, 29, 30, 31, 32, 33, 34, 35, 1, 40, 41, 42, 43, 44, 45, 46, 47, 48, 49, 50, 51, 52, 53, 54, 55, 56, 57, 58, 59, 60, 61, 62, 63, 64, 65, 66, 67, 68] (by decide +kernel) (by decide +kernel)
set_option maxRecDepth 20000 in
theorem gX8_sits_X8_isRound : GoodIn wsX8_sits (wsV RX8 118 RX8 yX8_isRound wsX8_isRound) := goodIn_app (goodIn_of _ (by decide +kernel)) ggX8_sits_X8_isRound
set_option maxRecDepth 20000 in
theorem ggX8_sits_X8_isPerson : GoodIn wsX8_sits wsX8_isPerson := goodIn_r _ [39, 20, 8, 9, 10, 5, 11, 12, 13, 14, 15, 16, 17, 18, 19, 21, 22, 23, 24, 25, 26, 27, 28, 29, 30, 31, 32, 33, 34, 35, 7, 1, 40, 41, 42, 43, 44, 45, 46, 47, 48, 49, 50, 51, 52, 53, 54, 55, 56, 57, 58, 59, 60, 61, 62, 63, 64, 65, 66, 67, 68] (by decide +kernel) (by decide +kernel)
set_option maxRecDepth 20000 in
theorem gX8_sits_X8_isPerson : GoodIn wsX8_sits (wsV RX8 114 RX8 yX8_isPerson wsX8_isPerson) := goodIn_app (goodIn_of _ (by decide +kernel)) ggX8_sits_X8_isPerson
theorem dX8_sits_0 : decode cX8_sits 0 = .ok (.aload_n 0, 1) := by decide +kernel
theorem dX8_sits_1 : decode cX8_sits 1 = .ok (.iload_n 1, 1) := by decide +kernel
theorem dX8_sits_2 : decode cX8_sits 2 = .ok (.invokevirtual 118, 3) := by decide +kernel
theorem dX8_sits_5 : decode cX8_sits 5 = .ok (.ifCond .eq 25, 3) := by decide +kernel
theorem dX8_sits_8 : decode cX8_sits 8 = .ok (.aload_n 0, 1) := by decide +kernel
theorem dX8_sits_9 : decode cX8_sits 9 = .ok (.iload_n 2, 1) := by decide +kernel
theorem dX8_sits_10 : decode cX8_sits 10 = .ok (.invokevirtual 114, 3) := by decide +kernel
theorem dX8_sits_13 : decode cX8_sits 13 = .ok (.ifCond .eq 17, 3) := by decide +kernel
theorem dX8_sits_16 : decode cX8_sits 16 = .ok (.aload_n 0, 1) := by decide +kernel
theorem dX8_sits_17 : decode cX8_sits 17 = .ok (.getfield 22, 3) := by decide +kernel
theorem dX8_sits_20 : decode cX8_sits 20 = .ok (.bipush 6, 2) := by decide +kernel
theorem dX8_sits_22 : decode cX8_sits 22 = .ok (.iload_n 1, 1) := by decide +kernel
theorem dX8_sits_23 : decode cX8_sits 23 = .ok (.imul, 1) := by decide +kernel
theorem dX8_sits_24 : decode cX8_sits 24 = .ok (.iload_n 2, 1) := by decide +kernel
theorem dX8_sits_25 : decode cX8_sits 25 = .ok (.iadd, 1) := by decide +kernel
theorem dX8_sits_26 : decode cX8_sits 26 = .ok (.iaload, 1) := by decide +kernel
theorem dX8_sits_27 : decode cX8_sits 27 = .ok (.goto 5, 3) := by decide +kernel
theorem dX8_sits_30 : decode cX8_sits 30 = .ok (.bipush (-2), 2) := by decide +kernel
theorem dX8_sits_32 : decode cX8_sits 32 = .ok (.ireturn, 1) := by decide +kernel
set_option maxRecDepth 20000 in
theorem ggX8_home_X8_isSix : GoodIn wsX8_home wsX8_isSix := goodIn_r _ [5, 6, 7, 4, 8] (by decide +kernel) (by decide +kernel)
set_option maxRecDepth 20000 in
theorem gX8_home_X8_isSix : GoodIn wsX8_home (va_wsS RX8 121 yX8_isSix wsX8_isSix) := goodIn_app (goodIn_of _ (by decide +kernel)) ggX8_home_X8_isSix
set_option maxRecDepth 20000 in
theorem ggX8_home_X8_in : GoodIn wsX8_home wsX8_in := goodIn_r _ [8] (by decide +kernel) (by decide +kernel)
set_option maxRecDepth 20000 in
theorem gX8_home_X8_in : GoodIn wsX8_home (va_wsS RX8 85 yX8_in wsX8_in) := goodIn_app (goodIn_of _ (by decide +kernel)) ggX8_home_X8_in
theorem dX8_home_0 : decode cX8_home 0 = .ok (.iload_n 1, 1) := by decide +kernel
theorem dX8_home_1 : decode cX8_home 1 = .ok (.invokestatic 121, 3) := by decide +kernel
theorem dX8_home_4 : decode cX8_home 4 = .ok (.ifCond .eq 13, 3) := by decide +kernel
theorem dX8_home_7 : decode cX8_home 7 = .ok (.iload_n 2, 1) := by decide +kernel
theorem dX8_home_8 : decode cX8_home 8 = .ok (.iconst 0, 1) := by decide +kernel
theorem dX8_home_9 : decode cX8_home 9 = .ok (.bipush 99, 2) := by decide +kernel
theorem dX8_home_11 : decode cX8_home 11 = .ok (.invokestatic 85, 3) := by decide +kernel
theorem dX8_home_14 : decode cX8_home 14 = .ok (.ifCond .ne 6, 3) := by decide +kernel
theorem dX8_home_17 : decode cX8_home 17 = .ok (.bipush (-2), 2) := by decide +kernel
theorem dX8_home_19 : decode cX8_home 19 = .ok (.ireturn, 1) := by decide +kernel
theorem dX8_home_20 : decode cX8_home 20 = .ok (.aload_n 0, 1) := by decide +kernel
theorem dX8_home_21 : decode cX8_home 21 = .ok (.getfield 25, 3) := by decide +kernel
theorem dX8_home_24 : decode cX8_home 24 = .ok (.iload_n 1, 1) := by decide +kernel
theorem dX8_home_25 : decode cX8_home 25 = .ok (.iaload, 1) := by decide +kernel
theorem dX8_home_26 : decode cX8_home 26 = .ok (.istore_n 3, 1) := by decide +kernel
theorem dX8_home_27 : decode cX8_home 27 = .ok (.aload_n 0, 1) := by decide +kernel
theorem dX8_home_28 : decode cX8_home 28 = .ok (.getfield 25, 3) := by decide +kernel
theorem dX8_home_31 : decode cX8_home 31 = .ok (.iload_n 1, 1) := by decide +kernel
theorem dX8_home_32 : decode cX8_home 32 = .ok (.iload_n 2, 1) := by decide +kernel
theorem dX8_home_33 : decode cX8_home 33 = .ok (.iastore, 1) := by decide +kernel
theorem dX8_home_34 : decode cX8_home 34 = .ok (.iload_n 3, 1) := by decide +kernel
theorem dX8_home_35 : decode cX8_home 35 = .ok (.ireturn, 1) := by decide +kernel
set_option maxRecDepth 20000 in
theorem ggX8_worth_X8_isSix : GoodIn wsX8_worth wsX8_isSix := goodIn_r _ [5, 6, 7, 4, 8] (by decide +kernel) (by decide +kernel)
set_option maxRecDepth 20000 in
theorem gX8_worth_X8_isSix : GoodIn wsX8_worth (va_wsS RX8 121 yX8_isSix wsX8_isSix) := goodIn_app (goodIn_of _ (by decide +kernel)) ggX8_worth_X8_isSix
set_option maxRecDepth 20000 in
theorem ggX8_worth_X8_in : GoodIn wsX8_worth wsX8_in := goodIn_r _ [8] (by decide +kernel) (by decide +kernel)
set_option maxRecDepth 20000 in
theorem gX8_worth_X8_in : GoodIn wsX8_worth (va_wsS RX8 85 yX8_in wsX8_in) := goodIn_app (goodIn_of _ (by decide +kernel)) ggX8_worth_X8_in
theorem dX8_worth_0 : decode cX8_worth 0 = .ok (.iload_n 1, 1) := by decide +kernel
theorem dX8_worth_1 : decode cX8_worth 1 = .ok (.invokestatic 121, 3) := by decide +kernel
theorem dX8_worth_4 : decode cX8_worth 4 = .ok (.ifCond .eq 13, 3) := by decide +kernel
theorem dX8_worth_7 : decode cX8_worth 7 = .ok (.iload_n 2, 1) := by decide +kernel
theorem dX8_worth_8 : decode cX8_worth 8 = .ok (.iconst 0, 1) := by decide +kernel
theorem dX8_worth_9 : decode cX8_worth 9 = .ok (.bipush 99, 2) := by decide +kernel
theorem dX8_worth_11 : decode cX8_worth 11 = .ok (.invokestatic 85, 3) := by decide +kernel
theorem dX8_worth_14 : decode cX8_worth 14 = .ok (.ifCond .ne 6, 3) := by decide +kernel
theorem dX8_worth_17 : decode cX8_worth 17 = .ok (.bipush (-2), 2) := by decide +kernel
theorem dX8_worth_19 : decode cX8_worth 19 = .ok (.ireturn, 1) := by decide +kernel
theorem dX8_worth_20 : decode cX8_worth 20 = .ok (.aload_n 0, 1) := by decide +kernel
theorem dX8_worth_21 : decode cX8_worth 21 = .ok (.getfield 28, 3) := by decide +kernel
theorem dX8_worth_24 : decode cX8_worth 24 = .ok (.iload_n 1, 1) := by decide +kernel
theorem dX8_worth_25 : decode cX8_worth 25 = .ok (.iaload, 1) := by decide +kernel
theorem dX8_worth_26 : decode cX8_worth 26 = .ok (.istore_n 3, 1) := by decide +kernel
theorem dX8_worth_27 : decode cX8_worth 27 = .ok (.aload_n 0, 1) := by decide +kernel
theorem dX8_worth_28 : decode cX8_worth 28 = .ok (.getfield 28, 3) := by decide +kernel
theorem dX8_worth_31 : decode cX8_worth 31 = .ok (.iload_n 1, 1) := by decide +kernel
theorem dX8_worth_32 : decode cX8_worth 32 = .ok (.iload_n 2, 1) := by decide +kernel
theorem dX8_worth_33 : decode cX8_worth 33 = .ok (.iastore, 1) := by decide +kernel
theorem dX8_worth_34 : decode cX8_worth 34 = .ok (.iload_n 3, 1) := by decide +kernel
theorem dX8_worth_35 : decode cX8_worth 35 = .ok (.ireturn, 1) := by decide +kernel
set_option maxRecDepth 20000 in
theorem ggX8_read_X8_isSheet : GoodIn wsX8_read wsX8_isSheet := goodIn_r _ [8, 9, 10, 7, 11] (by decide +kernel) (by decide +kernel)
set_option maxRecDepth 20000 in
theorem gX8_read_X8_isSheet : GoodIn wsX8_read (va_wsS RX8 124 yX8_isSheet wsX8_isSheet) := goodIn_app (goodIn_of _ (by decide +kernel)) ggX8_read_X8_isSheet
set_option maxRecDepth 20000 in
theorem ggX8_read_X8_meets : GoodIn wsX8_read wsX8_meets := goodIn_r _ [15, 16, 17, 18, 19, 20, 21, 22, 23, 24, 25, 26, 27, 28, 29, 30, 31, 32, 33, 34, 35, 36, 37, 38, 39, 40, 41, 42, 43, 44, 45] (by decide +kernel) (by decide +kernel)
set_option maxRecDepth 20000 in
theorem gX8_read_X8_meets : GoodIn wsX8_read (wsV RX8 127 RX8 yX8_meets wsX8_meets) := goodIn_app (goodIn_of _ (by decide +kernel)) ggX8_read_X8_meets
set_option maxRecDepth 20000 in
theorem ggX8_read_X8_in : GoodIn wsX8_read wsX8_in := goodIn_r _ [11] (by decide +kernel) (by decide +kernel)
set_option maxRecDepth 20000 in
theorem gX8_read_X8_in : GoodIn wsX8_read (va_wsS RX8 85 yX8_in wsX8_in) := goodIn_app (goodIn_of _ (by decide +kernel)) ggX8_read_X8_in
theorem dX8_read_0 : decode cX8_read 0 = .ok (.iload_n 1, 1) := by decide +kernel
theorem dX8_read_1 : decode cX8_read 1 = .ok (.invokestatic 124, 3) := by decide +kernel
theorem dX8_read_4 : decode cX8_read 4 = .ok (.ifCond .ne 6, 3) := by decide +kernel
theorem dX8_read_7 : decode cX8_read 7 = .ok (.bipush (-2), 2) := by decide +kernel
theorem dX8_read_9 : decode cX8_read 9 = .ok (.ireturn, 1) := by decide +kernel
theorem dX8_read_10 : decode cX8_read 10 = .ok (.aload_n 0, 1) := by decide +kernel
theorem dX8_read_11 : decode cX8_read 11 = .ok (.getfield 67, 3) := by decide +kernel
theorem dX8_read_14 : decode cX8_read 14 = .ok (.iload_n 1, 1) := by decide +kernel
theorem dX8_read_15 : decode cX8_read 15 = .ok (.baload, 1) := by decide +kernel
theorem dX8_read_16 : decode cX8_read 16 = .ok (.ifCond .ne 9, 3) := by decide +kernel
theorem dX8_read_19 : decode cX8_read 19 = .ok (.aload_n 0, 1) := by decide +kernel
theorem dX8_read_20 : decode cX8_read 20 = .ok (.iconst 1, 1) := by decide +kernel
theorem dX8_read_21 : decode cX8_read 21 = .ok (.invokevirtual 127, 3) := by decide +kernel
theorem dX8_read_24 : decode cX8_read 24 = .ok (.ireturn, 1) := by decide +kernel
theorem dX8_read_25 : decode cX8_read 25 = .ok (.iconst 0, 1) := by decide +kernel
theorem dX8_read_26 : decode cX8_read 26 = .ok (.istore_n 2, 1) := by decide +kernel
theorem dX8_read_27 : decode cX8_read 27 = .ok (.iload_n 2, 1) := by decide +kernel
theorem dX8_read_28 : decode cX8_read 28 = .ok (.aload_n 0, 1) := by decide +kernel
theorem dX8_read_29 : decode cX8_read 29 = .ok (.getfield 74, 3) := by decide +kernel
theorem dX8_read_32 : decode cX8_read 32 = .ok (.iload_n 1, 1) := by decide +kernel
theorem dX8_read_33 : decode cX8_read 33 = .ok (.iaload, 1) := by decide +kernel
theorem dX8_read_34 : decode cX8_read 34 = .ok (.if_icmp .ge 52, 3) := by decide +kernel
theorem dX8_read_37 : decode cX8_read 37 = .ok (.iload_n 2, 1) := by decide +kernel
theorem dX8_read_38 : decode cX8_read 38 = .ok (.bipush 6, 2) := by decide +kernel
theorem dX8_read_40 : decode cX8_read 40 = .ok (.if_icmp .ge 46, 3) := by decide +kernel
theorem dX8_read_43 : decode cX8_read 43 = .ok (.aload_n 0, 1) := by decide +kernel
theorem dX8_read_44 : decode cX8_read 44 = .ok (.getfield 77, 3) := by decide +kernel
theorem dX8_read_47 : decode cX8_read 47 = .ok (.bipush 48, 2) := by decide +kernel
theorem dX8_read_49 : decode cX8_read 49 = .ok (.iload_n 1, 1) := by decide +kernel
theorem dX8_read_50 : decode cX8_read 50 = .ok (.imul, 1) := by decide +kernel
theorem dX8_read_51 : decode cX8_read 51 = .ok (.iload_n 2, 1) := by decide +kernel
theorem dX8_read_52 : decode cX8_read 52 = .ok (.iadd, 1) := by decide +kernel
theorem dX8_read_53 : decode cX8_read 53 = .ok (.iaload, 1) := by decide +kernel
theorem dX8_read_54 : decode cX8_read 54 = .ok (.iconst 0, 1) := by decide +kernel
theorem dX8_read_55 : decode cX8_read 55 = .ok (.bipush 99, 2) := by decide +kernel
theorem dX8_read_57 : decode cX8_read 57 = .ok (.invokestatic 85, 3) := by decide +kernel
theorem dX8_read_60 : decode cX8_read 60 = .ok (.ifCond .eq 26, 3) := by decide +kernel
theorem dX8_read_63 : decode cX8_read 63 = .ok (.aload_n 0, 1) := by decide +kernel
theorem dX8_read_64 : decode cX8_read 64 = .ok (.getfield 25, 3) := by decide +kernel
theorem dX8_read_67 : decode cX8_read 67 = .ok (.iload_n 2, 1) := by decide +kernel
theorem dX8_read_68 : decode cX8_read 68 = .ok (.aload_n 0, 1) := by decide +kernel
theorem dX8_read_69 : decode cX8_read 69 = .ok (.getfield 77, 3) := by decide +kernel
theorem dX8_read_72 : decode cX8_read 72 = .ok (.bipush 48, 2) := by decide +kernel
theorem dX8_read_74 : decode cX8_read 74 = .ok (.iload_n 1, 1) := by decide +kernel
theorem dX8_read_75 : decode cX8_read 75 = .ok (.imul, 1) := by decide +kernel
theorem dX8_read_76 : decode cX8_read 76 = .ok (.iload_n 2, 1) := by decide +kernel
theorem dX8_read_77 : decode cX8_read 77 = .ok (.iadd, 1) := by decide +kernel
theorem dX8_read_78 : decode cX8_read 78 = .ok (.iaload, 1) := by decide +kernel
theorem dX8_read_79 : decode cX8_read 79 = .ok (.iastore, 1) := by decide +kernel
theorem dX8_read_80 : decode cX8_read 80 = .ok (.iinc 2 1, 3) := by decide +kernel
theorem dX8_read_83 : decode cX8_read 83 = .ok (.goto (-56), 3) := by decide +kernel
theorem dX8_read_86 : decode cX8_read 86 = .ok (.iload_n 2, 1) := by decide +kernel
theorem dX8_read_87 : decode cX8_read 87 = .ok (.ireturn, 1) := by decide +kernel
set_option maxRecDepth 20000 in
theorem ggX8_set_X8_in : GoodIn wsX8_set wsX8_in := goodIn_r _ [5] (by decide +kernel) (by decide +kernel)
set_option maxRecDepth 20000 in
theorem gX8_set_X8_in : GoodIn wsX8_set (va_wsS RX8 85 yX8_in wsX8_in) := goodIn_app (goodIn_of _ (by decide +kernel)) ggX8_set_X8_in
theorem dX8_set_0 : decode cX8_set 0 = .ok (.iload_n 1, 1) := by decide +kernel
theorem dX8_set_1 : decode cX8_set 1 = .ok (.iconst 0, 1) := by decide +kernel
theorem dX8_set_2 : decode cX8_set 2 = .ok (.iconst 1, 1) := by decide +kernel
theorem dX8_set_3 : decode cX8_set 3 = .ok (.invokestatic 85, 3) := by decide +kernel
theorem dX8_set_6 : decode cX8_set 6 = .ok (.ifCond .eq 14, 3) := by decide +kernel
theorem dX8_set_9 : decode cX8_set 9 = .ok (.iload_n 2, 1) := by decide +kernel
theorem dX8_set_10 : decode cX8_set 10 = .ok (.iconst 0, 1) := by decide +kernel
theorem dX8_set_11 : decode cX8_set 11 = .ok (.iconst 2, 1) := by decide +kernel
theorem dX8_set_12 : decode cX8_set 12 = .ok (.iload_n 1, 1) := by decide +kernel
theorem dX8_set_13 : decode cX8_set 13 = .ok (.isub, 1) := by decide +kernel
theorem dX8_set_14 : decode cX8_set 14 = .ok (.invokestatic 85, 3) := by decide +kernel
theorem dX8_set_17 : decode cX8_set 17 = .ok (.ifCond .ne 6, 3) := by decide +kernel
theorem dX8_set_20 : decode cX8_set 20 = .ok (.bipush (-2), 2) := by decide +kernel
theorem dX8_set_22 : decode cX8_set 22 = .ok (.ireturn, 1) := by decide +kernel
theorem dX8_set_23 : decode cX8_set 23 = .ok (.aload_n 0, 1) := by decide +kernel
theorem dX8_set_24 : decode cX8_set 24 = .ok (.getfield 31, 3) := by decide +kernel
theorem dX8_set_27 : decode cX8_set 27 = .ok (.iload_n 1, 1) := by decide +kernel
theorem dX8_set_28 : decode cX8_set 28 = .ok (.iaload, 1) := by decide +kernel
theorem dX8_set_29 : decode cX8_set 29 = .ok (.istore_n 3, 1) := by decide +kernel
theorem dX8_set_30 : decode cX8_set 30 = .ok (.aload_n 0, 1) := by decide +kernel
theorem dX8_set_31 : decode cX8_set 31 = .ok (.getfield 31, 3) := by decide +kernel
theorem dX8_set_34 : decode cX8_set 34 = .ok (.iload_n 1, 1) := by decide +kernel
theorem dX8_set_35 : decode cX8_set 35 = .ok (.iload_n 2, 1) := by decide +kernel
theorem dX8_set_36 : decode cX8_set 36 = .ok (.iastore, 1) := by decide +kernel
theorem dX8_set_37 : decode cX8_set 37 = .ok (.iload_n 3, 1) := by decide +kernel
theorem dX8_set_38 : decode cX8_set 38 = .ok (.ireturn, 1) := by decide +kernel
theorem dX8_atFirst_0 : decode cX8_atFirst 0 = .ok (.iconst 0, 1) := by decide +kernel
theorem dX8_atFirst_1 : decode cX8_atFirst 1 = .ok (.istore_n 1, 1) := by decide +kernel
theorem dX8_atFirst_2 : decode cX8_atFirst 2 = .ok (.iload_n 1, 1) := by decide +kernel
theorem dX8_atFirst_3 : decode cX8_atFirst 3 = .ok (.aload_n 0, 1) := by decide +kernel
theorem dX8_atFirst_4 : decode cX8_atFirst 4 = .ok (.getfield 89, 3) := by decide +kernel
theorem dX8_atFirst_7 : decode cX8_atFirst 7 = .ok (.if_icmp .ge 47, 3) := by decide +kernel
theorem dX8_atFirst_10 : decode cX8_atFirst 10 = .ok (.aload_n 0, 1) := by decide +kernel
theorem dX8_atFirst_11 : decode cX8_atFirst 11 = .ok (.getfield 34, 3) := by decide +kernel
theorem dX8_atFirst_14 : decode cX8_atFirst 14 = .ok (.iload_n 1, 1) := by decide +kernel
theorem dX8_atFirst_15 : decode cX8_atFirst 15 = .ok (.aload_n 0, 1) := by decide +kernel
theorem dX8_atFirst_16 : decode cX8_atFirst 16 = .ok (.getfield 16, 3) := by decide +kernel
theorem dX8_atFirst_19 : decode cX8_atFirst 19 = .ok (.iload_n 1, 1) := by decide +kernel
theorem dX8_atFirst_20 : decode cX8_atFirst 20 = .ok (.iaload, 1) := by decide +kernel
theorem dX8_atFirst_21 : decode cX8_atFirst 21 = .ok (.aload_n 0, 1) := by decide +kernel
theorem dX8_atFirst_22 : decode cX8_atFirst 22 = .ok (.getfield 25, 3) := by decide +kernel
theorem dX8_atFirst_25 : decode cX8_atFirst 25 = .ok (.iload_n 1, 1) := by decide +kernel
theorem dX8_atFirst_26 : decode cX8_atFirst 26 = .ok (.iaload, 1) := by decide +kernel
theorem dX8_atFirst_27 : decode cX8_atFirst 27 = .ok (.if_icmp .le 19, 3) := by decide +kernel
theorem dX8_atFirst_30 : decode cX8_atFirst 30 = .ok (.aload_n 0, 1) := by decide +kernel
theorem dX8_atFirst_31 : decode cX8_atFirst 31 = .ok (.getfield 16, 3) := by decide +kernel
theorem dX8_atFirst_34 : decode cX8_atFirst 34 = .ok (.iload_n 1, 1) := by decide +kernel
theorem dX8_atFirst_35 : decode cX8_atFirst 35 = .ok (.iaload, 1) := by decide +kernel
theorem dX8_atFirst_36 : decode cX8_atFirst 36 = .ok (.aload_n 0, 1) := by decide +kernel
theorem dX8_atFirst_37 : decode cX8_atFirst 37 = .ok (.getfield 25, 3) := by decide +kernel
theorem dX8_atFirst_40 : decode cX8_atFirst 40 = .ok (.iload_n 1, 1) := by decide +kernel
theorem dX8_atFirst_41 : decode cX8_atFirst 41 = .ok (.iaload, 1) := by decide +kernel
theorem dX8_atFirst_42 : decode cX8_atFirst 42 = .ok (.isub, 1) := by decide +kernel
theorem dX8_atFirst_43 : decode cX8_atFirst 43 = .ok (.goto 4, 3) := by decide +kernel
theorem dX8_atFirst_46 : decode cX8_atFirst 46 = .ok (.iconst 0, 1) := by decide +kernel
theorem dX8_atFirst_47 : decode cX8_atFirst 47 = .ok (.iastore, 1) := by decide +kernel
theorem dX8_atFirst_48 : decode cX8_atFirst 48 = .ok (.iinc 1 1, 3) := by decide +kernel
theorem dX8_atFirst_51 : decode cX8_atFirst 51 = .ok (.goto (-49), 3) := by decide +kernel
theorem dX8_atFirst_54 : decode cX8_atFirst 54 = .ok (.return_, 1) := by decide +kernel
theorem dX8_firstAt_0 : decode cX8_firstAt 0 = .ok (.iconst (-1), 1) := by decide +kernel
theorem dX8_firstAt_1 : decode cX8_firstAt 1 = .ok (.istore_n 3, 1) := by decide +kernel
theorem dX8_firstAt_2 : decode cX8_firstAt 2 = .ok (.iconst 0, 1) := by decide +kernel
theorem dX8_firstAt_3 : decode cX8_firstAt 3 = .ok (.istore 4, 2) := by decide +kernel
theorem dX8_firstAt_5 : decode cX8_firstAt 5 = .ok (.iload 4, 2) := by decide +kernel
theorem dX8_firstAt_7 : decode cX8_firstAt 7 = .ok (.aload_n 0, 1) := by decide +kernel
theorem dX8_firstAt_8 : decode cX8_firstAt 8 = .ok (.getfield 89, 3) := by decide +kernel
theorem dX8_firstAt_11 : decode cX8_firstAt 11 = .ok (.if_icmp .ge 92, 3) := by decide +kernel
theorem dX8_firstAt_14 : decode cX8_firstAt 14 = .ok (.iload_n 3, 1) := by decide +kernel
theorem dX8_firstAt_15 : decode cX8_firstAt 15 = .ok (.iconst (-1), 1) := by decide +kernel
theorem dX8_firstAt_16 : decode cX8_firstAt 16 = .ok (.if_icmp .eq 45, 3) := by decide +kernel
theorem dX8_firstAt_19 : decode cX8_firstAt 19 = .ok (.aload_n 0, 1) := by decide +kernel
theorem dX8_firstAt_20 : decode cX8_firstAt 20 = .ok (.getfield 34, 3) := by decide +kernel
theorem dX8_firstAt_23 : decode cX8_firstAt 23 = .ok (.iload 4, 2) := by decide +kernel
theorem dX8_firstAt_25 : decode cX8_firstAt 25 = .ok (.iaload, 1) := by decide +kernel
theorem dX8_firstAt_26 : decode cX8_firstAt 26 = .ok (.aload_n 0, 1) := by decide +kernel
theorem dX8_firstAt_27 : decode cX8_firstAt 27 = .ok (.getfield 34, 3) := by decide +kernel
theorem dX8_firstAt_30 : decode cX8_firstAt 30 = .ok (.iload_n 3, 1) := by decide +kernel
theorem dX8_firstAt_31 : decode cX8_firstAt 31 = .ok (.iaload, 1) := by decide +kernel
theorem dX8_firstAt_32 : decode cX8_firstAt 32 = .ok (.if_icmp .gt 29, 3) := by decide +kernel
theorem dX8_firstAt_35 : decode cX8_firstAt 35 = .ok (.aload_n 0, 1) := by decide +kernel
theorem dX8_firstAt_36 : decode cX8_firstAt 36 = .ok (.getfield 34, 3) := by decide +kernel
theorem dX8_firstAt_39 : decode cX8_firstAt 39 = .ok (.iload 4, 2) := by decide +kernel
theorem dX8_firstAt_41 : decode cX8_firstAt 41 = .ok (.iaload, 1) := by decide +kernel
theorem dX8_firstAt_42 : decode cX8_firstAt 42 = .ok (.aload_n 0, 1) := by decide +kernel
theorem dX8_firstAt_43 : decode cX8_firstAt 43 = .ok (.getfield 34, 3) := by decide +kernel
theorem dX8_firstAt_46 : decode cX8_firstAt 46 = .ok (.iload_n 3, 1) := by decide +kernel
theorem dX8_firstAt_47 : decode cX8_firstAt 47 = .ok (.iaload, 1) := by decide +kernel
theorem dX8_firstAt_48 : decode cX8_firstAt 48 = .ok (.if_icmp .ne 17, 3) := by decide +kernel
theorem dX8_firstAt_51 : decode cX8_firstAt 51 = .ok (.aload_n 0, 1) := by decide +kernel
theorem dX8_firstAt_52 : decode cX8_firstAt 52 = .ok (.getfield 31, 3) := by decide +kernel
theorem dX8_firstAt_55 : decode cX8_firstAt 55 = .ok (.iconst 1, 1) := by decide +kernel
theorem dX8_firstAt_56 : decode cX8_firstAt 56 = .ok (.iaload, 1) := by decide +kernel
theorem dX8_firstAt_57 : decode cX8_firstAt 57 = .ok (.iconst 1, 1) := by decide +kernel
theorem dX8_firstAt_58 : decode cX8_firstAt 58 = .ok (.if_icmp .ne 7, 3) := by decide +kernel
theorem dX8_firstAt_61 : decode cX8_firstAt 61 = .ok (.iconst 1, 1) := by decide +kernel
theorem dX8_firstAt_62 : decode cX8_firstAt 62 = .ok (.goto 4, 3) := by decide +kernel
theorem dX8_firstAt_65 : decode cX8_firstAt 65 = .ok (.iconst 0, 1) := by decide +kernel
theorem dX8_firstAt_66 : decode cX8_firstAt 66 = .ok (.istore 5, 2) := by decide +kernel
theorem dX8_firstAt_68 : decode cX8_firstAt 68 = .ok (.aload_n 0, 1) := by decide +kernel
theorem dX8_firstAt_69 : decode cX8_firstAt 69 = .ok (.getfield 37, 3) := by decide +kernel
theorem dX8_firstAt_72 : decode cX8_firstAt 72 = .ok (.iload 4, 2) := by decide +kernel
theorem dX8_firstAt_74 : decode cX8_firstAt 74 = .ok (.iaload, 1) := by decide +kernel
theorem dX8_firstAt_75 : decode cX8_firstAt 75 = .ok (.iload_n 1, 1) := by decide +kernel
theorem dX8_firstAt_76 : decode cX8_firstAt 76 = .ok (.if_icmp .ne 19, 3) := by decide +kernel
theorem dX8_firstAt_79 : decode cX8_firstAt 79 = .ok (.iload 4, 2) := by decide +kernel
theorem dX8_firstAt_81 : decode cX8_firstAt 81 = .ok (.iload_n 2, 1) := by decide +kernel
theorem dX8_firstAt_82 : decode cX8_firstAt 82 = .ok (.if_icmp .eq 13, 3) := by decide +kernel
theorem dX8_firstAt_85 : decode cX8_firstAt 85 = .ok (.iload 5, 2) := by decide +kernel
theorem dX8_firstAt_87 : decode cX8_firstAt 87 = .ok (.ifCond .eq 8, 3) := by decide +kernel
theorem dX8_firstAt_90 : decode cX8_firstAt 90 = .ok (.iload 4, 2) := by decide +kernel
theorem dX8_firstAt_92 : decode cX8_firstAt 92 = .ok (.goto 4, 3) := by decide +kernel
theorem dX8_firstAt_95 : decode cX8_firstAt 95 = .ok (.iload_n 3, 1) := by decide +kernel
theorem dX8_firstAt_96 : decode cX8_firstAt 96 = .ok (.istore_n 3, 1) := by decide +kernel
theorem dX8_firstAt_97 : decode cX8_firstAt 97 = .ok (.iinc 4 1, 3) := by decide +kernel
theorem dX8_firstAt_100 : decode cX8_firstAt 100 = .ok (.goto (-95), 3) := by decide +kernel
theorem dX8_firstAt_103 : decode cX8_firstAt 103 = .ok (.iload_n 3, 1) := by decide +kernel
theorem dX8_firstAt_104 : decode cX8_firstAt 104 = .ok (.ireturn, 1) := by decide +kernel
set_option maxRecDepth 20000 in
theorem ggX8_bills_X8_firstAt : GoodIn wsX8_bills wsX8_firstAt := goodIn_r _ [12, 1, 7, 3, 4, 13, 14, 15, 16, 17, 18, 19, 20, 21, 22, 23, 24, 25, 26, 27, 28, 29, 30, 31, 32, 33, 34, 35, 36, 37, 38, 39, 40, 41] (by decide +kernel) (by decide +kernel)
set_option maxRecDepth 20000 in
theorem gX8_bills_X8_firstAt : GoodIn wsX8_bills (wsV RX8 130 RX8 yX8_firstAt wsX8_firstAt) := goodIn_app (goodIn_of _ (by decide +kernel)) ggX8_bills_X8_firstAt
theorem dX8_bills_0 : decode cX8_bills 0 = .ok (.iconst 0, 1) := by decide +kernel
theorem dX8_bills_1 : decode cX8_bills 1 = .ok (.istore_n 1, 1) := by decide +kernel
theorem dX8_bills_2 : decode cX8_bills 2 = .ok (.iload_n 1, 1) := by decide +kernel
theorem dX8_bills_3 : decode cX8_bills 3 = .ok (.aload_n 0, 1) := by decide +kernel
theorem dX8_bills_4 : decode cX8_bills 4 = .ok (.getfield 89, 3) := by decide +kernel
theorem dX8_bills_7 : decode cX8_bills 7 = .ok (.if_icmp .ge 45, 3) := by decide +kernel
theorem dX8_bills_10 : decode cX8_bills 10 = .ok (.aload_n 0, 1) := by decide +kernel
theorem dX8_bills_11 : decode cX8_bills 11 = .ok (.getfield 43, 3) := by decide +kernel
theorem dX8_bills_14 : decode cX8_bills 14 = .ok (.iload_n 1, 1) := by decide +kernel
theorem dX8_bills_15 : decode cX8_bills 15 = .ok (.aload_n 0, 1) := by decide +kernel
theorem dX8_bills_16 : decode cX8_bills 16 = .ok (.getfield 31, 3) := by decide +kernel
theorem dX8_bills_19 : decode cX8_bills 19 = .ok (.iconst 0, 1) := by decide +kernel
theorem dX8_bills_20 : decode cX8_bills 20 = .ok (.iaload, 1) := by decide +kernel
theorem dX8_bills_21 : decode cX8_bills 21 = .ok (.iconst 2, 1) := by decide +kernel
theorem dX8_bills_22 : decode cX8_bills 22 = .ok (.if_icmp .ne 22, 3) := by decide +kernel
theorem dX8_bills_25 : decode cX8_bills 25 = .ok (.aload_n 0, 1) := by decide +kernel
theorem dX8_bills_26 : decode cX8_bills 26 = .ok (.getfield 37, 3) := by decide +kernel
theorem dX8_bills_29 : decode cX8_bills 29 = .ok (.iload_n 1, 1) := by decide +kernel
theorem dX8_bills_30 : decode cX8_bills 30 = .ok (.iaload, 1) := by decide +kernel
theorem dX8_bills_31 : decode cX8_bills 31 = .ok (.iconst (-1), 1) := by decide +kernel
theorem dX8_bills_32 : decode cX8_bills 32 = .ok (.if_icmp .eq 12, 3) := by decide +kernel
theorem dX8_bills_35 : decode cX8_bills 35 = .ok (.aload_n 0, 1) := by decide +kernel
theorem dX8_bills_36 : decode cX8_bills 36 = .ok (.getfield 19, 3) := by decide +kernel
theorem dX8_bills_39 : decode cX8_bills 39 = .ok (.iload_n 1, 1) := by decide +kernel
theorem dX8_bills_40 : decode cX8_bills 40 = .ok (.iaload, 1) := by decide +kernel
theorem dX8_bills_41 : decode cX8_bills 41 = .ok (.goto 4, 3) := by decide +kernel
theorem dX8_bills_44 : decode cX8_bills 44 = .ok (.iconst 0, 1) := by decide +kernel
theorem dX8_bills_45 : decode cX8_bills 45 = .ok (.iastore, 1) := by decide +kernel
theorem dX8_bills_46 : decode cX8_bills 46 = .ok (.iinc 1 1, 3) := by decide +kernel
theorem dX8_bills_49 : decode cX8_bills 49 = .ok (.goto (-47), 3) := by decide +kernel
theorem dX8_bills_52 : decode cX8_bills 52 = .ok (.iconst 0, 1) := by decide +kernel
theorem dX8_bills_53 : decode cX8_bills 53 = .ok (.istore_n 1, 1) := by decide +kernel
theorem dX8_bills_54 : decode cX8_bills 54 = .ok (.iload_n 1, 1) := by decide +kernel
theorem dX8_bills_55 : decode cX8_bills 55 = .ok (.bipush 6, 2) := by decide +kernel
theorem dX8_bills_57 : decode cX8_bills 57 = .ok (.if_icmp .ge 130, 3) := by decide +kernel
theorem dX8_bills_60 : decode cX8_bills 60 = .ok (.aload_n 0, 1) := by decide +kernel
theorem dX8_bills_61 : decode cX8_bills 61 = .ok (.getfield 31, 3) := by decide +kernel
theorem dX8_bills_64 : decode cX8_bills 64 = .ok (.iconst 0, 1) := by decide +kernel
theorem dX8_bills_65 : decode cX8_bills 65 = .ok (.iaload, 1) := by decide +kernel
theorem dX8_bills_66 : decode cX8_bills 66 = .ok (.iconst 2, 1) := by decide +kernel
theorem dX8_bills_67 : decode cX8_bills 67 = .ok (.if_icmp .ge 120, 3) := by decide +kernel
theorem dX8_bills_70 : decode cX8_bills 70 = .ok (.iconst 0, 1) := by decide +kernel
theorem dX8_bills_71 : decode cX8_bills 71 = .ok (.istore_n 2, 1) := by decide +kernel
theorem dX8_bills_72 : decode cX8_bills 72 = .ok (.iconst 0, 1) := by decide +kernel
theorem dX8_bills_73 : decode cX8_bills 73 = .ok (.istore_n 3, 1) := by decide +kernel
theorem dX8_bills_74 : decode cX8_bills 74 = .ok (.iload_n 3, 1) := by decide +kernel
theorem dX8_bills_75 : decode cX8_bills 75 = .ok (.aload_n 0, 1) := by decide +kernel
theorem dX8_bills_76 : decode cX8_bills 76 = .ok (.getfield 89, 3) := by decide +kernel
theorem dX8_bills_79 : decode cX8_bills 79 = .ok (.if_icmp .ge 32, 3) := by decide +kernel
theorem dX8_bills_82 : decode cX8_bills 82 = .ok (.iload_n 2, 1) := by decide +kernel
theorem dX8_bills_83 : decode cX8_bills 83 = .ok (.aload_n 0, 1) := by decide +kernel
theorem dX8_bills_84 : decode cX8_bills 84 = .ok (.getfield 37, 3) := by decide +kernel
theorem dX8_bills_87 : decode cX8_bills 87 = .ok (.iload_n 3, 1) := by decide +kernel
theorem dX8_bills_88 : decode cX8_bills 88 = .ok (.iaload, 1) := by decide +kernel
theorem dX8_bills_89 : decode cX8_bills 89 = .ok (.iload_n 1, 1) := by decide +kernel
theorem dX8_bills_90 : decode cX8_bills 90 = .ok (.if_icmp .ne 12, 3) := by decide +kernel
theorem dX8_bills_93 : decode cX8_bills 93 = .ok (.aload_n 0, 1) := by decide +kernel
theorem dX8_bills_94 : decode cX8_bills 94 = .ok (.getfield 19, 3) := by decide +kernel
theorem dX8_bills_97 : decode cX8_bills 97 = .ok (.iload_n 3, 1) := by decide +kernel
theorem dX8_bills_98 : decode cX8_bills 98 = .ok (.iaload, 1) := by decide +kernel
theorem dX8_bills_99 : decode cX8_bills 99 = .ok (.goto 4, 3) := by decide +kernel
theorem dX8_bills_102 : decode cX8_bills 102 = .ok (.iconst 0, 1) := by decide +kernel
theorem dX8_bills_103 : decode cX8_bills 103 = .ok (.iadd, 1) := by decide +kernel
theorem dX8_bills_104 : decode cX8_bills 104 = .ok (.istore_n 2, 1) := by decide +kernel
theorem dX8_bills_105 : decode cX8_bills 105 = .ok (.iinc 3 1, 3) := by decide +kernel
theorem dX8_bills_108 : decode cX8_bills 108 = .ok (.goto (-34), 3) := by decide +kernel
theorem dX8_bills_111 : decode cX8_bills 111 = .ok (.aload_n 0, 1) := by decide +kernel
theorem dX8_bills_112 : decode cX8_bills 112 = .ok (.iload_n 1, 1) := by decide +kernel
theorem dX8_bills_113 : decode cX8_bills 113 = .ok (.iconst (-1), 1) := by decide +kernel
theorem dX8_bills_114 : decode cX8_bills 114 = .ok (.invokevirtual 130, 3) := by decide +kernel
theorem dX8_bills_117 : decode cX8_bills 117 = .ok (.istore_n 3, 1) := by decide +kernel
theorem dX8_bills_118 : decode cX8_bills 118 = .ok (.iload_n 3, 1) := by decide +kernel
theorem dX8_bills_119 : decode cX8_bills 119 = .ok (.iconst (-1), 1) := by decide +kernel
theorem dX8_bills_120 : decode cX8_bills 120 = .ok (.if_icmp .eq 61, 3) := by decide +kernel
theorem dX8_bills_123 : decode cX8_bills 123 = .ok (.aload_n 0, 1) := by decide +kernel
theorem dX8_bills_124 : decode cX8_bills 124 = .ok (.iload_n 1, 1) := by decide +kernel
theorem dX8_bills_125 : decode cX8_bills 125 = .ok (.iload_n 3, 1) := by decide +kernel
theorem dX8_bills_126 : decode cX8_bills 126 = .ok (.invokevirtual 130, 3) := by decide +kernel
theorem dX8_bills_129 : decode cX8_bills 129 = .ok (.istore 4, 2) := by decide +kernel
theorem dX8_bills_131 : decode cX8_bills 131 = .ok (.aload_n 0, 1) := by decide +kernel
theorem dX8_bills_132 : decode cX8_bills 132 = .ok (.getfield 31, 3) := by decide +kernel
theorem dX8_bills_135 : decode cX8_bills 135 = .ok (.iconst 0, 1) := by decide +kernel
theorem dX8_bills_136 : decode cX8_bills 136 = .ok (.iaload, 1) := by decide +kernel
theorem dX8_bills_137 : decode cX8_bills 137 = .ok (.iconst 1, 1) := by decide +kernel
theorem dX8_bills_138 : decode cX8_bills 138 = .ok (.if_icmp .ne 15, 3) := by decide +kernel
theorem dX8_bills_141 : decode cX8_bills 141 = .ok (.iload 4, 2) := by decide +kernel
theorem dX8_bills_143 : decode cX8_bills 143 = .ok (.iconst (-1), 1) := by decide +kernel
theorem dX8_bills_144 : decode cX8_bills 144 = .ok (.if_icmp .eq 9, 3) := by decide +kernel
theorem dX8_bills_147 : decode cX8_bills 147 = .ok (.iload_n 2, 1) := by decide +kernel
theorem dX8_bills_148 : decode cX8_bills 148 = .ok (.iconst 2, 1) := by decide +kernel
theorem dX8_bills_149 : decode cX8_bills 149 = .ok (.idiv, 1) := by decide +kernel
theorem dX8_bills_150 : decode cX8_bills 150 = .ok (.goto 4, 3) := by decide +kernel
theorem dX8_bills_153 : decode cX8_bills 153 = .ok (.iload_n 2, 1) := by decide +kernel
theorem dX8_bills_154 : decode cX8_bills 154 = .ok (.istore 5, 2) := by decide +kernel
theorem dX8_bills_156 : decode cX8_bills 156 = .ok (.aload_n 0, 1) := by decide +kernel
theorem dX8_bills_157 : decode cX8_bills 157 = .ok (.getfield 43, 3) := by decide +kernel
theorem dX8_bills_160 : decode cX8_bills 160 = .ok (.iload_n 3, 1) := by decide +kernel
theorem dX8_bills_161 : decode cX8_bills 161 = .ok (.iload 5, 2) := by decide +kernel
theorem dX8_bills_163 : decode cX8_bills 163 = .ok (.iastore, 1) := by decide +kernel
theorem dX8_bills_164 : decode cX8_bills 164 = .ok (.iload 4, 2) := by decide +kernel
theorem dX8_bills_166 : decode cX8_bills 166 = .ok (.iconst (-1), 1) := by decide +kernel
theorem dX8_bills_167 : decode cX8_bills 167 = .ok (.if_icmp .eq 14, 3) := by decide +kernel
theorem dX8_bills_170 : decode cX8_bills 170 = .ok (.aload_n 0, 1) := by decide +kernel
theorem dX8_bills_171 : decode cX8_bills 171 = .ok (.getfield 43, 3) := by decide +kernel
theorem dX8_bills_174 : decode cX8_bills 174 = .ok (.iload 4, 2) := by decide +kernel
theorem dX8_bills_176 : decode cX8_bills 176 = .ok (.iload_n 2, 1) := by decide +kernel
theorem dX8_bills_177 : decode cX8_bills 177 = .ok (.iload 5, 2) := by decide +kernel
theorem dX8_bills_179 : decode cX8_bills 179 = .ok (.isub, 1) := by decide +kernel
theorem dX8_bills_180 : decode cX8_bills 180 = .ok (.iastore, 1) := by decide +kernel
theorem dX8_bills_181 : decode cX8_bills 181 = .ok (.iinc 1 1, 3) := by decide +kernel
theorem dX8_bills_184 : decode cX8_bills 184 = .ok (.goto (-130), 3) := by decide +kernel
theorem dX8_bills_187 : decode cX8_bills 187 = .ok (.iconst 0, 1) := by decide +kernel
theorem dX8_bills_188 : decode cX8_bills 188 = .ok (.istore_n 1, 1) := by decide +kernel
theorem dX8_bills_189 : decode cX8_bills 189 = .ok (.iload_n 1, 1) := by decide +kernel
theorem dX8_bills_190 : decode cX8_bills 190 = .ok (.aload_n 0, 1) := by decide +kernel
theorem dX8_bills_191 : decode cX8_bills 191 = .ok (.getfield 89, 3) := by decide +kernel
theorem dX8_bills_194 : decode cX8_bills 194 = .ok (.if_icmp .ge 45, 3) := by decide +kernel
theorem dX8_bills_197 : decode cX8_bills 197 = .ok (.aload_n 0, 1) := by decide +kernel
theorem dX8_bills_198 : decode cX8_bills 198 = .ok (.getfield 40, 3) := by decide +kernel
theorem dX8_bills_201 : decode cX8_bills 201 = .ok (.iload_n 1, 1) := by decide +kernel
theorem dX8_bills_202 : decode cX8_bills 202 = .ok (.aload_n 0, 1) := by decide +kernel
theorem dX8_bills_203 : decode cX8_bills 203 = .ok (.getfield 43, 3) := by decide +kernel
theorem dX8_bills_206 : decode cX8_bills 206 = .ok (.iload_n 1, 1) := by decide +kernel
theorem dX8_bills_207 : decode cX8_bills 207 = .ok (.iaload, 1) := by decide +kernel
theorem dX8_bills_208 : decode cX8_bills 208 = .ok (.aload_n 0, 1) := by decide +kernel
theorem dX8_bills_209 : decode cX8_bills 209 = .ok (.getfield 34, 3) := by decide +kernel
theorem dX8_bills_212 : decode cX8_bills 212 = .ok (.iload_n 1, 1) := by decide +kernel
theorem dX8_bills_213 : decode cX8_bills 213 = .ok (.iaload, 1) := by decide +kernel
theorem dX8_bills_214 : decode cX8_bills 214 = .ok (.if_icmp .ge 12, 3) := by decide +kernel
theorem dX8_bills_217 : decode cX8_bills 217 = .ok (.aload_n 0, 1) := by decide +kernel
theorem dX8_bills_218 : decode cX8_bills 218 = .ok (.getfield 43, 3) := by decide +kernel
theorem dX8_bills_221 : decode cX8_bills 221 = .ok (.iload_n 1, 1) := by decide +kernel
theorem dX8_bills_222 : decode cX8_bills 222 = .ok (.iaload, 1) := by decide +kernel
theorem dX8_bills_223 : decode cX8_bills 223 = .ok (.goto 9, 3) := by decide +kernel
theorem dX8_bills_226 : decode cX8_bills 226 = .ok (.aload_n 0, 1) := by decide +kernel
theorem dX8_bills_227 : decode cX8_bills 227 = .ok (.getfield 34, 3) := by decide +kernel
theorem dX8_bills_230 : decode cX8_bills 230 = .ok (.iload_n 1, 1) := by decide +kernel
theorem dX8_bills_231 : decode cX8_bills 231 = .ok (.iaload, 1) := by decide +kernel
theorem dX8_bills_232 : decode cX8_bills 232 = .ok (.iastore, 1) := by decide +kernel
theorem dX8_bills_233 : decode cX8_bills 233 = .ok (.iinc 1 1, 3) := by decide +kernel
theorem dX8_bills_236 : decode cX8_bills 236 = .ok (.goto (-47), 3) := by decide +kernel
theorem dX8_bills_239 : decode cX8_bills 239 = .ok (.return_, 1) := by decide +kernel
theorem dX8_sitAsTold_0 : decode cX8_sitAsTold 0 = .ok (.iconst 0, 1) := by decide +kernel
theorem dX8_sitAsTold_1 : decode cX8_sitAsTold 1 = .ok (.istore_n 2, 1) := by decide +kernel
theorem dX8_sitAsTold_2 : decode cX8_sitAsTold 2 = .ok (.iload_n 2, 1) := by decide +kernel
theorem dX8_sitAsTold_3 : decode cX8_sitAsTold 3 = .ok (.aload_n 0, 1) := by decide +kernel
theorem dX8_sitAsTold_4 : decode cX8_sitAsTold 4 = .ok (.getfield 89, 3) := by decide +kernel
theorem dX8_sitAsTold_7 : decode cX8_sitAsTold 7 = .ok (.if_icmp .ge 26, 3) := by decide +kernel
theorem dX8_sitAsTold_10 : decode cX8_sitAsTold 10 = .ok (.aload_n 0, 1) := by decide +kernel
theorem dX8_sitAsTold_11 : decode cX8_sitAsTold 11 = .ok (.getfield 37, 3) := by decide +kernel
theorem dX8_sitAsTold_14 : decode cX8_sitAsTold 14 = .ok (.iload_n 2, 1) := by decide +kernel
theorem dX8_sitAsTold_15 : decode cX8_sitAsTold 15 = .ok (.aload_n 0, 1) := by decide +kernel
theorem dX8_sitAsTold_16 : decode cX8_sitAsTold 16 = .ok (.getfield 22, 3) := by decide +kernel
theorem dX8_sitAsTold_19 : decode cX8_sitAsTold 19 = .ok (.bipush 6, 2) := by decide +kernel
theorem dX8_sitAsTold_21 : decode cX8_sitAsTold 21 = .ok (.iload_n 1, 1) := by decide +kernel
theorem dX8_sitAsTold_22 : decode cX8_sitAsTold 22 = .ok (.imul, 1) := by decide +kernel
theorem dX8_sitAsTold_23 : decode cX8_sitAsTold 23 = .ok (.iload_n 2, 1) := by decide +kernel
theorem dX8_sitAsTold_24 : decode cX8_sitAsTold 24 = .ok (.iadd, 1) := by decide +kernel
theorem dX8_sitAsTold_25 : decode cX8_sitAsTold 25 = .ok (.iaload, 1) := by decide +kernel
theorem dX8_sitAsTold_26 : decode cX8_sitAsTold 26 = .ok (.iastore, 1) := by decide +kernel
theorem dX8_sitAsTold_27 : decode cX8_sitAsTold 27 = .ok (.iinc 2 1, 3) := by decide +kernel
theorem dX8_sitAsTold_30 : decode cX8_sitAsTold 30 = .ok (.goto (-28), 3) := by decide +kernel
theorem dX8_sitAsTold_33 : decode cX8_sitAsTold 33 = .ok (.return_, 1) := by decide +kernel
set_option maxRecDepth 20000 in
theorem ggX8_runs_X8_atFirst : GoodIn wsX8_runs wsX8_atFirst := goodIn_r _ [15, 2, 7, 16, 17, 32, 33, 34, 35, 36, 37, 38, 39, 40, 41, 42, 43, 44, 45, 46, 47, 48, 49, 50, 51, 52, 53, 54, 55, 56, 57, 58, 59, 60] (by decide +kernel) (by decide +kernel)
set_option maxRecDepth 20000 in
theorem gX8_runs_X8_atFirst : GoodIn wsX8_runs (wsV RX8 133 RX8 yX8_atFirst wsX8_atFirst) := goodIn_app (goodIn_of _ (by decide +kernel)) ggX8_runs_X8_atFirst
set_option maxRecDepth 20000 in
theorem ggX8_runs_X8_sitAsTold : GoodIn wsX8_runs wsX8_sitAsTold := goodIn_r _ [21, 2, 9, 22, 32, 33, 34, 35, 36, 37, 38, 39, 40, 41, 42, 43, 44, 45, 46, 47, 48, 49, 50, 51, 52, 53, 54, 55, 56, 57, 58, 59, 60] (by decide +kernel) (by decide +kernel)
set_option maxRecDepth 20000 in
theorem gX8_runs_X8_sitAsTold : GoodIn wsX8_runs (wsV RX8 139 RX8 yX8_sitAsTold wsX8_sitAsTold) := goodIn_app (goodIn_of _ (by decide +kernel)) ggX8_runs_X8_sitAsTold
set_option maxRecDepth 20000 in
theorem ggX8_runs_X8_bills : GoodIn wsX8_runs wsX8_bills := goodIn_r _ [26, 2, 8, 27, 9, 10, 6, 7, 28, 29, 30, 14, 31, 32, 33, 34, 35, 36, 37, 38, 39, 40, 41, 42, 43, 44, 45, 46, 47, 48, 49, 50, 51, 52, 53, 54, 55, 56, 57, 58, 59, 60] (by decide +kernel) (by decide +kernel)
set_option maxRecDepth 20000 in
theorem gX8_runs_X8_bills : GoodIn wsX8_runs (wsV RX8 143 RX8 yX8_bills wsX8_bills) := goodIn_app (goodIn_of _ (by decide +kernel)) ggX8_runs_X8_bills
theorem dX8_runs_0 : decode cX8_runs 0 = .ok (.aload_n 0, 1) := by decide +kernel
theorem dX8_runs_1 : decode cX8_runs 1 = .ok (.invokevirtual 133, 3) := by decide +kernel
theorem dX8_runs_4 : decode cX8_runs 4 = .ok (.aload_n 0, 1) := by decide +kernel
theorem dX8_runs_5 : decode cX8_runs 5 = .ok (.iconst 0, 1) := by decide +kernel
theorem dX8_runs_6 : decode cX8_runs 6 = .ok (.putfield 136, 3) := by decide +kernel
theorem dX8_runs_9 : decode cX8_runs 9 = .ok (.iconst 0, 1) := by decide +kernel
theorem dX8_runs_10 : decode cX8_runs 10 = .ok (.istore_n 2, 1) := by decide +kernel
theorem dX8_runs_11 : decode cX8_runs 11 = .ok (.iload_n 2, 1) := by decide +kernel
theorem dX8_runs_12 : decode cX8_runs 12 = .ok (.aload_n 0, 1) := by decide +kernel
theorem dX8_runs_13 : decode cX8_runs 13 = .ok (.getfield 89, 3) := by decide +kernel
theorem dX8_runs_16 : decode cX8_runs 16 = .ok (.if_icmp .ge 37, 3) := by decide +kernel
theorem dX8_runs_19 : decode cX8_runs 19 = .ok (.aload_n 0, 1) := by decide +kernel
theorem dX8_runs_20 : decode cX8_runs 20 = .ok (.getfield 46, 3) := by decide +kernel
theorem dX8_runs_23 : decode cX8_runs 23 = .ok (.iload_n 2, 1) := by decide +kernel
theorem dX8_runs_24 : decode cX8_runs 24 = .ok (.iconst 0, 1) := by decide +kernel
theorem dX8_runs_25 : decode cX8_runs 25 = .ok (.iastore, 1) := by decide +kernel
theorem dX8_runs_26 : decode cX8_runs 26 = .ok (.aload_n 0, 1) := by decide +kernel
theorem dX8_runs_27 : decode cX8_runs 27 = .ok (.getfield 49, 3) := by decide +kernel
theorem dX8_runs_30 : decode cX8_runs 30 = .ok (.iload_n 2, 1) := by decide +kernel
theorem dX8_runs_31 : decode cX8_runs 31 = .ok (.iconst 0, 1) := by decide +kernel
theorem dX8_runs_32 : decode cX8_runs 32 = .ok (.iastore, 1) := by decide +kernel
theorem dX8_runs_33 : decode cX8_runs 33 = .ok (.aload_n 0, 1) := by decide +kernel
theorem dX8_runs_34 : decode cX8_runs 34 = .ok (.getfield 52, 3) := by decide +kernel
theorem dX8_runs_37 : decode cX8_runs 37 = .ok (.iload_n 2, 1) := by decide +kernel
theorem dX8_runs_38 : decode cX8_runs 38 = .ok (.iconst 0, 1) := by decide +kernel
theorem dX8_runs_39 : decode cX8_runs 39 = .ok (.iastore, 1) := by decide +kernel
theorem dX8_runs_40 : decode cX8_runs 40 = .ok (.aload_n 0, 1) := by decide +kernel
theorem dX8_runs_41 : decode cX8_runs 41 = .ok (.getfield 40, 3) := by decide +kernel
theorem dX8_runs_44 : decode cX8_runs 44 = .ok (.iload_n 2, 1) := by decide +kernel
theorem dX8_runs_45 : decode cX8_runs 45 = .ok (.iconst 0, 1) := by decide +kernel
theorem dX8_runs_46 : decode cX8_runs 46 = .ok (.iastore, 1) := by decide +kernel
theorem dX8_runs_47 : decode cX8_runs 47 = .ok (.iinc 2 1, 3) := by decide +kernel
theorem dX8_runs_50 : decode cX8_runs 50 = .ok (.goto (-39), 3) := by decide +kernel
theorem dX8_runs_53 : decode cX8_runs 53 = .ok (.iconst 0, 1) := by decide +kernel
theorem dX8_runs_54 : decode cX8_runs 54 = .ok (.istore_n 2, 1) := by decide +kernel
theorem dX8_runs_55 : decode cX8_runs 55 = .ok (.iload_n 2, 1) := by decide +kernel
theorem dX8_runs_56 : decode cX8_runs 56 = .ok (.iload_n 1, 1) := by decide +kernel
theorem dX8_runs_57 : decode cX8_runs 57 = .ok (.if_icmp .ge 139, 3) := by decide +kernel
theorem dX8_runs_60 : decode cX8_runs 60 = .ok (.aload_n 0, 1) := by decide +kernel
theorem dX8_runs_61 : decode cX8_runs 61 = .ok (.iload_n 2, 1) := by decide +kernel
theorem dX8_runs_62 : decode cX8_runs 62 = .ok (.invokevirtual 139, 3) := by decide +kernel
theorem dX8_runs_65 : decode cX8_runs 65 = .ok (.aload_n 0, 1) := by decide +kernel
theorem dX8_runs_66 : decode cX8_runs 66 = .ok (.invokevirtual 143, 3) := by decide +kernel
theorem dX8_runs_69 : decode cX8_runs 69 = .ok (.iconst 0, 1) := by decide +kernel
theorem dX8_runs_70 : decode cX8_runs 70 = .ok (.istore_n 3, 1) := by decide +kernel
theorem dX8_runs_71 : decode cX8_runs 71 = .ok (.iload_n 3, 1) := by decide +kernel
theorem dX8_runs_72 : decode cX8_runs 72 = .ok (.aload_n 0, 1) := by decide +kernel
theorem dX8_runs_73 : decode cX8_runs 73 = .ok (.getfield 89, 3) := by decide +kernel
theorem dX8_runs_76 : decode cX8_runs 76 = .ok (.if_icmp .ge 114, 3) := by decide +kernel
theorem dX8_runs_79 : decode cX8_runs 79 = .ok (.aload_n 0, 1) := by decide +kernel
theorem dX8_runs_80 : decode cX8_runs 80 = .ok (.getfield 34, 3) := by decide +kernel
theorem dX8_runs_83 : decode cX8_runs 83 = .ok (.iload_n 3, 1) := by decide +kernel
theorem dX8_runs_84 : decode cX8_runs 84 = .ok (.dup2, 1) := by decide +kernel
theorem dX8_runs_85 : decode cX8_runs 85 = .ok (.iaload, 1) := by decide +kernel
theorem dX8_runs_86 : decode cX8_runs 86 = .ok (.aload_n 0, 1) := by decide +kernel
theorem dX8_runs_87 : decode cX8_runs 87 = .ok (.getfield 40, 3) := by decide +kernel
theorem dX8_runs_90 : decode cX8_runs 90 = .ok (.iload_n 3, 1) := by decide +kernel
theorem dX8_runs_91 : decode cX8_runs 91 = .ok (.iaload, 1) := by decide +kernel
theorem dX8_runs_92 : decode cX8_runs 92 = .ok (.isub, 1) := by decide +kernel
theorem dX8_runs_93 : decode cX8_runs 93 = .ok (.iastore, 1) := by decide +kernel
theorem dX8_runs_94 : decode cX8_runs 94 = .ok (.aload_n 0, 1) := by decide +kernel
theorem dX8_runs_95 : decode cX8_runs 95 = .ok (.getfield 46, 3) := by decide +kernel
theorem dX8_runs_98 : decode cX8_runs 98 = .ok (.iload_n 3, 1) := by decide +kernel
theorem dX8_runs_99 : decode cX8_runs 99 = .ok (.dup2, 1) := by decide +kernel
theorem dX8_runs_100 : decode cX8_runs 100 = .ok (.iaload, 1) := by decide +kernel
theorem dX8_runs_101 : decode cX8_runs 101 = .ok (.aload_n 0, 1) := by decide +kernel
theorem dX8_runs_102 : decode cX8_runs 102 = .ok (.getfield 40, 3) := by decide +kernel
theorem dX8_runs_105 : decode cX8_runs 105 = .ok (.iload_n 3, 1) := by decide +kernel
theorem dX8_runs_106 : decode cX8_runs 106 = .ok (.iaload, 1) := by decide +kernel
theorem dX8_runs_107 : decode cX8_runs 107 = .ok (.iadd, 1) := by decide +kernel
theorem dX8_runs_108 : decode cX8_runs 108 = .ok (.iastore, 1) := by decide +kernel
theorem dX8_runs_109 : decode cX8_runs 109 = .ok (.aload_n 0, 1) := by decide +kernel
theorem dX8_runs_110 : decode cX8_runs 110 = .ok (.getfield 52, 3) := by decide +kernel
theorem dX8_runs_113 : decode cX8_runs 113 = .ok (.iload_n 3, 1) := by decide +kernel
theorem dX8_runs_114 : decode cX8_runs 114 = .ok (.dup2, 1) := by decide +kernel
theorem dX8_runs_115 : decode cX8_runs 115 = .ok (.iaload, 1) := by decide +kernel
theorem dX8_runs_116 : decode cX8_runs 116 = .ok (.aload_n 0, 1) := by decide +kernel
theorem dX8_runs_117 : decode cX8_runs 117 = .ok (.getfield 43, 3) := by decide +kernel
theorem dX8_runs_120 : decode cX8_runs 120 = .ok (.iload_n 3, 1) := by decide +kernel
theorem dX8_runs_121 : decode cX8_runs 121 = .ok (.iaload, 1) := by decide +kernel
theorem dX8_runs_122 : decode cX8_runs 122 = .ok (.aload_n 0, 1) := by decide +kernel
theorem dX8_runs_123 : decode cX8_runs 123 = .ok (.getfield 40, 3) := by decide +kernel
theorem dX8_runs_126 : decode cX8_runs 126 = .ok (.iload_n 3, 1) := by decide +kernel
theorem dX8_runs_127 : decode cX8_runs 127 = .ok (.iaload, 1) := by decide +kernel
theorem dX8_runs_128 : decode cX8_runs 128 = .ok (.isub, 1) := by decide +kernel
theorem dX8_runs_129 : decode cX8_runs 129 = .ok (.iadd, 1) := by decide +kernel
theorem dX8_runs_130 : decode cX8_runs 130 = .ok (.iastore, 1) := by decide +kernel
theorem dX8_runs_131 : decode cX8_runs 131 = .ok (.aload_n 0, 1) := by decide +kernel
theorem dX8_runs_132 : decode cX8_runs 132 = .ok (.getfield 49, 3) := by decide +kernel
theorem dX8_runs_135 : decode cX8_runs 135 = .ok (.iload_n 3, 1) := by decide +kernel
theorem dX8_runs_136 : decode cX8_runs 136 = .ok (.dup2, 1) := by decide +kernel
theorem dX8_runs_137 : decode cX8_runs 137 = .ok (.iaload, 1) := by decide +kernel
theorem dX8_runs_138 : decode cX8_runs 138 = .ok (.aload_n 0, 1) := by decide +kernel
theorem dX8_runs_139 : decode cX8_runs 139 = .ok (.getfield 37, 3) := by decide +kernel
theorem dX8_runs_142 : decode cX8_runs 142 = .ok (.iload_n 3, 1) := by decide +kernel
theorem dX8_runs_143 : decode cX8_runs 143 = .ok (.iaload, 1) := by decide +kernel
theorem dX8_runs_144 : decode cX8_runs 144 = .ok (.iconst (-1), 1) := by decide +kernel
theorem dX8_runs_145 : decode cX8_runs 145 = .ok (.if_icmp .ne 7, 3) := by decide +kernel
theorem dX8_runs_148 : decode cX8_runs 148 = .ok (.iconst 0, 1) := by decide +kernel
theorem dX8_runs_149 : decode cX8_runs 149 = .ok (.goto 9, 3) := by decide +kernel
theorem dX8_runs_152 : decode cX8_runs 152 = .ok (.aload_n 0, 1) := by decide +kernel
theorem dX8_runs_153 : decode cX8_runs 153 = .ok (.getfield 19, 3) := by decide +kernel
theorem dX8_runs_156 : decode cX8_runs 156 = .ok (.iload_n 3, 1) := by decide +kernel
theorem dX8_runs_157 : decode cX8_runs 157 = .ok (.iaload, 1) := by decide +kernel
theorem dX8_runs_158 : decode cX8_runs 158 = .ok (.iadd, 1) := by decide +kernel
theorem dX8_runs_159 : decode cX8_runs 159 = .ok (.iastore, 1) := by decide +kernel
theorem dX8_runs_160 : decode cX8_runs 160 = .ok (.aload_n 0, 1) := by decide +kernel
theorem dX8_runs_161 : decode cX8_runs 161 = .ok (.dup, 1) := by decide +kernel
theorem dX8_runs_162 : decode cX8_runs 162 = .ok (.getfield 136, 3) := by decide +kernel
theorem dX8_runs_165 : decode cX8_runs 165 = .ok (.aload_n 0, 1) := by decide +kernel
theorem dX8_runs_166 : decode cX8_runs 166 = .ok (.getfield 37, 3) := by decide +kernel
theorem dX8_runs_169 : decode cX8_runs 169 = .ok (.iload_n 3, 1) := by decide +kernel
theorem dX8_runs_170 : decode cX8_runs 170 = .ok (.iaload, 1) := by decide +kernel
theorem dX8_runs_171 : decode cX8_runs 171 = .ok (.iconst (-1), 1) := by decide +kernel
theorem dX8_runs_172 : decode cX8_runs 172 = .ok (.if_icmp .ne 7, 3) := by decide +kernel
theorem dX8_runs_175 : decode cX8_runs 175 = .ok (.iconst 0, 1) := by decide +kernel
theorem dX8_runs_176 : decode cX8_runs 176 = .ok (.goto 4, 3) := by decide +kernel
theorem dX8_runs_179 : decode cX8_runs 179 = .ok (.iconst 1, 1) := by decide +kernel
theorem dX8_runs_180 : decode cX8_runs 180 = .ok (.iadd, 1) := by decide +kernel
theorem dX8_runs_181 : decode cX8_runs 181 = .ok (.putfield 136, 3) := by decide +kernel
theorem dX8_runs_184 : decode cX8_runs 184 = .ok (.iinc 3 1, 3) := by decide +kernel
theorem dX8_runs_187 : decode cX8_runs 187 = .ok (.goto (-116), 3) := by decide +kernel
theorem dX8_runs_190 : decode cX8_runs 190 = .ok (.iinc 2 1, 3) := by decide +kernel
theorem dX8_runs_193 : decode cX8_runs 193 = .ok (.goto (-138), 3) := by decide +kernel
theorem dX8_runs_196 : decode cX8_runs 196 = .ok (.return_, 1) := by decide +kernel
set_option maxRecDepth 20000 in
theorem ggX8_stateOf_X8_runs : GoodIn wsX8_stateOf wsX8_runs := goodIn_r _ [9, 10, 11, 2, 3, 4, 12, 1, 13, 14, 15, 16, 17, 18, 8, 19, 20, 21, 22, 23, 24, 25, 26, 27, 28, 29, 30, 31, 32, 33, 34, 35, 36, 37, 38, 39, 40, 41, 42, 43, 44, 45, 46, 47, 48, 49, 50, 51, 52, 53, 54, 55, 56, 57, 58, 59, 60, 61, 62, 63, 64] (by decide +kernel) (by decide +kernel)
set_option maxRecDepth 20000 in
theorem gX8_stateOf_X8_runs : GoodIn wsX8_stateOf (wsV RX8 146 RX8 yX8_runs wsX8_runs) := goodIn_app (goodIn_of _ (by decide +kernel)) ggX8_stateOf_X8_runs
theorem dX8_stateOf_0 : decode cX8_stateOf 0 = .ok (.aload_n 0, 1) := by decide +kernel
theorem dX8_stateOf_1 : decode cX8_stateOf 1 = .ok (.iload_n 2, 1) := by decide +kernel
theorem dX8_stateOf_2 : decode cX8_stateOf 2 = .ok (.invokevirtual 146, 3) := by decide +kernel
theorem dX8_stateOf_5 : decode cX8_stateOf 5 = .ok (.iload_n 3, 1) := by decide +kernel
theorem dX8_stateOf_6 : decode cX8_stateOf 6 = .ok (.ifCond .ne 12, 3) := by decide +kernel
theorem dX8_stateOf_9 : decode cX8_stateOf 9 = .ok (.aload_n 0, 1) := by decide +kernel
theorem dX8_stateOf_10 : decode cX8_stateOf 10 = .ok (.getfield 34, 3) := by decide +kernel
theorem dX8_stateOf_13 : decode cX8_stateOf 13 = .ok (.iload_n 1, 1) := by decide +kernel
theorem dX8_stateOf_14 : decode cX8_stateOf 14 = .ok (.iaload, 1) := by decide +kernel
theorem dX8_stateOf_15 : decode cX8_stateOf 15 = .ok (.goto 37, 3) := by decide +kernel
theorem dX8_stateOf_18 : decode cX8_stateOf 18 = .ok (.iload_n 3, 1) := by decide +kernel
theorem dX8_stateOf_19 : decode cX8_stateOf 19 = .ok (.iconst 1, 1) := by decide +kernel
theorem dX8_stateOf_20 : decode cX8_stateOf 20 = .ok (.if_icmp .ne 12, 3) := by decide +kernel
theorem dX8_stateOf_23 : decode cX8_stateOf 23 = .ok (.aload_n 0, 1) := by decide +kernel
theorem dX8_stateOf_24 : decode cX8_stateOf 24 = .ok (.getfield 46, 3) := by decide +kernel
theorem dX8_stateOf_27 : decode cX8_stateOf 27 = .ok (.iload_n 1, 1) := by decide +kernel
theorem dX8_stateOf_28 : decode cX8_stateOf 28 = .ok (.iaload, 1) := by decide +kernel
theorem dX8_stateOf_29 : decode cX8_stateOf 29 = .ok (.goto 23, 3) := by decide +kernel
theorem dX8_stateOf_32 : decode cX8_stateOf 32 = .ok (.iload_n 3, 1) := by decide +kernel
theorem dX8_stateOf_33 : decode cX8_stateOf 33 = .ok (.iconst 2, 1) := by decide +kernel
theorem dX8_stateOf_34 : decode cX8_stateOf 34 = .ok (.if_icmp .ne 12, 3) := by decide +kernel
theorem dX8_stateOf_37 : decode cX8_stateOf 37 = .ok (.aload_n 0, 1) := by decide +kernel
theorem dX8_stateOf_38 : decode cX8_stateOf 38 = .ok (.getfield 49, 3) := by decide +kernel
theorem dX8_stateOf_41 : decode cX8_stateOf 41 = .ok (.iload_n 1, 1) := by decide +kernel
theorem dX8_stateOf_42 : decode cX8_stateOf 42 = .ok (.iaload, 1) := by decide +kernel
theorem dX8_stateOf_43 : decode cX8_stateOf 43 = .ok (.goto 9, 3) := by decide +kernel
theorem dX8_stateOf_46 : decode cX8_stateOf 46 = .ok (.aload_n 0, 1) := by decide +kernel
theorem dX8_stateOf_47 : decode cX8_stateOf 47 = .ok (.getfield 52, 3) := by decide +kernel
theorem dX8_stateOf_50 : decode cX8_stateOf 50 = .ok (.iload_n 1, 1) := by decide +kernel
theorem dX8_stateOf_51 : decode cX8_stateOf 51 = .ok (.iaload, 1) := by decide +kernel
theorem dX8_stateOf_52 : decode cX8_stateOf 52 = .ok (.ireturn, 1) := by decide +kernel
set_option maxRecDepth 20000 in
theorem ggX8_isBehind_X8_reads : GoodIn wsX8_isBehind wsX8_reads := goodIn_r _ [6, 7, 8, 9, 5, 10, 11, 12, 13, 14, 15, 16, 17, 18, 19, 20, 21, 22, 23, 24, 25, 26, 27, 28, 29, 30, 1, 31, 32, 33, 34, 35, 36, 37, 38, 39, 40, 41, 42, 43, 44, 45, 46, 47, 48, 49, 50, 51, 52, 53, 54, 55, 56, 57, 58, 59, 60] (by decide +kernel) (by decide +kernel)
set_option maxRecDepth 20000 in
theorem gX8_isBehind_X8_reads : GoodIn wsX8_isBehind (wsV RX8 111 RX8 yX8_reads wsX8_reads) := goodIn_app (goodIn_of _ (by decide +kernel)) ggX8_isBehind_X8_reads
set_option maxRecDepth 20000 in
theorem ggX8_isBehind_X8_in : GoodIn wsX8_isBehind wsX8_in := goodIn_r _ [26] (by decide +kernel) (by decide +kernel)
set_option maxRecDepth 20000 in
theorem gX8_isBehind_X8_in : GoodIn wsX8_isBehind (va_wsS RX8 85 yX8_in wsX8_in) := goodIn_app (goodIn_of _ (by decide +kernel)) ggX8_isBehind_X8_in
theorem dX8_isBehind_0 : decode cX8_isBehind 0 = .ok (.aload_n 0, 1) := by decide +kernel
theorem dX8_isBehind_1 : decode cX8_isBehind 1 = .ok (.invokevirtual 111, 3) := by decide +kernel
theorem dX8_isBehind_4 : decode cX8_isBehind 4 = .ok (.iload_n 1, 1) := by decide +kernel
theorem dX8_isBehind_5 : decode cX8_isBehind 5 = .ok (.iconst 0, 1) := by decide +kernel
theorem dX8_isBehind_6 : decode cX8_isBehind 6 = .ok (.aload_n 0, 1) := by decide +kernel
theorem dX8_isBehind_7 : decode cX8_isBehind 7 = .ok (.getfield 97, 3) := by decide +kernel
theorem dX8_isBehind_10 : decode cX8_isBehind 10 = .ok (.invokestatic 85, 3) := by decide +kernel
theorem dX8_isBehind_13 : decode cX8_isBehind 13 = .ok (.ireturn, 1) := by decide +kernel
set_option maxRecDepth 20000 in
theorem ggX8_state_X8_isPerson : GoodIn wsX8_state wsX8_isPerson := goodIn_r _ [5, 6, 7, 8, 9, 4, 10, 11, 12, 13, 14, 15, 16, 17, 18, 19, 20, 21, 22, 23, 24, 25, 26, 27, 28, 29, 30, 31, 32, 33, 34, 35, 74, 75, 76, 77, 78, 79, 80, 81, 82, 83, 84, 85, 86, 87, 88, 89, 90, 91, 92, 93, 94, 95, 96, 97, 98, 99, 100, 101, 102] (by decide +kernel) (by decide +kernel)
set_option maxRecDepth 20000 in
theorem gX8_state_X8_isPerson : GoodIn wsX8_state (wsV RX8 114 RX8 yX8_isPerson wsX8_isPerson) := goodIn_app (goodIn_of _ (by decide +kernel)) ggX8_state_X8_isPerson
set_option maxRecDepth 20000 in
theorem ggX8_state_X8_isBehind : GoodIn wsX8_state wsX8_isBehind := goodIn_r _ [39, 34, 7, 8, 9, 4, 10, 11, 12, 13, 14, 15, 16, 17, 18, 6, 19, 20, 21, 22, 23, 24, 25, 26, 27, 28, 29, 30, 31, 32, 33, 35, 74, 75, 76, 77, 78, 79, 80, 81, 82, 83, 84, 85, 86, 87, 88, 89, 90, 91, 92, 93, 94, 95, 96, 97, 98, 99, 100, 101, 102] (by decide +kernel) (by decide +kernel)
set_option maxRecDepth 20000 in
theorem gX8_state_X8_isBehind : GoodIn wsX8_state (wsV RX8 149 RX8 yX8_isBehind wsX8_isBehind) := goodIn_app (goodIn_of _ (by decide +kernel)) ggX8_state_X8_isBehind
set_option maxRecDepth 20000 in
theorem ggX8_state_X8_in : GoodIn wsX8_state wsX8_in := goodIn_r _ [29] (by decide +kernel) (by decide +kernel)
set_option maxRecDepth 20000 in
theorem gX8_state_X8_in : GoodIn wsX8_state (va_wsS RX8 85 yX8_in wsX8_in) := goodIn_app (goodIn_of _ (by decide +kernel)) ggX8_state_X8_in
set_option maxRecDepth 20000 in
theorem ggX8_state_X8_stateOf : GoodIn wsX8_state wsX8_stateOf := goodIn_r _ [43, 44, 45, 46, 47, 48, 49, 50, 4, 51, 52, 6, 53, 54, 55, 21, 56, 57, 58, 59, 20, 60, 61, 62, 63, 64, 35, 65, 66, 67, 68, 69, 70, 71, 72, 73, 74, 75, 76, 77, 78, 79, 80, 81, 82, 83, 84, 85, 86, 87, 88, 89, 90, 91, 92, 93, 94, 95, 96, 97, 98, 99, 100, 101, 102] (by decide +kernel) (by decide +kernel)
set_option maxRecDepth 20000 in
theorem gX8_state_X8_stateOf : GoodIn wsX8_state (wsV RX8 152 RX8 yX8_stateOf wsX8_stateOf) := goodIn_app (goodIn_of _ (by decide +kernel)) ggX8_state_X8_stateOf
theorem dX8_state_0 : decode cX8_state 0 = .ok (.aload_n 0, 1) := by decide +kernel
theorem dX8_state_1 : decode cX8_state 1 = .ok (.iload_n 1, 1) := by decide +kernel
theorem dX8_state_2 : decode cX8_state 2 = .ok (.invokevirtual 114, 3) := by decide +kernel
theorem dX8_state_5 : decode cX8_state 5 = .ok (.ifCond .eq 30, 3) := by decide +kernel
theorem dX8_state_8 : decode cX8_state 8 = .ok (.aload_n 0, 1) := by decide +kernel
theorem dX8_state_9 : decode cX8_state 9 = .ok (.iload_n 2, 1) := by decide +kernel
theorem dX8_state_10 : decode cX8_state 10 = .ok (.invokevirtual 149, 3) := by decide +kernel
theorem dX8_state_13 : decode cX8_state 13 = .ok (.ifCond .eq 22, 3) := by decide +kernel
theorem dX8_state_16 : decode cX8_state 16 = .ok (.iload_n 3, 1) := by decide +kernel
theorem dX8_state_17 : decode cX8_state 17 = .ok (.iconst 0, 1) := by decide +kernel
theorem dX8_state_18 : decode cX8_state 18 = .ok (.iconst 3, 1) := by decide +kernel
theorem dX8_state_19 : decode cX8_state 19 = .ok (.invokestatic 85, 3) := by decide +kernel
theorem dX8_state_22 : decode cX8_state 22 = .ok (.ifCond .eq 13, 3) := by decide +kernel
theorem dX8_state_25 : decode cX8_state 25 = .ok (.aload_n 0, 1) := by decide +kernel
theorem dX8_state_26 : decode cX8_state 26 = .ok (.iload_n 1, 1) := by decide +kernel
theorem dX8_state_27 : decode cX8_state 27 = .ok (.iload_n 2, 1) := by decide +kernel
theorem dX8_state_28 : decode cX8_state 28 = .ok (.iload_n 3, 1) := by decide +kernel
theorem dX8_state_29 : decode cX8_state 29 = .ok (.invokevirtual 152, 3) := by decide +kernel
theorem dX8_state_32 : decode cX8_state 32 = .ok (.goto 5, 3) := by decide +kernel
theorem dX8_state_35 : decode cX8_state 35 = .ok (.bipush (-2), 2) := by decide +kernel
theorem dX8_state_37 : decode cX8_state 37 = .ok (.ireturn, 1) := by decide +kernel
set_option maxRecDepth 20000 in
theorem ggX8_allOf_X8_stateOf : GoodIn wsX8_allOf wsX8_stateOf := goodIn_r _ [6, 7, 8, 9, 10, 11, 12, 13, 5, 14, 15, 1, 16, 17, 18, 19, 20, 21, 22, 23, 24, 25, 26, 27, 28, 29, 30, 31, 32, 33, 34, 35, 36, 37, 38, 39, 40, 41, 42, 43, 44, 45, 46, 47, 48, 49, 50, 51, 52, 53, 54, 55, 56, 57, 58, 59, 60, 61, 62, 63, 64, 65, 66, 67, 68] (by decide +kernel) (by decide +kernel)
set_option maxRecDepth 20000 in
theorem gX8_allOf_X8_stateOf : GoodIn wsX8_allOf (wsV RX8 152 RX8 yX8_stateOf wsX8_stateOf) := goodIn_app (goodIn_of _ (by decide +kernel)) ggX8_allOf_X8_stateOf
theorem dX8_allOf_0 : decode cX8_allOf 0 = .ok (.iconst 0, 1) := by decide +kernel
theorem dX8_allOf_1 : decode cX8_allOf 1 = .ok (.istore_n 3, 1) := by decide +kernel
theorem dX8_allOf_2 : decode cX8_allOf 2 = .ok (.iconst 0, 1) := by decide +kernel
theorem dX8_allOf_3 : decode cX8_allOf 3 = .ok (.istore 4, 2) := by decide +kernel
theorem dX8_allOf_5 : decode cX8_allOf 5 = .ok (.iload 4, 2) := by decide +kernel
theorem dX8_allOf_7 : decode cX8_allOf 7 = .ok (.aload_n 0, 1) := by decide +kernel
theorem dX8_allOf_8 : decode cX8_allOf 8 = .ok (.getfield 89, 3) := by decide +kernel
theorem dX8_allOf_11 : decode cX8_allOf 11 = .ok (.if_icmp .ge 20, 3) := by decide +kernel
theorem dX8_allOf_14 : decode cX8_allOf 14 = .ok (.iload_n 3, 1) := by decide +kernel
theorem dX8_allOf_15 : decode cX8_allOf 15 = .ok (.aload_n 0, 1) := by decide +kernel
theorem dX8_allOf_16 : decode cX8_allOf 16 = .ok (.iload 4, 2) := by decide +kernel
theorem dX8_allOf_18 : decode cX8_allOf 18 = .ok (.iload_n 1, 1) := by decide +kernel
theorem dX8_allOf_19 : decode cX8_allOf 19 = .ok (.iload_n 2, 1) := by decide +kernel
theorem dX8_allOf_20 : decode cX8_allOf 20 = .ok (.invokevirtual 152, 3) := by decide +kernel
theorem dX8_allOf_23 : decode cX8_allOf 23 = .ok (.iadd, 1) := by decide +kernel
theorem dX8_allOf_24 : decode cX8_allOf 24 = .ok (.istore_n 3, 1) := by decide +kernel
theorem dX8_allOf_25 : decode cX8_allOf 25 = .ok (.iinc 4 1, 3) := by decide +kernel
theorem dX8_allOf_28 : decode cX8_allOf 28 = .ok (.goto (-23), 3) := by decide +kernel
theorem dX8_allOf_31 : decode cX8_allOf 31 = .ok (.iload_n 3, 1) := by decide +kernel
theorem dX8_allOf_32 : decode cX8_allOf 32 = .ok (.ireturn, 1) := by decide +kernel
set_option maxRecDepth 20000 in
theorem ggX8_all_X8_isBehind : GoodIn wsX8_all wsX8_isBehind := goodIn_r _ [5, 6, 7, 8, 9, 4, 10, 11, 12, 13, 14, 15, 16, 17, 18, 19, 20, 21, 22, 23, 24, 25, 26, 27, 28, 29, 30, 31, 32, 33, 34, 35, 74, 75, 76, 77, 78, 79, 80, 81, 82, 83, 84, 85, 86, 87, 88, 89, 90, 91, 92, 93, 94, 95, 96, 97, 98, 99, 100, 101, 102] (by decide +kernel) (by decide +kernel)
set_option maxRecDepth 20000 in
theorem gX8_all_X8_isBehind : GoodIn wsX8_all (wsV RX8 149 RX8 yX8_isBehind wsX8_isBehind) := goodIn_app (goodIn_of _ (by decide +kernel)) ggX8_all_X8_isBehind
set_option maxRecDepth 20000 in
theorem ggX8_all_X8_in : GoodIn wsX8_all wsX8_in := goodIn_r _ [30] (by decide +kernel) (by decide +kernel)
set_option maxRecDepth 20000 in
theorem gX8_all_X8_in : GoodIn wsX8_all (va_wsS RX8 85 yX8_in wsX8_in) := goodIn_app (goodIn_of _ (by decide +kernel)) ggX8_all_X8_in
set_option maxRecDepth 20000 in
theorem ggX8_all_X8_allOf : GoodIn wsX8_all wsX8_allOf := goodIn_r _ [39, 19, 40, 41, 42, 4, 43, 44, 45, 46, 47, 48, 49, 50, 51, 52, 53, 54, 55, 22, 56, 57, 58, 59, 21, 60, 61, 62, 63, 64, 35, 65, 66, 67, 68, 69, 70, 71, 72, 73, 74, 75, 76, 77, 78, 79, 80, 81, 82, 83, 84, 85, 86, 87, 88, 89, 90, 91, 92, 93, 94, 95, 96, 97, 98, 99, 100, 101, 102] (by decide +kernel) (by decide +kernel)
set_option maxRecDepth 20000 in
theorem gX8_all_X8_allOf : GoodIn wsX8_all (wsV RX8 156 RX8 yX8_allOf wsX8_allOf) := goodIn_app (goodIn_of _ (by decide +kernel)) ggX8_all_X8_allOf
theorem dX8_all_0 : decode cX8_all 0 = .ok (.aload_n 0, 1) := by decide +kernel
theorem dX8_all_1 : decode cX8_all 1 = .ok (.iload_n 1, 1) := by decide +kernel
theorem dX8_all_2 : decode cX8_all 2 = .ok (.invokevirtual 149, 3) := by decide +kernel
theorem dX8_all_5 : decode cX8_all 5 = .ok (.ifCond .eq 21, 3) := by decide +kernel
theorem dX8_all_8 : decode cX8_all 8 = .ok (.iload_n 2, 1) := by decide +kernel
theorem dX8_all_9 : decode cX8_all 9 = .ok (.iconst 0, 1) := by decide +kernel
theorem dX8_all_10 : decode cX8_all 10 = .ok (.iconst 3, 1) := by decide +kernel
theorem dX8_all_11 : decode cX8_all 11 = .ok (.invokestatic 85, 3) := by decide +kernel
theorem dX8_all_14 : decode cX8_all 14 = .ok (.ifCond .eq 12, 3) := by decide +kernel
theorem dX8_all_17 : decode cX8_all 17 = .ok (.aload_n 0, 1) := by decide +kernel
theorem dX8_all_18 : decode cX8_all 18 = .ok (.iload_n 1, 1) := by decide +kernel
theorem dX8_all_19 : decode cX8_all 19 = .ok (.iload_n 2, 1) := by decide +kernel
theorem dX8_all_20 : decode cX8_all 20 = .ok (.invokevirtual 156, 3) := by decide +kernel
theorem dX8_all_23 : decode cX8_all 23 = .ok (.goto 5, 3) := by decide +kernel
theorem dX8_all_26 : decode cX8_all 26 = .ok (.bipush (-2), 2) := by decide +kernel
theorem dX8_all_28 : decode cX8_all 28 = .ok (.ireturn, 1) := by decide +kernel
set_option maxRecDepth 20000 in
theorem ggX8_payerOf_X8_runs : GoodIn wsX8_payerOf wsX8_runs := goodIn_r _ [9, 10, 1, 11, 12, 13, 2, 14, 15, 4, 16, 17, 18, 19, 8, 20, 21, 22, 23, 24, 25, 26, 27, 28, 29, 30, 31, 3, 32, 33, 34, 35, 36, 37, 38, 39, 40, 41, 42, 43, 44, 45, 46, 47, 48, 49, 50, 51, 52, 53, 54, 55, 56, 57, 58, 59, 60, 61, 62, 63, 64] (by decide +kernel) (by decide +kernel)
set_option maxRecDepth 20000 in
theorem gX8_payerOf_X8_runs : GoodIn wsX8_payerOf (wsV RX8 146 RX8 yX8_runs wsX8_runs) := goodIn_app (goodIn_of _ (by decide +kernel)) ggX8_payerOf_X8_runs
theorem dX8_payerOf_0 : decode cX8_payerOf 0 = .ok (.aload_n 0, 1) := by decide +kernel
theorem dX8_payerOf_1 : decode cX8_payerOf 1 = .ok (.iload_n 1, 1) := by decide +kernel
theorem dX8_payerOf_2 : decode cX8_payerOf 2 = .ok (.iconst 1, 1) := by decide +kernel
theorem dX8_payerOf_3 : decode cX8_payerOf 3 = .ok (.iadd, 1) := by decide +kernel
theorem dX8_payerOf_4 : decode cX8_payerOf 4 = .ok (.invokevirtual 146, 3) := by decide +kernel
theorem dX8_payerOf_7 : decode cX8_payerOf 7 = .ok (.iconst (-1), 1) := by decide +kernel
theorem dX8_payerOf_8 : decode cX8_payerOf 8 = .ok (.istore_n 3, 1) := by decide +kernel
theorem dX8_payerOf_9 : decode cX8_payerOf 9 = .ok (.iconst 0, 1) := by decide +kernel
theorem dX8_payerOf_10 : decode cX8_payerOf 10 = .ok (.istore 4, 2) := by decide +kernel
theorem dX8_payerOf_12 : decode cX8_payerOf 12 = .ok (.iload 4, 2) := by decide +kernel
theorem dX8_payerOf_14 : decode cX8_payerOf 14 = .ok (.aload_n 0, 1) := by decide +kernel
theorem dX8_payerOf_15 : decode cX8_payerOf 15 = .ok (.getfield 89, 3) := by decide +kernel
theorem dX8_payerOf_18 : decode cX8_payerOf 18 = .ok (.if_icmp .ge 86, 3) := by decide +kernel
theorem dX8_payerOf_21 : decode cX8_payerOf 21 = .ok (.iload_n 3, 1) := by decide +kernel
theorem dX8_payerOf_22 : decode cX8_payerOf 22 = .ok (.iconst (-1), 1) := by decide +kernel
theorem dX8_payerOf_23 : decode cX8_payerOf 23 = .ok (.if_icmp .eq 45, 3) := by decide +kernel
theorem dX8_payerOf_26 : decode cX8_payerOf 26 = .ok (.aload_n 0, 1) := by decide +kernel
theorem dX8_payerOf_27 : decode cX8_payerOf 27 = .ok (.getfield 40, 3) := by decide +kernel
theorem dX8_payerOf_30 : decode cX8_payerOf 30 = .ok (.iload 4, 2) := by decide +kernel
theorem dX8_payerOf_32 : decode cX8_payerOf 32 = .ok (.iaload, 1) := by decide +kernel
theorem dX8_payerOf_33 : decode cX8_payerOf 33 = .ok (.aload_n 0, 1) := by decide +kernel
theorem dX8_payerOf_34 : decode cX8_payerOf 34 = .ok (.getfield 40, 3) := by decide +kernel
theorem dX8_payerOf_37 : decode cX8_payerOf 37 = .ok (.iload_n 3, 1) := by decide +kernel
theorem dX8_payerOf_38 : decode cX8_payerOf 38 = .ok (.iaload, 1) := by decide +kernel
theorem dX8_payerOf_39 : decode cX8_payerOf 39 = .ok (.if_icmp .gt 29, 3) := by decide +kernel
theorem dX8_payerOf_42 : decode cX8_payerOf 42 = .ok (.aload_n 0, 1) := by decide +kernel
theorem dX8_payerOf_43 : decode cX8_payerOf 43 = .ok (.getfield 40, 3) := by decide +kernel
theorem dX8_payerOf_46 : decode cX8_payerOf 46 = .ok (.iload 4, 2) := by decide +kernel
theorem dX8_payerOf_48 : decode cX8_payerOf 48 = .ok (.iaload, 1) := by decide +kernel
theorem dX8_payerOf_49 : decode cX8_payerOf 49 = .ok (.aload_n 0, 1) := by decide +kernel
theorem dX8_payerOf_50 : decode cX8_payerOf 50 = .ok (.getfield 40, 3) := by decide +kernel
theorem dX8_payerOf_53 : decode cX8_payerOf 53 = .ok (.iload_n 3, 1) := by decide +kernel
theorem dX8_payerOf_54 : decode cX8_payerOf 54 = .ok (.iaload, 1) := by decide +kernel
theorem dX8_payerOf_55 : decode cX8_payerOf 55 = .ok (.if_icmp .ne 17, 3) := by decide +kernel
theorem dX8_payerOf_58 : decode cX8_payerOf 58 = .ok (.aload_n 0, 1) := by decide +kernel
theorem dX8_payerOf_59 : decode cX8_payerOf 59 = .ok (.getfield 31, 3) := by decide +kernel
theorem dX8_payerOf_62 : decode cX8_payerOf 62 = .ok (.iconst 1, 1) := by decide +kernel
theorem dX8_payerOf_63 : decode cX8_payerOf 63 = .ok (.iaload, 1) := by decide +kernel
theorem dX8_payerOf_64 : decode cX8_payerOf 64 = .ok (.iconst 1, 1) := by decide +kernel
theorem dX8_payerOf_65 : decode cX8_payerOf 65 = .ok (.if_icmp .ne 7, 3) := by decide +kernel
theorem dX8_payerOf_68 : decode cX8_payerOf 68 = .ok (.iconst 1, 1) := by decide +kernel
theorem dX8_payerOf_69 : decode cX8_payerOf 69 = .ok (.goto 4, 3) := by decide +kernel
theorem dX8_payerOf_72 : decode cX8_payerOf 72 = .ok (.iconst 0, 1) := by decide +kernel
theorem dX8_payerOf_73 : decode cX8_payerOf 73 = .ok (.istore 5, 2) := by decide +kernel
theorem dX8_payerOf_75 : decode cX8_payerOf 75 = .ok (.aload_n 0, 1) := by decide +kernel
theorem dX8_payerOf_76 : decode cX8_payerOf 76 = .ok (.getfield 37, 3) := by decide +kernel
theorem dX8_payerOf_79 : decode cX8_payerOf 79 = .ok (.iload 4, 2) := by decide +kernel
theorem dX8_payerOf_81 : decode cX8_payerOf 81 = .ok (.iaload, 1) := by decide +kernel
theorem dX8_payerOf_82 : decode cX8_payerOf 82 = .ok (.iload_n 2, 1) := by decide +kernel
theorem dX8_payerOf_83 : decode cX8_payerOf 83 = .ok (.if_icmp .ne 13, 3) := by decide +kernel
theorem dX8_payerOf_86 : decode cX8_payerOf 86 = .ok (.iload 5, 2) := by decide +kernel
theorem dX8_payerOf_88 : decode cX8_payerOf 88 = .ok (.ifCond .eq 8, 3) := by decide +kernel
theorem dX8_payerOf_91 : decode cX8_payerOf 91 = .ok (.iload 4, 2) := by decide +kernel
theorem dX8_payerOf_93 : decode cX8_payerOf 93 = .ok (.goto 4, 3) := by decide +kernel
theorem dX8_payerOf_96 : decode cX8_payerOf 96 = .ok (.iload_n 3, 1) := by decide +kernel
theorem dX8_payerOf_97 : decode cX8_payerOf 97 = .ok (.istore_n 3, 1) := by decide +kernel
theorem dX8_payerOf_98 : decode cX8_payerOf 98 = .ok (.iinc 4 1, 3) := by decide +kernel
theorem dX8_payerOf_101 : decode cX8_payerOf 101 = .ok (.goto (-89), 3) := by decide +kernel
theorem dX8_payerOf_104 : decode cX8_payerOf 104 = .ok (.iload_n 3, 1) := by decide +kernel
theorem dX8_payerOf_105 : decode cX8_payerOf 105 = .ok (.ireturn, 1) := by decide +kernel
set_option maxRecDepth 20000 in
theorem ggX8_payer_X8_isRound : GoodIn wsX8_payer wsX8_isRound := goodIn_r _ [5, 6, 7, 8, 9, 4, 10, 11, 12, 13, 14, 15, 16, 17, 18, 19, 20, 21, 22, 23, 24, 25, 26, 27, 28, 29, 30, 31, 32, 33, 34, 35, 73, 74, 75, 76, 77, 78, 79, 80, 81, 82, 83, 84, 85, 86, 87, 88, 89, 90, 91, 92, 93, 94, 95, 96, 97, 98, 99, 100, 101] (by decide +kernel) (by decide +kernel)
set_option maxRecDepth 20000 in
theorem gX8_payer_X8_isRound : GoodIn wsX8_payer (wsV RX8 118 RX8 yX8_isRound wsX8_isRound) := goodIn_app (goodIn_of _ (by decide +kernel)) ggX8_payer_X8_isRound
set_option maxRecDepth 20000 in
theorem ggX8_payer_X8_isSix : GoodIn wsX8_payer wsX8_isSix := goodIn_r _ [38, 28, 29, 4, 30] (by decide +kernel) (by decide +kernel)
set_option maxRecDepth 20000 in
theorem gX8_payer_X8_isSix : GoodIn wsX8_payer (va_wsS RX8 121 yX8_isSix wsX8_isSix) := goodIn_app (goodIn_of _ (by decide +kernel)) ggX8_payer_X8_isSix
set_option maxRecDepth 20000 in
theorem ggX8_payer_X8_payerOf : GoodIn wsX8_payer wsX8_payerOf := goodIn_r _ [42, 19, 43, 44, 45, 46, 47, 48, 4, 49, 50, 51, 52, 53, 54, 55, 22, 56, 57, 58, 59, 21, 60, 61, 62, 63, 64, 35, 65, 66, 67, 68, 69, 70, 71, 72, 73, 74, 75, 76, 77, 78, 79, 80, 81, 82, 83, 84, 85, 86, 87, 88, 89, 90, 91, 92, 93, 94, 95, 96, 97, 98, 99, 100, 101] (by decide +kernel) (by decide +kernel)
set_option maxRecDepth 20000 in
theorem gX8_payer_X8_payerOf : GoodIn wsX8_payer (wsV RX8 159 RX8 yX8_payerOf wsX8_payerOf) := goodIn_app (goodIn_of _ (by decide +kernel)) ggX8_payer_X8_payerOf
theorem dX8_payer_0 : decode cX8_payer 0 = .ok (.aload_n 0, 1) := by decide +kernel
theorem dX8_payer_1 : decode cX8_payer 1 = .ok (.iload_n 1, 1) := by decide +kernel
theorem dX8_payer_2 : decode cX8_payer 2 = .ok (.invokevirtual 118, 3) := by decide +kernel
theorem dX8_payer_5 : decode cX8_payer 5 = .ok (.ifCond .eq 19, 3) := by decide +kernel
theorem dX8_payer_8 : decode cX8_payer 8 = .ok (.iload_n 2, 1) := by decide +kernel
theorem dX8_payer_9 : decode cX8_payer 9 = .ok (.invokestatic 121, 3) := by decide +kernel
theorem dX8_payer_12 : decode cX8_payer 12 = .ok (.ifCond .eq 12, 3) := by decide +kernel
