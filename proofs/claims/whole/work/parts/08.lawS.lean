theorem ggL_law_X7_init : GoodIn wsL_law wsX7_init := sorry
theorem gL_law_X7_init : GoodIn wsL_law (wsX7_init) := sorry
theorem ggL_law_X8_init : GoodIn wsL_law wsX8_init := sorry
theorem gL_law_X8_init : GoodIn wsL_law (wsX8_init) := sorry
theorem ggL_law_X7_type : GoodIn wsL_law wsX7_type := sorry
theorem gL_law_X7_type : GoodIn wsL_law (wsV RL 13 RX7 yX7_type wsX7_type) := sorry
theorem ggL_law_X8_type : GoodIn wsL_law wsX8_type := sorry
theorem gL_law_X8_type : GoodIn wsL_law (wsV RL 17 RX8 yX8_type wsX8_type) := sorry
theorem ggL_law_X7_wipe : GoodIn wsL_law wsX7_wipe := sorry
theorem gL_law_X7_wipe : GoodIn wsL_law (wsV RL 18 RX7 yX7_wipe wsX7_wipe) := sorry
theorem ggL_law_X8_wipe : GoodIn wsL_law wsX8_wipe := sorry
theorem gL_law_X8_wipe : GoodIn wsL_law (wsV RL 22 RX8 yX8_wipe wsX8_wipe) := sorry
theorem ggL_law_X7_fault : GoodIn wsL_law wsX7_fault := sorry
theorem gL_law_X7_fault : GoodIn wsL_law (wsV RL 23 RX7 yX7_fault wsX7_fault) := sorry
theorem ggL_law_X8_fault : GoodIn wsL_law wsX8_fault := sorry
theorem gL_law_X8_fault : GoodIn wsL_law (wsV RL 26 RX8 yX8_fault wsX8_fault) := sorry
theorem ggL_law_X7_person : GoodIn wsL_law wsX7_person := sorry
theorem gL_law_X7_person : GoodIn wsL_law (wsV RL 27 RX7 yX7_person wsX7_person) := sorry
theorem ggL_law_X8_person : GoodIn wsL_law wsX8_person := sorry
theorem gL_law_X8_person : GoodIn wsL_law (wsV RL 30 RX8 yX8_person wsX8_person) := sorry
theorem ggL_law_X7_sits : GoodIn wsL_law wsX7_sits := sorry
theorem gL_law_X7_sits : GoodIn wsL_law (wsV RL 31 RX7 yX7_sits wsX7_sits) := sorry
theorem ggL_law_X8_sits : GoodIn wsL_law wsX8_sits := sorry
theorem gL_law_X8_sits : GoodIn wsL_law (wsV RL 34 RX8 yX8_sits wsX8_sits) := sorry
theorem ggL_law_X7_home : GoodIn wsL_law wsX7_home := sorry
theorem gL_law_X7_home : GoodIn wsL_law (wsV RL 35 RX7 yX7_home wsX7_home) := sorry
theorem ggL_law_X8_home : GoodIn wsL_law wsX8_home := sorry
theorem gL_law_X8_home : GoodIn wsL_law (wsV RL 38 RX8 yX8_home wsX8_home) := sorry
theorem ggL_law_X7_worth : GoodIn wsL_law wsX7_worth := sorry
theorem gL_law_X7_worth : GoodIn wsL_law (wsV RL 39 RX7 yX7_worth wsX7_worth) := sorry
theorem ggL_law_X8_worth : GoodIn wsL_law wsX8_worth := sorry
theorem gL_law_X8_worth : GoodIn wsL_law (wsV RL 42 RX8 yX8_worth wsX8_worth) := sorry
theorem ggL_law_X7_read : GoodIn wsL_law wsX7_read := sorry
theorem gL_law_X7_read : GoodIn wsL_law (wsV RL 43 RX7 yX7_read wsX7_read) := sorry
theorem ggL_law_X8_read : GoodIn wsL_law wsX8_read := sorry
theorem gL_law_X8_read : GoodIn wsL_law (wsV RL 46 RX8 yX8_read wsX8_read) := sorry
theorem ggL_law_X7_set : GoodIn wsL_law wsX7_set := sorry
theorem gL_law_X7_set : GoodIn wsL_law (wsV RL 47 RX7 yX7_set wsX7_set) := sorry
theorem ggL_law_X8_set : GoodIn wsL_law wsX8_set := sorry
theorem gL_law_X8_set : GoodIn wsL_law (wsV RL 50 RX8 yX8_set wsX8_set) := sorry
theorem ggL_law_X7_state : GoodIn wsL_law wsX7_state := sorry
theorem gL_law_X7_state : GoodIn wsL_law (wsV RL 51 RX7 yX7_state wsX7_state) := sorry
theorem ggL_law_X8_state : GoodIn wsL_law wsX8_state := sorry
theorem gL_law_X8_state : GoodIn wsL_law (wsV RL 55 RX8 yX8_state wsX8_state) := sorry
theorem ggL_law_X7_all : GoodIn wsL_law wsX7_all := sorry
theorem gL_law_X7_all : GoodIn wsL_law (wsV RL 56 RX7 yX7_all wsX7_all) := sorry
theorem ggL_law_X8_all : GoodIn wsL_law wsX8_all := sorry
theorem gL_law_X8_all : GoodIn wsL_law (wsV RL 59 RX8 yX8_all wsX8_all) := sorry
theorem ggL_law_X7_payer : GoodIn wsL_law wsX7_payer := sorry
theorem gL_law_X7_payer : GoodIn wsL_law (wsV RL 60 RX7 yX7_payer wsX7_payer) := sorry
theorem ggL_law_X8_payer : GoodIn wsL_law wsX8_payer := sorry
theorem gL_law_X8_payer : GoodIn wsL_law (wsV RL 63 RX8 yX8_payer wsX8_payer) := sorry
theorem ggL_law_X7_beggars : GoodIn wsL_law wsX7_beggars := sorry
theorem gL_law_X7_beggars : GoodIn wsL_law (wsV RL 64 RX7 yX7_beggars wsX7_beggars) := sorry
theorem ggL_law_X8_beggars : GoodIn wsL_law wsX8_beggars := sorry
theorem gL_law_X8_beggars : GoodIn wsL_law (wsV RL 68 RX8 yX8_beggars wsX8_beggars) := sorry
theorem ggL_law_X7_best : GoodIn wsL_law wsX7_best := sorry
theorem gL_law_X7_best : GoodIn wsL_law (wsV RL 69 RX7 yX7_best wsX7_best) := sorry
theorem ggL_law_X8_best : GoodIn wsL_law wsX8_best := sorry
theorem gL_law_X8_best : GoodIn wsL_law (wsV RL 72 RX8 yX8_best wsX8_best) := sorry
theorem ggL_law_X7_rest : GoodIn wsL_law wsX7_rest := sorry
theorem gL_law_X7_rest : GoodIn wsL_law (wsV RL 73 RX7 yX7_rest wsX7_rest) := sorry
theorem ggL_law_X8_rest : GoodIn wsL_law wsX8_rest := sorry
theorem gL_law_X8_rest : GoodIn wsL_law (wsV RL 76 RX8 yX8_rest wsX8_rest) := sorry
theorem ggL_law_X7_down : GoodIn wsL_law wsX7_down := sorry
theorem gL_law_X7_down : GoodIn wsL_law (wsV RL 77 RX7 yX7_down wsX7_down) := sorry
theorem ggL_law_X8_down : GoodIn wsL_law wsX8_down := sorry
theorem gL_law_X8_down : GoodIn wsL_law (wsV RL 80 RX8 yX8_down wsX8_down) := sorry
theorem ggL_law_X7_alike : GoodIn wsL_law wsX7_alike := sorry
theorem gL_law_X7_alike : GoodIn wsL_law (wsV RL 81 RX7 yX7_alike wsX7_alike) := sorry
theorem ggL_law_X8_alike : GoodIn wsL_law wsX8_alike := sorry
theorem gL_law_X8_alike : GoodIn wsL_law (wsV RL 84 RX8 yX8_alike wsX8_alike) := sorry
theorem ggL_law_X7_dark : GoodIn wsL_law wsX7_dark := sorry
theorem gL_law_X7_dark : GoodIn wsL_law (wsV RL 85 RX7 yX7_dark wsX7_dark) := sorry
theorem ggL_law_X8_dark : GoodIn wsL_law wsX8_dark := sorry
theorem gL_law_X8_dark : GoodIn wsL_law (wsV RL 88 RX8 yX8_dark wsX8_dark) := sorry
theorem ggL_law_X7_seen : GoodIn wsL_law wsX7_seen := sorry
theorem gL_law_X7_seen : GoodIn wsL_law (wsV RL 89 RX7 yX7_seen wsX7_seen) := sorry
theorem ggL_law_X8_seen : GoodIn wsL_law wsX8_seen := sorry
theorem gL_law_X8_seen : GoodIn wsL_law (wsV RL 92 RX8 yX8_seen wsX8_seen) := sorry
theorem ggL_law_X7_forget : GoodIn wsL_law wsX7_forget := sorry
theorem gL_law_X7_forget : GoodIn wsL_law (wsV RL 93 RX7 yX7_forget wsX7_forget) := sorry
theorem ggL_law_X8_forget : GoodIn wsL_law wsX8_forget := sorry
theorem gL_law_X8_forget : GoodIn wsL_law (wsV RL 96 RX8 yX8_forget wsX8_forget) := sorry
theorem ggL_law_X7_unlike : GoodIn wsL_law wsX7_unlike := sorry
theorem gL_law_X7_unlike : GoodIn wsL_law (wsV RL 97 RX7 yX7_unlike wsX7_unlike) := sorry
theorem ggL_law_X8_unlike : GoodIn wsL_law wsX8_unlike := sorry
theorem gL_law_X8_unlike : GoodIn wsL_law (wsV RL 100 RX8 yX8_unlike wsX8_unlike) := sorry
theorem ggL_law_X7_hid : GoodIn wsL_law wsX7_hid := sorry
theorem gL_law_X7_hid : GoodIn wsL_law (wsV RL 101 RX7 yX7_hid wsX7_hid) := sorry
theorem ggL_law_X8_hid : GoodIn wsL_law wsX8_hid := sorry
theorem gL_law_X8_hid : GoodIn wsL_law (wsV RL 104 RX8 yX8_hid wsX8_hid) := sorry
theorem ggL_law_X7_luck : GoodIn wsL_law wsX7_luck := sorry
theorem gL_law_X7_luck : GoodIn wsL_law (wsV RL 105 RX7 yX7_luck wsX7_luck) := sorry
theorem ggL_law_X8_luck : GoodIn wsL_law wsX8_luck := sorry
theorem gL_law_X8_luck : GoodIn wsL_law (wsV RL 109 RX8 yX8_luck wsX8_luck) := sorry
theorem ggL_law_X7_sheet : GoodIn wsL_law wsX7_sheet := sorry
theorem gL_law_X7_sheet : GoodIn wsL_law (wsV RL 110 RX7 yX7_sheet wsX7_sheet) := sorry
theorem ggL_law_X8_sheet : GoodIn wsL_law wsX8_sheet := sorry
theorem gL_law_X8_sheet : GoodIn wsL_law (wsV RL 113 RX8 yX8_sheet wsX8_sheet) := sorry
theorem ggL_law_X7_lose : GoodIn wsL_law wsX7_lose := sorry
theorem gL_law_X7_lose : GoodIn wsL_law (wsV RL 114 RX7 yX7_lose wsX7_lose) := sorry
theorem ggL_law_X8_lose : GoodIn wsL_law wsX8_lose := sorry
theorem gL_law_X8_lose : GoodIn wsL_law (wsV RL 117 RX8 yX8_lose wsX8_lose) := sorry
theorem ggL_law_X7_put : GoodIn wsL_law wsX7_put := sorry
theorem gL_law_X7_put : GoodIn wsL_law (wsV RL 118 RX7 yX7_put wsX7_put) := sorry
theorem ggL_law_X8_put : GoodIn wsL_law wsX8_put := sorry
theorem gL_law_X8_put : GoodIn wsL_law (wsV RL 122 RX8 yX8_put wsX8_put) := sorry
theorem ggL_law_X7_get : GoodIn wsL_law wsX7_get := sorry
theorem gL_law_X7_get : GoodIn wsL_law (wsV RL 123 RX7 yX7_get wsX7_get) := sorry
theorem ggL_law_X8_get : GoodIn wsL_law wsX8_get := sorry
theorem gL_law_X8_get : GoodIn wsL_law (wsV RL 126 RX8 yX8_get wsX8_get) := sorry
theorem ggL_law_X7_copy : GoodIn wsL_law wsX7_copy := sorry
theorem gL_law_X7_copy : GoodIn wsL_law (wsV RL 127 RX7 yX7_copy wsX7_copy) := sorry
theorem ggL_law_X8_copy : GoodIn wsL_law wsX8_copy := sorry
theorem gL_law_X8_copy : GoodIn wsL_law (wsV RL 131 RX8 yX8_copy wsX8_copy) := sorry
theorem ggL_law_X7_write : GoodIn wsL_law wsX7_write := sorry
theorem gL_law_X7_write : GoodIn wsL_law (wsV RL 132 RX7 yX7_write wsX7_write) := sorry
theorem ggL_law_X8_write : GoodIn wsL_law wsX8_write := sorry
theorem gL_law_X8_write : GoodIn wsL_law (wsV RL 135 RX8 yX8_write wsX8_write) := sorry
theorem ggL_law_X7_count : GoodIn wsL_law wsX7_count := sorry
theorem gL_law_X7_count : GoodIn wsL_law (wsV RL 136 RX7 yX7_count wsX7_count) := sorry
theorem ggL_law_X8_count : GoodIn wsL_law wsX8_count := sorry
theorem gL_law_X8_count : GoodIn wsL_law (wsV RL 139 RX8 yX8_count wsX8_count) := sorry
theorem ggL_law_X7_digest : GoodIn wsL_law wsX7_digest := sorry
theorem gL_law_X7_digest : GoodIn wsL_law (wsV RL 140 RX7 yX7_digest wsX7_digest) := sorry
theorem ggL_law_X8_digest : GoodIn wsL_law wsX8_digest := sorry
theorem gL_law_X8_digest : GoodIn wsL_law (wsV RL 144 RX8 yX8_digest wsX8_digest) := sorry
theorem dL_law_0 : decode cL_law 0 = .ok (.new 7, 3) := sorry
theorem dL_law_3 : decode cL_law 3 = .ok (.dup, 1) := sorry
theorem dL_law_4 : decode cL_law 4 = .ok (.invokespecial 9, 3) := sorry
theorem dL_law_7 : decode cL_law 7 = .ok (.astore_n 1, 1) := sorry
theorem dL_law_8 : decode cL_law 8 = .ok (.new 10, 3) := sorry
theorem dL_law_11 : decode cL_law 11 = .ok (.dup, 1) := sorry
theorem dL_law_12 : decode cL_law 12 = .ok (.invokespecial 12, 3) := sorry
theorem dL_law_15 : decode cL_law 15 = .ok (.astore_n 2, 1) := sorry
theorem dL_law_16 : decode cL_law 16 = .ok (.iconst 0, 1) := sorry
theorem dL_law_17 : decode cL_law 17 = .ok (.istore_n 3, 1) := sorry
theorem dL_law_18 : decode cL_law 18 = .ok (.iload_n 3, 1) := sorry
theorem dL_law_19 : decode cL_law 19 = .ok (.aload_n 0, 1) := sorry
theorem dL_law_20 : decode cL_law 20 = .ok (.arraylength, 1) := sorry
theorem dL_law_21 : decode cL_law 21 = .ok (.bipush 6, 2) := sorry
theorem dL_law_23 : decode cL_law 23 = .ok (.isub, 1) := sorry
theorem dL_law_24 : decode cL_law 24 = .ok (.if_icmp .gt 1139, 3) := sorry
theorem dL_law_27 : decode cL_law 27 = .ok (.aload_n 0, 1) := sorry
theorem dL_law_28 : decode cL_law 28 = .ok (.iload_n 3, 1) := sorry
theorem dL_law_29 : decode cL_law 29 = .ok (.iaload, 1) := sorry
theorem dL_law_30 : decode cL_law 30 = .ok (.bipush 31, 2) := sorry
theorem dL_law_32 : decode cL_law 32 = .ok (.iand, 1) := sorry
theorem dL_law_33 : decode cL_law 33 = .ok (.tableswitch 1124 0 30 #[139, 172, 195, 218, 251, 284, 317, 350, 373, 406, 449, 482, 515, 528, 571, 594, 627, 640, 683, 726, 739, 752, 775, 829, 872, 895, 948, 991, 1054, 1087, 1110], 139) := sorry
theorem dL_law_172 : decode cL_law 172 = .ok (.aload_n 1, 1) := sorry
theorem dL_law_173 : decode cL_law 173 = .ok (.aload_n 0, 1) := sorry
theorem dL_law_174 : decode cL_law 174 = .ok (.iload_n 3, 1) := sorry
theorem dL_law_175 : decode cL_law 175 = .ok (.iconst 1, 1) := sorry
theorem dL_law_176 : decode cL_law 176 = .ok (.iadd, 1) := sorry
theorem dL_law_177 : decode cL_law 177 = .ok (.iaload, 1) := sorry
theorem dL_law_178 : decode cL_law 178 = .ok (.aload_n 0, 1) := sorry
theorem dL_law_179 : decode cL_law 179 = .ok (.iload_n 3, 1) := sorry
theorem dL_law_180 : decode cL_law 180 = .ok (.iconst 2, 1) := sorry
theorem dL_law_181 : decode cL_law 181 = .ok (.iadd, 1) := sorry
theorem dL_law_182 : decode cL_law 182 = .ok (.iaload, 1) := sorry
theorem dL_law_183 : decode cL_law 183 = .ok (.invokevirtual 13, 3) := sorry
theorem dL_law_186 : decode cL_law 186 = .ok (.aload_n 2, 1) := sorry
theorem dL_law_187 : decode cL_law 187 = .ok (.aload_n 0, 1) := sorry
theorem dL_law_188 : decode cL_law 188 = .ok (.iload_n 3, 1) := sorry
theorem dL_law_189 : decode cL_law 189 = .ok (.iconst 1, 1) := sorry
theorem dL_law_190 : decode cL_law 190 = .ok (.iadd, 1) := sorry
theorem dL_law_191 : decode cL_law 191 = .ok (.iaload, 1) := sorry
theorem dL_law_192 : decode cL_law 192 = .ok (.aload_n 0, 1) := sorry
theorem dL_law_193 : decode cL_law 193 = .ok (.iload_n 3, 1) := sorry
theorem dL_law_194 : decode cL_law 194 = .ok (.iconst 2, 1) := sorry
theorem dL_law_195 : decode cL_law 195 = .ok (.iadd, 1) := sorry
theorem dL_law_196 : decode cL_law 196 = .ok (.iaload, 1) := sorry
theorem dL_law_197 : decode cL_law 197 = .ok (.invokevirtual 17, 3) := sorry
theorem dL_law_200 : decode cL_law 200 = .ok (.if_icmp .eq 957, 3) := sorry
theorem dL_law_203 : decode cL_law 203 = .ok (.iconst 0, 1) := sorry
theorem dL_law_204 : decode cL_law 204 = .ok (.ireturn, 1) := sorry
theorem dL_law_205 : decode cL_law 205 = .ok (.aload_n 1, 1) := sorry
theorem dL_law_206 : decode cL_law 206 = .ok (.aload_n 0, 1) := sorry
theorem dL_law_207 : decode cL_law 207 = .ok (.iload_n 3, 1) := sorry
theorem dL_law_208 : decode cL_law 208 = .ok (.iconst 1, 1) := sorry
theorem dL_law_209 : decode cL_law 209 = .ok (.iadd, 1) := sorry
theorem dL_law_210 : decode cL_law 210 = .ok (.iaload, 1) := sorry
theorem dL_law_211 : decode cL_law 211 = .ok (.invokevirtual 18, 3) := sorry
theorem dL_law_214 : decode cL_law 214 = .ok (.aload_n 2, 1) := sorry
theorem dL_law_215 : decode cL_law 215 = .ok (.aload_n 0, 1) := sorry
theorem dL_law_216 : decode cL_law 216 = .ok (.iload_n 3, 1) := sorry
theorem dL_law_217 : decode cL_law 217 = .ok (.iconst 1, 1) := sorry
theorem dL_law_218 : decode cL_law 218 = .ok (.iadd, 1) := sorry
theorem dL_law_219 : decode cL_law 219 = .ok (.iaload, 1) := sorry
theorem dL_law_220 : decode cL_law 220 = .ok (.invokevirtual 22, 3) := sorry
theorem dL_law_223 : decode cL_law 223 = .ok (.if_icmp .eq 934, 3) := sorry
theorem dL_law_226 : decode cL_law 226 = .ok (.iconst 0, 1) := sorry
theorem dL_law_227 : decode cL_law 227 = .ok (.ireturn, 1) := sorry
theorem dL_law_228 : decode cL_law 228 = .ok (.aload_n 1, 1) := sorry
theorem dL_law_229 : decode cL_law 229 = .ok (.aload_n 0, 1) := sorry
theorem dL_law_230 : decode cL_law 230 = .ok (.iload_n 3, 1) := sorry
theorem dL_law_231 : decode cL_law 231 = .ok (.iconst 1, 1) := sorry
theorem dL_law_232 : decode cL_law 232 = .ok (.iadd, 1) := sorry
theorem dL_law_233 : decode cL_law 233 = .ok (.iaload, 1) := sorry
theorem dL_law_234 : decode cL_law 234 = .ok (.invokevirtual 23, 3) := sorry
theorem dL_law_237 : decode cL_law 237 = .ok (.aload_n 2, 1) := sorry
theorem dL_law_238 : decode cL_law 238 = .ok (.aload_n 0, 1) := sorry
theorem dL_law_239 : decode cL_law 239 = .ok (.iload_n 3, 1) := sorry
theorem dL_law_240 : decode cL_law 240 = .ok (.iconst 1, 1) := sorry
theorem dL_law_241 : decode cL_law 241 = .ok (.iadd, 1) := sorry
theorem dL_law_242 : decode cL_law 242 = .ok (.iaload, 1) := sorry
theorem dL_law_243 : decode cL_law 243 = .ok (.invokevirtual 26, 3) := sorry
theorem dL_law_246 : decode cL_law 246 = .ok (.if_icmp .eq 911, 3) := sorry
theorem dL_law_249 : decode cL_law 249 = .ok (.iconst 0, 1) := sorry
theorem dL_law_250 : decode cL_law 250 = .ok (.ireturn, 1) := sorry
theorem dL_law_251 : decode cL_law 251 = .ok (.aload_n 1, 1) := sorry
theorem dL_law_252 : decode cL_law 252 = .ok (.aload_n 0, 1) := sorry
theorem dL_law_253 : decode cL_law 253 = .ok (.iload_n 3, 1) := sorry
theorem dL_law_254 : decode cL_law 254 = .ok (.iconst 1, 1) := sorry
theorem dL_law_255 : decode cL_law 255 = .ok (.iadd, 1) := sorry
theorem dL_law_256 : decode cL_law 256 = .ok (.iaload, 1) := sorry
theorem dL_law_257 : decode cL_law 257 = .ok (.aload_n 0, 1) := sorry
theorem dL_law_258 : decode cL_law 258 = .ok (.iload_n 3, 1) := sorry
theorem dL_law_259 : decode cL_law 259 = .ok (.iconst 2, 1) := sorry
theorem dL_law_260 : decode cL_law 260 = .ok (.iadd, 1) := sorry
theorem dL_law_261 : decode cL_law 261 = .ok (.iaload, 1) := sorry
theorem dL_law_262 : decode cL_law 262 = .ok (.invokevirtual 27, 3) := sorry
theorem dL_law_265 : decode cL_law 265 = .ok (.aload_n 2, 1) := sorry
theorem dL_law_266 : decode cL_law 266 = .ok (.aload_n 0, 1) := sorry
theorem dL_law_267 : decode cL_law 267 = .ok (.iload_n 3, 1) := sorry
theorem dL_law_268 : decode cL_law 268 = .ok (.iconst 1, 1) := sorry
theorem dL_law_269 : decode cL_law 269 = .ok (.iadd, 1) := sorry
theorem dL_law_270 : decode cL_law 270 = .ok (.iaload, 1) := sorry
theorem dL_law_271 : decode cL_law 271 = .ok (.aload_n 0, 1) := sorry
theorem dL_law_272 : decode cL_law 272 = .ok (.iload_n 3, 1) := sorry
theorem dL_law_273 : decode cL_law 273 = .ok (.iconst 2, 1) := sorry
theorem dL_law_274 : decode cL_law 274 = .ok (.iadd, 1) := sorry
theorem dL_law_275 : decode cL_law 275 = .ok (.iaload, 1) := sorry
theorem dL_law_276 : decode cL_law 276 = .ok (.invokevirtual 30, 3) := sorry
theorem dL_law_279 : decode cL_law 279 = .ok (.if_icmp .eq 878, 3) := sorry
theorem dL_law_282 : decode cL_law 282 = .ok (.iconst 0, 1) := sorry
theorem dL_law_283 : decode cL_law 283 = .ok (.ireturn, 1) := sorry
theorem dL_law_284 : decode cL_law 284 = .ok (.aload_n 1, 1) := sorry
theorem dL_law_285 : decode cL_law 285 = .ok (.aload_n 0, 1) := sorry
theorem dL_law_286 : decode cL_law 286 = .ok (.iload_n 3, 1) := sorry
theorem dL_law_287 : decode cL_law 287 = .ok (.iconst 1, 1) := sorry
theorem dL_law_288 : decode cL_law 288 = .ok (.iadd, 1) := sorry
theorem dL_law_289 : decode cL_law 289 = .ok (.iaload, 1) := sorry
theorem dL_law_290 : decode cL_law 290 = .ok (.aload_n 0, 1) := sorry
theorem dL_law_291 : decode cL_law 291 = .ok (.iload_n 3, 1) := sorry
theorem dL_law_292 : decode cL_law 292 = .ok (.iconst 2, 1) := sorry
theorem dL_law_293 : decode cL_law 293 = .ok (.iadd, 1) := sorry
theorem dL_law_294 : decode cL_law 294 = .ok (.iaload, 1) := sorry
theorem dL_law_295 : decode cL_law 295 = .ok (.invokevirtual 31, 3) := sorry
theorem dL_law_298 : decode cL_law 298 = .ok (.aload_n 2, 1) := sorry
theorem dL_law_299 : decode cL_law 299 = .ok (.aload_n 0, 1) := sorry
theorem dL_law_300 : decode cL_law 300 = .ok (.iload_n 3, 1) := sorry
theorem dL_law_301 : decode cL_law 301 = .ok (.iconst 1, 1) := sorry
theorem dL_law_302 : decode cL_law 302 = .ok (.iadd, 1) := sorry
theorem dL_law_303 : decode cL_law 303 = .ok (.iaload, 1) := sorry
theorem dL_law_304 : decode cL_law 304 = .ok (.aload_n 0, 1) := sorry
theorem dL_law_305 : decode cL_law 305 = .ok (.iload_n 3, 1) := sorry
theorem dL_law_306 : decode cL_law 306 = .ok (.iconst 2, 1) := sorry
theorem dL_law_307 : decode cL_law 307 = .ok (.iadd, 1) := sorry
theorem dL_law_308 : decode cL_law 308 = .ok (.iaload, 1) := sorry
theorem dL_law_309 : decode cL_law 309 = .ok (.invokevirtual 34, 3) := sorry
theorem dL_law_312 : decode cL_law 312 = .ok (.if_icmp .eq 845, 3) := sorry
theorem dL_law_315 : decode cL_law 315 = .ok (.iconst 0, 1) := sorry
theorem dL_law_316 : decode cL_law 316 = .ok (.ireturn, 1) := sorry
theorem dL_law_317 : decode cL_law 317 = .ok (.aload_n 1, 1) := sorry
theorem dL_law_318 : decode cL_law 318 = .ok (.aload_n 0, 1) := sorry
theorem dL_law_319 : decode cL_law 319 = .ok (.iload_n 3, 1) := sorry
theorem dL_law_320 : decode cL_law 320 = .ok (.iconst 1, 1) := sorry
theorem dL_law_321 : decode cL_law 321 = .ok (.iadd, 1) := sorry
theorem dL_law_322 : decode cL_law 322 = .ok (.iaload, 1) := sorry
theorem dL_law_323 : decode cL_law 323 = .ok (.aload_n 0, 1) := sorry
theorem dL_law_324 : decode cL_law 324 = .ok (.iload_n 3, 1) := sorry
theorem dL_law_325 : decode cL_law 325 = .ok (.iconst 2, 1) := sorry
theorem dL_law_326 : decode cL_law 326 = .ok (.iadd, 1) := sorry
theorem dL_law_327 : decode cL_law 327 = .ok (.iaload, 1) := sorry
theorem dL_law_328 : decode cL_law 328 = .ok (.invokevirtual 35, 3) := sorry
theorem dL_law_331 : decode cL_law 331 = .ok (.aload_n 2, 1) := sorry
theorem dL_law_332 : decode cL_law 332 = .ok (.aload_n 0, 1) := sorry
theorem dL_law_333 : decode cL_law 333 = .ok (.iload_n 3, 1) := sorry
theorem dL_law_334 : decode cL_law 334 = .ok (.iconst 1, 1) := sorry
theorem dL_law_335 : decode cL_law 335 = .ok (.iadd, 1) := sorry
theorem dL_law_336 : decode cL_law 336 = .ok (.iaload, 1) := sorry
theorem dL_law_337 : decode cL_law 337 = .ok (.aload_n 0, 1) := sorry
theorem dL_law_338 : decode cL_law 338 = .ok (.iload_n 3, 1) := sorry
theorem dL_law_339 : decode cL_law 339 = .ok (.iconst 2, 1) := sorry
theorem dL_law_340 : decode cL_law 340 = .ok (.iadd, 1) := sorry
theorem dL_law_341 : decode cL_law 341 = .ok (.iaload, 1) := sorry
theorem dL_law_342 : decode cL_law 342 = .ok (.invokevirtual 38, 3) := sorry
theorem dL_law_345 : decode cL_law 345 = .ok (.if_icmp .eq 812, 3) := sorry
theorem dL_law_348 : decode cL_law 348 = .ok (.iconst 0, 1) := sorry
theorem dL_law_349 : decode cL_law 349 = .ok (.ireturn, 1) := sorry
theorem dL_law_350 : decode cL_law 350 = .ok (.aload_n 1, 1) := sorry
theorem dL_law_351 : decode cL_law 351 = .ok (.aload_n 0, 1) := sorry
theorem dL_law_352 : decode cL_law 352 = .ok (.iload_n 3, 1) := sorry
theorem dL_law_353 : decode cL_law 353 = .ok (.iconst 1, 1) := sorry
theorem dL_law_354 : decode cL_law 354 = .ok (.iadd, 1) := sorry
theorem dL_law_355 : decode cL_law 355 = .ok (.iaload, 1) := sorry
theorem dL_law_356 : decode cL_law 356 = .ok (.aload_n 0, 1) := sorry
theorem dL_law_357 : decode cL_law 357 = .ok (.iload_n 3, 1) := sorry
theorem dL_law_358 : decode cL_law 358 = .ok (.iconst 2, 1) := sorry
theorem dL_law_359 : decode cL_law 359 = .ok (.iadd, 1) := sorry
theorem dL_law_360 : decode cL_law 360 = .ok (.iaload, 1) := sorry
theorem dL_law_361 : decode cL_law 361 = .ok (.invokevirtual 39, 3) := sorry
theorem dL_law_364 : decode cL_law 364 = .ok (.aload_n 2, 1) := sorry
theorem dL_law_365 : decode cL_law 365 = .ok (.aload_n 0, 1) := sorry
theorem dL_law_366 : decode cL_law 366 = .ok (.iload_n 3, 1) := sorry
theorem dL_law_367 : decode cL_law 367 = .ok (.iconst 1, 1) := sorry
theorem dL_law_368 : decode cL_law 368 = .ok (.iadd, 1) := sorry
theorem dL_law_369 : decode cL_law 369 = .ok (.iaload, 1) := sorry
theorem dL_law_370 : decode cL_law 370 = .ok (.aload_n 0, 1) := sorry
theorem dL_law_371 : decode cL_law 371 = .ok (.iload_n 3, 1) := sorry
theorem dL_law_372 : decode cL_law 372 = .ok (.iconst 2, 1) := sorry
theorem dL_law_373 : decode cL_law 373 = .ok (.iadd, 1) := sorry
theorem dL_law_374 : decode cL_law 374 = .ok (.iaload, 1) := sorry
theorem dL_law_375 : decode cL_law 375 = .ok (.invokevirtual 42, 3) := sorry
theorem dL_law_378 : decode cL_law 378 = .ok (.if_icmp .eq 779, 3) := sorry
theorem dL_law_381 : decode cL_law 381 = .ok (.iconst 0, 1) := sorry
theorem dL_law_382 : decode cL_law 382 = .ok (.ireturn, 1) := sorry
theorem dL_law_383 : decode cL_law 383 = .ok (.aload_n 1, 1) := sorry
theorem dL_law_384 : decode cL_law 384 = .ok (.aload_n 0, 1) := sorry
theorem dL_law_385 : decode cL_law 385 = .ok (.iload_n 3, 1) := sorry
theorem dL_law_386 : decode cL_law 386 = .ok (.iconst 1, 1) := sorry
theorem dL_law_387 : decode cL_law 387 = .ok (.iadd, 1) := sorry
theorem dL_law_388 : decode cL_law 388 = .ok (.iaload, 1) := sorry
theorem dL_law_389 : decode cL_law 389 = .ok (.invokevirtual 43, 3) := sorry
theorem dL_law_392 : decode cL_law 392 = .ok (.aload_n 2, 1) := sorry
theorem dL_law_393 : decode cL_law 393 = .ok (.aload_n 0, 1) := sorry
theorem dL_law_394 : decode cL_law 394 = .ok (.iload_n 3, 1) := sorry
theorem dL_law_395 : decode cL_law 395 = .ok (.iconst 1, 1) := sorry
theorem dL_law_396 : decode cL_law 396 = .ok (.iadd, 1) := sorry
theorem dL_law_397 : decode cL_law 397 = .ok (.iaload, 1) := sorry
theorem dL_law_398 : decode cL_law 398 = .ok (.invokevirtual 46, 3) := sorry
theorem dL_law_401 : decode cL_law 401 = .ok (.if_icmp .eq 756, 3) := sorry
theorem dL_law_404 : decode cL_law 404 = .ok (.iconst 0, 1) := sorry
theorem dL_law_405 : decode cL_law 405 = .ok (.ireturn, 1) := sorry
theorem dL_law_406 : decode cL_law 406 = .ok (.aload_n 1, 1) := sorry
theorem dL_law_407 : decode cL_law 407 = .ok (.aload_n 0, 1) := sorry
theorem dL_law_408 : decode cL_law 408 = .ok (.iload_n 3, 1) := sorry
theorem dL_law_409 : decode cL_law 409 = .ok (.iconst 1, 1) := sorry
theorem dL_law_410 : decode cL_law 410 = .ok (.iadd, 1) := sorry
theorem dL_law_411 : decode cL_law 411 = .ok (.iaload, 1) := sorry
theorem dL_law_412 : decode cL_law 412 = .ok (.aload_n 0, 1) := sorry
theorem dL_law_413 : decode cL_law 413 = .ok (.iload_n 3, 1) := sorry
theorem dL_law_414 : decode cL_law 414 = .ok (.iconst 2, 1) := sorry
theorem dL_law_415 : decode cL_law 415 = .ok (.iadd, 1) := sorry
theorem dL_law_416 : decode cL_law 416 = .ok (.iaload, 1) := sorry
theorem dL_law_417 : decode cL_law 417 = .ok (.invokevirtual 47, 3) := sorry
theorem dL_law_420 : decode cL_law 420 = .ok (.aload_n 2, 1) := sorry
theorem dL_law_421 : decode cL_law 421 = .ok (.aload_n 0, 1) := sorry
theorem dL_law_422 : decode cL_law 422 = .ok (.iload_n 3, 1) := sorry
theorem dL_law_423 : decode cL_law 423 = .ok (.iconst 1, 1) := sorry
theorem dL_law_424 : decode cL_law 424 = .ok (.iadd, 1) := sorry
theorem dL_law_425 : decode cL_law 425 = .ok (.iaload, 1) := sorry
theorem dL_law_426 : decode cL_law 426 = .ok (.aload_n 0, 1) := sorry
theorem dL_law_427 : decode cL_law 427 = .ok (.iload_n 3, 1) := sorry
theorem dL_law_428 : decode cL_law 428 = .ok (.iconst 2, 1) := sorry
theorem dL_law_429 : decode cL_law 429 = .ok (.iadd, 1) := sorry
theorem dL_law_430 : decode cL_law 430 = .ok (.iaload, 1) := sorry
theorem dL_law_431 : decode cL_law 431 = .ok (.invokevirtual 50, 3) := sorry
theorem dL_law_434 : decode cL_law 434 = .ok (.if_icmp .eq 723, 3) := sorry
theorem dL_law_437 : decode cL_law 437 = .ok (.iconst 0, 1) := sorry
theorem dL_law_438 : decode cL_law 438 = .ok (.ireturn, 1) := sorry
theorem dL_law_439 : decode cL_law 439 = .ok (.aload_n 1, 1) := sorry
theorem dL_law_440 : decode cL_law 440 = .ok (.aload_n 0, 1) := sorry
theorem dL_law_441 : decode cL_law 441 = .ok (.iload_n 3, 1) := sorry
theorem dL_law_442 : decode cL_law 442 = .ok (.iconst 1, 1) := sorry
theorem dL_law_443 : decode cL_law 443 = .ok (.iadd, 1) := sorry
theorem dL_law_444 : decode cL_law 444 = .ok (.iaload, 1) := sorry
theorem dL_law_445 : decode cL_law 445 = .ok (.aload_n 0, 1) := sorry
theorem dL_law_446 : decode cL_law 446 = .ok (.iload_n 3, 1) := sorry
theorem dL_law_447 : decode cL_law 447 = .ok (.iconst 2, 1) := sorry
theorem dL_law_448 : decode cL_law 448 = .ok (.iadd, 1) := sorry
theorem dL_law_449 : decode cL_law 449 = .ok (.iaload, 1) := sorry
theorem dL_law_450 : decode cL_law 450 = .ok (.aload_n 0, 1) := sorry
theorem dL_law_451 : decode cL_law 451 = .ok (.iload_n 3, 1) := sorry
theorem dL_law_452 : decode cL_law 452 = .ok (.iconst 3, 1) := sorry
theorem dL_law_453 : decode cL_law 453 = .ok (.iadd, 1) := sorry
theorem dL_law_454 : decode cL_law 454 = .ok (.iaload, 1) := sorry
theorem dL_law_455 : decode cL_law 455 = .ok (.invokevirtual 51, 3) := sorry
theorem dL_law_458 : decode cL_law 458 = .ok (.aload_n 2, 1) := sorry
theorem dL_law_459 : decode cL_law 459 = .ok (.aload_n 0, 1) := sorry
theorem dL_law_460 : decode cL_law 460 = .ok (.iload_n 3, 1) := sorry
theorem dL_law_461 : decode cL_law 461 = .ok (.iconst 1, 1) := sorry
theorem dL_law_462 : decode cL_law 462 = .ok (.iadd, 1) := sorry
theorem dL_law_463 : decode cL_law 463 = .ok (.iaload, 1) := sorry
theorem dL_law_464 : decode cL_law 464 = .ok (.aload_n 0, 1) := sorry
theorem dL_law_465 : decode cL_law 465 = .ok (.iload_n 3, 1) := sorry
theorem dL_law_466 : decode cL_law 466 = .ok (.iconst 2, 1) := sorry
theorem dL_law_467 : decode cL_law 467 = .ok (.iadd, 1) := sorry
theorem dL_law_468 : decode cL_law 468 = .ok (.iaload, 1) := sorry
theorem dL_law_469 : decode cL_law 469 = .ok (.aload_n 0, 1) := sorry
theorem dL_law_470 : decode cL_law 470 = .ok (.iload_n 3, 1) := sorry
theorem dL_law_471 : decode cL_law 471 = .ok (.iconst 3, 1) := sorry
theorem dL_law_472 : decode cL_law 472 = .ok (.iadd, 1) := sorry
theorem dL_law_473 : decode cL_law 473 = .ok (.iaload, 1) := sorry
theorem dL_law_474 : decode cL_law 474 = .ok (.invokevirtual 55, 3) := sorry
theorem dL_law_477 : decode cL_law 477 = .ok (.if_icmp .eq 680, 3) := sorry
theorem dL_law_480 : decode cL_law 480 = .ok (.iconst 0, 1) := sorry
theorem dL_law_481 : decode cL_law 481 = .ok (.ireturn, 1) := sorry
theorem dL_law_482 : decode cL_law 482 = .ok (.aload_n 1, 1) := sorry
theorem dL_law_483 : decode cL_law 483 = .ok (.aload_n 0, 1) := sorry
theorem dL_law_484 : decode cL_law 484 = .ok (.iload_n 3, 1) := sorry
theorem dL_law_485 : decode cL_law 485 = .ok (.iconst 1, 1) := sorry
theorem dL_law_486 : decode cL_law 486 = .ok (.iadd, 1) := sorry
theorem dL_law_487 : decode cL_law 487 = .ok (.iaload, 1) := sorry
theorem dL_law_488 : decode cL_law 488 = .ok (.aload_n 0, 1) := sorry
theorem dL_law_489 : decode cL_law 489 = .ok (.iload_n 3, 1) := sorry
theorem dL_law_490 : decode cL_law 490 = .ok (.iconst 2, 1) := sorry
theorem dL_law_491 : decode cL_law 491 = .ok (.iadd, 1) := sorry
theorem dL_law_492 : decode cL_law 492 = .ok (.iaload, 1) := sorry
theorem dL_law_493 : decode cL_law 493 = .ok (.invokevirtual 56, 3) := sorry
theorem dL_law_496 : decode cL_law 496 = .ok (.aload_n 2, 1) := sorry
theorem dL_law_497 : decode cL_law 497 = .ok (.aload_n 0, 1) := sorry
theorem dL_law_498 : decode cL_law 498 = .ok (.iload_n 3, 1) := sorry
theorem dL_law_499 : decode cL_law 499 = .ok (.iconst 1, 1) := sorry
theorem dL_law_500 : decode cL_law 500 = .ok (.iadd, 1) := sorry
theorem dL_law_501 : decode cL_law 501 = .ok (.iaload, 1) := sorry
theorem dL_law_502 : decode cL_law 502 = .ok (.aload_n 0, 1) := sorry
theorem dL_law_503 : decode cL_law 503 = .ok (.iload_n 3, 1) := sorry
theorem dL_law_504 : decode cL_law 504 = .ok (.iconst 2, 1) := sorry
theorem dL_law_505 : decode cL_law 505 = .ok (.iadd, 1) := sorry
theorem dL_law_506 : decode cL_law 506 = .ok (.iaload, 1) := sorry
theorem dL_law_507 : decode cL_law 507 = .ok (.invokevirtual 59, 3) := sorry
theorem dL_law_510 : decode cL_law 510 = .ok (.if_icmp .eq 647, 3) := sorry
theorem dL_law_513 : decode cL_law 513 = .ok (.iconst 0, 1) := sorry
theorem dL_law_514 : decode cL_law 514 = .ok (.ireturn, 1) := sorry
theorem dL_law_515 : decode cL_law 515 = .ok (.aload_n 1, 1) := sorry
theorem dL_law_516 : decode cL_law 516 = .ok (.aload_n 0, 1) := sorry
theorem dL_law_517 : decode cL_law 517 = .ok (.iload_n 3, 1) := sorry
theorem dL_law_518 : decode cL_law 518 = .ok (.iconst 1, 1) := sorry
theorem dL_law_519 : decode cL_law 519 = .ok (.iadd, 1) := sorry
theorem dL_law_520 : decode cL_law 520 = .ok (.iaload, 1) := sorry
theorem dL_law_521 : decode cL_law 521 = .ok (.aload_n 0, 1) := sorry
theorem dL_law_522 : decode cL_law 522 = .ok (.iload_n 3, 1) := sorry
theorem dL_law_523 : decode cL_law 523 = .ok (.iconst 2, 1) := sorry
theorem dL_law_524 : decode cL_law 524 = .ok (.iadd, 1) := sorry
theorem dL_law_525 : decode cL_law 525 = .ok (.iaload, 1) := sorry
theorem dL_law_526 : decode cL_law 526 = .ok (.invokevirtual 60, 3) := sorry
theorem dL_law_529 : decode cL_law 529 = .ok (.aload_n 2, 1) := sorry
theorem dL_law_530 : decode cL_law 530 = .ok (.aload_n 0, 1) := sorry
theorem dL_law_531 : decode cL_law 531 = .ok (.iload_n 3, 1) := sorry
theorem dL_law_532 : decode cL_law 532 = .ok (.iconst 1, 1) := sorry
theorem dL_law_533 : decode cL_law 533 = .ok (.iadd, 1) := sorry
theorem dL_law_534 : decode cL_law 534 = .ok (.iaload, 1) := sorry
theorem dL_law_535 : decode cL_law 535 = .ok (.aload_n 0, 1) := sorry
theorem dL_law_536 : decode cL_law 536 = .ok (.iload_n 3, 1) := sorry
theorem dL_law_537 : decode cL_law 537 = .ok (.iconst 2, 1) := sorry
theorem dL_law_538 : decode cL_law 538 = .ok (.iadd, 1) := sorry
theorem dL_law_539 : decode cL_law 539 = .ok (.iaload, 1) := sorry
theorem dL_law_540 : decode cL_law 540 = .ok (.invokevirtual 63, 3) := sorry
theorem dL_law_543 : decode cL_law 543 = .ok (.if_icmp .eq 614, 3) := sorry
theorem dL_law_546 : decode cL_law 546 = .ok (.iconst 0, 1) := sorry
theorem dL_law_547 : decode cL_law 547 = .ok (.ireturn, 1) := sorry
theorem dL_law_548 : decode cL_law 548 = .ok (.aload_n 1, 1) := sorry
theorem dL_law_549 : decode cL_law 549 = .ok (.invokevirtual 64, 3) := sorry
theorem dL_law_552 : decode cL_law 552 = .ok (.aload_n 2, 1) := sorry
theorem dL_law_553 : decode cL_law 553 = .ok (.invokevirtual 68, 3) := sorry
theorem dL_law_556 : decode cL_law 556 = .ok (.if_icmp .eq 601, 3) := sorry
theorem dL_law_559 : decode cL_law 559 = .ok (.iconst 0, 1) := sorry
theorem dL_law_560 : decode cL_law 560 = .ok (.ireturn, 1) := sorry
theorem dL_law_561 : decode cL_law 561 = .ok (.aload_n 1, 1) := sorry
theorem dL_law_562 : decode cL_law 562 = .ok (.aload_n 0, 1) := sorry
theorem dL_law_563 : decode cL_law 563 = .ok (.iload_n 3, 1) := sorry
theorem dL_law_564 : decode cL_law 564 = .ok (.iconst 1, 1) := sorry
theorem dL_law_565 : decode cL_law 565 = .ok (.iadd, 1) := sorry
theorem dL_law_566 : decode cL_law 566 = .ok (.iaload, 1) := sorry
theorem dL_law_567 : decode cL_law 567 = .ok (.aload_n 0, 1) := sorry
theorem dL_law_568 : decode cL_law 568 = .ok (.iload_n 3, 1) := sorry
theorem dL_law_569 : decode cL_law 569 = .ok (.iconst 2, 1) := sorry
theorem dL_law_570 : decode cL_law 570 = .ok (.iadd, 1) := sorry
theorem dL_law_571 : decode cL_law 571 = .ok (.iaload, 1) := sorry
theorem dL_law_572 : decode cL_law 572 = .ok (.aload_n 0, 1) := sorry
theorem dL_law_573 : decode cL_law 573 = .ok (.iload_n 3, 1) := sorry
theorem dL_law_574 : decode cL_law 574 = .ok (.iconst 3, 1) := sorry
theorem dL_law_575 : decode cL_law 575 = .ok (.iadd, 1) := sorry
theorem dL_law_576 : decode cL_law 576 = .ok (.iaload, 1) := sorry
theorem dL_law_577 : decode cL_law 577 = .ok (.invokevirtual 69, 3) := sorry
theorem dL_law_580 : decode cL_law 580 = .ok (.aload_n 2, 1) := sorry
theorem dL_law_581 : decode cL_law 581 = .ok (.aload_n 0, 1) := sorry
theorem dL_law_582 : decode cL_law 582 = .ok (.iload_n 3, 1) := sorry
theorem dL_law_583 : decode cL_law 583 = .ok (.iconst 1, 1) := sorry
theorem dL_law_584 : decode cL_law 584 = .ok (.iadd, 1) := sorry
theorem dL_law_585 : decode cL_law 585 = .ok (.iaload, 1) := sorry
theorem dL_law_586 : decode cL_law 586 = .ok (.aload_n 0, 1) := sorry
theorem dL_law_587 : decode cL_law 587 = .ok (.iload_n 3, 1) := sorry
theorem dL_law_588 : decode cL_law 588 = .ok (.iconst 2, 1) := sorry
theorem dL_law_589 : decode cL_law 589 = .ok (.iadd, 1) := sorry
theorem dL_law_590 : decode cL_law 590 = .ok (.iaload, 1) := sorry
theorem dL_law_591 : decode cL_law 591 = .ok (.aload_n 0, 1) := sorry
theorem dL_law_592 : decode cL_law 592 = .ok (.iload_n 3, 1) := sorry
theorem dL_law_593 : decode cL_law 593 = .ok (.iconst 3, 1) := sorry
theorem dL_law_594 : decode cL_law 594 = .ok (.iadd, 1) := sorry
theorem dL_law_595 : decode cL_law 595 = .ok (.iaload, 1) := sorry
theorem dL_law_596 : decode cL_law 596 = .ok (.invokevirtual 72, 3) := sorry
theorem dL_law_599 : decode cL_law 599 = .ok (.if_icmp .eq 558, 3) := sorry
theorem dL_law_602 : decode cL_law 602 = .ok (.iconst 0, 1) := sorry
theorem dL_law_603 : decode cL_law 603 = .ok (.ireturn, 1) := sorry
theorem dL_law_604 : decode cL_law 604 = .ok (.aload_n 1, 1) := sorry
theorem dL_law_605 : decode cL_law 605 = .ok (.aload_n 0, 1) := sorry
theorem dL_law_606 : decode cL_law 606 = .ok (.iload_n 3, 1) := sorry
theorem dL_law_607 : decode cL_law 607 = .ok (.iconst 1, 1) := sorry
theorem dL_law_608 : decode cL_law 608 = .ok (.iadd, 1) := sorry
theorem dL_law_609 : decode cL_law 609 = .ok (.iaload, 1) := sorry
theorem dL_law_610 : decode cL_law 610 = .ok (.invokevirtual 73, 3) := sorry
theorem dL_law_613 : decode cL_law 613 = .ok (.aload_n 2, 1) := sorry
theorem dL_law_614 : decode cL_law 614 = .ok (.aload_n 0, 1) := sorry
theorem dL_law_615 : decode cL_law 615 = .ok (.iload_n 3, 1) := sorry
theorem dL_law_616 : decode cL_law 616 = .ok (.iconst 1, 1) := sorry
theorem dL_law_617 : decode cL_law 617 = .ok (.iadd, 1) := sorry
theorem dL_law_618 : decode cL_law 618 = .ok (.iaload, 1) := sorry
theorem dL_law_619 : decode cL_law 619 = .ok (.invokevirtual 76, 3) := sorry
theorem dL_law_622 : decode cL_law 622 = .ok (.if_icmp .eq 535, 3) := sorry
theorem dL_law_625 : decode cL_law 625 = .ok (.iconst 0, 1) := sorry
theorem dL_law_626 : decode cL_law 626 = .ok (.ireturn, 1) := sorry
theorem dL_law_627 : decode cL_law 627 = .ok (.aload_n 1, 1) := sorry
theorem dL_law_628 : decode cL_law 628 = .ok (.aload_n 0, 1) := sorry
theorem dL_law_629 : decode cL_law 629 = .ok (.iload_n 3, 1) := sorry
theorem dL_law_630 : decode cL_law 630 = .ok (.iconst 1, 1) := sorry
theorem dL_law_631 : decode cL_law 631 = .ok (.iadd, 1) := sorry
theorem dL_law_632 : decode cL_law 632 = .ok (.iaload, 1) := sorry
theorem dL_law_633 : decode cL_law 633 = .ok (.aload_n 0, 1) := sorry
theorem dL_law_634 : decode cL_law 634 = .ok (.iload_n 3, 1) := sorry
theorem dL_law_635 : decode cL_law 635 = .ok (.iconst 2, 1) := sorry
theorem dL_law_636 : decode cL_law 636 = .ok (.iadd, 1) := sorry
theorem dL_law_637 : decode cL_law 637 = .ok (.iaload, 1) := sorry
theorem dL_law_638 : decode cL_law 638 = .ok (.invokevirtual 77, 3) := sorry
theorem dL_law_641 : decode cL_law 641 = .ok (.aload_n 2, 1) := sorry
theorem dL_law_642 : decode cL_law 642 = .ok (.aload_n 0, 1) := sorry
theorem dL_law_643 : decode cL_law 643 = .ok (.iload_n 3, 1) := sorry
theorem dL_law_644 : decode cL_law 644 = .ok (.iconst 1, 1) := sorry
theorem dL_law_645 : decode cL_law 645 = .ok (.iadd, 1) := sorry
theorem dL_law_646 : decode cL_law 646 = .ok (.iaload, 1) := sorry
theorem dL_law_647 : decode cL_law 647 = .ok (.aload_n 0, 1) := sorry
theorem dL_law_648 : decode cL_law 648 = .ok (.iload_n 3, 1) := sorry
theorem dL_law_649 : decode cL_law 649 = .ok (.iconst 2, 1) := sorry
theorem dL_law_650 : decode cL_law 650 = .ok (.iadd, 1) := sorry
theorem dL_law_651 : decode cL_law 651 = .ok (.iaload, 1) := sorry
theorem dL_law_652 : decode cL_law 652 = .ok (.invokevirtual 80, 3) := sorry
theorem dL_law_655 : decode cL_law 655 = .ok (.if_icmp .eq 502, 3) := sorry
theorem dL_law_658 : decode cL_law 658 = .ok (.iconst 0, 1) := sorry
theorem dL_law_659 : decode cL_law 659 = .ok (.ireturn, 1) := sorry
theorem dL_law_660 : decode cL_law 660 = .ok (.aload_n 1, 1) := sorry
theorem dL_law_661 : decode cL_law 661 = .ok (.invokevirtual 81, 3) := sorry
theorem dL_law_664 : decode cL_law 664 = .ok (.aload_n 2, 1) := sorry
theorem dL_law_665 : decode cL_law 665 = .ok (.invokevirtual 84, 3) := sorry
theorem dL_law_668 : decode cL_law 668 = .ok (.if_icmp .eq 489, 3) := sorry
theorem dL_law_671 : decode cL_law 671 = .ok (.iconst 0, 1) := sorry
theorem dL_law_672 : decode cL_law 672 = .ok (.ireturn, 1) := sorry
theorem dL_law_673 : decode cL_law 673 = .ok (.aload_n 1, 1) := sorry
theorem dL_law_674 : decode cL_law 674 = .ok (.aload_n 0, 1) := sorry
theorem dL_law_675 : decode cL_law 675 = .ok (.iload_n 3, 1) := sorry
theorem dL_law_676 : decode cL_law 676 = .ok (.iconst 1, 1) := sorry
theorem dL_law_677 : decode cL_law 677 = .ok (.iadd, 1) := sorry
theorem dL_law_678 : decode cL_law 678 = .ok (.iaload, 1) := sorry
theorem dL_law_679 : decode cL_law 679 = .ok (.aload_n 0, 1) := sorry
theorem dL_law_680 : decode cL_law 680 = .ok (.iload_n 3, 1) := sorry
theorem dL_law_681 : decode cL_law 681 = .ok (.iconst 2, 1) := sorry
theorem dL_law_682 : decode cL_law 682 = .ok (.iadd, 1) := sorry
theorem dL_law_683 : decode cL_law 683 = .ok (.iaload, 1) := sorry
theorem dL_law_684 : decode cL_law 684 = .ok (.aload_n 0, 1) := sorry
theorem dL_law_685 : decode cL_law 685 = .ok (.iload_n 3, 1) := sorry
theorem dL_law_686 : decode cL_law 686 = .ok (.iconst 3, 1) := sorry
theorem dL_law_687 : decode cL_law 687 = .ok (.iadd, 1) := sorry
theorem dL_law_688 : decode cL_law 688 = .ok (.iaload, 1) := sorry
theorem dL_law_689 : decode cL_law 689 = .ok (.invokevirtual 85, 3) := sorry
theorem dL_law_692 : decode cL_law 692 = .ok (.aload_n 2, 1) := sorry
theorem dL_law_693 : decode cL_law 693 = .ok (.aload_n 0, 1) := sorry
theorem dL_law_694 : decode cL_law 694 = .ok (.iload_n 3, 1) := sorry
theorem dL_law_695 : decode cL_law 695 = .ok (.iconst 1, 1) := sorry
theorem dL_law_696 : decode cL_law 696 = .ok (.iadd, 1) := sorry
theorem dL_law_697 : decode cL_law 697 = .ok (.iaload, 1) := sorry
theorem dL_law_698 : decode cL_law 698 = .ok (.aload_n 0, 1) := sorry
theorem dL_law_699 : decode cL_law 699 = .ok (.iload_n 3, 1) := sorry
theorem dL_law_700 : decode cL_law 700 = .ok (.iconst 2, 1) := sorry
theorem dL_law_701 : decode cL_law 701 = .ok (.iadd, 1) := sorry
theorem dL_law_702 : decode cL_law 702 = .ok (.iaload, 1) := sorry
theorem dL_law_703 : decode cL_law 703 = .ok (.aload_n 0, 1) := sorry
theorem dL_law_704 : decode cL_law 704 = .ok (.iload_n 3, 1) := sorry
theorem dL_law_705 : decode cL_law 705 = .ok (.iconst 3, 1) := sorry
theorem dL_law_706 : decode cL_law 706 = .ok (.iadd, 1) := sorry
theorem dL_law_707 : decode cL_law 707 = .ok (.iaload, 1) := sorry
theorem dL_law_708 : decode cL_law 708 = .ok (.invokevirtual 88, 3) := sorry
theorem dL_law_711 : decode cL_law 711 = .ok (.if_icmp .eq 446, 3) := sorry
theorem dL_law_714 : decode cL_law 714 = .ok (.iconst 0, 1) := sorry
theorem dL_law_715 : decode cL_law 715 = .ok (.ireturn, 1) := sorry
theorem dL_law_716 : decode cL_law 716 = .ok (.aload_n 1, 1) := sorry
theorem dL_law_717 : decode cL_law 717 = .ok (.aload_n 0, 1) := sorry
theorem dL_law_718 : decode cL_law 718 = .ok (.iload_n 3, 1) := sorry
theorem dL_law_719 : decode cL_law 719 = .ok (.iconst 1, 1) := sorry
theorem dL_law_720 : decode cL_law 720 = .ok (.iadd, 1) := sorry
theorem dL_law_721 : decode cL_law 721 = .ok (.iaload, 1) := sorry
theorem dL_law_722 : decode cL_law 722 = .ok (.aload_n 0, 1) := sorry
theorem dL_law_723 : decode cL_law 723 = .ok (.iload_n 3, 1) := sorry
theorem dL_law_724 : decode cL_law 724 = .ok (.iconst 2, 1) := sorry
theorem dL_law_725 : decode cL_law 725 = .ok (.iadd, 1) := sorry
theorem dL_law_726 : decode cL_law 726 = .ok (.iaload, 1) := sorry
theorem dL_law_727 : decode cL_law 727 = .ok (.aload_n 0, 1) := sorry
theorem dL_law_728 : decode cL_law 728 = .ok (.iload_n 3, 1) := sorry
theorem dL_law_729 : decode cL_law 729 = .ok (.iconst 3, 1) := sorry
theorem dL_law_730 : decode cL_law 730 = .ok (.iadd, 1) := sorry
theorem dL_law_731 : decode cL_law 731 = .ok (.iaload, 1) := sorry
theorem dL_law_732 : decode cL_law 732 = .ok (.invokevirtual 89, 3) := sorry
theorem dL_law_735 : decode cL_law 735 = .ok (.aload_n 2, 1) := sorry
theorem dL_law_736 : decode cL_law 736 = .ok (.aload_n 0, 1) := sorry
theorem dL_law_737 : decode cL_law 737 = .ok (.iload_n 3, 1) := sorry
theorem dL_law_738 : decode cL_law 738 = .ok (.iconst 1, 1) := sorry
theorem dL_law_739 : decode cL_law 739 = .ok (.iadd, 1) := sorry
theorem dL_law_740 : decode cL_law 740 = .ok (.iaload, 1) := sorry
theorem dL_law_741 : decode cL_law 741 = .ok (.aload_n 0, 1) := sorry
theorem dL_law_742 : decode cL_law 742 = .ok (.iload_n 3, 1) := sorry
theorem dL_law_743 : decode cL_law 743 = .ok (.iconst 2, 1) := sorry
theorem dL_law_744 : decode cL_law 744 = .ok (.iadd, 1) := sorry
theorem dL_law_745 : decode cL_law 745 = .ok (.iaload, 1) := sorry
theorem dL_law_746 : decode cL_law 746 = .ok (.aload_n 0, 1) := sorry
theorem dL_law_747 : decode cL_law 747 = .ok (.iload_n 3, 1) := sorry
theorem dL_law_748 : decode cL_law 748 = .ok (.iconst 3, 1) := sorry
theorem dL_law_749 : decode cL_law 749 = .ok (.iadd, 1) := sorry
theorem dL_law_750 : decode cL_law 750 = .ok (.iaload, 1) := sorry
theorem dL_law_751 : decode cL_law 751 = .ok (.invokevirtual 92, 3) := sorry
theorem dL_law_754 : decode cL_law 754 = .ok (.if_icmp .eq 403, 3) := sorry
theorem dL_law_757 : decode cL_law 757 = .ok (.iconst 0, 1) := sorry
theorem dL_law_758 : decode cL_law 758 = .ok (.ireturn, 1) := sorry
theorem dL_law_759 : decode cL_law 759 = .ok (.aload_n 1, 1) := sorry
theorem dL_law_760 : decode cL_law 760 = .ok (.invokevirtual 93, 3) := sorry
theorem dL_law_763 : decode cL_law 763 = .ok (.aload_n 2, 1) := sorry
theorem dL_law_764 : decode cL_law 764 = .ok (.invokevirtual 96, 3) := sorry
theorem dL_law_767 : decode cL_law 767 = .ok (.if_icmp .eq 390, 3) := sorry
theorem dL_law_770 : decode cL_law 770 = .ok (.iconst 0, 1) := sorry
theorem dL_law_771 : decode cL_law 771 = .ok (.ireturn, 1) := sorry
theorem dL_law_772 : decode cL_law 772 = .ok (.aload_n 1, 1) := sorry
theorem dL_law_773 : decode cL_law 773 = .ok (.invokevirtual 97, 3) := sorry
theorem dL_law_776 : decode cL_law 776 = .ok (.aload_n 2, 1) := sorry
theorem dL_law_777 : decode cL_law 777 = .ok (.invokevirtual 100, 3) := sorry
theorem dL_law_780 : decode cL_law 780 = .ok (.if_icmp .eq 377, 3) := sorry
theorem dL_law_783 : decode cL_law 783 = .ok (.iconst 0, 1) := sorry
theorem dL_law_784 : decode cL_law 784 = .ok (.ireturn, 1) := sorry
theorem dL_law_785 : decode cL_law 785 = .ok (.aload_n 1, 1) := sorry
theorem dL_law_786 : decode cL_law 786 = .ok (.aload_n 0, 1) := sorry
theorem dL_law_787 : decode cL_law 787 = .ok (.iload_n 3, 1) := sorry
theorem dL_law_788 : decode cL_law 788 = .ok (.iconst 1, 1) := sorry
theorem dL_law_789 : decode cL_law 789 = .ok (.iadd, 1) := sorry
theorem dL_law_790 : decode cL_law 790 = .ok (.iaload, 1) := sorry
theorem dL_law_791 : decode cL_law 791 = .ok (.invokevirtual 101, 3) := sorry
theorem dL_law_794 : decode cL_law 794 = .ok (.aload_n 2, 1) := sorry
theorem dL_law_795 : decode cL_law 795 = .ok (.aload_n 0, 1) := sorry
theorem dL_law_796 : decode cL_law 796 = .ok (.iload_n 3, 1) := sorry
theorem dL_law_797 : decode cL_law 797 = .ok (.iconst 1, 1) := sorry
theorem dL_law_798 : decode cL_law 798 = .ok (.iadd, 1) := sorry
theorem dL_law_799 : decode cL_law 799 = .ok (.iaload, 1) := sorry
theorem dL_law_800 : decode cL_law 800 = .ok (.invokevirtual 104, 3) := sorry
theorem dL_law_803 : decode cL_law 803 = .ok (.if_icmp .eq 354, 3) := sorry
theorem dL_law_806 : decode cL_law 806 = .ok (.iconst 0, 1) := sorry
theorem dL_law_807 : decode cL_law 807 = .ok (.ireturn, 1) := sorry
theorem dL_law_808 : decode cL_law 808 = .ok (.aload_n 1, 1) := sorry
theorem dL_law_809 : decode cL_law 809 = .ok (.aload_n 0, 1) := sorry
theorem dL_law_810 : decode cL_law 810 = .ok (.iload_n 3, 1) := sorry
theorem dL_law_811 : decode cL_law 811 = .ok (.iconst 1, 1) := sorry
theorem dL_law_812 : decode cL_law 812 = .ok (.iadd, 1) := sorry
theorem dL_law_813 : decode cL_law 813 = .ok (.iaload, 1) := sorry
theorem dL_law_814 : decode cL_law 814 = .ok (.aload_n 0, 1) := sorry
theorem dL_law_815 : decode cL_law 815 = .ok (.iload_n 3, 1) := sorry
theorem dL_law_816 : decode cL_law 816 = .ok (.iconst 2, 1) := sorry
theorem dL_law_817 : decode cL_law 817 = .ok (.iadd, 1) := sorry
theorem dL_law_818 : decode cL_law 818 = .ok (.iaload, 1) := sorry
theorem dL_law_819 : decode cL_law 819 = .ok (.aload_n 0, 1) := sorry
theorem dL_law_820 : decode cL_law 820 = .ok (.iload_n 3, 1) := sorry
theorem dL_law_821 : decode cL_law 821 = .ok (.iconst 3, 1) := sorry
theorem dL_law_822 : decode cL_law 822 = .ok (.iadd, 1) := sorry
theorem dL_law_823 : decode cL_law 823 = .ok (.iaload, 1) := sorry
theorem dL_law_824 : decode cL_law 824 = .ok (.aload_n 0, 1) := sorry
theorem dL_law_825 : decode cL_law 825 = .ok (.iload_n 3, 1) := sorry
theorem dL_law_826 : decode cL_law 826 = .ok (.iconst 4, 1) := sorry
theorem dL_law_827 : decode cL_law 827 = .ok (.iadd, 1) := sorry
theorem dL_law_828 : decode cL_law 828 = .ok (.iaload, 1) := sorry
theorem dL_law_829 : decode cL_law 829 = .ok (.invokevirtual 105, 3) := sorry
theorem dL_law_832 : decode cL_law 832 = .ok (.aload_n 2, 1) := sorry
theorem dL_law_833 : decode cL_law 833 = .ok (.aload_n 0, 1) := sorry
theorem dL_law_834 : decode cL_law 834 = .ok (.iload_n 3, 1) := sorry
theorem dL_law_835 : decode cL_law 835 = .ok (.iconst 1, 1) := sorry
theorem dL_law_836 : decode cL_law 836 = .ok (.iadd, 1) := sorry
theorem dL_law_837 : decode cL_law 837 = .ok (.iaload, 1) := sorry
theorem dL_law_838 : decode cL_law 838 = .ok (.aload_n 0, 1) := sorry
theorem dL_law_839 : decode cL_law 839 = .ok (.iload_n 3, 1) := sorry
theorem dL_law_840 : decode cL_law 840 = .ok (.iconst 2, 1) := sorry
theorem dL_law_841 : decode cL_law 841 = .ok (.iadd, 1) := sorry
theorem dL_law_842 : decode cL_law 842 = .ok (.iaload, 1) := sorry
theorem dL_law_843 : decode cL_law 843 = .ok (.aload_n 0, 1) := sorry
theorem dL_law_844 : decode cL_law 844 = .ok (.iload_n 3, 1) := sorry
theorem dL_law_845 : decode cL_law 845 = .ok (.iconst 3, 1) := sorry
theorem dL_law_846 : decode cL_law 846 = .ok (.iadd, 1) := sorry
theorem dL_law_847 : decode cL_law 847 = .ok (.iaload, 1) := sorry
theorem dL_law_848 : decode cL_law 848 = .ok (.aload_n 0, 1) := sorry
theorem dL_law_849 : decode cL_law 849 = .ok (.iload_n 3, 1) := sorry
theorem dL_law_850 : decode cL_law 850 = .ok (.iconst 4, 1) := sorry
theorem dL_law_851 : decode cL_law 851 = .ok (.iadd, 1) := sorry
theorem dL_law_852 : decode cL_law 852 = .ok (.iaload, 1) := sorry
theorem dL_law_853 : decode cL_law 853 = .ok (.invokevirtual 109, 3) := sorry
theorem dL_law_856 : decode cL_law 856 = .ok (.lcmp, 1) := sorry
theorem dL_law_857 : decode cL_law 857 = .ok (.ifCond .eq 300, 3) := sorry
theorem dL_law_860 : decode cL_law 860 = .ok (.iconst 0, 1) := sorry
theorem dL_law_861 : decode cL_law 861 = .ok (.ireturn, 1) := sorry
theorem dL_law_862 : decode cL_law 862 = .ok (.aload_n 1, 1) := sorry
theorem dL_law_863 : decode cL_law 863 = .ok (.aload_n 0, 1) := sorry
theorem dL_law_864 : decode cL_law 864 = .ok (.iload_n 3, 1) := sorry
theorem dL_law_865 : decode cL_law 865 = .ok (.iconst 1, 1) := sorry
theorem dL_law_866 : decode cL_law 866 = .ok (.iadd, 1) := sorry
theorem dL_law_867 : decode cL_law 867 = .ok (.iaload, 1) := sorry
theorem dL_law_868 : decode cL_law 868 = .ok (.aload_n 0, 1) := sorry
theorem dL_law_869 : decode cL_law 869 = .ok (.iload_n 3, 1) := sorry
theorem dL_law_870 : decode cL_law 870 = .ok (.iconst 2, 1) := sorry
theorem dL_law_871 : decode cL_law 871 = .ok (.iadd, 1) := sorry
theorem dL_law_872 : decode cL_law 872 = .ok (.iaload, 1) := sorry
theorem dL_law_873 : decode cL_law 873 = .ok (.aload_n 0, 1) := sorry
theorem dL_law_874 : decode cL_law 874 = .ok (.iload_n 3, 1) := sorry
theorem dL_law_875 : decode cL_law 875 = .ok (.iconst 3, 1) := sorry
theorem dL_law_876 : decode cL_law 876 = .ok (.iadd, 1) := sorry
theorem dL_law_877 : decode cL_law 877 = .ok (.iaload, 1) := sorry
theorem dL_law_878 : decode cL_law 878 = .ok (.invokevirtual 110, 3) := sorry
theorem dL_law_881 : decode cL_law 881 = .ok (.aload_n 2, 1) := sorry
theorem dL_law_882 : decode cL_law 882 = .ok (.aload_n 0, 1) := sorry
theorem dL_law_883 : decode cL_law 883 = .ok (.iload_n 3, 1) := sorry
theorem dL_law_884 : decode cL_law 884 = .ok (.iconst 1, 1) := sorry
theorem dL_law_885 : decode cL_law 885 = .ok (.iadd, 1) := sorry
theorem dL_law_886 : decode cL_law 886 = .ok (.iaload, 1) := sorry
theorem dL_law_887 : decode cL_law 887 = .ok (.aload_n 0, 1) := sorry
theorem dL_law_888 : decode cL_law 888 = .ok (.iload_n 3, 1) := sorry
theorem dL_law_889 : decode cL_law 889 = .ok (.iconst 2, 1) := sorry
theorem dL_law_890 : decode cL_law 890 = .ok (.iadd, 1) := sorry
theorem dL_law_891 : decode cL_law 891 = .ok (.iaload, 1) := sorry
theorem dL_law_892 : decode cL_law 892 = .ok (.aload_n 0, 1) := sorry
theorem dL_law_893 : decode cL_law 893 = .ok (.iload_n 3, 1) := sorry
theorem dL_law_894 : decode cL_law 894 = .ok (.iconst 3, 1) := sorry
theorem dL_law_895 : decode cL_law 895 = .ok (.iadd, 1) := sorry
theorem dL_law_896 : decode cL_law 896 = .ok (.iaload, 1) := sorry
theorem dL_law_897 : decode cL_law 897 = .ok (.invokevirtual 113, 3) := sorry
theorem dL_law_900 : decode cL_law 900 = .ok (.if_icmp .eq 257, 3) := sorry
theorem dL_law_903 : decode cL_law 903 = .ok (.iconst 0, 1) := sorry
theorem dL_law_904 : decode cL_law 904 = .ok (.ireturn, 1) := sorry
theorem dL_law_905 : decode cL_law 905 = .ok (.aload_n 1, 1) := sorry
theorem dL_law_906 : decode cL_law 906 = .ok (.aload_n 0, 1) := sorry
theorem dL_law_907 : decode cL_law 907 = .ok (.iload_n 3, 1) := sorry
theorem dL_law_908 : decode cL_law 908 = .ok (.iconst 1, 1) := sorry
theorem dL_law_909 : decode cL_law 909 = .ok (.iadd, 1) := sorry
theorem dL_law_910 : decode cL_law 910 = .ok (.iaload, 1) := sorry
theorem dL_law_911 : decode cL_law 911 = .ok (.invokevirtual 114, 3) := sorry
theorem dL_law_914 : decode cL_law 914 = .ok (.aload_n 2, 1) := sorry
theorem dL_law_915 : decode cL_law 915 = .ok (.aload_n 0, 1) := sorry
theorem dL_law_916 : decode cL_law 916 = .ok (.iload_n 3, 1) := sorry
theorem dL_law_917 : decode cL_law 917 = .ok (.iconst 1, 1) := sorry
theorem dL_law_918 : decode cL_law 918 = .ok (.iadd, 1) := sorry
theorem dL_law_919 : decode cL_law 919 = .ok (.iaload, 1) := sorry
theorem dL_law_920 : decode cL_law 920 = .ok (.invokevirtual 117, 3) := sorry
theorem dL_law_923 : decode cL_law 923 = .ok (.if_icmp .eq 234, 3) := sorry
theorem dL_law_926 : decode cL_law 926 = .ok (.iconst 0, 1) := sorry
theorem dL_law_927 : decode cL_law 927 = .ok (.ireturn, 1) := sorry
theorem dL_law_928 : decode cL_law 928 = .ok (.aload_n 1, 1) := sorry
theorem dL_law_929 : decode cL_law 929 = .ok (.aload_n 0, 1) := sorry
theorem dL_law_930 : decode cL_law 930 = .ok (.iload_n 3, 1) := sorry
theorem dL_law_931 : decode cL_law 931 = .ok (.iconst 1, 1) := sorry
theorem dL_law_932 : decode cL_law 932 = .ok (.iadd, 1) := sorry
theorem dL_law_933 : decode cL_law 933 = .ok (.iaload, 1) := sorry
theorem dL_law_934 : decode cL_law 934 = .ok (.aload_n 0, 1) := sorry
theorem dL_law_935 : decode cL_law 935 = .ok (.iload_n 3, 1) := sorry
theorem dL_law_936 : decode cL_law 936 = .ok (.iconst 2, 1) := sorry
theorem dL_law_937 : decode cL_law 937 = .ok (.iadd, 1) := sorry
theorem dL_law_938 : decode cL_law 938 = .ok (.iaload, 1) := sorry
theorem dL_law_939 : decode cL_law 939 = .ok (.aload_n 0, 1) := sorry
theorem dL_law_940 : decode cL_law 940 = .ok (.iload_n 3, 1) := sorry
theorem dL_law_941 : decode cL_law 941 = .ok (.iconst 3, 1) := sorry
theorem dL_law_942 : decode cL_law 942 = .ok (.iadd, 1) := sorry
theorem dL_law_943 : decode cL_law 943 = .ok (.iaload, 1) := sorry
theorem dL_law_944 : decode cL_law 944 = .ok (.aload_n 0, 1) := sorry
theorem dL_law_945 : decode cL_law 945 = .ok (.iload_n 3, 1) := sorry
theorem dL_law_946 : decode cL_law 946 = .ok (.iconst 4, 1) := sorry
theorem dL_law_947 : decode cL_law 947 = .ok (.iadd, 1) := sorry
theorem dL_law_948 : decode cL_law 948 = .ok (.iaload, 1) := sorry
theorem dL_law_949 : decode cL_law 949 = .ok (.invokevirtual 118, 3) := sorry
theorem dL_law_952 : decode cL_law 952 = .ok (.aload_n 2, 1) := sorry
theorem dL_law_953 : decode cL_law 953 = .ok (.aload_n 0, 1) := sorry
theorem dL_law_954 : decode cL_law 954 = .ok (.iload_n 3, 1) := sorry
theorem dL_law_955 : decode cL_law 955 = .ok (.iconst 1, 1) := sorry
theorem dL_law_956 : decode cL_law 956 = .ok (.iadd, 1) := sorry
theorem dL_law_957 : decode cL_law 957 = .ok (.iaload, 1) := sorry
theorem dL_law_958 : decode cL_law 958 = .ok (.aload_n 0, 1) := sorry
theorem dL_law_959 : decode cL_law 959 = .ok (.iload_n 3, 1) := sorry
theorem dL_law_960 : decode cL_law 960 = .ok (.iconst 2, 1) := sorry
theorem dL_law_961 : decode cL_law 961 = .ok (.iadd, 1) := sorry
theorem dL_law_962 : decode cL_law 962 = .ok (.iaload, 1) := sorry
theorem dL_law_963 : decode cL_law 963 = .ok (.aload_n 0, 1) := sorry
theorem dL_law_964 : decode cL_law 964 = .ok (.iload_n 3, 1) := sorry
theorem dL_law_965 : decode cL_law 965 = .ok (.iconst 3, 1) := sorry
theorem dL_law_966 : decode cL_law 966 = .ok (.iadd, 1) := sorry
theorem dL_law_967 : decode cL_law 967 = .ok (.iaload, 1) := sorry
theorem dL_law_968 : decode cL_law 968 = .ok (.aload_n 0, 1) := sorry
theorem dL_law_969 : decode cL_law 969 = .ok (.iload_n 3, 1) := sorry
theorem dL_law_970 : decode cL_law 970 = .ok (.iconst 4, 1) := sorry
theorem dL_law_971 : decode cL_law 971 = .ok (.iadd, 1) := sorry
theorem dL_law_972 : decode cL_law 972 = .ok (.iaload, 1) := sorry
theorem dL_law_973 : decode cL_law 973 = .ok (.invokevirtual 122, 3) := sorry
theorem dL_law_976 : decode cL_law 976 = .ok (.if_icmp .eq 181, 3) := sorry
theorem dL_law_979 : decode cL_law 979 = .ok (.iconst 0, 1) := sorry
theorem dL_law_980 : decode cL_law 980 = .ok (.ireturn, 1) := sorry
theorem dL_law_981 : decode cL_law 981 = .ok (.aload_n 1, 1) := sorry
theorem dL_law_982 : decode cL_law 982 = .ok (.aload_n 0, 1) := sorry
theorem dL_law_983 : decode cL_law 983 = .ok (.iload_n 3, 1) := sorry
theorem dL_law_984 : decode cL_law 984 = .ok (.iconst 1, 1) := sorry
theorem dL_law_985 : decode cL_law 985 = .ok (.iadd, 1) := sorry
theorem dL_law_986 : decode cL_law 986 = .ok (.iaload, 1) := sorry
theorem dL_law_987 : decode cL_law 987 = .ok (.aload_n 0, 1) := sorry
theorem dL_law_988 : decode cL_law 988 = .ok (.iload_n 3, 1) := sorry
theorem dL_law_989 : decode cL_law 989 = .ok (.iconst 2, 1) := sorry
theorem dL_law_990 : decode cL_law 990 = .ok (.iadd, 1) := sorry
theorem dL_law_991 : decode cL_law 991 = .ok (.iaload, 1) := sorry
theorem dL_law_992 : decode cL_law 992 = .ok (.aload_n 0, 1) := sorry
theorem dL_law_993 : decode cL_law 993 = .ok (.iload_n 3, 1) := sorry
theorem dL_law_994 : decode cL_law 994 = .ok (.iconst 3, 1) := sorry
theorem dL_law_995 : decode cL_law 995 = .ok (.iadd, 1) := sorry
theorem dL_law_996 : decode cL_law 996 = .ok (.iaload, 1) := sorry
theorem dL_law_997 : decode cL_law 997 = .ok (.invokevirtual 123, 3) := sorry
theorem dL_law_1000 : decode cL_law 1000 = .ok (.aload_n 2, 1) := sorry
theorem dL_law_1001 : decode cL_law 1001 = .ok (.aload_n 0, 1) := sorry
theorem dL_law_1002 : decode cL_law 1002 = .ok (.iload_n 3, 1) := sorry
theorem dL_law_1003 : decode cL_law 1003 = .ok (.iconst 1, 1) := sorry
theorem dL_law_1004 : decode cL_law 1004 = .ok (.iadd, 1) := sorry
theorem dL_law_1005 : decode cL_law 1005 = .ok (.iaload, 1) := sorry
theorem dL_law_1006 : decode cL_law 1006 = .ok (.aload_n 0, 1) := sorry
theorem dL_law_1007 : decode cL_law 1007 = .ok (.iload_n 3, 1) := sorry
theorem dL_law_1008 : decode cL_law 1008 = .ok (.iconst 2, 1) := sorry
theorem dL_law_1009 : decode cL_law 1009 = .ok (.iadd, 1) := sorry
theorem dL_law_1010 : decode cL_law 1010 = .ok (.iaload, 1) := sorry
theorem dL_law_1011 : decode cL_law 1011 = .ok (.aload_n 0, 1) := sorry
theorem dL_law_1012 : decode cL_law 1012 = .ok (.iload_n 3, 1) := sorry
theorem dL_law_1013 : decode cL_law 1013 = .ok (.iconst 3, 1) := sorry
theorem dL_law_1014 : decode cL_law 1014 = .ok (.iadd, 1) := sorry
theorem dL_law_1015 : decode cL_law 1015 = .ok (.iaload, 1) := sorry
theorem dL_law_1016 : decode cL_law 1016 = .ok (.invokevirtual 126, 3) := sorry
theorem dL_law_1019 : decode cL_law 1019 = .ok (.if_icmp .eq 138, 3) := sorry
theorem dL_law_1022 : decode cL_law 1022 = .ok (.iconst 0, 1) := sorry
theorem dL_law_1023 : decode cL_law 1023 = .ok (.ireturn, 1) := sorry
theorem dL_law_1024 : decode cL_law 1024 = .ok (.aload_n 1, 1) := sorry
theorem dL_law_1025 : decode cL_law 1025 = .ok (.aload_n 0, 1) := sorry
theorem dL_law_1026 : decode cL_law 1026 = .ok (.iload_n 3, 1) := sorry
theorem dL_law_1027 : decode cL_law 1027 = .ok (.iconst 1, 1) := sorry
theorem dL_law_1028 : decode cL_law 1028 = .ok (.iadd, 1) := sorry
theorem dL_law_1029 : decode cL_law 1029 = .ok (.iaload, 1) := sorry
theorem dL_law_1030 : decode cL_law 1030 = .ok (.aload_n 0, 1) := sorry
theorem dL_law_1031 : decode cL_law 1031 = .ok (.iload_n 3, 1) := sorry
theorem dL_law_1032 : decode cL_law 1032 = .ok (.iconst 2, 1) := sorry
theorem dL_law_1033 : decode cL_law 1033 = .ok (.iadd, 1) := sorry
theorem dL_law_1034 : decode cL_law 1034 = .ok (.iaload, 1) := sorry
theorem dL_law_1035 : decode cL_law 1035 = .ok (.aload_n 0, 1) := sorry
theorem dL_law_1036 : decode cL_law 1036 = .ok (.iload_n 3, 1) := sorry
theorem dL_law_1037 : decode cL_law 1037 = .ok (.iconst 3, 1) := sorry
theorem dL_law_1038 : decode cL_law 1038 = .ok (.iadd, 1) := sorry
theorem dL_law_1039 : decode cL_law 1039 = .ok (.iaload, 1) := sorry
theorem dL_law_1040 : decode cL_law 1040 = .ok (.aload_n 0, 1) := sorry
theorem dL_law_1041 : decode cL_law 1041 = .ok (.iload_n 3, 1) := sorry
theorem dL_law_1042 : decode cL_law 1042 = .ok (.iconst 4, 1) := sorry
theorem dL_law_1043 : decode cL_law 1043 = .ok (.iadd, 1) := sorry
theorem dL_law_1044 : decode cL_law 1044 = .ok (.iaload, 1) := sorry
theorem dL_law_1045 : decode cL_law 1045 = .ok (.aload_n 0, 1) := sorry
theorem dL_law_1046 : decode cL_law 1046 = .ok (.iload_n 3, 1) := sorry
theorem dL_law_1047 : decode cL_law 1047 = .ok (.iconst 5, 1) := sorry
theorem dL_law_1048 : decode cL_law 1048 = .ok (.iadd, 1) := sorry
theorem dL_law_1049 : decode cL_law 1049 = .ok (.iaload, 1) := sorry
theorem dL_law_1050 : decode cL_law 1050 = .ok (.invokevirtual 127, 3) := sorry
theorem dL_law_1053 : decode cL_law 1053 = .ok (.aload_n 2, 1) := sorry
theorem dL_law_1054 : decode cL_law 1054 = .ok (.aload_n 0, 1) := sorry
theorem dL_law_1055 : decode cL_law 1055 = .ok (.iload_n 3, 1) := sorry
theorem dL_law_1056 : decode cL_law 1056 = .ok (.iconst 1, 1) := sorry
theorem dL_law_1057 : decode cL_law 1057 = .ok (.iadd, 1) := sorry
theorem dL_law_1058 : decode cL_law 1058 = .ok (.iaload, 1) := sorry
theorem dL_law_1059 : decode cL_law 1059 = .ok (.aload_n 0, 1) := sorry
theorem dL_law_1060 : decode cL_law 1060 = .ok (.iload_n 3, 1) := sorry
theorem dL_law_1061 : decode cL_law 1061 = .ok (.iconst 2, 1) := sorry
theorem dL_law_1062 : decode cL_law 1062 = .ok (.iadd, 1) := sorry
theorem dL_law_1063 : decode cL_law 1063 = .ok (.iaload, 1) := sorry
theorem dL_law_1064 : decode cL_law 1064 = .ok (.aload_n 0, 1) := sorry
theorem dL_law_1065 : decode cL_law 1065 = .ok (.iload_n 3, 1) := sorry
theorem dL_law_1066 : decode cL_law 1066 = .ok (.iconst 3, 1) := sorry
theorem dL_law_1067 : decode cL_law 1067 = .ok (.iadd, 1) := sorry
theorem dL_law_1068 : decode cL_law 1068 = .ok (.iaload, 1) := sorry
theorem dL_law_1069 : decode cL_law 1069 = .ok (.aload_n 0, 1) := sorry
theorem dL_law_1070 : decode cL_law 1070 = .ok (.iload_n 3, 1) := sorry
theorem dL_law_1071 : decode cL_law 1071 = .ok (.iconst 4, 1) := sorry
theorem dL_law_1072 : decode cL_law 1072 = .ok (.iadd, 1) := sorry
theorem dL_law_1073 : decode cL_law 1073 = .ok (.iaload, 1) := sorry
theorem dL_law_1074 : decode cL_law 1074 = .ok (.aload_n 0, 1) := sorry
theorem dL_law_1075 : decode cL_law 1075 = .ok (.iload_n 3, 1) := sorry
theorem dL_law_1076 : decode cL_law 1076 = .ok (.iconst 5, 1) := sorry
theorem dL_law_1077 : decode cL_law 1077 = .ok (.iadd, 1) := sorry
theorem dL_law_1078 : decode cL_law 1078 = .ok (.iaload, 1) := sorry
theorem dL_law_1079 : decode cL_law 1079 = .ok (.invokevirtual 131, 3) := sorry
theorem dL_law_1082 : decode cL_law 1082 = .ok (.if_icmp .eq 75, 3) := sorry
theorem dL_law_1085 : decode cL_law 1085 = .ok (.iconst 0, 1) := sorry
theorem dL_law_1086 : decode cL_law 1086 = .ok (.ireturn, 1) := sorry
theorem dL_law_1087 : decode cL_law 1087 = .ok (.aload_n 1, 1) := sorry
theorem dL_law_1088 : decode cL_law 1088 = .ok (.aload_n 0, 1) := sorry
theorem dL_law_1089 : decode cL_law 1089 = .ok (.iload_n 3, 1) := sorry
theorem dL_law_1090 : decode cL_law 1090 = .ok (.iconst 1, 1) := sorry
theorem dL_law_1091 : decode cL_law 1091 = .ok (.iadd, 1) := sorry
theorem dL_law_1092 : decode cL_law 1092 = .ok (.iaload, 1) := sorry
theorem dL_law_1093 : decode cL_law 1093 = .ok (.aload_n 0, 1) := sorry
theorem dL_law_1094 : decode cL_law 1094 = .ok (.iload_n 3, 1) := sorry
theorem dL_law_1095 : decode cL_law 1095 = .ok (.iconst 2, 1) := sorry
theorem dL_law_1096 : decode cL_law 1096 = .ok (.iadd, 1) := sorry
theorem dL_law_1097 : decode cL_law 1097 = .ok (.iaload, 1) := sorry
theorem dL_law_1098 : decode cL_law 1098 = .ok (.invokevirtual 132, 3) := sorry
theorem dL_law_1101 : decode cL_law 1101 = .ok (.aload_n 2, 1) := sorry
theorem dL_law_1102 : decode cL_law 1102 = .ok (.aload_n 0, 1) := sorry
theorem dL_law_1103 : decode cL_law 1103 = .ok (.iload_n 3, 1) := sorry
theorem dL_law_1104 : decode cL_law 1104 = .ok (.iconst 1, 1) := sorry
theorem dL_law_1105 : decode cL_law 1105 = .ok (.iadd, 1) := sorry
theorem dL_law_1106 : decode cL_law 1106 = .ok (.iaload, 1) := sorry
theorem dL_law_1107 : decode cL_law 1107 = .ok (.aload_n 0, 1) := sorry
theorem dL_law_1108 : decode cL_law 1108 = .ok (.iload_n 3, 1) := sorry
theorem dL_law_1109 : decode cL_law 1109 = .ok (.iconst 2, 1) := sorry
theorem dL_law_1110 : decode cL_law 1110 = .ok (.iadd, 1) := sorry
theorem dL_law_1111 : decode cL_law 1111 = .ok (.iaload, 1) := sorry
theorem dL_law_1112 : decode cL_law 1112 = .ok (.invokevirtual 135, 3) := sorry
theorem dL_law_1115 : decode cL_law 1115 = .ok (.if_icmp .eq 42, 3) := sorry
theorem dL_law_1118 : decode cL_law 1118 = .ok (.iconst 0, 1) := sorry
theorem dL_law_1119 : decode cL_law 1119 = .ok (.ireturn, 1) := sorry
theorem dL_law_1120 : decode cL_law 1120 = .ok (.aload_n 1, 1) := sorry
theorem dL_law_1121 : decode cL_law 1121 = .ok (.aload_n 0, 1) := sorry
theorem dL_law_1122 : decode cL_law 1122 = .ok (.iload_n 3, 1) := sorry
theorem dL_law_1123 : decode cL_law 1123 = .ok (.iconst 1, 1) := sorry
theorem dL_law_1124 : decode cL_law 1124 = .ok (.iadd, 1) := sorry
theorem dL_law_1125 : decode cL_law 1125 = .ok (.iaload, 1) := sorry
theorem dL_law_1126 : decode cL_law 1126 = .ok (.invokevirtual 136, 3) := sorry
theorem dL_law_1129 : decode cL_law 1129 = .ok (.aload_n 2, 1) := sorry
theorem dL_law_1130 : decode cL_law 1130 = .ok (.aload_n 0, 1) := sorry
theorem dL_law_1131 : decode cL_law 1131 = .ok (.iload_n 3, 1) := sorry
theorem dL_law_1132 : decode cL_law 1132 = .ok (.iconst 1, 1) := sorry
theorem dL_law_1133 : decode cL_law 1133 = .ok (.iadd, 1) := sorry
theorem dL_law_1134 : decode cL_law 1134 = .ok (.iaload, 1) := sorry
theorem dL_law_1135 : decode cL_law 1135 = .ok (.invokevirtual 139, 3) := sorry
theorem dL_law_1138 : decode cL_law 1138 = .ok (.if_icmp .eq 19, 3) := sorry
theorem dL_law_1141 : decode cL_law 1141 = .ok (.iconst 0, 1) := sorry
theorem dL_law_1142 : decode cL_law 1142 = .ok (.ireturn, 1) := sorry
theorem dL_law_1143 : decode cL_law 1143 = .ok (.aload_n 1, 1) := sorry
theorem dL_law_1144 : decode cL_law 1144 = .ok (.invokevirtual 140, 3) := sorry
theorem dL_law_1147 : decode cL_law 1147 = .ok (.aload_n 2, 1) := sorry
theorem dL_law_1148 : decode cL_law 1148 = .ok (.invokevirtual 144, 3) := sorry
theorem dL_law_1151 : decode cL_law 1151 = .ok (.lcmp, 1) := sorry
theorem dL_law_1152 : decode cL_law 1152 = .ok (.ifCond .eq 5, 3) := sorry
theorem dL_law_1155 : decode cL_law 1155 = .ok (.iconst 0, 1) := sorry
theorem dL_law_1156 : decode cL_law 1156 = .ok (.ireturn, 1) := sorry
theorem dL_law_1157 : decode cL_law 1157 = .ok (.iinc 3 6, 3) := sorry
theorem dL_law_1160 : decode cL_law 1160 = .ok (.goto (-1142), 3) := sorry
theorem dL_law_1163 : decode cL_law 1163 = .ok (.iconst 1, 1) := sorry
theorem dL_law_1164 : decode cL_law 1164 = .ok (.ireturn, 1) := sorry
