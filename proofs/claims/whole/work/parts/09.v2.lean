section LC1
variable {p : Program} {l : Launch} {e : Env} {s : State} {m : MethodId} {b : Nat} {below : List Frame} {meth : Method} {c : Code} {C0 S0 : Nat} {Q : State → Prop} {D : va_G} {cI cT cS cZ : ClassId} {ax ay : Nat → Nat} {t1 t2 L N k : Nat} {xs : Nat → Int32} {hx hy : mm_M}
set_option maxHeartbeats 4000000 in
set_option maxRecDepth 100000 in
/-- case 0: type -/
theorem lc_0 (hN : 20000000000 ≤ N) (X : mm_X p s m #[Value.ref b] c cL_law RL wsL_law 4 D (l_ty cI cT cS cZ) t1 t2 (l_A s)) (hX : va_X b L xs s s.heap) (hbl : b < s.heap.size) (hL : L ≤ 3072) (hk : k + 6 ≤ L) (hf : C0 ≤ room_1.cells ∧ S0 ≤ room_1.slots) (R0 : q_R hx hy) (IH : ∀ hx hy, q_R hx hy → l_J p l e s m b below meth c C0 S0 Q D cI cT cS cZ ax ay (hx, hy) 1157 (nI k)) : l_J p l e s m b below meth c C0 S0 Q D cI cT cS cZ ax ay (hx, hy) 172 (nI k) := by
  have hbA : ¬ l_A s b := Nat.not_le.mpr hbl
  obtain ⟨hx1, hy1, r, ex, ey, R1⟩ := j_type (N := N) (by omega) R0 (xs (nI (k + 1)).toNatClampNeg) (xs (nI (k + 2)).toNatClampNeg)
  refine mj_aload_n X dL_law_172 1 rfl ?_
  refine mj_aload_n X dL_law_173 0 rfl ?_
  refine mj_iload_n X dL_law_174 3 rfl ?_
  refine mj_iconst (v := (1 : Int32)) X dL_law_175 (by decide) ?_
  refine mj_iadd X dL_law_176 ?_
  refine mj_topi (l_add 1 k) ?_
  refine lj_sld X hX hbl hbA (vp_in_nI (n := k + 1) (N := L) (by omega) (by omega)) dL_law_177 ?_
  refine mj_aload_n X dL_law_178 0 rfl ?_
  refine mj_iload_n X dL_law_179 3 rfl ?_
  refine mj_iconst (v := (2 : Int32)) X dL_law_180 (by decide) ?_
  refine mj_iadd X dL_law_181 ?_
  refine mj_topi (l_add 2 k) ?_
  refine lj_sld X hX hbl hbA (vp_in_nI (n := k + 2) (N := L) (by omega) (by omega)) dL_law_182 ?_
  refine lj_li (wl := mx_w cI cT cS ax) (wr := my_w cI cZ ay) (As := [.int (xs (nI (k + 1)).toNatClampNeg), .int (xs (nI (k + 2)).toNatClampNeg)]) (rest := []) X [0, 1, 2] rfl (kX7_type l D t1 t2 cI cT cS ax N hx (xs (nI (k + 1)).toNatClampNeg) (xs (nI (k + 2)).toNatClampNeg) hx1 r ex) (cwV 2 X.2.2.2.2.1 gL_law_X7_type rfl rfl rfl (by decide +kernel) ⟨(Nat.le_of_ble_eq_true rfl), (Nat.le_of_ble_eq_true rfl)⟩) (mx_at mx_oX7 hx) rfl rfl rfl rfl (Nat.le_of_ble_eq_true rfl) hf dL_law_183 ?_
  refine mj_aload_n X dL_law_186 2 rfl ?_
  refine mj_aload_n X dL_law_187 0 rfl ?_
  refine mj_iload_n X dL_law_188 3 rfl ?_
  refine mj_iconst (v := (1 : Int32)) X dL_law_189 (by decide) ?_
  refine mj_iadd X dL_law_190 ?_
  refine mj_topi (l_add 1 k) ?_
  refine lj_sld X hX hbl hbA (vp_in_nI (n := k + 1) (N := L) (by omega) (by omega)) dL_law_191 ?_
  refine mj_aload_n X dL_law_192 0 rfl ?_
  refine mj_iload_n X dL_law_193 3 rfl ?_
  refine mj_iconst (v := (2 : Int32)) X dL_law_194 (by decide) ?_
  refine mj_iadd X dL_law_195 ?_
  refine mj_topi (l_add 2 k) ?_
  refine lj_sld X hX hbl hbA (vp_in_nI (n := k + 2) (N := L) (by omega) (by omega)) dL_law_196 ?_
  refine lj_ri (wl := mx_w cI cT cS ax) (wr := my_w cI cZ ay) (As := [.int (xs (nI (k + 1)).toNatClampNeg), .int (xs (nI (k + 2)).toNatClampNeg)]) (rest := [.int r]) X [0, 3] rfl (kX8_type l D t1 t2 cI cZ ay N hy (xs (nI (k + 1)).toNatClampNeg) (xs (nI (k + 2)).toNatClampNeg) hy1 r ey) (cwV 2 X.2.2.2.2.1 gL_law_X8_type rfl rfl rfl (by decide +kernel) ⟨(Nat.le_of_ble_eq_true rfl), (Nat.le_of_ble_eq_true rfl)⟩) (my_at my_oX8 hy) rfl rfl rfl rfl (Nat.le_of_ble_eq_true rfl) hf dL_law_197 ?_
  refine mj_icmp_eq (tgt := 1157) X dL_law_200 (by decide) (fun _ => ?_) (fun c9 => absurd rfl c9)
  exact IH hx1 hy1 R1
set_option maxHeartbeats 4000000 in
set_option maxRecDepth 100000 in
/-- case 1: wipe -/
theorem lc_1 (hN : 20000000000 ≤ N) (X : mm_X p s m #[Value.ref b] c cL_law RL wsL_law 4 D (l_ty cI cT cS cZ) t1 t2 (l_A s)) (hX : va_X b L xs s s.heap) (hbl : b < s.heap.size) (hL : L ≤ 3072) (hk : k + 6 ≤ L) (hf : C0 ≤ room_1.cells ∧ S0 ≤ room_1.slots) (R0 : q_R hx hy) (IH : ∀ hx hy, q_R hx hy → l_J p l e s m b below meth c C0 S0 Q D cI cT cS cZ ax ay (hx, hy) 1157 (nI k)) : l_J p l e s m b below meth c C0 S0 Q D cI cT cS cZ ax ay (hx, hy) 205 (nI k) := by
  have hbA : ¬ l_A s b := Nat.not_le.mpr hbl
  obtain ⟨hx1, hy1, r, ex, ey, R1⟩ := j_wipe (N := N) (by omega) R0 (xs (nI (k + 1)).toNatClampNeg)
  refine mj_aload_n X dL_law_205 1 rfl ?_
  refine mj_aload_n X dL_law_206 0 rfl ?_
  refine mj_iload_n X dL_law_207 3 rfl ?_
  refine mj_iconst (v := (1 : Int32)) X dL_law_208 (by decide) ?_
  refine mj_iadd X dL_law_209 ?_
  refine mj_topi (l_add 1 k) ?_
  refine lj_sld X hX hbl hbA (vp_in_nI (n := k + 1) (N := L) (by omega) (by omega)) dL_law_210 ?_
  refine lj_li (wl := mx_w cI cT cS ax) (wr := my_w cI cZ ay) (As := [.int (xs (nI (k + 1)).toNatClampNeg)]) (rest := []) X [0, 1, 2] rfl (kX7_wipe l D t1 t2 cI cT cS ax N hx (xs (nI (k + 1)).toNatClampNeg) hx1 r ex) (cwV 1 X.2.2.2.2.1 gL_law_X7_wipe rfl rfl rfl (by decide +kernel) ⟨(Nat.le_of_ble_eq_true rfl), (Nat.le_of_ble_eq_true rfl)⟩) (mx_at mx_oX7 hx) rfl rfl rfl rfl (Nat.le_of_ble_eq_true rfl) hf dL_law_211 ?_
  refine mj_aload_n X dL_law_214 2 rfl ?_
  refine mj_aload_n X dL_law_215 0 rfl ?_
  refine mj_iload_n X dL_law_216 3 rfl ?_
  refine mj_iconst (v := (1 : Int32)) X dL_law_217 (by decide) ?_
  refine mj_iadd X dL_law_218 ?_
  refine mj_topi (l_add 1 k) ?_
  refine lj_sld X hX hbl hbA (vp_in_nI (n := k + 1) (N := L) (by omega) (by omega)) dL_law_219 ?_
  refine lj_ri (wl := mx_w cI cT cS ax) (wr := my_w cI cZ ay) (As := [.int (xs (nI (k + 1)).toNatClampNeg)]) (rest := [.int r]) X [0, 3] rfl (kX8_wipe l D t1 t2 cI cZ ay N hy (xs (nI (k + 1)).toNatClampNeg) hy1 r ey) (cwV 1 X.2.2.2.2.1 gL_law_X8_wipe rfl rfl rfl (by decide +kernel) ⟨(Nat.le_of_ble_eq_true rfl), (Nat.le_of_ble_eq_true rfl)⟩) (my_at my_oX8 hy) rfl rfl rfl rfl (Nat.le_of_ble_eq_true rfl) hf dL_law_220 ?_
  refine mj_icmp_eq (tgt := 1157) X dL_law_223 (by decide) (fun _ => ?_) (fun c9 => absurd rfl c9)
  exact IH hx1 hy1 R1
set_option maxHeartbeats 4000000 in
set_option maxRecDepth 100000 in
/-- case 2: fault -/
theorem lc_2 (hN : 20000000000 ≤ N) (X : mm_X p s m #[Value.ref b] c cL_law RL wsL_law 4 D (l_ty cI cT cS cZ) t1 t2 (l_A s)) (hX : va_X b L xs s s.heap) (hbl : b < s.heap.size) (hL : L ≤ 3072) (hk : k + 6 ≤ L) (hf : C0 ≤ room_1.cells ∧ S0 ≤ room_1.slots) (R0 : q_R hx hy) (IH : ∀ hx hy, q_R hx hy → l_J p l e s m b below meth c C0 S0 Q D cI cT cS cZ ax ay (hx, hy) 1157 (nI k)) : l_J p l e s m b below meth c C0 S0 Q D cI cT cS cZ ax ay (hx, hy) 228 (nI k) := by
  have hbA : ¬ l_A s b := Nat.not_le.mpr hbl
  obtain ⟨hx1, hy1, r, ex, ey, R1⟩ := j_fault (N := N) (by omega) R0 (xs (nI (k + 1)).toNatClampNeg)
  refine mj_aload_n X dL_law_228 1 rfl ?_
  refine mj_aload_n X dL_law_229 0 rfl ?_
  refine mj_iload_n X dL_law_230 3 rfl ?_
  refine mj_iconst (v := (1 : Int32)) X dL_law_231 (by decide) ?_
  refine mj_iadd X dL_law_232 ?_
  refine mj_topi (l_add 1 k) ?_
  refine lj_sld X hX hbl hbA (vp_in_nI (n := k + 1) (N := L) (by omega) (by omega)) dL_law_233 ?_
  refine lj_li (wl := mx_w cI cT cS ax) (wr := my_w cI cZ ay) (As := [.int (xs (nI (k + 1)).toNatClampNeg)]) (rest := []) X [0, 1, 2] rfl (kX7_fault l D t1 t2 cI cT cS ax N hx (xs (nI (k + 1)).toNatClampNeg) hx1 r ex) (cwV 1 X.2.2.2.2.1 gL_law_X7_fault rfl rfl rfl (by decide +kernel) ⟨(Nat.le_of_ble_eq_true rfl), (Nat.le_of_ble_eq_true rfl)⟩) (mx_at mx_oX7 hx) rfl rfl rfl rfl (Nat.le_of_ble_eq_true rfl) hf dL_law_234 ?_
  refine mj_aload_n X dL_law_237 2 rfl ?_
  refine mj_aload_n X dL_law_238 0 rfl ?_
  refine mj_iload_n X dL_law_239 3 rfl ?_
  refine mj_iconst (v := (1 : Int32)) X dL_law_240 (by decide) ?_
  refine mj_iadd X dL_law_241 ?_
  refine mj_topi (l_add 1 k) ?_
  refine lj_sld X hX hbl hbA (vp_in_nI (n := k + 1) (N := L) (by omega) (by omega)) dL_law_242 ?_
  refine lj_ri (wl := mx_w cI cT cS ax) (wr := my_w cI cZ ay) (As := [.int (xs (nI (k + 1)).toNatClampNeg)]) (rest := [.int r]) X [0, 3] rfl (kX8_fault l D t1 t2 cI cZ ay N hy (xs (nI (k + 1)).toNatClampNeg) hy1 r ey) (cwV 1 X.2.2.2.2.1 gL_law_X8_fault rfl rfl rfl (by decide +kernel) ⟨(Nat.le_of_ble_eq_true rfl), (Nat.le_of_ble_eq_true rfl)⟩) (my_at my_oX8 hy) rfl rfl rfl rfl (Nat.le_of_ble_eq_true rfl) hf dL_law_243 ?_
  refine mj_icmp_eq (tgt := 1157) X dL_law_246 (by decide) (fun _ => ?_) (fun c9 => absurd rfl c9)
  exact IH hx1 hy1 R1
set_option maxHeartbeats 4000000 in
set_option maxRecDepth 100000 in
/-- case 3: person -/
theorem lc_3 (hN : 20000000000 ≤ N) (X : mm_X p s m #[Value.ref b] c cL_law RL wsL_law 4 D (l_ty cI cT cS cZ) t1 t2 (l_A s)) (hX : va_X b L xs s s.heap) (hbl : b < s.heap.size) (hL : L ≤ 3072) (hk : k + 6 ≤ L) (hf : C0 ≤ room_1.cells ∧ S0 ≤ room_1.slots) (R0 : q_R hx hy) (IH : ∀ hx hy, q_R hx hy → l_J p l e s m b below meth c C0 S0 Q D cI cT cS cZ ax ay (hx, hy) 1157 (nI k)) : l_J p l e s m b below meth c C0 S0 Q D cI cT cS cZ ax ay (hx, hy) 251 (nI k) := by
  have hbA : ¬ l_A s b := Nat.not_le.mpr hbl
  obtain ⟨hx1, hy1, r, ex, ey, R1⟩ := j_person (N := N) (by omega) R0 (xs (nI (k + 1)).toNatClampNeg) (xs (nI (k + 2)).toNatClampNeg)
  refine mj_aload_n X dL_law_251 1 rfl ?_
  refine mj_aload_n X dL_law_252 0 rfl ?_
  refine mj_iload_n X dL_law_253 3 rfl ?_
  refine mj_iconst (v := (1 : Int32)) X dL_law_254 (by decide) ?_
  refine mj_iadd X dL_law_255 ?_
  refine mj_topi (l_add 1 k) ?_
  refine lj_sld X hX hbl hbA (vp_in_nI (n := k + 1) (N := L) (by omega) (by omega)) dL_law_256 ?_
  refine mj_aload_n X dL_law_257 0 rfl ?_
  refine mj_iload_n X dL_law_258 3 rfl ?_
  refine mj_iconst (v := (2 : Int32)) X dL_law_259 (by decide) ?_
  refine mj_iadd X dL_law_260 ?_
  refine mj_topi (l_add 2 k) ?_
  refine lj_sld X hX hbl hbA (vp_in_nI (n := k + 2) (N := L) (by omega) (by omega)) dL_law_261 ?_
  refine lj_li (wl := mx_w cI cT cS ax) (wr := my_w cI cZ ay) (As := [.int (xs (nI (k + 1)).toNatClampNeg), .int (xs (nI (k + 2)).toNatClampNeg)]) (rest := []) X [0, 1, 2] rfl (kX7_person l D t1 t2 cI cT cS ax N hx (xs (nI (k + 1)).toNatClampNeg) (xs (nI (k + 2)).toNatClampNeg) hx1 r ex) (cwV 2 X.2.2.2.2.1 gL_law_X7_person rfl rfl rfl (by decide +kernel) ⟨(Nat.le_of_ble_eq_true rfl), (Nat.le_of_ble_eq_true rfl)⟩) (mx_at mx_oX7 hx) rfl rfl rfl rfl (Nat.le_of_ble_eq_true rfl) hf dL_law_262 ?_
  refine mj_aload_n X dL_law_265 2 rfl ?_
  refine mj_aload_n X dL_law_266 0 rfl ?_
  refine mj_iload_n X dL_law_267 3 rfl ?_
  refine mj_iconst (v := (1 : Int32)) X dL_law_268 (by decide) ?_
  refine mj_iadd X dL_law_269 ?_
  refine mj_topi (l_add 1 k) ?_
  refine lj_sld X hX hbl hbA (vp_in_nI (n := k + 1) (N := L) (by omega) (by omega)) dL_law_270 ?_
  refine mj_aload_n X dL_law_271 0 rfl ?_
  refine mj_iload_n X dL_law_272 3 rfl ?_
  refine mj_iconst (v := (2 : Int32)) X dL_law_273 (by decide) ?_
  refine mj_iadd X dL_law_274 ?_
  refine mj_topi (l_add 2 k) ?_
  refine lj_sld X hX hbl hbA (vp_in_nI (n := k + 2) (N := L) (by omega) (by omega)) dL_law_275 ?_
  refine lj_ri (wl := mx_w cI cT cS ax) (wr := my_w cI cZ ay) (As := [.int (xs (nI (k + 1)).toNatClampNeg), .int (xs (nI (k + 2)).toNatClampNeg)]) (rest := [.int r]) X [0, 3] rfl (kX8_person l D t1 t2 cI cZ ay N hy (xs (nI (k + 1)).toNatClampNeg) (xs (nI (k + 2)).toNatClampNeg) hy1 r ey) (cwV 2 X.2.2.2.2.1 gL_law_X8_person rfl rfl rfl (by decide +kernel) ⟨(Nat.le_of_ble_eq_true rfl), (Nat.le_of_ble_eq_true rfl)⟩) (my_at my_oX8 hy) rfl rfl rfl rfl (Nat.le_of_ble_eq_true rfl) hf dL_law_276 ?_
  refine mj_icmp_eq (tgt := 1157) X dL_law_279 (by decide) (fun _ => ?_) (fun c9 => absurd rfl c9)
  exact IH hx1 hy1 R1
set_option maxHeartbeats 4000000 in
set_option maxRecDepth 100000 in
/-- case 4: sits -/
theorem lc_4 (hN : 20000000000 ≤ N) (X : mm_X p s m #[Value.ref b] c cL_law RL wsL_law 4 D (l_ty cI cT cS cZ) t1 t2 (l_A s)) (hX : va_X b L xs s s.heap) (hbl : b < s.heap.size) (hL : L ≤ 3072) (hk : k + 6 ≤ L) (hf : C0 ≤ room_1.cells ∧ S0 ≤ room_1.slots) (R0 : q_R hx hy) (IH : ∀ hx hy, q_R hx hy → l_J p l e s m b below meth c C0 S0 Q D cI cT cS cZ ax ay (hx, hy) 1157 (nI k)) : l_J p l e s m b below meth c C0 S0 Q D cI cT cS cZ ax ay (hx, hy) 284 (nI k) := by
  have hbA : ¬ l_A s b := Nat.not_le.mpr hbl
  obtain ⟨hx1, hy1, r, ex, ey, R1⟩ := j_sits (N := N) (by omega) R0 (xs (nI (k + 1)).toNatClampNeg) (xs (nI (k + 2)).toNatClampNeg)
  refine mj_aload_n X dL_law_284 1 rfl ?_
  refine mj_aload_n X dL_law_285 0 rfl ?_
  refine mj_iload_n X dL_law_286 3 rfl ?_
  refine mj_iconst (v := (1 : Int32)) X dL_law_287 (by decide) ?_
  refine mj_iadd X dL_law_288 ?_
  refine mj_topi (l_add 1 k) ?_
  refine lj_sld X hX hbl hbA (vp_in_nI (n := k + 1) (N := L) (by omega) (by omega)) dL_law_289 ?_
  refine mj_aload_n X dL_law_290 0 rfl ?_
  refine mj_iload_n X dL_law_291 3 rfl ?_
  refine mj_iconst (v := (2 : Int32)) X dL_law_292 (by decide) ?_
  refine mj_iadd X dL_law_293 ?_
  refine mj_topi (l_add 2 k) ?_
  refine lj_sld X hX hbl hbA (vp_in_nI (n := k + 2) (N := L) (by omega) (by omega)) dL_law_294 ?_
  refine lj_li (wl := mx_w cI cT cS ax) (wr := my_w cI cZ ay) (As := [.int (xs (nI (k + 1)).toNatClampNeg), .int (xs (nI (k + 2)).toNatClampNeg)]) (rest := []) X [0, 1, 2] rfl (kX7_sits l D t1 t2 cI cT cS ax N hx (xs (nI (k + 1)).toNatClampNeg) (xs (nI (k + 2)).toNatClampNeg) hx1 r ex) (cwV 2 X.2.2.2.2.1 gL_law_X7_sits rfl rfl rfl (by decide +kernel) ⟨(Nat.le_of_ble_eq_true rfl), (Nat.le_of_ble_eq_true rfl)⟩) (mx_at mx_oX7 hx) rfl rfl rfl rfl (Nat.le_of_ble_eq_true rfl) hf dL_law_295 ?_
  refine mj_aload_n X dL_law_298 2 rfl ?_
  refine mj_aload_n X dL_law_299 0 rfl ?_
  refine mj_iload_n X dL_law_300 3 rfl ?_
  refine mj_iconst (v := (1 : Int32)) X dL_law_301 (by decide) ?_
  refine mj_iadd X dL_law_302 ?_
  refine mj_topi (l_add 1 k) ?_
  refine lj_sld X hX hbl hbA (vp_in_nI (n := k + 1) (N := L) (by omega) (by omega)) dL_law_303 ?_
  refine mj_aload_n X dL_law_304 0 rfl ?_
  refine mj_iload_n X dL_law_305 3 rfl ?_
  refine mj_iconst (v := (2 : Int32)) X dL_law_306 (by decide) ?_
  refine mj_iadd X dL_law_307 ?_
  refine mj_topi (l_add 2 k) ?_
  refine lj_sld X hX hbl hbA (vp_in_nI (n := k + 2) (N := L) (by omega) (by omega)) dL_law_308 ?_
  refine lj_ri (wl := mx_w cI cT cS ax) (wr := my_w cI cZ ay) (As := [.int (xs (nI (k + 1)).toNatClampNeg), .int (xs (nI (k + 2)).toNatClampNeg)]) (rest := [.int r]) X [0, 3] rfl (kX8_sits l D t1 t2 cI cZ ay N hy (xs (nI (k + 1)).toNatClampNeg) (xs (nI (k + 2)).toNatClampNeg) hy1 r ey) (cwV 2 X.2.2.2.2.1 gL_law_X8_sits rfl rfl rfl (by decide +kernel) ⟨(Nat.le_of_ble_eq_true rfl), (Nat.le_of_ble_eq_true rfl)⟩) (my_at my_oX8 hy) rfl rfl rfl rfl (Nat.le_of_ble_eq_true rfl) hf dL_law_309 ?_
  refine mj_icmp_eq (tgt := 1157) X dL_law_312 (by decide) (fun _ => ?_) (fun c9 => absurd rfl c9)
  exact IH hx1 hy1 R1
set_option maxHeartbeats 4000000 in
set_option maxRecDepth 100000 in
/-- case 5: home -/
theorem lc_5 (hN : 20000000000 ≤ N) (X : mm_X p s m #[Value.ref b] c cL_law RL wsL_law 4 D (l_ty cI cT cS cZ) t1 t2 (l_A s)) (hX : va_X b L xs s s.heap) (hbl : b < s.heap.size) (hL : L ≤ 3072) (hk : k + 6 ≤ L) (hf : C0 ≤ room_1.cells ∧ S0 ≤ room_1.slots) (R0 : q_R hx hy) (IH : ∀ hx hy, q_R hx hy → l_J p l e s m b below meth c C0 S0 Q D cI cT cS cZ ax ay (hx, hy) 1157 (nI k)) : l_J p l e s m b below meth c C0 S0 Q D cI cT cS cZ ax ay (hx, hy) 317 (nI k) := by
  have hbA : ¬ l_A s b := Nat.not_le.mpr hbl
  obtain ⟨hx1, hy1, r, ex, ey, R1⟩ := j_home (N := N) R0 (xs (nI (k + 1)).toNatClampNeg) (xs (nI (k + 2)).toNatClampNeg)
  refine mj_aload_n X dL_law_317 1 rfl ?_
  refine mj_aload_n X dL_law_318 0 rfl ?_
  refine mj_iload_n X dL_law_319 3 rfl ?_
  refine mj_iconst (v := (1 : Int32)) X dL_law_320 (by decide) ?_
  refine mj_iadd X dL_law_321 ?_
  refine mj_topi (l_add 1 k) ?_
  refine lj_sld X hX hbl hbA (vp_in_nI (n := k + 1) (N := L) (by omega) (by omega)) dL_law_322 ?_
  refine mj_aload_n X dL_law_323 0 rfl ?_
  refine mj_iload_n X dL_law_324 3 rfl ?_
  refine mj_iconst (v := (2 : Int32)) X dL_law_325 (by decide) ?_
  refine mj_iadd X dL_law_326 ?_
  refine mj_topi (l_add 2 k) ?_
  refine lj_sld X hX hbl hbA (vp_in_nI (n := k + 2) (N := L) (by omega) (by omega)) dL_law_327 ?_
  refine lj_li (wl := mx_w cI cT cS ax) (wr := my_w cI cZ ay) (As := [.int (xs (nI (k + 1)).toNatClampNeg), .int (xs (nI (k + 2)).toNatClampNeg)]) (rest := []) X [0, 1, 2] rfl (kX7_home l D t1 t2 cI cT cS ax N hx (xs (nI (k + 1)).toNatClampNeg) (xs (nI (k + 2)).toNatClampNeg) hx1 r ex) (cwV 2 X.2.2.2.2.1 gL_law_X7_home rfl rfl rfl (by decide +kernel) ⟨(Nat.le_of_ble_eq_true rfl), (Nat.le_of_ble_eq_true rfl)⟩) (mx_at mx_oX7 hx) rfl rfl rfl rfl (Nat.le_of_ble_eq_true rfl) hf dL_law_328 ?_
  refine mj_aload_n X dL_law_331 2 rfl ?_
  refine mj_aload_n X dL_law_332 0 rfl ?_
  refine mj_iload_n X dL_law_333 3 rfl ?_
  refine mj_iconst (v := (1 : Int32)) X dL_law_334 (by decide) ?_
  refine mj_iadd X dL_law_335 ?_
  refine mj_topi (l_add 1 k) ?_
  refine lj_sld X hX hbl hbA (vp_in_nI (n := k + 1) (N := L) (by omega) (by omega)) dL_law_336 ?_
  refine mj_aload_n X dL_law_337 0 rfl ?_
  refine mj_iload_n X dL_law_338 3 rfl ?_
  refine mj_iconst (v := (2 : Int32)) X dL_law_339 (by decide) ?_
  refine mj_iadd X dL_law_340 ?_
  refine mj_topi (l_add 2 k) ?_
  refine lj_sld X hX hbl hbA (vp_in_nI (n := k + 2) (N := L) (by omega) (by omega)) dL_law_341 ?_
  refine lj_ri (wl := mx_w cI cT cS ax) (wr := my_w cI cZ ay) (As := [.int (xs (nI (k + 1)).toNatClampNeg), .int (xs (nI (k + 2)).toNatClampNeg)]) (rest := [.int r]) X [0, 3] rfl (kX8_home l D t1 t2 cI cZ ay N hy (xs (nI (k + 1)).toNatClampNeg) (xs (nI (k + 2)).toNatClampNeg) hy1 r ey) (cwV 2 X.2.2.2.2.1 gL_law_X8_home rfl rfl rfl (by decide +kernel) ⟨(Nat.le_of_ble_eq_true rfl), (Nat.le_of_ble_eq_true rfl)⟩) (my_at my_oX8 hy) rfl rfl rfl rfl (Nat.le_of_ble_eq_true rfl) hf dL_law_342 ?_
  refine mj_icmp_eq (tgt := 1157) X dL_law_345 (by decide) (fun _ => ?_) (fun c9 => absurd rfl c9)
  exact IH hx1 hy1 R1
set_option maxHeartbeats 4000000 in
set_option maxRecDepth 100000 in
/-- case 6: worth -/
theorem lc_6 (hN : 20000000000 ≤ N) (X : mm_X p s m #[Value.ref b] c cL_law RL wsL_law 4 D (l_ty cI cT cS cZ) t1 t2 (l_A s)) (hX : va_X b L xs s s.heap) (hbl : b < s.heap.size) (hL : L ≤ 3072) (hk : k + 6 ≤ L) (hf : C0 ≤ room_1.cells ∧ S0 ≤ room_1.slots) (R0 : q_R hx hy) (IH : ∀ hx hy, q_R hx hy → l_J p l e s m b below meth c C0 S0 Q D cI cT cS cZ ax ay (hx, hy) 1157 (nI k)) : l_J p l e s m b below meth c C0 S0 Q D cI cT cS cZ ax ay (hx, hy) 350 (nI k) := by
  have hbA : ¬ l_A s b := Nat.not_le.mpr hbl
  obtain ⟨hx1, hy1, r, ex, ey, R1⟩ := j_worth (N := N) R0 (xs (nI (k + 1)).toNatClampNeg) (xs (nI (k + 2)).toNatClampNeg)
  refine mj_aload_n X dL_law_350 1 rfl ?_
  refine mj_aload_n X dL_law_351 0 rfl ?_
  refine mj_iload_n X dL_law_352 3 rfl ?_
  refine mj_iconst (v := (1 : Int32)) X dL_law_353 (by decide) ?_
  refine mj_iadd X dL_law_354 ?_
  refine mj_topi (l_add 1 k) ?_
  refine lj_sld X hX hbl hbA (vp_in_nI (n := k + 1) (N := L) (by omega) (by omega)) dL_law_355 ?_
  refine mj_aload_n X dL_law_356 0 rfl ?_
  refine mj_iload_n X dL_law_357 3 rfl ?_
  refine mj_iconst (v := (2 : Int32)) X dL_law_358 (by decide) ?_
  refine mj_iadd X dL_law_359 ?_
  refine mj_topi (l_add 2 k) ?_
  refine lj_sld X hX hbl hbA (vp_in_nI (n := k + 2) (N := L) (by omega) (by omega)) dL_law_360 ?_
  refine lj_li (wl := mx_w cI cT cS ax) (wr := my_w cI cZ ay) (As := [.int (xs (nI (k + 1)).toNatClampNeg), .int (xs (nI (k + 2)).toNatClampNeg)]) (rest := []) X [0, 1, 2] rfl (kX7_worth l D t1 t2 cI cT cS ax N hx (xs (nI (k + 1)).toNatClampNeg) (xs (nI (k + 2)).toNatClampNeg) hx1 r ex) (cwV 2 X.2.2.2.2.1 gL_law_X7_worth rfl rfl rfl (by decide +kernel) ⟨(Nat.le_of_ble_eq_true rfl), (Nat.le_of_ble_eq_true rfl)⟩) (mx_at mx_oX7 hx) rfl rfl rfl rfl (Nat.le_of_ble_eq_true rfl) hf dL_law_361 ?_
  refine mj_aload_n X dL_law_364 2 rfl ?_
  refine mj_aload_n X dL_law_365 0 rfl ?_
  refine mj_iload_n X dL_law_366 3 rfl ?_
  refine mj_iconst (v := (1 : Int32)) X dL_law_367 (by decide) ?_
  refine mj_iadd X dL_law_368 ?_
  refine mj_topi (l_add 1 k) ?_
  refine lj_sld X hX hbl hbA (vp_in_nI (n := k + 1) (N := L) (by omega) (by omega)) dL_law_369 ?_
  refine mj_aload_n X dL_law_370 0 rfl ?_
  refine mj_iload_n X dL_law_371 3 rfl ?_
  refine mj_iconst (v := (2 : Int32)) X dL_law_372 (by decide) ?_
  refine mj_iadd X dL_law_373 ?_
  refine mj_topi (l_add 2 k) ?_
  refine lj_sld X hX hbl hbA (vp_in_nI (n := k + 2) (N := L) (by omega) (by omega)) dL_law_374 ?_
  refine lj_ri (wl := mx_w cI cT cS ax) (wr := my_w cI cZ ay) (As := [.int (xs (nI (k + 1)).toNatClampNeg), .int (xs (nI (k + 2)).toNatClampNeg)]) (rest := [.int r]) X [0, 3] rfl (kX8_worth l D t1 t2 cI cZ ay N hy (xs (nI (k + 1)).toNatClampNeg) (xs (nI (k + 2)).toNatClampNeg) hy1 r ey) (cwV 2 X.2.2.2.2.1 gL_law_X8_worth rfl rfl rfl (by decide +kernel) ⟨(Nat.le_of_ble_eq_true rfl), (Nat.le_of_ble_eq_true rfl)⟩) (my_at my_oX8 hy) rfl rfl rfl rfl (Nat.le_of_ble_eq_true rfl) hf dL_law_375 ?_
  refine mj_icmp_eq (tgt := 1157) X dL_law_378 (by decide) (fun _ => ?_) (fun c9 => absurd rfl c9)
  exact IH hx1 hy1 R1
set_option maxHeartbeats 4000000 in
set_option maxRecDepth 100000 in
/-- case 7: read -/
theorem lc_7 (hN : 20000000000 ≤ N) (X : mm_X p s m #[Value.ref b] c cL_law RL wsL_law 4 D (l_ty cI cT cS cZ) t1 t2 (l_A s)) (hX : va_X b L xs s s.heap) (hbl : b < s.heap.size) (hL : L ≤ 3072) (hk : k + 6 ≤ L) (hf : C0 ≤ room_1.cells ∧ S0 ≤ room_1.slots) (R0 : q_R hx hy) (IH : ∀ hx hy, q_R hx hy → l_J p l e s m b below meth c C0 S0 Q D cI cT cS cZ ax ay (hx, hy) 1157 (nI k)) : l_J p l e s m b below meth c C0 S0 Q D cI cT cS cZ ax ay (hx, hy) 383 (nI k) := by
  have hbA : ¬ l_A s b := Nat.not_le.mpr hbl
  obtain ⟨hx1, hy1, r, ex, ey, R1⟩ := j_read (N := N) (by omega) R0 (xs (nI (k + 1)).toNatClampNeg)
  refine mj_aload_n X dL_law_383 1 rfl ?_
  refine mj_aload_n X dL_law_384 0 rfl ?_
  refine mj_iload_n X dL_law_385 3 rfl ?_
  refine mj_iconst (v := (1 : Int32)) X dL_law_386 (by decide) ?_
  refine mj_iadd X dL_law_387 ?_
  refine mj_topi (l_add 1 k) ?_
  refine lj_sld X hX hbl hbA (vp_in_nI (n := k + 1) (N := L) (by omega) (by omega)) dL_law_388 ?_
  refine lj_li (wl := mx_w cI cT cS ax) (wr := my_w cI cZ ay) (As := [.int (xs (nI (k + 1)).toNatClampNeg)]) (rest := []) X [0, 1, 2] rfl (kX7_read l D t1 t2 cI cT cS ax N hx (xs (nI (k + 1)).toNatClampNeg) hx1 r ex) (cwV 1 X.2.2.2.2.1 gL_law_X7_read rfl rfl rfl (by decide +kernel) ⟨(Nat.le_of_ble_eq_true rfl), (Nat.le_of_ble_eq_true rfl)⟩) (mx_at mx_oX7 hx) rfl rfl rfl rfl (Nat.le_of_ble_eq_true rfl) hf dL_law_389 ?_
  refine mj_aload_n X dL_law_392 2 rfl ?_
  refine mj_aload_n X dL_law_393 0 rfl ?_
  refine mj_iload_n X dL_law_394 3 rfl ?_
  refine mj_iconst (v := (1 : Int32)) X dL_law_395 (by decide) ?_
  refine mj_iadd X dL_law_396 ?_
  refine mj_topi (l_add 1 k) ?_
  refine lj_sld X hX hbl hbA (vp_in_nI (n := k + 1) (N := L) (by omega) (by omega)) dL_law_397 ?_
  refine lj_ri (wl := mx_w cI cT cS ax) (wr := my_w cI cZ ay) (As := [.int (xs (nI (k + 1)).toNatClampNeg)]) (rest := [.int r]) X [0, 3] rfl (kX8_read l D t1 t2 cI cZ ay N hy (xs (nI (k + 1)).toNatClampNeg) hy1 r ey) (cwV 1 X.2.2.2.2.1 gL_law_X8_read rfl rfl rfl (by decide +kernel) ⟨(Nat.le_of_ble_eq_true rfl), (Nat.le_of_ble_eq_true rfl)⟩) (my_at my_oX8 hy) rfl rfl rfl rfl (Nat.le_of_ble_eq_true rfl) hf dL_law_398 ?_
  refine mj_icmp_eq (tgt := 1157) X dL_law_401 (by decide) (fun _ => ?_) (fun c9 => absurd rfl c9)
  exact IH hx1 hy1 R1
set_option maxHeartbeats 4000000 in
set_option maxRecDepth 100000 in
/-- case 8: set -/
theorem lc_8 (hN : 20000000000 ≤ N) (X : mm_X p s m #[Value.ref b] c cL_law RL wsL_law 4 D (l_ty cI cT cS cZ) t1 t2 (l_A s)) (hX : va_X b L xs s s.heap) (hbl : b < s.heap.size) (hL : L ≤ 3072) (hk : k + 6 ≤ L) (hf : C0 ≤ room_1.cells ∧ S0 ≤ room_1.slots) (R0 : q_R hx hy) (IH : ∀ hx hy, q_R hx hy → l_J p l e s m b below meth c C0 S0 Q D cI cT cS cZ ax ay (hx, hy) 1157 (nI k)) : l_J p l e s m b below meth c C0 S0 Q D cI cT cS cZ ax ay (hx, hy) 406 (nI k) := by
  have hbA : ¬ l_A s b := Nat.not_le.mpr hbl
  obtain ⟨hx1, hy1, r, ex, ey, R1⟩ := j_set (N := N) R0 (xs (nI (k + 1)).toNatClampNeg) (xs (nI (k + 2)).toNatClampNeg)
  refine mj_aload_n X dL_law_406 1 rfl ?_
  refine mj_aload_n X dL_law_407 0 rfl ?_
  refine mj_iload_n X dL_law_408 3 rfl ?_
  refine mj_iconst (v := (1 : Int32)) X dL_law_409 (by decide) ?_
  refine mj_iadd X dL_law_410 ?_
  refine mj_topi (l_add 1 k) ?_
  refine lj_sld X hX hbl hbA (vp_in_nI (n := k + 1) (N := L) (by omega) (by omega)) dL_law_411 ?_
  refine mj_aload_n X dL_law_412 0 rfl ?_
  refine mj_iload_n X dL_law_413 3 rfl ?_
  refine mj_iconst (v := (2 : Int32)) X dL_law_414 (by decide) ?_
  refine mj_iadd X dL_law_415 ?_
  refine mj_topi (l_add 2 k) ?_
  refine lj_sld X hX hbl hbA (vp_in_nI (n := k + 2) (N := L) (by omega) (by omega)) dL_law_416 ?_
  refine lj_li (wl := mx_w cI cT cS ax) (wr := my_w cI cZ ay) (As := [.int (xs (nI (k + 1)).toNatClampNeg), .int (xs (nI (k + 2)).toNatClampNeg)]) (rest := []) X [0, 1, 2] rfl (kX7_set l D t1 t2 cI cT cS ax N hx (xs (nI (k + 1)).toNatClampNeg) (xs (nI (k + 2)).toNatClampNeg) hx1 r ex) (cwV 2 X.2.2.2.2.1 gL_law_X7_set rfl rfl rfl (by decide +kernel) ⟨(Nat.le_of_ble_eq_true rfl), (Nat.le_of_ble_eq_true rfl)⟩) (mx_at mx_oX7 hx) rfl rfl rfl rfl (Nat.le_of_ble_eq_true rfl) hf dL_law_417 ?_
  refine mj_aload_n X dL_law_420 2 rfl ?_
  refine mj_aload_n X dL_law_421 0 rfl ?_
  refine mj_iload_n X dL_law_422 3 rfl ?_
  refine mj_iconst (v := (1 : Int32)) X dL_law_423 (by decide) ?_
  refine mj_iadd X dL_law_424 ?_
  refine mj_topi (l_add 1 k) ?_
  refine lj_sld X hX hbl hbA (vp_in_nI (n := k + 1) (N := L) (by omega) (by omega)) dL_law_425 ?_
  refine mj_aload_n X dL_law_426 0 rfl ?_
  refine mj_iload_n X dL_law_427 3 rfl ?_
  refine mj_iconst (v := (2 : Int32)) X dL_law_428 (by decide) ?_
  refine mj_iadd X dL_law_429 ?_
  refine mj_topi (l_add 2 k) ?_
  refine lj_sld X hX hbl hbA (vp_in_nI (n := k + 2) (N := L) (by omega) (by omega)) dL_law_430 ?_
  refine lj_ri (wl := mx_w cI cT cS ax) (wr := my_w cI cZ ay) (As := [.int (xs (nI (k + 1)).toNatClampNeg), .int (xs (nI (k + 2)).toNatClampNeg)]) (rest := [.int r]) X [0, 3] rfl (kX8_set l D t1 t2 cI cZ ay N hy (xs (nI (k + 1)).toNatClampNeg) (xs (nI (k + 2)).toNatClampNeg) hy1 r ey) (cwV 2 X.2.2.2.2.1 gL_law_X8_set rfl rfl rfl (by decide +kernel) ⟨(Nat.le_of_ble_eq_true rfl), (Nat.le_of_ble_eq_true rfl)⟩) (my_at my_oX8 hy) rfl rfl rfl rfl (Nat.le_of_ble_eq_true rfl) hf dL_law_431 ?_
  refine mj_icmp_eq (tgt := 1157) X dL_law_434 (by decide) (fun _ => ?_) (fun c9 => absurd rfl c9)
  exact IH hx1 hy1 R1
set_option maxHeartbeats 4000000 in
set_option maxRecDepth 100000 in
/-- case 9: state -/
theorem lc_9 (hN : 20000000000 ≤ N) (X : mm_X p s m #[Value.ref b] c cL_law RL wsL_law 4 D (l_ty cI cT cS cZ) t1 t2 (l_A s)) (hX : va_X b L xs s s.heap) (hbl : b < s.heap.size) (hL : L ≤ 3072) (hk : k + 6 ≤ L) (hf : C0 ≤ room_1.cells ∧ S0 ≤ room_1.slots) (R0 : q_R hx hy) (IH : ∀ hx hy, q_R hx hy → l_J p l e s m b below meth c C0 S0 Q D cI cT cS cZ ax ay (hx, hy) 1157 (nI k)) : l_J p l e s m b below meth c C0 S0 Q D cI cT cS cZ ax ay (hx, hy) 439 (nI k) := by
  have hbA : ¬ l_A s b := Nat.not_le.mpr hbl
  obtain ⟨hx1, hy1, r, ex, ey, R1⟩ := j_state (N := N) (by omega) R0 (xs (nI (k + 1)).toNatClampNeg) (xs (nI (k + 2)).toNatClampNeg) (xs (nI (k + 3)).toNatClampNeg)
  refine mj_aload_n X dL_law_439 1 rfl ?_
  refine mj_aload_n X dL_law_440 0 rfl ?_
  refine mj_iload_n X dL_law_441 3 rfl ?_
  refine mj_iconst (v := (1 : Int32)) X dL_law_442 (by decide) ?_
  refine mj_iadd X dL_law_443 ?_
  refine mj_topi (l_add 1 k) ?_
  refine lj_sld X hX hbl hbA (vp_in_nI (n := k + 1) (N := L) (by omega) (by omega)) dL_law_444 ?_
  refine mj_aload_n X dL_law_445 0 rfl ?_
  refine mj_iload_n X dL_law_446 3 rfl ?_
  refine mj_iconst (v := (2 : Int32)) X dL_law_447 (by decide) ?_
  refine mj_iadd X dL_law_448 ?_
  refine mj_topi (l_add 2 k) ?_
  refine lj_sld X hX hbl hbA (vp_in_nI (n := k + 2) (N := L) (by omega) (by omega)) dL_law_449 ?_
  refine mj_aload_n X dL_law_450 0 rfl ?_
  refine mj_iload_n X dL_law_451 3 rfl ?_
  refine mj_iconst (v := (3 : Int32)) X dL_law_452 (by decide) ?_
  refine mj_iadd X dL_law_453 ?_
  refine mj_topi (l_add 3 k) ?_
  refine lj_sld X hX hbl hbA (vp_in_nI (n := k + 3) (N := L) (by omega) (by omega)) dL_law_454 ?_
  refine lj_li (wl := mx_w cI cT cS ax) (wr := my_w cI cZ ay) (As := [.int (xs (nI (k + 1)).toNatClampNeg), .int (xs (nI (k + 2)).toNatClampNeg), .int (xs (nI (k + 3)).toNatClampNeg)]) (rest := []) X [0, 1, 2] rfl (kX7_state l D t1 t2 cI cT cS ax N hx (xs (nI (k + 1)).toNatClampNeg) (xs (nI (k + 2)).toNatClampNeg) (xs (nI (k + 3)).toNatClampNeg) hx1 r ex) (cwV 3 X.2.2.2.2.1 gL_law_X7_state rfl rfl rfl (by decide +kernel) ⟨(Nat.le_of_ble_eq_true rfl), (Nat.le_of_ble_eq_true rfl)⟩) (mx_at mx_oX7 hx) rfl rfl rfl rfl (Nat.le_of_ble_eq_true rfl) hf dL_law_455 ?_
  refine mj_aload_n X dL_law_458 2 rfl ?_
  refine mj_aload_n X dL_law_459 0 rfl ?_
  refine mj_iload_n X dL_law_460 3 rfl ?_
  refine mj_iconst (v := (1 : Int32)) X dL_law_461 (by decide) ?_
  refine mj_iadd X dL_law_462 ?_
  refine mj_topi (l_add 1 k) ?_
  refine lj_sld X hX hbl hbA (vp_in_nI (n := k + 1) (N := L) (by omega) (by omega)) dL_law_463 ?_
  refine mj_aload_n X dL_law_464 0 rfl ?_
  refine mj_iload_n X dL_law_465 3 rfl ?_
  refine mj_iconst (v := (2 : Int32)) X dL_law_466 (by decide) ?_
  refine mj_iadd X dL_law_467 ?_
  refine mj_topi (l_add 2 k) ?_
  refine lj_sld X hX hbl hbA (vp_in_nI (n := k + 2) (N := L) (by omega) (by omega)) dL_law_468 ?_
  refine mj_aload_n X dL_law_469 0 rfl ?_
  refine mj_iload_n X dL_law_470 3 rfl ?_
  refine mj_iconst (v := (3 : Int32)) X dL_law_471 (by decide) ?_
  refine mj_iadd X dL_law_472 ?_
  refine mj_topi (l_add 3 k) ?_
  refine lj_sld X hX hbl hbA (vp_in_nI (n := k + 3) (N := L) (by omega) (by omega)) dL_law_473 ?_
  refine lj_ri (wl := mx_w cI cT cS ax) (wr := my_w cI cZ ay) (As := [.int (xs (nI (k + 1)).toNatClampNeg), .int (xs (nI (k + 2)).toNatClampNeg), .int (xs (nI (k + 3)).toNatClampNeg)]) (rest := [.int r]) X [0, 3] rfl (kX8_state l D t1 t2 cI cZ ay N hy (xs (nI (k + 1)).toNatClampNeg) (xs (nI (k + 2)).toNatClampNeg) (xs (nI (k + 3)).toNatClampNeg) hy1 r ey) (cwV 3 X.2.2.2.2.1 gL_law_X8_state rfl rfl rfl (by decide +kernel) ⟨(Nat.le_of_ble_eq_true rfl), (Nat.le_of_ble_eq_true rfl)⟩) (my_at my_oX8 hy) rfl rfl rfl rfl (Nat.le_of_ble_eq_true rfl) hf dL_law_474 ?_
  refine mj_icmp_eq (tgt := 1157) X dL_law_477 (by decide) (fun _ => ?_) (fun c9 => absurd rfl c9)
  exact IH hx1 hy1 R1
set_option maxHeartbeats 4000000 in
set_option maxRecDepth 100000 in
/-- case 10: all -/
theorem lc_10 (hN : 20000000000 ≤ N) (X : mm_X p s m #[Value.ref b] c cL_law RL wsL_law 4 D (l_ty cI cT cS cZ) t1 t2 (l_A s)) (hX : va_X b L xs s s.heap) (hbl : b < s.heap.size) (hL : L ≤ 3072) (hk : k + 6 ≤ L) (hf : C0 ≤ room_1.cells ∧ S0 ≤ room_1.slots) (R0 : q_R hx hy) (IH : ∀ hx hy, q_R hx hy → l_J p l e s m b below meth c C0 S0 Q D cI cT cS cZ ax ay (hx, hy) 1157 (nI k)) : l_J p l e s m b below meth c C0 S0 Q D cI cT cS cZ ax ay (hx, hy) 482 (nI k) := by
  have hbA : ¬ l_A s b := Nat.not_le.mpr hbl
  obtain ⟨hx1, hy1, r, ex, ey, R1⟩ := j_all (N := N) (by omega) R0 (xs (nI (k + 1)).toNatClampNeg) (xs (nI (k + 2)).toNatClampNeg)
  refine mj_aload_n X dL_law_482 1 rfl ?_
  refine mj_aload_n X dL_law_483 0 rfl ?_
  refine mj_iload_n X dL_law_484 3 rfl ?_
  refine mj_iconst (v := (1 : Int32)) X dL_law_485 (by decide) ?_
  refine mj_iadd X dL_law_486 ?_
  refine mj_topi (l_add 1 k) ?_
  refine lj_sld X hX hbl hbA (vp_in_nI (n := k + 1) (N := L) (by omega) (by omega)) dL_law_487 ?_
  refine mj_aload_n X dL_law_488 0 rfl ?_
  refine mj_iload_n X dL_law_489 3 rfl ?_
  refine mj_iconst (v := (2 : Int32)) X dL_law_490 (by decide) ?_
  refine mj_iadd X dL_law_491 ?_
  refine mj_topi (l_add 2 k) ?_
  refine lj_sld X hX hbl hbA (vp_in_nI (n := k + 2) (N := L) (by omega) (by omega)) dL_law_492 ?_
  refine lj_li (wl := mx_w cI cT cS ax) (wr := my_w cI cZ ay) (As := [.int (xs (nI (k + 1)).toNatClampNeg), .int (xs (nI (k + 2)).toNatClampNeg)]) (rest := []) X [0, 1, 2] rfl (kX7_all l D t1 t2 cI cT cS ax N hx (xs (nI (k + 1)).toNatClampNeg) (xs (nI (k + 2)).toNatClampNeg) hx1 r ex) (cwV 2 X.2.2.2.2.1 gL_law_X7_all rfl rfl rfl (by decide +kernel) ⟨(Nat.le_of_ble_eq_true rfl), (Nat.le_of_ble_eq_true rfl)⟩) (mx_at mx_oX7 hx) rfl rfl rfl rfl (Nat.le_of_ble_eq_true rfl) hf dL_law_493 ?_
  refine mj_aload_n X dL_law_496 2 rfl ?_
  refine mj_aload_n X dL_law_497 0 rfl ?_
  refine mj_iload_n X dL_law_498 3 rfl ?_
  refine mj_iconst (v := (1 : Int32)) X dL_law_499 (by decide) ?_
  refine mj_iadd X dL_law_500 ?_
  refine mj_topi (l_add 1 k) ?_
  refine lj_sld X hX hbl hbA (vp_in_nI (n := k + 1) (N := L) (by omega) (by omega)) dL_law_501 ?_
  refine mj_aload_n X dL_law_502 0 rfl ?_
  refine mj_iload_n X dL_law_503 3 rfl ?_
  refine mj_iconst (v := (2 : Int32)) X dL_law_504 (by decide) ?_
  refine mj_iadd X dL_law_505 ?_
  refine mj_topi (l_add 2 k) ?_
  refine lj_sld X hX hbl hbA (vp_in_nI (n := k + 2) (N := L) (by omega) (by omega)) dL_law_506 ?_
  refine lj_ri (wl := mx_w cI cT cS ax) (wr := my_w cI cZ ay) (As := [.int (xs (nI (k + 1)).toNatClampNeg), .int (xs (nI (k + 2)).toNatClampNeg)]) (rest := [.int r]) X [0, 3] rfl (kX8_all l D t1 t2 cI cZ ay N hy (xs (nI (k + 1)).toNatClampNeg) (xs (nI (k + 2)).toNatClampNeg) hy1 r ey) (cwV 2 X.2.2.2.2.1 gL_law_X8_all rfl rfl rfl (by decide +kernel) ⟨(Nat.le_of_ble_eq_true rfl), (Nat.le_of_ble_eq_true rfl)⟩) (my_at my_oX8 hy) rfl rfl rfl rfl (Nat.le_of_ble_eq_true rfl) hf dL_law_507 ?_
  refine mj_icmp_eq (tgt := 1157) X dL_law_510 (by decide) (fun _ => ?_) (fun c9 => absurd rfl c9)
  exact IH hx1 hy1 R1
end LC1
