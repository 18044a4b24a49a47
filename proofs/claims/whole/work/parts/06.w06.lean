section
variable {p : Program} {l : Launch} {e : Env} {s : State} {m : MethodId} {args : Array Value} {below : List Frame} {meth : Method} {c : Code} {Q : State → Prop} {D : va_G} {A : Nat → Prop} {t1 t2 : Nat} {cI cT cS cZ : ClassId} {ad : Nat → Nat}
abbrev rmX7_sheet : Room := { frames := 2, cells := 0, slots := 0, locals := 42 }
theorem inwX7_sheet_X7 : ∀ w ∈ wsX70, w ∈ wsX7_sheet := by
  intro w hw
  have h9 : wsX70 = (wsX7_sheet.drop 26).take 8 := rfl
  rw [h9] at hw
  exact List.mem_of_mem_drop (List.mem_of_mem_take hw)
theorem lnX7_sheet_0 : Cond.fieldLink RX7 59 "RichestPays" "sheets" "[LRichestPays$Sheet;" ∈ wsX7_sheet := List.mem_of_getElem? (i := 1) rfl
set_option maxHeartbeats 4000000 in
set_option maxRecDepth 100000 in
theorem kX7_sheet (l : Launch) (D : va_G) (t1 t2 : Nat) (cI : ClassId) (cT : ClassId) (cS : ClassId) (ad : Nat → Nat)  (N : Nat) (h : mm_M) (a0 : Int32) (a1 : Int32) (a2 : Int32) (h1 : mm_M) (r : Int32) (hf : fX7_sheet N h a0 a1 a2 = some (h1, r)) : mm_Ki l yX7_sheet wsX7_sheet rmX7_sheet D (mx_ty cI cT cS) t1 t2 (mx_w cI cT cS ad) [.ref (ad 0), .int a0, .int a1, .int a2] h r h1 := by
  refine mm_open_i [.ref (ad 0), .int a0, .int a1, .int a2] h r h1 RX7 (by decide) rfl rfl (Nat.le_of_ble_eq_true rfl) ?_
  intro p e s m below meth c A X hr hlocks
  have RET : ∀ (h : mm_M) (pc : Nat) (lo : List (Nat × Value)) (v : Int32), decode cX7_sheet pc = .ok (.ireturn, 1) → (h, v) = (h1, r) → mm_J p l e rmX7_sheet s m ([.ref (ad 0), .int a0, .int a1, .int a2] : List Value).toArray below meth c 0 0 (MQ below (va_Qi (fun (r' : Int32) (u : mm_M) => r' = r ∧ u = h1) (mm_Post D (mx_w cI cT cS ad) A) A) ([.ref (ad 0), .int a0, .int a1, .int a2] : List Value).toArray s 0 0 A) D (mx_w cI cT cS ad) A 4 h pc lo [.int v] := by
    intro h2 pc lo v hd he
    cases he
    exact mj_iret X hr rfl hlocks hd
  generalize hout : (h1, r) = out at hf RET
  unfold fX7_sheet at hf
  refine mj_lo (lo' := [(0, .ref (ad 0)), (1, .int a0), (2, .int a1), (3, .int a2)]) rfl ?_
  refine mj_iload_n X dX7_sheet_0 1 rfl ?_
  obtain ⟨h1, r2, q3, hf⟩ := mm_c hf
  refine mj_callSi (As := [.int a0]) (rest := []) X (kX7_isSheet l D t1 t2 cI cT cS ad N h a0 h1 r2 q3) (va_cwS 1 X.2.2.2.2.1 gX7_sheet_X7_isSheet rfl rfl rfl (by decide +kernel) ⟨Nat.le_of_ble_eq_true rfl, Nat.le_of_ble_eq_true rfl⟩) rfl rfl (Nat.le_of_ble_eq_true rfl) ⟨Nat.zero_le _, Nat.zero_le _⟩ dX7_sheet_1 ?_
  refine mj_if_eq (tgt := 20) X dX7_sheet_4 (by decide) (fun c4 => ?_) (fun c4 => ?_)
  · have hf := mm_t c4 hf
    refine mj_bipush (v := (-2 : Int32)) X dX7_sheet_20 (by decide) ?_
    exact RET h1 _ _ _ dX7_sheet_22 (Option.some.inj hf)
  · have hf := mm_f c4 hf
    refine mj_iload_n X dX7_sheet_7 2 rfl ?_
    obtain ⟨h5, r6, q7, hf⟩ := mm_c hf
    refine mj_callSi (As := [.int a1]) (rest := []) X (kX7_isForm l D t1 t2 cI cT cS ad N h1 a1 h5 r6 q7) (va_cwS 1 X.2.2.2.2.1 gX7_sheet_X7_isForm rfl rfl rfl (by decide +kernel) ⟨Nat.le_of_ble_eq_true rfl, Nat.le_of_ble_eq_true rfl⟩) rfl rfl (Nat.le_of_ble_eq_true rfl) ⟨Nat.zero_le _, Nat.zero_le _⟩ dX7_sheet_8 ?_
    refine mj_if_eq (tgt := 20) X dX7_sheet_11 (by decide) (fun c8 => ?_) (fun c8 => ?_)
    · have hf := mm_t c8 hf
      refine mj_bipush (v := (-2 : Int32)) X dX7_sheet_20 (by decide) ?_
      exact RET h5 _ _ _ dX7_sheet_22 (Option.some.inj hf)
    · have hf := mm_f c8 hf
      refine mj_iload_n X dX7_sheet_14 3 rfl ?_
      refine mj_bipush (v := (48 : Int32)) X dX7_sheet_15 (by decide) ?_
      refine mj_icmp_le (tgt := 23) X dX7_sheet_17 (by decide) (fun c9 => ?_) (fun c9 => ?_)
      · have hf := mm_t c9 hf
        refine mj_iload_n X dX7_sheet_23 3 rfl ?_
        refine mj_if_ge (tgt := 33) X dX7_sheet_24 (by decide) (fun c10 => ?_) (fun c10 => ?_)
        · have hf := mm_t c10 hf
          refine mj_aload_n X dX7_sheet_33 0 rfl ?_
          refine mj_get X inwX7_sheet_X7 (mx_at mx_oX7 h5) rfl 6 (by decide) rfl lnX7_sheet_0 rfl dX7_sheet_34 ?_
          refine mj_iload_n X dX7_sheet_37 1 rfl ?_
          obtain ⟨g11, hf⟩ := mm_g hf
          refine mj_aald (b := ad (34 + a0.toNatClampNeg)) X 2 (mx_at mx_q33 h5) rfl g11 dX7_sheet_38 (if_pos (mm_gd_lt g11)) ?_
          refine mj_iload_n X dX7_sheet_39 2 rfl ?_
          refine mj_iload_n X dX7_sheet_40 3 rfl ?_
          obtain ⟨h12, r13, q14, hf⟩ := mm_c hf
          refine mj_callVv (As := [.int a1, .int a2]) (rest := []) X (kX5_renew l D t1 t2 cI cT cS ad (34 + a0.toNatClampNeg) (mx_gX5 g11) N h5 a1 a2 h12 r13 q14) (cwV 2 X.2.2.2.2.1 gX7_sheet_X5_renew rfl rfl rfl (by decide +kernel) ⟨Nat.le_of_ble_eq_true rfl, Nat.le_of_ble_eq_true rfl⟩) (mx_at (mx_oX5 (mx_gX5 g11)) h5) rfl rfl rfl rfl (Nat.le_of_ble_eq_true rfl) ⟨Nat.zero_le _, Nat.zero_le _⟩ dX7_sheet_41 ?_
          refine mj_iload_n X dX7_sheet_44 3 rfl ?_
          exact RET h12 _ _ _ dX7_sheet_45 (Option.some.inj hf)
        · have hf := mm_f c10 hf
          refine mj_aload_n X dX7_sheet_27 0 rfl ?_
          refine mj_iconst (v := (5 : Int32)) X dX7_sheet_28 (by decide) ?_
          obtain ⟨h15, r16, q17, hf⟩ := mm_c hf
          refine mj_callVi (As := [.int (5 : Int32)]) (rest := []) X (kX7_found l D t1 t2 cI cT cS ad N h5 (5 : Int32) h15 r16 q17) (cwV 1 X.2.2.2.2.1 gX7_sheet_X7_found rfl rfl rfl (by decide +kernel) ⟨Nat.le_of_ble_eq_true rfl, Nat.le_of_ble_eq_true rfl⟩) (mx_at mx_oX7 h5) rfl rfl rfl rfl (Nat.le_of_ble_eq_true rfl) ⟨Nat.zero_le _, Nat.zero_le _⟩ dX7_sheet_29 ?_
          exact RET h15 _ _ _ dX7_sheet_32 (Option.some.inj hf)
      · have hf := mm_f c9 hf
        refine mj_bipush (v := (-2 : Int32)) X dX7_sheet_20 (by decide) ?_
        exact RET h5 _ _ _ dX7_sheet_22 (Option.some.inj hf)
abbrev rmX7_lose : Room := { frames := 2, cells := 0, slots := 0, locals := 42 }
theorem inwX7_lose_X7 : ∀ w ∈ wsX70, w ∈ wsX7_lose := by
  intro w hw
  have h9 : wsX70 = (wsX7_lose.drop 16).take 8 := rfl
  rw [h9] at hw
  exact List.mem_of_mem_drop (List.mem_of_mem_take hw)
theorem lnX7_lose_0 : Cond.fieldLink RX7 59 "RichestPays" "sheets" "[LRichestPays$Sheet;" ∈ wsX7_lose := List.mem_of_getElem? (i := 1) rfl
theorem inwX7_lose_X5 : ∀ w ∈ wsX50, w ∈ wsX7_lose := by
  intro w hw
  have h9 : wsX50 = (wsX7_lose.drop 24).take 4 := rfl
  rw [h9] at hw
  exact List.mem_of_mem_drop (List.mem_of_mem_take hw)
theorem lnX7_lose_1 : Cond.fieldLink RX7 119 "RichestPays$Sheet" "isLost" "Z" ∈ wsX7_lose := List.mem_of_getElem? (i := 2) rfl
theorem lnX7_lose_2 : Cond.fieldLink RX7 127 "RichestPays$Sheet" "size" "I" ∈ wsX7_lose := List.mem_of_getElem? (i := 3) rfl
set_option maxHeartbeats 4000000 in
set_option maxRecDepth 100000 in
theorem kX7_lose (l : Launch) (D : va_G) (t1 t2 : Nat) (cI : ClassId) (cT : ClassId) (cS : ClassId) (ad : Nat → Nat)  (N : Nat) (h : mm_M) (a0 : Int32) (h1 : mm_M) (r : Int32) (hf : fX7_lose N h a0 = some (h1, r)) : mm_Ki l yX7_lose wsX7_lose rmX7_lose D (mx_ty cI cT cS) t1 t2 (mx_w cI cT cS ad) [.ref (ad 0), .int a0] h r h1 := by
  refine mm_open_i [.ref (ad 0), .int a0] h r h1 RX7 (by decide) rfl rfl (Nat.le_of_ble_eq_true rfl) ?_
  intro p e s m below meth c A X hr hlocks
  have RET : ∀ (h : mm_M) (pc : Nat) (lo : List (Nat × Value)) (v : Int32), decode cX7_lose pc = .ok (.ireturn, 1) → (h, v) = (h1, r) → mm_J p l e rmX7_lose s m ([.ref (ad 0), .int a0] : List Value).toArray below meth c 0 0 (MQ below (va_Qi (fun (r' : Int32) (u : mm_M) => r' = r ∧ u = h1) (mm_Post D (mx_w cI cT cS ad) A) A) ([.ref (ad 0), .int a0] : List Value).toArray s 0 0 A) D (mx_w cI cT cS ad) A 2 h pc lo [.int v] := by
    intro h2 pc lo v hd he
    cases he
    exact mj_iret X hr rfl hlocks hd
  generalize hout : (h1, r) = out at hf RET
  unfold fX7_lose at hf
  refine mj_lo (lo' := [(0, .ref (ad 0)), (1, .int a0)]) rfl ?_
  refine mj_iload_n X dX7_lose_0 1 rfl ?_
  obtain ⟨h1, r2, q3, hf⟩ := mm_c hf
  refine mj_callSi (As := [.int a0]) (rest := []) X (kX7_isSheet l D t1 t2 cI cT cS ad N h a0 h1 r2 q3) (va_cwS 1 X.2.2.2.2.1 gX7_lose_X7_isSheet rfl rfl rfl (by decide +kernel) ⟨Nat.le_of_ble_eq_true rfl, Nat.le_of_ble_eq_true rfl⟩) rfl rfl (Nat.le_of_ble_eq_true rfl) ⟨Nat.zero_le _, Nat.zero_le _⟩ dX7_lose_1 ?_
  refine mj_if_ne (tgt := 10) X dX7_lose_4 (by decide) (fun c4 => ?_) (fun c4 => ?_)
  · have hf := mm_f c4 hf
    refine mj_aload_n X dX7_lose_10 0 rfl ?_
    refine mj_get X inwX7_lose_X7 (mx_at mx_oX7 h1) rfl 6 (by decide) rfl lnX7_lose_0 rfl dX7_lose_11 ?_
    refine mj_iload_n X dX7_lose_14 1 rfl ?_
    obtain ⟨g5, hf⟩ := mm_g hf
    refine mj_aald (b := ad (34 + a0.toNatClampNeg)) X 2 (mx_at mx_q33 h1) rfl g5 dX7_lose_15 (if_pos (mm_gd_lt g5)) ?_
    refine mj_get X inwX7_lose_X5 (mx_at (mx_oX5 (mx_gX5 g5)) h1) rfl 3 (by decide) rfl lnX7_lose_1 rfl dX7_lose_16 ?_
    refine mj_if_eq (tgt := 28) X dX7_lose_19 (by decide) (fun c6 => ?_) (fun c6 => ?_)
    · have hf := mm_t c6 hf
      refine mj_aload_n X dX7_lose_28 0 rfl ?_
      refine mj_get X inwX7_lose_X7 (mx_at mx_oX7 h1) rfl 6 (by decide) rfl lnX7_lose_0 rfl dX7_lose_29 ?_
      refine mj_iload_n X dX7_lose_32 1 rfl ?_
      refine mj_aald (b := ad (34 + a0.toNatClampNeg)) X 2 (mx_at mx_q33 h1) rfl g5 dX7_lose_33 (if_pos (mm_gd_lt g5)) ?_
      refine mj_iconst (v := (1 : Int32)) X dX7_lose_34 (by decide) ?_
      obtain ⟨h7, eh7, hf⟩ := mm_l hf
      refine mj_put X tyX5_ok nmX5 inwX7_lose_X5 (mx_at (mx_oX5 (mx_gX5 g5)) h1) rfl 3 (by decide) rfl lnX7_lose_1 rfl (tyX5_ok 3 (by decide)) rfl rfl (Nat.le_of_ble_eq_true rfl) (mx_put (mx_oX5 (mx_gX5 g5)) eh7 (by simp [mm_up_at, upd])) dX7_lose_35 ?_
      refine mj_aload_n X dX7_lose_38 0 rfl ?_
      refine mj_get X inwX7_lose_X7 (mx_at mx_oX7 h7) rfl 6 (by decide) rfl lnX7_lose_0 rfl dX7_lose_39 ?_
      refine mj_iload_n X dX7_lose_42 1 rfl ?_
      refine mj_aald (b := ad (34 + a0.toNatClampNeg)) X 2 (mx_at mx_q33 h7) rfl g5 dX7_lose_43 (if_pos (mm_gd_lt g5)) ?_
      refine mj_get X inwX7_lose_X5 (mx_at (mx_oX5 (mx_gX5 g5)) h7) rfl 2 (by decide) rfl lnX7_lose_2 rfl dX7_lose_44 ?_
      exact RET h7 _ _ _ dX7_lose_47 (Option.some.inj hf)
    · have hf := mm_f c6 hf
      refine mj_aload_n X dX7_lose_22 0 rfl ?_
      refine mj_iconst (v := (1 : Int32)) X dX7_lose_23 (by decide) ?_
      obtain ⟨h8, r9, q10, hf⟩ := mm_c hf
      refine mj_callVi (As := [.int (1 : Int32)]) (rest := []) X (kX7_found l D t1 t2 cI cT cS ad N h1 (1 : Int32) h8 r9 q10) (cwV 1 X.2.2.2.2.1 gX7_lose_X7_found rfl rfl rfl (by decide +kernel) ⟨Nat.le_of_ble_eq_true rfl, Nat.le_of_ble_eq_true rfl⟩) (mx_at mx_oX7 h1) rfl rfl rfl rfl (Nat.le_of_ble_eq_true rfl) ⟨Nat.zero_le _, Nat.zero_le _⟩ dX7_lose_24 ?_
      exact RET h8 _ _ _ dX7_lose_27 (Option.some.inj hf)
  · have hf := mm_t c4 hf
    refine mj_bipush (v := (-2 : Int32)) X dX7_lose_7 (by decide) ?_
    exact RET h1 _ _ _ dX7_lose_9 (Option.some.inj hf)
abbrev rmX7_put : Room := { frames := 2, cells := 0, slots := 0, locals := 42 }
theorem inwX7_put_X7 : ∀ w ∈ wsX70, w ∈ wsX7_put := by
  intro w hw
  have h9 : wsX70 = (wsX7_put.drop 30).take 8 := rfl
  rw [h9] at hw
  exact List.mem_of_mem_drop (List.mem_of_mem_take hw)
theorem lnX7_put_0 : Cond.fieldLink RX7 59 "RichestPays" "sheets" "[LRichestPays$Sheet;" ∈ wsX7_put := List.mem_of_getElem? (i := 1) rfl
set_option maxHeartbeats 4000000 in
set_option maxRecDepth 100000 in
theorem kX7_put (l : Launch) (D : va_G) (t1 t2 : Nat) (cI : ClassId) (cT : ClassId) (cS : ClassId) (ad : Nat → Nat)  (N : Nat) (h : mm_M) (a0 : Int32) (a1 : Int32) (a2 : Int32) (a3 : Int32) (h1 : mm_M) (r : Int32) (hf : fX7_put N h a0 a1 a2 a3 = some (h1, r)) : mm_Ki l yX7_put wsX7_put rmX7_put D (mx_ty cI cT cS) t1 t2 (mx_w cI cT cS ad) [.ref (ad 0), .int a0, .int a1, .int a2, .int a3] h r h1 := by
  refine mm_open_i [.ref (ad 0), .int a0, .int a1, .int a2, .int a3] h r h1 RX7 (by decide) rfl rfl (Nat.le_of_ble_eq_true rfl) ?_
  intro p e s m below meth c A X hr hlocks
  have RET : ∀ (h : mm_M) (pc : Nat) (lo : List (Nat × Value)) (v : Int32), decode cX7_put pc = .ok (.ireturn, 1) → (h, v) = (h1, r) → mm_J p l e rmX7_put s m ([.ref (ad 0), .int a0, .int a1, .int a2, .int a3] : List Value).toArray below meth c 0 0 (MQ below (va_Qi (fun (r' : Int32) (u : mm_M) => r' = r ∧ u = h1) (mm_Post D (mx_w cI cT cS ad) A) A) ([.ref (ad 0), .int a0, .int a1, .int a2, .int a3] : List Value).toArray s 0 0 A) D (mx_w cI cT cS ad) A 6 h pc lo [.int v] := by
    intro h2 pc lo v hd he
    cases he
    exact mj_iret X hr rfl hlocks hd
  generalize hout : (h1, r) = out at hf RET
  unfold fX7_put at hf
  refine mj_lo (lo' := [(0, .ref (ad 0)), (1, .int a0), (2, .int a1), (3, .int a2), (4, .int a3)]) rfl ?_
  refine mj_iload_n X dX7_put_0 1 rfl ?_
  obtain ⟨h1, r2, q3, hf⟩ := mm_c hf
  refine mj_callSi (As := [.int a0]) (rest := []) X (kX7_isSheet l D t1 t2 cI cT cS ad N h a0 h1 r2 q3) (va_cwS 1 X.2.2.2.2.1 gX7_put_X7_isSheet rfl rfl rfl (by decide +kernel) ⟨Nat.le_of_ble_eq_true rfl, Nat.le_of_ble_eq_true rfl⟩) rfl rfl (Nat.le_of_ble_eq_true rfl) ⟨Nat.zero_le _, Nat.zero_le _⟩ dX7_put_1 ?_
  refine mj_if_eq (tgt := 14) X dX7_put_4 (by decide) (fun c4 => ?_) (fun c4 => ?_)
  · have hf := mm_t c4 hf
    refine mj_bipush (v := (-2 : Int32)) X dX7_put_14 (by decide) ?_
    exact RET h1 _ _ _ dX7_put_16 (Option.some.inj hf)
  · have hf := mm_f c4 hf
    refine mj_iload_n X dX7_put_7 2 rfl ?_
    obtain ⟨h5, r6, q7, hf⟩ := mm_c hf
    refine mj_callSi (As := [.int a1]) (rest := []) X (kX7_isForm l D t1 t2 cI cT cS ad N h1 a1 h5 r6 q7) (va_cwS 1 X.2.2.2.2.1 gX7_put_X7_isForm rfl rfl rfl (by decide +kernel) ⟨Nat.le_of_ble_eq_true rfl, Nat.le_of_ble_eq_true rfl⟩) rfl rfl (Nat.le_of_ble_eq_true rfl) ⟨Nat.zero_le _, Nat.zero_le _⟩ dX7_put_8 ?_
    refine mj_if_ne (tgt := 17) X dX7_put_11 (by decide) (fun c8 => ?_) (fun c8 => ?_)
    · have hf := mm_f c8 hf
      refine mj_aload_n X dX7_put_17 0 rfl ?_
      refine mj_get X inwX7_put_X7 (mx_at mx_oX7 h5) rfl 6 (by decide) rfl lnX7_put_0 rfl dX7_put_18 ?_
      refine mj_iload_n X dX7_put_21 1 rfl ?_
      obtain ⟨g9, hf⟩ := mm_g hf
      refine mj_aald (b := ad (34 + a0.toNatClampNeg)) X 2 (mx_at mx_q33 h5) rfl g9 dX7_put_22 (if_pos (mm_gd_lt g9)) ?_
      refine mj_iload_n X dX7_put_23 2 rfl ?_
      refine mj_iload_n X dX7_put_24 3 rfl ?_
      obtain ⟨h10, r11, q12, hf⟩ := mm_c hf
      refine mj_callVi (As := [.int a1, .int a2]) (rest := []) X (kX5_findingAt l D t1 t2 cI cT cS ad (34 + a0.toNatClampNeg) (mx_gX5 g9) N h5 a1 a2 h10 r11 q12) (cwV 2 X.2.2.2.2.1 gX7_put_X5_findingAt rfl rfl rfl (by decide +kernel) ⟨Nat.le_of_ble_eq_true rfl, Nat.le_of_ble_eq_true rfl⟩) (mx_at (mx_oX5 (mx_gX5 g9)) h5) rfl rfl rfl rfl (Nat.le_of_ble_eq_true rfl) ⟨Nat.zero_le _, Nat.zero_le _⟩ dX7_put_25 ?_
      refine mj_istore (lo' := [(5, .int r11), (0, .ref (ad 0)), (1, .int a0), (2, .int a1), (3, .int a2), (4, .int a3)]) X dX7_put_28 (by decide) rfl ?_
      refine mj_iload X dX7_put_30 0 rfl ?_
      refine mj_if_eq (tgt := 42) X dX7_put_32 (by decide) (fun c13 => ?_) (fun c13 => ?_)
      · have hf := mm_t c13 hf
        refine mj_aload_n X dX7_put_42 1 rfl ?_
        refine mj_get X inwX7_put_X7 (mx_at mx_oX7 h10) rfl 6 (by decide) rfl lnX7_put_0 rfl dX7_put_43 ?_
        refine mj_iload_n X dX7_put_46 2 rfl ?_
        refine mj_aald (b := ad (34 + a0.toNatClampNeg)) X 2 (mx_at mx_q33 h10) rfl g9 dX7_put_47 (if_pos (mm_gd_lt g9)) ?_
        refine mj_iload_n X dX7_put_48 4 rfl ?_
        refine mj_iload X dX7_put_49 5 rfl ?_
        obtain ⟨h14, r15, q16, hf⟩ := mm_c hf
        refine mj_callVv (As := [.int a2, .int a3]) (rest := []) X (kX5_store l D t1 t2 cI cT cS ad (34 + a0.toNatClampNeg) (mx_gX5 g9) N h10 a2 a3 h14 r15 q16) (cwV 2 X.2.2.2.2.1 gX7_put_X5_store rfl rfl rfl (by decide +kernel) ⟨Nat.le_of_ble_eq_true rfl, Nat.le_of_ble_eq_true rfl⟩) (mx_at (mx_oX5 (mx_gX5 g9)) h10) rfl rfl rfl rfl (Nat.le_of_ble_eq_true rfl) ⟨Nat.zero_le _, Nat.zero_le _⟩ dX7_put_51 ?_
        refine mj_iconst (v := (1 : Int32)) X dX7_put_54 (by decide) ?_
        exact RET h14 _ _ _ dX7_put_55 (Option.some.inj hf)
      · have hf := mm_f c13 hf
        refine mj_aload_n X dX7_put_35 1 rfl ?_
        refine mj_iload X dX7_put_36 0 rfl ?_
        obtain ⟨h17, r18, q19, hf⟩ := mm_c hf
        refine mj_callVi (As := [.int r11]) (rest := []) X (kX7_found l D t1 t2 cI cT cS ad N h10 r11 h17 r18 q19) (cwV 1 X.2.2.2.2.1 gX7_put_X7_found rfl rfl rfl (by decide +kernel) ⟨Nat.le_of_ble_eq_true rfl, Nat.le_of_ble_eq_true rfl⟩) (mx_at mx_oX7 h10) rfl rfl rfl rfl (Nat.le_of_ble_eq_true rfl) ⟨Nat.zero_le _, Nat.zero_le _⟩ dX7_put_38 ?_
        exact RET h17 _ _ _ dX7_put_41 (Option.some.inj hf)
    · have hf := mm_t c8 hf
      refine mj_bipush (v := (-2 : Int32)) X dX7_put_14 (by decide) ?_
      exact RET h5 _ _ _ dX7_put_16 (Option.some.inj hf)
abbrev rmX7_get : Room := { frames := 2, cells := 0, slots := 0, locals := 42 }
theorem lnX7_get_0 : Cond.constant RX7 246 (-2147483648) ∈ wsX7_get := List.mem_of_getElem? (i := 1) rfl
theorem inwX7_get_X7 : ∀ w ∈ wsX70, w ∈ wsX7_get := by
  intro w hw
  have h9 : wsX70 = (wsX7_get.drop 27).take 8 := rfl
  rw [h9] at hw
  exact List.mem_of_mem_drop (List.mem_of_mem_take hw)
theorem lnX7_get_1 : Cond.fieldLink RX7 59 "RichestPays" "sheets" "[LRichestPays$Sheet;" ∈ wsX7_get := List.mem_of_getElem? (i := 2) rfl
theorem inwX7_get_X5 : ∀ w ∈ wsX50, w ∈ wsX7_get := by
  intro w hw
  have h9 : wsX50 = (wsX7_get.drop 35).take 4 := rfl
  rw [h9] at hw
  exact List.mem_of_mem_drop (List.mem_of_mem_take hw)
theorem lnX7_get_2 : Cond.fieldLink RX7 135 "RichestPays$Sheet" "items" "[I" ∈ wsX7_get := List.mem_of_getElem? (i := 3) rfl
set_option maxHeartbeats 4000000 in
set_option maxRecDepth 100000 in
theorem kX7_get (l : Launch) (D : va_G) (t1 t2 : Nat) (cI : ClassId) (cT : ClassId) (cS : ClassId) (ad : Nat → Nat)  (N : Nat) (h : mm_M) (a0 : Int32) (a1 : Int32) (a2 : Int32) (h1 : mm_M) (r : Int32) (hf : fX7_get N h a0 a1 a2 = some (h1, r)) : mm_Ki l yX7_get wsX7_get rmX7_get D (mx_ty cI cT cS) t1 t2 (mx_w cI cT cS ad) [.ref (ad 0), .int a0, .int a1, .int a2] h r h1 := by
  refine mm_open_i [.ref (ad 0), .int a0, .int a1, .int a2] h r h1 RX7 (by decide) rfl rfl (Nat.le_of_ble_eq_true rfl) ?_
  intro p e s m below meth c A X hr hlocks
  have RET : ∀ (h : mm_M) (pc : Nat) (lo : List (Nat × Value)) (v : Int32), decode cX7_get pc = .ok (.ireturn, 1) → (h, v) = (h1, r) → mm_J p l e rmX7_get s m ([.ref (ad 0), .int a0, .int a1, .int a2] : List Value).toArray below meth c 0 0 (MQ below (va_Qi (fun (r' : Int32) (u : mm_M) => r' = r ∧ u = h1) (mm_Post D (mx_w cI cT cS ad) A) A) ([.ref (ad 0), .int a0, .int a1, .int a2] : List Value).toArray s 0 0 A) D (mx_w cI cT cS ad) A 5 h pc lo [.int v] := by
    intro h2 pc lo v hd he
    cases he
    exact mj_iret X hr rfl hlocks hd
  generalize hout : (h1, r) = out at hf RET
  unfold fX7_get at hf
  refine mj_lo (lo' := [(0, .ref (ad 0)), (1, .int a0), (2, .int a1), (3, .int a2)]) rfl ?_
  refine mj_iload_n X dX7_get_0 1 rfl ?_
  obtain ⟨h1, r2, q3, hf⟩ := mm_c hf
  refine mj_callSi (As := [.int a0]) (rest := []) X (kX7_isSheet l D t1 t2 cI cT cS ad N h a0 h1 r2 q3) (va_cwS 1 X.2.2.2.2.1 gX7_get_X7_isSheet rfl rfl rfl (by decide +kernel) ⟨Nat.le_of_ble_eq_true rfl, Nat.le_of_ble_eq_true rfl⟩) rfl rfl (Nat.le_of_ble_eq_true rfl) ⟨Nat.zero_le _, Nat.zero_le _⟩ dX7_get_1 ?_
  refine mj_if_eq (tgt := 14) X dX7_get_4 (by decide) (fun c4 => ?_) (fun c4 => ?_)
  · have hf := mm_t c4 hf
    refine mj_ldc (v := (-2147483648 : Int32)) X lnX7_get_0 dX7_get_14 ?_
    exact RET h1 _ _ _ dX7_get_16 (Option.some.inj hf)
  · have hf := mm_f c4 hf
    refine mj_iload_n X dX7_get_7 2 rfl ?_
    obtain ⟨h5, r6, q7, hf⟩ := mm_c hf
    refine mj_callSi (As := [.int a1]) (rest := []) X (kX7_isForm l D t1 t2 cI cT cS ad N h1 a1 h5 r6 q7) (va_cwS 1 X.2.2.2.2.1 gX7_get_X7_isForm rfl rfl rfl (by decide +kernel) ⟨Nat.le_of_ble_eq_true rfl, Nat.le_of_ble_eq_true rfl⟩) rfl rfl (Nat.le_of_ble_eq_true rfl) ⟨Nat.zero_le _, Nat.zero_le _⟩ dX7_get_8 ?_
    refine mj_if_ne (tgt := 17) X dX7_get_11 (by decide) (fun c8 => ?_) (fun c8 => ?_)
    · have hf := mm_f c8 hf
      refine mj_aload_n X dX7_get_17 0 rfl ?_
      refine mj_get X inwX7_get_X7 (mx_at mx_oX7 h5) rfl 6 (by decide) rfl lnX7_get_1 rfl dX7_get_18 ?_
      refine mj_iload_n X dX7_get_21 1 rfl ?_
      obtain ⟨g9, hf⟩ := mm_g hf
      refine mj_aald (b := ad (34 + a0.toNatClampNeg)) X 2 (mx_at mx_q33 h5) rfl g9 dX7_get_22 (if_pos (mm_gd_lt g9)) ?_
      refine mj_iload_n X dX7_get_23 2 rfl ?_
      refine mj_iload_n X dX7_get_24 3 rfl ?_
      obtain ⟨h10, r11, q12, hf⟩ := mm_c hf
      refine mj_callVi (As := [.int a1, .int a2]) (rest := []) X (kX5_findingAt l D t1 t2 cI cT cS ad (34 + a0.toNatClampNeg) (mx_gX5 g9) N h5 a1 a2 h10 r11 q12) (cwV 2 X.2.2.2.2.1 gX7_get_X5_findingAt rfl rfl rfl (by decide +kernel) ⟨Nat.le_of_ble_eq_true rfl, Nat.le_of_ble_eq_true rfl⟩) (mx_at (mx_oX5 (mx_gX5 g9)) h5) rfl rfl rfl rfl (Nat.le_of_ble_eq_true rfl) ⟨Nat.zero_le _, Nat.zero_le _⟩ dX7_get_25 ?_
      refine mj_istore (lo' := [(4, .int r11), (0, .ref (ad 0)), (1, .int a0), (2, .int a1), (3, .int a2)]) X dX7_get_28 (by decide) rfl ?_
      refine mj_iload X dX7_get_30 0 rfl ?_
      refine mj_if_eq (tgt := 45) X dX7_get_32 (by decide) (fun c13 => ?_) (fun c13 => ?_)
      · have hf := mm_t c13 hf
        refine mj_aload_n X dX7_get_45 1 rfl ?_
        refine mj_get X inwX7_get_X7 (mx_at mx_oX7 h10) rfl 6 (by decide) rfl lnX7_get_1 rfl dX7_get_46 ?_
        refine mj_iload_n X dX7_get_49 2 rfl ?_
        refine mj_aald (b := ad (34 + a0.toNatClampNeg)) X 2 (mx_at mx_q33 h10) rfl g9 dX7_get_50 (if_pos (mm_gd_lt g9)) ?_
        refine mj_get X inwX7_get_X5 (mx_at (mx_oX5 (mx_gX5 g9)) h10) rfl 0 (by decide) rfl lnX7_get_2 rfl dX7_get_51 ?_
        refine mj_iload_n X dX7_get_54 4 rfl ?_
        obtain ⟨g14, hf⟩ := mm_g hf
        refine mj_iald X 0 (mx_at (mx_bX5 (mx_gX5 g9)) h10) rfl g14 dX7_get_55 ?_
        exact RET h10 _ _ _ dX7_get_56 (Option.some.inj hf)
      · have hf := mm_f c13 hf
        refine mj_aload_n X dX7_get_35 1 rfl ?_
        refine mj_iload X dX7_get_36 0 rfl ?_
        obtain ⟨h15, r16, q17, hf⟩ := mm_c hf
        refine mj_callVi (As := [.int r11]) (rest := []) X (kX7_found l D t1 t2 cI cT cS ad N h10 r11 h15 r16 q17) (cwV 1 X.2.2.2.2.1 gX7_get_X7_found rfl rfl rfl (by decide +kernel) ⟨Nat.le_of_ble_eq_true rfl, Nat.le_of_ble_eq_true rfl⟩) (mx_at mx_oX7 h10) rfl rfl rfl rfl (Nat.le_of_ble_eq_true rfl) ⟨Nat.zero_le _, Nat.zero_le _⟩ dX7_get_38 ?_
        refine mj_pop X dX7_get_41 rfl ?_
        refine mj_ldc (v := (-2147483648 : Int32)) X lnX7_get_0 dX7_get_42 ?_
        exact RET h15 _ _ _ dX7_get_44 (Option.some.inj hf)
    · have hf := mm_t c8 hf
      refine mj_ldc (v := (-2147483648 : Int32)) X lnX7_get_0 dX7_get_14 ?_
      exact RET h5 _ _ _ dX7_get_16 (Option.some.inj hf)
abbrev rmX7_copy : Room := { frames := 2, cells := 0, slots := 0, locals := 60 }
theorem inwX7_copy_X7 : ∀ w ∈ wsX70, w ∈ wsX7_copy := by
  intro w hw
  have h9 : wsX70 = (wsX7_copy.drop 27).take 8 := rfl
  rw [h9] at hw
  exact List.mem_of_mem_drop (List.mem_of_mem_take hw)
theorem lnX7_copy_0 : Cond.fieldLink RX7 59 "RichestPays" "sheets" "[LRichestPays$Sheet;" ∈ wsX7_copy := List.mem_of_getElem? (i := 1) rfl
theorem inwX7_copy_X5 : ∀ w ∈ wsX50, w ∈ wsX7_copy := by
  intro w hw
  have h9 : wsX50 = (wsX7_copy.drop 35).take 4 := rfl
  rw [h9] at hw
  exact List.mem_of_mem_drop (List.mem_of_mem_take hw)
theorem lnX7_copy_1 : Cond.fieldLink RX7 119 "RichestPays$Sheet" "isLost" "Z" ∈ wsX7_copy := List.mem_of_getElem? (i := 2) rfl
theorem lnX7_copy_2 : Cond.fieldLink RX7 247 "RichestPays$Sheet" "form" "I" ∈ wsX7_copy := List.mem_of_getElem? (i := 3) rfl
theorem lnX7_copy_3 : Cond.fieldLink RX7 135 "RichestPays$Sheet" "items" "[I" ∈ wsX7_copy := List.mem_of_getElem? (i := 4) rfl
theorem lnX7_copy_4 : Cond.methodLink RX7 254 arraycopyName ∈ wsX7_copy := List.mem_of_getElem? (i := 5) rfl
theorem lnX7_copy_5 : Cond.native arraycopyName ∈ wsX7_copy := List.mem_of_getElem? (i := 6) rfl
theorem lnX7_copy_6 : Cond.static arraycopyName ∈ wsX7_copy := List.mem_of_getElem? (i := 7) rfl
theorem lnX7_copy_7 : Cond.initialized "java/lang/System" ∈ wsX7_copy := List.mem_of_getElem? (i := 8) rfl
set_option maxHeartbeats 4000000 in
set_option maxRecDepth 100000 in
theorem kX7_copy (l : Launch) (D : va_G) (t1 t2 : Nat) (cI : ClassId) (cT : ClassId) (cS : ClassId) (ad : Nat → Nat)  (N : Nat) (h : mm_M) (a0 : Int32) (a1 : Int32) (a2 : Int32) (a3 : Int32) (a4 : Int32) (h1 : mm_M) (r : Int32) (hf : fX7_copy N h a0 a1 a2 a3 a4 = some (h1, r)) : mm_Ki l yX7_copy wsX7_copy rmX7_copy D (mx_ty cI cT cS) t1 t2 (mx_w cI cT cS ad) [.ref (ad 0), .int a0, .int a1, .int a2, .int a3, .int a4] h r h1 := by
  refine mm_open_i [.ref (ad 0), .int a0, .int a1, .int a2, .int a3, .int a4] h r h1 RX7 (by decide) rfl rfl (Nat.le_of_ble_eq_true rfl) ?_
  intro p e s m below meth c A X hr hlocks
  have RET : ∀ (h : mm_M) (pc : Nat) (lo : List (Nat × Value)) (v : Int32), decode cX7_copy pc = .ok (.ireturn, 1) → (h, v) = (h1, r) → mm_J p l e rmX7_copy s m ([.ref (ad 0), .int a0, .int a1, .int a2, .int a3, .int a4] : List Value).toArray below meth c 0 0 (MQ below (va_Qi (fun (r' : Int32) (u : mm_M) => r' = r ∧ u = h1) (mm_Post D (mx_w cI cT cS ad) A) A) ([.ref (ad 0), .int a0, .int a1, .int a2, .int a3, .int a4] : List Value).toArray s 0 0 A) D (mx_w cI cT cS ad) A 8 h pc lo [.int v] := by
    intro h2 pc lo v hd he
    cases he
    exact mj_iret X hr rfl hlocks hd
  generalize hout : (h1, r) = out at hf RET
  unfold fX7_copy at hf
  refine mj_lo (lo' := [(0, .ref (ad 0)), (1, .int a0), (2, .int a1), (3, .int a2), (4, .int a3), (5, .int a4)]) rfl ?_
  refine mj_iload_n X dX7_copy_0 1 rfl ?_
  obtain ⟨h1, r2, q3, hf⟩ := mm_c hf
  refine mj_callSi (As := [.int a0]) (rest := []) X (kX7_isSheet l D t1 t2 cI cT cS ad N h a0 h1 r2 q3) (va_cwS 1 X.2.2.2.2.1 gX7_copy_X7_isSheet rfl rfl rfl (by decide +kernel) ⟨Nat.le_of_ble_eq_true rfl, Nat.le_of_ble_eq_true rfl⟩) rfl rfl (Nat.le_of_ble_eq_true rfl) ⟨Nat.zero_le _, Nat.zero_le _⟩ dX7_copy_1 ?_
  refine mj_if_eq (tgt := 14) X dX7_copy_4 (by decide) (fun c4 => ?_) (fun c4 => ?_)
  · have hf := mm_t c4 hf
    refine mj_bipush (v := (-2 : Int32)) X dX7_copy_14 (by decide) ?_
    exact RET h1 _ _ _ dX7_copy_16 (Option.some.inj hf)
  · have hf := mm_f c4 hf
    refine mj_iload_n X dX7_copy_7 3 rfl ?_
    obtain ⟨h5, r6, q7, hf⟩ := mm_c hf
    refine mj_callSi (As := [.int a2]) (rest := []) X (kX7_isSheet l D t1 t2 cI cT cS ad N h1 a2 h5 r6 q7) (va_cwS 1 X.2.2.2.2.1 gX7_copy_X7_isSheet rfl rfl rfl (by decide +kernel) ⟨Nat.le_of_ble_eq_true rfl, Nat.le_of_ble_eq_true rfl⟩) rfl rfl (Nat.le_of_ble_eq_true rfl) ⟨Nat.zero_le _, Nat.zero_le _⟩ dX7_copy_8 ?_
    refine mj_if_ne (tgt := 17) X dX7_copy_11 (by decide) (fun c8 => ?_) (fun c8 => ?_)
    · have hf := mm_f c8 hf
      refine mj_aload_n X dX7_copy_17 0 rfl ?_
      refine mj_get X inwX7_copy_X7 (mx_at mx_oX7 h5) rfl 6 (by decide) rfl lnX7_copy_0 rfl dX7_copy_18 ?_
      refine mj_iload_n X dX7_copy_21 1 rfl ?_
      obtain ⟨g9, hf⟩ := mm_g hf
      refine mj_aald (b := ad (34 + a0.toNatClampNeg)) X 2 (mx_at mx_q33 h5) rfl g9 dX7_copy_22 (if_pos (mm_gd_lt g9)) ?_
      refine mj_astore (lo' := [(6, .ref (ad (34 + a0.toNatClampNeg))), (0, .ref (ad 0)), (1, .int a0), (2, .int a1), (3, .int a2), (4, .int a3), (5, .int a4)]) X dX7_copy_23 (by decide) rfl ?_
      refine mj_aload_n X dX7_copy_25 1 rfl ?_
      refine mj_get X inwX7_copy_X7 (mx_at mx_oX7 h5) rfl 6 (by decide) rfl lnX7_copy_0 rfl dX7_copy_26 ?_
      refine mj_iload_n X dX7_copy_29 4 rfl ?_
      obtain ⟨g10, hf⟩ := mm_g hf
      refine mj_aald (b := ad (34 + a2.toNatClampNeg)) X 2 (mx_at mx_q33 h5) rfl g10 dX7_copy_30 (if_pos (mm_gd_lt g10)) ?_
      refine mj_astore (lo' := [(7, .ref (ad (34 + a2.toNatClampNeg))), (6, .ref (ad (34 + a0.toNatClampNeg))), (0, .ref (ad 0)), (1, .int a0), (2, .int a1), (3, .int a2), (4, .int a3), (5, .int a4)]) X dX7_copy_31 (by decide) rfl ?_
      refine mj_aload X dX7_copy_33 1 rfl ?_
      refine mj_get X inwX7_copy_X5 (mx_at (mx_oX5 (mx_gX5 g9)) h5) rfl 3 (by decide) rfl lnX7_copy_1 rfl dX7_copy_35 ?_
      refine mj_if_ne (tgt := 49) X dX7_copy_38 (by decide) (fun c11 => ?_) (fun c11 => ?_)
      · have hf := mm_f c11 hf
        refine mj_aload_n X dX7_copy_49 2 rfl ?_
        refine mj_iconst (v := (1 : Int32)) X dX7_copy_50 (by decide) ?_
        obtain ⟨h12, r13, q14, hf⟩ := mm_c hf
        refine mj_callVi (As := [.int (1 : Int32)]) (rest := []) X (kX7_found l D t1 t2 cI cT cS ad N h5 (1 : Int32) h12 r13 q14) (cwV 1 X.2.2.2.2.1 gX7_copy_X7_found rfl rfl rfl (by decide +kernel) ⟨Nat.le_of_ble_eq_true rfl, Nat.le_of_ble_eq_true rfl⟩) (mx_at mx_oX7 h5) rfl rfl rfl rfl (Nat.le_of_ble_eq_true rfl) ⟨Nat.zero_le _, Nat.zero_le _⟩ dX7_copy_51 ?_
        exact RET h12 _ _ _ dX7_copy_54 (Option.some.inj hf)
      · have hf := mm_t c11 hf
        refine mj_aload X dX7_copy_41 0 rfl ?_
        refine mj_get X inwX7_copy_X5 (mx_at (mx_oX5 (mx_gX5 g10)) h5) rfl 3 (by decide) rfl lnX7_copy_1 rfl dX7_copy_43 ?_
        refine mj_if_eq (tgt := 55) X dX7_copy_46 (by decide) (fun c15 => ?_) (fun c15 => ?_)
        · have hf := mm_t c15 hf
          refine mj_aload X dX7_copy_55 1 rfl ?_
          refine mj_get X inwX7_copy_X5 (mx_at (mx_oX5 (mx_gX5 g9)) h5) rfl 1 (by decide) rfl lnX7_copy_2 rfl dX7_copy_57 ?_
          refine mj_aload X dX7_copy_60 0 rfl ?_
          refine mj_get X inwX7_copy_X5 (mx_at (mx_oX5 (mx_gX5 g10)) h5) rfl 1 (by decide) rfl lnX7_copy_2 rfl dX7_copy_62 ?_
          refine mj_icmp_eq (tgt := 74) X dX7_copy_65 (by decide) (fun c16 => ?_) (fun c16 => ?_)
          · have hf := mm_t c16 hf
            refine mj_aload X dX7_copy_74 1 rfl ?_
            refine mj_iload_n X dX7_copy_76 4 rfl ?_
            refine mj_iload X dX7_copy_77 7 rfl ?_
            obtain ⟨h17, r18, q19, hf⟩ := mm_c hf
            refine mj_callVi (As := [.int a1, .int a4]) (rest := []) X (kX5_hasItems l D t1 t2 cI cT cS ad (34 + a0.toNatClampNeg) (mx_gX5 g9) N h5 a1 a4 h17 r18 q19) (cwV 2 X.2.2.2.2.1 gX7_copy_X5_hasItems rfl rfl rfl (by decide +kernel) ⟨Nat.le_of_ble_eq_true rfl, Nat.le_of_ble_eq_true rfl⟩) (mx_at (mx_oX5 (mx_gX5 g9)) h5) rfl rfl rfl rfl (Nat.le_of_ble_eq_true rfl) ⟨Nat.zero_le _, Nat.zero_le _⟩ dX7_copy_79 ?_
            refine mj_if_eq (tgt := 97) X dX7_copy_82 (by decide) (fun c20 => ?_) (fun c20 => ?_)
            · have hf := mm_t c20 hf
              refine mj_aload_n X dX7_copy_97 2 rfl ?_
              refine mj_iconst (v := (2 : Int32)) X dX7_copy_98 (by decide) ?_
              obtain ⟨h21, r22, q23, hf⟩ := mm_c hf
              refine mj_callVi (As := [.int (2 : Int32)]) (rest := []) X (kX7_found l D t1 t2 cI cT cS ad N h17 (2 : Int32) h21 r22 q23) (cwV 1 X.2.2.2.2.1 gX7_copy_X7_found rfl rfl rfl (by decide +kernel) ⟨Nat.le_of_ble_eq_true rfl, Nat.le_of_ble_eq_true rfl⟩) (mx_at mx_oX7 h17) rfl rfl rfl rfl (Nat.le_of_ble_eq_true rfl) ⟨Nat.zero_le _, Nat.zero_le _⟩ dX7_copy_99 ?_
              exact RET h21 _ _ _ dX7_copy_102 (Option.some.inj hf)
            · have hf := mm_f c20 hf
              refine mj_aload X dX7_copy_85 0 rfl ?_
              refine mj_iload X dX7_copy_87 6 rfl ?_
              refine mj_iload X dX7_copy_89 7 rfl ?_
              obtain ⟨h24, r25, q26, hf⟩ := mm_c hf
              refine mj_callVi (As := [.int a3, .int a4]) (rest := []) X (kX5_hasItems l D t1 t2 cI cT cS ad (34 + a2.toNatClampNeg) (mx_gX5 g10) N h17 a3 a4 h24 r25 q26) (cwV 2 X.2.2.2.2.1 gX7_copy_X5_hasItems rfl rfl rfl (by decide +kernel) ⟨Nat.le_of_ble_eq_true rfl, Nat.le_of_ble_eq_true rfl⟩) (mx_at (mx_oX5 (mx_gX5 g10)) h17) rfl rfl rfl rfl (Nat.le_of_ble_eq_true rfl) ⟨Nat.zero_le _, Nat.zero_le _⟩ dX7_copy_91 ?_
              refine mj_if_ne (tgt := 103) X dX7_copy_94 (by decide) (fun c27 => ?_) (fun c27 => ?_)
              · have hf := mm_f c27 hf
                refine mj_aload X dX7_copy_103 1 rfl ?_
                refine mj_get X inwX7_copy_X5 (mx_at (mx_oX5 (mx_gX5 g9)) h24) rfl 0 (by decide) rfl lnX7_copy_3 rfl dX7_copy_105 ?_
                refine mj_iload_n X dX7_copy_108 4 rfl ?_
                refine mj_aload X dX7_copy_109 0 rfl ?_
                refine mj_get X inwX7_copy_X5 (mx_at (mx_oX5 (mx_gX5 g10)) h24) rfl 0 (by decide) rfl lnX7_copy_3 rfl dX7_copy_111 ?_
                refine mj_iload X dX7_copy_114 6 rfl ?_
                refine mj_iload X dX7_copy_116 7 rfl ?_
                obtain ⟨g28, hf⟩ := mm_g hf
                obtain ⟨h29, eh29, hf⟩ := mm_l hf
                refine mj_copy X lnX7_copy_4 lnX7_copy_5 lnX7_copy_6 lnX7_copy_7 0 (mx_at (mx_bX5 (mx_gX5 g9)) h24) (mx_at (mx_bX5 (mx_gX5 g10)) h24) rfl g28.1 g28.2.1 g28.2.2.1 g28.2.2.2.1 g28.2.2.2.2 (Nat.le_of_ble_eq_true rfl) (Nat.le_of_ble_eq_true rfl) (mx_cp (mx_bX5 (mx_gX5 g10)) eh29) dX7_copy_118 ?_
                refine mj_iconst (v := (1 : Int32)) X dX7_copy_121 (by decide) ?_
                exact RET h29 _ _ _ dX7_copy_122 (Option.some.inj hf)
              · have hf := mm_t c27 hf
                refine mj_aload_n X dX7_copy_97 2 rfl ?_
                refine mj_iconst (v := (2 : Int32)) X dX7_copy_98 (by decide) ?_
                obtain ⟨h30, r31, q32, hf⟩ := mm_c hf
                refine mj_callVi (As := [.int (2 : Int32)]) (rest := []) X (kX7_found l D t1 t2 cI cT cS ad N h24 (2 : Int32) h30 r31 q32) (cwV 1 X.2.2.2.2.1 gX7_copy_X7_found rfl rfl rfl (by decide +kernel) ⟨Nat.le_of_ble_eq_true rfl, Nat.le_of_ble_eq_true rfl⟩) (mx_at mx_oX7 h24) rfl rfl rfl rfl (Nat.le_of_ble_eq_true rfl) ⟨Nat.zero_le _, Nat.zero_le _⟩ dX7_copy_99 ?_
                exact RET h30 _ _ _ dX7_copy_102 (Option.some.inj hf)
          · have hf := mm_f c16 hf
            refine mj_aload_n X dX7_copy_68 2 rfl ?_
            refine mj_iconst (v := (4 : Int32)) X dX7_copy_69 (by decide) ?_
            obtain ⟨h33, r34, q35, hf⟩ := mm_c hf
            refine mj_callVi (As := [.int (4 : Int32)]) (rest := []) X (kX7_found l D t1 t2 cI cT cS ad N h5 (4 : Int32) h33 r34 q35) (cwV 1 X.2.2.2.2.1 gX7_copy_X7_found rfl rfl rfl (by decide +kernel) ⟨Nat.le_of_ble_eq_true rfl, Nat.le_of_ble_eq_true rfl⟩) (mx_at mx_oX7 h5) rfl rfl rfl rfl (Nat.le_of_ble_eq_true rfl) ⟨Nat.zero_le _, Nat.zero_le _⟩ dX7_copy_70 ?_
            exact RET h33 _ _ _ dX7_copy_73 (Option.some.inj hf)
        · have hf := mm_f c15 hf
          refine mj_aload_n X dX7_copy_49 2 rfl ?_
          refine mj_iconst (v := (1 : Int32)) X dX7_copy_50 (by decide) ?_
          obtain ⟨h36, r37, q38, hf⟩ := mm_c hf
          refine mj_callVi (As := [.int (1 : Int32)]) (rest := []) X (kX7_found l D t1 t2 cI cT cS ad N h5 (1 : Int32) h36 r37 q38) (cwV 1 X.2.2.2.2.1 gX7_copy_X7_found rfl rfl rfl (by decide +kernel) ⟨Nat.le_of_ble_eq_true rfl, Nat.le_of_ble_eq_true rfl⟩) (mx_at mx_oX7 h5) rfl rfl rfl rfl (Nat.le_of_ble_eq_true rfl) ⟨Nat.zero_le _, Nat.zero_le _⟩ dX7_copy_51 ?_
          exact RET h36 _ _ _ dX7_copy_54 (Option.some.inj hf)
    · have hf := mm_t c8 hf
      refine mj_bipush (v := (-2 : Int32)) X dX7_copy_14 (by decide) ?_
      exact RET h5 _ _ _ dX7_copy_16 (Option.some.inj hf)
abbrev rmX7_write : Room := { frames := 5, cells := 0, slots := 0, locals := 118 }
theorem inwX7_write_X7 : ∀ w ∈ wsX70, w ∈ wsX7_write := by
  intro w hw
  have h9 : wsX70 = (wsX7_write.drop 93).take 8 := rfl
  rw [h9] at hw
  exact List.mem_of_mem_drop (List.mem_of_mem_take hw)
theorem lnX7_write_0 : Cond.fieldLink RX7 30 "RichestPays" "evening" "LRichestPays$Evening;" ∈ wsX7_write := List.mem_of_getElem? (i := 1) rfl
theorem inwX7_write_X0 : ∀ w ∈ wsX00, w ∈ wsX7_write := by
  intro w hw
  have h9 : wsX00 = (wsX7_write.drop 101).take 11 := rfl
  rw [h9] at hw
  exact List.mem_of_mem_drop (List.mem_of_mem_take hw)
theorem lnX7_write_1 : Cond.fieldLink RX7 144 "RichestPays$Evening" "rounds" "I" ∈ wsX7_write := List.mem_of_getElem? (i := 2) rfl
theorem lnX7_write_2 : Cond.fieldLink RX7 59 "RichestPays" "sheets" "[LRichestPays$Sheet;" ∈ wsX7_write := List.mem_of_getElem? (i := 3) rfl
theorem inwX7_write_X5 : ∀ w ∈ wsX50, w ∈ wsX7_write := by
  intro w hw
  have h9 : wsX50 = (wsX7_write.drop 112).take 4 := rfl
  rw [h9] at hw
  exact List.mem_of_mem_drop (List.mem_of_mem_take hw)
theorem lnX7_write_3 : Cond.fieldLink RX7 119 "RichestPays$Sheet" "isLost" "Z" ∈ wsX7_write := List.mem_of_getElem? (i := 4) rfl
theorem lnX7_write_4 : Cond.fieldLink RX7 127 "RichestPays$Sheet" "size" "I" ∈ wsX7_write := List.mem_of_getElem? (i := 5) rfl
theorem lnX7_write_5 : Cond.fieldLink RX7 21 "RichestPays" "people" "LRichestPays$People;" ∈ wsX7_write := List.mem_of_getElem? (i := 6) rfl
theorem inwX7_write_X2 : ∀ w ∈ wsX20, w ∈ wsX7_write := by
  intro w hw
  have h9 : wsX20 = (wsX7_write.drop 116).take 9 := rfl
  rw [h9] at hw
  exact List.mem_of_mem_drop (List.mem_of_mem_take hw)
theorem lnX7_write_6 : Cond.fieldLink RX7 168 "RichestPays$People" "number" "I" ∈ wsX7_write := List.mem_of_getElem? (i := 7) rfl
theorem lnX7_write_7 : Cond.methodLink RX7 130 Lib.Math.min.name ∈ wsX7_write := List.mem_of_getElem? (i := 8) rfl
theorem lnX7_write_8 : Cond.static Lib.Math.min.name ∈ wsX7_write := List.mem_of_getElem? (i := 9) rfl
theorem lnX7_write_9 : Cond.initialized "java/lang/Math" ∈ wsX7_write := List.mem_of_getElem? (i := 10) rfl
theorem lnX7_write_10 : Cond.code Lib.Math.min.name Lib.Math.min.code 2 (some .int) ∈ wsX7_write := List.mem_of_getElem? (i := 11) rfl
theorem lnX7_write_11 : Cond.fieldLink RX7 260 "RichestPays$Evening" "hand" "[I" ∈ wsX7_write := List.mem_of_getElem? (i := 12) rfl
set_option maxHeartbeats 4000000 in
set_option maxRecDepth 100000 in
theorem wX7_write_L74 (X : mm_X p s m args c cX7_write RX7 wsX7_write 5 D (mx_ty cI cT cS) t1 t2 A) (out : mm_M × Int32) (RET : ∀ (h : mm_M) (pc : Nat) (lo : List (Nat × Value)) (v : Int32), decode cX7_write pc = .ok (.ireturn, 1) → (h, v) = out → mm_J p l e rmX7_write s m args below meth c 0 0 Q D (mx_w cI cT cS ad) A 5 h pc lo [.int v]) (N : Nat)  (p2 : Int32) (p3 : Int32) (k : mm_M → Option (mm_M × Int32)) (HK : ∀ (h : mm_M), k h = some out → mm_J p l e rmX7_write s m args below meth c 0 0 Q D (mx_w cI cT cS ad) A 5 h 107 [(3, .int p3)] []) : ∀ (n : Nat) (h : mm_M) (m4 : Int32), fX7_write_L74 N p2 p3 k n h m4 = some out → mm_J p l e rmX7_write s m args below meth c 0 0 Q D (mx_w cI cT cS ad) A 5 h 74 [(0, .ref (ad 0)), (2, .int p2), (3, .int p3), (4, .int m4)] [] := by
  intro n
  induction n with
  | zero =>
    intro h m4 hf
    cases hf
  | succ n ih =>
    intro h m4 hf
    rw [fX7_write_L74] at hf
    refine mj_iload X dX7_write_74 3 rfl ?_
    refine mj_iload_n X dX7_write_76 2 rfl ?_
    refine mj_icmp_ge (tgt := 107) X dX7_write_77 (by decide) (fun c15 => ?_) (fun c15 => ?_)
    · have hf := mm_t c15 hf
      exact mj_sub [2] rfl (HK h hf)
    · have hf := mm_f c15 hf
      refine mj_aload_n X dX7_write_80 0 rfl ?_
      refine mj_get X inwX7_write_X7 (mx_at mx_oX7 h) rfl 6 (by decide) rfl lnX7_write_2 rfl dX7_write_81 ?_
      refine mj_iload_n X dX7_write_84 1 rfl ?_
      obtain ⟨g16, hf⟩ := mm_g hf
      refine mj_aald (b := ad (34 + p2.toNatClampNeg)) X 2 (mx_at mx_q33 h) rfl g16 dX7_write_85 (if_pos (mm_gd_lt g16)) ?_
      refine mj_iload X dX7_write_86 3 rfl ?_
      refine mj_aload_n X dX7_write_88 0 rfl ?_
      refine mj_get X inwX7_write_X7 (mx_at mx_oX7 h) rfl 2 (by decide) rfl lnX7_write_0 rfl dX7_write_89 ?_
      refine mj_get X inwX7_write_X0 (mx_at mx_oX0 h) rfl 3 (by decide) rfl lnX7_write_11 rfl dX7_write_92 ?_
      refine mj_iload X dX7_write_95 3 rfl ?_
      obtain ⟨g17, hf⟩ := mm_g hf
      refine mj_iald X 0 (mx_at mx_a15 h) rfl g17 dX7_write_97 ?_
      obtain ⟨h18, r19, q20, hf⟩ := mm_c hf
      refine mj_callVv (As := [.int m4, .int (h 15 m4.toNatClampNeg)]) (rest := []) X (kX5_store l D t1 t2 cI cT cS ad (34 + p2.toNatClampNeg) (mx_gX5 g16) N h m4 (h 15 m4.toNatClampNeg) h18 r19 q20) (cwV 2 X.2.2.2.2.1 gX7_write_X5_store rfl rfl rfl (by decide +kernel) ⟨Nat.le_of_ble_eq_true rfl, Nat.le_of_ble_eq_true rfl⟩) (mx_at (mx_oX5 (mx_gX5 g16)) h) rfl rfl rfl rfl (Nat.le_of_ble_eq_true rfl) ⟨Nat.zero_le _, Nat.zero_le _⟩ dX7_write_98 ?_
      refine mj_iinc (k := 3) (v := (m4 + 1)) (lo' := [(4, .int (m4 + 1)), (0, .ref (ad 0)), (2, .int p2), (3, .int p3)]) X dX7_write_101 rfl rfl (by decide) rfl ?_
      refine mj_goto (tgt := 74) X dX7_write_104 (by decide) ?_
      exact mj_sub [1, 2, 3, 0] rfl (ih h18 (m4 + 1) hf)
set_option maxHeartbeats 4000000 in
set_option maxRecDepth 100000 in
theorem kX7_write (l : Launch) (D : va_G) (t1 t2 : Nat) (cI : ClassId) (cT : ClassId) (cS : ClassId) (ad : Nat → Nat)  (N : Nat) (h : mm_M) (a0 : Int32) (a1 : Int32) (h1 : mm_M) (r : Int32) (hf : fX7_write N h a0 a1 = some (h1, r)) : mm_Ki l yX7_write wsX7_write rmX7_write D (mx_ty cI cT cS) t1 t2 (mx_w cI cT cS ad) [.ref (ad 0), .int a0, .int a1] h r h1 := by
  refine mm_open_i [.ref (ad 0), .int a0, .int a1] h r h1 RX7 (by decide) rfl rfl (Nat.le_of_ble_eq_true rfl) ?_
  intro p e s m below meth c A X hr hlocks
  have RET : ∀ (h : mm_M) (pc : Nat) (lo : List (Nat × Value)) (v : Int32), decode cX7_write pc = .ok (.ireturn, 1) → (h, v) = (h1, r) → mm_J p l e rmX7_write s m ([.ref (ad 0), .int a0, .int a1] : List Value).toArray below meth c 0 0 (MQ below (va_Qi (fun (r' : Int32) (u : mm_M) => r' = r ∧ u = h1) (mm_Post D (mx_w cI cT cS ad) A) A) ([.ref (ad 0), .int a0, .int a1] : List Value).toArray s 0 0 A) D (mx_w cI cT cS ad) A 5 h pc lo [.int v] := by
    intro h2 pc lo v hd he
    cases he
    exact mj_iret X hr rfl hlocks hd
  generalize hout : (h1, r) = out at hf RET
  unfold fX7_write at hf
  refine mj_lo (lo' := [(0, .ref (ad 0)), (1, .int a0), (2, .int a1)]) rfl ?_
  refine mj_iload_n X dX7_write_0 1 rfl ?_
  refine mj_iconst (v := (0 : Int32)) X dX7_write_1 (by decide) ?_
  refine mj_aload_n X dX7_write_2 0 rfl ?_
  refine mj_get X inwX7_write_X7 (mx_at mx_oX7 h) rfl 2 (by decide) rfl lnX7_write_0 rfl dX7_write_3 ?_
  refine mj_get X inwX7_write_X0 (mx_at mx_oX0 h) rfl 9 (by decide) rfl lnX7_write_1 rfl dX7_write_6 ?_
  obtain ⟨h1, r2, q3, hf⟩ := mm_c hf
  refine mj_callSi (As := [.int a0, .int (0 : Int32), .int (h 12 9)]) (rest := []) X (kX7_isIn l D t1 t2 cI cT cS ad N h a0 (0 : Int32) (h 12 9) h1 r2 q3) (va_cwS 3 X.2.2.2.2.1 gX7_write_X7_isIn rfl rfl rfl (by decide +kernel) ⟨Nat.le_of_ble_eq_true rfl, Nat.le_of_ble_eq_true rfl⟩) rfl rfl (Nat.le_of_ble_eq_true rfl) ⟨Nat.zero_le _, Nat.zero_le _⟩ dX7_write_9 ?_
  refine mj_if_eq (tgt := 22) X dX7_write_12 (by decide) (fun c4 => ?_) (fun c4 => ?_)
  · have hf := mm_t c4 hf
    refine mj_bipush (v := (-2 : Int32)) X dX7_write_22 (by decide) ?_
    exact RET h1 _ _ _ dX7_write_24 (Option.some.inj hf)
  · have hf := mm_f c4 hf
    refine mj_iload_n X dX7_write_15 2 rfl ?_
    obtain ⟨h5, r6, q7, hf⟩ := mm_c hf
    refine mj_callSi (As := [.int a1]) (rest := []) X (kX7_isSheet l D t1 t2 cI cT cS ad N h1 a1 h5 r6 q7) (va_cwS 1 X.2.2.2.2.1 gX7_write_X7_isSheet rfl rfl rfl (by decide +kernel) ⟨Nat.le_of_ble_eq_true rfl, Nat.le_of_ble_eq_true rfl⟩) rfl rfl (Nat.le_of_ble_eq_true rfl) ⟨Nat.zero_le _, Nat.zero_le _⟩ dX7_write_16 ?_
    refine mj_if_ne (tgt := 25) X dX7_write_19 (by decide) (fun c8 => ?_) (fun c8 => ?_)
    · have hf := mm_f c8 hf
      refine mj_aload_n X dX7_write_25 0 rfl ?_
      refine mj_get X inwX7_write_X7 (mx_at mx_oX7 h5) rfl 6 (by decide) rfl lnX7_write_2 rfl dX7_write_26 ?_
      refine mj_iload_n X dX7_write_29 2 rfl ?_
      obtain ⟨g9, hf⟩ := mm_g hf
      refine mj_aald (b := ad (34 + a1.toNatClampNeg)) X 2 (mx_at mx_q33 h5) rfl g9 dX7_write_30 (if_pos (mm_gd_lt g9)) ?_
      refine mj_get X inwX7_write_X5 (mx_at (mx_oX5 (mx_gX5 g9)) h5) rfl 3 (by decide) rfl lnX7_write_3 rfl dX7_write_31 ?_
      refine mj_if_eq (tgt := 43) X dX7_write_34 (by decide) (fun c10 => ?_) (fun c10 => ?_)
      · have hf := mm_t c10 hf
        refine mj_aload_n X dX7_write_43 0 rfl ?_
        refine mj_get X inwX7_write_X7 (mx_at mx_oX7 h5) rfl 2 (by decide) rfl lnX7_write_0 rfl dX7_write_44 ?_
        refine mj_iload_n X dX7_write_47 1 rfl ?_
        obtain ⟨h11, r12, q13, hf⟩ := mm_c hf
        refine mj_callVv (As := [.int a0]) (rest := []) X (kX0_play l D t1 t2 cI cT cS ad N h5 a0 h11 r12 q13) (cwV 1 X.2.2.2.2.1 gX7_write_X0_play rfl rfl rfl (by decide +kernel) ⟨Nat.le_of_ble_eq_true rfl, Nat.le_of_ble_eq_true rfl⟩) (mx_at mx_oX0 h5) rfl rfl rfl rfl (Nat.le_of_ble_eq_true rfl) ⟨Nat.zero_le _, Nat.zero_le _⟩ dX7_write_48 ?_
        refine mj_aload_n X dX7_write_51 0 rfl ?_
        refine mj_get X inwX7_write_X7 (mx_at mx_oX7 h11) rfl 6 (by decide) rfl lnX7_write_2 rfl dX7_write_52 ?_
        refine mj_iload_n X dX7_write_55 2 rfl ?_
        refine mj_aald (b := ad (34 + a1.toNatClampNeg)) X 2 (mx_at mx_q33 h11) rfl g9 dX7_write_56 (if_pos (mm_gd_lt g9)) ?_
        refine mj_get X inwX7_write_X5 (mx_at (mx_oX5 (mx_gX5 g9)) h11) rfl 2 (by decide) rfl lnX7_write_4 rfl dX7_write_57 ?_
        refine mj_aload_n X dX7_write_60 0 rfl ?_
        refine mj_get X inwX7_write_X7 (mx_at mx_oX7 h11) rfl 1 (by decide) rfl lnX7_write_5 rfl dX7_write_61 ?_
        refine mj_get X inwX7_write_X2 (mx_at mx_oX2 h11) rfl 5 (by decide) rfl lnX7_write_6 rfl dX7_write_64 ?_
        refine mj_min X lnX7_write_7 lnX7_write_8 lnX7_write_9 lnX7_write_10 (Nat.le_of_ble_eq_true rfl) (Nat.le_of_ble_eq_true rfl) ⟨Nat.zero_le _, Nat.zero_le _⟩ dX7_write_67 ?_
        obtain ⟨x14, ex14, hf⟩ := mm_l hf
        refine mj_topi ex14 ?_
        refine mj_istore_n (lo' := [(3, .int x14), (0, .ref (ad 0)), (1, .int a0), (2, .int a1)]) X dX7_write_70 (by decide) rfl ?_
        refine mj_iconst (v := (0 : Int32)) X dX7_write_71 (by decide) ?_
        refine mj_istore (lo' := [(4, .int (0 : Int32)), (3, .int x14), (0, .ref (ad 0)), (1, .int a0), (2, .int a1)]) X dX7_write_72 (by decide) rfl ?_
        refine mj_sub [2, 4, 1, 0] rfl (wX7_write_L74 X out RET N a1 x14 _ (fun h21 hf => ?_) N h11 (0 : Int32) hf)
        refine mj_iload_n X dX7_write_107 0 rfl ?_
        exact RET h21 _ _ _ dX7_write_108 (Option.some.inj hf)
      · have hf := mm_f c10 hf
        refine mj_aload_n X dX7_write_37 0 rfl ?_
        refine mj_iconst (v := (1 : Int32)) X dX7_write_38 (by decide) ?_
        obtain ⟨h22, r23, q24, hf⟩ := mm_c hf
        refine mj_callVi (As := [.int (1 : Int32)]) (rest := []) X (kX7_found l D t1 t2 cI cT cS ad N h5 (1 : Int32) h22 r23 q24) (cwV 1 X.2.2.2.2.1 gX7_write_X7_found rfl rfl rfl (by decide +kernel) ⟨Nat.le_of_ble_eq_true rfl, Nat.le_of_ble_eq_true rfl⟩) (mx_at mx_oX7 h5) rfl rfl rfl rfl (Nat.le_of_ble_eq_true rfl) ⟨Nat.zero_le _, Nat.zero_le _⟩ dX7_write_39 ?_
        exact RET h22 _ _ _ dX7_write_42 (Option.some.inj hf)
    · have hf := mm_t c8 hf
      refine mj_bipush (v := (-2 : Int32)) X dX7_write_22 (by decide) ?_
      exact RET h5 _ _ _ dX7_write_24 (Option.some.inj hf)
abbrev rmX7_count : Room := { frames := 6, cells := 0, slots := 0, locals := 140 }
theorem inwX7_count_X7 : ∀ w ∈ wsX70, w ∈ wsX7_count := by
  intro w hw
  have h9 : wsX70 = (wsX7_count.drop 103).take 8 := rfl
  rw [h9] at hw
  exact List.mem_of_mem_drop (List.mem_of_mem_take hw)
theorem lnX7_count_0 : Cond.fieldLink RX7 21 "RichestPays" "people" "LRichestPays$People;" ∈ wsX7_count := List.mem_of_getElem? (i := 1) rfl
theorem inwX7_count_X2 : ∀ w ∈ wsX20, w ∈ wsX7_count := by
  intro w hw
  have h9 : wsX20 = (wsX7_count.drop 111).take 9 := rfl
  rw [h9] at hw
  exact List.mem_of_mem_drop (List.mem_of_mem_take hw)
theorem lnX7_count_1 : Cond.fieldLink RX7 168 "RichestPays$People" "number" "I" ∈ wsX7_count := List.mem_of_getElem? (i := 2) rfl
theorem lnX7_count_2 : Cond.fieldLink RX7 30 "RichestPays" "evening" "LRichestPays$Evening;" ∈ wsX7_count := List.mem_of_getElem? (i := 3) rfl
theorem inwX7_count_X0 : ∀ w ∈ wsX00, w ∈ wsX7_count := by
  intro w hw
  have h9 : wsX00 = (wsX7_count.drop 120).take 11 := rfl
  rw [h9] at hw
  exact List.mem_of_mem_drop (List.mem_of_mem_take hw)
theorem lnX7_count_3 : Cond.fieldLink RX7 144 "RichestPays$Evening" "rounds" "I" ∈ wsX7_count := List.mem_of_getElem? (i := 4) rfl
theorem lnX7_count_4 : Cond.fieldLink RX7 14 "RichestPays" "texts" "[LRichestPays$Text;" ∈ wsX7_count := List.mem_of_getElem? (i := 5) rfl
theorem inwX7_count_X6 : ∀ w ∈ wsX60, w ∈ wsX7_count := by
  intro w hw
  have h9 : wsX60 = (wsX7_count.drop 131).take 2 := rfl
  rw [h9] at hw
  exact List.mem_of_mem_drop (List.mem_of_mem_take hw)
theorem lnX7_count_5 : Cond.fieldLink RX7 86 "RichestPays$Text" "length" "I" ∈ wsX7_count := List.mem_of_getElem? (i := 6) rfl
theorem lnX7_count_6 : Cond.fieldLink RX7 53 "RichestPays" "secrets" "LRichestPays$Secrets;" ∈ wsX7_count := List.mem_of_getElem? (i := 7) rfl
theorem inwX7_count_X4 : ∀ w ∈ wsX40, w ∈ wsX7_count := by
  intro w hw
  have h9 : wsX40 = (wsX7_count.drop 133).take 7 := rfl
  rw [h9] at hw
  exact List.mem_of_mem_drop (List.mem_of_mem_take hw)
theorem lnX7_count_7 : Cond.fieldLink RX7 208 "RichestPays$Secrets" "seenNumber" "I" ∈ wsX7_count := List.mem_of_getElem? (i := 8) rfl
theorem lnX7_count_8 : Cond.fieldLink RX7 96 "RichestPays$People" "purse" "[I" ∈ wsX7_count := List.mem_of_getElem? (i := 9) rfl
theorem lnX7_count_9 : Cond.fieldLink RX7 64 "RichestPays" "latestFinding" "I" ∈ wsX7_count := List.mem_of_getElem? (i := 10) rfl
set_option maxHeartbeats 4000000 in
set_option maxRecDepth 100000 in
theorem kX7_count (l : Launch) (D : va_G) (t1 t2 : Nat) (cI : ClassId) (cT : ClassId) (cS : ClassId) (ad : Nat → Nat)  (N : Nat) (h : mm_M) (a0 : Int32) (h1 : mm_M) (r : Int32) (hf : fX7_count N h a0 = some (h1, r)) : mm_Ki l yX7_count wsX7_count rmX7_count D (mx_ty cI cT cS) t1 t2 (mx_w cI cT cS ad) [.ref (ad 0), .int a0] h r h1 := by
  refine mm_open_i [.ref (ad 0), .int a0] h r h1 RX7 (by decide) rfl rfl (Nat.le_of_ble_eq_true rfl) ?_
  intro p e s m below meth c A X hr hlocks
  have RET : ∀ (h : mm_M) (pc : Nat) (lo : List (Nat × Value)) (v : Int32), decode cX7_count pc = .ok (.ireturn, 1) → (h, v) = (h1, r) → mm_J p l e rmX7_count s m ([.ref (ad 0), .int a0] : List Value).toArray below meth c 0 0 (MQ below (va_Qi (fun (r' : Int32) (u : mm_M) => r' = r ∧ u = h1) (mm_Post D (mx_w cI cT cS ad) A) A) ([.ref (ad 0), .int a0] : List Value).toArray s 0 0 A) D (mx_w cI cT cS ad) A 2 h pc lo [.int v] := by
    intro h2 pc lo v hd he
    cases he
    exact mj_iret X hr rfl hlocks hd
  generalize hout : (h1, r) = out at hf RET
  unfold fX7_count at hf
  refine mj_lo (lo' := [(0, .ref (ad 0)), (1, .int a0)]) rfl ?_
  refine mj_iload_n X dX7_count_0 1 rfl ?_
  by_cases c1 : a0 = 0
  · have hf := mm_t c1 hf
    refine mj_tableIn (tgt := 52) (off := 51) X dX7_count_1 (by rw [c1]; decide) (by rw [c1]; decide) (by rw [c1]; decide) (by decide) ?_
    refine mj_aload_n X dX7_count_52 0 rfl ?_
    refine mj_get X inwX7_count_X7 (mx_at mx_oX7 h) rfl 1 (by decide) rfl lnX7_count_0 rfl dX7_count_53 ?_
    refine mj_get X inwX7_count_X2 (mx_at mx_oX2 h) rfl 5 (by decide) rfl lnX7_count_1 rfl dX7_count_56 ?_
    exact RET h _ _ _ dX7_count_59 (Option.some.inj hf)
  · have hf := mm_f c1 hf
    by_cases c2 : a0 = 1
    · have hf := mm_t c2 hf
      refine mj_tableIn (tgt := 60) (off := 59) X dX7_count_1 (by rw [c2]; decide) (by rw [c2]; decide) (by rw [c2]; decide) (by decide) ?_
      refine mj_aload_n X dX7_count_60 0 rfl ?_
      refine mj_get X inwX7_count_X7 (mx_at mx_oX7 h) rfl 2 (by decide) rfl lnX7_count_2 rfl dX7_count_61 ?_
      refine mj_get X inwX7_count_X0 (mx_at mx_oX0 h) rfl 9 (by decide) rfl lnX7_count_3 rfl dX7_count_64 ?_
      exact RET h _ _ _ dX7_count_67 (Option.some.inj hf)
    · have hf := mm_f c2 hf
      by_cases c3 : a0 = 2
      · have hf := mm_t c3 hf
        refine mj_tableIn (tgt := 68) (off := 67) X dX7_count_1 (by rw [c3]; decide) (by rw [c3]; decide) (by rw [c3]; decide) (by decide) ?_
        refine mj_aload_n X dX7_count_68 0 rfl ?_
        refine mj_get X inwX7_count_X7 (mx_at mx_oX7 h) rfl 0 (by decide) rfl lnX7_count_4 rfl dX7_count_69 ?_
        refine mj_iconst (v := (0 : Int32)) X dX7_count_72 (by decide) ?_
        refine mj_aald (b := ad 2) X 1 (mx_at mx_q1 h) rfl (by decide) dX7_count_73 rfl ?_
        refine mj_get X inwX7_count_X6 (mx_at (mx_oX6 (P := 2) (by unfold mx_isX6; decide)) h) rfl 1 (by decide) rfl lnX7_count_5 rfl dX7_count_74 ?_
        exact RET h _ _ _ dX7_count_77 (Option.some.inj hf)
      · have hf := mm_f c3 hf
        by_cases c4 : a0 = 3
        · have hf := mm_t c4 hf
          refine mj_tableIn (tgt := 78) (off := 77) X dX7_count_1 (by rw [c4]; decide) (by rw [c4]; decide) (by rw [c4]; decide) (by decide) ?_
          refine mj_aload_n X dX7_count_78 0 rfl ?_
          refine mj_get X inwX7_count_X7 (mx_at mx_oX7 h) rfl 0 (by decide) rfl lnX7_count_4 rfl dX7_count_79 ?_
          refine mj_iconst (v := (1 : Int32)) X dX7_count_82 (by decide) ?_
          refine mj_aald (b := ad 3) X 1 (mx_at mx_q1 h) rfl (by decide) dX7_count_83 rfl ?_
          refine mj_get X inwX7_count_X6 (mx_at (mx_oX6 (P := 3) (by unfold mx_isX6; decide)) h) rfl 1 (by decide) rfl lnX7_count_5 rfl dX7_count_84 ?_
          exact RET h _ _ _ dX7_count_87 (Option.some.inj hf)
        · have hf := mm_f c4 hf
          by_cases c5 : a0 = 4
          · have hf := mm_t c5 hf
            refine mj_tableIn (tgt := 88) (off := 87) X dX7_count_1 (by rw [c5]; decide) (by rw [c5]; decide) (by rw [c5]; decide) (by decide) ?_
            refine mj_aload_n X dX7_count_88 0 rfl ?_
            refine mj_get X inwX7_count_X7 (mx_at mx_oX7 h) rfl 5 (by decide) rfl lnX7_count_6 rfl dX7_count_89 ?_
            refine mj_get X inwX7_count_X4 (mx_at mx_oX4 h) rfl 6 (by decide) rfl lnX7_count_7 rfl dX7_count_92 ?_
            exact RET h _ _ _ dX7_count_95 (Option.some.inj hf)
          · have hf := mm_f c5 hf
            by_cases c6 : a0 = 5
            · have hf := mm_t c6 hf
              refine mj_tableIn (tgt := 96) (off := 95) X dX7_count_1 (by rw [c6]; decide) (by rw [c6]; decide) (by rw [c6]; decide) (by decide) ?_
              refine mj_aload_n X dX7_count_96 0 rfl ?_
              refine mj_get X inwX7_count_X7 (mx_at mx_oX7 h) rfl 1 (by decide) rfl lnX7_count_0 rfl dX7_count_97 ?_
              refine mj_aload_n X dX7_count_100 0 rfl ?_
              refine mj_get X inwX7_count_X7 (mx_at mx_oX7 h) rfl 1 (by decide) rfl lnX7_count_0 rfl dX7_count_101 ?_
              refine mj_get X inwX7_count_X2 (mx_at mx_oX2 h) rfl 0 (by decide) rfl lnX7_count_8 rfl dX7_count_104 ?_
              obtain ⟨h7, r8, q9, hf⟩ := mm_c hf
              refine mj_callVi (As := [.ref (ad 7)]) (rest := []) X (kX2_together l D t1 t2 cI cT cS ad 7 mx_a7 N h h7 r8 q9) (cwV 1 X.2.2.2.2.1 gX7_count_X2_together rfl rfl rfl (by decide +kernel) ⟨Nat.le_of_ble_eq_true rfl, Nat.le_of_ble_eq_true rfl⟩) (mx_at mx_oX2 h) rfl rfl rfl rfl (Nat.le_of_ble_eq_true rfl) ⟨Nat.zero_le _, Nat.zero_le _⟩ dX7_count_107 ?_
              exact RET h7 _ _ _ dX7_count_110 (Option.some.inj hf)
            · have hf := mm_f c6 hf
              by_cases c10 : a0 = 6
              · have hf := mm_t c10 hf
                refine mj_tableIn (tgt := 111) (off := 110) X dX7_count_1 (by rw [c10]; decide) (by rw [c10]; decide) (by rw [c10]; decide) (by decide) ?_
                refine mj_aload_n X dX7_count_111 0 rfl ?_
                refine mj_iconst (v := (0 : Int32)) X dX7_count_112 (by decide) ?_
                refine mj_iconst (v := (0 : Int32)) X dX7_count_113 (by decide) ?_
                obtain ⟨h11, r12, q13, hf⟩ := mm_c hf
                refine mj_callVi (As := [.int (0 : Int32), .int (0 : Int32)]) (rest := []) X (kX7_all l D t1 t2 cI cT cS ad N h (0 : Int32) (0 : Int32) h11 r12 q13) (cwV 2 X.2.2.2.2.1 gX7_count_X7_all rfl rfl rfl (by decide +kernel) ⟨Nat.le_of_ble_eq_true rfl, Nat.le_of_ble_eq_true rfl⟩) (mx_at mx_oX7 h) rfl rfl rfl rfl (Nat.le_of_ble_eq_true rfl) ⟨Nat.zero_le _, Nat.zero_le _⟩ dX7_count_114 ?_
                exact RET h11 _ _ _ dX7_count_117 (Option.some.inj hf)
              · have hf := mm_f c10 hf
                by_cases c14 : a0 = 7
                · have hf := mm_t c14 hf
                  refine mj_tableIn (tgt := 118) (off := 117) X dX7_count_1 (by rw [c14]; decide) (by rw [c14]; decide) (by rw [c14]; decide) (by decide) ?_
                  refine mj_aload_n X dX7_count_118 0 rfl ?_
                  refine mj_get X inwX7_count_X7 (mx_at mx_oX7 h) rfl 2 (by decide) rfl lnX7_count_2 rfl dX7_count_119 ?_
                  obtain ⟨h15, r16, q17, hf⟩ := mm_c hf
                  refine mj_callVi (As := []) (rest := []) X (kX0_meals l D t1 t2 cI cT cS ad N h h15 r16 q17) (cwV 0 X.2.2.2.2.1 gX7_count_X0_meals rfl rfl rfl (by decide +kernel) ⟨Nat.le_of_ble_eq_true rfl, Nat.le_of_ble_eq_true rfl⟩) (mx_at mx_oX0 h) rfl rfl rfl rfl (Nat.le_of_ble_eq_true rfl) ⟨Nat.zero_le _, Nat.zero_le _⟩ dX7_count_122 ?_
                  exact RET h15 _ _ _ dX7_count_125 (Option.some.inj hf)
                · have hf := mm_f c14 hf
                  by_cases c18 : a0 = 8
                  · have hf := mm_t c18 hf
                    refine mj_tableIn (tgt := 126) (off := 125) X dX7_count_1 (by rw [c18]; decide) (by rw [c18]; decide) (by rw [c18]; decide) (by decide) ?_
                    refine mj_aload_n X dX7_count_126 0 rfl ?_
                    refine mj_get X inwX7_count_X7 (mx_at mx_oX7 h) rfl 7 (by decide) rfl lnX7_count_9 rfl dX7_count_127 ?_
                    exact RET h _ _ _ dX7_count_130 (Option.some.inj hf)
                  · have hf := mm_f c18 hf
                    refine mj_tableOut (tgt := 131) X dX7_count_1 (mm_tout (by intro j h1 h2; rcases (show j = 0 ∨ j = 1 ∨ j = 2 ∨ j = 3 ∨ j = 4 ∨ j = 5 ∨ j = 6 ∨ j = 7 ∨ j = 8 by omega) with rfl | rfl | rfl | rfl | rfl | rfl | rfl | rfl | rfl; exact lv_neT c1 (by decide); exact lv_neT c2 (by decide); exact lv_neT c3 (by decide); exact lv_neT c4 (by decide); exact lv_neT c5 (by decide); exact lv_neT c6 (by decide); exact lv_neT c10 (by decide); exact lv_neT c14 (by decide); exact lv_neT c18 (by decide))) (by decide) ?_
                    refine mj_bipush (v := (-2 : Int32)) X dX7_count_131 (by decide) ?_
                    exact RET h _ _ _ dX7_count_133 (Option.some.inj hf)
abbrev rmX7_mixed : Room := { frames := 0, cells := 0, slots := 0, locals := 0 }
theorem lnX7_mixed_0 : Cond.constantLong RX7 303 (31) ∈ wsX7_mixed := List.mem_of_getElem? (i := 1) rfl
set_option maxHeartbeats 4000000 in
set_option maxRecDepth 100000 in
theorem kX7_mixed (l : Launch) (D : va_G) (t1 t2 : Nat) (cI : ClassId) (cT : ClassId) (cS : ClassId) (ad : Nat → Nat)  (N : Nat) (h : mm_M) (a0 : Int64) (a1 : Int64) (h1 : mm_M) (r : Int64) (hf : fX7_mixed N h a0 a1 = some (h1, r)) : mm_Kl l yX7_mixed wsX7_mixed rmX7_mixed D (mx_ty cI cT cS) t1 t2 (mx_w cI cT cS ad) [.long a0, .long a1] h r h1 := by
  refine mm_open_l [.long a0, .long a1] h r h1 RX7 (by decide) rfl rfl (Nat.le_of_ble_eq_true rfl) ?_
  intro p e s m below meth c A X hr hlocks
  have RET : ∀ (h : mm_M) (pc : Nat) (lo : List (Nat × Value)) (v : Int64), decode cX7_mixed pc = .ok (.lreturn, 1) → (h, v) = (h1, r) → mm_J p l e rmX7_mixed s m ([.long a0, .long a1] : List Value).toArray below meth c 0 0 (MQ below (va_Ql (fun (r' : Int64) (u : mm_M) => r' = r ∧ u = h1) (mm_Post D (mx_w cI cT cS ad) A) A) ([.long a0, .long a1] : List Value).toArray s 0 0 A) D (mx_w cI cT cS ad) A 4 h pc lo [.long v] := by
    intro h2 pc lo v hd he
    cases he
    exact mj_lret X hr hlocks hd
  generalize hout : (h1, r) = out at hf RET
  unfold fX7_mixed at hf
  refine mj_lo (lo' := [(0, .long a0), (2, .long a1)]) rfl ?_
  refine mj_ldc2 (v := (31 : Int64)) X lnX7_mixed_0 dX7_mixed_0 ?_
  refine mj_lload_n X dX7_mixed_3 0 rfl ?_
  refine mj_lmul X dX7_mixed_4 ?_
  refine mj_lload_n X dX7_mixed_5 1 rfl ?_
  refine mj_ladd X dX7_mixed_6 ?_
  exact RET h _ _ _ dX7_mixed_7 (Option.some.inj hf)
abbrev rmX7_mixedPerson : Room := { frames := 5, cells := 0, slots := 0, locals := 119 }
theorem inwX7_mixedPerson_X7 : ∀ w ∈ wsX70, w ∈ wsX7_mixedPerson := by
  intro w hw
  have h9 : wsX70 = (wsX7_mixedPerson.drop 152).take 8 := rfl
  rw [h9] at hw
  exact List.mem_of_mem_drop (List.mem_of_mem_take hw)
theorem lnX7_mixedPerson_0 : Cond.fieldLink RX7 30 "RichestPays" "evening" "LRichestPays$Evening;" ∈ wsX7_mixedPerson := List.mem_of_getElem? (i := 1) rfl
theorem inwX7_mixedPerson_X0 : ∀ w ∈ wsX00, w ∈ wsX7_mixedPerson := by
  intro w hw
  have h9 : wsX00 = (wsX7_mixedPerson.drop 160).take 11 := rfl
  rw [h9] at hw
  exact List.mem_of_mem_drop (List.mem_of_mem_take hw)
theorem lnX7_mixedPerson_1 : Cond.fieldLink RX7 144 "RichestPays$Evening" "rounds" "I" ∈ wsX7_mixedPerson := List.mem_of_getElem? (i := 2) rfl
theorem lnX7_mixedPerson_2 : Cond.fieldLink RX7 39 "RichestPays" "seating" "LRichestPays$Seating;" ∈ wsX7_mixedPerson := List.mem_of_getElem? (i := 3) rfl
theorem lnX7_mixedPerson_3 : Cond.fieldLink RX7 46 "RichestPays" "partings" "LRichestPays$Partings;" ∈ wsX7_mixedPerson := List.mem_of_getElem? (i := 4) rfl
theorem lnX7_mixedPerson_4 : Cond.fieldLink RX7 53 "RichestPays" "secrets" "LRichestPays$Secrets;" ∈ wsX7_mixedPerson := List.mem_of_getElem? (i := 5) rfl
set_option maxHeartbeats 4000000 in
set_option maxRecDepth 100000 in
theorem wX7_mixedPerson_L40 (X : mm_X p s m args c cX7_mixedPerson RX7 wsX7_mixedPerson 7 D (mx_ty cI cT cS) t1 t2 A) (out : mm_M × Int64) (RET : ∀ (h : mm_M) (pc : Nat) (lo : List (Nat × Value)) (v : Int64), decode cX7_mixedPerson pc = .ok (.lreturn, 1) → (h, v) = out → mm_J p l e rmX7_mixedPerson s m args below meth c 0 0 Q D (mx_w cI cT cS ad) A 7 h pc lo [.long v]) (N : Nat)  (p3 : Int32) (k : mm_M → Int64 → Option (mm_M × Int64)) (HK : ∀ (h : mm_M) (m4 : Int64), k h m4 = some out → mm_J p l e rmX7_mixedPerson s m args below meth c 0 0 Q D (mx_w cI cT cS ad) A 7 h 71 [(0, .ref (ad 0)), (3, .int p3), (4, .long m4)] []) : ∀ (n : Nat) (h : mm_M) (m4 : Int64) (m6 : Int32), fX7_mixedPerson_L40 N p3 k n h m4 m6 = some out → mm_J p l e rmX7_mixedPerson s m args below meth c 0 0 Q D (mx_w cI cT cS ad) A 7 h 40 [(0, .ref (ad 0)), (3, .int p3), (4, .long m4), (6, .int m6)] [] := by
  intro n
  induction n with
  | zero =>
    intro h m4 m6 hf
    cases hf
  | succ n ih =>
    intro h m4 m6 hf
    rw [fX7_mixedPerson_L40] at hf
    refine mj_iload X dX7_mixedPerson_40 3 rfl ?_
    refine mj_iconst (v := (3 : Int32)) X dX7_mixedPerson_42 (by decide) ?_
    refine mj_icmp_gt (tgt := 71) X dX7_mixedPerson_43 (by decide) (fun c16 => ?_) (fun c16 => ?_)
    · have hf := mm_t c16 hf
      exact mj_sub [0, 1, 2] rfl (HK h m4 hf)
    · have hf := mm_f c16 hf
      refine mj_lload X dX7_mixedPerson_46 2 rfl ?_
      refine mj_aload_n X dX7_mixedPerson_48 0 rfl ?_
      refine mj_get X inwX7_mixedPerson_X7 (mx_at mx_oX7 h) rfl 2 (by decide) rfl lnX7_mixedPerson_0 rfl dX7_mixedPerson_49 ?_
      refine mj_iload X dX7_mixedPerson_52 3 rfl ?_
      obtain ⟨h17, r18, q19, hf⟩ := mm_c hf
      refine mj_callVr (As := [.int m6]) (rest := [.long m4]) X (kX0_sumsOf l D t1 t2 cI cT cS ad N h m6 h17 r18 q19) (cwV 1 X.2.2.2.2.1 gX7_mixedPerson_X0_sumsOf rfl rfl rfl (by decide +kernel) ⟨Nat.le_of_ble_eq_true rfl, Nat.le_of_ble_eq_true rfl⟩) (mx_at mx_oX0 h) rfl rfl rfl rfl (Nat.le_of_ble_eq_true rfl) ⟨Nat.zero_le _, Nat.zero_le _⟩ dX7_mixedPerson_54 ?_
      have hr18 := kX0_sumsOf_a cI cT cS ad q19
      refine mj_iload_n X dX7_mixedPerson_57 1 rfl ?_
      obtain ⟨g20, hf⟩ := mm_g hf
      refine mj_iald X 0 (mx_at hr18 h17) rfl g20 dX7_mixedPerson_58 ?_
      refine mj_i2l X dX7_mixedPerson_59 ?_
      obtain ⟨h21, r22, q23, hf⟩ := mm_c hf
      refine mj_callSl (As := [.long m4, .long (h17 r18 p3.toNatClampNeg).toInt64]) (rest := []) X (kX7_mixed l D t1 t2 cI cT cS ad N h17 m4 ((h17 r18 p3.toNatClampNeg).toInt64) h21 r22 q23) (va_cwS 2 X.2.2.2.2.1 gX7_mixedPerson_X7_mixed rfl rfl rfl (by decide +kernel) ⟨Nat.le_of_ble_eq_true rfl, Nat.le_of_ble_eq_true rfl⟩) rfl rfl (Nat.le_of_ble_eq_true rfl) ⟨Nat.zero_le _, Nat.zero_le _⟩ dX7_mixedPerson_60 ?_
      refine mj_lstore (lo' := [(4, .long r22), (0, .ref (ad 0)), (3, .int p3), (6, .int m6)]) X dX7_mixedPerson_63 (by decide) rfl ?_
      refine mj_iinc (k := 3) (v := (m6 + 1)) (lo' := [(6, .int (m6 + 1)), (4, .long r22), (0, .ref (ad 0)), (3, .int p3)]) X dX7_mixedPerson_65 rfl rfl (by decide) rfl ?_
      refine mj_goto (tgt := 40) X dX7_mixedPerson_68 (by decide) ?_
      exact mj_sub [2, 3, 1, 0] rfl (ih h21 r22 (m6 + 1) hf)
set_option maxHeartbeats 4000000 in
set_option maxRecDepth 100000 in
theorem kX7_mixedPerson (l : Launch) (D : va_G) (t1 t2 : Nat) (cI : ClassId) (cT : ClassId) (cS : ClassId) (ad : Nat → Nat)  (N : Nat) (h : mm_M) (a0 : Int64) (a1 : Int32) (h1 : mm_M) (r : Int64) (hf : fX7_mixedPerson N h a0 a1 = some (h1, r)) : mm_Kl l yX7_mixedPerson wsX7_mixedPerson rmX7_mixedPerson D (mx_ty cI cT cS) t1 t2 (mx_w cI cT cS ad) [.ref (ad 0), .long a0, .int a1] h r h1 := by
  refine mm_open_l [.ref (ad 0), .long a0, .int a1] h r h1 RX7 (by decide) rfl rfl (Nat.le_of_ble_eq_true rfl) ?_
  intro p e s m below meth c A X hr hlocks
  have RET : ∀ (h : mm_M) (pc : Nat) (lo : List (Nat × Value)) (v : Int64), decode cX7_mixedPerson pc = .ok (.lreturn, 1) → (h, v) = (h1, r) → mm_J p l e rmX7_mixedPerson s m ([.ref (ad 0), .long a0, .int a1] : List Value).toArray below meth c 0 0 (MQ below (va_Ql (fun (r' : Int64) (u : mm_M) => r' = r ∧ u = h1) (mm_Post D (mx_w cI cT cS ad) A) A) ([.ref (ad 0), .long a0, .int a1] : List Value).toArray s 0 0 A) D (mx_w cI cT cS ad) A 7 h pc lo [.long v] := by
    intro h2 pc lo v hd he
    cases he
    exact mj_lret X hr hlocks hd
  generalize hout : (h1, r) = out at hf RET
  unfold fX7_mixedPerson at hf
  refine mj_lo (lo' := [(0, .ref (ad 0)), (1, .long a0), (3, .int a1)]) rfl ?_
  refine mj_lload_n X dX7_mixedPerson_0 1 rfl ?_
  refine mj_aload_n X dX7_mixedPerson_1 0 rfl ?_
  refine mj_iload_n X dX7_mixedPerson_2 2 rfl ?_
  refine mj_iconst (v := (0 : Int32)) X dX7_mixedPerson_3 (by decide) ?_
  obtain ⟨h1, r2, q3, hf⟩ := mm_c hf
  refine mj_callVi (As := [.int a1, .int (0 : Int32)]) (rest := [.long a0]) X (kX7_person l D t1 t2 cI cT cS ad N h a1 (0 : Int32) h1 r2 q3) (cwV 2 X.2.2.2.2.1 gX7_mixedPerson_X7_person rfl rfl rfl (by decide +kernel) ⟨Nat.le_of_ble_eq_true rfl, Nat.le_of_ble_eq_true rfl⟩) (mx_at mx_oX7 h) rfl rfl rfl rfl (Nat.le_of_ble_eq_true rfl) ⟨Nat.zero_le _, Nat.zero_le _⟩ dX7_mixedPerson_4 ?_
  refine mj_i2l X dX7_mixedPerson_7 ?_
  obtain ⟨h4, r5, q6, hf⟩ := mm_c hf
  refine mj_callSl (As := [.long a0, .long r2.toInt64]) (rest := []) X (kX7_mixed l D t1 t2 cI cT cS ad N h1 a0 (r2.toInt64) h4 r5 q6) (va_cwS 2 X.2.2.2.2.1 gX7_mixedPerson_X7_mixed rfl rfl rfl (by decide +kernel) ⟨Nat.le_of_ble_eq_true rfl, Nat.le_of_ble_eq_true rfl⟩) rfl rfl (Nat.le_of_ble_eq_true rfl) ⟨Nat.zero_le _, Nat.zero_le _⟩ dX7_mixedPerson_8 ?_
  refine mj_aload_n X dX7_mixedPerson_11 0 rfl ?_
  refine mj_iload_n X dX7_mixedPerson_12 2 rfl ?_
  refine mj_iconst (v := (1 : Int32)) X dX7_mixedPerson_13 (by decide) ?_
  obtain ⟨h7, r8, q9, hf⟩ := mm_c hf
  refine mj_callVi (As := [.int a1, .int (1 : Int32)]) (rest := [.long r5]) X (kX7_person l D t1 t2 cI cT cS ad N h4 a1 (1 : Int32) h7 r8 q9) (cwV 2 X.2.2.2.2.1 gX7_mixedPerson_X7_person rfl rfl rfl (by decide +kernel) ⟨Nat.le_of_ble_eq_true rfl, Nat.le_of_ble_eq_true rfl⟩) (mx_at mx_oX7 h4) rfl rfl rfl rfl (Nat.le_of_ble_eq_true rfl) ⟨Nat.zero_le _, Nat.zero_le _⟩ dX7_mixedPerson_14 ?_
  refine mj_i2l X dX7_mixedPerson_17 ?_
  obtain ⟨h10, r11, q12, hf⟩ := mm_c hf
  refine mj_callSl (As := [.long r5, .long r8.toInt64]) (rest := []) X (kX7_mixed l D t1 t2 cI cT cS ad N h7 r5 (r8.toInt64) h10 r11 q12) (va_cwS 2 X.2.2.2.2.1 gX7_mixedPerson_X7_mixed rfl rfl rfl (by decide +kernel) ⟨Nat.le_of_ble_eq_true rfl, Nat.le_of_ble_eq_true rfl⟩) rfl rfl (Nat.le_of_ble_eq_true rfl) ⟨Nat.zero_le _, Nat.zero_le _⟩ dX7_mixedPerson_18 ?_
  refine mj_lstore (lo' := [(4, .long r11), (0, .ref (ad 0)), (1, .long a0), (3, .int a1)]) X dX7_mixedPerson_21 (by decide) rfl ?_
  refine mj_aload_n X dX7_mixedPerson_23 1 rfl ?_
  refine mj_get X inwX7_mixedPerson_X7 (mx_at mx_oX7 h10) rfl 2 (by decide) rfl lnX7_mixedPerson_0 rfl dX7_mixedPerson_24 ?_
  refine mj_aload_n X dX7_mixedPerson_27 1 rfl ?_
  refine mj_get X inwX7_mixedPerson_X7 (mx_at mx_oX7 h10) rfl 2 (by decide) rfl lnX7_mixedPerson_0 rfl dX7_mixedPerson_28 ?_
  refine mj_get X inwX7_mixedPerson_X0 (mx_at mx_oX0 h10) rfl 9 (by decide) rfl lnX7_mixedPerson_1 rfl dX7_mixedPerson_31 ?_
  obtain ⟨h13, r14, q15, hf⟩ := mm_c hf
  refine mj_callVv (As := [.int (h10 12 9)]) (rest := []) X (kX0_play l D t1 t2 cI cT cS ad N h10 (h10 12 9) h13 r14 q15) (cwV 1 X.2.2.2.2.1 gX7_mixedPerson_X0_play rfl rfl rfl (by decide +kernel) ⟨Nat.le_of_ble_eq_true rfl, Nat.le_of_ble_eq_true rfl⟩) (mx_at mx_oX0 h10) rfl rfl rfl rfl (Nat.le_of_ble_eq_true rfl) ⟨Nat.zero_le _, Nat.zero_le _⟩ dX7_mixedPerson_34 ?_
  refine mj_iconst (v := (0 : Int32)) X dX7_mixedPerson_37 (by decide) ?_
  refine mj_istore (lo' := [(6, .int (0 : Int32)), (4, .long r11), (0, .ref (ad 0)), (1, .long a0), (3, .int a1)]) X dX7_mixedPerson_38 (by decide) rfl ?_
  refine mj_sub [2, 4, 1, 0] rfl (wX7_mixedPerson_L40 X out RET N a1 _ (fun h24 v25 hf => ?_) N h13 r11 (0 : Int32) hf)
  refine mj_lload X dX7_mixedPerson_71 2 rfl ?_
  refine mj_aload_n X dX7_mixedPerson_73 0 rfl ?_
  refine mj_get X inwX7_mixedPerson_X7 (mx_at mx_oX7 h24) rfl 3 (by decide) rfl lnX7_mixedPerson_2 rfl dX7_mixedPerson_74 ?_
  refine mj_iload_n X dX7_mixedPerson_77 1 rfl ?_
  obtain ⟨h26, r27, q28, hf⟩ := mm_c hf
  refine mj_callVi (As := [.int a1]) (rest := [.long v25]) X (kX3_firstRestTable l D t1 t2 cI cT cS ad N h24 a1 h26 r27 q28) (cwV 1 X.2.2.2.2.1 gX7_mixedPerson_X3_firstRestTable rfl rfl rfl (by decide +kernel) ⟨Nat.le_of_ble_eq_true rfl, Nat.le_of_ble_eq_true rfl⟩) (mx_at mx_oX3 h24) rfl rfl rfl rfl (Nat.le_of_ble_eq_true rfl) ⟨Nat.zero_le _, Nat.zero_le _⟩ dX7_mixedPerson_78 ?_
  refine mj_i2l X dX7_mixedPerson_81 ?_
  obtain ⟨h29, r30, q31, hf⟩ := mm_c hf
  refine mj_callSl (As := [.long v25, .long r27.toInt64]) (rest := []) X (kX7_mixed l D t1 t2 cI cT cS ad N h26 v25 (r27.toInt64) h29 r30 q31) (va_cwS 2 X.2.2.2.2.1 gX7_mixedPerson_X7_mixed rfl rfl rfl (by decide +kernel) ⟨Nat.le_of_ble_eq_true rfl, Nat.le_of_ble_eq_true rfl⟩) rfl rfl (Nat.le_of_ble_eq_true rfl) ⟨Nat.zero_le _, Nat.zero_le _⟩ dX7_mixedPerson_82 ?_
  refine mj_lstore (lo' := [(4, .long r30), (0, .ref (ad 0)), (3, .int a1)]) X dX7_mixedPerson_85 (by decide) rfl ?_
  refine mj_lload X dX7_mixedPerson_87 0 rfl ?_
  refine mj_aload_n X dX7_mixedPerson_89 1 rfl ?_
  refine mj_get X inwX7_mixedPerson_X7 (mx_at mx_oX7 h29) rfl 4 (by decide) rfl lnX7_mixedPerson_3 rfl dX7_mixedPerson_90 ?_
  refine mj_iload_n X dX7_mixedPerson_93 2 rfl ?_
  refine mj_bipush (v := (10 : Int32)) X dX7_mixedPerson_94 (by decide) ?_
  obtain ⟨h32, r33, q34, hf⟩ := mm_c hf
  refine mj_callVi (As := [.int a1, .int (10 : Int32)]) (rest := [.long r30]) X (kX1_fewestDown l D t1 t2 cI cT cS ad N h29 a1 (10 : Int32) h32 r33 q34) (cwV 2 X.2.2.2.2.1 gX7_mixedPerson_X1_fewestDown rfl rfl rfl (by decide +kernel) ⟨Nat.le_of_ble_eq_true rfl, Nat.le_of_ble_eq_true rfl⟩) (mx_at mx_oX1 h29) rfl rfl rfl rfl (Nat.le_of_ble_eq_true rfl) ⟨Nat.zero_le _, Nat.zero_le _⟩ dX7_mixedPerson_96 ?_
  refine mj_i2l X dX7_mixedPerson_99 ?_
  obtain ⟨h35, r36, q37, hf⟩ := mm_c hf
  refine mj_callSl (As := [.long r30, .long r33.toInt64]) (rest := []) X (kX7_mixed l D t1 t2 cI cT cS ad N h32 r30 (r33.toInt64) h35 r36 q37) (va_cwS 2 X.2.2.2.2.1 gX7_mixedPerson_X7_mixed rfl rfl rfl (by decide +kernel) ⟨Nat.le_of_ble_eq_true rfl, Nat.le_of_ble_eq_true rfl⟩) rfl rfl (Nat.le_of_ble_eq_true rfl) ⟨Nat.zero_le _, Nat.zero_le _⟩ dX7_mixedPerson_100 ?_
  refine mj_aload_n X dX7_mixedPerson_103 1 rfl ?_
  refine mj_get X inwX7_mixedPerson_X7 (mx_at mx_oX7 h35) rfl 5 (by decide) rfl lnX7_mixedPerson_4 rfl dX7_mixedPerson_104 ?_
  refine mj_iload_n X dX7_mixedPerson_107 2 rfl ?_
  obtain ⟨h38, r39, q40, hf⟩ := mm_c hf
  refine mj_callVi (As := [.int a1]) (rest := [.long r36]) X (kX4_leastHidden l D t1 t2 cI cT cS ad N h35 a1 h38 r39 q40) (cwV 1 X.2.2.2.2.1 gX7_mixedPerson_X4_leastHidden rfl rfl rfl (by decide +kernel) ⟨Nat.le_of_ble_eq_true rfl, Nat.le_of_ble_eq_true rfl⟩) (mx_at mx_oX4 h35) rfl rfl rfl rfl (Nat.le_of_ble_eq_true rfl) ⟨Nat.zero_le _, Nat.zero_le _⟩ dX7_mixedPerson_108 ?_
  refine mj_i2l X dX7_mixedPerson_111 ?_
  obtain ⟨h41, r42, q43, hf⟩ := mm_c hf
  refine mj_callSl (As := [.long r36, .long r39.toInt64]) (rest := []) X (kX7_mixed l D t1 t2 cI cT cS ad N h38 r36 (r39.toInt64) h41 r42 q43) (va_cwS 2 X.2.2.2.2.1 gX7_mixedPerson_X7_mixed rfl rfl rfl (by decide +kernel) ⟨Nat.le_of_ble_eq_true rfl, Nat.le_of_ble_eq_true rfl⟩) rfl rfl (Nat.le_of_ble_eq_true rfl) ⟨Nat.zero_le _, Nat.zero_le _⟩ dX7_mixedPerson_112 ?_
  exact RET h41 _ _ _ dX7_mixedPerson_115 (Option.some.inj hf)
abbrev rmX7_mixedRound : Room := { frames := 6, cells := 0, slots := 0, locals := 140 }
theorem inwX7_mixedRound_X7 : ∀ w ∈ wsX70, w ∈ wsX7_mixedRound := by
  intro w hw
  have h9 : wsX70 = (wsX7_mixedRound.drop 113).take 8 := rfl
  rw [h9] at hw
  exact List.mem_of_mem_drop (List.mem_of_mem_take hw)
theorem lnX7_mixedRound_0 : Cond.fieldLink RX7 39 "RichestPays" "seating" "LRichestPays$Seating;" ∈ wsX7_mixedRound := List.mem_of_getElem? (i := 1) rfl
set_option maxHeartbeats 4000000 in
set_option maxRecDepth 100000 in
theorem wX7_mixedRound_L35 (X : mm_X p s m args c cX7_mixedRound RX7 wsX7_mixedRound 7 D (mx_ty cI cT cS) t1 t2 A) (out : mm_M × Int64) (RET : ∀ (h : mm_M) (pc : Nat) (lo : List (Nat × Value)) (v : Int64), decode cX7_mixedRound pc = .ok (.lreturn, 1) → (h, v) = out → mm_J p l e rmX7_mixedRound s m args below meth c 0 0 Q D (mx_w cI cT cS ad) A 7 h pc lo [.long v]) (N : Nat)   (k : mm_M → Int64 → Option (mm_M × Int64)) (HK : ∀ (h : mm_M) (m4 : Int64), k h m4 = some out → mm_J p l e rmX7_mixedRound s m args below meth c 0 0 Q D (mx_w cI cT cS ad) A 7 h 64 [(4, .long m4)] []) : ∀ (n : Nat) (h : mm_M) (m4 : Int64) (m6 : Int32), fX7_mixedRound_L35 N k n h m4 m6 = some out → mm_J p l e rmX7_mixedRound s m args below meth c 0 0 Q D (mx_w cI cT cS ad) A 7 h 35 [(0, .ref (ad 0)), (4, .long m4), (6, .int m6)] [] := by
  intro n
  induction n with
  | zero =>
    intro h m4 m6 hf
    cases hf
  | succ n ih =>
    intro h m4 m6 hf
    rw [fX7_mixedRound_L35] at hf
    refine mj_iload X dX7_mixedRound_35 2 rfl ?_
    refine mj_iconst (v := (2 : Int32)) X dX7_mixedRound_37 (by decide) ?_
    refine mj_icmp_gt (tgt := 64) X dX7_mixedRound_38 (by decide) (fun c16 => ?_) (fun c16 => ?_)
    · have hf := mm_t c16 hf
      exact mj_sub [1] rfl (HK h m4 hf)
    · have hf := mm_f c16 hf
      refine mj_lload X dX7_mixedRound_41 1 rfl ?_
      refine mj_aload_n X dX7_mixedRound_43 0 rfl ?_
      refine mj_get X inwX7_mixedRound_X7 (mx_at mx_oX7 h) rfl 3 (by decide) rfl lnX7_mixedRound_0 rfl dX7_mixedRound_44 ?_
      refine mj_iload X dX7_mixedRound_47 2 rfl ?_
      obtain ⟨h17, r18, q19, hf⟩ := mm_c hf
      refine mj_callVi (As := [.int m6]) (rest := [.long m4]) X (kX3_bestTold l D t1 t2 cI cT cS ad N h m6 h17 r18 q19) (cwV 1 X.2.2.2.2.1 gX7_mixedRound_X3_bestTold rfl rfl rfl (by decide +kernel) ⟨Nat.le_of_ble_eq_true rfl, Nat.le_of_ble_eq_true rfl⟩) (mx_at mx_oX3 h) rfl rfl rfl rfl (Nat.le_of_ble_eq_true rfl) ⟨Nat.zero_le _, Nat.zero_le _⟩ dX7_mixedRound_49 ?_
      refine mj_i2l X dX7_mixedRound_52 ?_
      obtain ⟨h20, r21, q22, hf⟩ := mm_c hf
      refine mj_callSl (As := [.long m4, .long r18.toInt64]) (rest := []) X (kX7_mixed l D t1 t2 cI cT cS ad N h17 m4 (r18.toInt64) h20 r21 q22) (va_cwS 2 X.2.2.2.2.1 gX7_mixedRound_X7_mixed rfl rfl rfl (by decide +kernel) ⟨Nat.le_of_ble_eq_true rfl, Nat.le_of_ble_eq_true rfl⟩) rfl rfl (Nat.le_of_ble_eq_true rfl) ⟨Nat.zero_le _, Nat.zero_le _⟩ dX7_mixedRound_53 ?_
      refine mj_lstore (lo' := [(4, .long r21), (0, .ref (ad 0)), (6, .int m6)]) X dX7_mixedRound_56 (by decide) rfl ?_
      refine mj_iinc (k := 2) (v := (m6 + 1)) (lo' := [(6, .int (m6 + 1)), (4, .long r21), (0, .ref (ad 0))]) X dX7_mixedRound_58 rfl rfl (by decide) rfl ?_
      refine mj_goto (tgt := 35) X dX7_mixedRound_61 (by decide) ?_
      exact mj_sub [2, 1, 0] rfl (ih h20 r21 (m6 + 1) hf)
set_option maxHeartbeats 4000000 in
set_option maxRecDepth 100000 in
theorem kX7_mixedRound (l : Launch) (D : va_G) (t1 t2 : Nat) (cI : ClassId) (cT : ClassId) (cS : ClassId) (ad : Nat → Nat)  (N : Nat) (h : mm_M) (a0 : Int64) (a1 : Int32) (h1 : mm_M) (r : Int64) (hf : fX7_mixedRound N h a0 a1 = some (h1, r)) : mm_Kl l yX7_mixedRound wsX7_mixedRound rmX7_mixedRound D (mx_ty cI cT cS) t1 t2 (mx_w cI cT cS ad) [.ref (ad 0), .long a0, .int a1] h r h1 := by
  refine mm_open_l [.ref (ad 0), .long a0, .int a1] h r h1 RX7 (by decide) rfl rfl (Nat.le_of_ble_eq_true rfl) ?_
  intro p e s m below meth c A X hr hlocks
  have RET : ∀ (h : mm_M) (pc : Nat) (lo : List (Nat × Value)) (v : Int64), decode cX7_mixedRound pc = .ok (.lreturn, 1) → (h, v) = (h1, r) → mm_J p l e rmX7_mixedRound s m ([.ref (ad 0), .long a0, .int a1] : List Value).toArray below meth c 0 0 (MQ below (va_Ql (fun (r' : Int64) (u : mm_M) => r' = r ∧ u = h1) (mm_Post D (mx_w cI cT cS ad) A) A) ([.ref (ad 0), .long a0, .int a1] : List Value).toArray s 0 0 A) D (mx_w cI cT cS ad) A 7 h pc lo [.long v] := by
    intro h2 pc lo v hd he
    cases he
    exact mj_lret X hr hlocks hd
  generalize hout : (h1, r) = out at hf RET
  unfold fX7_mixedRound at hf
  refine mj_lo (lo' := [(0, .ref (ad 0)), (1, .long a0), (3, .int a1)]) rfl ?_
  refine mj_lload_n X dX7_mixedRound_0 1 rfl ?_
  refine mj_aload_n X dX7_mixedRound_1 0 rfl ?_
  refine mj_iload_n X dX7_mixedRound_2 2 rfl ?_
  refine mj_iconst (v := (0 : Int32)) X dX7_mixedRound_3 (by decide) ?_
  obtain ⟨h1, r2, q3, hf⟩ := mm_c hf
  refine mj_callVi (As := [.int a1, .int (0 : Int32)]) (rest := [.long a0]) X (kX7_payer l D t1 t2 cI cT cS ad N h a1 (0 : Int32) h1 r2 q3) (cwV 2 X.2.2.2.2.1 gX7_mixedRound_X7_payer rfl rfl rfl (by decide +kernel) ⟨Nat.le_of_ble_eq_true rfl, Nat.le_of_ble_eq_true rfl⟩) (mx_at mx_oX7 h) rfl rfl rfl rfl (Nat.le_of_ble_eq_true rfl) ⟨Nat.zero_le _, Nat.zero_le _⟩ dX7_mixedRound_4 ?_
  refine mj_i2l X dX7_mixedRound_7 ?_
  obtain ⟨h4, r5, q6, hf⟩ := mm_c hf
  refine mj_callSl (As := [.long a0, .long r2.toInt64]) (rest := []) X (kX7_mixed l D t1 t2 cI cT cS ad N h1 a0 (r2.toInt64) h4 r5 q6) (va_cwS 2 X.2.2.2.2.1 gX7_mixedRound_X7_mixed rfl rfl rfl (by decide +kernel) ⟨Nat.le_of_ble_eq_true rfl, Nat.le_of_ble_eq_true rfl⟩) rfl rfl (Nat.le_of_ble_eq_true rfl) ⟨Nat.zero_le _, Nat.zero_le _⟩ dX7_mixedRound_8 ?_
  refine mj_aload_n X dX7_mixedRound_11 0 rfl ?_
  refine mj_iload_n X dX7_mixedRound_12 2 rfl ?_
  refine mj_iconst (v := (1 : Int32)) X dX7_mixedRound_13 (by decide) ?_
  obtain ⟨h7, r8, q9, hf⟩ := mm_c hf
  refine mj_callVi (As := [.int a1, .int (1 : Int32)]) (rest := [.long r5]) X (kX7_payer l D t1 t2 cI cT cS ad N h4 a1 (1 : Int32) h7 r8 q9) (cwV 2 X.2.2.2.2.1 gX7_mixedRound_X7_payer rfl rfl rfl (by decide +kernel) ⟨Nat.le_of_ble_eq_true rfl, Nat.le_of_ble_eq_true rfl⟩) (mx_at mx_oX7 h4) rfl rfl rfl rfl (Nat.le_of_ble_eq_true rfl) ⟨Nat.zero_le _, Nat.zero_le _⟩ dX7_mixedRound_14 ?_
  refine mj_i2l X dX7_mixedRound_17 ?_
  obtain ⟨h10, r11, q12, hf⟩ := mm_c hf
  refine mj_callSl (As := [.long r5, .long r8.toInt64]) (rest := []) X (kX7_mixed l D t1 t2 cI cT cS ad N h7 r5 (r8.toInt64) h10 r11 q12) (va_cwS 2 X.2.2.2.2.1 gX7_mixedRound_X7_mixed rfl rfl rfl (by decide +kernel) ⟨Nat.le_of_ble_eq_true rfl, Nat.le_of_ble_eq_true rfl⟩) rfl rfl (Nat.le_of_ble_eq_true rfl) ⟨Nat.zero_le _, Nat.zero_le _⟩ dX7_mixedRound_18 ?_
  refine mj_lstore (lo' := [(4, .long r11), (0, .ref (ad 0)), (1, .long a0), (3, .int a1)]) X dX7_mixedRound_21 (by decide) rfl ?_
  refine mj_aload_n X dX7_mixedRound_23 1 rfl ?_
  refine mj_get X inwX7_mixedRound_X7 (mx_at mx_oX7 h10) rfl 3 (by decide) rfl lnX7_mixedRound_0 rfl dX7_mixedRound_24 ?_
  refine mj_iload_n X dX7_mixedRound_27 3 rfl ?_
  refine mj_iconst (v := (0 : Int32)) X dX7_mixedRound_28 (by decide) ?_
  obtain ⟨h13, r14, q15, hf⟩ := mm_c hf
  refine mj_callVv (As := [.int a1, .int (0 : Int32)]) (rest := []) X (kX3_findBest l D t1 t2 cI cT cS ad N h10 a1 (0 : Int32) h13 r14 q15) (cwV 2 X.2.2.2.2.1 gX7_mixedRound_X3_findBest rfl rfl rfl (by decide +kernel) ⟨Nat.le_of_ble_eq_true rfl, Nat.le_of_ble_eq_true rfl⟩) (mx_at mx_oX3 h10) rfl rfl rfl rfl (Nat.le_of_ble_eq_true rfl) ⟨Nat.zero_le _, Nat.zero_le _⟩ dX7_mixedRound_29 ?_
  refine mj_iconst (v := (0 : Int32)) X dX7_mixedRound_32 (by decide) ?_
  refine mj_istore (lo' := [(6, .int (0 : Int32)), (4, .long r11), (0, .ref (ad 0)), (1, .long a0), (3, .int a1)]) X dX7_mixedRound_33 (by decide) rfl ?_
  refine mj_sub [2, 1, 0] rfl (wX7_mixedRound_L35 X out RET N _ (fun h23 v24 hf => ?_) N h13 r11 (0 : Int32) hf)
  refine mj_lload X dX7_mixedRound_64 0 rfl ?_
  exact RET h23 _ _ _ dX7_mixedRound_66 (Option.some.inj hf)
end
