section
variable {p : Program} {l : Launch} {e : Env} {s : State} {m : MethodId} {args : Array Value} {below : List Frame} {meth : Method} {c : Code} {Q : State → Prop} {D : va_G} {A : Nat → Prop} {t1 t2 : Nat} {cI cT cS cZ : ClassId} {ad : Nat → Nat}
abbrev rmX7_state : Room := { frames := 5, cells := 0, slots := 0, locals := 118 }
theorem inwX7_state_X7 : ∀ w ∈ wsX70, w ∈ wsX7_state := by
  intro w hw
  have h9 : wsX70 = (wsX7_state.drop 81).take 8 := rfl
  rw [h9] at hw
  exact List.mem_of_mem_drop (List.mem_of_mem_take hw)
theorem lnX7_state_0 : Cond.fieldLink RX7 30 "RichestPays" "evening" "LRichestPays$Evening;" ∈ wsX7_state := List.mem_of_getElem? (i := 1) rfl
theorem inwX7_state_X0 : ∀ w ∈ wsX00, w ∈ wsX7_state := by
  intro w hw
  have h9 : wsX00 = (wsX7_state.drop 89).take 11 := rfl
  rw [h9] at hw
  exact List.mem_of_mem_drop (List.mem_of_mem_take hw)
theorem lnX7_state_1 : Cond.fieldLink RX7 144 "RichestPays$Evening" "rounds" "I" ∈ wsX7_state := List.mem_of_getElem? (i := 2) rfl
set_option maxHeartbeats 4000000 in
set_option maxRecDepth 100000 in
theorem kX7_state (l : Launch) (D : va_G) (t1 t2 : Nat) (cI : ClassId) (cT : ClassId) (cS : ClassId) (ad : Nat → Nat)  (N : Nat) (h : mm_M) (a0 : Int32) (a1 : Int32) (a2 : Int32) (h1 : mm_M) (r : Int32) (hf : fX7_state N h a0 a1 a2 = some (h1, r)) : mm_Ki l yX7_state wsX7_state rmX7_state D (mx_ty cI cT cS) t1 t2 (mx_w cI cT cS ad) [.ref (ad 0), .int a0, .int a1, .int a2] h r h1 := by
  refine mm_open_i [.ref (ad 0), .int a0, .int a1, .int a2] h r h1 RX7 (by decide) rfl rfl (Nat.le_of_ble_eq_true rfl) ?_
  intro p e s m below meth c A X hr hlocks
  have RET : ∀ (h : mm_M) (pc : Nat) (lo : List (Nat × Value)) (v : Int32), decode cX7_state pc = .ok (.ireturn, 1) → (h, v) = (h1, r) → mm_J p l e rmX7_state s m ([.ref (ad 0), .int a0, .int a1, .int a2] : List Value).toArray below meth c 0 0 (MQ below (va_Qi (fun (r' : Int32) (u : mm_M) => r' = r ∧ u = h1) (mm_Post D (mx_w cI cT cS ad) A) A) ([.ref (ad 0), .int a0, .int a1, .int a2] : List Value).toArray s 0 0 A) D (mx_w cI cT cS ad) A 4 h pc lo [.int v] := by
    intro h2 pc lo v hd he
    cases he
    exact mj_iret X hr rfl hlocks hd
  generalize hout : (h1, r) = out at hf RET
  unfold fX7_state at hf
  refine mj_lo (lo' := [(0, .ref (ad 0)), (1, .int a0), (2, .int a1), (3, .int a2)]) rfl ?_
  refine mj_aload_n X dX7_state_0 0 rfl ?_
  refine mj_iload_n X dX7_state_1 1 rfl ?_
  obtain ⟨h1, r2, q3, hf⟩ := mm_c hf
  refine mj_callVi (As := [.int a0]) (rest := []) X (kX7_isPerson l D t1 t2 cI cT cS ad N h a0 h1 r2 q3) (cwV 1 X.2.2.2.2.1 gX7_state_X7_isPerson rfl rfl rfl (by decide +kernel) ⟨Nat.le_of_ble_eq_true rfl, Nat.le_of_ble_eq_true rfl⟩) (mx_at mx_oX7 h) rfl rfl rfl rfl (Nat.le_of_ble_eq_true rfl) ⟨Nat.zero_le _, Nat.zero_le _⟩ dX7_state_2 ?_
  refine mj_if_eq (tgt := 32) X dX7_state_5 (by decide) (fun c4 => ?_) (fun c4 => ?_)
  · have hf := mm_t c4 hf
    refine mj_bipush (v := (-2 : Int32)) X dX7_state_32 (by decide) ?_
    exact RET h1 _ _ _ dX7_state_34 (Option.some.inj hf)
  · have hf := mm_f c4 hf
    refine mj_iload_n X dX7_state_8 2 rfl ?_
    refine mj_iconst (v := (0 : Int32)) X dX7_state_9 (by decide) ?_
    refine mj_aload_n X dX7_state_10 0 rfl ?_
    refine mj_get X inwX7_state_X7 (mx_at mx_oX7 h1) rfl 2 (by decide) rfl lnX7_state_0 rfl dX7_state_11 ?_
    refine mj_get X inwX7_state_X0 (mx_at mx_oX0 h1) rfl 9 (by decide) rfl lnX7_state_1 rfl dX7_state_14 ?_
    obtain ⟨h5, r6, q7, hf⟩ := mm_c hf
    refine mj_callSi (As := [.int a1, .int (0 : Int32), .int (h1 12 9)]) (rest := []) X (kX7_isIn l D t1 t2 cI cT cS ad N h1 a1 (0 : Int32) (h1 12 9) h5 r6 q7) (va_cwS 3 X.2.2.2.2.1 gX7_state_X7_isIn rfl rfl rfl (by decide +kernel) ⟨Nat.le_of_ble_eq_true rfl, Nat.le_of_ble_eq_true rfl⟩) rfl rfl (Nat.le_of_ble_eq_true rfl) ⟨Nat.zero_le _, Nat.zero_le _⟩ dX7_state_17 ?_
    refine mj_if_eq (tgt := 32) X dX7_state_20 (by decide) (fun c8 => ?_) (fun c8 => ?_)
    · have hf := mm_t c8 hf
      refine mj_bipush (v := (-2 : Int32)) X dX7_state_32 (by decide) ?_
      exact RET h5 _ _ _ dX7_state_34 (Option.some.inj hf)
    · have hf := mm_f c8 hf
      refine mj_iload_n X dX7_state_23 3 rfl ?_
      refine mj_iconst (v := (0 : Int32)) X dX7_state_24 (by decide) ?_
      refine mj_iconst (v := (3 : Int32)) X dX7_state_25 (by decide) ?_
      obtain ⟨h9, r10, q11, hf⟩ := mm_c hf
      refine mj_callSi (As := [.int a2, .int (0 : Int32), .int (3 : Int32)]) (rest := []) X (kX7_isIn l D t1 t2 cI cT cS ad N h5 a2 (0 : Int32) (3 : Int32) h9 r10 q11) (va_cwS 3 X.2.2.2.2.1 gX7_state_X7_isIn rfl rfl rfl (by decide +kernel) ⟨Nat.le_of_ble_eq_true rfl, Nat.le_of_ble_eq_true rfl⟩) rfl rfl (Nat.le_of_ble_eq_true rfl) ⟨Nat.zero_le _, Nat.zero_le _⟩ dX7_state_26 ?_
      refine mj_if_ne (tgt := 35) X dX7_state_29 (by decide) (fun c12 => ?_) (fun c12 => ?_)
      · have hf := mm_f c12 hf
        refine mj_aload_n X dX7_state_35 0 rfl ?_
        refine mj_get X inwX7_state_X7 (mx_at mx_oX7 h9) rfl 2 (by decide) rfl lnX7_state_0 rfl dX7_state_36 ?_
        refine mj_iload_n X dX7_state_39 2 rfl ?_
        obtain ⟨h13, r14, q15, hf⟩ := mm_c hf
        refine mj_callVv (As := [.int a1]) (rest := []) X (kX0_play l D t1 t2 cI cT cS ad N h9 a1 h13 r14 q15) (cwV 1 X.2.2.2.2.1 gX7_state_X0_play rfl rfl rfl (by decide +kernel) ⟨Nat.le_of_ble_eq_true rfl, Nat.le_of_ble_eq_true rfl⟩) (mx_at mx_oX0 h9) rfl rfl rfl rfl (Nat.le_of_ble_eq_true rfl) ⟨Nat.zero_le _, Nat.zero_le _⟩ dX7_state_40 ?_
        refine mj_aload_n X dX7_state_43 0 rfl ?_
        refine mj_get X inwX7_state_X7 (mx_at mx_oX7 h13) rfl 2 (by decide) rfl lnX7_state_0 rfl dX7_state_44 ?_
        refine mj_iload_n X dX7_state_47 3 rfl ?_
        obtain ⟨h16, r17, q18, hf⟩ := mm_c hf
        refine mj_callVr (As := [.int a2]) (rest := []) X (kX0_sumsOf l D t1 t2 cI cT cS ad N h13 a2 h16 r17 q18) (cwV 1 X.2.2.2.2.1 gX7_state_X0_sumsOf rfl rfl rfl (by decide +kernel) ⟨Nat.le_of_ble_eq_true rfl, Nat.le_of_ble_eq_true rfl⟩) (mx_at mx_oX0 h13) rfl rfl rfl rfl (Nat.le_of_ble_eq_true rfl) ⟨Nat.zero_le _, Nat.zero_le _⟩ dX7_state_48 ?_
        have hr17 := kX0_sumsOf_a cI cT cS ad q18
        refine mj_iload_n X dX7_state_51 1 rfl ?_
        obtain ⟨g19, hf⟩ := mm_g hf
        refine mj_iald X 0 (mx_at hr17 h16) rfl g19 dX7_state_52 ?_
        exact RET h16 _ _ _ dX7_state_53 (Option.some.inj hf)
      · have hf := mm_t c12 hf
        refine mj_bipush (v := (-2 : Int32)) X dX7_state_32 (by decide) ?_
        exact RET h9 _ _ _ dX7_state_34 (Option.some.inj hf)
abbrev rmX7_all : Room := { frames := 5, cells := 0, slots := 0, locals := 118 }
theorem inwX7_all_X7 : ∀ w ∈ wsX70, w ∈ wsX7_all := by
  intro w hw
  have h9 : wsX70 = (wsX7_all.drop 80).take 8 := rfl
  rw [h9] at hw
  exact List.mem_of_mem_drop (List.mem_of_mem_take hw)
theorem lnX7_all_0 : Cond.fieldLink RX7 30 "RichestPays" "evening" "LRichestPays$Evening;" ∈ wsX7_all := List.mem_of_getElem? (i := 1) rfl
theorem inwX7_all_X0 : ∀ w ∈ wsX00, w ∈ wsX7_all := by
  intro w hw
  have h9 : wsX00 = (wsX7_all.drop 88).take 11 := rfl
  rw [h9] at hw
  exact List.mem_of_mem_drop (List.mem_of_mem_take hw)
theorem lnX7_all_1 : Cond.fieldLink RX7 144 "RichestPays$Evening" "rounds" "I" ∈ wsX7_all := List.mem_of_getElem? (i := 2) rfl
theorem lnX7_all_2 : Cond.fieldLink RX7 21 "RichestPays" "people" "LRichestPays$People;" ∈ wsX7_all := List.mem_of_getElem? (i := 3) rfl
set_option maxHeartbeats 4000000 in
set_option maxRecDepth 100000 in
theorem kX7_all (l : Launch) (D : va_G) (t1 t2 : Nat) (cI : ClassId) (cT : ClassId) (cS : ClassId) (ad : Nat → Nat)  (N : Nat) (h : mm_M) (a0 : Int32) (a1 : Int32) (h1 : mm_M) (r : Int32) (hf : fX7_all N h a0 a1 = some (h1, r)) : mm_Ki l yX7_all wsX7_all rmX7_all D (mx_ty cI cT cS) t1 t2 (mx_w cI cT cS ad) [.ref (ad 0), .int a0, .int a1] h r h1 := by
  refine mm_open_i [.ref (ad 0), .int a0, .int a1] h r h1 RX7 (by decide) rfl rfl (Nat.le_of_ble_eq_true rfl) ?_
  intro p e s m below meth c A X hr hlocks
  have RET : ∀ (h : mm_M) (pc : Nat) (lo : List (Nat × Value)) (v : Int32), decode cX7_all pc = .ok (.ireturn, 1) → (h, v) = (h1, r) → mm_J p l e rmX7_all s m ([.ref (ad 0), .int a0, .int a1] : List Value).toArray below meth c 0 0 (MQ below (va_Qi (fun (r' : Int32) (u : mm_M) => r' = r ∧ u = h1) (mm_Post D (mx_w cI cT cS ad) A) A) ([.ref (ad 0), .int a0, .int a1] : List Value).toArray s 0 0 A) D (mx_w cI cT cS ad) A 3 h pc lo [.int v] := by
    intro h2 pc lo v hd he
    cases he
    exact mj_iret X hr rfl hlocks hd
  generalize hout : (h1, r) = out at hf RET
  unfold fX7_all at hf
  refine mj_lo (lo' := [(0, .ref (ad 0)), (1, .int a0), (2, .int a1)]) rfl ?_
  refine mj_iload_n X dX7_all_0 1 rfl ?_
  refine mj_iconst (v := (0 : Int32)) X dX7_all_1 (by decide) ?_
  refine mj_aload_n X dX7_all_2 0 rfl ?_
  refine mj_get X inwX7_all_X7 (mx_at mx_oX7 h) rfl 2 (by decide) rfl lnX7_all_0 rfl dX7_all_3 ?_
  refine mj_get X inwX7_all_X0 (mx_at mx_oX0 h) rfl 9 (by decide) rfl lnX7_all_1 rfl dX7_all_6 ?_
  obtain ⟨h1, r2, q3, hf⟩ := mm_c hf
  refine mj_callSi (As := [.int a0, .int (0 : Int32), .int (h 12 9)]) (rest := []) X (kX7_isIn l D t1 t2 cI cT cS ad N h a0 (0 : Int32) (h 12 9) h1 r2 q3) (va_cwS 3 X.2.2.2.2.1 gX7_all_X7_isIn rfl rfl rfl (by decide +kernel) ⟨Nat.le_of_ble_eq_true rfl, Nat.le_of_ble_eq_true rfl⟩) rfl rfl (Nat.le_of_ble_eq_true rfl) ⟨Nat.zero_le _, Nat.zero_le _⟩ dX7_all_9 ?_
  refine mj_if_eq (tgt := 24) X dX7_all_12 (by decide) (fun c4 => ?_) (fun c4 => ?_)
  · have hf := mm_t c4 hf
    refine mj_bipush (v := (-2 : Int32)) X dX7_all_24 (by decide) ?_
    exact RET h1 _ _ _ dX7_all_26 (Option.some.inj hf)
  · have hf := mm_f c4 hf
    refine mj_iload_n X dX7_all_15 2 rfl ?_
    refine mj_iconst (v := (0 : Int32)) X dX7_all_16 (by decide) ?_
    refine mj_iconst (v := (3 : Int32)) X dX7_all_17 (by decide) ?_
    obtain ⟨h5, r6, q7, hf⟩ := mm_c hf
    refine mj_callSi (As := [.int a1, .int (0 : Int32), .int (3 : Int32)]) (rest := []) X (kX7_isIn l D t1 t2 cI cT cS ad N h1 a1 (0 : Int32) (3 : Int32) h5 r6 q7) (va_cwS 3 X.2.2.2.2.1 gX7_all_X7_isIn rfl rfl rfl (by decide +kernel) ⟨Nat.le_of_ble_eq_true rfl, Nat.le_of_ble_eq_true rfl⟩) rfl rfl (Nat.le_of_ble_eq_true rfl) ⟨Nat.zero_le _, Nat.zero_le _⟩ dX7_all_18 ?_
    refine mj_if_ne (tgt := 27) X dX7_all_21 (by decide) (fun c8 => ?_) (fun c8 => ?_)
    · have hf := mm_f c8 hf
      refine mj_aload_n X dX7_all_27 0 rfl ?_
      refine mj_get X inwX7_all_X7 (mx_at mx_oX7 h5) rfl 2 (by decide) rfl lnX7_all_0 rfl dX7_all_28 ?_
      refine mj_iload_n X dX7_all_31 1 rfl ?_
      obtain ⟨h9, r10, q11, hf⟩ := mm_c hf
      refine mj_callVv (As := [.int a0]) (rest := []) X (kX0_play l D t1 t2 cI cT cS ad N h5 a0 h9 r10 q11) (cwV 1 X.2.2.2.2.1 gX7_all_X0_play rfl rfl rfl (by decide +kernel) ⟨Nat.le_of_ble_eq_true rfl, Nat.le_of_ble_eq_true rfl⟩) (mx_at mx_oX0 h5) rfl rfl rfl rfl (Nat.le_of_ble_eq_true rfl) ⟨Nat.zero_le _, Nat.zero_le _⟩ dX7_all_32 ?_
      refine mj_aload_n X dX7_all_35 0 rfl ?_
      refine mj_get X inwX7_all_X7 (mx_at mx_oX7 h9) rfl 1 (by decide) rfl lnX7_all_2 rfl dX7_all_36 ?_
      refine mj_aload_n X dX7_all_39 0 rfl ?_
      refine mj_get X inwX7_all_X7 (mx_at mx_oX7 h9) rfl 2 (by decide) rfl lnX7_all_0 rfl dX7_all_40 ?_
      refine mj_iload_n X dX7_all_43 2 rfl ?_
      obtain ⟨h12, r13, q14, hf⟩ := mm_c hf
      refine mj_callVr (As := [.int a1]) (rest := [.ref (ad 6)]) X (kX0_sumsOf l D t1 t2 cI cT cS ad N h9 a1 h12 r13 q14) (cwV 1 X.2.2.2.2.1 gX7_all_X0_sumsOf rfl rfl rfl (by decide +kernel) ⟨Nat.le_of_ble_eq_true rfl, Nat.le_of_ble_eq_true rfl⟩) (mx_at mx_oX0 h9) rfl rfl rfl rfl (Nat.le_of_ble_eq_true rfl) ⟨Nat.zero_le _, Nat.zero_le _⟩ dX7_all_44 ?_
      have hr13 := kX0_sumsOf_a cI cT cS ad q14
      obtain ⟨h15, r16, q17, hf⟩ := mm_c hf
      refine mj_callVi (As := [.ref (ad r13)]) (rest := []) X (kX2_together l D t1 t2 cI cT cS ad r13 hr13 N h12 h15 r16 q17) (cwV 1 X.2.2.2.2.1 gX7_all_X2_together rfl rfl rfl (by decide +kernel) ⟨Nat.le_of_ble_eq_true rfl, Nat.le_of_ble_eq_true rfl⟩) (mx_at mx_oX2 h12) rfl rfl rfl rfl (Nat.le_of_ble_eq_true rfl) ⟨Nat.zero_le _, Nat.zero_le _⟩ dX7_all_47 ?_
      exact RET h15 _ _ _ dX7_all_50 (Option.some.inj hf)
    · have hf := mm_t c8 hf
      refine mj_bipush (v := (-2 : Int32)) X dX7_all_24 (by decide) ?_
      exact RET h5 _ _ _ dX7_all_26 (Option.some.inj hf)
abbrev rmX7_payer : Room := { frames := 5, cells := 0, slots := 0, locals := 118 }
theorem inwX7_payer_X7 : ∀ w ∈ wsX70, w ∈ wsX7_payer := by
  intro w hw
  have h9 : wsX70 = (wsX7_payer.drop 79).take 8 := rfl
  rw [h9] at hw
  exact List.mem_of_mem_drop (List.mem_of_mem_take hw)
theorem lnX7_payer_0 : Cond.fieldLink RX7 30 "RichestPays" "evening" "LRichestPays$Evening;" ∈ wsX7_payer := List.mem_of_getElem? (i := 1) rfl
theorem lnX7_payer_1 : Cond.fieldLink RX7 21 "RichestPays" "people" "LRichestPays$People;" ∈ wsX7_payer := List.mem_of_getElem? (i := 2) rfl
theorem inwX7_payer_X0 : ∀ w ∈ wsX00, w ∈ wsX7_payer := by
  intro w hw
  have h9 : wsX00 = (wsX7_payer.drop 87).take 11 := rfl
  rw [h9] at hw
  exact List.mem_of_mem_drop (List.mem_of_mem_take hw)
theorem lnX7_payer_2 : Cond.fieldLink RX7 158 "RichestPays$Evening" "paidNow" "[I" ∈ wsX7_payer := List.mem_of_getElem? (i := 3) rfl
set_option maxHeartbeats 4000000 in
set_option maxRecDepth 100000 in
theorem kX7_payer (l : Launch) (D : va_G) (t1 t2 : Nat) (cI : ClassId) (cT : ClassId) (cS : ClassId) (ad : Nat → Nat)  (N : Nat) (h : mm_M) (a0 : Int32) (a1 : Int32) (h1 : mm_M) (r : Int32) (hf : fX7_payer N h a0 a1 = some (h1, r)) : mm_Ki l yX7_payer wsX7_payer rmX7_payer D (mx_ty cI cT cS) t1 t2 (mx_w cI cT cS ad) [.ref (ad 0), .int a0, .int a1] h r h1 := by
  refine mm_open_i [.ref (ad 0), .int a0, .int a1] h r h1 RX7 (by decide) rfl rfl (Nat.le_of_ble_eq_true rfl) ?_
  intro p e s m below meth c A X hr hlocks
  have RET : ∀ (h : mm_M) (pc : Nat) (lo : List (Nat × Value)) (v : Int32), decode cX7_payer pc = .ok (.ireturn, 1) → (h, v) = (h1, r) → mm_J p l e rmX7_payer s m ([.ref (ad 0), .int a0, .int a1] : List Value).toArray below meth c 0 0 (MQ below (va_Qi (fun (r' : Int32) (u : mm_M) => r' = r ∧ u = h1) (mm_Post D (mx_w cI cT cS ad) A) A) ([.ref (ad 0), .int a0, .int a1] : List Value).toArray s 0 0 A) D (mx_w cI cT cS ad) A 3 h pc lo [.int v] := by
    intro h2 pc lo v hd he
    cases he
    exact mj_iret X hr rfl hlocks hd
  generalize hout : (h1, r) = out at hf RET
  unfold fX7_payer at hf
  refine mj_lo (lo' := [(0, .ref (ad 0)), (1, .int a0), (2, .int a1)]) rfl ?_
  refine mj_aload_n X dX7_payer_0 0 rfl ?_
  refine mj_iload_n X dX7_payer_1 1 rfl ?_
  obtain ⟨h1, r2, q3, hf⟩ := mm_c hf
  refine mj_callVi (As := [.int a0]) (rest := []) X (kX7_isRound l D t1 t2 cI cT cS ad N h a0 h1 r2 q3) (cwV 1 X.2.2.2.2.1 gX7_payer_X7_isRound rfl rfl rfl (by decide +kernel) ⟨Nat.le_of_ble_eq_true rfl, Nat.le_of_ble_eq_true rfl⟩) (mx_at mx_oX7 h) rfl rfl rfl rfl (Nat.le_of_ble_eq_true rfl) ⟨Nat.zero_le _, Nat.zero_le _⟩ dX7_payer_2 ?_
  refine mj_if_eq (tgt := 17) X dX7_payer_5 (by decide) (fun c4 => ?_) (fun c4 => ?_)
  · have hf := mm_t c4 hf
    refine mj_bipush (v := (-2 : Int32)) X dX7_payer_17 (by decide) ?_
    exact RET h1 _ _ _ dX7_payer_19 (Option.some.inj hf)
  · have hf := mm_f c4 hf
    refine mj_iload_n X dX7_payer_8 2 rfl ?_
    refine mj_iconst (v := (0 : Int32)) X dX7_payer_9 (by decide) ?_
    refine mj_iconst (v := (5 : Int32)) X dX7_payer_10 (by decide) ?_
    obtain ⟨h5, r6, q7, hf⟩ := mm_c hf
    refine mj_callSi (As := [.int a1, .int (0 : Int32), .int (5 : Int32)]) (rest := []) X (kX7_isIn l D t1 t2 cI cT cS ad N h1 a1 (0 : Int32) (5 : Int32) h5 r6 q7) (va_cwS 3 X.2.2.2.2.1 gX7_payer_X7_isIn rfl rfl rfl (by decide +kernel) ⟨Nat.le_of_ble_eq_true rfl, Nat.le_of_ble_eq_true rfl⟩) rfl rfl (Nat.le_of_ble_eq_true rfl) ⟨Nat.zero_le _, Nat.zero_le _⟩ dX7_payer_11 ?_
    refine mj_if_ne (tgt := 20) X dX7_payer_14 (by decide) (fun c8 => ?_) (fun c8 => ?_)
    · have hf := mm_f c8 hf
      refine mj_aload_n X dX7_payer_20 0 rfl ?_
      refine mj_get X inwX7_payer_X7 (mx_at mx_oX7 h5) rfl 2 (by decide) rfl lnX7_payer_0 rfl dX7_payer_21 ?_
      refine mj_iload_n X dX7_payer_24 1 rfl ?_
      refine mj_iconst (v := (1 : Int32)) X dX7_payer_25 (by decide) ?_
      refine mj_iadd X dX7_payer_26 ?_
      obtain ⟨h9, r10, q11, hf⟩ := mm_c hf
      refine mj_callVv (As := [.int (a0 + (1 : Int32))]) (rest := []) X (kX0_play l D t1 t2 cI cT cS ad N h5 ((a0 + (1 : Int32))) h9 r10 q11) (cwV 1 X.2.2.2.2.1 gX7_payer_X0_play rfl rfl rfl (by decide +kernel) ⟨Nat.le_of_ble_eq_true rfl, Nat.le_of_ble_eq_true rfl⟩) (mx_at mx_oX0 h5) rfl rfl rfl rfl (Nat.le_of_ble_eq_true rfl) ⟨Nat.zero_le _, Nat.zero_le _⟩ dX7_payer_27 ?_
      refine mj_aload_n X dX7_payer_30 0 rfl ?_
      refine mj_get X inwX7_payer_X7 (mx_at mx_oX7 h9) rfl 1 (by decide) rfl lnX7_payer_1 rfl dX7_payer_31 ?_
      refine mj_aload_n X dX7_payer_34 0 rfl ?_
      refine mj_get X inwX7_payer_X7 (mx_at mx_oX7 h9) rfl 2 (by decide) rfl lnX7_payer_0 rfl dX7_payer_35 ?_
      refine mj_get X inwX7_payer_X0 (mx_at mx_oX0 h9) rfl 7 (by decide) rfl lnX7_payer_2 rfl dX7_payer_38 ?_
      refine mj_aload_n X dX7_payer_41 0 rfl ?_
      refine mj_get X inwX7_payer_X7 (mx_at mx_oX7 h9) rfl 2 (by decide) rfl lnX7_payer_0 rfl dX7_payer_42 ?_
      refine mj_iload_n X dX7_payer_45 1 rfl ?_
      refine mj_iload_n X dX7_payer_46 2 rfl ?_
      obtain ⟨h12, r13, q14, hf⟩ := mm_c hf
      refine mj_callVi (As := [.int a0, .int a1]) (rest := [.ref (ad 19), .ref (ad 6)]) X (kX0_seatedAt l D t1 t2 cI cT cS ad N h9 a0 a1 h12 r13 q14) (cwV 2 X.2.2.2.2.1 gX7_payer_X0_seatedAt rfl rfl rfl (by decide +kernel) ⟨Nat.le_of_ble_eq_true rfl, Nat.le_of_ble_eq_true rfl⟩) (mx_at mx_oX0 h9) rfl rfl rfl rfl (Nat.le_of_ble_eq_true rfl) ⟨Nat.zero_le _, Nat.zero_le _⟩ dX7_payer_47 ?_
      obtain ⟨h15, r16, q17, hf⟩ := mm_c hf
      refine mj_callVi (As := [.ref (ad 19), .int r13]) (rest := []) X (kX2_aheadBy l D t1 t2 cI cT cS ad 19 mx_a19 N h12 r13 h15 r16 q17) (cwV 2 X.2.2.2.2.1 gX7_payer_X2_aheadBy rfl rfl rfl (by decide +kernel) ⟨Nat.le_of_ble_eq_true rfl, Nat.le_of_ble_eq_true rfl⟩) (mx_at mx_oX2 h12) rfl rfl rfl rfl (Nat.le_of_ble_eq_true rfl) ⟨Nat.zero_le _, Nat.zero_le _⟩ dX7_payer_50 ?_
      exact RET h15 _ _ _ dX7_payer_53 (Option.some.inj hf)
    · have hf := mm_t c8 hf
      refine mj_bipush (v := (-2 : Int32)) X dX7_payer_17 (by decide) ?_
      exact RET h5 _ _ _ dX7_payer_19 (Option.some.inj hf)
abbrev rmX7_beggars : Room := { frames := 5, cells := 0, slots := 0, locals := 118 }
theorem inwX7_beggars_X7 : ∀ w ∈ wsX70, w ∈ wsX7_beggars := by
  intro w hw
  have h9 : wsX70 = (wsX7_beggars.drop 71).take 8 := rfl
  rw [h9] at hw
  exact List.mem_of_mem_drop (List.mem_of_mem_take hw)
theorem lnX7_beggars_0 : Cond.fieldLink RX7 30 "RichestPays" "evening" "LRichestPays$Evening;" ∈ wsX7_beggars := List.mem_of_getElem? (i := 1) rfl
theorem inwX7_beggars_X0 : ∀ w ∈ wsX00, w ∈ wsX7_beggars := by
  intro w hw
  have h9 : wsX00 = (wsX7_beggars.drop 79).take 11 := rfl
  rw [h9] at hw
  exact List.mem_of_mem_drop (List.mem_of_mem_take hw)
theorem lnX7_beggars_1 : Cond.fieldLink RX7 144 "RichestPays$Evening" "rounds" "I" ∈ wsX7_beggars := List.mem_of_getElem? (i := 2) rfl
theorem lnX7_beggars_2 : Cond.fieldLink RX7 21 "RichestPays" "people" "LRichestPays$People;" ∈ wsX7_beggars := List.mem_of_getElem? (i := 3) rfl
theorem inwX7_beggars_X2 : ∀ w ∈ wsX20, w ∈ wsX7_beggars := by
  intro w hw
  have h9 : wsX20 = (wsX7_beggars.drop 90).take 9 := rfl
  rw [h9] at hw
  exact List.mem_of_mem_drop (List.mem_of_mem_take hw)
theorem lnX7_beggars_3 : Cond.fieldLink RX7 168 "RichestPays$People" "number" "I" ∈ wsX7_beggars := List.mem_of_getElem? (i := 4) rfl
theorem lnX7_beggars_4 : Cond.fieldLink RX7 171 "RichestPays$Evening" "eaten" "[I" ∈ wsX7_beggars := List.mem_of_getElem? (i := 5) rfl
theorem lnX7_beggars_5 : Cond.fieldLink RX7 174 "RichestPays$Evening" "paid" "[I" ∈ wsX7_beggars := List.mem_of_getElem? (i := 6) rfl
set_option maxHeartbeats 4000000 in
set_option maxRecDepth 100000 in
theorem wX7_beggars_L18 (X : mm_X p s m args c cX7_beggars RX7 wsX7_beggars 3 D (mx_ty cI cT cS) t1 t2 A) (out : mm_M × Int32) (RET : ∀ (h : mm_M) (pc : Nat) (lo : List (Nat × Value)) (v : Int32), decode cX7_beggars pc = .ok (.ireturn, 1) → (h, v) = out → mm_J p l e rmX7_beggars s m args below meth c 0 0 Q D (mx_w cI cT cS ad) A 3 h pc lo [.int v]) (N : Nat)   (k : mm_M → Int32 → Option (mm_M × Int32)) (HK : ∀ (h : mm_M) (m1 : Int32), k h m1 = some out → mm_J p l e rmX7_beggars s m args below meth c 0 0 Q D (mx_w cI cT cS ad) A 3 h 65 [(1, .int m1)] []) : ∀ (n : Nat) (h : mm_M) (m1 : Int32) (m2 : Int32), fX7_beggars_L18 N k n h m1 m2 = some out → mm_J p l e rmX7_beggars s m args below meth c 0 0 Q D (mx_w cI cT cS ad) A 3 h 18 [(0, .ref (ad 0)), (1, .int m1), (2, .int m2)] [] := by
  intro n
  induction n with
  | zero =>
    intro h m1 m2 hf
    cases hf
  | succ n ih =>
    intro h m1 m2 hf
    rw [fX7_beggars_L18] at hf
    refine mj_iload_n X dX7_beggars_18 2 rfl ?_
    refine mj_aload_n X dX7_beggars_19 0 rfl ?_
    refine mj_get X inwX7_beggars_X7 (mx_at mx_oX7 h) rfl 1 (by decide) rfl lnX7_beggars_2 rfl dX7_beggars_20 ?_
    refine mj_get X inwX7_beggars_X2 (mx_at mx_oX2 h) rfl 5 (by decide) rfl lnX7_beggars_3 rfl dX7_beggars_23 ?_
    refine mj_icmp_ge (tgt := 65) X dX7_beggars_26 (by decide) (fun c4 => ?_) (fun c4 => ?_)
    · have hf := mm_t c4 hf
      exact mj_sub [1] rfl (HK h m1 hf)
    · have hf := mm_f c4 hf
      refine mj_aload_n X dX7_beggars_29 0 rfl ?_
      refine mj_get X inwX7_beggars_X7 (mx_at mx_oX7 h) rfl 2 (by decide) rfl lnX7_beggars_0 rfl dX7_beggars_30 ?_
      refine mj_get X inwX7_beggars_X0 (mx_at mx_oX0 h) rfl 5 (by decide) rfl lnX7_beggars_4 rfl dX7_beggars_33 ?_
      refine mj_iload_n X dX7_beggars_36 2 rfl ?_
      obtain ⟨g5, hf⟩ := mm_g hf
      refine mj_iald X 0 (mx_at mx_a17 h) rfl g5 dX7_beggars_37 ?_
      refine mj_if_le (tgt := 59) X dX7_beggars_38 (by decide) (fun c6 => ?_) (fun c6 => ?_)
      · have hf := mm_t c6 hf
        refine mj_iinc (k := 2) (v := (m2 + 1)) (lo' := [(2, .int (m2 + 1)), (0, .ref (ad 0)), (1, .int m1)]) X dX7_beggars_59 rfl rfl (by decide) rfl ?_
        refine mj_goto (tgt := 18) X dX7_beggars_62 (by decide) ?_
        exact mj_sub [1, 2, 0] rfl (ih h m1 (m2 + 1) hf)
      · have hf := mm_f c6 hf
        refine mj_aload_n X dX7_beggars_41 0 rfl ?_
        refine mj_get X inwX7_beggars_X7 (mx_at mx_oX7 h) rfl 2 (by decide) rfl lnX7_beggars_0 rfl dX7_beggars_42 ?_
        refine mj_get X inwX7_beggars_X0 (mx_at mx_oX0 h) rfl 4 (by decide) rfl lnX7_beggars_5 rfl dX7_beggars_45 ?_
        refine mj_iload_n X dX7_beggars_48 2 rfl ?_
        refine mj_iald X 0 (mx_at mx_a16 h) rfl g5 dX7_beggars_49 ?_
        refine mj_if_ne (tgt := 59) X dX7_beggars_50 (by decide) (fun c7 => ?_) (fun c7 => ?_)
        · have hf := mm_f c7 hf
          refine mj_iinc (k := 2) (v := (m2 + 1)) (lo' := [(2, .int (m2 + 1)), (0, .ref (ad 0)), (1, .int m1)]) X dX7_beggars_59 rfl rfl (by decide) rfl ?_
          refine mj_goto (tgt := 18) X dX7_beggars_62 (by decide) ?_
          exact mj_sub [1, 2, 0] rfl (ih h m1 (m2 + 1) hf)
        · have hf := mm_t c7 hf
          refine mj_iload_n X dX7_beggars_53 1 rfl ?_
          refine mj_iconst (v := (1 : Int32)) X dX7_beggars_54 (by decide) ?_
          refine mj_iload_n X dX7_beggars_55 2 rfl ?_
          refine mj_ishl X dX7_beggars_56 ?_
          refine mj_ior X dX7_beggars_57 ?_
          obtain ⟨x8, ex8, hf⟩ := mm_l hf
          refine mj_topi ex8 ?_
          refine mj_istore_n (lo' := [(1, .int x8), (0, .ref (ad 0)), (2, .int m2)]) X dX7_beggars_58 (by decide) rfl ?_
          refine mj_iinc (k := 2) (v := (m2 + 1)) (lo' := [(2, .int (m2 + 1)), (1, .int x8), (0, .ref (ad 0))]) X dX7_beggars_59 rfl rfl (by decide) rfl ?_
          refine mj_goto (tgt := 18) X dX7_beggars_62 (by decide) ?_
          exact mj_sub [2, 1, 0] rfl (ih h x8 (m2 + 1) hf)
set_option maxHeartbeats 4000000 in
set_option maxRecDepth 100000 in
theorem kX7_beggars (l : Launch) (D : va_G) (t1 t2 : Nat) (cI : ClassId) (cT : ClassId) (cS : ClassId) (ad : Nat → Nat)  (N : Nat) (h : mm_M)  (h1 : mm_M) (r : Int32) (hf : fX7_beggars N h = some (h1, r)) : mm_Ki l yX7_beggars wsX7_beggars rmX7_beggars D (mx_ty cI cT cS) t1 t2 (mx_w cI cT cS ad) [.ref (ad 0)] h r h1 := by
  refine mm_open_i [.ref (ad 0)] h r h1 RX7 (by decide) rfl rfl (Nat.le_of_ble_eq_true rfl) ?_
  intro p e s m below meth c A X hr hlocks
  have RET : ∀ (h : mm_M) (pc : Nat) (lo : List (Nat × Value)) (v : Int32), decode cX7_beggars pc = .ok (.ireturn, 1) → (h, v) = (h1, r) → mm_J p l e rmX7_beggars s m ([.ref (ad 0)] : List Value).toArray below meth c 0 0 (MQ below (va_Qi (fun (r' : Int32) (u : mm_M) => r' = r ∧ u = h1) (mm_Post D (mx_w cI cT cS ad) A) A) ([.ref (ad 0)] : List Value).toArray s 0 0 A) D (mx_w cI cT cS ad) A 3 h pc lo [.int v] := by
    intro h2 pc lo v hd he
    cases he
    exact mj_iret X hr rfl hlocks hd
  generalize hout : (h1, r) = out at hf RET
  unfold fX7_beggars at hf
  refine mj_lo (lo' := [(0, .ref (ad 0))]) rfl ?_
  refine mj_aload_n X dX7_beggars_0 0 rfl ?_
  refine mj_get X inwX7_beggars_X7 (mx_at mx_oX7 h) rfl 2 (by decide) rfl lnX7_beggars_0 rfl dX7_beggars_1 ?_
  refine mj_aload_n X dX7_beggars_4 0 rfl ?_
  refine mj_get X inwX7_beggars_X7 (mx_at mx_oX7 h) rfl 2 (by decide) rfl lnX7_beggars_0 rfl dX7_beggars_5 ?_
  refine mj_get X inwX7_beggars_X0 (mx_at mx_oX0 h) rfl 9 (by decide) rfl lnX7_beggars_1 rfl dX7_beggars_8 ?_
  obtain ⟨h1, r2, q3, hf⟩ := mm_c hf
  refine mj_callVv (As := [.int (h 12 9)]) (rest := []) X (kX0_play l D t1 t2 cI cT cS ad N h (h 12 9) h1 r2 q3) (cwV 1 X.2.2.2.2.1 gX7_beggars_X0_play rfl rfl rfl (by decide +kernel) ⟨Nat.le_of_ble_eq_true rfl, Nat.le_of_ble_eq_true rfl⟩) (mx_at mx_oX0 h) rfl rfl rfl rfl (Nat.le_of_ble_eq_true rfl) ⟨Nat.zero_le _, Nat.zero_le _⟩ dX7_beggars_11 ?_
  refine mj_iconst (v := (0 : Int32)) X dX7_beggars_14 (by decide) ?_
  refine mj_istore_n (lo' := [(1, .int (0 : Int32)), (0, .ref (ad 0))]) X dX7_beggars_15 (by decide) rfl ?_
  refine mj_iconst (v := (0 : Int32)) X dX7_beggars_16 (by decide) ?_
  refine mj_istore_n (lo' := [(2, .int (0 : Int32)), (1, .int (0 : Int32)), (0, .ref (ad 0))]) X dX7_beggars_17 (by decide) rfl ?_
  refine mj_sub [2, 1, 0] rfl (wX7_beggars_L18 X out RET N _ (fun h9 v10 hf => ?_) N h1 (0 : Int32) (0 : Int32) hf)
  refine mj_iload_n X dX7_beggars_65 0 rfl ?_
  exact RET h9 _ _ _ dX7_beggars_66 (Option.some.inj hf)
abbrev rmX7_best : Room := { frames := 4, cells := 0, slots := 0, locals := 99 }
theorem lnX7_best_0 : Cond.constant RX7 177 (-100002) ∈ wsX7_best := List.mem_of_getElem? (i := 1) rfl
theorem inwX7_best_X7 : ∀ w ∈ wsX70, w ∈ wsX7_best := by
  intro w hw
  have h9 : wsX70 = (wsX7_best.drop 77).take 8 := rfl
  rw [h9] at hw
  exact List.mem_of_mem_drop (List.mem_of_mem_take hw)
theorem lnX7_best_1 : Cond.fieldLink RX7 39 "RichestPays" "seating" "LRichestPays$Seating;" ∈ wsX7_best := List.mem_of_getElem? (i := 2) rfl
set_option maxHeartbeats 4000000 in
set_option maxRecDepth 100000 in
theorem kX7_best (l : Launch) (D : va_G) (t1 t2 : Nat) (cI : ClassId) (cT : ClassId) (cS : ClassId) (ad : Nat → Nat)  (N : Nat) (h : mm_M) (a0 : Int32) (a1 : Int32) (a2 : Int32) (h1 : mm_M) (r : Int32) (hf : fX7_best N h a0 a1 a2 = some (h1, r)) : mm_Ki l yX7_best wsX7_best rmX7_best D (mx_ty cI cT cS) t1 t2 (mx_w cI cT cS ad) [.ref (ad 0), .int a0, .int a1, .int a2] h r h1 := by
  refine mm_open_i [.ref (ad 0), .int a0, .int a1, .int a2] h r h1 RX7 (by decide) rfl rfl (Nat.le_of_ble_eq_true rfl) ?_
  intro p e s m below meth c A X hr hlocks
  have RET : ∀ (h : mm_M) (pc : Nat) (lo : List (Nat × Value)) (v : Int32), decode cX7_best pc = .ok (.ireturn, 1) → (h, v) = (h1, r) → mm_J p l e rmX7_best s m ([.ref (ad 0), .int a0, .int a1, .int a2] : List Value).toArray below meth c 0 0 (MQ below (va_Qi (fun (r' : Int32) (u : mm_M) => r' = r ∧ u = h1) (mm_Post D (mx_w cI cT cS ad) A) A) ([.ref (ad 0), .int a0, .int a1, .int a2] : List Value).toArray s 0 0 A) D (mx_w cI cT cS ad) A 4 h pc lo [.int v] := by
    intro h2 pc lo v hd he
    cases he
    exact mj_iret X hr rfl hlocks hd
  generalize hout : (h1, r) = out at hf RET
  unfold fX7_best at hf
  refine mj_lo (lo' := [(0, .ref (ad 0)), (1, .int a0), (2, .int a1), (3, .int a2)]) rfl ?_
  refine mj_aload_n X dX7_best_0 0 rfl ?_
  refine mj_iload_n X dX7_best_1 1 rfl ?_
  obtain ⟨h1, r2, q3, hf⟩ := mm_c hf
  refine mj_callVi (As := [.int a0]) (rest := []) X (kX7_isRound l D t1 t2 cI cT cS ad N h a0 h1 r2 q3) (cwV 1 X.2.2.2.2.1 gX7_best_X7_isRound rfl rfl rfl (by decide +kernel) ⟨Nat.le_of_ble_eq_true rfl, Nat.le_of_ble_eq_true rfl⟩) (mx_at mx_oX7 h) rfl rfl rfl rfl (Nat.le_of_ble_eq_true rfl) ⟨Nat.zero_le _, Nat.zero_le _⟩ dX7_best_2 ?_
  refine mj_if_eq (tgt := 25) X dX7_best_5 (by decide) (fun c4 => ?_) (fun c4 => ?_)
  · have hf := mm_t c4 hf
    refine mj_ldc (v := (-100002 : Int32)) X lnX7_best_0 dX7_best_25 ?_
    exact RET h1 _ _ _ dX7_best_27 (Option.some.inj hf)
  · have hf := mm_f c4 hf
    refine mj_aload_n X dX7_best_8 0 rfl ?_
    refine mj_iload_n X dX7_best_9 2 rfl ?_
    obtain ⟨h5, r6, q7, hf⟩ := mm_c hf
    refine mj_callVi (As := [.int a1]) (rest := []) X (kX7_isPerson l D t1 t2 cI cT cS ad N h1 a1 h5 r6 q7) (cwV 1 X.2.2.2.2.1 gX7_best_X7_isPerson rfl rfl rfl (by decide +kernel) ⟨Nat.le_of_ble_eq_true rfl, Nat.le_of_ble_eq_true rfl⟩) (mx_at mx_oX7 h1) rfl rfl rfl rfl (Nat.le_of_ble_eq_true rfl) ⟨Nat.zero_le _, Nat.zero_le _⟩ dX7_best_10 ?_
    refine mj_if_eq (tgt := 25) X dX7_best_13 (by decide) (fun c8 => ?_) (fun c8 => ?_)
    · have hf := mm_t c8 hf
      refine mj_ldc (v := (-100002 : Int32)) X lnX7_best_0 dX7_best_25 ?_
      exact RET h5 _ _ _ dX7_best_27 (Option.some.inj hf)
    · have hf := mm_f c8 hf
      refine mj_iload_n X dX7_best_16 3 rfl ?_
      refine mj_iconst (v := (0 : Int32)) X dX7_best_17 (by decide) ?_
      refine mj_iconst (v := (2 : Int32)) X dX7_best_18 (by decide) ?_
      obtain ⟨h9, r10, q11, hf⟩ := mm_c hf
      refine mj_callSi (As := [.int a2, .int (0 : Int32), .int (2 : Int32)]) (rest := []) X (kX7_isIn l D t1 t2 cI cT cS ad N h5 a2 (0 : Int32) (2 : Int32) h9 r10 q11) (va_cwS 3 X.2.2.2.2.1 gX7_best_X7_isIn rfl rfl rfl (by decide +kernel) ⟨Nat.le_of_ble_eq_true rfl, Nat.le_of_ble_eq_true rfl⟩) rfl rfl (Nat.le_of_ble_eq_true rfl) ⟨Nat.zero_le _, Nat.zero_le _⟩ dX7_best_19 ?_
      refine mj_if_ne (tgt := 28) X dX7_best_22 (by decide) (fun c12 => ?_) (fun c12 => ?_)
      · have hf := mm_f c12 hf
        refine mj_aload_n X dX7_best_28 0 rfl ?_
        refine mj_get X inwX7_best_X7 (mx_at mx_oX7 h9) rfl 3 (by decide) rfl lnX7_best_1 rfl dX7_best_29 ?_
        refine mj_iload_n X dX7_best_32 1 rfl ?_
        refine mj_iload_n X dX7_best_33 2 rfl ?_
        obtain ⟨h13, r14, q15, hf⟩ := mm_c hf
        refine mj_callVv (As := [.int a0, .int a1]) (rest := []) X (kX3_findBest l D t1 t2 cI cT cS ad N h9 a0 a1 h13 r14 q15) (cwV 2 X.2.2.2.2.1 gX7_best_X3_findBest rfl rfl rfl (by decide +kernel) ⟨Nat.le_of_ble_eq_true rfl, Nat.le_of_ble_eq_true rfl⟩) (mx_at mx_oX3 h9) rfl rfl rfl rfl (Nat.le_of_ble_eq_true rfl) ⟨Nat.zero_le _, Nat.zero_le _⟩ dX7_best_34 ?_
        refine mj_aload_n X dX7_best_37 0 rfl ?_
        refine mj_get X inwX7_best_X7 (mx_at mx_oX7 h13) rfl 3 (by decide) rfl lnX7_best_1 rfl dX7_best_38 ?_
        refine mj_iload_n X dX7_best_41 3 rfl ?_
        obtain ⟨h16, r17, q18, hf⟩ := mm_c hf
        refine mj_callVi (As := [.int a2]) (rest := []) X (kX3_bestTold l D t1 t2 cI cT cS ad N h13 a2 h16 r17 q18) (cwV 1 X.2.2.2.2.1 gX7_best_X3_bestTold rfl rfl rfl (by decide +kernel) ⟨Nat.le_of_ble_eq_true rfl, Nat.le_of_ble_eq_true rfl⟩) (mx_at mx_oX3 h13) rfl rfl rfl rfl (Nat.le_of_ble_eq_true rfl) ⟨Nat.zero_le _, Nat.zero_le _⟩ dX7_best_42 ?_
        exact RET h16 _ _ _ dX7_best_45 (Option.some.inj hf)
      · have hf := mm_t c12 hf
        refine mj_ldc (v := (-100002 : Int32)) X lnX7_best_0 dX7_best_25 ?_
        exact RET h9 _ _ _ dX7_best_27 (Option.some.inj hf)
abbrev rmX7_rest : Room := { frames := 5, cells := 0, slots := 0, locals := 109 }
theorem inwX7_rest_X7 : ∀ w ∈ wsX70, w ∈ wsX7_rest := by
  intro w hw
  have h9 : wsX70 = (wsX7_rest.drop 78).take 8 := rfl
  rw [h9] at hw
  exact List.mem_of_mem_drop (List.mem_of_mem_take hw)
theorem lnX7_rest_0 : Cond.fieldLink RX7 39 "RichestPays" "seating" "LRichestPays$Seating;" ∈ wsX7_rest := List.mem_of_getElem? (i := 1) rfl
theorem inwX7_rest_X3 : ∀ w ∈ wsX30, w ∈ wsX7_rest := by
  intro w hw
  have h9 : wsX30 = (wsX7_rest.drop 86).take 10 := rfl
  rw [h9] at hw
  exact List.mem_of_mem_drop (List.mem_of_mem_take hw)
theorem lnX7_rest_1 : Cond.fieldLink RX7 188 "RichestPays$Seating" "restRows" "I" ∈ wsX7_rest := List.mem_of_getElem? (i := 2) rfl
set_option maxHeartbeats 4000000 in
set_option maxRecDepth 100000 in
theorem kX7_rest (l : Launch) (D : va_G) (t1 t2 : Nat) (cI : ClassId) (cT : ClassId) (cS : ClassId) (ad : Nat → Nat)  (N : Nat) (h : mm_M) (a0 : Int32) (h1 : mm_M) (r : Int32) (hf : fX7_rest N h a0 = some (h1, r)) : mm_Ki l yX7_rest wsX7_rest rmX7_rest D (mx_ty cI cT cS) t1 t2 (mx_w cI cT cS ad) [.ref (ad 0), .int a0] h r h1 := by
  refine mm_open_i [.ref (ad 0), .int a0] h r h1 RX7 (by decide) rfl rfl (Nat.le_of_ble_eq_true rfl) ?_
  intro p e s m below meth c A X hr hlocks
  have RET : ∀ (h : mm_M) (pc : Nat) (lo : List (Nat × Value)) (v : Int32), decode cX7_rest pc = .ok (.ireturn, 1) → (h, v) = (h1, r) → mm_J p l e rmX7_rest s m ([.ref (ad 0), .int a0] : List Value).toArray below meth c 0 0 (MQ below (va_Qi (fun (r' : Int32) (u : mm_M) => r' = r ∧ u = h1) (mm_Post D (mx_w cI cT cS ad) A) A) ([.ref (ad 0), .int a0] : List Value).toArray s 0 0 A) D (mx_w cI cT cS ad) A 2 h pc lo [.int v] := by
    intro h2 pc lo v hd he
    cases he
    exact mj_iret X hr rfl hlocks hd
  generalize hout : (h1, r) = out at hf RET
  unfold fX7_rest at hf
  refine mj_lo (lo' := [(0, .ref (ad 0)), (1, .int a0)]) rfl ?_
  refine mj_iload_n X dX7_rest_0 1 rfl ?_
  refine mj_iconst (v := (-1 : Int32)) X dX7_rest_1 (by decide) ?_
  refine mj_icmp_eq (tgt := 16) X dX7_rest_2 (by decide) (fun c1 => ?_) (fun c1 => ?_)
  · have hf := mm_t c1 hf
    refine mj_aload_n X dX7_rest_16 0 rfl ?_
    refine mj_get X inwX7_rest_X7 (mx_at mx_oX7 h) rfl 3 (by decide) rfl lnX7_rest_0 rfl dX7_rest_17 ?_
    obtain ⟨h2, r3, q4, hf⟩ := mm_c hf
    refine mj_callVv (As := []) (rest := []) X (kX3_findRests l D t1 t2 cI cT cS ad N h h2 r3 q4) (cwV 0 X.2.2.2.2.1 gX7_rest_X3_findRests rfl rfl rfl (by decide +kernel) ⟨Nat.le_of_ble_eq_true rfl, Nat.le_of_ble_eq_true rfl⟩) (mx_at mx_oX3 h) rfl rfl rfl rfl (Nat.le_of_ble_eq_true rfl) ⟨Nat.zero_le _, Nat.zero_le _⟩ dX7_rest_20 ?_
    refine mj_iload_n X dX7_rest_23 1 rfl ?_
    refine mj_iconst (v := (-1 : Int32)) X dX7_rest_24 (by decide) ?_
    refine mj_icmp_ne (tgt := 38) X dX7_rest_25 (by decide) (fun c5 => absurd c1 c5) (fun _ => ?_)
    refine mj_aload_n X dX7_rest_28 0 rfl ?_
    refine mj_get X inwX7_rest_X7 (mx_at mx_oX7 h2) rfl 3 (by decide) rfl lnX7_rest_0 rfl dX7_rest_29 ?_
    refine mj_get X inwX7_rest_X3 (mx_at mx_oX3 h2) rfl 8 (by decide) rfl lnX7_rest_1 rfl dX7_rest_32 ?_
    refine mj_goto (tgt := 46) X dX7_rest_35 (by decide) ?_
    exact RET h2 _ _ _ dX7_rest_46 (Option.some.inj hf)
  · have hf := mm_f c1 hf
    refine mj_aload_n X dX7_rest_5 0 rfl ?_
    refine mj_iload_n X dX7_rest_6 1 rfl ?_
    obtain ⟨h6, r7, q8, hf⟩ := mm_c hf
    refine mj_callVi (As := [.int a0]) (rest := []) X (kX7_isPerson l D t1 t2 cI cT cS ad N h a0 h6 r7 q8) (cwV 1 X.2.2.2.2.1 gX7_rest_X7_isPerson rfl rfl rfl (by decide +kernel) ⟨Nat.le_of_ble_eq_true rfl, Nat.le_of_ble_eq_true rfl⟩) (mx_at mx_oX7 h) rfl rfl rfl rfl (Nat.le_of_ble_eq_true rfl) ⟨Nat.zero_le _, Nat.zero_le _⟩ dX7_rest_7 ?_
    refine mj_if_ne (tgt := 16) X dX7_rest_10 (by decide) (fun c9 => ?_) (fun c9 => ?_)
    · have hf := mm_f c9 hf
      refine mj_aload_n X dX7_rest_16 0 rfl ?_
      refine mj_get X inwX7_rest_X7 (mx_at mx_oX7 h6) rfl 3 (by decide) rfl lnX7_rest_0 rfl dX7_rest_17 ?_
      obtain ⟨h10, r11, q12, hf⟩ := mm_c hf
      refine mj_callVv (As := []) (rest := []) X (kX3_findRests l D t1 t2 cI cT cS ad N h6 h10 r11 q12) (cwV 0 X.2.2.2.2.1 gX7_rest_X3_findRests rfl rfl rfl (by decide +kernel) ⟨Nat.le_of_ble_eq_true rfl, Nat.le_of_ble_eq_true rfl⟩) (mx_at mx_oX3 h6) rfl rfl rfl rfl (Nat.le_of_ble_eq_true rfl) ⟨Nat.zero_le _, Nat.zero_le _⟩ dX7_rest_20 ?_
      refine mj_iload_n X dX7_rest_23 1 rfl ?_
      refine mj_iconst (v := (-1 : Int32)) X dX7_rest_24 (by decide) ?_
      refine mj_icmp_ne (tgt := 38) X dX7_rest_25 (by decide) (fun _ => ?_) (fun c13 => absurd c13 c1)
      refine mj_aload_n X dX7_rest_38 0 rfl ?_
      refine mj_get X inwX7_rest_X7 (mx_at mx_oX7 h10) rfl 3 (by decide) rfl lnX7_rest_0 rfl dX7_rest_39 ?_
      refine mj_iload_n X dX7_rest_42 1 rfl ?_
      obtain ⟨h14, r15, q16, hf⟩ := mm_c hf
      refine mj_callVi (As := [.int a0]) (rest := []) X (kX3_firstRestTable l D t1 t2 cI cT cS ad N h10 a0 h14 r15 q16) (cwV 1 X.2.2.2.2.1 gX7_rest_X3_firstRestTable rfl rfl rfl (by decide +kernel) ⟨Nat.le_of_ble_eq_true rfl, Nat.le_of_ble_eq_true rfl⟩) (mx_at mx_oX3 h10) rfl rfl rfl rfl (Nat.le_of_ble_eq_true rfl) ⟨Nat.zero_le _, Nat.zero_le _⟩ dX7_rest_43 ?_
      exact RET h14 _ _ _ dX7_rest_46 (Option.some.inj hf)
    · have hf := mm_t c9 hf
      refine mj_bipush (v := (-2 : Int32)) X dX7_rest_13 (by decide) ?_
      exact RET h6 _ _ _ dX7_rest_15 (Option.some.inj hf)
abbrev rmX7_down : Room := { frames := 4, cells := 0, slots := 0, locals := 97 }
theorem inwX7_down_X7 : ∀ w ∈ wsX70, w ∈ wsX7_down := by
  intro w hw
  have h9 : wsX70 = (wsX7_down.drop 83).take 8 := rfl
  rw [h9] at hw
  exact List.mem_of_mem_drop (List.mem_of_mem_take hw)
theorem lnX7_down_0 : Cond.fieldLink RX7 46 "RichestPays" "partings" "LRichestPays$Partings;" ∈ wsX7_down := List.mem_of_getElem? (i := 1) rfl
set_option maxHeartbeats 4000000 in
set_option maxRecDepth 100000 in
theorem kX7_down (l : Launch) (D : va_G) (t1 t2 : Nat) (cI : ClassId) (cT : ClassId) (cS : ClassId) (ad : Nat → Nat)  (N : Nat) (h : mm_M) (a0 : Int32) (a1 : Int32) (h1 : mm_M) (r : Int32) (hf : fX7_down N h a0 a1 = some (h1, r)) : mm_Ki l yX7_down wsX7_down rmX7_down D (mx_ty cI cT cS) t1 t2 (mx_w cI cT cS ad) [.ref (ad 0), .int a0, .int a1] h r h1 := by
  refine mm_open_i [.ref (ad 0), .int a0, .int a1] h r h1 RX7 (by decide) rfl rfl (Nat.le_of_ble_eq_true rfl) ?_
  intro p e s m below meth c A X hr hlocks
  have RET : ∀ (h : mm_M) (pc : Nat) (lo : List (Nat × Value)) (v : Int32), decode cX7_down pc = .ok (.ireturn, 1) → (h, v) = (h1, r) → mm_J p l e rmX7_down s m ([.ref (ad 0), .int a0, .int a1] : List Value).toArray below meth c 0 0 (MQ below (va_Qi (fun (r' : Int32) (u : mm_M) => r' = r ∧ u = h1) (mm_Post D (mx_w cI cT cS ad) A) A) ([.ref (ad 0), .int a0, .int a1] : List Value).toArray s 0 0 A) D (mx_w cI cT cS ad) A 3 h pc lo [.int v] := by
    intro h2 pc lo v hd he
    cases he
    exact mj_iret X hr rfl hlocks hd
  generalize hout : (h1, r) = out at hf RET
  unfold fX7_down at hf
  refine mj_lo (lo' := [(0, .ref (ad 0)), (1, .int a0), (2, .int a1)]) rfl ?_
  refine mj_aload_n X dX7_down_0 0 rfl ?_
  refine mj_iload_n X dX7_down_1 1 rfl ?_
  obtain ⟨h1, r2, q3, hf⟩ := mm_c hf
  refine mj_callVi (As := [.int a0]) (rest := []) X (kX7_isPerson l D t1 t2 cI cT cS ad N h a0 h1 r2 q3) (cwV 1 X.2.2.2.2.1 gX7_down_X7_isPerson rfl rfl rfl (by decide +kernel) ⟨Nat.le_of_ble_eq_true rfl, Nat.le_of_ble_eq_true rfl⟩) (mx_at mx_oX7 h) rfl rfl rfl rfl (Nat.le_of_ble_eq_true rfl) ⟨Nat.zero_le _, Nat.zero_le _⟩ dX7_down_2 ?_
  refine mj_if_eq (tgt := 18) X dX7_down_5 (by decide) (fun c4 => ?_) (fun c4 => ?_)
  · have hf := mm_t c4 hf
    refine mj_bipush (v := (-2 : Int32)) X dX7_down_18 (by decide) ?_
    exact RET h1 _ _ _ dX7_down_20 (Option.some.inj hf)
  · have hf := mm_f c4 hf
    refine mj_iload_n X dX7_down_8 2 rfl ?_
    refine mj_iconst (v := (0 : Int32)) X dX7_down_9 (by decide) ?_
    refine mj_bipush (v := (99 : Int32)) X dX7_down_10 (by decide) ?_
    obtain ⟨h5, r6, q7, hf⟩ := mm_c hf
    refine mj_callSi (As := [.int a1, .int (0 : Int32), .int (99 : Int32)]) (rest := []) X (kX7_isIn l D t1 t2 cI cT cS ad N h1 a1 (0 : Int32) (99 : Int32) h5 r6 q7) (va_cwS 3 X.2.2.2.2.1 gX7_down_X7_isIn rfl rfl rfl (by decide +kernel) ⟨Nat.le_of_ble_eq_true rfl, Nat.le_of_ble_eq_true rfl⟩) rfl rfl (Nat.le_of_ble_eq_true rfl) ⟨Nat.zero_le _, Nat.zero_le _⟩ dX7_down_12 ?_
    refine mj_if_ne (tgt := 21) X dX7_down_15 (by decide) (fun c8 => ?_) (fun c8 => ?_)
    · have hf := mm_f c8 hf
      refine mj_aload_n X dX7_down_21 0 rfl ?_
      refine mj_get X inwX7_down_X7 (mx_at mx_oX7 h5) rfl 4 (by decide) rfl lnX7_down_0 rfl dX7_down_22 ?_
      obtain ⟨h9, r10, q11, hf⟩ := mm_c hf
      refine mj_callVv (As := []) (rest := []) X (kX1_follow l D t1 t2 cI cT cS ad N h5 h9 r10 q11) (cwV 0 X.2.2.2.2.1 gX7_down_X1_follow rfl rfl rfl (by decide +kernel) ⟨Nat.le_of_ble_eq_true rfl, Nat.le_of_ble_eq_true rfl⟩) (mx_at mx_oX1 h5) rfl rfl rfl rfl (Nat.le_of_ble_eq_true rfl) ⟨Nat.zero_le _, Nat.zero_le _⟩ dX7_down_25 ?_
      refine mj_aload_n X dX7_down_28 0 rfl ?_
      refine mj_get X inwX7_down_X7 (mx_at mx_oX7 h9) rfl 4 (by decide) rfl lnX7_down_0 rfl dX7_down_29 ?_
      refine mj_iload_n X dX7_down_32 1 rfl ?_
      refine mj_iload_n X dX7_down_33 2 rfl ?_
      obtain ⟨h12, r13, q14, hf⟩ := mm_c hf
      refine mj_callVi (As := [.int a0, .int a1]) (rest := []) X (kX1_fewestDown l D t1 t2 cI cT cS ad N h9 a0 a1 h12 r13 q14) (cwV 2 X.2.2.2.2.1 gX7_down_X1_fewestDown rfl rfl rfl (by decide +kernel) ⟨Nat.le_of_ble_eq_true rfl, Nat.le_of_ble_eq_true rfl⟩) (mx_at mx_oX1 h9) rfl rfl rfl rfl (Nat.le_of_ble_eq_true rfl) ⟨Nat.zero_le _, Nat.zero_le _⟩ dX7_down_34 ?_
      exact RET h12 _ _ _ dX7_down_37 (Option.some.inj hf)
    · have hf := mm_t c8 hf
      refine mj_bipush (v := (-2 : Int32)) X dX7_down_18 (by decide) ?_
      exact RET h5 _ _ _ dX7_down_20 (Option.some.inj hf)
abbrev rmX7_alike : Room := { frames := 4, cells := 0, slots := 0, locals := 97 }
theorem inwX7_alike_X7 : ∀ w ∈ wsX70, w ∈ wsX7_alike := by
  intro w hw
  have h9 : wsX70 = (wsX7_alike.drop 73).take 8 := rfl
  rw [h9] at hw
  exact List.mem_of_mem_drop (List.mem_of_mem_take hw)
theorem lnX7_alike_0 : Cond.fieldLink RX7 46 "RichestPays" "partings" "LRichestPays$Partings;" ∈ wsX7_alike := List.mem_of_getElem? (i := 1) rfl
set_option maxHeartbeats 4000000 in
set_option maxRecDepth 100000 in
theorem kX7_alike (l : Launch) (D : va_G) (t1 t2 : Nat) (cI : ClassId) (cT : ClassId) (cS : ClassId) (ad : Nat → Nat)  (N : Nat) (h : mm_M)  (h1 : mm_M) (r : Int32) (hf : fX7_alike N h = some (h1, r)) : mm_Ki l yX7_alike wsX7_alike rmX7_alike D (mx_ty cI cT cS) t1 t2 (mx_w cI cT cS ad) [.ref (ad 0)] h r h1 := by
  refine mm_open_i [.ref (ad 0)] h r h1 RX7 (by decide) rfl rfl (Nat.le_of_ble_eq_true rfl) ?_
  intro p e s m below meth c A X hr hlocks
  have RET : ∀ (h : mm_M) (pc : Nat) (lo : List (Nat × Value)) (v : Int32), decode cX7_alike pc = .ok (.ireturn, 1) → (h, v) = (h1, r) → mm_J p l e rmX7_alike s m ([.ref (ad 0)] : List Value).toArray below meth c 0 0 (MQ below (va_Qi (fun (r' : Int32) (u : mm_M) => r' = r ∧ u = h1) (mm_Post D (mx_w cI cT cS ad) A) A) ([.ref (ad 0)] : List Value).toArray s 0 0 A) D (mx_w cI cT cS ad) A 1 h pc lo [.int v] := by
    intro h2 pc lo v hd he
    cases he
    exact mj_iret X hr rfl hlocks hd
  generalize hout : (h1, r) = out at hf RET
  unfold fX7_alike at hf
  refine mj_lo (lo' := [(0, .ref (ad 0))]) rfl ?_
  refine mj_aload_n X dX7_alike_0 0 rfl ?_
  refine mj_get X inwX7_alike_X7 (mx_at mx_oX7 h) rfl 4 (by decide) rfl lnX7_alike_0 rfl dX7_alike_1 ?_
  obtain ⟨h1, r2, q3, hf⟩ := mm_c hf
  refine mj_callVv (As := []) (rest := []) X (kX1_follow l D t1 t2 cI cT cS ad N h h1 r2 q3) (cwV 0 X.2.2.2.2.1 gX7_alike_X1_follow rfl rfl rfl (by decide +kernel) ⟨Nat.le_of_ble_eq_true rfl, Nat.le_of_ble_eq_true rfl⟩) (mx_at mx_oX1 h) rfl rfl rfl rfl (Nat.le_of_ble_eq_true rfl) ⟨Nat.zero_le _, Nat.zero_le _⟩ dX7_alike_4 ?_
  refine mj_aload_n X dX7_alike_7 0 rfl ?_
  refine mj_get X inwX7_alike_X7 (mx_at mx_oX7 h1) rfl 4 (by decide) rfl lnX7_alike_0 rfl dX7_alike_8 ?_
  obtain ⟨h4, r5, q6, hf⟩ := mm_c hf
  refine mj_callVi (As := []) (rest := []) X (kX1_fewestAlike l D t1 t2 cI cT cS ad N h1 h4 r5 q6) (cwV 0 X.2.2.2.2.1 gX7_alike_X1_fewestAlike rfl rfl rfl (by decide +kernel) ⟨Nat.le_of_ble_eq_true rfl, Nat.le_of_ble_eq_true rfl⟩) (mx_at mx_oX1 h1) rfl rfl rfl rfl (Nat.le_of_ble_eq_true rfl) ⟨Nat.zero_le _, Nat.zero_le _⟩ dX7_alike_11 ?_
  exact RET h4 _ _ _ dX7_alike_14 (Option.some.inj hf)
abbrev rmX7_dark : Room := { frames := 4, cells := 0, slots := 0, locals := 99 }
theorem inwX7_dark_X7 : ∀ w ∈ wsX70, w ∈ wsX7_dark := by
  intro w hw
  have h9 : wsX70 = (wsX7_dark.drop 71).take 8 := rfl
  rw [h9] at hw
  exact List.mem_of_mem_drop (List.mem_of_mem_take hw)
theorem lnX7_dark_0 : Cond.fieldLink RX7 30 "RichestPays" "evening" "LRichestPays$Evening;" ∈ wsX7_dark := List.mem_of_getElem? (i := 1) rfl
theorem lnX7_dark_1 : Cond.fieldLink RX7 53 "RichestPays" "secrets" "LRichestPays$Secrets;" ∈ wsX7_dark := List.mem_of_getElem? (i := 2) rfl
set_option maxHeartbeats 4000000 in
set_option maxRecDepth 100000 in
theorem kX7_dark (l : Launch) (D : va_G) (t1 t2 : Nat) (cI : ClassId) (cT : ClassId) (cS : ClassId) (ad : Nat → Nat)  (N : Nat) (h : mm_M) (a0 : Int32) (a1 : Int32) (a2 : Int32) (h1 : mm_M) (r : Int32) (hf : fX7_dark N h a0 a1 a2 = some (h1, r)) : mm_Ki l yX7_dark wsX7_dark rmX7_dark D (mx_ty cI cT cS) t1 t2 (mx_w cI cT cS ad) [.ref (ad 0), .int a0, .int a1, .int a2] h r h1 := by
  refine mm_open_i [.ref (ad 0), .int a0, .int a1, .int a2] h r h1 RX7 (by decide) rfl rfl (Nat.le_of_ble_eq_true rfl) ?_
  intro p e s m below meth c A X hr hlocks
  have RET : ∀ (h : mm_M) (pc : Nat) (lo : List (Nat × Value)) (v : Int32), decode cX7_dark pc = .ok (.ireturn, 1) → (h, v) = (h1, r) → mm_J p l e rmX7_dark s m ([.ref (ad 0), .int a0, .int a1, .int a2] : List Value).toArray below meth c 0 0 (MQ below (va_Qi (fun (r' : Int32) (u : mm_M) => r' = r ∧ u = h1) (mm_Post D (mx_w cI cT cS ad) A) A) ([.ref (ad 0), .int a0, .int a1, .int a2] : List Value).toArray s 0 0 A) D (mx_w cI cT cS ad) A 5 h pc lo [.int v] := by
    intro h2 pc lo v hd he
    cases he
    exact mj_iret X hr rfl hlocks hd
  generalize hout : (h1, r) = out at hf RET
  unfold fX7_dark at hf
  refine mj_lo (lo' := [(0, .ref (ad 0)), (1, .int a0), (2, .int a1), (3, .int a2)]) rfl ?_
  refine mj_aload_n X dX7_dark_0 0 rfl ?_
  refine mj_iload_n X dX7_dark_1 1 rfl ?_
  obtain ⟨h1, r2, q3, hf⟩ := mm_c hf
  refine mj_callVi (As := [.int a0]) (rest := []) X (kX7_isRound l D t1 t2 cI cT cS ad N h a0 h1 r2 q3) (cwV 1 X.2.2.2.2.1 gX7_dark_X7_isRound rfl rfl rfl (by decide +kernel) ⟨Nat.le_of_ble_eq_true rfl, Nat.le_of_ble_eq_true rfl⟩) (mx_at mx_oX7 h) rfl rfl rfl rfl (Nat.le_of_ble_eq_true rfl) ⟨Nat.zero_le _, Nat.zero_le _⟩ dX7_dark_2 ?_
  refine mj_if_eq (tgt := 29) X dX7_dark_5 (by decide) (fun c4 => ?_) (fun c4 => ?_)
  · have hf := mm_t c4 hf
    refine mj_bipush (v := (-2 : Int32)) X dX7_dark_29 (by decide) ?_
    exact RET h1 _ _ _ dX7_dark_31 (Option.some.inj hf)
  · have hf := mm_f c4 hf
    refine mj_aload_n X dX7_dark_8 0 rfl ?_
    refine mj_iload_n X dX7_dark_9 2 rfl ?_
    obtain ⟨h5, r6, q7, hf⟩ := mm_c hf
    refine mj_callVi (As := [.int a1]) (rest := []) X (kX7_isPerson l D t1 t2 cI cT cS ad N h1 a1 h5 r6 q7) (cwV 1 X.2.2.2.2.1 gX7_dark_X7_isPerson rfl rfl rfl (by decide +kernel) ⟨Nat.le_of_ble_eq_true rfl, Nat.le_of_ble_eq_true rfl⟩) (mx_at mx_oX7 h1) rfl rfl rfl rfl (Nat.le_of_ble_eq_true rfl) ⟨Nat.zero_le _, Nat.zero_le _⟩ dX7_dark_10 ?_
    refine mj_if_eq (tgt := 29) X dX7_dark_13 (by decide) (fun c8 => ?_) (fun c8 => ?_)
    · have hf := mm_t c8 hf
      refine mj_bipush (v := (-2 : Int32)) X dX7_dark_29 (by decide) ?_
      exact RET h5 _ _ _ dX7_dark_31 (Option.some.inj hf)
    · have hf := mm_f c8 hf
      refine mj_aload_n X dX7_dark_16 0 rfl ?_
      refine mj_iload_n X dX7_dark_17 3 rfl ?_
      obtain ⟨h9, r10, q11, hf⟩ := mm_c hf
      refine mj_callVi (As := [.int a2]) (rest := []) X (kX7_isPerson l D t1 t2 cI cT cS ad N h5 a2 h9 r10 q11) (cwV 1 X.2.2.2.2.1 gX7_dark_X7_isPerson rfl rfl rfl (by decide +kernel) ⟨Nat.le_of_ble_eq_true rfl, Nat.le_of_ble_eq_true rfl⟩) (mx_at mx_oX7 h5) rfl rfl rfl rfl (Nat.le_of_ble_eq_true rfl) ⟨Nat.zero_le _, Nat.zero_le _⟩ dX7_dark_18 ?_
      refine mj_if_eq (tgt := 29) X dX7_dark_21 (by decide) (fun c12 => ?_) (fun c12 => ?_)
      · have hf := mm_t c12 hf
        refine mj_bipush (v := (-2 : Int32)) X dX7_dark_29 (by decide) ?_
        exact RET h9 _ _ _ dX7_dark_31 (Option.some.inj hf)
      · have hf := mm_f c12 hf
        refine mj_iload_n X dX7_dark_24 2 rfl ?_
        refine mj_iload_n X dX7_dark_25 3 rfl ?_
        refine mj_icmp_ne (tgt := 32) X dX7_dark_26 (by decide) (fun c13 => ?_) (fun c13 => ?_)
        · have hf := mm_f c13 hf
          refine mj_aload_n X dX7_dark_32 0 rfl ?_
          refine mj_get X inwX7_dark_X7 (mx_at mx_oX7 h9) rfl 2 (by decide) rfl lnX7_dark_0 rfl dX7_dark_33 ?_
          refine mj_iload_n X dX7_dark_36 1 rfl ?_
          refine mj_iload_n X dX7_dark_37 2 rfl ?_
          obtain ⟨h14, r15, q16, hf⟩ := mm_c hf
          refine mj_callVi (As := [.int a0, .int a1]) (rest := []) X (kX0_tableOf l D t1 t2 cI cT cS ad N h9 a0 a1 h14 r15 q16) (cwV 2 X.2.2.2.2.1 gX7_dark_X0_tableOf rfl rfl rfl (by decide +kernel) ⟨Nat.le_of_ble_eq_true rfl, Nat.le_of_ble_eq_true rfl⟩) (mx_at mx_oX0 h9) rfl rfl rfl rfl (Nat.le_of_ble_eq_true rfl) ⟨Nat.zero_le _, Nat.zero_le _⟩ dX7_dark_38 ?_
          refine mj_istore (lo' := [(4, .int r15), (0, .ref (ad 0)), (1, .int a0), (2, .int a1), (3, .int a2)]) X dX7_dark_41 (by decide) rfl ?_
          refine mj_iload X dX7_dark_43 0 rfl ?_
          refine mj_iconst (v := (-1 : Int32)) X dX7_dark_45 (by decide) ?_
          refine mj_icmp_eq (tgt := 63) X dX7_dark_46 (by decide) (fun c17 => ?_) (fun c17 => ?_)
          · have hf := mm_t c17 hf
            refine mj_bipush (v := (-3 : Int32)) X dX7_dark_63 (by decide) ?_
            exact RET h14 _ _ _ dX7_dark_65 (Option.some.inj hf)
          · have hf := mm_f c17 hf
            refine mj_iload X dX7_dark_49 0 rfl ?_
            refine mj_aload_n X dX7_dark_51 1 rfl ?_
            refine mj_get X inwX7_dark_X7 (mx_at mx_oX7 h14) rfl 2 (by decide) rfl lnX7_dark_0 rfl dX7_dark_52 ?_
            refine mj_iload_n X dX7_dark_55 2 rfl ?_
            refine mj_iload_n X dX7_dark_56 4 rfl ?_
            obtain ⟨h18, r19, q20, hf⟩ := mm_c hf
            refine mj_callVi (As := [.int a0, .int a2]) (rest := [.int r15]) X (kX0_tableOf l D t1 t2 cI cT cS ad N h14 a0 a2 h18 r19 q20) (cwV 2 X.2.2.2.2.1 gX7_dark_X0_tableOf rfl rfl rfl (by decide +kernel) ⟨Nat.le_of_ble_eq_true rfl, Nat.le_of_ble_eq_true rfl⟩) (mx_at mx_oX0 h14) rfl rfl rfl rfl (Nat.le_of_ble_eq_true rfl) ⟨Nat.zero_le _, Nat.zero_le _⟩ dX7_dark_57 ?_
            refine mj_icmp_eq (tgt := 66) X dX7_dark_60 (by decide) (fun c21 => ?_) (fun c21 => ?_)
            · have hf := mm_t c21 hf
              refine mj_aload_n X dX7_dark_66 1 rfl ?_
              refine mj_get X inwX7_dark_X7 (mx_at mx_oX7 h18) rfl 5 (by decide) rfl lnX7_dark_1 rfl dX7_dark_67 ?_
              refine mj_aload_n X dX7_dark_70 1 rfl ?_
              refine mj_get X inwX7_dark_X7 (mx_at mx_oX7 h18) rfl 2 (by decide) rfl lnX7_dark_0 rfl dX7_dark_71 ?_
              refine mj_iload_n X dX7_dark_74 2 rfl ?_
              refine mj_iload X dX7_dark_75 0 rfl ?_
              obtain ⟨h22, r23, q24, hf⟩ := mm_c hf
              refine mj_callVi (As := [.int a0, .int r15]) (rest := [.ref (ad 28)]) X (kX0_seatedAt l D t1 t2 cI cT cS ad N h18 a0 r15 h22 r23 q24) (cwV 2 X.2.2.2.2.1 gX7_dark_X0_seatedAt rfl rfl rfl (by decide +kernel) ⟨Nat.le_of_ble_eq_true rfl, Nat.le_of_ble_eq_true rfl⟩) (mx_at mx_oX0 h18) rfl rfl rfl rfl (Nat.le_of_ble_eq_true rfl) ⟨Nat.zero_le _, Nat.zero_le _⟩ dX7_dark_77 ?_
              refine mj_iload_n X dX7_dark_80 3 rfl ?_
              refine mj_iload_n X dX7_dark_81 4 rfl ?_
              obtain ⟨h25, r26, q27, hf⟩ := mm_c hf
              refine mj_callVi (As := [.int r23, .int a1, .int a2]) (rest := []) X (kX4_leastPassed l D t1 t2 cI cT cS ad N h22 r23 a1 a2 h25 r26 q27) (cwV 3 X.2.2.2.2.1 gX7_dark_X4_leastPassed rfl rfl rfl (by decide +kernel) ⟨Nat.le_of_ble_eq_true rfl, Nat.le_of_ble_eq_true rfl⟩) (mx_at mx_oX4 h22) rfl rfl rfl rfl (Nat.le_of_ble_eq_true rfl) ⟨Nat.zero_le _, Nat.zero_le _⟩ dX7_dark_82 ?_
              exact RET h25 _ _ _ dX7_dark_85 (Option.some.inj hf)
            · have hf := mm_f c21 hf
              refine mj_bipush (v := (-3 : Int32)) X dX7_dark_63 (by decide) ?_
              exact RET h18 _ _ _ dX7_dark_65 (Option.some.inj hf)
        · have hf := mm_t c13 hf
          refine mj_bipush (v := (-2 : Int32)) X dX7_dark_29 (by decide) ?_
          exact RET h9 _ _ _ dX7_dark_31 (Option.some.inj hf)
abbrev rmX7_seen : Room := { frames := 1, cells := 0, slots := 0, locals := 23 }
theorem inwX7_seen_X7 : ∀ w ∈ wsX70, w ∈ wsX7_seen := by
  intro w hw
  have h9 : wsX70 = (wsX7_seen.drop 16).take 8 := rfl
  rw [h9] at hw
  exact List.mem_of_mem_drop (List.mem_of_mem_take hw)
theorem lnX7_seen_0 : Cond.fieldLink RX7 53 "RichestPays" "secrets" "LRichestPays$Secrets;" ∈ wsX7_seen := List.mem_of_getElem? (i := 1) rfl
theorem inwX7_seen_X4 : ∀ w ∈ wsX40, w ∈ wsX7_seen := by
  intro w hw
  have h9 : wsX40 = (wsX7_seen.drop 24).take 7 := rfl
  rw [h9] at hw
  exact List.mem_of_mem_drop (List.mem_of_mem_take hw)
theorem lnX7_seen_1 : Cond.fieldLink RX7 208 "RichestPays$Secrets" "seenNumber" "I" ∈ wsX7_seen := List.mem_of_getElem? (i := 2) rfl
set_option maxHeartbeats 4000000 in
set_option maxRecDepth 100000 in
theorem kX7_seen (l : Launch) (D : va_G) (t1 t2 : Nat) (cI : ClassId) (cT : ClassId) (cS : ClassId) (ad : Nat → Nat)  (N : Nat) (h : mm_M) (a0 : Int32) (a1 : Int32) (a2 : Int32) (h1 : mm_M) (r : Int32) (hf : fX7_seen N h a0 a1 a2 = some (h1, r)) : mm_Ki l yX7_seen wsX7_seen rmX7_seen D (mx_ty cI cT cS) t1 t2 (mx_w cI cT cS ad) [.ref (ad 0), .int a0, .int a1, .int a2] h r h1 := by
  refine mm_open_i [.ref (ad 0), .int a0, .int a1, .int a2] h r h1 RX7 (by decide) rfl rfl (Nat.le_of_ble_eq_true rfl) ?_
  intro p e s m below meth c A X hr hlocks
  have RET : ∀ (h : mm_M) (pc : Nat) (lo : List (Nat × Value)) (v : Int32), decode cX7_seen pc = .ok (.ireturn, 1) → (h, v) = (h1, r) → mm_J p l e rmX7_seen s m ([.ref (ad 0), .int a0, .int a1, .int a2] : List Value).toArray below meth c 0 0 (MQ below (va_Qi (fun (r' : Int32) (u : mm_M) => r' = r ∧ u = h1) (mm_Post D (mx_w cI cT cS ad) A) A) ([.ref (ad 0), .int a0, .int a1, .int a2] : List Value).toArray s 0 0 A) D (mx_w cI cT cS ad) A 4 h pc lo [.int v] := by
    intro h2 pc lo v hd he
    cases he
    exact mj_iret X hr rfl hlocks hd
  generalize hout : (h1, r) = out at hf RET
  unfold fX7_seen at hf
  refine mj_lo (lo' := [(0, .ref (ad 0)), (1, .int a0), (2, .int a1), (3, .int a2)]) rfl ?_
  refine mj_iload_n X dX7_seen_0 1 rfl ?_
  refine mj_iconst (v := (0 : Int32)) X dX7_seen_1 (by decide) ?_
  refine mj_bipush (v := (7 : Int32)) X dX7_seen_2 (by decide) ?_
  obtain ⟨h1, r2, q3, hf⟩ := mm_c hf
  refine mj_callSi (As := [.int a0, .int (0 : Int32), .int (7 : Int32)]) (rest := []) X (kX7_isIn l D t1 t2 cI cT cS ad N h a0 (0 : Int32) (7 : Int32) h1 r2 q3) (va_cwS 3 X.2.2.2.2.1 gX7_seen_X7_isIn rfl rfl rfl (by decide +kernel) ⟨Nat.le_of_ble_eq_true rfl, Nat.le_of_ble_eq_true rfl⟩) rfl rfl (Nat.le_of_ble_eq_true rfl) ⟨Nat.zero_le _, Nat.zero_le _⟩ dX7_seen_4 ?_
  refine mj_if_eq (tgt := 29) X dX7_seen_7 (by decide) (fun c4 => ?_) (fun c4 => ?_)
  · have hf := mm_t c4 hf
    refine mj_bipush (v := (-2 : Int32)) X dX7_seen_29 (by decide) ?_
    exact RET h1 _ _ _ dX7_seen_31 (Option.some.inj hf)
  · have hf := mm_f c4 hf
    refine mj_iload_n X dX7_seen_10 2 rfl ?_
    refine mj_iconst (v := (0 : Int32)) X dX7_seen_11 (by decide) ?_
    refine mj_iconst (v := (5 : Int32)) X dX7_seen_12 (by decide) ?_
    obtain ⟨h5, r6, q7, hf⟩ := mm_c hf
    refine mj_callSi (As := [.int a1, .int (0 : Int32), .int (5 : Int32)]) (rest := []) X (kX7_isIn l D t1 t2 cI cT cS ad N h1 a1 (0 : Int32) (5 : Int32) h5 r6 q7) (va_cwS 3 X.2.2.2.2.1 gX7_seen_X7_isIn rfl rfl rfl (by decide +kernel) ⟨Nat.le_of_ble_eq_true rfl, Nat.le_of_ble_eq_true rfl⟩) rfl rfl (Nat.le_of_ble_eq_true rfl) ⟨Nat.zero_le _, Nat.zero_le _⟩ dX7_seen_13 ?_
    refine mj_if_eq (tgt := 29) X dX7_seen_16 (by decide) (fun c8 => ?_) (fun c8 => ?_)
    · have hf := mm_t c8 hf
      refine mj_bipush (v := (-2 : Int32)) X dX7_seen_29 (by decide) ?_
      exact RET h5 _ _ _ dX7_seen_31 (Option.some.inj hf)
    · have hf := mm_f c8 hf
      refine mj_iload_n X dX7_seen_19 3 rfl ?_
      refine mj_iconst (v := (0 : Int32)) X dX7_seen_20 (by decide) ?_
      refine mj_bipush (v := (99 : Int32)) X dX7_seen_21 (by decide) ?_
      obtain ⟨h9, r10, q11, hf⟩ := mm_c hf
      refine mj_callSi (As := [.int a2, .int (0 : Int32), .int (99 : Int32)]) (rest := []) X (kX7_isIn l D t1 t2 cI cT cS ad N h5 a2 (0 : Int32) (99 : Int32) h9 r10 q11) (va_cwS 3 X.2.2.2.2.1 gX7_seen_X7_isIn rfl rfl rfl (by decide +kernel) ⟨Nat.le_of_ble_eq_true rfl, Nat.le_of_ble_eq_true rfl⟩) rfl rfl (Nat.le_of_ble_eq_true rfl) ⟨Nat.zero_le _, Nat.zero_le _⟩ dX7_seen_23 ?_
      refine mj_if_ne (tgt := 32) X dX7_seen_26 (by decide) (fun c12 => ?_) (fun c12 => ?_)
      · have hf := mm_f c12 hf
        refine mj_aload_n X dX7_seen_32 0 rfl ?_
        refine mj_get X inwX7_seen_X7 (mx_at mx_oX7 h9) rfl 5 (by decide) rfl lnX7_seen_0 rfl dX7_seen_33 ?_
        refine mj_get X inwX7_seen_X4 (mx_at mx_oX4 h9) rfl 6 (by decide) rfl lnX7_seen_1 rfl dX7_seen_36 ?_
        refine mj_bipush (v := (8 : Int32)) X dX7_seen_39 (by decide) ?_
        refine mj_icmp_lt (tgt := 47) X dX7_seen_41 (by decide) (fun c13 => ?_) (fun c13 => ?_)
        · have hf := mm_t c13 hf
          refine mj_aload_n X dX7_seen_47 0 rfl ?_
          refine mj_get X inwX7_seen_X7 (mx_at mx_oX7 h9) rfl 5 (by decide) rfl lnX7_seen_0 rfl dX7_seen_48 ?_
          refine mj_iload_n X dX7_seen_51 1 rfl ?_
          refine mj_iload_n X dX7_seen_52 2 rfl ?_
          refine mj_iload_n X dX7_seen_53 3 rfl ?_
          obtain ⟨h14, r15, q16, hf⟩ := mm_c hf
          refine mj_callVv (As := [.int a0, .int a1, .int a2]) (rest := []) X (kX4_remember l D t1 t2 cI cT cS ad N h9 a0 a1 a2 h14 r15 q16) (cwV 3 X.2.2.2.2.1 gX7_seen_X4_remember rfl rfl rfl (by decide +kernel) ⟨Nat.le_of_ble_eq_true rfl, Nat.le_of_ble_eq_true rfl⟩) (mx_at mx_oX4 h9) rfl rfl rfl rfl (Nat.le_of_ble_eq_true rfl) ⟨Nat.zero_le _, Nat.zero_le _⟩ dX7_seen_54 ?_
          refine mj_aload_n X dX7_seen_57 0 rfl ?_
          refine mj_get X inwX7_seen_X7 (mx_at mx_oX7 h14) rfl 5 (by decide) rfl lnX7_seen_0 rfl dX7_seen_58 ?_
          refine mj_get X inwX7_seen_X4 (mx_at mx_oX4 h14) rfl 6 (by decide) rfl lnX7_seen_1 rfl dX7_seen_61 ?_
          exact RET h14 _ _ _ dX7_seen_64 (Option.some.inj hf)
        · have hf := mm_f c13 hf
          refine mj_bipush (v := (-4 : Int32)) X dX7_seen_44 (by decide) ?_
          exact RET h9 _ _ _ dX7_seen_46 (Option.some.inj hf)
      · have hf := mm_t c12 hf
        refine mj_bipush (v := (-2 : Int32)) X dX7_seen_29 (by decide) ?_
        exact RET h9 _ _ _ dX7_seen_31 (Option.some.inj hf)
abbrev rmX7_forget : Room := { frames := 0, cells := 0, slots := 0, locals := 0 }
theorem inwX7_forget_X7 : ∀ w ∈ wsX70, w ∈ wsX7_forget := by
  intro w hw
  have h9 : wsX70 = (wsX7_forget.drop 3).take 8 := rfl
  rw [h9] at hw
  exact List.mem_of_mem_drop (List.mem_of_mem_take hw)
theorem lnX7_forget_0 : Cond.fieldLink RX7 53 "RichestPays" "secrets" "LRichestPays$Secrets;" ∈ wsX7_forget := List.mem_of_getElem? (i := 1) rfl
theorem inwX7_forget_X4 : ∀ w ∈ wsX40, w ∈ wsX7_forget := by
  intro w hw
  have h9 : wsX40 = (wsX7_forget.drop 11).take 7 := rfl
  rw [h9] at hw
  exact List.mem_of_mem_drop (List.mem_of_mem_take hw)
theorem lnX7_forget_1 : Cond.fieldLink RX7 208 "RichestPays$Secrets" "seenNumber" "I" ∈ wsX7_forget := List.mem_of_getElem? (i := 2) rfl
set_option maxHeartbeats 4000000 in
set_option maxRecDepth 100000 in
theorem kX7_forget (l : Launch) (D : va_G) (t1 t2 : Nat) (cI : ClassId) (cT : ClassId) (cS : ClassId) (ad : Nat → Nat)  (N : Nat) (h : mm_M)  (h1 : mm_M) (r : Int32) (hf : fX7_forget N h = some (h1, r)) : mm_Ki l yX7_forget wsX7_forget rmX7_forget D (mx_ty cI cT cS) t1 t2 (mx_w cI cT cS ad) [.ref (ad 0)] h r h1 := by
  refine mm_open_i [.ref (ad 0)] h r h1 RX7 (by decide) rfl rfl (Nat.le_of_ble_eq_true rfl) ?_
  intro p e s m below meth c A X hr hlocks
  have RET : ∀ (h : mm_M) (pc : Nat) (lo : List (Nat × Value)) (v : Int32), decode cX7_forget pc = .ok (.ireturn, 1) → (h, v) = (h1, r) → mm_J p l e rmX7_forget s m ([.ref (ad 0)] : List Value).toArray below meth c 0 0 (MQ below (va_Qi (fun (r' : Int32) (u : mm_M) => r' = r ∧ u = h1) (mm_Post D (mx_w cI cT cS ad) A) A) ([.ref (ad 0)] : List Value).toArray s 0 0 A) D (mx_w cI cT cS ad) A 2 h pc lo [.int v] := by
    intro h2 pc lo v hd he
    cases he
    exact mj_iret X hr rfl hlocks hd
  generalize hout : (h1, r) = out at hf RET
  unfold fX7_forget at hf
  refine mj_lo (lo' := [(0, .ref (ad 0))]) rfl ?_
  refine mj_aload_n X dX7_forget_0 0 rfl ?_
  refine mj_get X inwX7_forget_X7 (mx_at mx_oX7 h) rfl 5 (by decide) rfl lnX7_forget_0 rfl dX7_forget_1 ?_
  refine mj_get X inwX7_forget_X4 (mx_at mx_oX4 h) rfl 6 (by decide) rfl lnX7_forget_1 rfl dX7_forget_4 ?_
  refine mj_istore_n (lo' := [(1, .int (h 28 6)), (0, .ref (ad 0))]) X dX7_forget_7 (by decide) rfl ?_
  refine mj_aload_n X dX7_forget_8 1 rfl ?_
  refine mj_get X inwX7_forget_X7 (mx_at mx_oX7 h) rfl 5 (by decide) rfl lnX7_forget_0 rfl dX7_forget_9 ?_
  refine mj_iconst (v := (0 : Int32)) X dX7_forget_12 (by decide) ?_
  obtain ⟨h1, eh1, hf⟩ := mm_l hf
  refine mj_put X tyX4_ok nmX4 inwX7_forget_X4 (mx_at mx_oX4 h) rfl 6 (by decide) rfl lnX7_forget_1 rfl (tyX4_ok 6 (by decide)) rfl rfl (Nat.le_of_ble_eq_true rfl) (mx_put mx_oX4 eh1 (by simp [mm_up_at, upd])) dX7_forget_13 ?_
  refine mj_iload_n X dX7_forget_16 0 rfl ?_
  exact RET h1 _ _ _ dX7_forget_17 (Option.some.inj hf)
abbrev rmX7_unlike : Room := { frames := 5, cells := 0, slots := 0, locals := 118 }
theorem inwX7_unlike_X7 : ∀ w ∈ wsX70, w ∈ wsX7_unlike := by
  intro w hw
  have h9 : wsX70 = (wsX7_unlike.drop 86).take 8 := rfl
  rw [h9] at hw
  exact List.mem_of_mem_drop (List.mem_of_mem_take hw)
theorem lnX7_unlike_0 : Cond.fieldLink RX7 30 "RichestPays" "evening" "LRichestPays$Evening;" ∈ wsX7_unlike := List.mem_of_getElem? (i := 1) rfl
theorem inwX7_unlike_X0 : ∀ w ∈ wsX00, w ∈ wsX7_unlike := by
  intro w hw
  have h9 : wsX00 = (wsX7_unlike.drop 94).take 11 := rfl
  rw [h9] at hw
  exact List.mem_of_mem_drop (List.mem_of_mem_take hw)
theorem lnX7_unlike_1 : Cond.fieldLink RX7 144 "RichestPays$Evening" "rounds" "I" ∈ wsX7_unlike := List.mem_of_getElem? (i := 2) rfl
theorem lnX7_unlike_2 : Cond.fieldLink RX7 53 "RichestPays" "secrets" "LRichestPays$Secrets;" ∈ wsX7_unlike := List.mem_of_getElem? (i := 3) rfl
set_option maxHeartbeats 4000000 in
set_option maxRecDepth 100000 in
theorem kX7_unlike (l : Launch) (D : va_G) (t1 t2 : Nat) (cI : ClassId) (cT : ClassId) (cS : ClassId) (ad : Nat → Nat)  (N : Nat) (h : mm_M)  (h1 : mm_M) (r : Int32) (hf : fX7_unlike N h = some (h1, r)) : mm_Ki l yX7_unlike wsX7_unlike rmX7_unlike D (mx_ty cI cT cS) t1 t2 (mx_w cI cT cS ad) [.ref (ad 0)] h r h1 := by
  refine mm_open_i [.ref (ad 0)] h r h1 RX7 (by decide) rfl rfl (Nat.le_of_ble_eq_true rfl) ?_
  intro p e s m below meth c A X hr hlocks
  have RET : ∀ (h : mm_M) (pc : Nat) (lo : List (Nat × Value)) (v : Int32), decode cX7_unlike pc = .ok (.ireturn, 1) → (h, v) = (h1, r) → mm_J p l e rmX7_unlike s m ([.ref (ad 0)] : List Value).toArray below meth c 0 0 (MQ below (va_Qi (fun (r' : Int32) (u : mm_M) => r' = r ∧ u = h1) (mm_Post D (mx_w cI cT cS ad) A) A) ([.ref (ad 0)] : List Value).toArray s 0 0 A) D (mx_w cI cT cS ad) A 1 h pc lo [.int v] := by
    intro h2 pc lo v hd he
    cases he
    exact mj_iret X hr rfl hlocks hd
  generalize hout : (h1, r) = out at hf RET
  unfold fX7_unlike at hf
  refine mj_lo (lo' := [(0, .ref (ad 0))]) rfl ?_
  refine mj_aload_n X dX7_unlike_0 0 rfl ?_
  refine mj_get X inwX7_unlike_X7 (mx_at mx_oX7 h) rfl 2 (by decide) rfl lnX7_unlike_0 rfl dX7_unlike_1 ?_
  refine mj_aload_n X dX7_unlike_4 0 rfl ?_
  refine mj_get X inwX7_unlike_X7 (mx_at mx_oX7 h) rfl 2 (by decide) rfl lnX7_unlike_0 rfl dX7_unlike_5 ?_
  refine mj_get X inwX7_unlike_X0 (mx_at mx_oX0 h) rfl 9 (by decide) rfl lnX7_unlike_1 rfl dX7_unlike_8 ?_
  obtain ⟨h1, r2, q3, hf⟩ := mm_c hf
  refine mj_callVv (As := [.int (h 12 9)]) (rest := []) X (kX0_play l D t1 t2 cI cT cS ad N h (h 12 9) h1 r2 q3) (cwV 1 X.2.2.2.2.1 gX7_unlike_X0_play rfl rfl rfl (by decide +kernel) ⟨Nat.le_of_ble_eq_true rfl, Nat.le_of_ble_eq_true rfl⟩) (mx_at mx_oX0 h) rfl rfl rfl rfl (Nat.le_of_ble_eq_true rfl) ⟨Nat.zero_le _, Nat.zero_le _⟩ dX7_unlike_11 ?_
  refine mj_aload_n X dX7_unlike_14 0 rfl ?_
  refine mj_get X inwX7_unlike_X7 (mx_at mx_oX7 h1) rfl 5 (by decide) rfl lnX7_unlike_2 rfl dX7_unlike_15 ?_
  obtain ⟨h4, r5, q6, hf⟩ := mm_c hf
  refine mj_callVi (As := []) (rest := []) X (kX4_unlikeSeen l D t1 t2 cI cT cS ad N h1 h4 r5 q6) (cwV 0 X.2.2.2.2.1 gX7_unlike_X4_unlikeSeen rfl rfl rfl (by decide +kernel) ⟨Nat.le_of_ble_eq_true rfl, Nat.le_of_ble_eq_true rfl⟩) (mx_at mx_oX4 h1) rfl rfl rfl rfl (Nat.le_of_ble_eq_true rfl) ⟨Nat.zero_le _, Nat.zero_le _⟩ dX7_unlike_18 ?_
  exact RET h4 _ _ _ dX7_unlike_21 (Option.some.inj hf)
abbrev rmX7_hid : Room := { frames := 5, cells := 0, slots := 0, locals := 119 }
theorem inwX7_hid_X7 : ∀ w ∈ wsX70, w ∈ wsX7_hid := by
  intro w hw
  have h9 : wsX70 = (wsX7_hid.drop 96).take 8 := rfl
  rw [h9] at hw
  exact List.mem_of_mem_drop (List.mem_of_mem_take hw)
theorem lnX7_hid_0 : Cond.fieldLink RX7 53 "RichestPays" "secrets" "LRichestPays$Secrets;" ∈ wsX7_hid := List.mem_of_getElem? (i := 1) rfl
set_option maxHeartbeats 4000000 in
set_option maxRecDepth 100000 in
theorem kX7_hid (l : Launch) (D : va_G) (t1 t2 : Nat) (cI : ClassId) (cT : ClassId) (cS : ClassId) (ad : Nat → Nat)  (N : Nat) (h : mm_M) (a0 : Int32) (h1 : mm_M) (r : Int32) (hf : fX7_hid N h a0 = some (h1, r)) : mm_Ki l yX7_hid wsX7_hid rmX7_hid D (mx_ty cI cT cS) t1 t2 (mx_w cI cT cS ad) [.ref (ad 0), .int a0] h r h1 := by
  refine mm_open_i [.ref (ad 0), .int a0] h r h1 RX7 (by decide) rfl rfl (Nat.le_of_ble_eq_true rfl) ?_
  intro p e s m below meth c A X hr hlocks
  have RET : ∀ (h : mm_M) (pc : Nat) (lo : List (Nat × Value)) (v : Int32), decode cX7_hid pc = .ok (.ireturn, 1) → (h, v) = (h1, r) → mm_J p l e rmX7_hid s m ([.ref (ad 0), .int a0] : List Value).toArray below meth c 0 0 (MQ below (va_Qi (fun (r' : Int32) (u : mm_M) => r' = r ∧ u = h1) (mm_Post D (mx_w cI cT cS ad) A) A) ([.ref (ad 0), .int a0] : List Value).toArray s 0 0 A) D (mx_w cI cT cS ad) A 2 h pc lo [.int v] := by
    intro h2 pc lo v hd he
    cases he
    exact mj_iret X hr rfl hlocks hd
  generalize hout : (h1, r) = out at hf RET
  unfold fX7_hid at hf
  refine mj_lo (lo' := [(0, .ref (ad 0)), (1, .int a0)]) rfl ?_
  refine mj_aload_n X dX7_hid_0 0 rfl ?_
  refine mj_iload_n X dX7_hid_1 1 rfl ?_
  obtain ⟨h1, r2, q3, hf⟩ := mm_c hf
  refine mj_callVi (As := [.int a0]) (rest := []) X (kX7_isPerson l D t1 t2 cI cT cS ad N h a0 h1 r2 q3) (cwV 1 X.2.2.2.2.1 gX7_hid_X7_isPerson rfl rfl rfl (by decide +kernel) ⟨Nat.le_of_ble_eq_true rfl, Nat.le_of_ble_eq_true rfl⟩) (mx_at mx_oX7 h) rfl rfl rfl rfl (Nat.le_of_ble_eq_true rfl) ⟨Nat.zero_le _, Nat.zero_le _⟩ dX7_hid_2 ?_
  refine mj_if_eq (tgt := 19) X dX7_hid_5 (by decide) (fun c4 => ?_) (fun c4 => ?_)
  · have hf := mm_t c4 hf
    refine mj_bipush (v := (-2 : Int32)) X dX7_hid_19 (by decide) ?_
    exact RET h1 _ _ _ dX7_hid_21 (Option.some.inj hf)
  · have hf := mm_f c4 hf
    refine mj_aload_n X dX7_hid_8 0 rfl ?_
    refine mj_get X inwX7_hid_X7 (mx_at mx_oX7 h1) rfl 5 (by decide) rfl lnX7_hid_0 rfl dX7_hid_9 ?_
    refine mj_iload_n X dX7_hid_12 1 rfl ?_
    obtain ⟨h5, r6, q7, hf⟩ := mm_c hf
    refine mj_callVi (As := [.int a0]) (rest := []) X (kX4_leastHidden l D t1 t2 cI cT cS ad N h1 a0 h5 r6 q7) (cwV 1 X.2.2.2.2.1 gX7_hid_X4_leastHidden rfl rfl rfl (by decide +kernel) ⟨Nat.le_of_ble_eq_true rfl, Nat.le_of_ble_eq_true rfl⟩) (mx_at mx_oX4 h1) rfl rfl rfl rfl (Nat.le_of_ble_eq_true rfl) ⟨Nat.zero_le _, Nat.zero_le _⟩ dX7_hid_13 ?_
    refine mj_goto (tgt := 21) X dX7_hid_16 (by decide) ?_
    exact RET h5 _ _ _ dX7_hid_21 (Option.some.inj hf)
abbrev rmX7_greatestDivisor : Room := { frames := 0, cells := 0, slots := 0, locals := 0 }
set_option maxHeartbeats 4000000 in
set_option maxRecDepth 100000 in
theorem wX7_greatestDivisor_L2 (X : mm_X p s m args c cX7_greatestDivisor RX7 wsX7_greatestDivisor 3 D (mx_ty cI cT cS) t1 t2 A) (out : mm_M × Int32) (RET : ∀ (h : mm_M) (pc : Nat) (lo : List (Nat × Value)) (v : Int32), decode cX7_greatestDivisor pc = .ok (.ireturn, 1) → (h, v) = out → mm_J p l e rmX7_greatestDivisor s m args below meth c 0 0 Q D (mx_w cI cT cS ad) A 3 h pc lo [.int v]) (N : Nat)  (p0 : Int32) (p1 : Int32) (k : mm_M → Option (mm_M × Int32)) (HK : ∀ (h : mm_M), k h = some out → mm_J p l e rmX7_greatestDivisor s m args below meth c 0 0 Q D (mx_w cI cT cS ad) A 3 h 27 [] []) : ∀ (n : Nat) (h : mm_M) (m2 : Int32), fX7_greatestDivisor_L2 N p0 p1 k n h m2 = some out → mm_J p l e rmX7_greatestDivisor s m args below meth c 0 0 Q D (mx_w cI cT cS ad) A 3 h 2 [(0, .int p0), (1, .int p1), (2, .int m2)] [] := by
  intro n
  induction n with
  | zero =>
    intro h m2 hf
    cases hf
  | succ n ih =>
    intro h m2 hf
    rw [fX7_greatestDivisor_L2] at hf
    refine mj_iload_n X dX7_greatestDivisor_2 2 rfl ?_
    refine mj_iconst (v := (1 : Int32)) X dX7_greatestDivisor_3 (by decide) ?_
    refine mj_icmp_le (tgt := 27) X dX7_greatestDivisor_4 (by decide) (fun c1 => ?_) (fun c1 => ?_)
    · have hf := mm_t c1 hf
      exact mj_sub [] rfl (HK h hf)
    · have hf := mm_f c1 hf
      refine mj_iload_n X dX7_greatestDivisor_7 0 rfl ?_
      refine mj_iload_n X dX7_greatestDivisor_8 2 rfl ?_
      obtain ⟨g2, hf⟩ := mm_g hf
      refine mj_irem X dX7_greatestDivisor_9 g2 ?_
      refine mj_if_ne (tgt := 21) X dX7_greatestDivisor_10 (by decide) (fun c3 => ?_) (fun c3 => ?_)
      · have hf := mm_f c3 hf
        refine mj_iinc (k := 2) (v := (m2 + (-1))) (lo' := [(2, .int (m2 + (-1))), (0, .int p0), (1, .int p1)]) X dX7_greatestDivisor_21 rfl rfl (by decide) rfl ?_
        refine mj_goto (tgt := 2) X dX7_greatestDivisor_24 (by decide) ?_
        exact mj_sub [1, 2, 0] rfl (ih h (m2 + (-1)) hf)
      · have hf := mm_t c3 hf
        refine mj_iload_n X dX7_greatestDivisor_13 1 rfl ?_
        refine mj_iload_n X dX7_greatestDivisor_14 2 rfl ?_
        refine mj_irem X dX7_greatestDivisor_15 g2 ?_
        refine mj_if_ne (tgt := 21) X dX7_greatestDivisor_16 (by decide) (fun c4 => ?_) (fun c4 => ?_)
        · have hf := mm_f c4 hf
          refine mj_iinc (k := 2) (v := (m2 + (-1))) (lo' := [(2, .int (m2 + (-1))), (0, .int p0), (1, .int p1)]) X dX7_greatestDivisor_21 rfl rfl (by decide) rfl ?_
          refine mj_goto (tgt := 2) X dX7_greatestDivisor_24 (by decide) ?_
          exact mj_sub [1, 2, 0] rfl (ih h (m2 + (-1)) hf)
        · have hf := mm_t c4 hf
          refine mj_iload_n X dX7_greatestDivisor_19 2 rfl ?_
          exact RET h _ _ _ dX7_greatestDivisor_20 (Option.some.inj hf)
set_option maxHeartbeats 4000000 in
set_option maxRecDepth 100000 in
theorem kX7_greatestDivisor (l : Launch) (D : va_G) (t1 t2 : Nat) (cI : ClassId) (cT : ClassId) (cS : ClassId) (ad : Nat → Nat)  (N : Nat) (h : mm_M) (a0 : Int32) (a1 : Int32) (h1 : mm_M) (r : Int32) (hf : fX7_greatestDivisor N h a0 a1 = some (h1, r)) : mm_Ki l yX7_greatestDivisor wsX7_greatestDivisor rmX7_greatestDivisor D (mx_ty cI cT cS) t1 t2 (mx_w cI cT cS ad) [.int a0, .int a1] h r h1 := by
  refine mm_open_i [.int a0, .int a1] h r h1 RX7 (by decide) rfl rfl (Nat.le_of_ble_eq_true rfl) ?_
  intro p e s m below meth c A X hr hlocks
  have RET : ∀ (h : mm_M) (pc : Nat) (lo : List (Nat × Value)) (v : Int32), decode cX7_greatestDivisor pc = .ok (.ireturn, 1) → (h, v) = (h1, r) → mm_J p l e rmX7_greatestDivisor s m ([.int a0, .int a1] : List Value).toArray below meth c 0 0 (MQ below (va_Qi (fun (r' : Int32) (u : mm_M) => r' = r ∧ u = h1) (mm_Post D (mx_w cI cT cS ad) A) A) ([.int a0, .int a1] : List Value).toArray s 0 0 A) D (mx_w cI cT cS ad) A 3 h pc lo [.int v] := by
    intro h2 pc lo v hd he
    cases he
    exact mj_iret X hr rfl hlocks hd
  generalize hout : (h1, r) = out at hf RET
  unfold fX7_greatestDivisor at hf
  refine mj_lo (lo' := [(0, .int a0), (1, .int a1)]) rfl ?_
  refine mj_iload_n X dX7_greatestDivisor_0 1 rfl ?_
  refine mj_istore_n (lo' := [(2, .int a1), (0, .int a0), (1, .int a1)]) X dX7_greatestDivisor_1 (by decide) rfl ?_
  refine mj_sub [1, 2, 0] rfl (wX7_greatestDivisor_L2 X out RET N a0 a1 _ (fun h5 hf => ?_) N h a1 hf)
  refine mj_iconst (v := (1 : Int32)) X dX7_greatestDivisor_27 (by decide) ?_
  exact RET h5 _ _ _ dX7_greatestDivisor_28 (Option.some.inj hf)
abbrev rmX7_power : Room := { frames := 0, cells := 0, slots := 0, locals := 0 }
set_option maxHeartbeats 4000000 in
set_option maxRecDepth 100000 in
theorem wX7_power_L5 (X : mm_X p s m args c cX7_power RX7 wsX7_power 6 D (mx_ty cI cT cS) t1 t2 A) (out : mm_M × Int64) (RET : ∀ (h : mm_M) (pc : Nat) (lo : List (Nat × Value)) (v : Int64), decode cX7_power pc = .ok (.lreturn, 1) → (h, v) = out → mm_J p l e rmX7_power s m args below meth c 0 0 Q D (mx_w cI cT cS ad) A 6 h pc lo [.long v]) (N : Nat)  (p0 : Int64) (p2 : Int32) (k : mm_M → Int64 → Option (mm_M × Int64)) (HK : ∀ (h : mm_M) (m3 : Int64), k h m3 = some out → mm_J p l e rmX7_power s m args below meth c 0 0 Q D (mx_w cI cT cS ad) A 6 h 21 [(3, .long m3)] []) : ∀ (n : Nat) (h : mm_M) (m3 : Int64) (m5 : Int32), fX7_power_L5 N p0 p2 k n h m3 m5 = some out → mm_J p l e rmX7_power s m args below meth c 0 0 Q D (mx_w cI cT cS ad) A 6 h 5 [(0, .long p0), (2, .int p2), (3, .long m3), (5, .int m5)] [] := by
  intro n
  induction n with
  | zero =>
    intro h m3 m5 hf
    cases hf
  | succ n ih =>
    intro h m3 m5 hf
    rw [fX7_power_L5] at hf
    refine mj_iload X dX7_power_5 3 rfl ?_
    refine mj_iload_n X dX7_power_7 1 rfl ?_
    refine mj_icmp_ge (tgt := 21) X dX7_power_8 (by decide) (fun c1 => ?_) (fun c1 => ?_)
    · have hf := mm_t c1 hf
      exact mj_sub [2] rfl (HK h m3 hf)
    · have hf := mm_f c1 hf
      refine mj_lload_n X dX7_power_11 2 rfl ?_
      refine mj_lload_n X dX7_power_12 0 rfl ?_
      refine mj_lmul X dX7_power_13 ?_
      obtain ⟨x2, ex2, hf⟩ := mm_l hf
      refine mj_topl ex2 ?_
      refine mj_lstore_n (lo' := [(3, .long x2), (0, .long p0), (2, .int p2), (5, .int m5)]) X dX7_power_14 (by decide) rfl ?_
      refine mj_iinc (k := 3) (v := (m5 + 1)) (lo' := [(5, .int (m5 + 1)), (3, .long x2), (0, .long p0), (2, .int p2)]) X dX7_power_15 rfl rfl (by decide) rfl ?_
      refine mj_goto (tgt := 5) X dX7_power_18 (by decide) ?_
      exact mj_sub [2, 3, 1, 0] rfl (ih h x2 (m5 + 1) hf)
set_option maxHeartbeats 4000000 in
set_option maxRecDepth 100000 in
theorem kX7_power (l : Launch) (D : va_G) (t1 t2 : Nat) (cI : ClassId) (cT : ClassId) (cS : ClassId) (ad : Nat → Nat)  (N : Nat) (h : mm_M) (a0 : Int64) (a1 : Int32) (h1 : mm_M) (r : Int64) (hf : fX7_power N h a0 a1 = some (h1, r)) : mm_Kl l yX7_power wsX7_power rmX7_power D (mx_ty cI cT cS) t1 t2 (mx_w cI cT cS ad) [.long a0, .int a1] h r h1 := by
  refine mm_open_l [.long a0, .int a1] h r h1 RX7 (by decide) rfl rfl (Nat.le_of_ble_eq_true rfl) ?_
  intro p e s m below meth c A X hr hlocks
  have RET : ∀ (h : mm_M) (pc : Nat) (lo : List (Nat × Value)) (v : Int64), decode cX7_power pc = .ok (.lreturn, 1) → (h, v) = (h1, r) → mm_J p l e rmX7_power s m ([.long a0, .int a1] : List Value).toArray below meth c 0 0 (MQ below (va_Ql (fun (r' : Int64) (u : mm_M) => r' = r ∧ u = h1) (mm_Post D (mx_w cI cT cS ad) A) A) ([.long a0, .int a1] : List Value).toArray s 0 0 A) D (mx_w cI cT cS ad) A 6 h pc lo [.long v] := by
    intro h2 pc lo v hd he
    cases he
    exact mj_lret X hr hlocks hd
  generalize hout : (h1, r) = out at hf RET
  unfold fX7_power at hf
  refine mj_lo (lo' := [(0, .long a0), (2, .int a1)]) rfl ?_
  refine mj_lconst (v := (1 : Int64)) X dX7_power_0 (by decide) ?_
  refine mj_lstore_n (lo' := [(3, .long (1 : Int64)), (0, .long a0), (2, .int a1)]) X dX7_power_1 (by decide) rfl ?_
  refine mj_iconst (v := (0 : Int32)) X dX7_power_2 (by decide) ?_
  refine mj_istore (lo' := [(5, .int (0 : Int32)), (3, .long (1 : Int64)), (0, .long a0), (2, .int a1)]) X dX7_power_3 (by decide) rfl ?_
  refine mj_sub [2, 3, 1, 0] rfl (wX7_power_L5 X out RET N a0 a1 _ (fun h3 v4 hf => ?_) N h (1 : Int64) (0 : Int32) hf)
  refine mj_lload_n X dX7_power_21 0 rfl ?_
  exact RET h3 _ _ _ dX7_power_22 (Option.some.inj hf)
abbrev rmX7_luck : Room := { frames := 1, cells := 0, slots := 0, locals := 25 }
theorem lnX7_luck_0 : Cond.constantLong RX7 223 (-9223372036854775806) ∈ wsX7_luck := List.mem_of_getElem? (i := 1) rfl
theorem lnX7_luck_1 : Cond.methodLink RX7 130 Lib.Math.min.name ∈ wsX7_luck := List.mem_of_getElem? (i := 2) rfl
theorem lnX7_luck_2 : Cond.static Lib.Math.min.name ∈ wsX7_luck := List.mem_of_getElem? (i := 3) rfl
theorem lnX7_luck_3 : Cond.initialized "java/lang/Math" ∈ wsX7_luck := List.mem_of_getElem? (i := 4) rfl
theorem lnX7_luck_4 : Cond.code Lib.Math.min.name Lib.Math.min.code 2 (some .int) ∈ wsX7_luck := List.mem_of_getElem? (i := 5) rfl
set_option maxHeartbeats 4000000 in
set_option maxRecDepth 100000 in
theorem kX7_luck (l : Launch) (D : va_G) (t1 t2 : Nat) (cI : ClassId) (cT : ClassId) (cS : ClassId) (ad : Nat → Nat)  (N : Nat) (h : mm_M) (a0 : Int32) (a1 : Int32) (a2 : Int32) (a3 : Int32) (h1 : mm_M) (r : Int64) (hf : fX7_luck N h a0 a1 a2 a3 = some (h1, r)) : mm_Kl l yX7_luck wsX7_luck rmX7_luck D (mx_ty cI cT cS) t1 t2 (mx_w cI cT cS ad) [.ref (ad 0), .int a0, .int a1, .int a2, .int a3] h r h1 := by
  refine mm_open_l [.ref (ad 0), .int a0, .int a1, .int a2, .int a3] h r h1 RX7 (by decide) rfl rfl (Nat.le_of_ble_eq_true rfl) ?_
  intro p e s m below meth c A X hr hlocks
  have RET : ∀ (h : mm_M) (pc : Nat) (lo : List (Nat × Value)) (v : Int64), decode cX7_luck pc = .ok (.lreturn, 1) → (h, v) = (h1, r) → mm_J p l e rmX7_luck s m ([.ref (ad 0), .int a0, .int a1, .int a2, .int a3] : List Value).toArray below meth c 0 0 (MQ below (va_Ql (fun (r' : Int64) (u : mm_M) => r' = r ∧ u = h1) (mm_Post D (mx_w cI cT cS ad) A) A) ([.ref (ad 0), .int a0, .int a1, .int a2, .int a3] : List Value).toArray s 0 0 A) D (mx_w cI cT cS ad) A 8 h pc lo [.long v] := by
    intro h2 pc lo v hd he
    cases he
    exact mj_lret X hr hlocks hd
  generalize hout : (h1, r) = out at hf RET
  unfold fX7_luck at hf
  refine mj_lo (lo' := [(0, .ref (ad 0)), (1, .int a0), (2, .int a1), (3, .int a2), (4, .int a3)]) rfl ?_
  refine mj_iload_n X dX7_luck_0 1 rfl ?_
  refine mj_iconst (v := (0 : Int32)) X dX7_luck_1 (by decide) ?_
  refine mj_iconst (v := (5 : Int32)) X dX7_luck_2 (by decide) ?_
  obtain ⟨h1, r2, q3, hf⟩ := mm_c hf
  refine mj_callSi (As := [.int a0, .int (0 : Int32), .int (5 : Int32)]) (rest := []) X (kX7_isIn l D t1 t2 cI cT cS ad N h a0 (0 : Int32) (5 : Int32) h1 r2 q3) (va_cwS 3 X.2.2.2.2.1 gX7_luck_X7_isIn rfl rfl rfl (by decide +kernel) ⟨Nat.le_of_ble_eq_true rfl, Nat.le_of_ble_eq_true rfl⟩) rfl rfl (Nat.le_of_ble_eq_true rfl) ⟨Nat.zero_le _, Nat.zero_le _⟩ dX7_luck_3 ?_
  refine mj_if_eq (tgt := 39) X dX7_luck_6 (by decide) (fun c4 => ?_) (fun c4 => ?_)
  · have hf := mm_t c4 hf
    refine mj_ldc2 (v := (-9223372036854775806 : Int64)) X lnX7_luck_0 dX7_luck_39 ?_
    exact RET h1 _ _ _ dX7_luck_42 (Option.some.inj hf)
  · have hf := mm_f c4 hf
    refine mj_iload_n X dX7_luck_9 2 rfl ?_
    refine mj_iconst (v := (0 : Int32)) X dX7_luck_10 (by decide) ?_
    refine mj_bipush (v := (99 : Int32)) X dX7_luck_11 (by decide) ?_
    obtain ⟨h5, r6, q7, hf⟩ := mm_c hf
    refine mj_callSi (As := [.int a1, .int (0 : Int32), .int (99 : Int32)]) (rest := []) X (kX7_isIn l D t1 t2 cI cT cS ad N h1 a1 (0 : Int32) (99 : Int32) h5 r6 q7) (va_cwS 3 X.2.2.2.2.1 gX7_luck_X7_isIn rfl rfl rfl (by decide +kernel) ⟨Nat.le_of_ble_eq_true rfl, Nat.le_of_ble_eq_true rfl⟩) rfl rfl (Nat.le_of_ble_eq_true rfl) ⟨Nat.zero_le _, Nat.zero_le _⟩ dX7_luck_13 ?_
    refine mj_if_eq (tgt := 39) X dX7_luck_16 (by decide) (fun c8 => ?_) (fun c8 => ?_)
    · have hf := mm_t c8 hf
      refine mj_ldc2 (v := (-9223372036854775806 : Int64)) X lnX7_luck_0 dX7_luck_39 ?_
      exact RET h5 _ _ _ dX7_luck_42 (Option.some.inj hf)
    · have hf := mm_f c8 hf
      refine mj_iload_n X dX7_luck_19 3 rfl ?_
      refine mj_iconst (v := (1 : Int32)) X dX7_luck_20 (by decide) ?_
      refine mj_bipush (v := (99 : Int32)) X dX7_luck_21 (by decide) ?_
      obtain ⟨h9, r10, q11, hf⟩ := mm_c hf
      refine mj_callSi (As := [.int a2, .int (1 : Int32), .int (99 : Int32)]) (rest := []) X (kX7_isIn l D t1 t2 cI cT cS ad N h5 a2 (1 : Int32) (99 : Int32) h9 r10 q11) (va_cwS 3 X.2.2.2.2.1 gX7_luck_X7_isIn rfl rfl rfl (by decide +kernel) ⟨Nat.le_of_ble_eq_true rfl, Nat.le_of_ble_eq_true rfl⟩) rfl rfl (Nat.le_of_ble_eq_true rfl) ⟨Nat.zero_le _, Nat.zero_le _⟩ dX7_luck_23 ?_
      refine mj_if_eq (tgt := 39) X dX7_luck_26 (by decide) (fun c12 => ?_) (fun c12 => ?_)
      · have hf := mm_t c12 hf
        refine mj_ldc2 (v := (-9223372036854775806 : Int64)) X lnX7_luck_0 dX7_luck_39 ?_
        exact RET h9 _ _ _ dX7_luck_42 (Option.some.inj hf)
      · have hf := mm_f c12 hf
        refine mj_iload X dX7_luck_29 4 rfl ?_
        refine mj_iconst (v := (0 : Int32)) X dX7_luck_31 (by decide) ?_
        refine mj_iconst (v := (1 : Int32)) X dX7_luck_32 (by decide) ?_
        obtain ⟨h13, r14, q15, hf⟩ := mm_c hf
        refine mj_callSi (As := [.int a3, .int (0 : Int32), .int (1 : Int32)]) (rest := []) X (kX7_isIn l D t1 t2 cI cT cS ad N h9 a3 (0 : Int32) (1 : Int32) h13 r14 q15) (va_cwS 3 X.2.2.2.2.1 gX7_luck_X7_isIn rfl rfl rfl (by decide +kernel) ⟨Nat.le_of_ble_eq_true rfl, Nat.le_of_ble_eq_true rfl⟩) rfl rfl (Nat.le_of_ble_eq_true rfl) ⟨Nat.zero_le _, Nat.zero_le _⟩ dX7_luck_33 ?_
        refine mj_if_ne (tgt := 43) X dX7_luck_36 (by decide) (fun c16 => ?_) (fun c16 => ?_)
        · have hf := mm_f c16 hf
          refine mj_iload_n X dX7_luck_43 3 rfl ?_
          refine mj_iconst (v := (1 : Int32)) X dX7_luck_44 (by decide) ?_
          refine mj_iadd X dX7_luck_45 ?_
          obtain ⟨x17, ex17, hf⟩ := mm_l hf
          refine mj_topi ex17 ?_
          refine mj_istore (lo' := [(5, .int x17), (0, .ref (ad 0)), (1, .int a0), (2, .int a1), (3, .int a2), (4, .int a3)]) X dX7_luck_46 (by decide) rfl ?_
          refine mj_iload_n X dX7_luck_48 3 rfl ?_
          refine mj_iload X dX7_luck_49 0 rfl ?_
          refine mj_min X lnX7_luck_1 lnX7_luck_2 lnX7_luck_3 lnX7_luck_4 (Nat.le_of_ble_eq_true rfl) (Nat.le_of_ble_eq_true rfl) ⟨Nat.zero_le _, Nat.zero_le _⟩ dX7_luck_51 ?_
          obtain ⟨x18, ex18, hf⟩ := mm_l hf
          refine mj_topi ex18 ?_
          refine mj_istore (lo' := [(6, .int x18), (5, .int x17), (0, .ref (ad 0)), (1, .int a0), (2, .int a1), (3, .int a2), (4, .int a3)]) X dX7_luck_54 (by decide) rfl ?_
          refine mj_iload X dX7_luck_56 0 rfl ?_
          refine mj_iload X dX7_luck_58 1 rfl ?_
          obtain ⟨h19, r20, q21, hf⟩ := mm_c hf
          refine mj_callSi (As := [.int x18, .int x17]) (rest := []) X (kX7_greatestDivisor l D t1 t2 cI cT cS ad N h13 x18 x17 h19 r20 q21) (va_cwS 2 X.2.2.2.2.1 gX7_luck_X7_greatestDivisor rfl rfl rfl (by decide +kernel) ⟨Nat.le_of_ble_eq_true rfl, Nat.le_of_ble_eq_true rfl⟩) rfl rfl (Nat.le_of_ble_eq_true rfl) ⟨Nat.zero_le _, Nat.zero_le _⟩ dX7_luck_60 ?_
          refine mj_istore (lo' := [(7, .int r20), (6, .int x18), (5, .int x17), (0, .ref (ad 0)), (1, .int a0), (2, .int a1), (3, .int a2), (4, .int a3)]) X dX7_luck_63 (by decide) rfl ?_
          refine mj_iload X dX7_luck_65 7 rfl ?_
          refine mj_if_ne (tgt := 75) X dX7_luck_67 (by decide) (fun c22 => ?_) (fun c22 => ?_)
          · have hf := mm_f c22 hf
            refine mj_iload X dX7_luck_75 2 rfl ?_
            refine mj_iload X dX7_luck_77 0 rfl ?_
            obtain ⟨g23, hf⟩ := mm_g hf
            refine mj_idiv X dX7_luck_79 g23 ?_
            refine mj_i2l X dX7_luck_80 ?_
            refine mj_iload_n X dX7_luck_81 4 rfl ?_
            obtain ⟨h24, r25, q26, hf⟩ := mm_c hf
            refine mj_callSl (As := [.long (x17 / r20).toInt64, .int a0]) (rest := []) X (kX7_power l D t1 t2 cI cT cS ad N h19 ((x17 / r20).toInt64) a0 h24 r25 q26) (va_cwS 2 X.2.2.2.2.1 gX7_luck_X7_power rfl rfl rfl (by decide +kernel) ⟨Nat.le_of_ble_eq_true rfl, Nat.le_of_ble_eq_true rfl⟩) rfl rfl (Nat.le_of_ble_eq_true rfl) ⟨Nat.zero_le _, Nat.zero_le _⟩ dX7_luck_82 ?_
            exact RET h24 _ _ _ dX7_luck_85 (Option.some.inj hf)
          · have hf := mm_t c22 hf
            refine mj_iload X dX7_luck_70 1 rfl ?_
            refine mj_goto (tgt := 77) X dX7_luck_72 (by decide) ?_
            refine mj_iload X dX7_luck_77 0 rfl ?_
            obtain ⟨g27, hf⟩ := mm_g hf
            refine mj_idiv X dX7_luck_79 g27 ?_
            refine mj_i2l X dX7_luck_80 ?_
            refine mj_iload_n X dX7_luck_81 4 rfl ?_
            obtain ⟨h28, r29, q30, hf⟩ := mm_c hf
            refine mj_callSl (As := [.long (x18 / r20).toInt64, .int a0]) (rest := []) X (kX7_power l D t1 t2 cI cT cS ad N h19 ((x18 / r20).toInt64) a0 h28 r29 q30) (va_cwS 2 X.2.2.2.2.1 gX7_luck_X7_power rfl rfl rfl (by decide +kernel) ⟨Nat.le_of_ble_eq_true rfl, Nat.le_of_ble_eq_true rfl⟩) rfl rfl (Nat.le_of_ble_eq_true rfl) ⟨Nat.zero_le _, Nat.zero_le _⟩ dX7_luck_82 ?_
            exact RET h28 _ _ _ dX7_luck_85 (Option.some.inj hf)
        · have hf := mm_t c16 hf
          refine mj_ldc2 (v := (-9223372036854775806 : Int64)) X lnX7_luck_0 dX7_luck_39 ?_
          exact RET h13 _ _ _ dX7_luck_42 (Option.some.inj hf)
abbrev rmX7_isForm : Room := { frames := 1, cells := 0, slots := 0, locals := 22 }
set_option maxHeartbeats 4000000 in
set_option maxRecDepth 100000 in
theorem kX7_isForm (l : Launch) (D : va_G) (t1 t2 : Nat) (cI : ClassId) (cT : ClassId) (cS : ClassId) (ad : Nat → Nat)  (N : Nat) (h : mm_M) (a0 : Int32) (h1 : mm_M) (r : Int32) (hf : fX7_isForm N h a0 = some (h1, r)) : mm_Ki l yX7_isForm wsX7_isForm rmX7_isForm D (mx_ty cI cT cS) t1 t2 (mx_w cI cT cS ad) [.int a0] h r h1 := by
  refine mm_open_i [.int a0] h r h1 RX7 (by decide) rfl rfl (Nat.le_of_ble_eq_true rfl) ?_
  intro p e s m below meth c A X hr hlocks
  have RET : ∀ (h : mm_M) (pc : Nat) (lo : List (Nat × Value)) (v : Int32), decode cX7_isForm pc = .ok (.ireturn, 1) → (v = 0 ∨ v = 1) → (h, v) = (h1, r) → mm_J p l e rmX7_isForm s m ([.int a0] : List Value).toArray below meth c 0 0 (MQ below (va_Qi (fun (r' : Int32) (u : mm_M) => r' = r ∧ u = h1) (mm_Post D (mx_w cI cT cS ad) A) A) ([.int a0] : List Value).toArray s 0 0 A) D (mx_w cI cT cS ad) A 1 h pc lo [.int v] := by
    intro h2 pc lo v hd hz he
    cases he
    exact mj_iret X hr (mm_nz hz) hlocks hd
  generalize hout : (h1, r) = out at hf RET
  unfold fX7_isForm at hf
  refine mj_lo (lo' := [(0, .int a0)]) rfl ?_
  refine mj_iload_n X dX7_isForm_0 0 rfl ?_
  refine mj_iconst (v := (0 : Int32)) X dX7_isForm_1 (by decide) ?_
  refine mj_iconst (v := (2 : Int32)) X dX7_isForm_2 (by decide) ?_
  obtain ⟨h1, r2, q3, hf⟩ := mm_c hf
  refine mj_callSi (As := [.int a0, .int (0 : Int32), .int (2 : Int32)]) (rest := []) X (kX7_isIn l D t1 t2 cI cT cS ad N h a0 (0 : Int32) (2 : Int32) h1 r2 q3) (va_cwS 3 X.2.2.2.2.1 gX7_isForm_X7_isIn rfl rfl rfl (by decide +kernel) ⟨Nat.le_of_ble_eq_true rfl, Nat.le_of_ble_eq_true rfl⟩) rfl rfl (Nat.le_of_ble_eq_true rfl) ⟨Nat.zero_le _, Nat.zero_le _⟩ dX7_isForm_3 ?_
  obtain ⟨g4, hf⟩ := mm_g hf
  exact RET h1 _ _ _ dX7_isForm_6 g4 (Option.some.inj hf)
end
