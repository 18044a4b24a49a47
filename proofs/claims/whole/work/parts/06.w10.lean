section
variable {p : Program} {l : Launch} {e : Env} {s : State} {m : MethodId} {args : Array Value} {below : List Frame} {meth : Method} {c : Code} {Q : State → Prop} {D : va_G} {A : Nat → Prop} {t1 t2 : Nat} {cI cT cS cZ : ClassId} {ad : Nat → Nat}
abbrev rmX8_payer : Room := { frames := 5, cells := 0, slots := 0, locals := 111 }
set_option maxHeartbeats 4000000 in
set_option maxRecDepth 100000 in
theorem kX8_payer (l : Launch) (D : va_G) (t1 t2 : Nat) (cI : ClassId) (cZ : ClassId) (ad : Nat → Nat)  (N : Nat) (h : mm_M) (a0 : Int32) (a1 : Int32) (h1 : mm_M) (r : Int32) (hf : fX8_payer N h a0 a1 = some (h1, r)) : mm_Ki l yX8_payer wsX8_payer rmX8_payer D (my_ty cI cZ) t1 t2 (my_w cI cZ ad) [.ref (ad 0), .int a0, .int a1] h r h1 := by
  refine mm_open_i [.ref (ad 0), .int a0, .int a1] h r h1 RX8 (by decide) rfl rfl (Nat.le_of_ble_eq_true rfl) ?_
  intro p e s m below meth c A X hr hlocks
  have RET : ∀ (h : mm_M) (pc : Nat) (lo : List (Nat × Value)) (v : Int32), decode cX8_payer pc = .ok (.ireturn, 1) → (h, v) = (h1, r) → mm_J p l e rmX8_payer s m ([.ref (ad 0), .int a0, .int a1] : List Value).toArray below meth c 0 0 (MQ below (va_Qi (fun (r' : Int32) (u : mm_M) => r' = r ∧ u = h1) (mm_Post D (my_w cI cZ ad) A) A) ([.ref (ad 0), .int a0, .int a1] : List Value).toArray s 0 0 A) D (my_w cI cZ ad) A 3 h pc lo [.int v] := by
    intro h2 pc lo v hd he
    cases he
    exact mj_iret X hr rfl hlocks hd
  generalize hout : (h1, r) = out at hf RET
  unfold fX8_payer at hf
  refine mj_lo (lo' := [(0, .ref (ad 0)), (1, .int a0), (2, .int a1)]) rfl ?_
  refine mj_aload_n X dX8_payer_0 0 rfl ?_
  refine mj_iload_n X dX8_payer_1 1 rfl ?_
  obtain ⟨h1, r2, q3, hf⟩ := mm_c hf
  refine mj_callVi (As := [.int a0]) (rest := []) X (kX8_isRound l D t1 t2 cI cZ ad N h a0 h1 r2 q3) (cwV 1 X.2.2.2.2.1 gX8_payer_X8_isRound rfl rfl rfl (by decide +kernel) ⟨Nat.le_of_ble_eq_true rfl, Nat.le_of_ble_eq_true rfl⟩) (my_at my_oX8 h) rfl rfl rfl rfl (Nat.le_of_ble_eq_true rfl) ⟨Nat.zero_le _, Nat.zero_le _⟩ dX8_payer_2 ?_
  refine mj_if_eq (tgt := 24) X dX8_payer_5 (by decide) (fun c4 => ?_) (fun c4 => ?_)
  · have hf := mm_t c4 hf
    refine mj_bipush (v := (-2 : Int32)) X dX8_payer_24 (by decide) ?_
    exact RET h1 _ _ _ dX8_payer_26 (Option.some.inj hf)
  · have hf := mm_f c4 hf
    refine mj_iload_n X dX8_payer_8 2 rfl ?_
    obtain ⟨h5, r6, q7, hf⟩ := mm_c hf
    refine mj_callSi (As := [.int a1]) (rest := []) X (kX8_isSix l D t1 t2 cI cZ ad N h1 a1 h5 r6 q7) (va_cwS 1 X.2.2.2.2.1 gX8_payer_X8_isSix rfl rfl rfl (by decide +kernel) ⟨Nat.le_of_ble_eq_true rfl, Nat.le_of_ble_eq_true rfl⟩) rfl rfl (Nat.le_of_ble_eq_true rfl) ⟨Nat.zero_le _, Nat.zero_le _⟩ dX8_payer_9 ?_
    refine mj_if_eq (tgt := 24) X dX8_payer_12 (by decide) (fun c8 => ?_) (fun c8 => ?_)
    · have hf := mm_t c8 hf
      refine mj_bipush (v := (-2 : Int32)) X dX8_payer_24 (by decide) ?_
      exact RET h5 _ _ _ dX8_payer_26 (Option.some.inj hf)
    · have hf := mm_f c8 hf
      refine mj_aload_n X dX8_payer_15 0 rfl ?_
      refine mj_iload_n X dX8_payer_16 1 rfl ?_
      refine mj_iload_n X dX8_payer_17 2 rfl ?_
      obtain ⟨h9, r10, q11, hf⟩ := mm_c hf
      refine mj_callVi (As := [.int a0, .int a1]) (rest := []) X (kX8_payerOf l D t1 t2 cI cZ ad N h5 a0 a1 h9 r10 q11) (cwV 2 X.2.2.2.2.1 gX8_payer_X8_payerOf rfl rfl rfl (by decide +kernel) ⟨Nat.le_of_ble_eq_true rfl, Nat.le_of_ble_eq_true rfl⟩) (my_at my_oX8 h5) rfl rfl rfl rfl (Nat.le_of_ble_eq_true rfl) ⟨Nat.zero_le _, Nat.zero_le _⟩ dX8_payer_18 ?_
      refine mj_goto (tgt := 26) X dX8_payer_21 (by decide) ?_
      exact RET h9 _ _ _ dX8_payer_26 (Option.some.inj hf)
abbrev rmX8_beggarsNow : Room := { frames := 4, cells := 0, slots := 0, locals := 90 }
theorem inwX8_beggarsNow_X8 : ∀ w ∈ wsX80, w ∈ wsX8_beggarsNow := by
  intro w hw
  have h9 : wsX80 = (wsX8_beggarsNow.drop 62).take 29 := rfl
  rw [h9] at hw
  exact List.mem_of_mem_drop (List.mem_of_mem_take hw)
theorem lnX8_beggarsNow_0 : Cond.fieldLink RX8 97 "RichestPaysModel" "rounds" "I" ∈ wsX8_beggarsNow := List.mem_of_getElem? (i := 1) rfl
theorem lnX8_beggarsNow_1 : Cond.fieldLink RX8 89 "RichestPaysModel" "people" "I" ∈ wsX8_beggarsNow := List.mem_of_getElem? (i := 2) rfl
theorem lnX8_beggarsNow_2 : Cond.fieldLink RX8 49 "RichestPaysModel" "eaten" "[I" ∈ wsX8_beggarsNow := List.mem_of_getElem? (i := 3) rfl
theorem lnX8_beggarsNow_3 : Cond.fieldLink RX8 46 "RichestPaysModel" "paidAll" "[I" ∈ wsX8_beggarsNow := List.mem_of_getElem? (i := 4) rfl
set_option maxHeartbeats 4000000 in
set_option maxRecDepth 100000 in
theorem wX8_beggarsNow_L16 (X : mm_X p s m args c cX8_beggarsNow RX8 wsX8_beggarsNow 3 D (my_ty cI cZ) t1 t2 A) (out : mm_M × Int32) (RET : ∀ (h : mm_M) (pc : Nat) (lo : List (Nat × Value)) (v : Int32), decode cX8_beggarsNow pc = .ok (.ireturn, 1) → (h, v) = out → mm_J p l e rmX8_beggarsNow s m args below meth c 0 0 Q D (my_w cI cZ ad) A 3 h pc lo [.int v]) (N : Nat)   (k : mm_M → Int32 → Option (mm_M × Int32)) (HK : ∀ (h : mm_M) (m1 : Int32), k h m1 = some out → mm_J p l e rmX8_beggarsNow s m args below meth c 0 0 Q D (my_w cI cZ ad) A 3 h 58 [(1, .int m1)] []) : ∀ (n : Nat) (h : mm_M) (m1 : Int32) (m2 : Int32), fX8_beggarsNow_L16 N k n h m1 m2 = some out → mm_J p l e rmX8_beggarsNow s m args below meth c 0 0 Q D (my_w cI cZ ad) A 3 h 16 [(0, .ref (ad 0)), (1, .int m1), (2, .int m2)] [] := by
  intro n
  induction n with
  | zero =>
    intro h m1 m2 hf
    cases hf
  | succ n ih =>
    intro h m1 m2 hf
    rw [fX8_beggarsNow_L16] at hf
    refine mj_iload_n X dX8_beggarsNow_16 2 rfl ?_
    refine mj_aload_n X dX8_beggarsNow_17 0 rfl ?_
    refine mj_get X inwX8_beggarsNow_X8 (my_at my_oX8 h) rfl 2 (by decide) rfl lnX8_beggarsNow_1 rfl dX8_beggarsNow_18 ?_
    refine mj_icmp_ge (tgt := 58) X dX8_beggarsNow_21 (by decide) (fun c7 => ?_) (fun c7 => ?_)
    · have hf := mm_t c7 hf
      exact mj_sub [1] rfl (HK h m1 hf)
    · have hf := mm_f c7 hf
      refine mj_iload_n X dX8_beggarsNow_24 1 rfl ?_
      refine mj_aload_n X dX8_beggarsNow_25 0 rfl ?_
      refine mj_get X inwX8_beggarsNow_X8 (my_at my_oX8 h) rfl 15 (by decide) rfl lnX8_beggarsNow_2 rfl dX8_beggarsNow_26 ?_
      refine mj_iload_n X dX8_beggarsNow_29 2 rfl ?_
      obtain ⟨g8, hf⟩ := mm_g hf
      refine mj_iald X 0 (my_at my_a14 h) rfl g8 dX8_beggarsNow_30 ?_
      refine mj_if_le (tgt := 49) X dX8_beggarsNow_31 (by decide) (fun c9 => ?_) (fun c9 => ?_)
      · have hf := mm_t c9 hf
        refine mj_iconst (v := (0 : Int32)) X dX8_beggarsNow_49 (by decide) ?_
        refine mj_ior X dX8_beggarsNow_50 ?_
        obtain ⟨x10, ex10, hf⟩ := mm_l hf
        refine mj_topi ex10 ?_
        refine mj_istore_n (lo' := [(1, .int x10), (0, .ref (ad 0)), (2, .int m2)]) X dX8_beggarsNow_51 (by decide) rfl ?_
        refine mj_iinc (k := 2) (v := (m2 + 1)) (lo' := [(2, .int (m2 + 1)), (1, .int x10), (0, .ref (ad 0))]) X dX8_beggarsNow_52 rfl rfl (by decide) rfl ?_
        refine mj_goto (tgt := 16) X dX8_beggarsNow_55 (by decide) ?_
        exact mj_sub [2, 1, 0] rfl (ih h x10 (m2 + 1) hf)
      · have hf := mm_f c9 hf
        refine mj_aload_n X dX8_beggarsNow_34 0 rfl ?_
        refine mj_get X inwX8_beggarsNow_X8 (my_at my_oX8 h) rfl 14 (by decide) rfl lnX8_beggarsNow_3 rfl dX8_beggarsNow_35 ?_
        refine mj_iload_n X dX8_beggarsNow_38 2 rfl ?_
        refine mj_iald X 0 (my_at my_a13 h) rfl g8 dX8_beggarsNow_39 ?_
        refine mj_if_ne (tgt := 49) X dX8_beggarsNow_40 (by decide) (fun c11 => ?_) (fun c11 => ?_)
        · have hf := mm_f c11 hf
          refine mj_iconst (v := (0 : Int32)) X dX8_beggarsNow_49 (by decide) ?_
          refine mj_ior X dX8_beggarsNow_50 ?_
          obtain ⟨x12, ex12, hf⟩ := mm_l hf
          refine mj_topi ex12 ?_
          refine mj_istore_n (lo' := [(1, .int x12), (0, .ref (ad 0)), (2, .int m2)]) X dX8_beggarsNow_51 (by decide) rfl ?_
          refine mj_iinc (k := 2) (v := (m2 + 1)) (lo' := [(2, .int (m2 + 1)), (1, .int x12), (0, .ref (ad 0))]) X dX8_beggarsNow_52 rfl rfl (by decide) rfl ?_
          refine mj_goto (tgt := 16) X dX8_beggarsNow_55 (by decide) ?_
          exact mj_sub [2, 1, 0] rfl (ih h x12 (m2 + 1) hf)
        · have hf := mm_t c11 hf
          refine mj_iconst (v := (1 : Int32)) X dX8_beggarsNow_43 (by decide) ?_
          refine mj_iload_n X dX8_beggarsNow_44 2 rfl ?_
          refine mj_ishl X dX8_beggarsNow_45 ?_
          refine mj_goto (tgt := 50) X dX8_beggarsNow_46 (by decide) ?_
          refine mj_ior X dX8_beggarsNow_50 ?_
          obtain ⟨x13, ex13, hf⟩ := mm_l hf
          refine mj_topi ex13 ?_
          refine mj_istore_n (lo' := [(1, .int x13), (0, .ref (ad 0)), (2, .int m2)]) X dX8_beggarsNow_51 (by decide) rfl ?_
          refine mj_iinc (k := 2) (v := (m2 + 1)) (lo' := [(2, .int (m2 + 1)), (1, .int x13), (0, .ref (ad 0))]) X dX8_beggarsNow_52 rfl rfl (by decide) rfl ?_
          refine mj_goto (tgt := 16) X dX8_beggarsNow_55 (by decide) ?_
          exact mj_sub [2, 1, 0] rfl (ih h x13 (m2 + 1) hf)
set_option maxHeartbeats 4000000 in
set_option maxRecDepth 100000 in
theorem kX8_beggarsNow (l : Launch) (D : va_G) (t1 t2 : Nat) (cI : ClassId) (cZ : ClassId) (ad : Nat → Nat)  (N : Nat) (h : mm_M)  (h1 : mm_M) (r : Int32) (hf : fX8_beggarsNow N h = some (h1, r)) : mm_Ki l yX8_beggarsNow wsX8_beggarsNow rmX8_beggarsNow D (my_ty cI cZ) t1 t2 (my_w cI cZ ad) [.ref (ad 0)] h r h1 := by
  refine mm_open_i [.ref (ad 0)] h r h1 RX8 (by decide) rfl rfl (Nat.le_of_ble_eq_true rfl) ?_
  intro p e s m below meth c A X hr hlocks
  have RET : ∀ (h : mm_M) (pc : Nat) (lo : List (Nat × Value)) (v : Int32), decode cX8_beggarsNow pc = .ok (.ireturn, 1) → (h, v) = (h1, r) → mm_J p l e rmX8_beggarsNow s m ([.ref (ad 0)] : List Value).toArray below meth c 0 0 (MQ below (va_Qi (fun (r' : Int32) (u : mm_M) => r' = r ∧ u = h1) (mm_Post D (my_w cI cZ ad) A) A) ([.ref (ad 0)] : List Value).toArray s 0 0 A) D (my_w cI cZ ad) A 3 h pc lo [.int v] := by
    intro h2 pc lo v hd he
    cases he
    exact mj_iret X hr rfl hlocks hd
  generalize hout : (h1, r) = out at hf RET
  unfold fX8_beggarsNow at hf
  refine mj_lo (lo' := [(0, .ref (ad 0))]) rfl ?_
  refine mj_aload_n X dX8_beggarsNow_0 0 rfl ?_
  obtain ⟨h1, r2, q3, hf⟩ := mm_c hf
  refine mj_callVv (As := []) (rest := []) X (kX8_reads l D t1 t2 cI cZ ad N h h1 r2 q3) (cwV 0 X.2.2.2.2.1 gX8_beggarsNow_X8_reads rfl rfl rfl (by decide +kernel) ⟨Nat.le_of_ble_eq_true rfl, Nat.le_of_ble_eq_true rfl⟩) (my_at my_oX8 h) rfl rfl rfl rfl (Nat.le_of_ble_eq_true rfl) ⟨Nat.zero_le _, Nat.zero_le _⟩ dX8_beggarsNow_1 ?_
  refine mj_aload_n X dX8_beggarsNow_4 0 rfl ?_
  refine mj_aload_n X dX8_beggarsNow_5 0 rfl ?_
  refine mj_get X inwX8_beggarsNow_X8 (my_at my_oX8 h1) rfl 5 (by decide) rfl lnX8_beggarsNow_0 rfl dX8_beggarsNow_6 ?_
  obtain ⟨h4, r5, q6, hf⟩ := mm_c hf
  refine mj_callVv (As := [.int (h1 0 5)]) (rest := []) X (kX8_runs l D t1 t2 cI cZ ad N h1 (h1 0 5) h4 r5 q6) (cwV 1 X.2.2.2.2.1 gX8_beggarsNow_X8_runs rfl rfl rfl (by decide +kernel) ⟨Nat.le_of_ble_eq_true rfl, Nat.le_of_ble_eq_true rfl⟩) (my_at my_oX8 h1) rfl rfl rfl rfl (Nat.le_of_ble_eq_true rfl) ⟨Nat.zero_le _, Nat.zero_le _⟩ dX8_beggarsNow_9 ?_
  refine mj_iconst (v := (0 : Int32)) X dX8_beggarsNow_12 (by decide) ?_
  refine mj_istore_n (lo' := [(1, .int (0 : Int32)), (0, .ref (ad 0))]) X dX8_beggarsNow_13 (by decide) rfl ?_
  refine mj_iconst (v := (0 : Int32)) X dX8_beggarsNow_14 (by decide) ?_
  refine mj_istore_n (lo' := [(2, .int (0 : Int32)), (1, .int (0 : Int32)), (0, .ref (ad 0))]) X dX8_beggarsNow_15 (by decide) rfl ?_
  refine mj_sub [2, 1, 0] rfl (wX8_beggarsNow_L16 X out RET N _ (fun h14 v15 hf => ?_) N h4 (0 : Int32) (0 : Int32) hf)
  refine mj_iload_n X dX8_beggarsNow_58 0 rfl ?_
  exact RET h14 _ _ _ dX8_beggarsNow_59 (Option.some.inj hf)
abbrev rmX8_beggars : Room := { frames := 5, cells := 0, slots := 0, locals := 112 }
set_option maxHeartbeats 4000000 in
set_option maxRecDepth 100000 in
theorem kX8_beggars (l : Launch) (D : va_G) (t1 t2 : Nat) (cI : ClassId) (cZ : ClassId) (ad : Nat → Nat)  (N : Nat) (h : mm_M)  (h1 : mm_M) (r : Int32) (hf : fX8_beggars N h = some (h1, r)) : mm_Ki l yX8_beggars wsX8_beggars rmX8_beggars D (my_ty cI cZ) t1 t2 (my_w cI cZ ad) [.ref (ad 0)] h r h1 := by
  refine mm_open_i [.ref (ad 0)] h r h1 RX8 (by decide) rfl rfl (Nat.le_of_ble_eq_true rfl) ?_
  intro p e s m below meth c A X hr hlocks
  have RET : ∀ (h : mm_M) (pc : Nat) (lo : List (Nat × Value)) (v : Int32), decode cX8_beggars pc = .ok (.ireturn, 1) → (h, v) = (h1, r) → mm_J p l e rmX8_beggars s m ([.ref (ad 0)] : List Value).toArray below meth c 0 0 (MQ below (va_Qi (fun (r' : Int32) (u : mm_M) => r' = r ∧ u = h1) (mm_Post D (my_w cI cZ ad) A) A) ([.ref (ad 0)] : List Value).toArray s 0 0 A) D (my_w cI cZ ad) A 1 h pc lo [.int v] := by
    intro h2 pc lo v hd he
    cases he
    exact mj_iret X hr rfl hlocks hd
  generalize hout : (h1, r) = out at hf RET
  unfold fX8_beggars at hf
  refine mj_lo (lo' := [(0, .ref (ad 0))]) rfl ?_
  refine mj_aload_n X dX8_beggars_0 0 rfl ?_
  obtain ⟨h1, r2, q3, hf⟩ := mm_c hf
  refine mj_callVi (As := []) (rest := []) X (kX8_beggarsNow l D t1 t2 cI cZ ad N h h1 r2 q3) (cwV 0 X.2.2.2.2.1 gX8_beggars_X8_beggarsNow rfl rfl rfl (by decide +kernel) ⟨Nat.le_of_ble_eq_true rfl, Nat.le_of_ble_eq_true rfl⟩) (my_at my_oX8 h) rfl rfl rfl rfl (Nat.le_of_ble_eq_true rfl) ⟨Nat.zero_le _, Nat.zero_le _⟩ dX8_beggars_1 ?_
  exact RET h1 _ _ _ dX8_beggars_4 (Option.some.inj hf)
abbrev rmX8_bestOf : Room := { frames := 2, cells := 0, slots := 0, locals := 50 }
theorem inwX8_bestOf_X8 : ∀ w ∈ wsX80, w ∈ wsX8_bestOf := by
  intro w hw
  have h9 : wsX80 = (wsX8_bestOf.drop 29).take 29 := rfl
  rw [h9] at hw
  exact List.mem_of_mem_drop (List.mem_of_mem_take hw)
theorem lnX8_bestOf_0 : Cond.fieldLink RX8 16 "RichestPaysModel" "purses" "[I" ∈ wsX8_bestOf := List.mem_of_getElem? (i := 1) rfl
theorem lnX8_bestOf_1 : Cond.fieldLink RX8 37 "RichestPaysModel" "seat" "[I" ∈ wsX8_bestOf := List.mem_of_getElem? (i := 2) rfl
theorem lnX8_bestOf_2 : Cond.fieldLink RX8 34 "RichestPaysModel" "hand" "[I" ∈ wsX8_bestOf := List.mem_of_getElem? (i := 3) rfl
theorem lnX8_bestOf_3 : Cond.fieldLink RX8 28 "RichestPaysModel" "worths" "[I" ∈ wsX8_bestOf := List.mem_of_getElem? (i := 4) rfl
theorem lnX8_bestOf_4 : Cond.fieldLink RX8 40 "RichestPaysModel" "pays" "[I" ∈ wsX8_bestOf := List.mem_of_getElem? (i := 5) rfl
set_option maxHeartbeats 4000000 in
set_option maxRecDepth 100000 in
theorem wX8_bestOf_L22 (X : mm_X p s m args c cX8_bestOf RX8 wsX8_bestOf 10 D (my_ty cI cZ) t1 t2 A) (out : mm_M × Int32) (RET : ∀ (h : mm_M) (pc : Nat) (lo : List (Nat × Value)) (v : Int32), decode cX8_bestOf pc = .ok (.ireturn, 1) → (h, v) = out → mm_J p l e rmX8_bestOf s m args below meth c 0 0 Q D (my_w cI cZ ad) A 10 h pc lo [.int v]) (N : Nat)  (p1 : Int32) (p2 : Int32) (p3 : Int32) (p7 : Int32) (k : mm_M → Int32 → Int32 → Int32 → Option (mm_M × Int32)) (HK : ∀ (h : mm_M) (m4 : Int32) (m5 : Int32) (m6 : Int32), k h m4 m5 m6 = some out → mm_J p l e rmX8_bestOf s m args below meth c 0 0 Q D (my_w cI cZ ad) A 10 h 109 [(0, .ref (ad 0)), (1, .int p1), (2, .int p2), (3, .int p3), (4, .int m4), (5, .int m5), (6, .int m6), (7, .int p7)] []) : ∀ (n : Nat) (h : mm_M) (m4 : Int32) (m5 : Int32) (m6 : Int32) (m8 : Int32), fX8_bestOf_L22 N p1 p2 p3 p7 k n h m4 m5 m6 m8 = some out → mm_J p l e rmX8_bestOf s m args below meth c 0 0 Q D (my_w cI cZ ad) A 10 h 22 [(0, .ref (ad 0)), (1, .int p1), (2, .int p2), (3, .int p3), (4, .int m4), (5, .int m5), (6, .int m6), (7, .int p7), (8, .int m8)] [] := by
  intro n
  induction n with
  | zero =>
    intro h m4 m5 m6 m8 hf
    cases hf
  | succ n ih =>
    intro h m4 m5 m6 m8 hf
    rw [fX8_bestOf_L22] at hf
    refine mj_iload X dX8_bestOf_22 8 rfl ?_
    refine mj_aload_n X dX8_bestOf_24 0 rfl ?_
    refine mj_get X inwX8_bestOf_X8 (my_at my_oX8 h) rfl 3 (by decide) rfl lnX8_bestOf_0 rfl dX8_bestOf_25 ?_
    refine mj_iload_n X dX8_bestOf_28 2 rfl ?_
    obtain ⟨g2, hf⟩ := mm_g hf
    refine mj_iald X 0 (my_at my_a3 h) rfl g2 dX8_bestOf_29 ?_
    refine mj_icmp_gt (tgt := 109) X dX8_bestOf_30 (by decide) (fun c3 => ?_) (fun c3 => ?_)
    · have hf := mm_t c3 hf
      exact mj_sub [0, 1, 2, 3, 4, 5, 6, 7] rfl (HK h m4 m5 m6 hf)
    · have hf := mm_f c3 hf
      refine mj_aload_n X dX8_bestOf_33 0 rfl ?_
      obtain ⟨h4, r5, q6, hf⟩ := mm_c hf
      refine mj_callVv (As := []) (rest := []) X (kX8_atFirst l D t1 t2 cI cZ ad N h h4 r5 q6) (cwV 0 X.2.2.2.2.1 gX8_bestOf_X8_atFirst rfl rfl rfl (by decide +kernel) ⟨Nat.le_of_ble_eq_true rfl, Nat.le_of_ble_eq_true rfl⟩) (my_at my_oX8 h) rfl rfl rfl rfl (Nat.le_of_ble_eq_true rfl) ⟨Nat.zero_le _, Nat.zero_le _⟩ dX8_bestOf_34 ?_
      refine mj_aload_n X dX8_bestOf_37 0 rfl ?_
      refine mj_iload_n X dX8_bestOf_38 1 rfl ?_
      obtain ⟨h7, r8, q9, hf⟩ := mm_c hf
      refine mj_callVv (As := [.int p1]) (rest := []) X (kX8_sitAsTold l D t1 t2 cI cZ ad N h4 p1 h7 r8 q9) (cwV 1 X.2.2.2.2.1 gX8_bestOf_X8_sitAsTold rfl rfl rfl (by decide +kernel) ⟨Nat.le_of_ble_eq_true rfl, Nat.le_of_ble_eq_true rfl⟩) (my_at my_oX8 h4) rfl rfl rfl rfl (Nat.le_of_ble_eq_true rfl) ⟨Nat.zero_le _, Nat.zero_le _⟩ dX8_bestOf_39 ?_
      refine mj_aload_n X dX8_bestOf_42 0 rfl ?_
      refine mj_get X inwX8_bestOf_X8 (my_at my_oX8 h7) rfl 11 (by decide) rfl lnX8_bestOf_1 rfl dX8_bestOf_43 ?_
      refine mj_iload_n X dX8_bestOf_46 2 rfl ?_
      refine mj_iload X dX8_bestOf_47 7 rfl ?_
      obtain ⟨h10, eh10, hf⟩ := mm_l hf
      refine mj_iast X 0 (my_at my_a10 h7) rfl g2 (my_ast my_a10 eh10) dX8_bestOf_49 ?_
      refine mj_aload_n X dX8_bestOf_50 0 rfl ?_
      refine mj_get X inwX8_bestOf_X8 (my_at my_oX8 h10) rfl 10 (by decide) rfl lnX8_bestOf_2 rfl dX8_bestOf_51 ?_
      refine mj_iload_n X dX8_bestOf_54 2 rfl ?_
      refine mj_aload_n X dX8_bestOf_55 0 rfl ?_
      refine mj_get X inwX8_bestOf_X8 (my_at my_oX8 h10) rfl 3 (by decide) rfl lnX8_bestOf_0 rfl dX8_bestOf_56 ?_
      refine mj_iload_n X dX8_bestOf_59 2 rfl ?_
      refine mj_iald X 0 (my_at my_a3 h10) rfl g2 dX8_bestOf_60 ?_
      refine mj_iload X dX8_bestOf_61 8 rfl ?_
      refine mj_isub X dX8_bestOf_63 ?_
      obtain ⟨h11, eh11, hf⟩ := mm_l hf
      refine mj_iast X 0 (my_at my_a9 h10) rfl g2 (my_ast my_a9 eh11) dX8_bestOf_64 ?_
      refine mj_aload_n X dX8_bestOf_65 0 rfl ?_
      obtain ⟨h12, r13, q14, hf⟩ := mm_c hf
      refine mj_callVv (As := []) (rest := []) X (kX8_bills l D t1 t2 cI cZ ad N h11 h12 r13 q14) (cwV 0 X.2.2.2.2.1 gX8_bestOf_X8_bills rfl rfl rfl (by decide +kernel) ⟨Nat.le_of_ble_eq_true rfl, Nat.le_of_ble_eq_true rfl⟩) (my_at my_oX8 h11) rfl rfl rfl rfl (Nat.le_of_ble_eq_true rfl) ⟨Nat.zero_le _, Nat.zero_le _⟩ dX8_bestOf_66 ?_
      refine mj_aload_n X dX8_bestOf_69 0 rfl ?_
      refine mj_get X inwX8_bestOf_X8 (my_at my_oX8 h12) rfl 8 (by decide) rfl lnX8_bestOf_3 rfl dX8_bestOf_70 ?_
      refine mj_iload_n X dX8_bestOf_73 2 rfl ?_
      obtain ⟨g15, hf⟩ := mm_g hf
      refine mj_iald X 0 (my_at my_a7 h12) rfl g15 dX8_bestOf_74 ?_
      refine mj_aload_n X dX8_bestOf_75 0 rfl ?_
      refine mj_get X inwX8_bestOf_X8 (my_at my_oX8 h12) rfl 12 (by decide) rfl lnX8_bestOf_4 rfl dX8_bestOf_76 ?_
      refine mj_iload_n X dX8_bestOf_79 2 rfl ?_
      refine mj_iald X 0 (my_at my_a11 h12) rfl g2 dX8_bestOf_80 ?_
      refine mj_isub X dX8_bestOf_81 ?_
      obtain ⟨x16, ex16, hf⟩ := mm_l hf
      refine mj_topi ex16 ?_
      refine mj_istore (lo' := [(9, .int x16), (0, .ref (ad 0)), (1, .int p1), (2, .int p2), (3, .int p3), (4, .int m4), (5, .int m5), (6, .int m6), (7, .int p7), (8, .int m8)]) X dX8_bestOf_82 (by decide) rfl ?_
      refine mj_iload X dX8_bestOf_84 0 rfl ?_
      refine mj_iload X dX8_bestOf_86 5 rfl ?_
      refine mj_icmp_le (tgt := 103) X dX8_bestOf_88 (by decide) (fun c17 => ?_) (fun c17 => ?_)
      · have hf := mm_t c17 hf
        refine mj_iinc (k := 9) (v := (m8 + 1)) (lo' := [(8, .int (m8 + 1)), (9, .int x16), (0, .ref (ad 0)), (1, .int p1), (2, .int p2), (3, .int p3), (4, .int m4), (5, .int m5), (6, .int m6), (7, .int p7)]) X dX8_bestOf_103 rfl rfl (by decide) rfl ?_
        refine mj_goto (tgt := 22) X dX8_bestOf_106 (by decide) ?_
        exact mj_sub [2, 3, 4, 5, 6, 7, 8, 9, 0] rfl (ih h12 m4 m5 m6 (m8 + 1) hf)
      · have hf := mm_f c17 hf
        refine mj_iload X dX8_bestOf_91 0 rfl ?_
        refine mj_istore (lo' := [(4, .int x16), (9, .int x16), (0, .ref (ad 0)), (1, .int p1), (2, .int p2), (3, .int p3), (5, .int m5), (6, .int m6), (7, .int p7), (8, .int m8)]) X dX8_bestOf_93 (by decide) rfl ?_
        refine mj_iload X dX8_bestOf_95 8 rfl ?_
        refine mj_istore (lo' := [(5, .int p7), (4, .int x16), (9, .int x16), (0, .ref (ad 0)), (1, .int p1), (2, .int p2), (3, .int p3), (6, .int m6), (7, .int p7), (8, .int m8)]) X dX8_bestOf_97 (by decide) rfl ?_
        refine mj_iload X dX8_bestOf_99 9 rfl ?_
        refine mj_istore (lo' := [(6, .int m8), (5, .int p7), (4, .int x16), (9, .int x16), (0, .ref (ad 0)), (1, .int p1), (2, .int p2), (3, .int p3), (7, .int p7), (8, .int m8)]) X dX8_bestOf_101 (by decide) rfl ?_
        refine mj_iinc (k := 9) (v := (m8 + 1)) (lo' := [(8, .int (m8 + 1)), (6, .int m8), (5, .int p7), (4, .int x16), (9, .int x16), (0, .ref (ad 0)), (1, .int p1), (2, .int p2), (3, .int p3), (7, .int p7)]) X dX8_bestOf_103 rfl rfl (by decide) rfl ?_
        refine mj_goto (tgt := 22) X dX8_bestOf_106 (by decide) ?_
        exact mj_sub [5, 6, 7, 8, 3, 2, 1, 9, 0] rfl (ih h12 x16 p7 m8 (m8 + 1) hf)
set_option maxHeartbeats 4000000 in
set_option maxRecDepth 100000 in
theorem wX8_bestOf_L12 (X : mm_X p s m args c cX8_bestOf RX8 wsX8_bestOf 10 D (my_ty cI cZ) t1 t2 A) (out : mm_M × Int32) (RET : ∀ (h : mm_M) (pc : Nat) (lo : List (Nat × Value)) (v : Int32), decode cX8_bestOf pc = .ok (.ireturn, 1) → (h, v) = out → mm_J p l e rmX8_bestOf s m args below meth c 0 0 Q D (my_w cI cZ ad) A 10 h pc lo [.int v]) (N : Nat)  (p1 : Int32) (p2 : Int32) (p3 : Int32) (k : mm_M → Int32 → Int32 → Int32 → Option (mm_M × Int32)) (HK : ∀ (h : mm_M) (m4 : Int32) (m5 : Int32) (m6 : Int32), k h m4 m5 m6 = some out → mm_J p l e rmX8_bestOf s m args below meth c 0 0 Q D (my_w cI cZ ad) A 10 h 115 [(3, .int p3), (4, .int m4), (5, .int m5), (6, .int m6)] []) : ∀ (n : Nat) (h : mm_M) (m4 : Int32) (m5 : Int32) (m6 : Int32) (m7 : Int32), fX8_bestOf_L12 N p1 p2 p3 k n h m4 m5 m6 m7 = some out → mm_J p l e rmX8_bestOf s m args below meth c 0 0 Q D (my_w cI cZ ad) A 10 h 12 [(0, .ref (ad 0)), (1, .int p1), (2, .int p2), (3, .int p3), (4, .int m4), (5, .int m5), (6, .int m6), (7, .int m7)] [] := by
  intro n
  induction n with
  | zero =>
    intro h m4 m5 m6 m7 hf
    cases hf
  | succ n ih =>
    intro h m4 m5 m6 m7 hf
    rw [fX8_bestOf_L12] at hf
    refine mj_iload X dX8_bestOf_12 7 rfl ?_
    refine mj_bipush (v := (6 : Int32)) X dX8_bestOf_14 (by decide) ?_
    refine mj_icmp_ge (tgt := 115) X dX8_bestOf_16 (by decide) (fun c1 => ?_) (fun c1 => ?_)
    · have hf := mm_t c1 hf
      exact mj_sub [3, 4, 5, 6] rfl (HK h m4 m5 m6 hf)
    · have hf := mm_f c1 hf
      refine mj_iconst (v := (0 : Int32)) X dX8_bestOf_19 (by decide) ?_
      refine mj_istore (lo' := [(8, .int (0 : Int32)), (0, .ref (ad 0)), (1, .int p1), (2, .int p2), (3, .int p3), (4, .int m4), (5, .int m5), (6, .int m6), (7, .int m7)]) X dX8_bestOf_20 (by decide) rfl ?_
      refine mj_sub [1, 2, 3, 4, 5, 6, 7, 8, 0] rfl (wX8_bestOf_L22 X out RET N p1 p2 p3 m7 _ (fun h18 v19 v20 v21 hf => ?_) N h m4 m5 m6 (0 : Int32) hf)
      refine mj_iinc (k := 7) (v := (m7 + 1)) (lo' := [(7, .int (m7 + 1)), (0, .ref (ad 0)), (1, .int p1), (2, .int p2), (3, .int p3), (4, .int v19), (5, .int v20), (6, .int v21)]) X dX8_bestOf_109 rfl rfl (by decide) rfl ?_
      refine mj_goto (tgt := 12) X dX8_bestOf_112 (by decide) ?_
      exact mj_sub [1, 2, 3, 4, 5, 6, 7, 0] rfl (ih h18 v19 v20 v21 (m7 + 1) hf)
set_option maxHeartbeats 4000000 in
set_option maxRecDepth 100000 in
theorem kX8_bestOf (l : Launch) (D : va_G) (t1 t2 : Nat) (cI : ClassId) (cZ : ClassId) (ad : Nat → Nat)  (N : Nat) (h : mm_M) (a0 : Int32) (a1 : Int32) (a2 : Int32) (h1 : mm_M) (r : Int32) (hf : fX8_bestOf N h a0 a1 a2 = some (h1, r)) : mm_Ki l yX8_bestOf wsX8_bestOf rmX8_bestOf D (my_ty cI cZ) t1 t2 (my_w cI cZ ad) [.ref (ad 0), .int a0, .int a1, .int a2] h r h1 := by
  refine mm_open_i [.ref (ad 0), .int a0, .int a1, .int a2] h r h1 RX8 (by decide) rfl rfl (Nat.le_of_ble_eq_true rfl) ?_
  intro p e s m below meth c A X hr hlocks
  have RET : ∀ (h : mm_M) (pc : Nat) (lo : List (Nat × Value)) (v : Int32), decode cX8_bestOf pc = .ok (.ireturn, 1) → (h, v) = (h1, r) → mm_J p l e rmX8_bestOf s m ([.ref (ad 0), .int a0, .int a1, .int a2] : List Value).toArray below meth c 0 0 (MQ below (va_Qi (fun (r' : Int32) (u : mm_M) => r' = r ∧ u = h1) (mm_Post D (my_w cI cZ ad) A) A) ([.ref (ad 0), .int a0, .int a1, .int a2] : List Value).toArray s 0 0 A) D (my_w cI cZ ad) A 10 h pc lo [.int v] := by
    intro h2 pc lo v hd he
    cases he
    exact mj_iret X hr rfl hlocks hd
  generalize hout : (h1, r) = out at hf RET
  unfold fX8_bestOf at hf
  refine mj_lo (lo' := [(0, .ref (ad 0)), (1, .int a0), (2, .int a1), (3, .int a2)]) rfl ?_
  refine mj_iconst (v := (0 : Int32)) X dX8_bestOf_0 (by decide) ?_
  refine mj_istore (lo' := [(4, .int (0 : Int32)), (0, .ref (ad 0)), (1, .int a0), (2, .int a1), (3, .int a2)]) X dX8_bestOf_1 (by decide) rfl ?_
  refine mj_iconst (v := (-1 : Int32)) X dX8_bestOf_3 (by decide) ?_
  refine mj_istore (lo' := [(5, .int (-1 : Int32)), (4, .int (0 : Int32)), (0, .ref (ad 0)), (1, .int a0), (2, .int a1), (3, .int a2)]) X dX8_bestOf_4 (by decide) rfl ?_
  refine mj_iconst (v := (0 : Int32)) X dX8_bestOf_6 (by decide) ?_
  refine mj_istore (lo' := [(6, .int (0 : Int32)), (5, .int (-1 : Int32)), (4, .int (0 : Int32)), (0, .ref (ad 0)), (1, .int a0), (2, .int a1), (3, .int a2)]) X dX8_bestOf_7 (by decide) rfl ?_
  refine mj_iconst (v := (0 : Int32)) X dX8_bestOf_9 (by decide) ?_
  refine mj_istore (lo' := [(7, .int (0 : Int32)), (6, .int (0 : Int32)), (5, .int (-1 : Int32)), (4, .int (0 : Int32)), (0, .ref (ad 0)), (1, .int a0), (2, .int a1), (3, .int a2)]) X dX8_bestOf_10 (by decide) rfl ?_
  refine mj_sub [4, 5, 6, 7, 3, 2, 1, 0] rfl (wX8_bestOf_L12 X out RET N a0 a1 a2 _ (fun h22 v23 v24 v25 hf => ?_) N h (0 : Int32) (-1 : Int32) (0 : Int32) (0 : Int32) hf)
  refine mj_iload_n X dX8_bestOf_115 0 rfl ?_
  refine mj_if_ne (tgt := 124) X dX8_bestOf_116 (by decide) (fun c26 => ?_) (fun c26 => ?_)
  · have hf := mm_f c26 hf
    refine mj_iload_n X dX8_bestOf_124 0 rfl ?_
    refine mj_iconst (v := (1 : Int32)) X dX8_bestOf_125 (by decide) ?_
    refine mj_icmp_ne (tgt := 134) X dX8_bestOf_126 (by decide) (fun c27 => ?_) (fun c27 => ?_)
    · have hf := mm_f c27 hf
      refine mj_iload X dX8_bestOf_134 3 rfl ?_
      exact RET h22 _ _ _ dX8_bestOf_136 (Option.some.inj hf)
    · have hf := mm_t c27 hf
      refine mj_iload X dX8_bestOf_129 2 rfl ?_
      refine mj_goto (tgt := 136) X dX8_bestOf_131 (by decide) ?_
      exact RET h22 _ _ _ dX8_bestOf_136 (Option.some.inj hf)
  · have hf := mm_t c26 hf
    refine mj_iload X dX8_bestOf_119 1 rfl ?_
    refine mj_goto (tgt := 136) X dX8_bestOf_121 (by decide) ?_
    exact RET h22 _ _ _ dX8_bestOf_136 (Option.some.inj hf)
abbrev rmX8_best : Room := { frames := 5, cells := 0, slots := 0, locals := 111 }
theorem lnX8_best_0 : Cond.constant RX8 168 (-100002) ∈ wsX8_best := List.mem_of_getElem? (i := 1) rfl
set_option maxHeartbeats 4000000 in
set_option maxRecDepth 100000 in
theorem kX8_best (l : Launch) (D : va_G) (t1 t2 : Nat) (cI : ClassId) (cZ : ClassId) (ad : Nat → Nat)  (N : Nat) (h : mm_M) (a0 : Int32) (a1 : Int32) (a2 : Int32) (h1 : mm_M) (r : Int32) (hf : fX8_best N h a0 a1 a2 = some (h1, r)) : mm_Ki l yX8_best wsX8_best rmX8_best D (my_ty cI cZ) t1 t2 (my_w cI cZ ad) [.ref (ad 0), .int a0, .int a1, .int a2] h r h1 := by
  refine mm_open_i [.ref (ad 0), .int a0, .int a1, .int a2] h r h1 RX8 (by decide) rfl rfl (Nat.le_of_ble_eq_true rfl) ?_
  intro p e s m below meth c A X hr hlocks
  have RET : ∀ (h : mm_M) (pc : Nat) (lo : List (Nat × Value)) (v : Int32), decode cX8_best pc = .ok (.ireturn, 1) → (h, v) = (h1, r) → mm_J p l e rmX8_best s m ([.ref (ad 0), .int a0, .int a1, .int a2] : List Value).toArray below meth c 0 0 (MQ below (va_Qi (fun (r' : Int32) (u : mm_M) => r' = r ∧ u = h1) (mm_Post D (my_w cI cZ ad) A) A) ([.ref (ad 0), .int a0, .int a1, .int a2] : List Value).toArray s 0 0 A) D (my_w cI cZ ad) A 4 h pc lo [.int v] := by
    intro h2 pc lo v hd he
    cases he
    exact mj_iret X hr rfl hlocks hd
  generalize hout : (h1, r) = out at hf RET
  unfold fX8_best at hf
  refine mj_lo (lo' := [(0, .ref (ad 0)), (1, .int a0), (2, .int a1), (3, .int a2)]) rfl ?_
  refine mj_aload_n X dX8_best_0 0 rfl ?_
  refine mj_iload_n X dX8_best_1 1 rfl ?_
  obtain ⟨h1, r2, q3, hf⟩ := mm_c hf
  refine mj_callVi (As := [.int a0]) (rest := []) X (kX8_isRound l D t1 t2 cI cZ ad N h a0 h1 r2 q3) (cwV 1 X.2.2.2.2.1 gX8_best_X8_isRound rfl rfl rfl (by decide +kernel) ⟨Nat.le_of_ble_eq_true rfl, Nat.le_of_ble_eq_true rfl⟩) (my_at my_oX8 h) rfl rfl rfl rfl (Nat.le_of_ble_eq_true rfl) ⟨Nat.zero_le _, Nat.zero_le _⟩ dX8_best_2 ?_
  refine mj_if_eq (tgt := 35) X dX8_best_5 (by decide) (fun c4 => ?_) (fun c4 => ?_)
  · have hf := mm_t c4 hf
    refine mj_ldc (v := (-100002 : Int32)) X lnX8_best_0 dX8_best_35 ?_
    exact RET h1 _ _ _ dX8_best_37 (Option.some.inj hf)
  · have hf := mm_f c4 hf
    refine mj_aload_n X dX8_best_8 0 rfl ?_
    refine mj_iload_n X dX8_best_9 2 rfl ?_
    obtain ⟨h5, r6, q7, hf⟩ := mm_c hf
    refine mj_callVi (As := [.int a1]) (rest := []) X (kX8_isPerson l D t1 t2 cI cZ ad N h1 a1 h5 r6 q7) (cwV 1 X.2.2.2.2.1 gX8_best_X8_isPerson rfl rfl rfl (by decide +kernel) ⟨Nat.le_of_ble_eq_true rfl, Nat.le_of_ble_eq_true rfl⟩) (my_at my_oX8 h1) rfl rfl rfl rfl (Nat.le_of_ble_eq_true rfl) ⟨Nat.zero_le _, Nat.zero_le _⟩ dX8_best_10 ?_
    refine mj_if_eq (tgt := 35) X dX8_best_13 (by decide) (fun c8 => ?_) (fun c8 => ?_)
    · have hf := mm_t c8 hf
      refine mj_ldc (v := (-100002 : Int32)) X lnX8_best_0 dX8_best_35 ?_
      exact RET h5 _ _ _ dX8_best_37 (Option.some.inj hf)
    · have hf := mm_f c8 hf
      refine mj_iload_n X dX8_best_16 3 rfl ?_
      refine mj_iconst (v := (0 : Int32)) X dX8_best_17 (by decide) ?_
      refine mj_iconst (v := (2 : Int32)) X dX8_best_18 (by decide) ?_
      obtain ⟨h9, r10, q11, hf⟩ := mm_c hf
      refine mj_callSi (As := [.int a2, .int (0 : Int32), .int (2 : Int32)]) (rest := []) X (kX8_in l D t1 t2 cI cZ ad N h5 a2 (0 : Int32) (2 : Int32) h9 r10 q11) (va_cwS 3 X.2.2.2.2.1 gX8_best_X8_in rfl rfl rfl (by decide +kernel) ⟨Nat.le_of_ble_eq_true rfl, Nat.le_of_ble_eq_true rfl⟩) rfl rfl (Nat.le_of_ble_eq_true rfl) ⟨Nat.zero_le _, Nat.zero_le _⟩ dX8_best_19 ?_
      refine mj_if_eq (tgt := 35) X dX8_best_22 (by decide) (fun c12 => ?_) (fun c12 => ?_)
      · have hf := mm_t c12 hf
        refine mj_ldc (v := (-100002 : Int32)) X lnX8_best_0 dX8_best_35 ?_
        exact RET h9 _ _ _ dX8_best_37 (Option.some.inj hf)
      · have hf := mm_f c12 hf
        refine mj_aload_n X dX8_best_25 0 rfl ?_
        refine mj_iload_n X dX8_best_26 1 rfl ?_
        refine mj_iload_n X dX8_best_27 2 rfl ?_
        refine mj_iload_n X dX8_best_28 3 rfl ?_
        obtain ⟨h13, r14, q15, hf⟩ := mm_c hf
        refine mj_callVi (As := [.int a0, .int a1, .int a2]) (rest := []) X (kX8_bestOf l D t1 t2 cI cZ ad N h9 a0 a1 a2 h13 r14 q15) (cwV 3 X.2.2.2.2.1 gX8_best_X8_bestOf rfl rfl rfl (by decide +kernel) ⟨Nat.le_of_ble_eq_true rfl, Nat.le_of_ble_eq_true rfl⟩) (my_at my_oX8 h9) rfl rfl rfl rfl (Nat.le_of_ble_eq_true rfl) ⟨Nat.zero_le _, Nat.zero_le _⟩ dX8_best_29 ?_
        refine mj_goto (tgt := 37) X dX8_best_32 (by decide) ?_
        exact RET h13 _ _ _ dX8_best_37 (Option.some.inj hf)
abbrev rmX8_restOf : Room := { frames := 4, cells := 0, slots := 0, locals := 90 }
theorem inwX8_restOf_X8 : ∀ w ∈ wsX80, w ∈ wsX8_restOf := by
  intro w hw
  have h9 : wsX80 = (wsX8_restOf.drop 52).take 29 := rfl
  rw [h9] at hw
  exact List.mem_of_mem_drop (List.mem_of_mem_take hw)
theorem lnX8_restOf_0 : Cond.fieldLink RX8 89 "RichestPaysModel" "people" "I" ∈ wsX8_restOf := List.mem_of_getElem? (i := 1) rfl
theorem lnX8_restOf_1 : Cond.fieldLink RX8 37 "RichestPaysModel" "seat" "[I" ∈ wsX8_restOf := List.mem_of_getElem? (i := 2) rfl
theorem lnX8_restOf_2 : Cond.fieldLink RX8 55 "RichestPaysModel" "haves" "[I" ∈ wsX8_restOf := List.mem_of_getElem? (i := 3) rfl
theorem lnX8_restOf_3 : Cond.fieldLink RX8 28 "RichestPaysModel" "worths" "[I" ∈ wsX8_restOf := List.mem_of_getElem? (i := 4) rfl
theorem lnX8_restOf_4 : Cond.fieldLink RX8 40 "RichestPaysModel" "pays" "[I" ∈ wsX8_restOf := List.mem_of_getElem? (i := 5) rfl
set_option maxHeartbeats 4000000 in
set_option maxRecDepth 100000 in
theorem wX8_restOf_L27 (X : mm_X p s m args c cX8_restOf RX8 wsX8_restOf 11 D (my_ty cI cZ) t1 t2 A) (out : mm_M × Int32) (RET : ∀ (h : mm_M) (pc : Nat) (lo : List (Nat × Value)) (v : Int32), decode cX8_restOf pc = .ok (.ireturn, 1) → (h, v) = out → mm_J p l e rmX8_restOf s m args below meth c 0 0 Q D (my_w cI cZ ad) A 11 h pc lo [.int v]) (N : Nat)  (p1 : Int32) (p2 : Int32) (p3 : Int32) (k : mm_M → Option (mm_M × Int32)) (HK : ∀ (h : mm_M), k h = some out → mm_J p l e rmX8_restOf s m args below meth c 0 0 Q D (my_w cI cZ ad) A 11 h 66 [(0, .ref (ad 0)), (1, .int p1), (2, .int p2), (3, .int p3)] []) : ∀ (n : Nat) (h : mm_M) (m4 : Int32), fX8_restOf_L27 N p1 p2 p3 k n h m4 = some out → mm_J p l e rmX8_restOf s m args below meth c 0 0 Q D (my_w cI cZ ad) A 11 h 27 [(0, .ref (ad 0)), (1, .int p1), (2, .int p2), (3, .int p3), (4, .int m4)] [] := by
  intro n
  induction n with
  | zero =>
    intro h m4 hf
    cases hf
  | succ n ih =>
    intro h m4 hf
    rw [fX8_restOf_L27] at hf
    refine mj_iload X dX8_restOf_27 4 rfl ?_
    refine mj_aload_n X dX8_restOf_29 0 rfl ?_
    refine mj_get X inwX8_restOf_X8 (my_at my_oX8 h) rfl 2 (by decide) rfl lnX8_restOf_0 rfl dX8_restOf_30 ?_
    refine mj_icmp_ge (tgt := 66) X dX8_restOf_33 (by decide) (fun c9 => ?_) (fun c9 => ?_)
    · have hf := mm_t c9 hf
      exact mj_sub [0, 1, 2, 3] rfl (HK h hf)
    · have hf := mm_f c9 hf
      refine mj_aload_n X dX8_restOf_36 0 rfl ?_
      refine mj_get X inwX8_restOf_X8 (my_at my_oX8 h) rfl 11 (by decide) rfl lnX8_restOf_1 rfl dX8_restOf_37 ?_
      refine mj_iload X dX8_restOf_40 4 rfl ?_
      refine mj_iload_n X dX8_restOf_42 3 rfl ?_
      refine mj_iconst (v := (2 : Int32)) X dX8_restOf_43 (by decide) ?_
      refine mj_aload_n X dX8_restOf_44 0 rfl ?_
      refine mj_get X inwX8_restOf_X8 (my_at my_oX8 h) rfl 2 (by decide) rfl lnX8_restOf_0 rfl dX8_restOf_45 ?_
      refine mj_iconst (v := (1 : Int32)) X dX8_restOf_48 (by decide) ?_
      refine mj_isub X dX8_restOf_49 ?_
      refine mj_iload X dX8_restOf_50 4 rfl ?_
      refine mj_isub X dX8_restOf_52 ?_
      refine mj_imul X dX8_restOf_53 ?_
      refine mj_ishr X dX8_restOf_54 ?_
      refine mj_iconst (v := (3 : Int32)) X dX8_restOf_55 (by decide) ?_
      refine mj_iand X dX8_restOf_56 ?_
      refine mj_iconst (v := (1 : Int32)) X dX8_restOf_57 (by decide) ?_
      refine mj_isub X dX8_restOf_58 ?_
      obtain ⟨g10, hf⟩ := mm_g hf
      obtain ⟨h11, eh11, hf⟩ := mm_l hf
      refine mj_iast X 0 (my_at my_a10 h) rfl g10 (my_ast my_a10 eh11) dX8_restOf_59 ?_
      refine mj_iinc (k := 4) (v := (m4 + 1)) (lo' := [(4, .int (m4 + 1)), (0, .ref (ad 0)), (1, .int p1), (2, .int p2), (3, .int p3)]) X dX8_restOf_60 rfl rfl (by decide) rfl ?_
      refine mj_goto (tgt := 27) X dX8_restOf_63 (by decide) ?_
      exact mj_sub [1, 2, 3, 4, 0] rfl (ih h11 (m4 + 1) hf)
set_option maxHeartbeats 4000000 in
set_option maxRecDepth 100000 in
theorem wX8_restOf_L73 (X : mm_X p s m args c cX8_restOf RX8 wsX8_restOf 11 D (my_ty cI cZ) t1 t2 A) (out : mm_M × Int32) (RET : ∀ (h : mm_M) (pc : Nat) (lo : List (Nat × Value)) (v : Int32), decode cX8_restOf pc = .ok (.ireturn, 1) → (h, v) = out → mm_J p l e rmX8_restOf s m args below meth c 0 0 Q D (my_w cI cZ ad) A 11 h pc lo [.int v]) (N : Nat)  (p1 : Int32) (p2 : Int32) (p3 : Int32) (k : mm_M → Option (mm_M × Int32)) (HK : ∀ (h : mm_M), k h = some out → mm_J p l e rmX8_restOf s m args below meth c 0 0 Q D (my_w cI cZ ad) A 11 h 130 [(0, .ref (ad 0)), (1, .int p1), (2, .int p2), (3, .int p3)] []) : ∀ (n : Nat) (h : mm_M) (m4 : Int32), fX8_restOf_L73 N p1 p2 p3 k n h m4 = some out → mm_J p l e rmX8_restOf s m args below meth c 0 0 Q D (my_w cI cZ ad) A 11 h 73 [(0, .ref (ad 0)), (1, .int p1), (2, .int p2), (3, .int p3), (4, .int m4)] [] := by
  intro n
  induction n with
  | zero =>
    intro h m4 hf
    cases hf
  | succ n ih =>
    intro h m4 hf
    rw [fX8_restOf_L73] at hf
    refine mj_iload X dX8_restOf_73 4 rfl ?_
    refine mj_aload_n X dX8_restOf_75 0 rfl ?_
    refine mj_get X inwX8_restOf_X8 (my_at my_oX8 h) rfl 2 (by decide) rfl lnX8_restOf_0 rfl dX8_restOf_76 ?_
    refine mj_icmp_ge (tgt := 130) X dX8_restOf_79 (by decide) (fun c16 => ?_) (fun c16 => ?_)
    · have hf := mm_t c16 hf
      exact mj_sub [0, 1, 2, 3] rfl (HK h hf)
    · have hf := mm_f c16 hf
      refine mj_aload_n X dX8_restOf_82 0 rfl ?_
      refine mj_get X inwX8_restOf_X8 (my_at my_oX8 h) rfl 18 (by decide) rfl lnX8_restOf_2 rfl dX8_restOf_83 ?_
      refine mj_bipush (v := (6 : Int32)) X dX8_restOf_86 (by decide) ?_
      refine mj_iload_n X dX8_restOf_88 3 rfl ?_
      refine mj_imul X dX8_restOf_89 ?_
      refine mj_iload X dX8_restOf_90 4 rfl ?_
      refine mj_iadd X dX8_restOf_92 ?_
      refine mj_aload_n X dX8_restOf_93 0 rfl ?_
      refine mj_get X inwX8_restOf_X8 (my_at my_oX8 h) rfl 11 (by decide) rfl lnX8_restOf_1 rfl dX8_restOf_94 ?_
      refine mj_iload X dX8_restOf_97 4 rfl ?_
      obtain ⟨g17, hf⟩ := mm_g hf
      refine mj_iald X 0 (my_at my_a10 h) rfl g17 dX8_restOf_99 ?_
      refine mj_iconst (v := (-1 : Int32)) X dX8_restOf_100 (by decide) ?_
      refine mj_icmp_ne (tgt := 108) X dX8_restOf_101 (by decide) (fun c18 => ?_) (fun c18 => ?_)
      · have hf := mm_f c18 hf
        refine mj_aload_n X dX8_restOf_108 0 rfl ?_
        refine mj_get X inwX8_restOf_X8 (my_at my_oX8 h) rfl 8 (by decide) rfl lnX8_restOf_3 rfl dX8_restOf_109 ?_
        refine mj_iload X dX8_restOf_112 4 rfl ?_
        obtain ⟨g19, hf⟩ := mm_g hf
        refine mj_iald X 0 (my_at my_a7 h) rfl g19 dX8_restOf_114 ?_
        refine mj_aload_n X dX8_restOf_115 0 rfl ?_
        refine mj_get X inwX8_restOf_X8 (my_at my_oX8 h) rfl 12 (by decide) rfl lnX8_restOf_4 rfl dX8_restOf_116 ?_
        refine mj_iload X dX8_restOf_119 4 rfl ?_
        refine mj_iald X 0 (my_at my_a11 h) rfl g17 dX8_restOf_121 ?_
        refine mj_isub X dX8_restOf_122 ?_
        obtain ⟨g20, hf⟩ := mm_g hf
        obtain ⟨h21, eh21, hf⟩ := mm_l hf
        refine mj_iast X 0 (my_at my_a16 h) rfl g20 (my_ast my_a16 eh21) dX8_restOf_123 ?_
        refine mj_iinc (k := 4) (v := (m4 + 1)) (lo' := [(4, .int (m4 + 1)), (0, .ref (ad 0)), (1, .int p1), (2, .int p2), (3, .int p3)]) X dX8_restOf_124 rfl rfl (by decide) rfl ?_
        refine mj_goto (tgt := 73) X dX8_restOf_127 (by decide) ?_
        exact mj_sub [1, 2, 3, 4, 0] rfl (ih h21 (m4 + 1) hf)
      · have hf := mm_t c18 hf
        refine mj_iconst (v := (0 : Int32)) X dX8_restOf_104 (by decide) ?_
        refine mj_goto (tgt := 123) X dX8_restOf_105 (by decide) ?_
        obtain ⟨g22, hf⟩ := mm_g hf
        obtain ⟨h23, eh23, hf⟩ := mm_l hf
        refine mj_iast X 0 (my_at my_a16 h) rfl g22 (my_ast my_a16 eh23) dX8_restOf_123 ?_
        refine mj_iinc (k := 4) (v := (m4 + 1)) (lo' := [(4, .int (m4 + 1)), (0, .ref (ad 0)), (1, .int p1), (2, .int p2), (3, .int p3)]) X dX8_restOf_124 rfl rfl (by decide) rfl ?_
        refine mj_goto (tgt := 73) X dX8_restOf_127 (by decide) ?_
        exact mj_sub [1, 2, 3, 4, 0] rfl (ih h23 (m4 + 1) hf)
set_option maxHeartbeats 4000000 in
set_option maxRecDepth 100000 in
theorem wX8_restOf_L19 (X : mm_X p s m args c cX8_restOf RX8 wsX8_restOf 11 D (my_ty cI cZ) t1 t2 A) (out : mm_M × Int32) (RET : ∀ (h : mm_M) (pc : Nat) (lo : List (Nat × Value)) (v : Int32), decode cX8_restOf pc = .ok (.ireturn, 1) → (h, v) = out → mm_J p l e rmX8_restOf s m args below meth c 0 0 Q D (my_w cI cZ ad) A 11 h pc lo [.int v]) (N : Nat)  (p1 : Int32) (p2 : Int32) (k : mm_M → Option (mm_M × Int32)) (HK : ∀ (h : mm_M), k h = some out → mm_J p l e rmX8_restOf s m args below meth c 0 0 Q D (my_w cI cZ ad) A 11 h 136 [(0, .ref (ad 0)), (1, .int p1), (2, .int p2)] []) : ∀ (n : Nat) (h : mm_M) (m3 : Int32), fX8_restOf_L19 N p1 p2 k n h m3 = some out → mm_J p l e rmX8_restOf s m args below meth c 0 0 Q D (my_w cI cZ ad) A 11 h 19 [(0, .ref (ad 0)), (1, .int p1), (2, .int p2), (3, .int m3)] [] := by
  intro n
  induction n with
  | zero =>
    intro h m3 hf
    cases hf
  | succ n ih =>
    intro h m3 hf
    rw [fX8_restOf_L19] at hf
    refine mj_iload_n X dX8_restOf_19 3 rfl ?_
    refine mj_iload_n X dX8_restOf_20 2 rfl ?_
    refine mj_icmp_ge (tgt := 136) X dX8_restOf_21 (by decide) (fun c8 => ?_) (fun c8 => ?_)
    · have hf := mm_t c8 hf
      exact mj_sub [0, 1, 2] rfl (HK h hf)
    · have hf := mm_f c8 hf
      refine mj_iconst (v := (0 : Int32)) X dX8_restOf_24 (by decide) ?_
      refine mj_istore (lo' := [(4, .int (0 : Int32)), (0, .ref (ad 0)), (1, .int p1), (2, .int p2), (3, .int m3)]) X dX8_restOf_25 (by decide) rfl ?_
      refine mj_sub [1, 2, 3, 4, 0] rfl (wX8_restOf_L27 X out RET N p1 p2 m3 _ (fun h12 hf => ?_) N h (0 : Int32) hf)
      refine mj_aload_n X dX8_restOf_66 0 rfl ?_
      obtain ⟨h13, r14, q15, hf⟩ := mm_c hf
      refine mj_callVv (As := []) (rest := []) X (kX8_bills l D t1 t2 cI cZ ad N h12 h13 r14 q15) (cwV 0 X.2.2.2.2.1 gX8_restOf_X8_bills rfl rfl rfl (by decide +kernel) ⟨Nat.le_of_ble_eq_true rfl, Nat.le_of_ble_eq_true rfl⟩) (my_at my_oX8 h12) rfl rfl rfl rfl (Nat.le_of_ble_eq_true rfl) ⟨Nat.zero_le _, Nat.zero_le _⟩ dX8_restOf_67 ?_
      refine mj_iconst (v := (0 : Int32)) X dX8_restOf_70 (by decide) ?_
      refine mj_istore (lo' := [(4, .int (0 : Int32)), (0, .ref (ad 0)), (1, .int p1), (2, .int p2), (3, .int m3)]) X dX8_restOf_71 (by decide) rfl ?_
      refine mj_sub [1, 2, 3, 4, 0] rfl (wX8_restOf_L73 X out RET N p1 p2 m3 _ (fun h24 hf => ?_) N h13 (0 : Int32) hf)
      refine mj_iinc (k := 3) (v := (m3 + 1)) (lo' := [(3, .int (m3 + 1)), (0, .ref (ad 0)), (1, .int p1), (2, .int p2)]) X dX8_restOf_130 rfl rfl (by decide) rfl ?_
      refine mj_goto (tgt := 19) X dX8_restOf_133 (by decide) ?_
      exact mj_sub [1, 2, 3, 0] rfl (ih h24 (m3 + 1) hf)
set_option maxHeartbeats 4000000 in
set_option maxRecDepth 100000 in
theorem wX8_restOf_L181 (X : mm_X p s m args c cX8_restOf RX8 wsX8_restOf 11 D (my_ty cI cZ) t1 t2 A) (out : mm_M × Int32) (RET : ∀ (h : mm_M) (pc : Nat) (lo : List (Nat × Value)) (v : Int32), decode cX8_restOf pc = .ok (.ireturn, 1) → (h, v) = out → mm_J p l e rmX8_restOf s m args below meth c 0 0 Q D (my_w cI cZ ad) A 11 h pc lo [.int v]) (N : Nat)  (p1 : Int32) (p2 : Int32) (p3 : Int32) (p4 : Int32) (p5 : Int32) (p7 : Int32) (p8 : Int32) (k : mm_M → Int32 → Option (mm_M × Int32)) (HK : ∀ (h : mm_M) (m6 : Int32), k h m6 = some out → mm_J p l e rmX8_restOf s m args below meth c 0 0 Q D (my_w cI cZ ad) A 11 h 251 [(0, .ref (ad 0)), (1, .int p1), (2, .int p2), (3, .int p3), (4, .int p4), (5, .int p5), (6, .int m6), (7, .int p7)] []) : ∀ (n : Nat) (h : mm_M) (m6 : Int32) (m9 : Int32), fX8_restOf_L181 N p1 p2 p3 p4 p5 p7 p8 k n h m6 m9 = some out → mm_J p l e rmX8_restOf s m args below meth c 0 0 Q D (my_w cI cZ ad) A 11 h 181 [(0, .ref (ad 0)), (1, .int p1), (2, .int p2), (3, .int p3), (4, .int p4), (5, .int p5), (6, .int m6), (7, .int p7), (8, .int p8), (9, .int m9)] [] := by
  intro n
  induction n with
  | zero =>
    intro h m6 m9 hf
    cases hf
  | succ n ih =>
    intro h m6 m9 hf
    rw [fX8_restOf_L181] at hf
    refine mj_iload X dX8_restOf_181 9 rfl ?_
    refine mj_iconst (v := (4 : Int32)) X dX8_restOf_183 (by decide) ?_
    refine mj_icmp_ge (tgt := 251) X dX8_restOf_184 (by decide) (fun c29 => ?_) (fun c29 => ?_)
    · have hf := mm_t c29 hf
      exact mj_sub [0, 1, 2, 3, 4, 5, 6, 7] rfl (HK h m6 hf)
    · have hf := mm_f c29 hf
      refine mj_iload X dX8_restOf_187 5 rfl ?_
      refine mj_iconst (v := (3 : Int32)) X dX8_restOf_189 (by decide) ?_
      refine mj_iload X dX8_restOf_190 8 rfl ?_
      refine mj_ishl X dX8_restOf_192 ?_
      refine mj_iconst (v := (-1 : Int32)) X dX8_restOf_193 (by decide) ?_
      refine mj_ixor X dX8_restOf_194 ?_
      refine mj_iand X dX8_restOf_195 ?_
      refine mj_iload X dX8_restOf_196 9 rfl ?_
      refine mj_iload X dX8_restOf_198 8 rfl ?_
      refine mj_ishl X dX8_restOf_200 ?_
      refine mj_ior X dX8_restOf_201 ?_
      obtain ⟨x30, ex30, hf⟩ := mm_l hf
      refine mj_topi ex30 ?_
      refine mj_istore (lo' := [(10, .int x30), (0, .ref (ad 0)), (1, .int p1), (2, .int p2), (3, .int p3), (4, .int p4), (5, .int p5), (6, .int m6), (7, .int p7), (8, .int p8), (9, .int m9)]) X dX8_restOf_202 (by decide) rfl ?_
      refine mj_iload X dX8_restOf_204 7 rfl ?_
      refine mj_if_eq (tgt := 242) X dX8_restOf_206 (by decide) (fun c31 => ?_) (fun c31 => ?_)
      · have hf := mm_t c31 hf
        refine mj_iconst (v := (0 : Int32)) X dX8_restOf_242 (by decide) ?_
        refine mj_istore (lo' := [(6, .int (0 : Int32)), (10, .int x30), (0, .ref (ad 0)), (1, .int p1), (2, .int p2), (3, .int p3), (4, .int p4), (5, .int p5), (7, .int p7), (8, .int p8), (9, .int m9)]) X dX8_restOf_243 (by decide) rfl ?_
        refine mj_iinc (k := 10) (v := (m9 + 1)) (lo' := [(9, .int (m9 + 1)), (6, .int (0 : Int32)), (10, .int x30), (0, .ref (ad 0)), (1, .int p1), (2, .int p2), (3, .int p3), (4, .int p4), (5, .int p5), (7, .int p7), (8, .int p8)]) X dX8_restOf_245 rfl rfl (by decide) rfl ?_
        refine mj_goto (tgt := 181) X dX8_restOf_248 (by decide) ?_
        exact mj_sub [3, 4, 5, 6, 7, 8, 1, 9, 10, 0] rfl (ih h (0 : Int32) (m9 + 1) hf)
      · have hf := mm_f c31 hf
        refine mj_aload_n X dX8_restOf_209 1 rfl ?_
        refine mj_get X inwX8_restOf_X8 (my_at my_oX8 h) rfl 18 (by decide) rfl lnX8_restOf_2 rfl dX8_restOf_210 ?_
        refine mj_bipush (v := (6 : Int32)) X dX8_restOf_213 (by decide) ?_
        refine mj_iload X dX8_restOf_215 0 rfl ?_
        refine mj_imul X dX8_restOf_217 ?_
        refine mj_iload X dX8_restOf_218 8 rfl ?_
        refine mj_iadd X dX8_restOf_220 ?_
        obtain ⟨g32, hf⟩ := mm_g hf
        refine mj_iald X 0 (my_at my_a16 h) rfl g32 dX8_restOf_221 ?_
        refine mj_aload_n X dX8_restOf_222 1 rfl ?_
        refine mj_get X inwX8_restOf_X8 (my_at my_oX8 h) rfl 18 (by decide) rfl lnX8_restOf_2 rfl dX8_restOf_223 ?_
        refine mj_bipush (v := (6 : Int32)) X dX8_restOf_226 (by decide) ?_
        refine mj_iload X dX8_restOf_228 6 rfl ?_
        refine mj_imul X dX8_restOf_230 ?_
        refine mj_iload X dX8_restOf_231 8 rfl ?_
        refine mj_iadd X dX8_restOf_233 ?_
        obtain ⟨g33, hf⟩ := mm_g hf
        refine mj_iald X 0 (my_at my_a16 h) rfl g33 dX8_restOf_234 ?_
        refine mj_icmp_gt (tgt := 242) X dX8_restOf_235 (by decide) (fun c34 => ?_) (fun c34 => ?_)
        · have hf := mm_t c34 hf
          refine mj_iconst (v := (0 : Int32)) X dX8_restOf_242 (by decide) ?_
          refine mj_istore (lo' := [(6, .int (0 : Int32)), (10, .int x30), (0, .ref (ad 0)), (1, .int p1), (2, .int p2), (3, .int p3), (4, .int p4), (5, .int p5), (7, .int p7), (8, .int p8), (9, .int m9)]) X dX8_restOf_243 (by decide) rfl ?_
          refine mj_iinc (k := 10) (v := (m9 + 1)) (lo' := [(9, .int (m9 + 1)), (6, .int (0 : Int32)), (10, .int x30), (0, .ref (ad 0)), (1, .int p1), (2, .int p2), (3, .int p3), (4, .int p4), (5, .int p5), (7, .int p7), (8, .int p8)]) X dX8_restOf_245 rfl rfl (by decide) rfl ?_
          refine mj_goto (tgt := 181) X dX8_restOf_248 (by decide) ?_
          exact mj_sub [3, 4, 5, 6, 7, 8, 1, 9, 10, 0] rfl (ih h (0 : Int32) (m9 + 1) hf)
        · have hf := mm_f c34 hf
          refine mj_iconst (v := (1 : Int32)) X dX8_restOf_238 (by decide) ?_
          refine mj_goto (tgt := 243) X dX8_restOf_239 (by decide) ?_
          refine mj_istore (lo' := [(6, .int (1 : Int32)), (10, .int x30), (0, .ref (ad 0)), (1, .int p1), (2, .int p2), (3, .int p3), (4, .int p4), (5, .int p5), (7, .int p7), (8, .int p8), (9, .int m9)]) X dX8_restOf_243 (by decide) rfl ?_
          refine mj_iinc (k := 10) (v := (m9 + 1)) (lo' := [(9, .int (m9 + 1)), (6, .int (1 : Int32)), (10, .int x30), (0, .ref (ad 0)), (1, .int p1), (2, .int p2), (3, .int p3), (4, .int p4), (5, .int p5), (7, .int p7), (8, .int p8)]) X dX8_restOf_245 rfl rfl (by decide) rfl ?_
          refine mj_goto (tgt := 181) X dX8_restOf_248 (by decide) ?_
          exact mj_sub [3, 4, 5, 6, 7, 8, 1, 9, 10, 0] rfl (ih h (1 : Int32) (m9 + 1) hf)
set_option maxHeartbeats 4000000 in
set_option maxRecDepth 100000 in
theorem wX8_restOf_L156 (X : mm_X p s m args c cX8_restOf RX8 wsX8_restOf 11 D (my_ty cI cZ) t1 t2 A) (out : mm_M × Int32) (RET : ∀ (h : mm_M) (pc : Nat) (lo : List (Nat × Value)) (v : Int32), decode cX8_restOf pc = .ok (.ireturn, 1) → (h, v) = out → mm_J p l e rmX8_restOf s m args below meth c 0 0 Q D (my_w cI cZ ad) A 11 h pc lo [.int v]) (N : Nat)  (p1 : Int32) (p2 : Int32) (p3 : Int32) (p4 : Int32) (p5 : Int32) (k : mm_M → Int32 → Option (mm_M × Int32)) (HK : ∀ (h : mm_M) (m6 : Int32), k h m6 = some out → mm_J p l e rmX8_restOf s m args below meth c 0 0 Q D (my_w cI cZ ad) A 11 h 257 [(0, .ref (ad 0)), (1, .int p1), (2, .int p2), (3, .int p3), (4, .int p4), (5, .int p5), (6, .int m6)] []) : ∀ (n : Nat) (h : mm_M) (m6 : Int32) (m7 : Int32), fX8_restOf_L156 N p1 p2 p3 p4 p5 k n h m6 m7 = some out → mm_J p l e rmX8_restOf s m args below meth c 0 0 Q D (my_w cI cZ ad) A 11 h 156 [(0, .ref (ad 0)), (1, .int p1), (2, .int p2), (3, .int p3), (4, .int p4), (5, .int p5), (6, .int m6), (7, .int m7)] [] := by
  intro n
  induction n with
  | zero =>
    intro h m6 m7 hf
    cases hf
  | succ n ih =>
    intro h m6 m7 hf
    rw [fX8_restOf_L156] at hf
    refine mj_iload X dX8_restOf_156 7 rfl ?_
    refine mj_aload_n X dX8_restOf_158 0 rfl ?_
    refine mj_get X inwX8_restOf_X8 (my_at my_oX8 h) rfl 2 (by decide) rfl lnX8_restOf_0 rfl dX8_restOf_159 ?_
    refine mj_icmp_ge (tgt := 257) X dX8_restOf_162 (by decide) (fun c27 => ?_) (fun c27 => ?_)
    · have hf := mm_t c27 hf
      exact mj_sub [0, 1, 2, 3, 4, 5, 6] rfl (HK h m6 hf)
    · have hf := mm_f c27 hf
      refine mj_iconst (v := (2 : Int32)) X dX8_restOf_165 (by decide) ?_
      refine mj_aload_n X dX8_restOf_166 0 rfl ?_
      refine mj_get X inwX8_restOf_X8 (my_at my_oX8 h) rfl 2 (by decide) rfl lnX8_restOf_0 rfl dX8_restOf_167 ?_
      refine mj_iconst (v := (1 : Int32)) X dX8_restOf_170 (by decide) ?_
      refine mj_isub X dX8_restOf_171 ?_
      refine mj_iload X dX8_restOf_172 7 rfl ?_
      refine mj_isub X dX8_restOf_174 ?_
      refine mj_imul X dX8_restOf_175 ?_
      obtain ⟨x28, ex28, hf⟩ := mm_l hf
      refine mj_topi ex28 ?_
      refine mj_istore (lo' := [(8, .int x28), (0, .ref (ad 0)), (1, .int p1), (2, .int p2), (3, .int p3), (4, .int p4), (5, .int p5), (6, .int m6), (7, .int m7)]) X dX8_restOf_176 (by decide) rfl ?_
      refine mj_iconst (v := (0 : Int32)) X dX8_restOf_178 (by decide) ?_
      refine mj_istore (lo' := [(9, .int (0 : Int32)), (8, .int x28), (0, .ref (ad 0)), (1, .int p1), (2, .int p2), (3, .int p3), (4, .int p4), (5, .int p5), (6, .int m6), (7, .int m7)]) X dX8_restOf_179 (by decide) rfl ?_
      refine mj_sub [2, 3, 4, 5, 6, 7, 8, 9, 1, 0] rfl (wX8_restOf_L181 X out RET N p1 p2 p3 p4 p5 m7 x28 _ (fun h35 v36 hf => ?_) N h m6 (0 : Int32) hf)
      refine mj_iinc (k := 7) (v := (m7 + 1)) (lo' := [(7, .int (m7 + 1)), (0, .ref (ad 0)), (1, .int p1), (2, .int p2), (3, .int p3), (4, .int p4), (5, .int p5), (6, .int v36)]) X dX8_restOf_251 rfl rfl (by decide) rfl ?_
      refine mj_goto (tgt := 156) X dX8_restOf_254 (by decide) ?_
      exact mj_sub [1, 2, 3, 4, 5, 6, 7, 0] rfl (ih h35 v36 (m7 + 1) hf)
set_option maxHeartbeats 4000000 in
set_option maxRecDepth 100000 in
theorem wX8_restOf_L144 (X : mm_X p s m args c cX8_restOf RX8 wsX8_restOf 11 D (my_ty cI cZ) t1 t2 A) (out : mm_M × Int32) (RET : ∀ (h : mm_M) (pc : Nat) (lo : List (Nat × Value)) (v : Int32), decode cX8_restOf pc = .ok (.ireturn, 1) → (h, v) = out → mm_J p l e rmX8_restOf s m args below meth c 0 0 Q D (my_w cI cZ ad) A 11 h pc lo [.int v]) (N : Nat)  (p1 : Int32) (p2 : Int32) (k : mm_M → Int32 → Int32 → Option (mm_M × Int32)) (HK : ∀ (h : mm_M) (m3 : Int32) (m4 : Int32), k h m3 m4 = some out → mm_J p l e rmX8_restOf s m args below meth c 0 0 Q D (my_w cI cZ ad) A 11 h 296 [(0, .ref (ad 0)), (1, .int p1), (3, .int m3), (4, .int m4)] []) : ∀ (n : Nat) (h : mm_M) (m3 : Int32) (m4 : Int32) (m5 : Int32), fX8_restOf_L144 N p1 p2 k n h m3 m4 m5 = some out → mm_J p l e rmX8_restOf s m args below meth c 0 0 Q D (my_w cI cZ ad) A 11 h 144 [(0, .ref (ad 0)), (1, .int p1), (2, .int p2), (3, .int m3), (4, .int m4), (5, .int m5)] [] := by
  intro n
  induction n with
  | zero =>
    intro h m3 m4 m5 hf
    cases hf
  | succ n ih =>
    intro h m3 m4 m5 hf
    rw [fX8_restOf_L144] at hf
    refine mj_iload X dX8_restOf_144 5 rfl ?_
    refine mj_iload_n X dX8_restOf_146 2 rfl ?_
    refine mj_icmp_ge (tgt := 296) X dX8_restOf_147 (by decide) (fun c26 => ?_) (fun c26 => ?_)
    · have hf := mm_t c26 hf
      exact mj_sub [0, 1, 3, 4] rfl (HK h m3 m4 hf)
    · have hf := mm_f c26 hf
      refine mj_iconst (v := (1 : Int32)) X dX8_restOf_150 (by decide) ?_
      refine mj_istore (lo' := [(6, .int (1 : Int32)), (0, .ref (ad 0)), (1, .int p1), (2, .int p2), (3, .int m3), (4, .int m4), (5, .int m5)]) X dX8_restOf_151 (by decide) rfl ?_
      refine mj_iconst (v := (0 : Int32)) X dX8_restOf_153 (by decide) ?_
      refine mj_istore (lo' := [(7, .int (0 : Int32)), (6, .int (1 : Int32)), (0, .ref (ad 0)), (1, .int p1), (2, .int p2), (3, .int m3), (4, .int m4), (5, .int m5)]) X dX8_restOf_154 (by decide) rfl ?_
      refine mj_sub [2, 3, 4, 5, 6, 7, 1, 0] rfl (wX8_restOf_L156 X out RET N p1 p2 m3 m4 m5 _ (fun h37 v38 hf => ?_) N h (1 : Int32) (0 : Int32) hf)
      refine mj_iload_n X dX8_restOf_257 3 rfl ?_
      refine mj_iload X dX8_restOf_258 6 rfl ?_
      refine mj_if_eq (tgt := 267) X dX8_restOf_260 (by decide) (fun c39 => ?_) (fun c39 => ?_)
      · have hf := mm_t c39 hf
        refine mj_iconst (v := (0 : Int32)) X dX8_restOf_267 (by decide) ?_
        refine mj_iadd X dX8_restOf_268 ?_
        obtain ⟨x40, ex40, hf⟩ := mm_l hf
        refine mj_topi ex40 ?_
        refine mj_istore_n (lo' := [(3, .int x40), (0, .ref (ad 0)), (1, .int p1), (2, .int p2), (4, .int m4), (5, .int m5), (6, .int v38)]) X dX8_restOf_269 (by decide) rfl ?_
        refine mj_iload X dX8_restOf_270 6 rfl ?_
        refine mj_if_eq (tgt := 286) X dX8_restOf_272 (by decide) (fun _ => ?_) (fun c41 => absurd c39 c41)
        refine mj_iload X dX8_restOf_286 4 rfl ?_
        refine mj_istore (lo' := [(4, .int m4), (3, .int x40), (0, .ref (ad 0)), (1, .int p1), (2, .int p2), (5, .int m5), (6, .int v38)]) X dX8_restOf_288 (by decide) rfl ?_
        refine mj_iinc (k := 5) (v := (m5 + 1)) (lo' := [(5, .int (m5 + 1)), (4, .int m4), (3, .int x40), (0, .ref (ad 0)), (1, .int p1), (2, .int p2), (6, .int v38)]) X dX8_restOf_290 rfl rfl (by decide) rfl ?_
        refine mj_goto (tgt := 144) X dX8_restOf_293 (by decide) ?_
        exact mj_sub [3, 4, 5, 2, 1, 0] rfl (ih h37 x40 m4 (m5 + 1) hf)
      · have hf := mm_f c39 hf
        refine mj_iconst (v := (1 : Int32)) X dX8_restOf_263 (by decide) ?_
        refine mj_goto (tgt := 268) X dX8_restOf_264 (by decide) ?_
        refine mj_iadd X dX8_restOf_268 ?_
        obtain ⟨x42, ex42, hf⟩ := mm_l hf
        refine mj_topi ex42 ?_
        refine mj_istore_n (lo' := [(3, .int x42), (0, .ref (ad 0)), (1, .int p1), (2, .int p2), (4, .int m4), (5, .int m5), (6, .int v38)]) X dX8_restOf_269 (by decide) rfl ?_
        refine mj_iload X dX8_restOf_270 6 rfl ?_
        refine mj_if_eq (tgt := 286) X dX8_restOf_272 (by decide) (fun c43 => absurd c43 c39) (fun _ => ?_)
        refine mj_iload X dX8_restOf_275 4 rfl ?_
        refine mj_iconst (v := (-1 : Int32)) X dX8_restOf_277 (by decide) ?_
        refine mj_icmp_ne (tgt := 286) X dX8_restOf_278 (by decide) (fun c44 => ?_) (fun c44 => ?_)
        · have hf := mm_f c44 hf
          refine mj_iload X dX8_restOf_286 4 rfl ?_
          refine mj_istore (lo' := [(4, .int m4), (3, .int x42), (0, .ref (ad 0)), (1, .int p1), (2, .int p2), (5, .int m5), (6, .int v38)]) X dX8_restOf_288 (by decide) rfl ?_
          refine mj_iinc (k := 5) (v := (m5 + 1)) (lo' := [(5, .int (m5 + 1)), (4, .int m4), (3, .int x42), (0, .ref (ad 0)), (1, .int p1), (2, .int p2), (6, .int v38)]) X dX8_restOf_290 rfl rfl (by decide) rfl ?_
          refine mj_goto (tgt := 144) X dX8_restOf_293 (by decide) ?_
          exact mj_sub [3, 4, 5, 2, 1, 0] rfl (ih h37 x42 m4 (m5 + 1) hf)
        · have hf := mm_t c44 hf
          refine mj_iload X dX8_restOf_281 5 rfl ?_
          refine mj_goto (tgt := 288) X dX8_restOf_283 (by decide) ?_
          refine mj_istore (lo' := [(4, .int m5), (3, .int x42), (0, .ref (ad 0)), (1, .int p1), (2, .int p2), (5, .int m5), (6, .int v38)]) X dX8_restOf_288 (by decide) rfl ?_
          refine mj_iinc (k := 5) (v := (m5 + 1)) (lo' := [(5, .int (m5 + 1)), (4, .int m5), (3, .int x42), (0, .ref (ad 0)), (1, .int p1), (2, .int p2), (6, .int v38)]) X dX8_restOf_290 rfl rfl (by decide) rfl ?_
          refine mj_goto (tgt := 144) X dX8_restOf_293 (by decide) ?_
          exact mj_sub [3, 4, 5, 2, 1, 0] rfl (ih h37 x42 m5 (m5 + 1) hf)
set_option maxHeartbeats 4000000 in
set_option maxRecDepth 100000 in
theorem kX8_restOf (l : Launch) (D : va_G) (t1 t2 : Nat) (cI : ClassId) (cZ : ClassId) (ad : Nat → Nat)  (N : Nat) (h : mm_M) (a0 : Int32) (h1 : mm_M) (r : Int32) (hf : fX8_restOf N h a0 = some (h1, r)) : mm_Ki l yX8_restOf wsX8_restOf rmX8_restOf D (my_ty cI cZ) t1 t2 (my_w cI cZ ad) [.ref (ad 0), .int a0] h r h1 := by
  refine mm_open_i [.ref (ad 0), .int a0] h r h1 RX8 (by decide) rfl rfl (Nat.le_of_ble_eq_true rfl) ?_
  intro p e s m below meth c A X hr hlocks
  have RET : ∀ (h : mm_M) (pc : Nat) (lo : List (Nat × Value)) (v : Int32), decode cX8_restOf pc = .ok (.ireturn, 1) → (h, v) = (h1, r) → mm_J p l e rmX8_restOf s m ([.ref (ad 0), .int a0] : List Value).toArray below meth c 0 0 (MQ below (va_Qi (fun (r' : Int32) (u : mm_M) => r' = r ∧ u = h1) (mm_Post D (my_w cI cZ ad) A) A) ([.ref (ad 0), .int a0] : List Value).toArray s 0 0 A) D (my_w cI cZ ad) A 11 h pc lo [.int v] := by
    intro h2 pc lo v hd he
    cases he
    exact mj_iret X hr rfl hlocks hd
  generalize hout : (h1, r) = out at hf RET
  unfold fX8_restOf at hf
  refine mj_lo (lo' := [(0, .ref (ad 0)), (1, .int a0)]) rfl ?_
  refine mj_aload_n X dX8_restOf_0 0 rfl ?_
  obtain ⟨h1, r2, q3, hf⟩ := mm_c hf
  refine mj_callVv (As := []) (rest := []) X (kX8_reads l D t1 t2 cI cZ ad N h h1 r2 q3) (cwV 0 X.2.2.2.2.1 gX8_restOf_X8_reads rfl rfl rfl (by decide +kernel) ⟨Nat.le_of_ble_eq_true rfl, Nat.le_of_ble_eq_true rfl⟩) (my_at my_oX8 h) rfl rfl rfl rfl (Nat.le_of_ble_eq_true rfl) ⟨Nat.zero_le _, Nat.zero_le _⟩ dX8_restOf_1 ?_
  refine mj_aload_n X dX8_restOf_4 0 rfl ?_
  obtain ⟨h4, r5, q6, hf⟩ := mm_c hf
  refine mj_callVv (As := []) (rest := []) X (kX8_atFirst l D t1 t2 cI cZ ad N h1 h4 r5 q6) (cwV 0 X.2.2.2.2.1 gX8_restOf_X8_atFirst rfl rfl rfl (by decide +kernel) ⟨Nat.le_of_ble_eq_true rfl, Nat.le_of_ble_eq_true rfl⟩) (my_at my_oX8 h1) rfl rfl rfl rfl (Nat.le_of_ble_eq_true rfl) ⟨Nat.zero_le _, Nat.zero_le _⟩ dX8_restOf_5 ?_
  refine mj_iconst (v := (1 : Int32)) X dX8_restOf_8 (by decide) ?_
  refine mj_iconst (v := (2 : Int32)) X dX8_restOf_9 (by decide) ?_
  refine mj_aload_n X dX8_restOf_10 0 rfl ?_
  refine mj_get X inwX8_restOf_X8 (my_at my_oX8 h4) rfl 2 (by decide) rfl lnX8_restOf_0 rfl dX8_restOf_11 ?_
  refine mj_imul X dX8_restOf_14 ?_
  refine mj_ishl X dX8_restOf_15 ?_
  obtain ⟨x7, ex7, hf⟩ := mm_l hf
  refine mj_topi ex7 ?_
  refine mj_istore_n (lo' := [(2, .int x7), (0, .ref (ad 0)), (1, .int a0)]) X dX8_restOf_16 (by decide) rfl ?_
  refine mj_iconst (v := (0 : Int32)) X dX8_restOf_17 (by decide) ?_
  refine mj_istore_n (lo' := [(3, .int (0 : Int32)), (2, .int x7), (0, .ref (ad 0)), (1, .int a0)]) X dX8_restOf_18 (by decide) rfl ?_
  refine mj_sub [2, 3, 1, 0] rfl (wX8_restOf_L19 X out RET N a0 x7 _ (fun h25 hf => ?_) N h4 (0 : Int32) hf)
  refine mj_iconst (v := (0 : Int32)) X dX8_restOf_136 (by decide) ?_
  refine mj_istore_n (lo' := [(3, .int (0 : Int32)), (0, .ref (ad 0)), (1, .int a0), (2, .int x7)]) X dX8_restOf_137 (by decide) rfl ?_
  refine mj_iconst (v := (-1 : Int32)) X dX8_restOf_138 (by decide) ?_
  refine mj_istore (lo' := [(4, .int (-1 : Int32)), (3, .int (0 : Int32)), (0, .ref (ad 0)), (1, .int a0), (2, .int x7)]) X dX8_restOf_139 (by decide) rfl ?_
  refine mj_iconst (v := (0 : Int32)) X dX8_restOf_141 (by decide) ?_
  refine mj_istore (lo' := [(5, .int (0 : Int32)), (4, .int (-1 : Int32)), (3, .int (0 : Int32)), (0, .ref (ad 0)), (1, .int a0), (2, .int x7)]) X dX8_restOf_142 (by decide) rfl ?_
  refine mj_sub [3, 4, 5, 2, 1, 0] rfl (wX8_restOf_L144 X out RET N a0 x7 _ (fun h45 v46 v47 hf => ?_) N h25 (0 : Int32) (-1 : Int32) (0 : Int32) hf)
  refine mj_iload_n X dX8_restOf_296 1 rfl ?_
  refine mj_iconst (v := (-1 : Int32)) X dX8_restOf_297 (by decide) ?_
  refine mj_icmp_ne (tgt := 305) X dX8_restOf_298 (by decide) (fun c48 => ?_) (fun c48 => ?_)
  · have hf := mm_f c48 hf
    refine mj_iload X dX8_restOf_305 3 rfl ?_
    refine mj_iconst (v := (-1 : Int32)) X dX8_restOf_307 (by decide) ?_
    refine mj_icmp_ne (tgt := 315) X dX8_restOf_308 (by decide) (fun c49 => ?_) (fun c49 => ?_)
    · have hf := mm_f c49 hf
      refine mj_iload X dX8_restOf_315 3 rfl ?_
      refine mj_iconst (v := (2 : Int32)) X dX8_restOf_317 (by decide) ?_
      refine mj_aload_n X dX8_restOf_318 0 rfl ?_
      refine mj_get X inwX8_restOf_X8 (my_at my_oX8 h45) rfl 2 (by decide) rfl lnX8_restOf_0 rfl dX8_restOf_319 ?_
      refine mj_iconst (v := (1 : Int32)) X dX8_restOf_322 (by decide) ?_
      refine mj_isub X dX8_restOf_323 ?_
      refine mj_iload_n X dX8_restOf_324 1 rfl ?_
      refine mj_isub X dX8_restOf_325 ?_
      refine mj_imul X dX8_restOf_326 ?_
      refine mj_ishr X dX8_restOf_327 ?_
      refine mj_iconst (v := (3 : Int32)) X dX8_restOf_328 (by decide) ?_
      refine mj_iand X dX8_restOf_329 ?_
      refine mj_iconst (v := (1 : Int32)) X dX8_restOf_330 (by decide) ?_
      refine mj_isub X dX8_restOf_331 ?_
      exact RET h45 _ _ _ dX8_restOf_332 (Option.some.inj hf)
    · have hf := mm_t c49 hf
      refine mj_iconst (v := (-1 : Int32)) X dX8_restOf_311 (by decide) ?_
      refine mj_goto (tgt := 332) X dX8_restOf_312 (by decide) ?_
      exact RET h45 _ _ _ dX8_restOf_332 (Option.some.inj hf)
  · have hf := mm_t c48 hf
    refine mj_iload_n X dX8_restOf_301 2 rfl ?_
    refine mj_goto (tgt := 332) X dX8_restOf_302 (by decide) ?_
    exact RET h45 _ _ _ dX8_restOf_332 (Option.some.inj hf)
abbrev rmX8_rest : Room := { frames := 5, cells := 0, slots := 0, locals := 120 }
set_option maxHeartbeats 4000000 in
set_option maxRecDepth 100000 in
theorem kX8_rest (l : Launch) (D : va_G) (t1 t2 : Nat) (cI : ClassId) (cZ : ClassId) (ad : Nat → Nat)  (N : Nat) (h : mm_M) (a0 : Int32) (h1 : mm_M) (r : Int32) (hf : fX8_rest N h a0 = some (h1, r)) : mm_Ki l yX8_rest wsX8_rest rmX8_rest D (my_ty cI cZ) t1 t2 (my_w cI cZ ad) [.ref (ad 0), .int a0] h r h1 := by
  refine mm_open_i [.ref (ad 0), .int a0] h r h1 RX8 (by decide) rfl rfl (Nat.le_of_ble_eq_true rfl) ?_
  intro p e s m below meth c A X hr hlocks
  have RET : ∀ (h : mm_M) (pc : Nat) (lo : List (Nat × Value)) (v : Int32), decode cX8_rest pc = .ok (.ireturn, 1) → (h, v) = (h1, r) → mm_J p l e rmX8_rest s m ([.ref (ad 0), .int a0] : List Value).toArray below meth c 0 0 (MQ below (va_Qi (fun (r' : Int32) (u : mm_M) => r' = r ∧ u = h1) (mm_Post D (my_w cI cZ ad) A) A) ([.ref (ad 0), .int a0] : List Value).toArray s 0 0 A) D (my_w cI cZ ad) A 2 h pc lo [.int v] := by
    intro h2 pc lo v hd he
    cases he
    exact mj_iret X hr rfl hlocks hd
  generalize hout : (h1, r) = out at hf RET
  unfold fX8_rest at hf
  refine mj_lo (lo' := [(0, .ref (ad 0)), (1, .int a0)]) rfl ?_
  refine mj_iload_n X dX8_rest_0 1 rfl ?_
  refine mj_iconst (v := (-1 : Int32)) X dX8_rest_1 (by decide) ?_
  refine mj_icmp_eq (tgt := 13) X dX8_rest_2 (by decide) (fun c1 => ?_) (fun c1 => ?_)
  · have hf := mm_t c1 hf
    refine mj_aload_n X dX8_rest_13 0 rfl ?_
    refine mj_iload_n X dX8_rest_14 1 rfl ?_
    obtain ⟨h2, r3, q4, hf⟩ := mm_c hf
    refine mj_callVi (As := [.int a0]) (rest := []) X (kX8_restOf l D t1 t2 cI cZ ad N h a0 h2 r3 q4) (cwV 1 X.2.2.2.2.1 gX8_rest_X8_restOf rfl rfl rfl (by decide +kernel) ⟨Nat.le_of_ble_eq_true rfl, Nat.le_of_ble_eq_true rfl⟩) (my_at my_oX8 h) rfl rfl rfl rfl (Nat.le_of_ble_eq_true rfl) ⟨Nat.zero_le _, Nat.zero_le _⟩ dX8_rest_15 ?_
    refine mj_goto (tgt := 23) X dX8_rest_18 (by decide) ?_
    exact RET h2 _ _ _ dX8_rest_23 (Option.some.inj hf)
  · have hf := mm_f c1 hf
    refine mj_aload_n X dX8_rest_5 0 rfl ?_
    refine mj_iload_n X dX8_rest_6 1 rfl ?_
    obtain ⟨h5, r6, q7, hf⟩ := mm_c hf
    refine mj_callVi (As := [.int a0]) (rest := []) X (kX8_isPerson l D t1 t2 cI cZ ad N h a0 h5 r6 q7) (cwV 1 X.2.2.2.2.1 gX8_rest_X8_isPerson rfl rfl rfl (by decide +kernel) ⟨Nat.le_of_ble_eq_true rfl, Nat.le_of_ble_eq_true rfl⟩) (my_at my_oX8 h) rfl rfl rfl rfl (Nat.le_of_ble_eq_true rfl) ⟨Nat.zero_le _, Nat.zero_le _⟩ dX8_rest_7 ?_
    refine mj_if_eq (tgt := 21) X dX8_rest_10 (by decide) (fun c8 => ?_) (fun c8 => ?_)
    · have hf := mm_t c8 hf
      refine mj_bipush (v := (-2 : Int32)) X dX8_rest_21 (by decide) ?_
      exact RET h5 _ _ _ dX8_rest_23 (Option.some.inj hf)
    · have hf := mm_f c8 hf
      refine mj_aload_n X dX8_rest_13 0 rfl ?_
      refine mj_iload_n X dX8_rest_14 1 rfl ?_
      obtain ⟨h9, r10, q11, hf⟩ := mm_c hf
      refine mj_callVi (As := [.int a0]) (rest := []) X (kX8_restOf l D t1 t2 cI cZ ad N h5 a0 h9 r10 q11) (cwV 1 X.2.2.2.2.1 gX8_rest_X8_restOf rfl rfl rfl (by decide +kernel) ⟨Nat.le_of_ble_eq_true rfl, Nat.le_of_ble_eq_true rfl⟩) (my_at my_oX8 h5) rfl rfl rfl rfl (Nat.le_of_ble_eq_true rfl) ⟨Nat.zero_le _, Nat.zero_le _⟩ dX8_rest_15 ?_
      refine mj_goto (tgt := 23) X dX8_rest_18 (by decide) ?_
      exact RET h9 _ _ _ dX8_rest_23 (Option.some.inj hf)
abbrev rmX8_parts : Room := { frames := 0, cells := 0, slots := 0, locals := 0 }
theorem inwX8_parts_X8 : ∀ w ∈ wsX80, w ∈ wsX8_parts := by
  intro w hw
  have h9 : wsX80 = (wsX8_parts.drop 3).take 29 := rfl
  rw [h9] at hw
  exact List.mem_of_mem_drop (List.mem_of_mem_take hw)
theorem lnX8_parts_0 : Cond.fieldLink RX8 89 "RichestPaysModel" "people" "I" ∈ wsX8_parts := List.mem_of_getElem? (i := 1) rfl
theorem lnX8_parts_1 : Cond.fieldLink RX8 37 "RichestPaysModel" "seat" "[I" ∈ wsX8_parts := List.mem_of_getElem? (i := 2) rfl
set_option maxHeartbeats 4000000 in
set_option maxRecDepth 100000 in
theorem wX8_parts_L4 (X : mm_X p s m args c cX8_parts RX8 wsX8_parts 5 D (my_ty cI cZ) t1 t2 A) (out : mm_M × Int32) (RET : ∀ (h : mm_M) (pc : Nat) (lo : List (Nat × Value)) (v : Int32), decode cX8_parts pc = .ok (.ireturn, 1) → (v = 0 ∨ v = 1) → (h, v) = out → mm_J p l e rmX8_parts s m args below meth c 0 0 Q D (my_w cI cZ ad) A 5 h pc lo [.int v]) (N : Nat)  (p1 : Int32) (k : mm_M → Option (mm_M × Int32)) (HK : ∀ (h : mm_M), k h = some out → mm_J p l e rmX8_parts s m args below meth c 0 0 Q D (my_w cI cZ ad) A 5 h 57 [] []) : ∀ (n : Nat) (h : mm_M) (m2 : Int32) (m3 : Int32), fX8_parts_L4 N p1 k n h m2 m3 = some out → mm_J p l e rmX8_parts s m args below meth c 0 0 Q D (my_w cI cZ ad) A 5 h 4 [(0, .ref (ad 0)), (1, .int p1), (2, .int m2), (3, .int m3)] [] := by
  intro n
  induction n with
  | zero =>
    intro h m2 m3 hf
    cases hf
  | succ n ih =>
    intro h m2 m3 hf
    rw [fX8_parts_L4] at hf
    refine mj_iload_n X dX8_parts_4 3 rfl ?_
    refine mj_aload_n X dX8_parts_5 0 rfl ?_
    refine mj_get X inwX8_parts_X8 (my_at my_oX8 h) rfl 2 (by decide) rfl lnX8_parts_0 rfl dX8_parts_6 ?_
    refine mj_icmp_ge (tgt := 57) X dX8_parts_9 (by decide) (fun c1 => ?_) (fun c1 => ?_)
    · have hf := mm_t c1 hf
      exact mj_sub [] rfl (HK h hf)
    · have hf := mm_f c1 hf
      refine mj_iload_n X dX8_parts_12 1 rfl ?_
      refine mj_iconst (v := (2 : Int32)) X dX8_parts_13 (by decide) ?_
      refine mj_iload_n X dX8_parts_14 3 rfl ?_
      refine mj_imul X dX8_parts_15 ?_
      refine mj_ishr X dX8_parts_16 ?_
      refine mj_iconst (v := (3 : Int32)) X dX8_parts_17 (by decide) ?_
      refine mj_iand X dX8_parts_18 ?_
      obtain ⟨x2, ex2, hf⟩ := mm_l hf
      refine mj_topi ex2 ?_
      refine mj_istore (lo' := [(4, .int x2), (0, .ref (ad 0)), (1, .int p1), (2, .int m2), (3, .int m3)]) X dX8_parts_19 (by decide) rfl ?_
      refine mj_iload X dX8_parts_21 0 rfl ?_
      refine mj_iload_n X dX8_parts_23 3 rfl ?_
      refine mj_icmp_le (tgt := 29) X dX8_parts_24 (by decide) (fun c3 => ?_) (fun c3 => ?_)
      · have hf := mm_t c3 hf
        refine mj_iload X dX8_parts_29 0 rfl ?_
        refine mj_iload_n X dX8_parts_31 3 rfl ?_
        refine mj_icmp_ne (tgt := 41) X dX8_parts_32 (by decide) (fun c4 => ?_) (fun c4 => ?_)
        · have hf := mm_f c4 hf
          refine mj_iload_n X dX8_parts_41 3 rfl ?_
          refine mj_istore_n (lo' := [(2, .int m2), (4, .int x2), (0, .ref (ad 0)), (1, .int p1), (3, .int m3)]) X dX8_parts_42 (by decide) rfl ?_
          refine mj_aload_n X dX8_parts_43 2 rfl ?_
          refine mj_get X inwX8_parts_X8 (my_at my_oX8 h) rfl 11 (by decide) rfl lnX8_parts_1 rfl dX8_parts_44 ?_
          refine mj_iload_n X dX8_parts_47 4 rfl ?_
          refine mj_iload X dX8_parts_48 1 rfl ?_
          obtain ⟨g5, hf⟩ := mm_g hf
          obtain ⟨h6, eh6, hf⟩ := mm_l hf
          refine mj_iast X 0 (my_at my_a10 h) rfl g5 (my_ast my_a10 eh6) dX8_parts_50 ?_
          refine mj_iinc (k := 4) (v := (m3 + 1)) (lo' := [(3, .int (m3 + 1)), (2, .int m2), (4, .int x2), (0, .ref (ad 0)), (1, .int p1)]) X dX8_parts_51 rfl rfl (by decide) rfl ?_
          refine mj_goto (tgt := 4) X dX8_parts_54 (by decide) ?_
          exact mj_sub [3, 4, 1, 0] rfl (ih h6 m2 (m3 + 1) hf)
        · have hf := mm_t c4 hf
          refine mj_iload_n X dX8_parts_35 3 rfl ?_
          refine mj_iconst (v := (1 : Int32)) X dX8_parts_36 (by decide) ?_
          refine mj_iadd X dX8_parts_37 ?_
          refine mj_goto (tgt := 42) X dX8_parts_38 (by decide) ?_
          obtain ⟨x7, ex7, hf⟩ := mm_l hf
          refine mj_topi ex7 ?_
          refine mj_istore_n (lo' := [(2, .int x7), (4, .int x2), (0, .ref (ad 0)), (1, .int p1), (3, .int m3)]) X dX8_parts_42 (by decide) rfl ?_
          refine mj_aload_n X dX8_parts_43 2 rfl ?_
          refine mj_get X inwX8_parts_X8 (my_at my_oX8 h) rfl 11 (by decide) rfl lnX8_parts_1 rfl dX8_parts_44 ?_
          refine mj_iload_n X dX8_parts_47 4 rfl ?_
          refine mj_iload X dX8_parts_48 1 rfl ?_
          obtain ⟨g8, hf⟩ := mm_g hf
          obtain ⟨h9, eh9, hf⟩ := mm_l hf
          refine mj_iast X 0 (my_at my_a10 h) rfl g8 (my_ast my_a10 eh9) dX8_parts_50 ?_
          refine mj_iinc (k := 4) (v := (m3 + 1)) (lo' := [(3, .int (m3 + 1)), (2, .int x7), (4, .int x2), (0, .ref (ad 0)), (1, .int p1)]) X dX8_parts_51 rfl rfl (by decide) rfl ?_
          refine mj_goto (tgt := 4) X dX8_parts_54 (by decide) ?_
          exact mj_sub [3, 4, 1, 0] rfl (ih h9 x7 (m3 + 1) hf)
      · have hf := mm_f c3 hf
        refine mj_iconst (v := (0 : Int32)) X dX8_parts_27 (by decide) ?_
        exact RET h _ _ _ dX8_parts_28 (by decide) (Option.some.inj hf)
set_option maxHeartbeats 4000000 in
set_option maxRecDepth 100000 in
theorem kX8_parts (l : Launch) (D : va_G) (t1 t2 : Nat) (cI : ClassId) (cZ : ClassId) (ad : Nat → Nat)  (N : Nat) (h : mm_M) (a0 : Int32) (h1 : mm_M) (r : Int32) (hf : fX8_parts N h a0 = some (h1, r)) : mm_Ki l yX8_parts wsX8_parts rmX8_parts D (my_ty cI cZ) t1 t2 (my_w cI cZ ad) [.ref (ad 0), .int a0] h r h1 := by
  refine mm_open_i [.ref (ad 0), .int a0] h r h1 RX8 (by decide) rfl rfl (Nat.le_of_ble_eq_true rfl) ?_
  intro p e s m below meth c A X hr hlocks
  have RET : ∀ (h : mm_M) (pc : Nat) (lo : List (Nat × Value)) (v : Int32), decode cX8_parts pc = .ok (.ireturn, 1) → (v = 0 ∨ v = 1) → (h, v) = (h1, r) → mm_J p l e rmX8_parts s m ([.ref (ad 0), .int a0] : List Value).toArray below meth c 0 0 (MQ below (va_Qi (fun (r' : Int32) (u : mm_M) => r' = r ∧ u = h1) (mm_Post D (my_w cI cZ ad) A) A) ([.ref (ad 0), .int a0] : List Value).toArray s 0 0 A) D (my_w cI cZ ad) A 5 h pc lo [.int v] := by
    intro h2 pc lo v hd hz he
    cases he
    exact mj_iret X hr (mm_nz hz) hlocks hd
  generalize hout : (h1, r) = out at hf RET
  unfold fX8_parts at hf
  refine mj_lo (lo' := [(0, .ref (ad 0)), (1, .int a0)]) rfl ?_
  refine mj_iconst (v := (0 : Int32)) X dX8_parts_0 (by decide) ?_
  refine mj_istore_n (lo' := [(2, .int (0 : Int32)), (0, .ref (ad 0)), (1, .int a0)]) X dX8_parts_1 (by decide) rfl ?_
  refine mj_iconst (v := (0 : Int32)) X dX8_parts_2 (by decide) ?_
  refine mj_istore_n (lo' := [(3, .int (0 : Int32)), (2, .int (0 : Int32)), (0, .ref (ad 0)), (1, .int a0)]) X dX8_parts_3 (by decide) rfl ?_
  refine mj_sub [2, 3, 1, 0] rfl (wX8_parts_L4 X out RET N a0 _ (fun h10 hf => ?_) N h (0 : Int32) (0 : Int32) hf)
  refine mj_iconst (v := (1 : Int32)) X dX8_parts_57 (by decide) ?_
  exact RET h10 _ _ _ dX8_parts_58 (by decide) (Option.some.inj hf)
abbrev rmX8_isDown : Room := { frames := 0, cells := 0, slots := 0, locals := 0 }
theorem inwX8_isDown_X8 : ∀ w ∈ wsX80, w ∈ wsX8_isDown := by
  intro w hw
  have h9 : wsX80 = (wsX8_isDown.drop 3).take 29 := rfl
  rw [h9] at hw
  exact List.mem_of_mem_drop (List.mem_of_mem_take hw)
theorem lnX8_isDown_0 : Cond.fieldLink RX8 89 "RichestPaysModel" "people" "I" ∈ wsX8_isDown := List.mem_of_getElem? (i := 2) rfl
theorem lnX8_isDown_1 : Cond.fieldLink RX8 34 "RichestPaysModel" "hand" "[I" ∈ wsX8_isDown := List.mem_of_getElem? (i := 1) rfl
set_option maxHeartbeats 4000000 in
set_option maxRecDepth 100000 in
theorem wX8_isDown_L26 (X : mm_X p s m args c cX8_isDown RX8 wsX8_isDown 5 D (my_ty cI cZ) t1 t2 A) (out : mm_M × Int32) (RET : ∀ (h : mm_M) (pc : Nat) (lo : List (Nat × Value)) (v : Int32), decode cX8_isDown pc = .ok (.ireturn, 1) → (v = 0 ∨ v = 1) → (h, v) = out → mm_J p l e rmX8_isDown s m args below meth c 0 0 Q D (my_w cI cZ ad) A 5 h pc lo [.int v]) (N : Nat)   (k : mm_M → Int32 → Option (mm_M × Int32)) (HK : ∀ (h : mm_M) (m3 : Int32), k h m3 = some out → mm_J p l e rmX8_isDown s m args below meth c 0 0 Q D (my_w cI cZ ad) A 5 h 67 [(3, .int m3)] []) : ∀ (n : Nat) (h : mm_M) (m3 : Int32) (m4 : Int32), fX8_isDown_L26 N k n h m3 m4 = some out → mm_J p l e rmX8_isDown s m args below meth c 0 0 Q D (my_w cI cZ ad) A 5 h 26 [(0, .ref (ad 0)), (3, .int m3), (4, .int m4)] [] := by
  intro n
  induction n with
  | zero =>
    intro h m3 m4 hf
    cases hf
  | succ n ih =>
    intro h m3 m4 hf
    rw [fX8_isDown_L26] at hf
    refine mj_iload X dX8_isDown_26 2 rfl ?_
    refine mj_aload_n X dX8_isDown_28 0 rfl ?_
    refine mj_get X inwX8_isDown_X8 (my_at my_oX8 h) rfl 2 (by decide) rfl lnX8_isDown_0 rfl dX8_isDown_29 ?_
    refine mj_icmp_ge (tgt := 67) X dX8_isDown_32 (by decide) (fun c2 => ?_) (fun c2 => ?_)
    · have hf := mm_t c2 hf
      exact mj_sub [1] rfl (HK h m3 hf)
    · have hf := mm_f c2 hf
      refine mj_iload_n X dX8_isDown_35 1 rfl ?_
      refine mj_if_eq (tgt := 59) X dX8_isDown_36 (by decide) (fun c3 => ?_) (fun c3 => ?_)
      · have hf := mm_t c3 hf
        refine mj_iconst (v := (0 : Int32)) X dX8_isDown_59 (by decide) ?_
        refine mj_istore_n (lo' := [(3, .int (0 : Int32)), (0, .ref (ad 0)), (4, .int m4)]) X dX8_isDown_60 (by decide) rfl ?_
        refine mj_iinc (k := 2) (v := (m4 + 1)) (lo' := [(4, .int (m4 + 1)), (3, .int (0 : Int32)), (0, .ref (ad 0))]) X dX8_isDown_61 rfl rfl (by decide) rfl ?_
        refine mj_goto (tgt := 26) X dX8_isDown_64 (by decide) ?_
        exact mj_sub [2, 1, 0] rfl (ih h (0 : Int32) (m4 + 1) hf)
      · have hf := mm_f c3 hf
        refine mj_aload_n X dX8_isDown_39 0 rfl ?_
        refine mj_get X inwX8_isDown_X8 (my_at my_oX8 h) rfl 10 (by decide) rfl lnX8_isDown_1 rfl dX8_isDown_40 ?_
        refine mj_iload X dX8_isDown_43 2 rfl ?_
        obtain ⟨g4, hf⟩ := mm_g hf
        refine mj_iald X 0 (my_at my_a9 h) rfl g4 dX8_isDown_45 ?_
        refine mj_aload_n X dX8_isDown_46 0 rfl ?_
        refine mj_get X inwX8_isDown_X8 (my_at my_oX8 h) rfl 10 (by decide) rfl lnX8_isDown_1 rfl dX8_isDown_47 ?_
        refine mj_iconst (v := (0 : Int32)) X dX8_isDown_50 (by decide) ?_
        refine mj_iald X 0 (my_at my_a9 h) rfl (by decide) dX8_isDown_51 ?_
        refine mj_icmp_ne (tgt := 59) X dX8_isDown_52 (by decide) (fun c5 => ?_) (fun c5 => ?_)
        · have hf := mm_f c5 hf
          refine mj_iconst (v := (0 : Int32)) X dX8_isDown_59 (by decide) ?_
          refine mj_istore_n (lo' := [(3, .int (0 : Int32)), (0, .ref (ad 0)), (4, .int m4)]) X dX8_isDown_60 (by decide) rfl ?_
          refine mj_iinc (k := 2) (v := (m4 + 1)) (lo' := [(4, .int (m4 + 1)), (3, .int (0 : Int32)), (0, .ref (ad 0))]) X dX8_isDown_61 rfl rfl (by decide) rfl ?_
          refine mj_goto (tgt := 26) X dX8_isDown_64 (by decide) ?_
          exact mj_sub [2, 1, 0] rfl (ih h (0 : Int32) (m4 + 1) hf)
        · have hf := mm_t c5 hf
          refine mj_iconst (v := (1 : Int32)) X dX8_isDown_55 (by decide) ?_
          refine mj_goto (tgt := 60) X dX8_isDown_56 (by decide) ?_
          refine mj_istore_n (lo' := [(3, .int (1 : Int32)), (0, .ref (ad 0)), (4, .int m4)]) X dX8_isDown_60 (by decide) rfl ?_
          refine mj_iinc (k := 2) (v := (m4 + 1)) (lo' := [(4, .int (m4 + 1)), (3, .int (1 : Int32)), (0, .ref (ad 0))]) X dX8_isDown_61 rfl rfl (by decide) rfl ?_
          refine mj_goto (tgt := 26) X dX8_isDown_64 (by decide) ?_
          exact mj_sub [2, 1, 0] rfl (ih h (1 : Int32) (m4 + 1) hf)
set_option maxHeartbeats 4000000 in
set_option maxRecDepth 100000 in
theorem kX8_isDown (l : Launch) (D : va_G) (t1 t2 : Nat) (cI : ClassId) (cZ : ClassId) (ad : Nat → Nat)  (N : Nat) (h : mm_M) (a0 : Int32) (a1 : Int32) (h1 : mm_M) (r : Int32) (hf : fX8_isDown N h a0 a1 = some (h1, r)) : mm_Ki l yX8_isDown wsX8_isDown rmX8_isDown D (my_ty cI cZ) t1 t2 (my_w cI cZ ad) [.ref (ad 0), .int a0, .int a1] h r h1 := by
  refine mm_open_i [.ref (ad 0), .int a0, .int a1] h r h1 RX8 (by decide) rfl rfl (Nat.le_of_ble_eq_true rfl) ?_
  intro p e s m below meth c A X hr hlocks
  have RET : ∀ (h : mm_M) (pc : Nat) (lo : List (Nat × Value)) (v : Int32), decode cX8_isDown pc = .ok (.ireturn, 1) → (v = 0 ∨ v = 1) → (h, v) = (h1, r) → mm_J p l e rmX8_isDown s m ([.ref (ad 0), .int a0, .int a1] : List Value).toArray below meth c 0 0 (MQ below (va_Qi (fun (r' : Int32) (u : mm_M) => r' = r ∧ u = h1) (mm_Post D (my_w cI cZ ad) A) A) ([.ref (ad 0), .int a0, .int a1] : List Value).toArray s 0 0 A) D (my_w cI cZ ad) A 5 h pc lo [.int v] := by
    intro h2 pc lo v hd hz he
    cases he
    exact mj_iret X hr (mm_nz hz) hlocks hd
  generalize hout : (h1, r) = out at hf RET
  unfold fX8_isDown at hf
  refine mj_lo (lo' := [(0, .ref (ad 0)), (1, .int a0), (2, .int a1)]) rfl ?_
  refine mj_iload_n X dX8_isDown_0 1 rfl ?_
  refine mj_iconst (v := (-1 : Int32)) X dX8_isDown_1 (by decide) ?_
  refine mj_icmp_eq (tgt := 21) X dX8_isDown_2 (by decide) (fun c1 => ?_) (fun c1 => ?_)
  · have hf := mm_t c1 hf
    refine mj_iconst (v := (1 : Int32)) X dX8_isDown_21 (by decide) ?_
    refine mj_istore_n (lo' := [(3, .int (1 : Int32)), (0, .ref (ad 0)), (1, .int a0), (2, .int a1)]) X dX8_isDown_22 (by decide) rfl ?_
    refine mj_iconst (v := (1 : Int32)) X dX8_isDown_23 (by decide) ?_
    refine mj_istore (lo' := [(4, .int (1 : Int32)), (3, .int (1 : Int32)), (0, .ref (ad 0)), (1, .int a0), (2, .int a1)]) X dX8_isDown_24 (by decide) rfl ?_
    refine mj_sub [2, 1, 0] rfl (wX8_isDown_L26 X out RET N _ (fun h6 v7 hf => ?_) N h (1 : Int32) (1 : Int32) hf)
    refine mj_iload_n X dX8_isDown_67 0 rfl ?_
    obtain ⟨g8, hf⟩ := mm_g hf
    exact RET h6 _ _ _ dX8_isDown_68 g8 (Option.some.inj hf)
  · have hf := mm_f c1 hf
    refine mj_aload_n X dX8_isDown_5 0 rfl ?_
    refine mj_get X inwX8_isDown_X8 (my_at my_oX8 h) rfl 10 (by decide) rfl lnX8_isDown_1 rfl dX8_isDown_6 ?_
    refine mj_iload_n X dX8_isDown_9 1 rfl ?_
    obtain ⟨g9, hf⟩ := mm_g hf
    refine mj_iald X 0 (my_at my_a9 h) rfl g9 dX8_isDown_10 ?_
    refine mj_iload_n X dX8_isDown_11 2 rfl ?_
    refine mj_icmp_ne (tgt := 19) X dX8_isDown_12 (by decide) (fun c10 => ?_) (fun c10 => ?_)
    · have hf := mm_f c10 hf
      refine mj_iconst (v := (0 : Int32)) X dX8_isDown_19 (by decide) ?_
      exact RET h _ _ _ dX8_isDown_20 (by decide) (Option.some.inj hf)
    · have hf := mm_t c10 hf
      refine mj_iconst (v := (1 : Int32)) X dX8_isDown_15 (by decide) ?_
      refine mj_goto (tgt := 20) X dX8_isDown_16 (by decide) ?_
      exact RET h _ _ _ dX8_isDown_20 (by decide) (Option.some.inj hf)
end
