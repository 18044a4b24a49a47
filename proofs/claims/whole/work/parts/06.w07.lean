section
variable {p : Program} {l : Launch} {e : Env} {s : State} {m : MethodId} {args : Array Value} {below : List Frame} {meth : Method} {c : Code} {Q : State → Prop} {D : va_G} {A : Nat → Prop} {t1 t2 : Nat} {cI cT cS cZ : ClassId} {ad : Nat → Nat}
abbrev rmX7_digest : Room := { frames := 7, cells := 0, slots := 0, locals := 166 }
theorem lnX7_digest_0 : Cond.constantLong RX7 269 (17) ∈ wsX7_digest := List.mem_of_getElem? (i := 1) rfl
theorem inwX7_digest_X7 : ∀ w ∈ wsX70, w ∈ wsX7_digest := by
  intro w hw
  have h9 : wsX70 = (wsX7_digest.drop 305).take 8 := rfl
  rw [h9] at hw
  exact List.mem_of_mem_drop (List.mem_of_mem_take hw)
theorem lnX7_digest_1 : Cond.fieldLink RX7 39 "RichestPays" "seating" "LRichestPays$Seating;" ∈ wsX7_digest := List.mem_of_getElem? (i := 2) rfl
theorem lnX7_digest_2 : Cond.fieldLink RX7 46 "RichestPays" "partings" "LRichestPays$Partings;" ∈ wsX7_digest := List.mem_of_getElem? (i := 3) rfl
theorem lnX7_digest_3 : Cond.fieldLink RX7 21 "RichestPays" "people" "LRichestPays$People;" ∈ wsX7_digest := List.mem_of_getElem? (i := 4) rfl
theorem inwX7_digest_X2 : ∀ w ∈ wsX20, w ∈ wsX7_digest := by
  intro w hw
  have h9 : wsX20 = (wsX7_digest.drop 313).take 9 := rfl
  rw [h9] at hw
  exact List.mem_of_mem_drop (List.mem_of_mem_take hw)
theorem lnX7_digest_4 : Cond.fieldLink RX7 168 "RichestPays$People" "number" "I" ∈ wsX7_digest := List.mem_of_getElem? (i := 5) rfl
theorem lnX7_digest_5 : Cond.fieldLink RX7 30 "RichestPays" "evening" "LRichestPays$Evening;" ∈ wsX7_digest := List.mem_of_getElem? (i := 6) rfl
theorem inwX7_digest_X0 : ∀ w ∈ wsX00, w ∈ wsX7_digest := by
  intro w hw
  have h9 : wsX00 = (wsX7_digest.drop 322).take 11 := rfl
  rw [h9] at hw
  exact List.mem_of_mem_drop (List.mem_of_mem_take hw)
theorem lnX7_digest_6 : Cond.fieldLink RX7 144 "RichestPays$Evening" "rounds" "I" ∈ wsX7_digest := List.mem_of_getElem? (i := 7) rfl
theorem inwX7_digest_X3 : ∀ w ∈ wsX30, w ∈ wsX7_digest := by
  intro w hw
  have h9 : wsX30 = (wsX7_digest.drop 333).take 10 := rfl
  rw [h9] at hw
  exact List.mem_of_mem_drop (List.mem_of_mem_take hw)
theorem lnX7_digest_7 : Cond.fieldLink RX7 188 "RichestPays$Seating" "restRows" "I" ∈ wsX7_digest := List.mem_of_getElem? (i := 8) rfl
set_option maxHeartbeats 4000000 in
set_option maxRecDepth 100000 in
theorem wX7_digest_L6 (X : mm_X p s m args c cX7_digest RX7 wsX7_digest 4 D (mx_ty cI cT cS) t1 t2 A) (out : mm_M × Int64) (RET : ∀ (h : mm_M) (pc : Nat) (lo : List (Nat × Value)) (v : Int64), decode cX7_digest pc = .ok (.lreturn, 1) → (h, v) = out → mm_J p l e rmX7_digest s m args below meth c 0 0 Q D (mx_w cI cT cS ad) A 4 h pc lo [.long v]) (N : Nat)   (k : mm_M → Int64 → Option (mm_M × Int64)) (HK : ∀ (h : mm_M) (m1 : Int64), k h m1 = some out → mm_J p l e rmX7_digest s m args below meth c 0 0 Q D (mx_w cI cT cS ad) A 4 h 29 [(0, .ref (ad 0)), (1, .long m1)] []) : ∀ (n : Nat) (h : mm_M) (m1 : Int64) (m3 : Int32), fX7_digest_L6 N k n h m1 m3 = some out → mm_J p l e rmX7_digest s m args below meth c 0 0 Q D (mx_w cI cT cS ad) A 4 h 6 [(0, .ref (ad 0)), (1, .long m1), (3, .int m3)] [] := by
  intro n
  induction n with
  | zero =>
    intro h m1 m3 hf
    cases hf
  | succ n ih =>
    intro h m1 m3 hf
    rw [fX7_digest_L6] at hf
    refine mj_iload_n X dX7_digest_6 2 rfl ?_
    refine mj_bipush (v := (7 : Int32)) X dX7_digest_7 (by decide) ?_
    refine mj_icmp_gt (tgt := 29) X dX7_digest_9 (by decide) (fun c1 => ?_) (fun c1 => ?_)
    · have hf := mm_t c1 hf
      exact mj_sub [0, 1] rfl (HK h m1 hf)
    · have hf := mm_f c1 hf
      refine mj_lload_n X dX7_digest_12 1 rfl ?_
      refine mj_aload_n X dX7_digest_13 0 rfl ?_
      refine mj_iload_n X dX7_digest_14 2 rfl ?_
      obtain ⟨h2, r3, q4, hf⟩ := mm_c hf
      refine mj_callVi (As := [.int m3]) (rest := [.long m1]) X (kX7_count l D t1 t2 cI cT cS ad N h m3 h2 r3 q4) (cwV 1 X.2.2.2.2.1 gX7_digest_X7_count rfl rfl rfl (by decide +kernel) ⟨Nat.le_of_ble_eq_true rfl, Nat.le_of_ble_eq_true rfl⟩) (mx_at mx_oX7 h) rfl rfl rfl rfl (Nat.le_of_ble_eq_true rfl) ⟨Nat.zero_le _, Nat.zero_le _⟩ dX7_digest_15 ?_
      refine mj_i2l X dX7_digest_18 ?_
      obtain ⟨h5, r6, q7, hf⟩ := mm_c hf
      refine mj_callSl (As := [.long m1, .long r3.toInt64]) (rest := []) X (kX7_mixed l D t1 t2 cI cT cS ad N h2 m1 (r3.toInt64) h5 r6 q7) (va_cwS 2 X.2.2.2.2.1 gX7_digest_X7_mixed rfl rfl rfl (by decide +kernel) ⟨Nat.le_of_ble_eq_true rfl, Nat.le_of_ble_eq_true rfl⟩) rfl rfl (Nat.le_of_ble_eq_true rfl) ⟨Nat.zero_le _, Nat.zero_le _⟩ dX7_digest_19 ?_
      refine mj_lstore_n (lo' := [(1, .long r6), (0, .ref (ad 0)), (3, .int m3)]) X dX7_digest_22 (by decide) rfl ?_
      refine mj_iinc (k := 2) (v := (m3 + 1)) (lo' := [(3, .int (m3 + 1)), (1, .long r6), (0, .ref (ad 0))]) X dX7_digest_23 rfl rfl (by decide) rfl ?_
      refine mj_goto (tgt := 6) X dX7_digest_26 (by decide) ?_
      exact mj_sub [2, 1, 0] rfl (ih h5 r6 (m3 + 1) hf)
set_option maxHeartbeats 4000000 in
set_option maxRecDepth 100000 in
theorem wX7_digest_L65 (X : mm_X p s m args c cX7_digest RX7 wsX7_digest 4 D (mx_ty cI cT cS) t1 t2 A) (out : mm_M × Int64) (RET : ∀ (h : mm_M) (pc : Nat) (lo : List (Nat × Value)) (v : Int64), decode cX7_digest pc = .ok (.lreturn, 1) → (h, v) = out → mm_J p l e rmX7_digest s m args below meth c 0 0 Q D (mx_w cI cT cS ad) A 4 h pc lo [.long v]) (N : Nat)   (k : mm_M → Int64 → Option (mm_M × Int64)) (HK : ∀ (h : mm_M) (m1 : Int64), k h m1 = some out → mm_J p l e rmX7_digest s m args below meth c 0 0 Q D (mx_w cI cT cS ad) A 4 h 89 [(0, .ref (ad 0)), (1, .long m1)] []) : ∀ (n : Nat) (h : mm_M) (m1 : Int64) (m3 : Int32), fX7_digest_L65 N k n h m1 m3 = some out → mm_J p l e rmX7_digest s m args below meth c 0 0 Q D (mx_w cI cT cS ad) A 4 h 65 [(0, .ref (ad 0)), (1, .long m1), (3, .int m3)] [] := by
  intro n
  induction n with
  | zero =>
    intro h m1 m3 hf
    cases hf
  | succ n ih =>
    intro h m1 m3 hf
    rw [fX7_digest_L65] at hf
    refine mj_iload_n X dX7_digest_65 2 rfl ?_
    refine mj_aload_n X dX7_digest_66 0 rfl ?_
    refine mj_get X inwX7_digest_X7 (mx_at mx_oX7 h) rfl 1 (by decide) rfl lnX7_digest_3 rfl dX7_digest_67 ?_
    refine mj_get X inwX7_digest_X2 (mx_at mx_oX2 h) rfl 5 (by decide) rfl lnX7_digest_4 rfl dX7_digest_70 ?_
    refine mj_icmp_ge (tgt := 89) X dX7_digest_73 (by decide) (fun c28 => ?_) (fun c28 => ?_)
    · have hf := mm_t c28 hf
      exact mj_sub [0, 1] rfl (HK h m1 hf)
    · have hf := mm_f c28 hf
      refine mj_aload_n X dX7_digest_76 0 rfl ?_
      refine mj_lload_n X dX7_digest_77 1 rfl ?_
      refine mj_iload_n X dX7_digest_78 2 rfl ?_
      obtain ⟨h29, r30, q31, hf⟩ := mm_c hf
      refine mj_callVl (As := [.long m1, .int m3]) (rest := []) X (kX7_mixedPerson l D t1 t2 cI cT cS ad N h m1 m3 h29 r30 q31) (cwV 2 X.2.2.2.2.1 gX7_digest_X7_mixedPerson rfl rfl rfl (by decide +kernel) ⟨Nat.le_of_ble_eq_true rfl, Nat.le_of_ble_eq_true rfl⟩) (mx_at mx_oX7 h) rfl rfl rfl rfl (Nat.le_of_ble_eq_true rfl) ⟨Nat.zero_le _, Nat.zero_le _⟩ dX7_digest_79 ?_
      refine mj_lstore_n (lo' := [(1, .long r30), (0, .ref (ad 0)), (3, .int m3)]) X dX7_digest_82 (by decide) rfl ?_
      refine mj_iinc (k := 2) (v := (m3 + 1)) (lo' := [(3, .int (m3 + 1)), (1, .long r30), (0, .ref (ad 0))]) X dX7_digest_83 rfl rfl (by decide) rfl ?_
      refine mj_goto (tgt := 65) X dX7_digest_86 (by decide) ?_
      exact mj_sub [2, 1, 0] rfl (ih h29 r30 (m3 + 1) hf)
set_option maxHeartbeats 4000000 in
set_option maxRecDepth 100000 in
theorem wX7_digest_L91 (X : mm_X p s m args c cX7_digest RX7 wsX7_digest 4 D (mx_ty cI cT cS) t1 t2 A) (out : mm_M × Int64) (RET : ∀ (h : mm_M) (pc : Nat) (lo : List (Nat × Value)) (v : Int64), decode cX7_digest pc = .ok (.lreturn, 1) → (h, v) = out → mm_J p l e rmX7_digest s m args below meth c 0 0 Q D (mx_w cI cT cS ad) A 4 h pc lo [.long v]) (N : Nat)   (k : mm_M → Int64 → Option (mm_M × Int64)) (HK : ∀ (h : mm_M) (m1 : Int64), k h m1 = some out → mm_J p l e rmX7_digest s m args below meth c 0 0 Q D (mx_w cI cT cS ad) A 4 h 115 [(0, .ref (ad 0)), (1, .long m1)] []) : ∀ (n : Nat) (h : mm_M) (m1 : Int64) (m3 : Int32), fX7_digest_L91 N k n h m1 m3 = some out → mm_J p l e rmX7_digest s m args below meth c 0 0 Q D (mx_w cI cT cS ad) A 4 h 91 [(0, .ref (ad 0)), (1, .long m1), (3, .int m3)] [] := by
  intro n
  induction n with
  | zero =>
    intro h m1 m3 hf
    cases hf
  | succ n ih =>
    intro h m1 m3 hf
    rw [fX7_digest_L91] at hf
    refine mj_iload_n X dX7_digest_91 2 rfl ?_
    refine mj_aload_n X dX7_digest_92 0 rfl ?_
    refine mj_get X inwX7_digest_X7 (mx_at mx_oX7 h) rfl 2 (by decide) rfl lnX7_digest_5 rfl dX7_digest_93 ?_
    refine mj_get X inwX7_digest_X0 (mx_at mx_oX0 h) rfl 9 (by decide) rfl lnX7_digest_6 rfl dX7_digest_96 ?_
    refine mj_icmp_ge (tgt := 115) X dX7_digest_99 (by decide) (fun c34 => ?_) (fun c34 => ?_)
    · have hf := mm_t c34 hf
      exact mj_sub [0, 1] rfl (HK h m1 hf)
    · have hf := mm_f c34 hf
      refine mj_aload_n X dX7_digest_102 0 rfl ?_
      refine mj_lload_n X dX7_digest_103 1 rfl ?_
      refine mj_iload_n X dX7_digest_104 2 rfl ?_
      obtain ⟨h35, r36, q37, hf⟩ := mm_c hf
      refine mj_callVl (As := [.long m1, .int m3]) (rest := []) X (kX7_mixedRound l D t1 t2 cI cT cS ad N h m1 m3 h35 r36 q37) (cwV 2 X.2.2.2.2.1 gX7_digest_X7_mixedRound rfl rfl rfl (by decide +kernel) ⟨Nat.le_of_ble_eq_true rfl, Nat.le_of_ble_eq_true rfl⟩) (mx_at mx_oX7 h) rfl rfl rfl rfl (Nat.le_of_ble_eq_true rfl) ⟨Nat.zero_le _, Nat.zero_le _⟩ dX7_digest_105 ?_
      refine mj_lstore_n (lo' := [(1, .long r36), (0, .ref (ad 0)), (3, .int m3)]) X dX7_digest_108 (by decide) rfl ?_
      refine mj_iinc (k := 2) (v := (m3 + 1)) (lo' := [(3, .int (m3 + 1)), (1, .long r36), (0, .ref (ad 0))]) X dX7_digest_109 rfl rfl (by decide) rfl ?_
      refine mj_goto (tgt := 91) X dX7_digest_112 (by decide) ?_
      exact mj_sub [2, 1, 0] rfl (ih h35 r36 (m3 + 1) hf)
set_option maxHeartbeats 4000000 in
set_option maxRecDepth 100000 in
theorem kX7_digest (l : Launch) (D : va_G) (t1 t2 : Nat) (cI : ClassId) (cT : ClassId) (cS : ClassId) (ad : Nat → Nat)  (N : Nat) (h : mm_M)  (h1 : mm_M) (r : Int64) (hf : fX7_digest N h = some (h1, r)) : mm_Kl l yX7_digest wsX7_digest rmX7_digest D (mx_ty cI cT cS) t1 t2 (mx_w cI cT cS ad) [.ref (ad 0)] h r h1 := by
  refine mm_open_l [.ref (ad 0)] h r h1 RX7 (by decide) rfl rfl (Nat.le_of_ble_eq_true rfl) ?_
  intro p e s m below meth c A X hr hlocks
  have RET : ∀ (h : mm_M) (pc : Nat) (lo : List (Nat × Value)) (v : Int64), decode cX7_digest pc = .ok (.lreturn, 1) → (h, v) = (h1, r) → mm_J p l e rmX7_digest s m ([.ref (ad 0)] : List Value).toArray below meth c 0 0 (MQ below (va_Ql (fun (r' : Int64) (u : mm_M) => r' = r ∧ u = h1) (mm_Post D (mx_w cI cT cS ad) A) A) ([.ref (ad 0)] : List Value).toArray s 0 0 A) D (mx_w cI cT cS ad) A 4 h pc lo [.long v] := by
    intro h2 pc lo v hd he
    cases he
    exact mj_lret X hr hlocks hd
  generalize hout : (h1, r) = out at hf RET
  unfold fX7_digest at hf
  refine mj_lo (lo' := [(0, .ref (ad 0))]) rfl ?_
  refine mj_ldc2 (v := (17 : Int64)) X lnX7_digest_0 dX7_digest_0 ?_
  refine mj_lstore_n (lo' := [(1, .long (17 : Int64)), (0, .ref (ad 0))]) X dX7_digest_3 (by decide) rfl ?_
  refine mj_iconst (v := (0 : Int32)) X dX7_digest_4 (by decide) ?_
  refine mj_istore_n (lo' := [(3, .int (0 : Int32)), (1, .long (17 : Int64)), (0, .ref (ad 0))]) X dX7_digest_5 (by decide) rfl ?_
  refine mj_sub [2, 1, 0] rfl (wX7_digest_L6 X out RET N _ (fun h8 v9 hf => ?_) N h (17 : Int64) (0 : Int32) hf)
  refine mj_lload_n X dX7_digest_29 1 rfl ?_
  refine mj_aload_n X dX7_digest_30 0 rfl ?_
  refine mj_iconst (v := (0 : Int32)) X dX7_digest_31 (by decide) ?_
  obtain ⟨h10, r11, q12, hf⟩ := mm_c hf
  refine mj_callVi (As := [.int (0 : Int32)]) (rest := [.long v9]) X (kX7_fault l D t1 t2 cI cT cS ad N h8 (0 : Int32) h10 r11 q12) (cwV 1 X.2.2.2.2.1 gX7_digest_X7_fault rfl rfl rfl (by decide +kernel) ⟨Nat.le_of_ble_eq_true rfl, Nat.le_of_ble_eq_true rfl⟩) (mx_at mx_oX7 h8) rfl rfl rfl rfl (Nat.le_of_ble_eq_true rfl) ⟨Nat.zero_le _, Nat.zero_le _⟩ dX7_digest_32 ?_
  refine mj_i2l X dX7_digest_35 ?_
  obtain ⟨h13, r14, q15, hf⟩ := mm_c hf
  refine mj_callSl (As := [.long v9, .long r11.toInt64]) (rest := []) X (kX7_mixed l D t1 t2 cI cT cS ad N h10 v9 (r11.toInt64) h13 r14 q15) (va_cwS 2 X.2.2.2.2.1 gX7_digest_X7_mixed rfl rfl rfl (by decide +kernel) ⟨Nat.le_of_ble_eq_true rfl, Nat.le_of_ble_eq_true rfl⟩) rfl rfl (Nat.le_of_ble_eq_true rfl) ⟨Nat.zero_le _, Nat.zero_le _⟩ dX7_digest_36 ?_
  refine mj_aload_n X dX7_digest_39 0 rfl ?_
  refine mj_iconst (v := (1 : Int32)) X dX7_digest_40 (by decide) ?_
  obtain ⟨h16, r17, q18, hf⟩ := mm_c hf
  refine mj_callVi (As := [.int (1 : Int32)]) (rest := [.long r14]) X (kX7_fault l D t1 t2 cI cT cS ad N h13 (1 : Int32) h16 r17 q18) (cwV 1 X.2.2.2.2.1 gX7_digest_X7_fault rfl rfl rfl (by decide +kernel) ⟨Nat.le_of_ble_eq_true rfl, Nat.le_of_ble_eq_true rfl⟩) (mx_at mx_oX7 h13) rfl rfl rfl rfl (Nat.le_of_ble_eq_true rfl) ⟨Nat.zero_le _, Nat.zero_le _⟩ dX7_digest_41 ?_
  refine mj_i2l X dX7_digest_44 ?_
  obtain ⟨h19, r20, q21, hf⟩ := mm_c hf
  refine mj_callSl (As := [.long r14, .long r17.toInt64]) (rest := []) X (kX7_mixed l D t1 t2 cI cT cS ad N h16 r14 (r17.toInt64) h19 r20 q21) (va_cwS 2 X.2.2.2.2.1 gX7_digest_X7_mixed rfl rfl rfl (by decide +kernel) ⟨Nat.le_of_ble_eq_true rfl, Nat.le_of_ble_eq_true rfl⟩) rfl rfl (Nat.le_of_ble_eq_true rfl) ⟨Nat.zero_le _, Nat.zero_le _⟩ dX7_digest_45 ?_
  refine mj_lstore_n (lo' := [(1, .long r20), (0, .ref (ad 0))]) X dX7_digest_48 (by decide) rfl ?_
  refine mj_aload_n X dX7_digest_49 1 rfl ?_
  refine mj_get X inwX7_digest_X7 (mx_at mx_oX7 h19) rfl 3 (by decide) rfl lnX7_digest_1 rfl dX7_digest_50 ?_
  obtain ⟨h22, r23, q24, hf⟩ := mm_c hf
  refine mj_callVv (As := []) (rest := []) X (kX3_findRests l D t1 t2 cI cT cS ad N h19 h22 r23 q24) (cwV 0 X.2.2.2.2.1 gX7_digest_X3_findRests rfl rfl rfl (by decide +kernel) ⟨Nat.le_of_ble_eq_true rfl, Nat.le_of_ble_eq_true rfl⟩) (mx_at mx_oX3 h19) rfl rfl rfl rfl (Nat.le_of_ble_eq_true rfl) ⟨Nat.zero_le _, Nat.zero_le _⟩ dX7_digest_53 ?_
  refine mj_aload_n X dX7_digest_56 1 rfl ?_
  refine mj_get X inwX7_digest_X7 (mx_at mx_oX7 h22) rfl 4 (by decide) rfl lnX7_digest_2 rfl dX7_digest_57 ?_
  obtain ⟨h25, r26, q27, hf⟩ := mm_c hf
  refine mj_callVv (As := []) (rest := []) X (kX1_follow l D t1 t2 cI cT cS ad N h22 h25 r26 q27) (cwV 0 X.2.2.2.2.1 gX7_digest_X1_follow rfl rfl rfl (by decide +kernel) ⟨Nat.le_of_ble_eq_true rfl, Nat.le_of_ble_eq_true rfl⟩) (mx_at mx_oX1 h22) rfl rfl rfl rfl (Nat.le_of_ble_eq_true rfl) ⟨Nat.zero_le _, Nat.zero_le _⟩ dX7_digest_60 ?_
  refine mj_iconst (v := (0 : Int32)) X dX7_digest_63 (by decide) ?_
  refine mj_istore_n (lo' := [(3, .int (0 : Int32)), (1, .long r20), (0, .ref (ad 0))]) X dX7_digest_64 (by decide) rfl ?_
  refine mj_sub [2, 1, 0] rfl (wX7_digest_L65 X out RET N _ (fun h32 v33 hf => ?_) N h25 r20 (0 : Int32) hf)
  refine mj_iconst (v := (0 : Int32)) X dX7_digest_89 (by decide) ?_
  refine mj_istore_n (lo' := [(3, .int (0 : Int32)), (0, .ref (ad 0)), (1, .long v33)]) X dX7_digest_90 (by decide) rfl ?_
  refine mj_sub [1, 2, 0] rfl (wX7_digest_L91 X out RET N _ (fun h38 v39 hf => ?_) N h32 v33 (0 : Int32) hf)
  refine mj_lload_n X dX7_digest_115 1 rfl ?_
  refine mj_aload_n X dX7_digest_116 0 rfl ?_
  obtain ⟨h40, r41, q42, hf⟩ := mm_c hf
  refine mj_callVi (As := []) (rest := [.long v39]) X (kX7_beggars l D t1 t2 cI cT cS ad N h38 h40 r41 q42) (cwV 0 X.2.2.2.2.1 gX7_digest_X7_beggars rfl rfl rfl (by decide +kernel) ⟨Nat.le_of_ble_eq_true rfl, Nat.le_of_ble_eq_true rfl⟩) (mx_at mx_oX7 h38) rfl rfl rfl rfl (Nat.le_of_ble_eq_true rfl) ⟨Nat.zero_le _, Nat.zero_le _⟩ dX7_digest_117 ?_
  refine mj_i2l X dX7_digest_120 ?_
  obtain ⟨h43, r44, q45, hf⟩ := mm_c hf
  refine mj_callSl (As := [.long v39, .long r41.toInt64]) (rest := []) X (kX7_mixed l D t1 t2 cI cT cS ad N h40 v39 (r41.toInt64) h43 r44 q45) (va_cwS 2 X.2.2.2.2.1 gX7_digest_X7_mixed rfl rfl rfl (by decide +kernel) ⟨Nat.le_of_ble_eq_true rfl, Nat.le_of_ble_eq_true rfl⟩) rfl rfl (Nat.le_of_ble_eq_true rfl) ⟨Nat.zero_le _, Nat.zero_le _⟩ dX7_digest_121 ?_
  refine mj_aload_n X dX7_digest_124 0 rfl ?_
  refine mj_get X inwX7_digest_X7 (mx_at mx_oX7 h43) rfl 3 (by decide) rfl lnX7_digest_1 rfl dX7_digest_125 ?_
  refine mj_get X inwX7_digest_X3 (mx_at mx_oX3 h43) rfl 8 (by decide) rfl lnX7_digest_7 rfl dX7_digest_128 ?_
  refine mj_i2l X dX7_digest_131 ?_
  obtain ⟨h46, r47, q48, hf⟩ := mm_c hf
  refine mj_callSl (As := [.long r44, .long (h43 21 8).toInt64]) (rest := []) X (kX7_mixed l D t1 t2 cI cT cS ad N h43 r44 ((h43 21 8).toInt64) h46 r47 q48) (va_cwS 2 X.2.2.2.2.1 gX7_digest_X7_mixed rfl rfl rfl (by decide +kernel) ⟨Nat.le_of_ble_eq_true rfl, Nat.le_of_ble_eq_true rfl⟩) rfl rfl (Nat.le_of_ble_eq_true rfl) ⟨Nat.zero_le _, Nat.zero_le _⟩ dX7_digest_132 ?_
  refine mj_lstore_n (lo' := [(1, .long r47), (0, .ref (ad 0))]) X dX7_digest_135 (by decide) rfl ?_
  refine mj_lload_n X dX7_digest_136 0 rfl ?_
  refine mj_aload_n X dX7_digest_137 1 rfl ?_
  refine mj_get X inwX7_digest_X7 (mx_at mx_oX7 h46) rfl 4 (by decide) rfl lnX7_digest_2 rfl dX7_digest_138 ?_
  obtain ⟨h49, r50, q51, hf⟩ := mm_c hf
  refine mj_callVi (As := []) (rest := [.long r47]) X (kX1_fewestAlike l D t1 t2 cI cT cS ad N h46 h49 r50 q51) (cwV 0 X.2.2.2.2.1 gX7_digest_X1_fewestAlike rfl rfl rfl (by decide +kernel) ⟨Nat.le_of_ble_eq_true rfl, Nat.le_of_ble_eq_true rfl⟩) (mx_at mx_oX1 h46) rfl rfl rfl rfl (Nat.le_of_ble_eq_true rfl) ⟨Nat.zero_le _, Nat.zero_le _⟩ dX7_digest_141 ?_
  refine mj_i2l X dX7_digest_144 ?_
  obtain ⟨h52, r53, q54, hf⟩ := mm_c hf
  refine mj_callSl (As := [.long r47, .long r50.toInt64]) (rest := []) X (kX7_mixed l D t1 t2 cI cT cS ad N h49 r47 (r50.toInt64) h52 r53 q54) (va_cwS 2 X.2.2.2.2.1 gX7_digest_X7_mixed rfl rfl rfl (by decide +kernel) ⟨Nat.le_of_ble_eq_true rfl, Nat.le_of_ble_eq_true rfl⟩) rfl rfl (Nat.le_of_ble_eq_true rfl) ⟨Nat.zero_le _, Nat.zero_le _⟩ dX7_digest_145 ?_
  refine mj_aload_n X dX7_digest_148 1 rfl ?_
  obtain ⟨h55, r56, q57, hf⟩ := mm_c hf
  refine mj_callVi (As := []) (rest := [.long r53]) X (kX7_unlike l D t1 t2 cI cT cS ad N h52 h55 r56 q57) (cwV 0 X.2.2.2.2.1 gX7_digest_X7_unlike rfl rfl rfl (by decide +kernel) ⟨Nat.le_of_ble_eq_true rfl, Nat.le_of_ble_eq_true rfl⟩) (mx_at mx_oX7 h52) rfl rfl rfl rfl (Nat.le_of_ble_eq_true rfl) ⟨Nat.zero_le _, Nat.zero_le _⟩ dX7_digest_149 ?_
  refine mj_i2l X dX7_digest_152 ?_
  obtain ⟨h58, r59, q60, hf⟩ := mm_c hf
  refine mj_callSl (As := [.long r53, .long r56.toInt64]) (rest := []) X (kX7_mixed l D t1 t2 cI cT cS ad N h55 r53 (r56.toInt64) h58 r59 q60) (va_cwS 2 X.2.2.2.2.1 gX7_digest_X7_mixed rfl rfl rfl (by decide +kernel) ⟨Nat.le_of_ble_eq_true rfl, Nat.le_of_ble_eq_true rfl⟩) rfl rfl (Nat.le_of_ble_eq_true rfl) ⟨Nat.zero_le _, Nat.zero_le _⟩ dX7_digest_153 ?_
  refine mj_lstore_n (lo' := [(1, .long r59), (0, .ref (ad 0))]) X dX7_digest_156 (by decide) rfl ?_
  refine mj_lload_n X dX7_digest_157 0 rfl ?_
  refine mj_aload_n X dX7_digest_158 1 rfl ?_
  refine mj_iconst (v := (2 : Int32)) X dX7_digest_159 (by decide) ?_
  refine mj_bipush (v := (30 : Int32)) X dX7_digest_160 (by decide) ?_
  refine mj_bipush (v := (50 : Int32)) X dX7_digest_162 (by decide) ?_
  refine mj_iconst (v := (0 : Int32)) X dX7_digest_164 (by decide) ?_
  obtain ⟨h61, r62, q63, hf⟩ := mm_c hf
  refine mj_callVl (As := [.int (2 : Int32), .int (30 : Int32), .int (50 : Int32), .int (0 : Int32)]) (rest := [.long r59]) X (kX7_luck l D t1 t2 cI cT cS ad N h58 (2 : Int32) (30 : Int32) (50 : Int32) (0 : Int32) h61 r62 q63) (cwV 4 X.2.2.2.2.1 gX7_digest_X7_luck rfl rfl rfl (by decide +kernel) ⟨Nat.le_of_ble_eq_true rfl, Nat.le_of_ble_eq_true rfl⟩) (mx_at mx_oX7 h58) rfl rfl rfl rfl (Nat.le_of_ble_eq_true rfl) ⟨Nat.zero_le _, Nat.zero_le _⟩ dX7_digest_165 ?_
  obtain ⟨h64, r65, q66, hf⟩ := mm_c hf
  refine mj_callSl (As := [.long r59, .long r62]) (rest := []) X (kX7_mixed l D t1 t2 cI cT cS ad N h61 r59 r62 h64 r65 q66) (va_cwS 2 X.2.2.2.2.1 gX7_digest_X7_mixed rfl rfl rfl (by decide +kernel) ⟨Nat.le_of_ble_eq_true rfl, Nat.le_of_ble_eq_true rfl⟩) rfl rfl (Nat.le_of_ble_eq_true rfl) ⟨Nat.zero_le _, Nat.zero_le _⟩ dX7_digest_168 ?_
  refine mj_aload_n X dX7_digest_171 1 rfl ?_
  refine mj_iconst (v := (2 : Int32)) X dX7_digest_172 (by decide) ?_
  refine mj_bipush (v := (30 : Int32)) X dX7_digest_173 (by decide) ?_
  refine mj_bipush (v := (50 : Int32)) X dX7_digest_175 (by decide) ?_
  refine mj_iconst (v := (1 : Int32)) X dX7_digest_177 (by decide) ?_
  obtain ⟨h67, r68, q69, hf⟩ := mm_c hf
  refine mj_callVl (As := [.int (2 : Int32), .int (30 : Int32), .int (50 : Int32), .int (1 : Int32)]) (rest := [.long r65]) X (kX7_luck l D t1 t2 cI cT cS ad N h64 (2 : Int32) (30 : Int32) (50 : Int32) (1 : Int32) h67 r68 q69) (cwV 4 X.2.2.2.2.1 gX7_digest_X7_luck rfl rfl rfl (by decide +kernel) ⟨Nat.le_of_ble_eq_true rfl, Nat.le_of_ble_eq_true rfl⟩) (mx_at mx_oX7 h64) rfl rfl rfl rfl (Nat.le_of_ble_eq_true rfl) ⟨Nat.zero_le _, Nat.zero_le _⟩ dX7_digest_178 ?_
  obtain ⟨h70, r71, q72, hf⟩ := mm_c hf
  refine mj_callSl (As := [.long r65, .long r68]) (rest := []) X (kX7_mixed l D t1 t2 cI cT cS ad N h67 r65 r68 h70 r71 q72) (va_cwS 2 X.2.2.2.2.1 gX7_digest_X7_mixed rfl rfl rfl (by decide +kernel) ⟨Nat.le_of_ble_eq_true rfl, Nat.le_of_ble_eq_true rfl⟩) rfl rfl (Nat.le_of_ble_eq_true rfl) ⟨Nat.zero_le _, Nat.zero_le _⟩ dX7_digest_181 ?_
  exact RET h70 _ _ _ dX7_digest_184 (Option.some.inj hf)
abbrev rmX8_in : Room := { frames := 0, cells := 0, slots := 0, locals := 0 }
set_option maxHeartbeats 4000000 in
set_option maxRecDepth 100000 in
theorem kX8_in (l : Launch) (D : va_G) (t1 t2 : Nat) (cI : ClassId) (cZ : ClassId) (ad : Nat → Nat)  (N : Nat) (h : mm_M) (a0 : Int32) (a1 : Int32) (a2 : Int32) (h1 : mm_M) (r : Int32) (hf : fX8_in N h a0 a1 a2 = some (h1, r)) : mm_Ki l yX8_in wsX8_in rmX8_in D (my_ty cI cZ) t1 t2 (my_w cI cZ ad) [.int a0, .int a1, .int a2] h r h1 := by
  refine mm_open_i [.int a0, .int a1, .int a2] h r h1 RX8 (by decide) rfl rfl (Nat.le_of_ble_eq_true rfl) ?_
  intro p e s m below meth c A X hr hlocks
  have RET : ∀ (h : mm_M) (pc : Nat) (lo : List (Nat × Value)) (v : Int32), decode cX8_in pc = .ok (.ireturn, 1) → (v = 0 ∨ v = 1) → (h, v) = (h1, r) → mm_J p l e rmX8_in s m ([.int a0, .int a1, .int a2] : List Value).toArray below meth c 0 0 (MQ below (va_Qi (fun (r' : Int32) (u : mm_M) => r' = r ∧ u = h1) (mm_Post D (my_w cI cZ ad) A) A) ([.int a0, .int a1, .int a2] : List Value).toArray s 0 0 A) D (my_w cI cZ ad) A 3 h pc lo [.int v] := by
    intro h2 pc lo v hd hz he
    cases he
    exact mj_iret X hr (mm_nz hz) hlocks hd
  generalize hout : (h1, r) = out at hf RET
  unfold fX8_in at hf
  refine mj_lo (lo' := [(0, .int a0), (1, .int a1), (2, .int a2)]) rfl ?_
  refine mj_iload_n X dX8_in_0 0 rfl ?_
  refine mj_iload_n X dX8_in_1 1 rfl ?_
  refine mj_icmp_lt (tgt := 14) X dX8_in_2 (by decide) (fun c1 => ?_) (fun c1 => ?_)
  · have hf := mm_t c1 hf
    refine mj_iconst (v := (0 : Int32)) X dX8_in_14 (by decide) ?_
    exact RET h _ _ _ dX8_in_15 (by decide) (Option.some.inj hf)
  · have hf := mm_f c1 hf
    refine mj_iload_n X dX8_in_5 0 rfl ?_
    refine mj_iload_n X dX8_in_6 2 rfl ?_
    refine mj_icmp_gt (tgt := 14) X dX8_in_7 (by decide) (fun c2 => ?_) (fun c2 => ?_)
    · have hf := mm_t c2 hf
      refine mj_iconst (v := (0 : Int32)) X dX8_in_14 (by decide) ?_
      exact RET h _ _ _ dX8_in_15 (by decide) (Option.some.inj hf)
    · have hf := mm_f c2 hf
      refine mj_iconst (v := (1 : Int32)) X dX8_in_10 (by decide) ?_
      refine mj_goto (tgt := 15) X dX8_in_11 (by decide) ?_
      exact RET h _ _ _ dX8_in_15 (by decide) (Option.some.inj hf)
abbrev rmX8_no : Room := { frames := 0, cells := 0, slots := 0, locals := 0 }
theorem lnX8_no_0 : Cond.constantLong RX8 83 (-9223372036854775808) ∈ wsX8_no := List.mem_of_getElem? (i := 1) rfl
set_option maxHeartbeats 4000000 in
set_option maxRecDepth 100000 in
theorem kX8_no (l : Launch) (D : va_G) (t1 t2 : Nat) (cI : ClassId) (cZ : ClassId) (ad : Nat → Nat)  (N : Nat) (h : mm_M) (a0 : Int32) (h1 : mm_M) (r : Int64) (hf : fX8_no N h a0 = some (h1, r)) : mm_Kl l yX8_no wsX8_no rmX8_no D (my_ty cI cZ) t1 t2 (my_w cI cZ ad) [.int a0] h r h1 := by
  refine mm_open_l [.int a0] h r h1 RX8 (by decide) rfl rfl (Nat.le_of_ble_eq_true rfl) ?_
  intro p e s m below meth c A X hr hlocks
  have RET : ∀ (h : mm_M) (pc : Nat) (lo : List (Nat × Value)) (v : Int64), decode cX8_no pc = .ok (.lreturn, 1) → (h, v) = (h1, r) → mm_J p l e rmX8_no s m ([.int a0] : List Value).toArray below meth c 0 0 (MQ below (va_Ql (fun (r' : Int64) (u : mm_M) => r' = r ∧ u = h1) (mm_Post D (my_w cI cZ ad) A) A) ([.int a0] : List Value).toArray s 0 0 A) D (my_w cI cZ ad) A 1 h pc lo [.long v] := by
    intro h2 pc lo v hd he
    cases he
    exact mj_lret X hr hlocks hd
  generalize hout : (h1, r) = out at hf RET
  unfold fX8_no at hf
  refine mj_lo (lo' := [(0, .int a0)]) rfl ?_
  refine mj_ldc2 (v := (-9223372036854775808 : Int64)) X lnX8_no_0 dX8_no_0 ?_
  refine mj_iload_n X dX8_no_3 0 rfl ?_
  refine mj_i2l X dX8_no_4 ?_
  refine mj_lsub X dX8_no_5 ?_
  exact RET h _ _ _ dX8_no_6 (Option.some.inj hf)
abbrev rmX8_lowest : Room := { frames := 0, cells := 0, slots := 0, locals := 0 }
set_option maxHeartbeats 4000000 in
set_option maxRecDepth 100000 in
theorem wX8_lowest_L6 (X : mm_X p s m args c cX8_lowest RX8 wsX8_lowest 11 D (my_ty cI cZ) t1 t2 A) (out : mm_M × Int64) (RET : ∀ (h : mm_M) (pc : Nat) (lo : List (Nat × Value)) (v : Int64), decode cX8_lowest pc = .ok (.lreturn, 1) → (h, v) = out → mm_J p l e rmX8_lowest s m args below meth c 0 0 Q D (my_w cI cZ ad) A 11 h pc lo [.long v]) (N : Nat)  (p0 : Int64) (p2 : Int64) (p4 : Int32) (k : mm_M → Int64 → Option (mm_M × Int64)) (HK : ∀ (h : mm_M) (m5 : Int64), k h m5 = some out → mm_J p l e rmX8_lowest s m args below meth c 0 0 Q D (my_w cI cZ ad) A 11 h 31 [(0, .long p0), (2, .long p2), (4, .int p4), (5, .long m5)] []) : ∀ (n : Nat) (h : mm_M) (m5 : Int64) (m7 : Int64), fX8_lowest_L6 N p0 p2 p4 k n h m5 m7 = some out → mm_J p l e rmX8_lowest s m args below meth c 0 0 Q D (my_w cI cZ ad) A 11 h 6 [(0, .long p0), (2, .long p2), (4, .int p4), (5, .long m5), (7, .long m7)] [] := by
  intro n
  induction n with
  | zero =>
    intro h m5 m7 hf
    cases hf
  | succ n ih =>
    intro h m5 m7 hf
    rw [fX8_lowest_L6] at hf
    refine mj_lload X dX8_lowest_6 4 rfl ?_
    refine mj_lconst (v := (0 : Int64)) X dX8_lowest_8 (by decide) ?_
    refine mj_lcmp X dX8_lowest_9 ?_
    refine mj_if_eq (tgt := 31) X dX8_lowest_10 (by decide) (fun c1 => ?_) (fun c1 => ?_)
    · have hf := mm_t c1 hf
      exact mj_sub [0, 1, 2, 3] rfl (HK h m5 hf)
    · have hf := mm_f c1 hf
      refine mj_lload X dX8_lowest_13 3 rfl ?_
      refine mj_lload X dX8_lowest_15 4 rfl ?_
      obtain ⟨g2, hf⟩ := mm_g hf
      refine mj_lrem X dX8_lowest_17 g2 ?_
      obtain ⟨x3, ex3, hf⟩ := mm_l hf
      refine mj_topl ex3 ?_
      refine mj_lstore (lo' := [(9, .long x3), (0, .long p0), (2, .long p2), (4, .int p4), (5, .long m5), (7, .long m7)]) X dX8_lowest_18 (by decide) rfl ?_
      refine mj_lload X dX8_lowest_20 5 rfl ?_
      refine mj_lstore (lo' := [(5, .long m7), (9, .long x3), (0, .long p0), (2, .long p2), (4, .int p4), (7, .long m7)]) X dX8_lowest_22 (by decide) rfl ?_
      refine mj_lload X dX8_lowest_24 1 rfl ?_
      refine mj_lstore (lo' := [(7, .long x3), (5, .long m7), (9, .long x3), (0, .long p0), (2, .long p2), (4, .int p4)]) X dX8_lowest_26 (by decide) rfl ?_
      refine mj_goto (tgt := 6) X dX8_lowest_28 (by decide) ?_
      exact mj_sub [3, 4, 5, 1, 0] rfl (ih h m7 x3 hf)
set_option maxHeartbeats 4000000 in
set_option maxRecDepth 100000 in
theorem kX8_lowest (l : Launch) (D : va_G) (t1 t2 : Nat) (cI : ClassId) (cZ : ClassId) (ad : Nat → Nat)  (N : Nat) (h : mm_M) (a0 : Int64) (a1 : Int64) (a2 : Int32) (h1 : mm_M) (r : Int64) (hf : fX8_lowest N h a0 a1 a2 = some (h1, r)) : mm_Kl l yX8_lowest wsX8_lowest rmX8_lowest D (my_ty cI cZ) t1 t2 (my_w cI cZ ad) [.long a0, .long a1, .int a2] h r h1 := by
  refine mm_open_l [.long a0, .long a1, .int a2] h r h1 RX8 (by decide) rfl rfl (Nat.le_of_ble_eq_true rfl) ?_
  intro p e s m below meth c A X hr hlocks
  have RET : ∀ (h : mm_M) (pc : Nat) (lo : List (Nat × Value)) (v : Int64), decode cX8_lowest pc = .ok (.lreturn, 1) → (h, v) = (h1, r) → mm_J p l e rmX8_lowest s m ([.long a0, .long a1, .int a2] : List Value).toArray below meth c 0 0 (MQ below (va_Ql (fun (r' : Int64) (u : mm_M) => r' = r ∧ u = h1) (mm_Post D (my_w cI cZ ad) A) A) ([.long a0, .long a1, .int a2] : List Value).toArray s 0 0 A) D (my_w cI cZ ad) A 11 h pc lo [.long v] := by
    intro h2 pc lo v hd he
    cases he
    exact mj_lret X hr hlocks hd
  generalize hout : (h1, r) = out at hf RET
  unfold fX8_lowest at hf
  refine mj_lo (lo' := [(0, .long a0), (2, .long a1), (4, .int a2)]) rfl ?_
  refine mj_lload_n X dX8_lowest_0 0 rfl ?_
  refine mj_lstore (lo' := [(5, .long a0), (0, .long a0), (2, .long a1), (4, .int a2)]) X dX8_lowest_1 (by decide) rfl ?_
  refine mj_lload_n X dX8_lowest_3 2 rfl ?_
  refine mj_lstore (lo' := [(7, .long a1), (5, .long a0), (0, .long a0), (2, .long a1), (4, .int a2)]) X dX8_lowest_4 (by decide) rfl ?_
  refine mj_sub [2, 3, 4, 1, 0] rfl (wX8_lowest_L6 X out RET N a0 a1 a2 _ (fun h4 v5 hf => ?_) N h a0 a1 hf)
  refine mj_iload X dX8_lowest_31 2 rfl ?_
  refine mj_if_ne (tgt := 43) X dX8_lowest_33 (by decide) (fun c6 => ?_) (fun c6 => ?_)
  · have hf := mm_f c6 hf
    refine mj_lload_n X dX8_lowest_43 1 rfl ?_
    refine mj_lload X dX8_lowest_44 3 rfl ?_
    obtain ⟨g7, hf⟩ := mm_g hf
    refine mj_ldiv X dX8_lowest_46 g7 ?_
    exact RET h4 _ _ _ dX8_lowest_47 (Option.some.inj hf)
  · have hf := mm_t c6 hf
    refine mj_lload_n X dX8_lowest_36 0 rfl ?_
    refine mj_lload X dX8_lowest_37 3 rfl ?_
    obtain ⟨g8, hf⟩ := mm_g hf
    refine mj_ldiv X dX8_lowest_39 g8 ?_
    refine mj_goto (tgt := 47) X dX8_lowest_40 (by decide) ?_
    exact RET h4 _ _ _ dX8_lowest_47 (Option.some.inj hf)
abbrev rmX8_type : Room := { frames := 1, cells := 0, slots := 0, locals := 22 }
theorem inwX8_type_X8 : ∀ w ∈ wsX80, w ∈ wsX8_type := by
  intro w hw
  have h9 : wsX80 = (wsX8_type.drop 7).take 29 := rfl
  rw [h9] at hw
  exact List.mem_of_mem_drop (List.mem_of_mem_take hw)
theorem lnX8_type_0 : Cond.fieldLink RX8 7 "RichestPaysModel" "typed" "[I" ∈ wsX8_type := List.mem_of_getElem? (i := 1) rfl
theorem lnX8_type_1 : Cond.fieldLink RX8 13 "RichestPaysModel" "texts" "[I" ∈ wsX8_type := List.mem_of_getElem? (i := 2) rfl
set_option maxHeartbeats 4000000 in
set_option maxRecDepth 100000 in
theorem kX8_type (l : Launch) (D : va_G) (t1 t2 : Nat) (cI : ClassId) (cZ : ClassId) (ad : Nat → Nat)  (N : Nat) (h : mm_M) (a0 : Int32) (a1 : Int32) (h1 : mm_M) (r : Int32) (hf : fX8_type N h a0 a1 = some (h1, r)) : mm_Ki l yX8_type wsX8_type rmX8_type D (my_ty cI cZ) t1 t2 (my_w cI cZ ad) [.ref (ad 0), .int a0, .int a1] h r h1 := by
  refine mm_open_i [.ref (ad 0), .int a0, .int a1] h r h1 RX8 (by decide) rfl rfl (Nat.le_of_ble_eq_true rfl) ?_
  intro p e s m below meth c A X hr hlocks
  have RET : ∀ (h : mm_M) (pc : Nat) (lo : List (Nat × Value)) (v : Int32), decode cX8_type pc = .ok (.ireturn, 1) → (h, v) = (h1, r) → mm_J p l e rmX8_type s m ([.ref (ad 0), .int a0, .int a1] : List Value).toArray below meth c 0 0 (MQ below (va_Qi (fun (r' : Int32) (u : mm_M) => r' = r ∧ u = h1) (mm_Post D (my_w cI cZ ad) A) A) ([.ref (ad 0), .int a0, .int a1] : List Value).toArray s 0 0 A) D (my_w cI cZ ad) A 3 h pc lo [.int v] := by
    intro h2 pc lo v hd he
    cases he
    exact mj_iret X hr rfl hlocks hd
  generalize hout : (h1, r) = out at hf RET
  unfold fX8_type at hf
  refine mj_lo (lo' := [(0, .ref (ad 0)), (1, .int a0), (2, .int a1)]) rfl ?_
  refine mj_iload_n X dX8_type_0 1 rfl ?_
  refine mj_iconst (v := (0 : Int32)) X dX8_type_1 (by decide) ?_
  refine mj_iconst (v := (1 : Int32)) X dX8_type_2 (by decide) ?_
  obtain ⟨h1, r2, q3, hf⟩ := mm_c hf
  refine mj_callSi (As := [.int a0, .int (0 : Int32), .int (1 : Int32)]) (rest := []) X (kX8_in l D t1 t2 cI cZ ad N h a0 (0 : Int32) (1 : Int32) h1 r2 q3) (va_cwS 3 X.2.2.2.2.1 gX8_type_X8_in rfl rfl rfl (by decide +kernel) ⟨Nat.le_of_ble_eq_true rfl, Nat.le_of_ble_eq_true rfl⟩) rfl rfl (Nat.le_of_ble_eq_true rfl) ⟨Nat.zero_le _, Nat.zero_le _⟩ dX8_type_3 ?_
  refine mj_if_eq (tgt := 20) X dX8_type_6 (by decide) (fun c4 => ?_) (fun c4 => ?_)
  · have hf := mm_t c4 hf
    refine mj_bipush (v := (-2 : Int32)) X dX8_type_20 (by decide) ?_
    exact RET h1 _ _ _ dX8_type_22 (Option.some.inj hf)
  · have hf := mm_f c4 hf
    refine mj_iload_n X dX8_type_9 2 rfl ?_
    refine mj_iconst (v := (0 : Int32)) X dX8_type_10 (by decide) ?_
    refine mj_sipush (v := (255 : Int32)) X dX8_type_11 (by decide) ?_
    obtain ⟨h5, r6, q7, hf⟩ := mm_c hf
    refine mj_callSi (As := [.int a1, .int (0 : Int32), .int (255 : Int32)]) (rest := []) X (kX8_in l D t1 t2 cI cZ ad N h1 a1 (0 : Int32) (255 : Int32) h5 r6 q7) (va_cwS 3 X.2.2.2.2.1 gX8_type_X8_in rfl rfl rfl (by decide +kernel) ⟨Nat.le_of_ble_eq_true rfl, Nat.le_of_ble_eq_true rfl⟩) rfl rfl (Nat.le_of_ble_eq_true rfl) ⟨Nat.zero_le _, Nat.zero_le _⟩ dX8_type_14 ?_
    refine mj_if_ne (tgt := 23) X dX8_type_17 (by decide) (fun c8 => ?_) (fun c8 => ?_)
    · have hf := mm_f c8 hf
      refine mj_aload_n X dX8_type_23 0 rfl ?_
      refine mj_get X inwX8_type_X8 (my_at my_oX8 h5) rfl 0 (by decide) rfl lnX8_type_0 rfl dX8_type_24 ?_
      refine mj_iload_n X dX8_type_27 1 rfl ?_
      obtain ⟨g9, hf⟩ := mm_g hf
      refine mj_iald X 0 (my_at my_a1 h5) rfl g9 dX8_type_28 ?_
      refine mj_iload_n X dX8_type_29 1 rfl ?_
      refine mj_if_ne (tgt := 38) X dX8_type_30 (by decide) (fun c10 => ?_) (fun c10 => ?_)
      · have hf := mm_f c10 hf
        refine mj_bipush (v := (60 : Int32)) X dX8_type_38 (by decide) ?_
        refine mj_icmp_ne (tgt := 46) X dX8_type_40 (by decide) (fun c11 => ?_) (fun c11 => ?_)
        · have hf := mm_f c11 hf
          refine mj_aload_n X dX8_type_46 0 rfl ?_
          refine mj_get X inwX8_type_X8 (my_at my_oX8 h5) rfl 1 (by decide) rfl lnX8_type_1 rfl dX8_type_47 ?_
          refine mj_bipush (v := (60 : Int32)) X dX8_type_50 (by decide) ?_
          refine mj_iload_n X dX8_type_52 1 rfl ?_
          refine mj_imul X dX8_type_53 ?_
          refine mj_aload_n X dX8_type_54 0 rfl ?_
          refine mj_get X inwX8_type_X8 (my_at my_oX8 h5) rfl 0 (by decide) rfl lnX8_type_0 rfl dX8_type_55 ?_
          refine mj_iload_n X dX8_type_58 1 rfl ?_
          refine mj_iald X 0 (my_at my_a1 h5) rfl g9 dX8_type_59 ?_
          refine mj_iadd X dX8_type_60 ?_
          refine mj_iload_n X dX8_type_61 2 rfl ?_
          obtain ⟨g12, hf⟩ := mm_g hf
          obtain ⟨h13, eh13, hf⟩ := mm_l hf
          refine mj_iast X 0 (my_at my_a2 h5) rfl g12 (my_ast my_a2 eh13) dX8_type_62 ?_
          refine mj_aload_n X dX8_type_63 0 rfl ?_
          refine mj_get X inwX8_type_X8 (my_at my_oX8 h13) rfl 0 (by decide) rfl lnX8_type_0 rfl dX8_type_64 ?_
          refine mj_iload_n X dX8_type_67 1 rfl ?_
          refine mj_dup2 X dX8_type_68 rfl rfl ?_
          refine mj_iald X 0 (my_at my_a1 h13) rfl g9 dX8_type_69 ?_
          refine mj_iconst (v := (1 : Int32)) X dX8_type_70 (by decide) ?_
          refine mj_iadd X dX8_type_71 ?_
          obtain ⟨h14, eh14, hf⟩ := mm_l hf
          refine mj_iast X 0 (my_at my_a1 h13) rfl g9 (my_ast my_a1 eh14) dX8_type_72 ?_
          refine mj_aload_n X dX8_type_73 0 rfl ?_
          refine mj_get X inwX8_type_X8 (my_at my_oX8 h14) rfl 0 (by decide) rfl lnX8_type_0 rfl dX8_type_74 ?_
          refine mj_iload_n X dX8_type_77 1 rfl ?_
          refine mj_iald X 0 (my_at my_a1 h14) rfl g9 dX8_type_78 ?_
          exact RET h14 _ _ _ dX8_type_79 (Option.some.inj hf)
        · have hf := mm_t c11 hf
          refine mj_bipush (v := (-4 : Int32)) X dX8_type_43 (by decide) ?_
          exact RET h5 _ _ _ dX8_type_45 (Option.some.inj hf)
      · have hf := mm_t c10 hf
        refine mj_bipush (v := (30 : Int32)) X dX8_type_33 (by decide) ?_
        refine mj_goto (tgt := 40) X dX8_type_35 (by decide) ?_
        refine mj_icmp_ne (tgt := 46) X dX8_type_40 (by decide) (fun c15 => ?_) (fun c15 => ?_)
        · have hf := mm_f c15 hf
          refine mj_aload_n X dX8_type_46 0 rfl ?_
          refine mj_get X inwX8_type_X8 (my_at my_oX8 h5) rfl 1 (by decide) rfl lnX8_type_1 rfl dX8_type_47 ?_
          refine mj_bipush (v := (60 : Int32)) X dX8_type_50 (by decide) ?_
          refine mj_iload_n X dX8_type_52 1 rfl ?_
          refine mj_imul X dX8_type_53 ?_
          refine mj_aload_n X dX8_type_54 0 rfl ?_
          refine mj_get X inwX8_type_X8 (my_at my_oX8 h5) rfl 0 (by decide) rfl lnX8_type_0 rfl dX8_type_55 ?_
          refine mj_iload_n X dX8_type_58 1 rfl ?_
          refine mj_iald X 0 (my_at my_a1 h5) rfl g9 dX8_type_59 ?_
          refine mj_iadd X dX8_type_60 ?_
          refine mj_iload_n X dX8_type_61 2 rfl ?_
          obtain ⟨g16, hf⟩ := mm_g hf
          obtain ⟨h17, eh17, hf⟩ := mm_l hf
          refine mj_iast X 0 (my_at my_a2 h5) rfl g16 (my_ast my_a2 eh17) dX8_type_62 ?_
          refine mj_aload_n X dX8_type_63 0 rfl ?_
          refine mj_get X inwX8_type_X8 (my_at my_oX8 h17) rfl 0 (by decide) rfl lnX8_type_0 rfl dX8_type_64 ?_
          refine mj_iload_n X dX8_type_67 1 rfl ?_
          refine mj_dup2 X dX8_type_68 rfl rfl ?_
          refine mj_iald X 0 (my_at my_a1 h17) rfl g9 dX8_type_69 ?_
          refine mj_iconst (v := (1 : Int32)) X dX8_type_70 (by decide) ?_
          refine mj_iadd X dX8_type_71 ?_
          obtain ⟨h18, eh18, hf⟩ := mm_l hf
          refine mj_iast X 0 (my_at my_a1 h17) rfl g9 (my_ast my_a1 eh18) dX8_type_72 ?_
          refine mj_aload_n X dX8_type_73 0 rfl ?_
          refine mj_get X inwX8_type_X8 (my_at my_oX8 h18) rfl 0 (by decide) rfl lnX8_type_0 rfl dX8_type_74 ?_
          refine mj_iload_n X dX8_type_77 1 rfl ?_
          refine mj_iald X 0 (my_at my_a1 h18) rfl g9 dX8_type_78 ?_
          exact RET h18 _ _ _ dX8_type_79 (Option.some.inj hf)
        · have hf := mm_t c15 hf
          refine mj_bipush (v := (-4 : Int32)) X dX8_type_43 (by decide) ?_
          exact RET h5 _ _ _ dX8_type_45 (Option.some.inj hf)
    · have hf := mm_t c8 hf
      refine mj_bipush (v := (-2 : Int32)) X dX8_type_20 (by decide) ?_
      exact RET h5 _ _ _ dX8_type_22 (Option.some.inj hf)
abbrev rmX8_wipe : Room := { frames := 1, cells := 0, slots := 0, locals := 22 }
theorem inwX8_wipe_X8 : ∀ w ∈ wsX80, w ∈ wsX8_wipe := by
  intro w hw
  have h9 : wsX80 = (wsX8_wipe.drop 6).take 29 := rfl
  rw [h9] at hw
  exact List.mem_of_mem_drop (List.mem_of_mem_take hw)
theorem lnX8_wipe_0 : Cond.fieldLink RX8 7 "RichestPaysModel" "typed" "[I" ∈ wsX8_wipe := List.mem_of_getElem? (i := 1) rfl
set_option maxHeartbeats 4000000 in
set_option maxRecDepth 100000 in
theorem kX8_wipe (l : Launch) (D : va_G) (t1 t2 : Nat) (cI : ClassId) (cZ : ClassId) (ad : Nat → Nat)  (N : Nat) (h : mm_M) (a0 : Int32) (h1 : mm_M) (r : Int32) (hf : fX8_wipe N h a0 = some (h1, r)) : mm_Ki l yX8_wipe wsX8_wipe rmX8_wipe D (my_ty cI cZ) t1 t2 (my_w cI cZ ad) [.ref (ad 0), .int a0] h r h1 := by
  refine mm_open_i [.ref (ad 0), .int a0] h r h1 RX8 (by decide) rfl rfl (Nat.le_of_ble_eq_true rfl) ?_
  intro p e s m below meth c A X hr hlocks
  have RET : ∀ (h : mm_M) (pc : Nat) (lo : List (Nat × Value)) (v : Int32), decode cX8_wipe pc = .ok (.ireturn, 1) → (h, v) = (h1, r) → mm_J p l e rmX8_wipe s m ([.ref (ad 0), .int a0] : List Value).toArray below meth c 0 0 (MQ below (va_Qi (fun (r' : Int32) (u : mm_M) => r' = r ∧ u = h1) (mm_Post D (my_w cI cZ ad) A) A) ([.ref (ad 0), .int a0] : List Value).toArray s 0 0 A) D (my_w cI cZ ad) A 3 h pc lo [.int v] := by
    intro h2 pc lo v hd he
    cases he
    exact mj_iret X hr rfl hlocks hd
  generalize hout : (h1, r) = out at hf RET
  unfold fX8_wipe at hf
  refine mj_lo (lo' := [(0, .ref (ad 0)), (1, .int a0)]) rfl ?_
  refine mj_iload_n X dX8_wipe_0 1 rfl ?_
  refine mj_iconst (v := (0 : Int32)) X dX8_wipe_1 (by decide) ?_
  refine mj_iconst (v := (1 : Int32)) X dX8_wipe_2 (by decide) ?_
  obtain ⟨h1, r2, q3, hf⟩ := mm_c hf
  refine mj_callSi (As := [.int a0, .int (0 : Int32), .int (1 : Int32)]) (rest := []) X (kX8_in l D t1 t2 cI cZ ad N h a0 (0 : Int32) (1 : Int32) h1 r2 q3) (va_cwS 3 X.2.2.2.2.1 gX8_wipe_X8_in rfl rfl rfl (by decide +kernel) ⟨Nat.le_of_ble_eq_true rfl, Nat.le_of_ble_eq_true rfl⟩) rfl rfl (Nat.le_of_ble_eq_true rfl) ⟨Nat.zero_le _, Nat.zero_le _⟩ dX8_wipe_3 ?_
  refine mj_if_ne (tgt := 12) X dX8_wipe_6 (by decide) (fun c4 => ?_) (fun c4 => ?_)
  · have hf := mm_f c4 hf
    refine mj_aload_n X dX8_wipe_12 0 rfl ?_
    refine mj_get X inwX8_wipe_X8 (my_at my_oX8 h1) rfl 0 (by decide) rfl lnX8_wipe_0 rfl dX8_wipe_13 ?_
    refine mj_iload_n X dX8_wipe_16 1 rfl ?_
    obtain ⟨g5, hf⟩ := mm_g hf
    refine mj_iald X 0 (my_at my_a1 h1) rfl g5 dX8_wipe_17 ?_
    obtain ⟨x6, ex6, hf⟩ := mm_l hf
    refine mj_topi ex6 ?_
    refine mj_istore_n (lo' := [(2, .int x6), (0, .ref (ad 0)), (1, .int a0)]) X dX8_wipe_18 (by decide) rfl ?_
    refine mj_aload_n X dX8_wipe_19 1 rfl ?_
    refine mj_get X inwX8_wipe_X8 (my_at my_oX8 h1) rfl 0 (by decide) rfl lnX8_wipe_0 rfl dX8_wipe_20 ?_
    refine mj_iload_n X dX8_wipe_23 2 rfl ?_
    refine mj_iconst (v := (0 : Int32)) X dX8_wipe_24 (by decide) ?_
    obtain ⟨h7, eh7, hf⟩ := mm_l hf
    refine mj_iast X 0 (my_at my_a1 h1) rfl g5 (my_ast my_a1 eh7) dX8_wipe_25 ?_
    refine mj_iload_n X dX8_wipe_26 0 rfl ?_
    exact RET h7 _ _ _ dX8_wipe_27 (Option.some.inj hf)
  · have hf := mm_t c4 hf
    refine mj_bipush (v := (-2 : Int32)) X dX8_wipe_9 (by decide) ?_
    exact RET h1 _ _ _ dX8_wipe_11 (Option.some.inj hf)
abbrev rmX8_byteAt : Room := { frames := 0, cells := 0, slots := 0, locals := 0 }
theorem inwX8_byteAt_X8 : ∀ w ∈ wsX80, w ∈ wsX8_byteAt := by
  intro w hw
  have h9 : wsX80 = (wsX8_byteAt.drop 3).take 29 := rfl
  rw [h9] at hw
  exact List.mem_of_mem_drop (List.mem_of_mem_take hw)
theorem lnX8_byteAt_0 : Cond.fieldLink RX8 7 "RichestPaysModel" "typed" "[I" ∈ wsX8_byteAt := List.mem_of_getElem? (i := 1) rfl
theorem lnX8_byteAt_1 : Cond.fieldLink RX8 13 "RichestPaysModel" "texts" "[I" ∈ wsX8_byteAt := List.mem_of_getElem? (i := 2) rfl
set_option maxHeartbeats 4000000 in
set_option maxRecDepth 100000 in
theorem kX8_byteAt (l : Launch) (D : va_G) (t1 t2 : Nat) (cI : ClassId) (cZ : ClassId) (ad : Nat → Nat)  (N : Nat) (h : mm_M) (a0 : Int32) (a1 : Int32) (h1 : mm_M) (r : Int32) (hf : fX8_byteAt N h a0 a1 = some (h1, r)) : mm_Ki l yX8_byteAt wsX8_byteAt rmX8_byteAt D (my_ty cI cZ) t1 t2 (my_w cI cZ ad) [.ref (ad 0), .int a0, .int a1] h r h1 := by
  refine mm_open_i [.ref (ad 0), .int a0, .int a1] h r h1 RX8 (by decide) rfl rfl (Nat.le_of_ble_eq_true rfl) ?_
  intro p e s m below meth c A X hr hlocks
  have RET : ∀ (h : mm_M) (pc : Nat) (lo : List (Nat × Value)) (v : Int32), decode cX8_byteAt pc = .ok (.ireturn, 1) → (h, v) = (h1, r) → mm_J p l e rmX8_byteAt s m ([.ref (ad 0), .int a0, .int a1] : List Value).toArray below meth c 0 0 (MQ below (va_Qi (fun (r' : Int32) (u : mm_M) => r' = r ∧ u = h1) (mm_Post D (my_w cI cZ ad) A) A) ([.ref (ad 0), .int a0, .int a1] : List Value).toArray s 0 0 A) D (my_w cI cZ ad) A 3 h pc lo [.int v] := by
    intro h2 pc lo v hd he
    cases he
    exact mj_iret X hr rfl hlocks hd
  generalize hout : (h1, r) = out at hf RET
  unfold fX8_byteAt at hf
  refine mj_lo (lo' := [(0, .ref (ad 0)), (1, .int a0), (2, .int a1)]) rfl ?_
  refine mj_iload_n X dX8_byteAt_0 2 rfl ?_
  refine mj_aload_n X dX8_byteAt_1 0 rfl ?_
  refine mj_get X inwX8_byteAt_X8 (my_at my_oX8 h) rfl 0 (by decide) rfl lnX8_byteAt_0 rfl dX8_byteAt_2 ?_
  refine mj_iload_n X dX8_byteAt_5 1 rfl ?_
  obtain ⟨g1, hf⟩ := mm_g hf
  refine mj_iald X 0 (my_at my_a1 h) rfl g1 dX8_byteAt_6 ?_
  refine mj_icmp_ge (tgt := 24) X dX8_byteAt_7 (by decide) (fun c2 => ?_) (fun c2 => ?_)
  · have hf := mm_t c2 hf
    refine mj_iconst (v := (-1 : Int32)) X dX8_byteAt_24 (by decide) ?_
    exact RET h _ _ _ dX8_byteAt_25 (Option.some.inj hf)
  · have hf := mm_f c2 hf
    refine mj_aload_n X dX8_byteAt_10 0 rfl ?_
    refine mj_get X inwX8_byteAt_X8 (my_at my_oX8 h) rfl 1 (by decide) rfl lnX8_byteAt_1 rfl dX8_byteAt_11 ?_
    refine mj_bipush (v := (60 : Int32)) X dX8_byteAt_14 (by decide) ?_
    refine mj_iload_n X dX8_byteAt_16 1 rfl ?_
    refine mj_imul X dX8_byteAt_17 ?_
    refine mj_iload_n X dX8_byteAt_18 2 rfl ?_
    refine mj_iadd X dX8_byteAt_19 ?_
    obtain ⟨g3, hf⟩ := mm_g hf
    refine mj_iald X 0 (my_at my_a2 h) rfl g3 dX8_byteAt_20 ?_
    refine mj_goto (tgt := 25) X dX8_byteAt_21 (by decide) ?_
    exact RET h _ _ _ dX8_byteAt_25 (Option.some.inj hf)
abbrev rmX8_readsPeople : Room := { frames := 1, cells := 0, slots := 0, locals := 22 }
theorem inwX8_readsPeople_X8 : ∀ w ∈ wsX80, w ∈ wsX8_readsPeople := by
  intro w hw
  have h9 : wsX80 = (wsX8_readsPeople.drop 14).take 29 := rfl
  rw [h9] at hw
  exact List.mem_of_mem_drop (List.mem_of_mem_take hw)
theorem lnX8_readsPeople_0 : Cond.fieldLink RX8 89 "RichestPaysModel" "people" "I" ∈ wsX8_readsPeople := List.mem_of_getElem? (i := 1) rfl
theorem lnX8_readsPeople_1 : Cond.fieldLink RX8 7 "RichestPaysModel" "typed" "[I" ∈ wsX8_readsPeople := List.mem_of_getElem? (i := 2) rfl
theorem lnX8_readsPeople_2 : Cond.fieldLink RX8 16 "RichestPaysModel" "purses" "[I" ∈ wsX8_readsPeople := List.mem_of_getElem? (i := 3) rfl
theorem lnX8_readsPeople_3 : Cond.fieldLink RX8 19 "RichestPaysModel" "appetites" "[I" ∈ wsX8_readsPeople := List.mem_of_getElem? (i := 4) rfl
set_option maxHeartbeats 4000000 in
set_option maxRecDepth 100000 in
theorem wX8_readsPeople_L33 (X : mm_X p s m args c cX8_readsPeople RX8 wsX8_readsPeople 4 D (my_ty cI cZ) t1 t2 A) (out : mm_M × Int32) (RET : ∀ (h : mm_M) (pc : Nat) (lo : List (Nat × Value)) (v : Int32), decode cX8_readsPeople pc = .ok (.ireturn, 1) → (h, v) = out → mm_J p l e rmX8_readsPeople s m args below meth c 0 0 Q D (my_w cI cZ ad) A 4 h pc lo [.int v]) (N : Nat)  (p1 : Int32) (p2 : Int32) (k : mm_M → Option (mm_M × Int32)) (HK : ∀ (h : mm_M), k h = some out → mm_J p l e rmX8_readsPeople s m args below meth c 0 0 Q D (my_w cI cZ ad) A 4 h 66 [(0, .ref (ad 0)), (1, .int p1), (2, .int p2)] []) : ∀ (n : Nat) (h : mm_M) (m3 : Int32), fX8_readsPeople_L33 N p1 p2 k n h m3 = some out → mm_J p l e rmX8_readsPeople s m args below meth c 0 0 Q D (my_w cI cZ ad) A 4 h 33 [(0, .ref (ad 0)), (1, .int p1), (2, .int p2), (3, .int m3)] [] := by
  intro n
  induction n with
  | zero =>
    intro h m3 hf
    cases hf
  | succ n ih =>
    intro h m3 hf
    rw [fX8_readsPeople_L33] at hf
    refine mj_iload_n X dX8_readsPeople_33 3 rfl ?_
    refine mj_iconst (v := (4 : Int32)) X dX8_readsPeople_34 (by decide) ?_
    refine mj_icmp_ge (tgt := 66) X dX8_readsPeople_35 (by decide) (fun c4 => ?_) (fun c4 => ?_)
    · have hf := mm_t c4 hf
      exact mj_sub [0, 1, 2] rfl (HK h hf)
    · have hf := mm_f c4 hf
      refine mj_aload_n X dX8_readsPeople_38 0 rfl ?_
      refine mj_iconst (v := (0 : Int32)) X dX8_readsPeople_39 (by decide) ?_
      refine mj_iload_n X dX8_readsPeople_40 2 rfl ?_
      refine mj_iload_n X dX8_readsPeople_41 3 rfl ?_
      refine mj_iadd X dX8_readsPeople_42 ?_
      obtain ⟨h5, r6, q7, hf⟩ := mm_c hf
      refine mj_callVi (As := [.int (0 : Int32), .int (p2 + m3)]) (rest := []) X (kX8_byteAt l D t1 t2 cI cZ ad N h (0 : Int32) (p2 + m3) h5 r6 q7) (cwV 2 X.2.2.2.2.1 gX8_readsPeople_X8_byteAt rfl rfl rfl (by decide +kernel) ⟨Nat.le_of_ble_eq_true rfl, Nat.le_of_ble_eq_true rfl⟩) (my_at my_oX8 h) rfl rfl rfl rfl (Nat.le_of_ble_eq_true rfl) ⟨Nat.zero_le _, Nat.zero_le _⟩ dX8_readsPeople_43 ?_
      refine mj_bipush (v := (48 : Int32)) X dX8_readsPeople_46 (by decide) ?_
      refine mj_bipush (v := (57 : Int32)) X dX8_readsPeople_48 (by decide) ?_
      obtain ⟨h8, r9, q10, hf⟩ := mm_c hf
      refine mj_callSi (As := [.int r6, .int (48 : Int32), .int (57 : Int32)]) (rest := []) X (kX8_in l D t1 t2 cI cZ ad N h5 r6 (48 : Int32) (57 : Int32) h8 r9 q10) (va_cwS 3 X.2.2.2.2.1 gX8_readsPeople_X8_in rfl rfl rfl (by decide +kernel) ⟨Nat.le_of_ble_eq_true rfl, Nat.le_of_ble_eq_true rfl⟩) rfl rfl (Nat.le_of_ble_eq_true rfl) ⟨Nat.zero_le _, Nat.zero_le _⟩ dX8_readsPeople_50 ?_
      refine mj_if_ne (tgt := 60) X dX8_readsPeople_53 (by decide) (fun c11 => ?_) (fun c11 => ?_)
      · have hf := mm_f c11 hf
        refine mj_iinc (k := 3) (v := (m3 + 1)) (lo' := [(3, .int (m3 + 1)), (0, .ref (ad 0)), (1, .int p1), (2, .int p2)]) X dX8_readsPeople_60 rfl rfl (by decide) rfl ?_
        refine mj_goto (tgt := 33) X dX8_readsPeople_63 (by decide) ?_
        exact mj_sub [1, 2, 3, 0] rfl (ih h8 (m3 + 1) hf)
      · have hf := mm_t c11 hf
        refine mj_iload_n X dX8_readsPeople_56 2 rfl ?_
        refine mj_iload_n X dX8_readsPeople_57 3 rfl ?_
        refine mj_iadd X dX8_readsPeople_58 ?_
        exact RET h8 _ _ _ dX8_readsPeople_59 (Option.some.inj hf)
set_option maxHeartbeats 4000000 in
set_option maxRecDepth 100000 in
theorem wX8_readsPeople_L9 (X : mm_X p s m args c cX8_readsPeople RX8 wsX8_readsPeople 4 D (my_ty cI cZ) t1 t2 A) (out : mm_M × Int32) (RET : ∀ (h : mm_M) (pc : Nat) (lo : List (Nat × Value)) (v : Int32), decode cX8_readsPeople pc = .ok (.ireturn, 1) → (h, v) = out → mm_J p l e rmX8_readsPeople s m args below meth c 0 0 Q D (my_w cI cZ ad) A 4 h pc lo [.int v]) (N : Nat)   (k : mm_M → Option (mm_M × Int32)) (HK : ∀ (h : mm_M), k h = some out → mm_J p l e rmX8_readsPeople s m args below meth c 0 0 Q D (my_w cI cZ ad) A 4 h 170 [] []) : ∀ (n : Nat) (h : mm_M) (m1 : Int32) (m2 : Int32), fX8_readsPeople_L9 N k n h m1 m2 = some out → mm_J p l e rmX8_readsPeople s m args below meth c 0 0 Q D (my_w cI cZ ad) A 4 h 9 [(0, .ref (ad 0)), (1, .int m1), (2, .int m2)] [] := by
  intro n
  induction n with
  | zero =>
    intro h m1 m2 hf
    cases hf
  | succ n ih =>
    intro h m1 m2 hf
    rw [fX8_readsPeople_L9] at hf
    refine mj_iload_n X dX8_readsPeople_9 2 rfl ?_
    refine mj_aload_n X dX8_readsPeople_10 0 rfl ?_
    refine mj_get X inwX8_readsPeople_X8 (my_at my_oX8 h) rfl 0 (by decide) rfl lnX8_readsPeople_1 rfl dX8_readsPeople_11 ?_
    refine mj_iconst (v := (0 : Int32)) X dX8_readsPeople_14 (by decide) ?_
    refine mj_iald X 0 (my_at my_a1 h) rfl (by decide) dX8_readsPeople_15 ?_
    refine mj_icmp_lt (tgt := 23) X dX8_readsPeople_16 (by decide) (fun c2 => ?_) (fun c2 => ?_)
    · have hf := mm_t c2 hf
      refine mj_iload_n X dX8_readsPeople_23 1 rfl ?_
      refine mj_bipush (v := (6 : Int32)) X dX8_readsPeople_24 (by decide) ?_
      refine mj_icmp_ne (tgt := 31) X dX8_readsPeople_26 (by decide) (fun c3 => ?_) (fun c3 => ?_)
      · have hf := mm_f c3 hf
        refine mj_iconst (v := (0 : Int32)) X dX8_readsPeople_31 (by decide) ?_
        refine mj_istore_n (lo' := [(3, .int (0 : Int32)), (0, .ref (ad 0)), (1, .int m1), (2, .int m2)]) X dX8_readsPeople_32 (by decide) rfl ?_
        refine mj_sub [1, 2, 3, 0] rfl (wX8_readsPeople_L33 X out RET N m1 m2 _ (fun h12 hf => ?_) N h (0 : Int32) hf)
        refine mj_aload_n X dX8_readsPeople_66 0 rfl ?_
        refine mj_get X inwX8_readsPeople_X8 (my_at my_oX8 h12) rfl 3 (by decide) rfl lnX8_readsPeople_2 rfl dX8_readsPeople_67 ?_
        refine mj_iload_n X dX8_readsPeople_70 1 rfl ?_
        refine mj_bipush (v := (10 : Int32)) X dX8_readsPeople_71 (by decide) ?_
        refine mj_aload_n X dX8_readsPeople_73 0 rfl ?_
        refine mj_iconst (v := (0 : Int32)) X dX8_readsPeople_74 (by decide) ?_
        refine mj_iload_n X dX8_readsPeople_75 2 rfl ?_
        obtain ⟨h13, r14, q15, hf⟩ := mm_c hf
        refine mj_callVi (As := [.int (0 : Int32), .int m2]) (rest := [.int (10 : Int32), .int m1, .ref (ad 3)]) X (kX8_byteAt l D t1 t2 cI cZ ad N h12 (0 : Int32) m2 h13 r14 q15) (cwV 2 X.2.2.2.2.1 gX8_readsPeople_X8_byteAt rfl rfl rfl (by decide +kernel) ⟨Nat.le_of_ble_eq_true rfl, Nat.le_of_ble_eq_true rfl⟩) (my_at my_oX8 h12) rfl rfl rfl rfl (Nat.le_of_ble_eq_true rfl) ⟨Nat.zero_le _, Nat.zero_le _⟩ dX8_readsPeople_76 ?_
        refine mj_bipush (v := (48 : Int32)) X dX8_readsPeople_79 (by decide) ?_
        refine mj_isub X dX8_readsPeople_81 ?_
        refine mj_imul X dX8_readsPeople_82 ?_
        refine mj_aload_n X dX8_readsPeople_83 0 rfl ?_
        refine mj_iconst (v := (0 : Int32)) X dX8_readsPeople_84 (by decide) ?_
        refine mj_iload_n X dX8_readsPeople_85 2 rfl ?_
        refine mj_iconst (v := (1 : Int32)) X dX8_readsPeople_86 (by decide) ?_
        refine mj_iadd X dX8_readsPeople_87 ?_
        obtain ⟨h16, r17, q18, hf⟩ := mm_c hf
        refine mj_callVi (As := [.int (0 : Int32), .int (m2 + (1 : Int32))]) (rest := [.int ((10 : Int32) * (r14 - (48 : Int32))), .int m1, .ref (ad 3)]) X (kX8_byteAt l D t1 t2 cI cZ ad N h13 (0 : Int32) ((m2 + (1 : Int32))) h16 r17 q18) (cwV 2 X.2.2.2.2.1 gX8_readsPeople_X8_byteAt rfl rfl rfl (by decide +kernel) ⟨Nat.le_of_ble_eq_true rfl, Nat.le_of_ble_eq_true rfl⟩) (my_at my_oX8 h13) rfl rfl rfl rfl (Nat.le_of_ble_eq_true rfl) ⟨Nat.zero_le _, Nat.zero_le _⟩ dX8_readsPeople_88 ?_
        refine mj_iadd X dX8_readsPeople_91 ?_
        refine mj_bipush (v := (48 : Int32)) X dX8_readsPeople_92 (by decide) ?_
        refine mj_isub X dX8_readsPeople_94 ?_
        obtain ⟨g19, hf⟩ := mm_g hf
        obtain ⟨h20, eh20, hf⟩ := mm_l hf
        refine mj_iast X 0 (my_at my_a3 h16) rfl g19 (my_ast my_a3 eh20) dX8_readsPeople_95 ?_
        refine mj_aload_n X dX8_readsPeople_96 0 rfl ?_
        refine mj_get X inwX8_readsPeople_X8 (my_at my_oX8 h20) rfl 4 (by decide) rfl lnX8_readsPeople_3 rfl dX8_readsPeople_97 ?_
        refine mj_iload_n X dX8_readsPeople_100 1 rfl ?_
        refine mj_bipush (v := (10 : Int32)) X dX8_readsPeople_101 (by decide) ?_
        refine mj_aload_n X dX8_readsPeople_103 0 rfl ?_
        refine mj_iconst (v := (0 : Int32)) X dX8_readsPeople_104 (by decide) ?_
        refine mj_iload_n X dX8_readsPeople_105 2 rfl ?_
        refine mj_iconst (v := (2 : Int32)) X dX8_readsPeople_106 (by decide) ?_
        refine mj_iadd X dX8_readsPeople_107 ?_
        obtain ⟨h21, r22, q23, hf⟩ := mm_c hf
        refine mj_callVi (As := [.int (0 : Int32), .int (m2 + (2 : Int32))]) (rest := [.int (10 : Int32), .int m1, .ref (ad 4)]) X (kX8_byteAt l D t1 t2 cI cZ ad N h20 (0 : Int32) ((m2 + (2 : Int32))) h21 r22 q23) (cwV 2 X.2.2.2.2.1 gX8_readsPeople_X8_byteAt rfl rfl rfl (by decide +kernel) ⟨Nat.le_of_ble_eq_true rfl, Nat.le_of_ble_eq_true rfl⟩) (my_at my_oX8 h20) rfl rfl rfl rfl (Nat.le_of_ble_eq_true rfl) ⟨Nat.zero_le _, Nat.zero_le _⟩ dX8_readsPeople_108 ?_
        refine mj_bipush (v := (48 : Int32)) X dX8_readsPeople_111 (by decide) ?_
        refine mj_isub X dX8_readsPeople_113 ?_
        refine mj_imul X dX8_readsPeople_114 ?_
        refine mj_aload_n X dX8_readsPeople_115 0 rfl ?_
        refine mj_iconst (v := (0 : Int32)) X dX8_readsPeople_116 (by decide) ?_
        refine mj_iload_n X dX8_readsPeople_117 2 rfl ?_
        refine mj_iconst (v := (3 : Int32)) X dX8_readsPeople_118 (by decide) ?_
        refine mj_iadd X dX8_readsPeople_119 ?_
        obtain ⟨h24, r25, q26, hf⟩ := mm_c hf
        refine mj_callVi (As := [.int (0 : Int32), .int (m2 + (3 : Int32))]) (rest := [.int ((10 : Int32) * (r22 - (48 : Int32))), .int m1, .ref (ad 4)]) X (kX8_byteAt l D t1 t2 cI cZ ad N h21 (0 : Int32) ((m2 + (3 : Int32))) h24 r25 q26) (cwV 2 X.2.2.2.2.1 gX8_readsPeople_X8_byteAt rfl rfl rfl (by decide +kernel) ⟨Nat.le_of_ble_eq_true rfl, Nat.le_of_ble_eq_true rfl⟩) (my_at my_oX8 h21) rfl rfl rfl rfl (Nat.le_of_ble_eq_true rfl) ⟨Nat.zero_le _, Nat.zero_le _⟩ dX8_readsPeople_120 ?_
        refine mj_iadd X dX8_readsPeople_123 ?_
        refine mj_bipush (v := (48 : Int32)) X dX8_readsPeople_124 (by decide) ?_
        refine mj_isub X dX8_readsPeople_126 ?_
        obtain ⟨h27, eh27, hf⟩ := mm_l hf
        refine mj_iast X 0 (my_at my_a4 h24) rfl g19 (my_ast my_a4 eh27) dX8_readsPeople_127 ?_
        refine mj_iinc (k := 1) (v := (m1 + 1)) (lo' := [(1, .int (m1 + 1)), (0, .ref (ad 0)), (2, .int m2)]) X dX8_readsPeople_128 rfl rfl (by decide) rfl ?_
        refine mj_iinc (k := 2) (v := (m2 + 4)) (lo' := [(2, .int (m2 + 4)), (1, .int (m1 + 1)), (0, .ref (ad 0))]) X dX8_readsPeople_131 rfl rfl (by decide) rfl ?_
        refine mj_iload_n X dX8_readsPeople_134 0 rfl ?_
        refine mj_aload_n X dX8_readsPeople_135 2 rfl ?_
        refine mj_get X inwX8_readsPeople_X8 (my_at my_oX8 h27) rfl 0 (by decide) rfl lnX8_readsPeople_1 rfl dX8_readsPeople_136 ?_
        refine mj_iconst (v := (0 : Int32)) X dX8_readsPeople_139 (by decide) ?_
        refine mj_iald X 0 (my_at my_a1 h27) rfl (by decide) dX8_readsPeople_140 ?_
        refine mj_icmp_ne (tgt := 151) X dX8_readsPeople_141 (by decide) (fun c28 => ?_) (fun c28 => ?_)
        · have hf := mm_f c28 hf
          refine mj_aload_n X dX8_readsPeople_151 2 rfl ?_
          refine mj_iconst (v := (0 : Int32)) X dX8_readsPeople_152 (by decide) ?_
          refine mj_iload_n X dX8_readsPeople_153 0 rfl ?_
          obtain ⟨h29, r30, q31, hf⟩ := mm_c hf
          refine mj_callVi (As := [.int (0 : Int32), .int (m2 + 4)]) (rest := []) X (kX8_byteAt l D t1 t2 cI cZ ad N h27 (0 : Int32) (m2 + 4) h29 r30 q31) (cwV 2 X.2.2.2.2.1 gX8_readsPeople_X8_byteAt rfl rfl rfl (by decide +kernel) ⟨Nat.le_of_ble_eq_true rfl, Nat.le_of_ble_eq_true rfl⟩) (my_at my_oX8 h27) rfl rfl rfl rfl (Nat.le_of_ble_eq_true rfl) ⟨Nat.zero_le _, Nat.zero_le _⟩ dX8_readsPeople_154 ?_
          refine mj_bipush (v := (59 : Int32)) X dX8_readsPeople_157 (by decide) ?_
          refine mj_icmp_eq (tgt := 164) X dX8_readsPeople_159 (by decide) (fun c32 => ?_) (fun c32 => ?_)
          · have hf := mm_t c32 hf
            refine mj_iinc (k := 0) (v := ((m2 + 4) + 1)) (lo' := [(2, .int ((m2 + 4) + 1)), (1, .int (m1 + 1)), (0, .ref (ad 0))]) X dX8_readsPeople_164 rfl rfl (by decide) rfl ?_
            refine mj_goto (tgt := 9) X dX8_readsPeople_167 (by decide) ?_
            exact mj_sub [2, 1, 0] rfl (ih h29 (m1 + 1) ((m2 + 4) + 1) hf)
          · have hf := mm_f c32 hf
            refine mj_iload_n X dX8_readsPeople_162 0 rfl ?_
            exact RET h29 _ _ _ dX8_readsPeople_163 (Option.some.inj hf)
        · have hf := mm_t c28 hf
          refine mj_aload_n X dX8_readsPeople_144 2 rfl ?_
          refine mj_iload_n X dX8_readsPeople_145 1 rfl ?_
          obtain ⟨h33, eh33, hf⟩ := mm_l hf
          refine mj_put X tyX8_ok nmX8 inwX8_readsPeople_X8 (my_at my_oX8 h27) rfl 2 (by decide) rfl lnX8_readsPeople_0 rfl (tyX8_ok 2 (by decide)) rfl rfl (Nat.le_of_ble_eq_true rfl) (my_put my_oX8 eh33 (by simp [mm_up_at, upd])) dX8_readsPeople_146 ?_
          refine mj_iconst (v := (-1 : Int32)) X dX8_readsPeople_149 (by decide) ?_
          exact RET h33 _ _ _ dX8_readsPeople_150 (Option.some.inj hf)
      · have hf := mm_t c3 hf
        refine mj_iload_n X dX8_readsPeople_29 2 rfl ?_
        exact RET h _ _ _ dX8_readsPeople_30 (Option.some.inj hf)
    · have hf := mm_f c2 hf
      refine mj_iload_n X dX8_readsPeople_19 2 rfl ?_
      refine mj_if_le (tgt := 170) X dX8_readsPeople_20 (by decide) (fun c34 => ?_) (fun c34 => ?_)
      · have hf := mm_t c34 hf
        exact mj_sub [] rfl (HK h hf)
      · have hf := mm_f c34 hf
        refine mj_iload_n X dX8_readsPeople_23 1 rfl ?_
        refine mj_bipush (v := (6 : Int32)) X dX8_readsPeople_24 (by decide) ?_
        refine mj_icmp_ne (tgt := 31) X dX8_readsPeople_26 (by decide) (fun c35 => ?_) (fun c35 => ?_)
        · have hf := mm_f c35 hf
          refine mj_iconst (v := (0 : Int32)) X dX8_readsPeople_31 (by decide) ?_
          refine mj_istore_n (lo' := [(3, .int (0 : Int32)), (0, .ref (ad 0)), (1, .int m1), (2, .int m2)]) X dX8_readsPeople_32 (by decide) rfl ?_
          refine mj_sub [1, 2, 3, 0] rfl (wX8_readsPeople_L33 X out RET N m1 m2 _ (fun h36 hf => ?_) N h (0 : Int32) hf)
          refine mj_aload_n X dX8_readsPeople_66 0 rfl ?_
          refine mj_get X inwX8_readsPeople_X8 (my_at my_oX8 h36) rfl 3 (by decide) rfl lnX8_readsPeople_2 rfl dX8_readsPeople_67 ?_
          refine mj_iload_n X dX8_readsPeople_70 1 rfl ?_
          refine mj_bipush (v := (10 : Int32)) X dX8_readsPeople_71 (by decide) ?_
          refine mj_aload_n X dX8_readsPeople_73 0 rfl ?_
          refine mj_iconst (v := (0 : Int32)) X dX8_readsPeople_74 (by decide) ?_
          refine mj_iload_n X dX8_readsPeople_75 2 rfl ?_
          obtain ⟨h37, r38, q39, hf⟩ := mm_c hf
          refine mj_callVi (As := [.int (0 : Int32), .int m2]) (rest := [.int (10 : Int32), .int m1, .ref (ad 3)]) X (kX8_byteAt l D t1 t2 cI cZ ad N h36 (0 : Int32) m2 h37 r38 q39) (cwV 2 X.2.2.2.2.1 gX8_readsPeople_X8_byteAt rfl rfl rfl (by decide +kernel) ⟨Nat.le_of_ble_eq_true rfl, Nat.le_of_ble_eq_true rfl⟩) (my_at my_oX8 h36) rfl rfl rfl rfl (Nat.le_of_ble_eq_true rfl) ⟨Nat.zero_le _, Nat.zero_le _⟩ dX8_readsPeople_76 ?_
          refine mj_bipush (v := (48 : Int32)) X dX8_readsPeople_79 (by decide) ?_
          refine mj_isub X dX8_readsPeople_81 ?_
          refine mj_imul X dX8_readsPeople_82 ?_
          refine mj_aload_n X dX8_readsPeople_83 0 rfl ?_
          refine mj_iconst (v := (0 : Int32)) X dX8_readsPeople_84 (by decide) ?_
          refine mj_iload_n X dX8_readsPeople_85 2 rfl ?_
          refine mj_iconst (v := (1 : Int32)) X dX8_readsPeople_86 (by decide) ?_
          refine mj_iadd X dX8_readsPeople_87 ?_
          obtain ⟨h40, r41, q42, hf⟩ := mm_c hf
          refine mj_callVi (As := [.int (0 : Int32), .int (m2 + (1 : Int32))]) (rest := [.int ((10 : Int32) * (r38 - (48 : Int32))), .int m1, .ref (ad 3)]) X (kX8_byteAt l D t1 t2 cI cZ ad N h37 (0 : Int32) ((m2 + (1 : Int32))) h40 r41 q42) (cwV 2 X.2.2.2.2.1 gX8_readsPeople_X8_byteAt rfl rfl rfl (by decide +kernel) ⟨Nat.le_of_ble_eq_true rfl, Nat.le_of_ble_eq_true rfl⟩) (my_at my_oX8 h37) rfl rfl rfl rfl (Nat.le_of_ble_eq_true rfl) ⟨Nat.zero_le _, Nat.zero_le _⟩ dX8_readsPeople_88 ?_
          refine mj_iadd X dX8_readsPeople_91 ?_
          refine mj_bipush (v := (48 : Int32)) X dX8_readsPeople_92 (by decide) ?_
          refine mj_isub X dX8_readsPeople_94 ?_
          obtain ⟨g43, hf⟩ := mm_g hf
          obtain ⟨h44, eh44, hf⟩ := mm_l hf
          refine mj_iast X 0 (my_at my_a3 h40) rfl g43 (my_ast my_a3 eh44) dX8_readsPeople_95 ?_
          refine mj_aload_n X dX8_readsPeople_96 0 rfl ?_
          refine mj_get X inwX8_readsPeople_X8 (my_at my_oX8 h44) rfl 4 (by decide) rfl lnX8_readsPeople_3 rfl dX8_readsPeople_97 ?_
          refine mj_iload_n X dX8_readsPeople_100 1 rfl ?_
          refine mj_bipush (v := (10 : Int32)) X dX8_readsPeople_101 (by decide) ?_
          refine mj_aload_n X dX8_readsPeople_103 0 rfl ?_
          refine mj_iconst (v := (0 : Int32)) X dX8_readsPeople_104 (by decide) ?_
          refine mj_iload_n X dX8_readsPeople_105 2 rfl ?_
          refine mj_iconst (v := (2 : Int32)) X dX8_readsPeople_106 (by decide) ?_
          refine mj_iadd X dX8_readsPeople_107 ?_
          obtain ⟨h45, r46, q47, hf⟩ := mm_c hf
          refine mj_callVi (As := [.int (0 : Int32), .int (m2 + (2 : Int32))]) (rest := [.int (10 : Int32), .int m1, .ref (ad 4)]) X (kX8_byteAt l D t1 t2 cI cZ ad N h44 (0 : Int32) ((m2 + (2 : Int32))) h45 r46 q47) (cwV 2 X.2.2.2.2.1 gX8_readsPeople_X8_byteAt rfl rfl rfl (by decide +kernel) ⟨Nat.le_of_ble_eq_true rfl, Nat.le_of_ble_eq_true rfl⟩) (my_at my_oX8 h44) rfl rfl rfl rfl (Nat.le_of_ble_eq_true rfl) ⟨Nat.zero_le _, Nat.zero_le _⟩ dX8_readsPeople_108 ?_
          refine mj_bipush (v := (48 : Int32)) X dX8_readsPeople_111 (by decide) ?_
          refine mj_isub X dX8_readsPeople_113 ?_
          refine mj_imul X dX8_readsPeople_114 ?_
          refine mj_aload_n X dX8_readsPeople_115 0 rfl ?_
          refine mj_iconst (v := (0 : Int32)) X dX8_readsPeople_116 (by decide) ?_
          refine mj_iload_n X dX8_readsPeople_117 2 rfl ?_
          refine mj_iconst (v := (3 : Int32)) X dX8_readsPeople_118 (by decide) ?_
          refine mj_iadd X dX8_readsPeople_119 ?_
          obtain ⟨h48, r49, q50, hf⟩ := mm_c hf
          refine mj_callVi (As := [.int (0 : Int32), .int (m2 + (3 : Int32))]) (rest := [.int ((10 : Int32) * (r46 - (48 : Int32))), .int m1, .ref (ad 4)]) X (kX8_byteAt l D t1 t2 cI cZ ad N h45 (0 : Int32) ((m2 + (3 : Int32))) h48 r49 q50) (cwV 2 X.2.2.2.2.1 gX8_readsPeople_X8_byteAt rfl rfl rfl (by decide +kernel) ⟨Nat.le_of_ble_eq_true rfl, Nat.le_of_ble_eq_true rfl⟩) (my_at my_oX8 h45) rfl rfl rfl rfl (Nat.le_of_ble_eq_true rfl) ⟨Nat.zero_le _, Nat.zero_le _⟩ dX8_readsPeople_120 ?_
          refine mj_iadd X dX8_readsPeople_123 ?_
          refine mj_bipush (v := (48 : Int32)) X dX8_readsPeople_124 (by decide) ?_
          refine mj_isub X dX8_readsPeople_126 ?_
          obtain ⟨h51, eh51, hf⟩ := mm_l hf
          refine mj_iast X 0 (my_at my_a4 h48) rfl g43 (my_ast my_a4 eh51) dX8_readsPeople_127 ?_
          refine mj_iinc (k := 1) (v := (m1 + 1)) (lo' := [(1, .int (m1 + 1)), (0, .ref (ad 0)), (2, .int m2)]) X dX8_readsPeople_128 rfl rfl (by decide) rfl ?_
          refine mj_iinc (k := 2) (v := (m2 + 4)) (lo' := [(2, .int (m2 + 4)), (1, .int (m1 + 1)), (0, .ref (ad 0))]) X dX8_readsPeople_131 rfl rfl (by decide) rfl ?_
          refine mj_iload_n X dX8_readsPeople_134 0 rfl ?_
          refine mj_aload_n X dX8_readsPeople_135 2 rfl ?_
          refine mj_get X inwX8_readsPeople_X8 (my_at my_oX8 h51) rfl 0 (by decide) rfl lnX8_readsPeople_1 rfl dX8_readsPeople_136 ?_
          refine mj_iconst (v := (0 : Int32)) X dX8_readsPeople_139 (by decide) ?_
          refine mj_iald X 0 (my_at my_a1 h51) rfl (by decide) dX8_readsPeople_140 ?_
          refine mj_icmp_ne (tgt := 151) X dX8_readsPeople_141 (by decide) (fun c52 => ?_) (fun c52 => ?_)
          · have hf := mm_f c52 hf
            refine mj_aload_n X dX8_readsPeople_151 2 rfl ?_
            refine mj_iconst (v := (0 : Int32)) X dX8_readsPeople_152 (by decide) ?_
            refine mj_iload_n X dX8_readsPeople_153 0 rfl ?_
            obtain ⟨h53, r54, q55, hf⟩ := mm_c hf
            refine mj_callVi (As := [.int (0 : Int32), .int (m2 + 4)]) (rest := []) X (kX8_byteAt l D t1 t2 cI cZ ad N h51 (0 : Int32) (m2 + 4) h53 r54 q55) (cwV 2 X.2.2.2.2.1 gX8_readsPeople_X8_byteAt rfl rfl rfl (by decide +kernel) ⟨Nat.le_of_ble_eq_true rfl, Nat.le_of_ble_eq_true rfl⟩) (my_at my_oX8 h51) rfl rfl rfl rfl (Nat.le_of_ble_eq_true rfl) ⟨Nat.zero_le _, Nat.zero_le _⟩ dX8_readsPeople_154 ?_
            refine mj_bipush (v := (59 : Int32)) X dX8_readsPeople_157 (by decide) ?_
            refine mj_icmp_eq (tgt := 164) X dX8_readsPeople_159 (by decide) (fun c56 => ?_) (fun c56 => ?_)
            · have hf := mm_t c56 hf
              refine mj_iinc (k := 0) (v := ((m2 + 4) + 1)) (lo' := [(2, .int ((m2 + 4) + 1)), (1, .int (m1 + 1)), (0, .ref (ad 0))]) X dX8_readsPeople_164 rfl rfl (by decide) rfl ?_
              refine mj_goto (tgt := 9) X dX8_readsPeople_167 (by decide) ?_
              exact mj_sub [2, 1, 0] rfl (ih h53 (m1 + 1) ((m2 + 4) + 1) hf)
            · have hf := mm_f c56 hf
              refine mj_iload_n X dX8_readsPeople_162 0 rfl ?_
              exact RET h53 _ _ _ dX8_readsPeople_163 (Option.some.inj hf)
          · have hf := mm_t c52 hf
            refine mj_aload_n X dX8_readsPeople_144 2 rfl ?_
            refine mj_iload_n X dX8_readsPeople_145 1 rfl ?_
            obtain ⟨h57, eh57, hf⟩ := mm_l hf
            refine mj_put X tyX8_ok nmX8 inwX8_readsPeople_X8 (my_at my_oX8 h51) rfl 2 (by decide) rfl lnX8_readsPeople_0 rfl (tyX8_ok 2 (by decide)) rfl rfl (Nat.le_of_ble_eq_true rfl) (my_put my_oX8 eh57 (by simp [mm_up_at, upd])) dX8_readsPeople_146 ?_
            refine mj_iconst (v := (-1 : Int32)) X dX8_readsPeople_149 (by decide) ?_
            exact RET h57 _ _ _ dX8_readsPeople_150 (Option.some.inj hf)
        · have hf := mm_t c35 hf
          refine mj_iload_n X dX8_readsPeople_29 2 rfl ?_
          exact RET h _ _ _ dX8_readsPeople_30 (Option.some.inj hf)
set_option maxHeartbeats 4000000 in
set_option maxRecDepth 100000 in
theorem kX8_readsPeople (l : Launch) (D : va_G) (t1 t2 : Nat) (cI : ClassId) (cZ : ClassId) (ad : Nat → Nat)  (N : Nat) (h : mm_M)  (h1 : mm_M) (r : Int32) (hf : fX8_readsPeople N h = some (h1, r)) : mm_Ki l yX8_readsPeople wsX8_readsPeople rmX8_readsPeople D (my_ty cI cZ) t1 t2 (my_w cI cZ ad) [.ref (ad 0)] h r h1 := by
  refine mm_open_i [.ref (ad 0)] h r h1 RX8 (by decide) rfl rfl (Nat.le_of_ble_eq_true rfl) ?_
  intro p e s m below meth c A X hr hlocks
  have RET : ∀ (h : mm_M) (pc : Nat) (lo : List (Nat × Value)) (v : Int32), decode cX8_readsPeople pc = .ok (.ireturn, 1) → (h, v) = (h1, r) → mm_J p l e rmX8_readsPeople s m ([.ref (ad 0)] : List Value).toArray below meth c 0 0 (MQ below (va_Qi (fun (r' : Int32) (u : mm_M) => r' = r ∧ u = h1) (mm_Post D (my_w cI cZ ad) A) A) ([.ref (ad 0)] : List Value).toArray s 0 0 A) D (my_w cI cZ ad) A 4 h pc lo [.int v] := by
    intro h2 pc lo v hd he
    cases he
    exact mj_iret X hr rfl hlocks hd
  generalize hout : (h1, r) = out at hf RET
  unfold fX8_readsPeople at hf
  refine mj_lo (lo' := [(0, .ref (ad 0))]) rfl ?_
  refine mj_aload_n X dX8_readsPeople_0 0 rfl ?_
  refine mj_iconst (v := (0 : Int32)) X dX8_readsPeople_1 (by decide) ?_
  obtain ⟨h1, eh1, hf⟩ := mm_l hf
  refine mj_put X tyX8_ok nmX8 inwX8_readsPeople_X8 (my_at my_oX8 h) rfl 2 (by decide) rfl lnX8_readsPeople_0 rfl (tyX8_ok 2 (by decide)) rfl rfl (Nat.le_of_ble_eq_true rfl) (my_put my_oX8 eh1 (by simp [mm_up_at, upd])) dX8_readsPeople_2 ?_
  refine mj_iconst (v := (0 : Int32)) X dX8_readsPeople_5 (by decide) ?_
  refine mj_istore_n (lo' := [(1, .int (0 : Int32)), (0, .ref (ad 0))]) X dX8_readsPeople_6 (by decide) rfl ?_
  refine mj_iconst (v := (0 : Int32)) X dX8_readsPeople_7 (by decide) ?_
  refine mj_istore_n (lo' := [(2, .int (0 : Int32)), (1, .int (0 : Int32)), (0, .ref (ad 0))]) X dX8_readsPeople_8 (by decide) rfl ?_
  refine mj_sub [2, 1, 0] rfl (wX8_readsPeople_L9 X out RET N _ (fun h58 hf => ?_) N h1 (0 : Int32) (0 : Int32) hf)
  refine mj_iconst (v := (-1 : Int32)) X dX8_readsPeople_170 (by decide) ?_
  exact RET h58 _ _ _ dX8_readsPeople_171 (Option.some.inj hf)
abbrev rmX8_readsRounds : Room := { frames := 1, cells := 0, slots := 0, locals := 22 }
theorem inwX8_readsRounds_X8 : ∀ w ∈ wsX80, w ∈ wsX8_readsRounds := by
  intro w hw
  have h9 : wsX80 = (wsX8_readsRounds.drop 14).take 29 := rfl
  rw [h9] at hw
  exact List.mem_of_mem_drop (List.mem_of_mem_take hw)
theorem lnX8_readsRounds_0 : Cond.fieldLink RX8 97 "RichestPaysModel" "rounds" "I" ∈ wsX8_readsRounds := List.mem_of_getElem? (i := 1) rfl
theorem lnX8_readsRounds_1 : Cond.fieldLink RX8 89 "RichestPaysModel" "people" "I" ∈ wsX8_readsRounds := List.mem_of_getElem? (i := 2) rfl
theorem lnX8_readsRounds_2 : Cond.fieldLink RX8 7 "RichestPaysModel" "typed" "[I" ∈ wsX8_readsRounds := List.mem_of_getElem? (i := 3) rfl
theorem lnX8_readsRounds_3 : Cond.fieldLink RX8 22 "RichestPaysModel" "told" "[I" ∈ wsX8_readsRounds := List.mem_of_getElem? (i := 4) rfl
set_option maxHeartbeats 4000000 in
set_option maxRecDepth 100000 in
theorem wX8_readsRounds_L55 (X : mm_X p s m args c cX8_readsRounds RX8 wsX8_readsRounds 5 D (my_ty cI cZ) t1 t2 A) (out : mm_M × Int32) (RET : ∀ (h : mm_M) (pc : Nat) (lo : List (Nat × Value)) (v : Int32), decode cX8_readsRounds pc = .ok (.ireturn, 1) → (h, v) = out → mm_J p l e rmX8_readsRounds s m args below meth c 0 0 Q D (my_w cI cZ ad) A 5 h pc lo [.int v]) (N : Nat)  (p1 : Int32) (k : mm_M → Int32 → Option (mm_M × Int32)) (HK : ∀ (h : mm_M) (m2 : Int32), k h m2 = some out → mm_J p l e rmX8_readsRounds s m args below meth c 0 0 Q D (my_w cI cZ ad) A 5 h 128 [(0, .ref (ad 0)), (1, .int p1), (2, .int m2)] []) : ∀ (n : Nat) (h : mm_M) (m2 : Int32) (m3 : Int32), fX8_readsRounds_L55 N p1 k n h m2 m3 = some out → mm_J p l e rmX8_readsRounds s m args below meth c 0 0 Q D (my_w cI cZ ad) A 5 h 55 [(0, .ref (ad 0)), (1, .int p1), (2, .int m2), (3, .int m3)] [] := by
  intro n
  induction n with
  | zero =>
    intro h m2 m3 hf
    cases hf
  | succ n ih =>
    intro h m2 m3 hf
    rw [fX8_readsRounds_L55] at hf
    refine mj_iload_n X dX8_readsRounds_55 3 rfl ?_
    refine mj_aload_n X dX8_readsRounds_56 0 rfl ?_
    refine mj_get X inwX8_readsRounds_X8 (my_at my_oX8 h) rfl 2 (by decide) rfl lnX8_readsRounds_1 rfl dX8_readsRounds_57 ?_
    refine mj_icmp_ge (tgt := 128) X dX8_readsRounds_60 (by decide) (fun c5 => ?_) (fun c5 => ?_)
    · have hf := mm_t c5 hf
      exact mj_sub [0, 1, 2] rfl (HK h m2 hf)
    · have hf := mm_f c5 hf
      refine mj_aload_n X dX8_readsRounds_63 0 rfl ?_
      refine mj_iconst (v := (1 : Int32)) X dX8_readsRounds_64 (by decide) ?_
      refine mj_iload_n X dX8_readsRounds_65 2 rfl ?_
      obtain ⟨h6, r7, q8, hf⟩ := mm_c hf
      refine mj_callVi (As := [.int (1 : Int32), .int m2]) (rest := []) X (kX8_byteAt l D t1 t2 cI cZ ad N h (1 : Int32) m2 h6 r7 q8) (cwV 2 X.2.2.2.2.1 gX8_readsRounds_X8_byteAt rfl rfl rfl (by decide +kernel) ⟨Nat.le_of_ble_eq_true rfl, Nat.le_of_ble_eq_true rfl⟩) (my_at my_oX8 h) rfl rfl rfl rfl (Nat.le_of_ble_eq_true rfl) ⟨Nat.zero_le _, Nat.zero_le _⟩ dX8_readsRounds_66 ?_
      refine mj_istore (lo' := [(4, .int r7), (0, .ref (ad 0)), (1, .int p1), (2, .int m2), (3, .int m3)]) X dX8_readsRounds_69 (by decide) rfl ?_
      refine mj_iload X dX8_readsRounds_71 0 rfl ?_
      refine mj_bipush (v := (45 : Int32)) X dX8_readsRounds_73 (by decide) ?_
      refine mj_icmp_eq (tgt := 92) X dX8_readsRounds_75 (by decide) (fun c9 => ?_) (fun c9 => ?_)
      · have hf := mm_t c9 hf
        refine mj_aload_n X dX8_readsRounds_92 1 rfl ?_
        refine mj_get X inwX8_readsRounds_X8 (my_at my_oX8 h6) rfl 6 (by decide) rfl lnX8_readsRounds_3 rfl dX8_readsRounds_93 ?_
        refine mj_bipush (v := (6 : Int32)) X dX8_readsRounds_96 (by decide) ?_
        refine mj_iload_n X dX8_readsRounds_98 2 rfl ?_
        refine mj_imul X dX8_readsRounds_99 ?_
        refine mj_iload_n X dX8_readsRounds_100 4 rfl ?_
        refine mj_iadd X dX8_readsRounds_101 ?_
        refine mj_iload X dX8_readsRounds_102 0 rfl ?_
        refine mj_bipush (v := (45 : Int32)) X dX8_readsRounds_104 (by decide) ?_
        refine mj_icmp_ne (tgt := 113) X dX8_readsRounds_106 (by decide) (fun c10 => absurd c9 c10) (fun _ => ?_)
        refine mj_iconst (v := (-1 : Int32)) X dX8_readsRounds_109 (by decide) ?_
        refine mj_goto (tgt := 118) X dX8_readsRounds_110 (by decide) ?_
        obtain ⟨g11, hf⟩ := mm_g hf
        obtain ⟨h12, eh12, hf⟩ := mm_l hf
        refine mj_iast X 0 (my_at my_a5 h6) rfl g11 (my_ast my_a5 eh12) dX8_readsRounds_118 ?_
        refine mj_iinc (k := 3) (v := (m2 + 1)) (lo' := [(2, .int (m2 + 1)), (4, .int r7), (0, .ref (ad 0)), (1, .int p1), (3, .int m3)]) X dX8_readsRounds_119 rfl rfl (by decide) rfl ?_
        refine mj_iinc (k := 4) (v := (m3 + 1)) (lo' := [(3, .int (m3 + 1)), (2, .int (m2 + 1)), (4, .int r7), (0, .ref (ad 0)), (1, .int p1)]) X dX8_readsRounds_122 rfl rfl (by decide) rfl ?_
        refine mj_goto (tgt := 55) X dX8_readsRounds_125 (by decide) ?_
        exact mj_sub [3, 4, 1, 0] rfl (ih h12 (m2 + 1) (m3 + 1) hf)
      · have hf := mm_f c9 hf
        refine mj_iload X dX8_readsRounds_78 0 rfl ?_
        refine mj_bipush (v := (48 : Int32)) X dX8_readsRounds_80 (by decide) ?_
        refine mj_bipush (v := (53 : Int32)) X dX8_readsRounds_82 (by decide) ?_
        obtain ⟨h13, r14, q15, hf⟩ := mm_c hf
        refine mj_callSi (As := [.int r7, .int (48 : Int32), .int (53 : Int32)]) (rest := []) X (kX8_in l D t1 t2 cI cZ ad N h6 r7 (48 : Int32) (53 : Int32) h13 r14 q15) (va_cwS 3 X.2.2.2.2.1 gX8_readsRounds_X8_in rfl rfl rfl (by decide +kernel) ⟨Nat.le_of_ble_eq_true rfl, Nat.le_of_ble_eq_true rfl⟩) rfl rfl (Nat.le_of_ble_eq_true rfl) ⟨Nat.zero_le _, Nat.zero_le _⟩ dX8_readsRounds_84 ?_
        refine mj_if_ne (tgt := 92) X dX8_readsRounds_87 (by decide) (fun c16 => ?_) (fun c16 => ?_)
        · have hf := mm_f c16 hf
          refine mj_aload_n X dX8_readsRounds_92 1 rfl ?_
          refine mj_get X inwX8_readsRounds_X8 (my_at my_oX8 h13) rfl 6 (by decide) rfl lnX8_readsRounds_3 rfl dX8_readsRounds_93 ?_
          refine mj_bipush (v := (6 : Int32)) X dX8_readsRounds_96 (by decide) ?_
          refine mj_iload_n X dX8_readsRounds_98 2 rfl ?_
          refine mj_imul X dX8_readsRounds_99 ?_
          refine mj_iload_n X dX8_readsRounds_100 4 rfl ?_
          refine mj_iadd X dX8_readsRounds_101 ?_
          refine mj_iload X dX8_readsRounds_102 0 rfl ?_
          refine mj_bipush (v := (45 : Int32)) X dX8_readsRounds_104 (by decide) ?_
          refine mj_icmp_ne (tgt := 113) X dX8_readsRounds_106 (by decide) (fun _ => ?_) (fun c17 => absurd c17 c9)
          refine mj_iload X dX8_readsRounds_113 0 rfl ?_
          refine mj_bipush (v := (48 : Int32)) X dX8_readsRounds_115 (by decide) ?_
          refine mj_isub X dX8_readsRounds_117 ?_
          obtain ⟨g18, hf⟩ := mm_g hf
          obtain ⟨h19, eh19, hf⟩ := mm_l hf
          refine mj_iast X 0 (my_at my_a5 h13) rfl g18 (my_ast my_a5 eh19) dX8_readsRounds_118 ?_
          refine mj_iinc (k := 3) (v := (m2 + 1)) (lo' := [(2, .int (m2 + 1)), (4, .int r7), (0, .ref (ad 0)), (1, .int p1), (3, .int m3)]) X dX8_readsRounds_119 rfl rfl (by decide) rfl ?_
          refine mj_iinc (k := 4) (v := (m3 + 1)) (lo' := [(3, .int (m3 + 1)), (2, .int (m2 + 1)), (4, .int r7), (0, .ref (ad 0)), (1, .int p1)]) X dX8_readsRounds_122 rfl rfl (by decide) rfl ?_
          refine mj_goto (tgt := 55) X dX8_readsRounds_125 (by decide) ?_
          exact mj_sub [3, 4, 1, 0] rfl (ih h19 (m2 + 1) (m3 + 1) hf)
        · have hf := mm_t c16 hf
          refine mj_iload_n X dX8_readsRounds_90 3 rfl ?_
          exact RET h13 _ _ _ dX8_readsRounds_91 (Option.some.inj hf)
set_option maxHeartbeats 4000000 in
set_option maxRecDepth 100000 in
theorem wX8_readsRounds_L31 (X : mm_X p s m args c cX8_readsRounds RX8 wsX8_readsRounds 5 D (my_ty cI cZ) t1 t2 A) (out : mm_M × Int32) (RET : ∀ (h : mm_M) (pc : Nat) (lo : List (Nat × Value)) (v : Int32), decode cX8_readsRounds pc = .ok (.ireturn, 1) → (h, v) = out → mm_J p l e rmX8_readsRounds s m args below meth c 0 0 Q D (my_w cI cZ ad) A 5 h pc lo [.int v]) (N : Nat)   (k : mm_M → Option (mm_M × Int32)) (HK : ∀ (h : mm_M), k h = some out → mm_J p l e rmX8_readsRounds s m args below meth c 0 0 Q D (my_w cI cZ ad) A 5 h 167 [] []) : ∀ (n : Nat) (h : mm_M) (m1 : Int32) (m2 : Int32), fX8_readsRounds_L31 N k n h m1 m2 = some out → mm_J p l e rmX8_readsRounds s m args below meth c 0 0 Q D (my_w cI cZ ad) A 5 h 31 [(0, .ref (ad 0)), (1, .int m1), (2, .int m2)] [] := by
  intro n
  induction n with
  | zero =>
    intro h m1 m2 hf
    cases hf
  | succ n ih =>
    intro h m1 m2 hf
    rw [fX8_readsRounds_L31] at hf
    refine mj_iload_n X dX8_readsRounds_31 2 rfl ?_
    refine mj_aload_n X dX8_readsRounds_32 0 rfl ?_
    refine mj_get X inwX8_readsRounds_X8 (my_at my_oX8 h) rfl 0 (by decide) rfl lnX8_readsRounds_2 rfl dX8_readsRounds_33 ?_
    refine mj_iconst (v := (1 : Int32)) X dX8_readsRounds_36 (by decide) ?_
    refine mj_iald X 0 (my_at my_a1 h) rfl (by decide) dX8_readsRounds_37 ?_
    refine mj_icmp_lt (tgt := 45) X dX8_readsRounds_38 (by decide) (fun c3 => ?_) (fun c3 => ?_)
    · have hf := mm_t c3 hf
      refine mj_iload_n X dX8_readsRounds_45 1 rfl ?_
      refine mj_bipush (v := (8 : Int32)) X dX8_readsRounds_46 (by decide) ?_
      refine mj_icmp_ne (tgt := 53) X dX8_readsRounds_48 (by decide) (fun c4 => ?_) (fun c4 => ?_)
      · have hf := mm_f c4 hf
        refine mj_iconst (v := (0 : Int32)) X dX8_readsRounds_53 (by decide) ?_
        refine mj_istore_n (lo' := [(3, .int (0 : Int32)), (0, .ref (ad 0)), (1, .int m1), (2, .int m2)]) X dX8_readsRounds_54 (by decide) rfl ?_
        refine mj_sub [1, 2, 3, 0] rfl (wX8_readsRounds_L55 X out RET N m1 _ (fun h20 v21 hf => ?_) N h m2 (0 : Int32) hf)
        refine mj_iinc (k := 1) (v := (m1 + 1)) (lo' := [(1, .int (m1 + 1)), (0, .ref (ad 0)), (2, .int v21)]) X dX8_readsRounds_128 rfl rfl (by decide) rfl ?_
        refine mj_iload_n X dX8_readsRounds_131 2 rfl ?_
        refine mj_aload_n X dX8_readsRounds_132 1 rfl ?_
        refine mj_get X inwX8_readsRounds_X8 (my_at my_oX8 h20) rfl 0 (by decide) rfl lnX8_readsRounds_2 rfl dX8_readsRounds_133 ?_
        refine mj_iconst (v := (1 : Int32)) X dX8_readsRounds_136 (by decide) ?_
        refine mj_iald X 0 (my_at my_a1 h20) rfl (by decide) dX8_readsRounds_137 ?_
        refine mj_icmp_ne (tgt := 148) X dX8_readsRounds_138 (by decide) (fun c22 => ?_) (fun c22 => ?_)
        · have hf := mm_f c22 hf
          refine mj_aload_n X dX8_readsRounds_148 1 rfl ?_
          refine mj_iconst (v := (1 : Int32)) X dX8_readsRounds_149 (by decide) ?_
          refine mj_iload_n X dX8_readsRounds_150 2 rfl ?_
          obtain ⟨h23, r24, q25, hf⟩ := mm_c hf
          refine mj_callVi (As := [.int (1 : Int32), .int v21]) (rest := []) X (kX8_byteAt l D t1 t2 cI cZ ad N h20 (1 : Int32) v21 h23 r24 q25) (cwV 2 X.2.2.2.2.1 gX8_readsRounds_X8_byteAt rfl rfl rfl (by decide +kernel) ⟨Nat.le_of_ble_eq_true rfl, Nat.le_of_ble_eq_true rfl⟩) (my_at my_oX8 h20) rfl rfl rfl rfl (Nat.le_of_ble_eq_true rfl) ⟨Nat.zero_le _, Nat.zero_le _⟩ dX8_readsRounds_151 ?_
          refine mj_bipush (v := (59 : Int32)) X dX8_readsRounds_154 (by decide) ?_
          refine mj_icmp_eq (tgt := 161) X dX8_readsRounds_156 (by decide) (fun c26 => ?_) (fun c26 => ?_)
          · have hf := mm_t c26 hf
            refine mj_iinc (k := 2) (v := (v21 + 1)) (lo' := [(2, .int (v21 + 1)), (1, .int (m1 + 1)), (0, .ref (ad 0))]) X dX8_readsRounds_161 rfl rfl (by decide) rfl ?_
            refine mj_goto (tgt := 31) X dX8_readsRounds_164 (by decide) ?_
            exact mj_sub [2, 1, 0] rfl (ih h23 (m1 + 1) (v21 + 1) hf)
          · have hf := mm_f c26 hf
            refine mj_iload_n X dX8_readsRounds_159 2 rfl ?_
            exact RET h23 _ _ _ dX8_readsRounds_160 (Option.some.inj hf)
        · have hf := mm_t c22 hf
          refine mj_aload_n X dX8_readsRounds_141 1 rfl ?_
          refine mj_iload_n X dX8_readsRounds_142 0 rfl ?_
          obtain ⟨h27, eh27, hf⟩ := mm_l hf
          refine mj_put X tyX8_ok nmX8 inwX8_readsRounds_X8 (my_at my_oX8 h20) rfl 5 (by decide) rfl lnX8_readsRounds_0 rfl (tyX8_ok 5 (by decide)) rfl rfl (Nat.le_of_ble_eq_true rfl) (my_put my_oX8 eh27 (by simp [mm_up_at, upd])) dX8_readsRounds_143 ?_
          refine mj_iconst (v := (-1 : Int32)) X dX8_readsRounds_146 (by decide) ?_
          exact RET h27 _ _ _ dX8_readsRounds_147 (Option.some.inj hf)
      · have hf := mm_t c4 hf
        refine mj_iload_n X dX8_readsRounds_51 2 rfl ?_
        exact RET h _ _ _ dX8_readsRounds_52 (Option.some.inj hf)
    · have hf := mm_f c3 hf
      refine mj_iload_n X dX8_readsRounds_41 2 rfl ?_
      refine mj_if_le (tgt := 167) X dX8_readsRounds_42 (by decide) (fun c28 => ?_) (fun c28 => ?_)
      · have hf := mm_t c28 hf
        exact mj_sub [] rfl (HK h hf)
      · have hf := mm_f c28 hf
        refine mj_iload_n X dX8_readsRounds_45 1 rfl ?_
        refine mj_bipush (v := (8 : Int32)) X dX8_readsRounds_46 (by decide) ?_
        refine mj_icmp_ne (tgt := 53) X dX8_readsRounds_48 (by decide) (fun c29 => ?_) (fun c29 => ?_)
        · have hf := mm_f c29 hf
          refine mj_iconst (v := (0 : Int32)) X dX8_readsRounds_53 (by decide) ?_
          refine mj_istore_n (lo' := [(3, .int (0 : Int32)), (0, .ref (ad 0)), (1, .int m1), (2, .int m2)]) X dX8_readsRounds_54 (by decide) rfl ?_
          refine mj_sub [1, 2, 3, 0] rfl (wX8_readsRounds_L55 X out RET N m1 _ (fun h30 v31 hf => ?_) N h m2 (0 : Int32) hf)
          refine mj_iinc (k := 1) (v := (m1 + 1)) (lo' := [(1, .int (m1 + 1)), (0, .ref (ad 0)), (2, .int v31)]) X dX8_readsRounds_128 rfl rfl (by decide) rfl ?_
          refine mj_iload_n X dX8_readsRounds_131 2 rfl ?_
          refine mj_aload_n X dX8_readsRounds_132 1 rfl ?_
          refine mj_get X inwX8_readsRounds_X8 (my_at my_oX8 h30) rfl 0 (by decide) rfl lnX8_readsRounds_2 rfl dX8_readsRounds_133 ?_
          refine mj_iconst (v := (1 : Int32)) X dX8_readsRounds_136 (by decide) ?_
          refine mj_iald X 0 (my_at my_a1 h30) rfl (by decide) dX8_readsRounds_137 ?_
          refine mj_icmp_ne (tgt := 148) X dX8_readsRounds_138 (by decide) (fun c32 => ?_) (fun c32 => ?_)
          · have hf := mm_f c32 hf
            refine mj_aload_n X dX8_readsRounds_148 1 rfl ?_
            refine mj_iconst (v := (1 : Int32)) X dX8_readsRounds_149 (by decide) ?_
            refine mj_iload_n X dX8_readsRounds_150 2 rfl ?_
            obtain ⟨h33, r34, q35, hf⟩ := mm_c hf
            refine mj_callVi (As := [.int (1 : Int32), .int v31]) (rest := []) X (kX8_byteAt l D t1 t2 cI cZ ad N h30 (1 : Int32) v31 h33 r34 q35) (cwV 2 X.2.2.2.2.1 gX8_readsRounds_X8_byteAt rfl rfl rfl (by decide +kernel) ⟨Nat.le_of_ble_eq_true rfl, Nat.le_of_ble_eq_true rfl⟩) (my_at my_oX8 h30) rfl rfl rfl rfl (Nat.le_of_ble_eq_true rfl) ⟨Nat.zero_le _, Nat.zero_le _⟩ dX8_readsRounds_151 ?_
            refine mj_bipush (v := (59 : Int32)) X dX8_readsRounds_154 (by decide) ?_
            refine mj_icmp_eq (tgt := 161) X dX8_readsRounds_156 (by decide) (fun c36 => ?_) (fun c36 => ?_)
            · have hf := mm_t c36 hf
              refine mj_iinc (k := 2) (v := (v31 + 1)) (lo' := [(2, .int (v31 + 1)), (1, .int (m1 + 1)), (0, .ref (ad 0))]) X dX8_readsRounds_161 rfl rfl (by decide) rfl ?_
              refine mj_goto (tgt := 31) X dX8_readsRounds_164 (by decide) ?_
              exact mj_sub [2, 1, 0] rfl (ih h33 (m1 + 1) (v31 + 1) hf)
            · have hf := mm_f c36 hf
              refine mj_iload_n X dX8_readsRounds_159 2 rfl ?_
              exact RET h33 _ _ _ dX8_readsRounds_160 (Option.some.inj hf)
          · have hf := mm_t c32 hf
            refine mj_aload_n X dX8_readsRounds_141 1 rfl ?_
            refine mj_iload_n X dX8_readsRounds_142 0 rfl ?_
            obtain ⟨h37, eh37, hf⟩ := mm_l hf
            refine mj_put X tyX8_ok nmX8 inwX8_readsRounds_X8 (my_at my_oX8 h30) rfl 5 (by decide) rfl lnX8_readsRounds_0 rfl (tyX8_ok 5 (by decide)) rfl rfl (Nat.le_of_ble_eq_true rfl) (my_put my_oX8 eh37 (by simp [mm_up_at, upd])) dX8_readsRounds_143 ?_
            refine mj_iconst (v := (-1 : Int32)) X dX8_readsRounds_146 (by decide) ?_
            exact RET h37 _ _ _ dX8_readsRounds_147 (Option.some.inj hf)
        · have hf := mm_t c29 hf
          refine mj_iload_n X dX8_readsRounds_51 2 rfl ?_
          exact RET h _ _ _ dX8_readsRounds_52 (Option.some.inj hf)
set_option maxHeartbeats 4000000 in
set_option maxRecDepth 100000 in
theorem kX8_readsRounds (l : Launch) (D : va_G) (t1 t2 : Nat) (cI : ClassId) (cZ : ClassId) (ad : Nat → Nat)  (N : Nat) (h : mm_M)  (h1 : mm_M) (r : Int32) (hf : fX8_readsRounds N h = some (h1, r)) : mm_Ki l yX8_readsRounds wsX8_readsRounds rmX8_readsRounds D (my_ty cI cZ) t1 t2 (my_w cI cZ ad) [.ref (ad 0)] h r h1 := by
  refine mm_open_i [.ref (ad 0)] h r h1 RX8 (by decide) rfl rfl (Nat.le_of_ble_eq_true rfl) ?_
  intro p e s m below meth c A X hr hlocks
  have RET : ∀ (h : mm_M) (pc : Nat) (lo : List (Nat × Value)) (v : Int32), decode cX8_readsRounds pc = .ok (.ireturn, 1) → (h, v) = (h1, r) → mm_J p l e rmX8_readsRounds s m ([.ref (ad 0)] : List Value).toArray below meth c 0 0 (MQ below (va_Qi (fun (r' : Int32) (u : mm_M) => r' = r ∧ u = h1) (mm_Post D (my_w cI cZ ad) A) A) ([.ref (ad 0)] : List Value).toArray s 0 0 A) D (my_w cI cZ ad) A 5 h pc lo [.int v] := by
    intro h2 pc lo v hd he
    cases he
    exact mj_iret X hr rfl hlocks hd
  generalize hout : (h1, r) = out at hf RET
  unfold fX8_readsRounds at hf
  refine mj_lo (lo' := [(0, .ref (ad 0))]) rfl ?_
  refine mj_aload_n X dX8_readsRounds_0 0 rfl ?_
  refine mj_iconst (v := (0 : Int32)) X dX8_readsRounds_1 (by decide) ?_
  obtain ⟨h1, eh1, hf⟩ := mm_l hf
  refine mj_put X tyX8_ok nmX8 inwX8_readsRounds_X8 (my_at my_oX8 h) rfl 5 (by decide) rfl lnX8_readsRounds_0 rfl (tyX8_ok 5 (by decide)) rfl rfl (Nat.le_of_ble_eq_true rfl) (my_put my_oX8 eh1 (by simp [mm_up_at, upd])) dX8_readsRounds_2 ?_
  refine mj_aload_n X dX8_readsRounds_5 0 rfl ?_
  refine mj_get X inwX8_readsRounds_X8 (my_at my_oX8 h1) rfl 2 (by decide) rfl lnX8_readsRounds_1 rfl dX8_readsRounds_6 ?_
  refine mj_if_ne (tgt := 27) X dX8_readsRounds_9 (by decide) (fun c2 => ?_) (fun c2 => ?_)
  · have hf := mm_f c2 hf
    refine mj_iconst (v := (0 : Int32)) X dX8_readsRounds_27 (by decide) ?_
    refine mj_istore_n (lo' := [(1, .int (0 : Int32)), (0, .ref (ad 0))]) X dX8_readsRounds_28 (by decide) rfl ?_
    refine mj_iconst (v := (0 : Int32)) X dX8_readsRounds_29 (by decide) ?_
    refine mj_istore_n (lo' := [(2, .int (0 : Int32)), (1, .int (0 : Int32)), (0, .ref (ad 0))]) X dX8_readsRounds_30 (by decide) rfl ?_
    refine mj_sub [2, 1, 0] rfl (wX8_readsRounds_L31 X out RET N _ (fun h38 hf => ?_) N h1 (0 : Int32) (0 : Int32) hf)
    refine mj_iconst (v := (-1 : Int32)) X dX8_readsRounds_167 (by decide) ?_
    exact RET h38 _ _ _ dX8_readsRounds_168 (Option.some.inj hf)
  · have hf := mm_t c2 hf
    refine mj_aload_n X dX8_readsRounds_12 0 rfl ?_
    refine mj_get X inwX8_readsRounds_X8 (my_at my_oX8 h1) rfl 0 (by decide) rfl lnX8_readsRounds_2 rfl dX8_readsRounds_13 ?_
    refine mj_iconst (v := (1 : Int32)) X dX8_readsRounds_16 (by decide) ?_
    refine mj_iald X 0 (my_at my_a1 h1) rfl (by decide) dX8_readsRounds_17 ?_
    refine mj_if_le (tgt := 25) X dX8_readsRounds_18 (by decide) (fun c39 => ?_) (fun c39 => ?_)
    · have hf := mm_t c39 hf
      refine mj_iconst (v := (-1 : Int32)) X dX8_readsRounds_25 (by decide) ?_
      exact RET h1 _ _ _ dX8_readsRounds_26 (Option.some.inj hf)
    · have hf := mm_f c39 hf
      refine mj_iconst (v := (0 : Int32)) X dX8_readsRounds_21 (by decide) ?_
      refine mj_goto (tgt := 26) X dX8_readsRounds_22 (by decide) ?_
      exact RET h1 _ _ _ dX8_readsRounds_26 (Option.some.inj hf)
end
