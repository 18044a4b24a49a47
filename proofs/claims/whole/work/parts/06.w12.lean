section
variable {p : Program} {l : Launch} {e : Env} {s : State} {m : MethodId} {args : Array Value} {below : List Frame} {meth : Method} {c : Code} {Q : State → Prop} {D : va_G} {A : Nat → Prop} {t1 t2 : Nat} {cI cT cS cZ : ClassId} {ad : Nat → Nat}
abbrev rmX8_luckOf : Room := { frames := 1, cells := 0, slots := 0, locals := 30 }
set_option maxHeartbeats 4000000 in
set_option maxRecDepth 100000 in
theorem wX8_luckOf_L25 (X : mm_X p s m args c cX8_luckOf RX8 wsX8_luckOf 10 D (my_ty cI cZ) t1 t2 A) (out : mm_M × Int64) (RET : ∀ (h : mm_M) (pc : Nat) (lo : List (Nat × Value)) (v : Int64), decode cX8_luckOf pc = .ok (.lreturn, 1) → (h, v) = out → mm_J p l e rmX8_luckOf s m args below meth c 0 0 Q D (my_w cI cZ ad) A 10 h pc lo [.long v]) (N : Nat)  (p0 : Int32) (p2 : Int32) (p3 : Int32) (p4 : Int32) (k : mm_M → Int64 → Int64 → Option (mm_M × Int64)) (HK : ∀ (h : mm_M) (m5 : Int64) (m7 : Int64), k h m5 m7 = some out → mm_J p l e rmX8_luckOf s m args below meth c 0 0 Q D (my_w cI cZ ad) A 10 h 54 [(3, .int p3), (5, .long m5), (7, .long m7)] []) : ∀ (n : Nat) (h : mm_M) (m5 : Int64) (m7 : Int64) (m9 : Int32), fX8_luckOf_L25 N p0 p2 p3 p4 k n h m5 m7 m9 = some out → mm_J p l e rmX8_luckOf s m args below meth c 0 0 Q D (my_w cI cZ ad) A 10 h 25 [(0, .int p0), (2, .int p2), (3, .int p3), (4, .int p4), (5, .long m5), (7, .long m7), (9, .int m9)] [] := by
  intro n
  induction n with
  | zero =>
    intro h m5 m7 m9 hf
    cases hf
  | succ n ih =>
    intro h m5 m7 m9 hf
    rw [fX8_luckOf_L25] at hf
    refine mj_iload X dX8_luckOf_25 6 rfl ?_
    refine mj_iload_n X dX8_luckOf_27 0 rfl ?_
    refine mj_icmp_ge (tgt := 54) X dX8_luckOf_28 (by decide) (fun c3 => ?_) (fun c3 => ?_)
    · have hf := mm_t c3 hf
      exact mj_sub [2, 4, 5] rfl (HK h m5 m7 hf)
    · have hf := mm_f c3 hf
      refine mj_lload X dX8_luckOf_31 4 rfl ?_
      refine mj_iload X dX8_luckOf_33 3 rfl ?_
      refine mj_i2l X dX8_luckOf_35 ?_
      refine mj_lmul X dX8_luckOf_36 ?_
      obtain ⟨x4, ex4, hf⟩ := mm_l hf
      refine mj_topl ex4 ?_
      refine mj_lstore (lo' := [(5, .long x4), (0, .int p0), (2, .int p2), (3, .int p3), (4, .int p4), (7, .long m7), (9, .int m9)]) X dX8_luckOf_37 (by decide) rfl ?_
      refine mj_lload X dX8_luckOf_39 5 rfl ?_
      refine mj_iload_n X dX8_luckOf_41 2 rfl ?_
      refine mj_iconst (v := (1 : Int32)) X dX8_luckOf_42 (by decide) ?_
      refine mj_iadd X dX8_luckOf_43 ?_
      refine mj_i2l X dX8_luckOf_44 ?_
      refine mj_lmul X dX8_luckOf_45 ?_
      obtain ⟨x5, ex5, hf⟩ := mm_l hf
      refine mj_topl ex5 ?_
      refine mj_lstore (lo' := [(7, .long x5), (5, .long x4), (0, .int p0), (2, .int p2), (3, .int p3), (4, .int p4), (9, .int m9)]) X dX8_luckOf_46 (by decide) rfl ?_
      refine mj_iinc (k := 6) (v := (m9 + 1)) (lo' := [(9, .int (m9 + 1)), (7, .long x5), (5, .long x4), (0, .int p0), (2, .int p2), (3, .int p3), (4, .int p4)]) X dX8_luckOf_48 rfl rfl (by decide) rfl ?_
      refine mj_goto (tgt := 25) X dX8_luckOf_51 (by decide) ?_
      exact mj_sub [3, 4, 5, 6, 2, 1, 0] rfl (ih h x4 x5 (m9 + 1) hf)
set_option maxHeartbeats 4000000 in
set_option maxRecDepth 100000 in
theorem kX8_luckOf (l : Launch) (D : va_G) (t1 t2 : Nat) (cI : ClassId) (cZ : ClassId) (ad : Nat → Nat)  (N : Nat) (h : mm_M) (a0 : Int32) (a1 : Int32) (a2 : Int32) (a3 : Int32) (h1 : mm_M) (r : Int64) (hf : fX8_luckOf N h a0 a1 a2 a3 = some (h1, r)) : mm_Kl l yX8_luckOf wsX8_luckOf rmX8_luckOf D (my_ty cI cZ) t1 t2 (my_w cI cZ ad) [.int a0, .int a1, .int a2, .int a3] h r h1 := by
  refine mm_open_l [.int a0, .int a1, .int a2, .int a3] h r h1 RX8 (by decide) rfl rfl (Nat.le_of_ble_eq_true rfl) ?_
  intro p e s m below meth c A X hr hlocks
  have RET : ∀ (h : mm_M) (pc : Nat) (lo : List (Nat × Value)) (v : Int64), decode cX8_luckOf pc = .ok (.lreturn, 1) → (h, v) = (h1, r) → mm_J p l e rmX8_luckOf s m ([.int a0, .int a1, .int a2, .int a3] : List Value).toArray below meth c 0 0 (MQ below (va_Ql (fun (r' : Int64) (u : mm_M) => r' = r ∧ u = h1) (mm_Post D (my_w cI cZ ad) A) A) ([.int a0, .int a1, .int a2, .int a3] : List Value).toArray s 0 0 A) D (my_w cI cZ ad) A 10 h pc lo [.long v] := by
    intro h2 pc lo v hd he
    cases he
    exact mj_lret X hr hlocks hd
  generalize hout : (h1, r) = out at hf RET
  unfold fX8_luckOf at hf
  refine mj_lo (lo' := [(0, .int a0), (1, .int a1), (2, .int a2), (3, .int a3)]) rfl ?_
  refine mj_iload_n X dX8_luckOf_0 1 rfl ?_
  refine mj_iload_n X dX8_luckOf_1 2 rfl ?_
  refine mj_iconst (v := (1 : Int32)) X dX8_luckOf_2 (by decide) ?_
  refine mj_iadd X dX8_luckOf_3 ?_
  refine mj_icmp_ge (tgt := 11) X dX8_luckOf_4 (by decide) (fun c1 => ?_) (fun c1 => ?_)
  · have hf := mm_t c1 hf
    refine mj_iload_n X dX8_luckOf_11 2 rfl ?_
    refine mj_iconst (v := (1 : Int32)) X dX8_luckOf_12 (by decide) ?_
    refine mj_iadd X dX8_luckOf_13 ?_
    obtain ⟨x2, ex2, hf⟩ := mm_l hf
    refine mj_topi ex2 ?_
    refine mj_istore (lo' := [(4, .int x2), (0, .int a0), (1, .int a1), (2, .int a2), (3, .int a3)]) X dX8_luckOf_14 (by decide) rfl ?_
    refine mj_lconst (v := (1 : Int64)) X dX8_luckOf_16 (by decide) ?_
    refine mj_lstore (lo' := [(5, .long (1 : Int64)), (4, .int x2), (0, .int a0), (1, .int a1), (2, .int a2), (3, .int a3)]) X dX8_luckOf_17 (by decide) rfl ?_
    refine mj_lconst (v := (1 : Int64)) X dX8_luckOf_19 (by decide) ?_
    refine mj_lstore (lo' := [(7, .long (1 : Int64)), (5, .long (1 : Int64)), (4, .int x2), (0, .int a0), (1, .int a1), (2, .int a2), (3, .int a3)]) X dX8_luckOf_20 (by decide) rfl ?_
    refine mj_iconst (v := (0 : Int32)) X dX8_luckOf_22 (by decide) ?_
    refine mj_istore (lo' := [(9, .int (0 : Int32)), (7, .long (1 : Int64)), (5, .long (1 : Int64)), (4, .int x2), (0, .int a0), (1, .int a1), (2, .int a2), (3, .int a3)]) X dX8_luckOf_23 (by decide) rfl ?_
    refine mj_sub [4, 6, 7, 3, 2, 1, 0] rfl (wX8_luckOf_L25 X out RET N a0 a2 a3 x2 _ (fun h6 v7 v8 hf => ?_) N h (1 : Int64) (1 : Int64) (0 : Int32) hf)
    refine mj_lload X dX8_luckOf_54 1 rfl ?_
    refine mj_lload X dX8_luckOf_56 2 rfl ?_
    refine mj_iload_n X dX8_luckOf_58 0 rfl ?_
    obtain ⟨h9, r10, q11, hf⟩ := mm_c hf
    refine mj_callSl (As := [.long v7, .long v8, .int a3]) (rest := []) X (kX8_lowest l D t1 t2 cI cZ ad N h6 v7 v8 a3 h9 r10 q11) (va_cwS 3 X.2.2.2.2.1 gX8_luckOf_X8_lowest rfl rfl rfl (by decide +kernel) ⟨Nat.le_of_ble_eq_true rfl, Nat.le_of_ble_eq_true rfl⟩) rfl rfl (Nat.le_of_ble_eq_true rfl) ⟨Nat.zero_le _, Nat.zero_le _⟩ dX8_luckOf_59 ?_
    exact RET h9 _ _ _ dX8_luckOf_62 (Option.some.inj hf)
  · have hf := mm_f c1 hf
    refine mj_iload_n X dX8_luckOf_7 1 rfl ?_
    refine mj_goto (tgt := 14) X dX8_luckOf_8 (by decide) ?_
    refine mj_istore (lo' := [(4, .int a1), (0, .int a0), (1, .int a1), (2, .int a2), (3, .int a3)]) X dX8_luckOf_14 (by decide) rfl ?_
    refine mj_lconst (v := (1 : Int64)) X dX8_luckOf_16 (by decide) ?_
    refine mj_lstore (lo' := [(5, .long (1 : Int64)), (4, .int a1), (0, .int a0), (1, .int a1), (2, .int a2), (3, .int a3)]) X dX8_luckOf_17 (by decide) rfl ?_
    refine mj_lconst (v := (1 : Int64)) X dX8_luckOf_19 (by decide) ?_
    refine mj_lstore (lo' := [(7, .long (1 : Int64)), (5, .long (1 : Int64)), (4, .int a1), (0, .int a0), (1, .int a1), (2, .int a2), (3, .int a3)]) X dX8_luckOf_20 (by decide) rfl ?_
    refine mj_iconst (v := (0 : Int32)) X dX8_luckOf_22 (by decide) ?_
    refine mj_istore (lo' := [(9, .int (0 : Int32)), (7, .long (1 : Int64)), (5, .long (1 : Int64)), (4, .int a1), (0, .int a0), (1, .int a1), (2, .int a2), (3, .int a3)]) X dX8_luckOf_23 (by decide) rfl ?_
    refine mj_sub [4, 6, 7, 3, 2, 1, 0] rfl (wX8_luckOf_L25 X out RET N a0 a2 a3 a1 _ (fun h12 v13 v14 hf => ?_) N h (1 : Int64) (1 : Int64) (0 : Int32) hf)
    refine mj_lload X dX8_luckOf_54 1 rfl ?_
    refine mj_lload X dX8_luckOf_56 2 rfl ?_
    refine mj_iload_n X dX8_luckOf_58 0 rfl ?_
    obtain ⟨h15, r16, q17, hf⟩ := mm_c hf
    refine mj_callSl (As := [.long v13, .long v14, .int a3]) (rest := []) X (kX8_lowest l D t1 t2 cI cZ ad N h12 v13 v14 a3 h15 r16 q17) (va_cwS 3 X.2.2.2.2.1 gX8_luckOf_X8_lowest rfl rfl rfl (by decide +kernel) ⟨Nat.le_of_ble_eq_true rfl, Nat.le_of_ble_eq_true rfl⟩) rfl rfl (Nat.le_of_ble_eq_true rfl) ⟨Nat.zero_le _, Nat.zero_le _⟩ dX8_luckOf_59 ?_
    exact RET h15 _ _ _ dX8_luckOf_62 (Option.some.inj hf)
abbrev rmX8_luck : Room := { frames := 2, cells := 0, slots := 0, locals := 59 }
set_option maxHeartbeats 4000000 in
set_option maxRecDepth 100000 in
theorem kX8_luck (l : Launch) (D : va_G) (t1 t2 : Nat) (cI : ClassId) (cZ : ClassId) (ad : Nat → Nat)  (N : Nat) (h : mm_M) (a0 : Int32) (a1 : Int32) (a2 : Int32) (a3 : Int32) (h1 : mm_M) (r : Int64) (hf : fX8_luck N h a0 a1 a2 a3 = some (h1, r)) : mm_Kl l yX8_luck wsX8_luck rmX8_luck D (my_ty cI cZ) t1 t2 (my_w cI cZ ad) [.ref (ad 0), .int a0, .int a1, .int a2, .int a3] h r h1 := by
  refine mm_open_l [.ref (ad 0), .int a0, .int a1, .int a2, .int a3] h r h1 RX8 (by decide) rfl rfl (Nat.le_of_ble_eq_true rfl) ?_
  intro p e s m below meth c A X hr hlocks
  have RET : ∀ (h : mm_M) (pc : Nat) (lo : List (Nat × Value)) (v : Int64), decode cX8_luck pc = .ok (.lreturn, 1) → (h, v) = (h1, r) → mm_J p l e rmX8_luck s m ([.ref (ad 0), .int a0, .int a1, .int a2, .int a3] : List Value).toArray below meth c 0 0 (MQ below (va_Ql (fun (r' : Int64) (u : mm_M) => r' = r ∧ u = h1) (mm_Post D (my_w cI cZ ad) A) A) ([.ref (ad 0), .int a0, .int a1, .int a2, .int a3] : List Value).toArray s 0 0 A) D (my_w cI cZ ad) A 5 h pc lo [.long v] := by
    intro h2 pc lo v hd he
    cases he
    exact mj_lret X hr hlocks hd
  generalize hout : (h1, r) = out at hf RET
  unfold fX8_luck at hf
  refine mj_lo (lo' := [(0, .ref (ad 0)), (1, .int a0), (2, .int a1), (3, .int a2), (4, .int a3)]) rfl ?_
  refine mj_iload_n X dX8_luck_0 1 rfl ?_
  refine mj_iconst (v := (0 : Int32)) X dX8_luck_1 (by decide) ?_
  refine mj_iconst (v := (5 : Int32)) X dX8_luck_2 (by decide) ?_
  obtain ⟨h1, r2, q3, hf⟩ := mm_c hf
  refine mj_callSi (As := [.int a0, .int (0 : Int32), .int (5 : Int32)]) (rest := []) X (kX8_in l D t1 t2 cI cZ ad N h a0 (0 : Int32) (5 : Int32) h1 r2 q3) (va_cwS 3 X.2.2.2.2.1 gX8_luck_X8_in rfl rfl rfl (by decide +kernel) ⟨Nat.le_of_ble_eq_true rfl, Nat.le_of_ble_eq_true rfl⟩) rfl rfl (Nat.le_of_ble_eq_true rfl) ⟨Nat.zero_le _, Nat.zero_le _⟩ dX8_luck_3 ?_
  refine mj_if_eq (tgt := 50) X dX8_luck_6 (by decide) (fun c4 => ?_) (fun c4 => ?_)
  · have hf := mm_t c4 hf
    refine mj_bipush (v := (-2 : Int32)) X dX8_luck_50 (by decide) ?_
    obtain ⟨h5, r6, q7, hf⟩ := mm_c hf
    refine mj_callSl (As := [.int (-2 : Int32)]) (rest := []) X (kX8_no l D t1 t2 cI cZ ad N h1 (-2 : Int32) h5 r6 q7) (va_cwS 1 X.2.2.2.2.1 gX8_luck_X8_no rfl rfl rfl (by decide +kernel) ⟨Nat.le_of_ble_eq_true rfl, Nat.le_of_ble_eq_true rfl⟩) rfl rfl (Nat.le_of_ble_eq_true rfl) ⟨Nat.zero_le _, Nat.zero_le _⟩ dX8_luck_52 ?_
    exact RET h5 _ _ _ dX8_luck_55 (Option.some.inj hf)
  · have hf := mm_f c4 hf
    refine mj_iload_n X dX8_luck_9 2 rfl ?_
    refine mj_iconst (v := (0 : Int32)) X dX8_luck_10 (by decide) ?_
    refine mj_bipush (v := (99 : Int32)) X dX8_luck_11 (by decide) ?_
    obtain ⟨h8, r9, q10, hf⟩ := mm_c hf
    refine mj_callSi (As := [.int a1, .int (0 : Int32), .int (99 : Int32)]) (rest := []) X (kX8_in l D t1 t2 cI cZ ad N h1 a1 (0 : Int32) (99 : Int32) h8 r9 q10) (va_cwS 3 X.2.2.2.2.1 gX8_luck_X8_in rfl rfl rfl (by decide +kernel) ⟨Nat.le_of_ble_eq_true rfl, Nat.le_of_ble_eq_true rfl⟩) rfl rfl (Nat.le_of_ble_eq_true rfl) ⟨Nat.zero_le _, Nat.zero_le _⟩ dX8_luck_13 ?_
    refine mj_if_eq (tgt := 50) X dX8_luck_16 (by decide) (fun c11 => ?_) (fun c11 => ?_)
    · have hf := mm_t c11 hf
      refine mj_bipush (v := (-2 : Int32)) X dX8_luck_50 (by decide) ?_
      obtain ⟨h12, r13, q14, hf⟩ := mm_c hf
      refine mj_callSl (As := [.int (-2 : Int32)]) (rest := []) X (kX8_no l D t1 t2 cI cZ ad N h8 (-2 : Int32) h12 r13 q14) (va_cwS 1 X.2.2.2.2.1 gX8_luck_X8_no rfl rfl rfl (by decide +kernel) ⟨Nat.le_of_ble_eq_true rfl, Nat.le_of_ble_eq_true rfl⟩) rfl rfl (Nat.le_of_ble_eq_true rfl) ⟨Nat.zero_le _, Nat.zero_le _⟩ dX8_luck_52 ?_
      exact RET h12 _ _ _ dX8_luck_55 (Option.some.inj hf)
    · have hf := mm_f c11 hf
      refine mj_iload_n X dX8_luck_19 3 rfl ?_
      refine mj_iconst (v := (1 : Int32)) X dX8_luck_20 (by decide) ?_
      refine mj_bipush (v := (99 : Int32)) X dX8_luck_21 (by decide) ?_
      obtain ⟨h15, r16, q17, hf⟩ := mm_c hf
      refine mj_callSi (As := [.int a2, .int (1 : Int32), .int (99 : Int32)]) (rest := []) X (kX8_in l D t1 t2 cI cZ ad N h8 a2 (1 : Int32) (99 : Int32) h15 r16 q17) (va_cwS 3 X.2.2.2.2.1 gX8_luck_X8_in rfl rfl rfl (by decide +kernel) ⟨Nat.le_of_ble_eq_true rfl, Nat.le_of_ble_eq_true rfl⟩) rfl rfl (Nat.le_of_ble_eq_true rfl) ⟨Nat.zero_le _, Nat.zero_le _⟩ dX8_luck_23 ?_
      refine mj_if_eq (tgt := 50) X dX8_luck_26 (by decide) (fun c18 => ?_) (fun c18 => ?_)
      · have hf := mm_t c18 hf
        refine mj_bipush (v := (-2 : Int32)) X dX8_luck_50 (by decide) ?_
        obtain ⟨h19, r20, q21, hf⟩ := mm_c hf
        refine mj_callSl (As := [.int (-2 : Int32)]) (rest := []) X (kX8_no l D t1 t2 cI cZ ad N h15 (-2 : Int32) h19 r20 q21) (va_cwS 1 X.2.2.2.2.1 gX8_luck_X8_no rfl rfl rfl (by decide +kernel) ⟨Nat.le_of_ble_eq_true rfl, Nat.le_of_ble_eq_true rfl⟩) rfl rfl (Nat.le_of_ble_eq_true rfl) ⟨Nat.zero_le _, Nat.zero_le _⟩ dX8_luck_52 ?_
        exact RET h19 _ _ _ dX8_luck_55 (Option.some.inj hf)
      · have hf := mm_f c18 hf
        refine mj_iload X dX8_luck_29 4 rfl ?_
        refine mj_iconst (v := (0 : Int32)) X dX8_luck_31 (by decide) ?_
        refine mj_iconst (v := (1 : Int32)) X dX8_luck_32 (by decide) ?_
        obtain ⟨h22, r23, q24, hf⟩ := mm_c hf
        refine mj_callSi (As := [.int a3, .int (0 : Int32), .int (1 : Int32)]) (rest := []) X (kX8_in l D t1 t2 cI cZ ad N h15 a3 (0 : Int32) (1 : Int32) h22 r23 q24) (va_cwS 3 X.2.2.2.2.1 gX8_luck_X8_in rfl rfl rfl (by decide +kernel) ⟨Nat.le_of_ble_eq_true rfl, Nat.le_of_ble_eq_true rfl⟩) rfl rfl (Nat.le_of_ble_eq_true rfl) ⟨Nat.zero_le _, Nat.zero_le _⟩ dX8_luck_33 ?_
        refine mj_if_eq (tgt := 50) X dX8_luck_36 (by decide) (fun c25 => ?_) (fun c25 => ?_)
        · have hf := mm_t c25 hf
          refine mj_bipush (v := (-2 : Int32)) X dX8_luck_50 (by decide) ?_
          obtain ⟨h26, r27, q28, hf⟩ := mm_c hf
          refine mj_callSl (As := [.int (-2 : Int32)]) (rest := []) X (kX8_no l D t1 t2 cI cZ ad N h22 (-2 : Int32) h26 r27 q28) (va_cwS 1 X.2.2.2.2.1 gX8_luck_X8_no rfl rfl rfl (by decide +kernel) ⟨Nat.le_of_ble_eq_true rfl, Nat.le_of_ble_eq_true rfl⟩) rfl rfl (Nat.le_of_ble_eq_true rfl) ⟨Nat.zero_le _, Nat.zero_le _⟩ dX8_luck_52 ?_
          exact RET h26 _ _ _ dX8_luck_55 (Option.some.inj hf)
        · have hf := mm_f c25 hf
          refine mj_iload_n X dX8_luck_39 1 rfl ?_
          refine mj_iload_n X dX8_luck_40 2 rfl ?_
          refine mj_iload_n X dX8_luck_41 3 rfl ?_
          refine mj_iload X dX8_luck_42 4 rfl ?_
          obtain ⟨h29, r30, q31, hf⟩ := mm_c hf
          refine mj_callSl (As := [.int a0, .int a1, .int a2, .int a3]) (rest := []) X (kX8_luckOf l D t1 t2 cI cZ ad N h22 a0 a1 a2 a3 h29 r30 q31) (va_cwS 4 X.2.2.2.2.1 gX8_luck_X8_luckOf rfl rfl rfl (by decide +kernel) ⟨Nat.le_of_ble_eq_true rfl, Nat.le_of_ble_eq_true rfl⟩) rfl rfl (Nat.le_of_ble_eq_true rfl) ⟨Nat.zero_le _, Nat.zero_le _⟩ dX8_luck_44 ?_
          refine mj_goto (tgt := 55) X dX8_luck_47 (by decide) ?_
          exact RET h29 _ _ _ dX8_luck_55 (Option.some.inj hf)
abbrev rmX8_sheet : Room := { frames := 2, cells := 0, slots := 0, locals := 42 }
theorem inwX8_sheet_X8 : ∀ w ∈ wsX80, w ∈ wsX8_sheet := by
  intro w hw
  have h9 : wsX80 = (wsX8_sheet.drop 17).take 29 := rfl
  rw [h9] at hw
  exact List.mem_of_mem_drop (List.mem_of_mem_take hw)
theorem lnX8_sheet_0 : Cond.fieldLink RX8 67 "RichestPaysModel" "isThere" "[Z" ∈ wsX8_sheet := List.mem_of_getElem? (i := 1) rfl
theorem lnX8_sheet_1 : Cond.fieldLink RX8 71 "RichestPaysModel" "forms" "[I" ∈ wsX8_sheet := List.mem_of_getElem? (i := 2) rfl
theorem lnX8_sheet_2 : Cond.fieldLink RX8 74 "RichestPaysModel" "sizes" "[I" ∈ wsX8_sheet := List.mem_of_getElem? (i := 3) rfl
theorem lnX8_sheet_3 : Cond.fieldLink RX8 77 "RichestPaysModel" "items" "[I" ∈ wsX8_sheet := List.mem_of_getElem? (i := 4) rfl
set_option maxHeartbeats 4000000 in
set_option maxRecDepth 100000 in
theorem wX8_sheet_L59 (X : mm_X p s m args c cX8_sheet RX8 wsX8_sheet 5 D (my_ty cI cZ) t1 t2 A) (out : mm_M × Int32) (RET : ∀ (h : mm_M) (pc : Nat) (lo : List (Nat × Value)) (v : Int32), decode cX8_sheet pc = .ok (.ireturn, 1) → (h, v) = out → mm_J p l e rmX8_sheet s m args below meth c 0 0 Q D (my_w cI cZ ad) A 5 h pc lo [.int v]) (N : Nat)  (p1 : Int32) (p3 : Int32) (k : mm_M → Option (mm_M × Int32)) (HK : ∀ (h : mm_M), k h = some out → mm_J p l e rmX8_sheet s m args below meth c 0 0 Q D (my_w cI cZ ad) A 5 h 85 [(3, .int p3)] []) : ∀ (n : Nat) (h : mm_M) (m4 : Int32), fX8_sheet_L59 N p1 p3 k n h m4 = some out → mm_J p l e rmX8_sheet s m args below meth c 0 0 Q D (my_w cI cZ ad) A 5 h 59 [(0, .ref (ad 0)), (1, .int p1), (3, .int p3), (4, .int m4)] [] := by
  intro n
  induction n with
  | zero =>
    intro h m4 hf
    cases hf
  | succ n ih =>
    intro h m4 hf
    rw [fX8_sheet_L59] at hf
    refine mj_iload X dX8_sheet_59 3 rfl ?_
    refine mj_bipush (v := (48 : Int32)) X dX8_sheet_61 (by decide) ?_
    refine mj_icmp_ge (tgt := 85) X dX8_sheet_63 (by decide) (fun c15 => ?_) (fun c15 => ?_)
    · have hf := mm_t c15 hf
      exact mj_sub [2] rfl (HK h hf)
    · have hf := mm_f c15 hf
      refine mj_aload_n X dX8_sheet_66 0 rfl ?_
      refine mj_get X inwX8_sheet_X8 (my_at my_oX8 h) rfl 26 (by decide) rfl lnX8_sheet_3 rfl dX8_sheet_67 ?_
      refine mj_bipush (v := (48 : Int32)) X dX8_sheet_70 (by decide) ?_
      refine mj_iload_n X dX8_sheet_72 1 rfl ?_
      refine mj_imul X dX8_sheet_73 ?_
      refine mj_iload X dX8_sheet_74 3 rfl ?_
      refine mj_iadd X dX8_sheet_76 ?_
      refine mj_iconst (v := (0 : Int32)) X dX8_sheet_77 (by decide) ?_
      obtain ⟨g16, hf⟩ := mm_g hf
      obtain ⟨h17, eh17, hf⟩ := mm_l hf
      refine mj_iast X 0 (my_at my_a23 h) rfl g16 (my_ast my_a23 eh17) dX8_sheet_78 ?_
      refine mj_iinc (k := 3) (v := (m4 + 1)) (lo' := [(4, .int (m4 + 1)), (0, .ref (ad 0)), (1, .int p1), (3, .int p3)]) X dX8_sheet_79 rfl rfl (by decide) rfl ?_
      refine mj_goto (tgt := 59) X dX8_sheet_82 (by decide) ?_
      exact mj_sub [1, 2, 3, 0] rfl (ih h17 (m4 + 1) hf)
set_option maxHeartbeats 4000000 in
set_option maxRecDepth 100000 in
theorem kX8_sheet (l : Launch) (D : va_G) (t1 t2 : Nat) (cI : ClassId) (cZ : ClassId) (ad : Nat → Nat)  (N : Nat) (h : mm_M) (a0 : Int32) (a1 : Int32) (a2 : Int32) (h1 : mm_M) (r : Int32) (hf : fX8_sheet N h a0 a1 a2 = some (h1, r)) : mm_Ki l yX8_sheet wsX8_sheet rmX8_sheet D (my_ty cI cZ) t1 t2 (my_w cI cZ ad) [.ref (ad 0), .int a0, .int a1, .int a2] h r h1 := by
  refine mm_open_i [.ref (ad 0), .int a0, .int a1, .int a2] h r h1 RX8 (by decide) rfl rfl (Nat.le_of_ble_eq_true rfl) ?_
  intro p e s m below meth c A X hr hlocks
  have RET : ∀ (h : mm_M) (pc : Nat) (lo : List (Nat × Value)) (v : Int32), decode cX8_sheet pc = .ok (.ireturn, 1) → (h, v) = (h1, r) → mm_J p l e rmX8_sheet s m ([.ref (ad 0), .int a0, .int a1, .int a2] : List Value).toArray below meth c 0 0 (MQ below (va_Qi (fun (r' : Int32) (u : mm_M) => r' = r ∧ u = h1) (mm_Post D (my_w cI cZ ad) A) A) ([.ref (ad 0), .int a0, .int a1, .int a2] : List Value).toArray s 0 0 A) D (my_w cI cZ ad) A 5 h pc lo [.int v] := by
    intro h2 pc lo v hd he
    cases he
    exact mj_iret X hr rfl hlocks hd
  generalize hout : (h1, r) = out at hf RET
  unfold fX8_sheet at hf
  refine mj_lo (lo' := [(0, .ref (ad 0)), (1, .int a0), (2, .int a1), (3, .int a2)]) rfl ?_
  refine mj_iload_n X dX8_sheet_0 1 rfl ?_
  obtain ⟨h1, r2, q3, hf⟩ := mm_c hf
  refine mj_callSi (As := [.int a0]) (rest := []) X (kX8_isSheet l D t1 t2 cI cZ ad N h a0 h1 r2 q3) (va_cwS 1 X.2.2.2.2.1 gX8_sheet_X8_isSheet rfl rfl rfl (by decide +kernel) ⟨Nat.le_of_ble_eq_true rfl, Nat.le_of_ble_eq_true rfl⟩) rfl rfl (Nat.le_of_ble_eq_true rfl) ⟨Nat.zero_le _, Nat.zero_le _⟩ dX8_sheet_1 ?_
  refine mj_if_eq (tgt := 22) X dX8_sheet_4 (by decide) (fun c4 => ?_) (fun c4 => ?_)
  · have hf := mm_t c4 hf
    refine mj_bipush (v := (-2 : Int32)) X dX8_sheet_22 (by decide) ?_
    exact RET h1 _ _ _ dX8_sheet_24 (Option.some.inj hf)
  · have hf := mm_f c4 hf
    refine mj_iload_n X dX8_sheet_7 2 rfl ?_
    refine mj_iconst (v := (0 : Int32)) X dX8_sheet_8 (by decide) ?_
    refine mj_iconst (v := (2 : Int32)) X dX8_sheet_9 (by decide) ?_
    obtain ⟨h5, r6, q7, hf⟩ := mm_c hf
    refine mj_callSi (As := [.int a1, .int (0 : Int32), .int (2 : Int32)]) (rest := []) X (kX8_in l D t1 t2 cI cZ ad N h1 a1 (0 : Int32) (2 : Int32) h5 r6 q7) (va_cwS 3 X.2.2.2.2.1 gX8_sheet_X8_in rfl rfl rfl (by decide +kernel) ⟨Nat.le_of_ble_eq_true rfl, Nat.le_of_ble_eq_true rfl⟩) rfl rfl (Nat.le_of_ble_eq_true rfl) ⟨Nat.zero_le _, Nat.zero_le _⟩ dX8_sheet_10 ?_
    refine mj_if_eq (tgt := 22) X dX8_sheet_13 (by decide) (fun c8 => ?_) (fun c8 => ?_)
    · have hf := mm_t c8 hf
      refine mj_bipush (v := (-2 : Int32)) X dX8_sheet_22 (by decide) ?_
      exact RET h5 _ _ _ dX8_sheet_24 (Option.some.inj hf)
    · have hf := mm_f c8 hf
      refine mj_iload_n X dX8_sheet_16 3 rfl ?_
      refine mj_bipush (v := (48 : Int32)) X dX8_sheet_17 (by decide) ?_
      refine mj_icmp_le (tgt := 25) X dX8_sheet_19 (by decide) (fun c9 => ?_) (fun c9 => ?_)
      · have hf := mm_t c9 hf
        refine mj_iload_n X dX8_sheet_25 3 rfl ?_
        refine mj_if_ge (tgt := 35) X dX8_sheet_26 (by decide) (fun c10 => ?_) (fun c10 => ?_)
        · have hf := mm_t c10 hf
          refine mj_aload_n X dX8_sheet_35 0 rfl ?_
          refine mj_get X inwX8_sheet_X8 (my_at my_oX8 h5) rfl 23 (by decide) rfl lnX8_sheet_0 rfl dX8_sheet_36 ?_
          refine mj_iload_n X dX8_sheet_39 1 rfl ?_
          refine mj_iconst (v := (1 : Int32)) X dX8_sheet_40 (by decide) ?_
          obtain ⟨g11, hf⟩ := mm_g hf
          obtain ⟨h12, eh12, hf⟩ := mm_l hf
          refine mj_zast X 1 (my_at my_a20 h5) rfl g11 (by decide) (my_ast my_a20 eh12) dX8_sheet_41 ?_
          refine mj_aload_n X dX8_sheet_42 0 rfl ?_
          refine mj_get X inwX8_sheet_X8 (my_at my_oX8 h12) rfl 24 (by decide) rfl lnX8_sheet_1 rfl dX8_sheet_43 ?_
          refine mj_iload_n X dX8_sheet_46 1 rfl ?_
          refine mj_iload_n X dX8_sheet_47 2 rfl ?_
          obtain ⟨h13, eh13, hf⟩ := mm_l hf
          refine mj_iast X 0 (my_at my_a21 h12) rfl g11 (my_ast my_a21 eh13) dX8_sheet_48 ?_
          refine mj_aload_n X dX8_sheet_49 0 rfl ?_
          refine mj_get X inwX8_sheet_X8 (my_at my_oX8 h13) rfl 25 (by decide) rfl lnX8_sheet_2 rfl dX8_sheet_50 ?_
          refine mj_iload_n X dX8_sheet_53 1 rfl ?_
          refine mj_iload_n X dX8_sheet_54 3 rfl ?_
          obtain ⟨h14, eh14, hf⟩ := mm_l hf
          refine mj_iast X 0 (my_at my_a22 h13) rfl g11 (my_ast my_a22 eh14) dX8_sheet_55 ?_
          refine mj_iconst (v := (0 : Int32)) X dX8_sheet_56 (by decide) ?_
          refine mj_istore (lo' := [(4, .int (0 : Int32)), (0, .ref (ad 0)), (1, .int a0), (2, .int a1), (3, .int a2)]) X dX8_sheet_57 (by decide) rfl ?_
          refine mj_sub [1, 2, 4, 0] rfl (wX8_sheet_L59 X out RET N a0 a2 _ (fun h18 hf => ?_) N h14 (0 : Int32) hf)
          refine mj_iload_n X dX8_sheet_85 0 rfl ?_
          exact RET h18 _ _ _ dX8_sheet_86 (Option.some.inj hf)
        · have hf := mm_f c10 hf
          refine mj_aload_n X dX8_sheet_29 0 rfl ?_
          refine mj_iconst (v := (5 : Int32)) X dX8_sheet_30 (by decide) ?_
          obtain ⟨h19, r20, q21, hf⟩ := mm_c hf
          refine mj_callVi (As := [.int (5 : Int32)]) (rest := []) X (kX8_meets l D t1 t2 cI cZ ad N h5 (5 : Int32) h19 r20 q21) (cwV 1 X.2.2.2.2.1 gX8_sheet_X8_meets rfl rfl rfl (by decide +kernel) ⟨Nat.le_of_ble_eq_true rfl, Nat.le_of_ble_eq_true rfl⟩) (my_at my_oX8 h5) rfl rfl rfl rfl (Nat.le_of_ble_eq_true rfl) ⟨Nat.zero_le _, Nat.zero_le _⟩ dX8_sheet_31 ?_
          exact RET h19 _ _ _ dX8_sheet_34 (Option.some.inj hf)
      · have hf := mm_f c9 hf
        refine mj_bipush (v := (-2 : Int32)) X dX8_sheet_22 (by decide) ?_
        exact RET h5 _ _ _ dX8_sheet_24 (Option.some.inj hf)
abbrev rmX8_lose : Room := { frames := 2, cells := 0, slots := 0, locals := 42 }
theorem inwX8_lose_X8 : ∀ w ∈ wsX80, w ∈ wsX8_lose := by
  intro w hw
  have h9 : wsX80 = (wsX8_lose.drop 15).take 29 := rfl
  rw [h9] at hw
  exact List.mem_of_mem_drop (List.mem_of_mem_take hw)
theorem lnX8_lose_0 : Cond.fieldLink RX8 67 "RichestPaysModel" "isThere" "[Z" ∈ wsX8_lose := List.mem_of_getElem? (i := 1) rfl
theorem lnX8_lose_1 : Cond.fieldLink RX8 74 "RichestPaysModel" "sizes" "[I" ∈ wsX8_lose := List.mem_of_getElem? (i := 2) rfl
set_option maxHeartbeats 4000000 in
set_option maxRecDepth 100000 in
theorem kX8_lose (l : Launch) (D : va_G) (t1 t2 : Nat) (cI : ClassId) (cZ : ClassId) (ad : Nat → Nat)  (N : Nat) (h : mm_M) (a0 : Int32) (h1 : mm_M) (r : Int32) (hf : fX8_lose N h a0 = some (h1, r)) : mm_Ki l yX8_lose wsX8_lose rmX8_lose D (my_ty cI cZ) t1 t2 (my_w cI cZ ad) [.ref (ad 0), .int a0] h r h1 := by
  refine mm_open_i [.ref (ad 0), .int a0] h r h1 RX8 (by decide) rfl rfl (Nat.le_of_ble_eq_true rfl) ?_
  intro p e s m below meth c A X hr hlocks
  have RET : ∀ (h : mm_M) (pc : Nat) (lo : List (Nat × Value)) (v : Int32), decode cX8_lose pc = .ok (.ireturn, 1) → (h, v) = (h1, r) → mm_J p l e rmX8_lose s m ([.ref (ad 0), .int a0] : List Value).toArray below meth c 0 0 (MQ below (va_Qi (fun (r' : Int32) (u : mm_M) => r' = r ∧ u = h1) (mm_Post D (my_w cI cZ ad) A) A) ([.ref (ad 0), .int a0] : List Value).toArray s 0 0 A) D (my_w cI cZ ad) A 2 h pc lo [.int v] := by
    intro h2 pc lo v hd he
    cases he
    exact mj_iret X hr rfl hlocks hd
  generalize hout : (h1, r) = out at hf RET
  unfold fX8_lose at hf
  refine mj_lo (lo' := [(0, .ref (ad 0)), (1, .int a0)]) rfl ?_
  refine mj_iload_n X dX8_lose_0 1 rfl ?_
  obtain ⟨h1, r2, q3, hf⟩ := mm_c hf
  refine mj_callSi (As := [.int a0]) (rest := []) X (kX8_isSheet l D t1 t2 cI cZ ad N h a0 h1 r2 q3) (va_cwS 1 X.2.2.2.2.1 gX8_lose_X8_isSheet rfl rfl rfl (by decide +kernel) ⟨Nat.le_of_ble_eq_true rfl, Nat.le_of_ble_eq_true rfl⟩) rfl rfl (Nat.le_of_ble_eq_true rfl) ⟨Nat.zero_le _, Nat.zero_le _⟩ dX8_lose_1 ?_
  refine mj_if_ne (tgt := 10) X dX8_lose_4 (by decide) (fun c4 => ?_) (fun c4 => ?_)
  · have hf := mm_f c4 hf
    refine mj_aload_n X dX8_lose_10 0 rfl ?_
    refine mj_get X inwX8_lose_X8 (my_at my_oX8 h1) rfl 23 (by decide) rfl lnX8_lose_0 rfl dX8_lose_11 ?_
    refine mj_iload_n X dX8_lose_14 1 rfl ?_
    obtain ⟨g5, hf⟩ := mm_g hf
    refine mj_zald X 1 (my_at my_a20 h1) rfl g5 dX8_lose_15 ?_
    refine mj_if_ne (tgt := 25) X dX8_lose_16 (by decide) (fun c6 => ?_) (fun c6 => ?_)
    · have hf := mm_f c6 hf
      refine mj_aload_n X dX8_lose_25 0 rfl ?_
      refine mj_get X inwX8_lose_X8 (my_at my_oX8 h1) rfl 23 (by decide) rfl lnX8_lose_0 rfl dX8_lose_26 ?_
      refine mj_iload_n X dX8_lose_29 1 rfl ?_
      refine mj_iconst (v := (0 : Int32)) X dX8_lose_30 (by decide) ?_
      obtain ⟨h7, eh7, hf⟩ := mm_l hf
      refine mj_zast X 1 (my_at my_a20 h1) rfl g5 (by decide) (my_ast my_a20 eh7) dX8_lose_31 ?_
      refine mj_aload_n X dX8_lose_32 0 rfl ?_
      refine mj_get X inwX8_lose_X8 (my_at my_oX8 h7) rfl 25 (by decide) rfl lnX8_lose_1 rfl dX8_lose_33 ?_
      refine mj_iload_n X dX8_lose_36 1 rfl ?_
      refine mj_iald X 0 (my_at my_a22 h7) rfl g5 dX8_lose_37 ?_
      exact RET h7 _ _ _ dX8_lose_38 (Option.some.inj hf)
    · have hf := mm_t c6 hf
      refine mj_aload_n X dX8_lose_19 0 rfl ?_
      refine mj_iconst (v := (1 : Int32)) X dX8_lose_20 (by decide) ?_
      obtain ⟨h8, r9, q10, hf⟩ := mm_c hf
      refine mj_callVi (As := [.int (1 : Int32)]) (rest := []) X (kX8_meets l D t1 t2 cI cZ ad N h1 (1 : Int32) h8 r9 q10) (cwV 1 X.2.2.2.2.1 gX8_lose_X8_meets rfl rfl rfl (by decide +kernel) ⟨Nat.le_of_ble_eq_true rfl, Nat.le_of_ble_eq_true rfl⟩) (my_at my_oX8 h1) rfl rfl rfl rfl (Nat.le_of_ble_eq_true rfl) ⟨Nat.zero_le _, Nat.zero_le _⟩ dX8_lose_21 ?_
      exact RET h8 _ _ _ dX8_lose_24 (Option.some.inj hf)
  · have hf := mm_t c4 hf
    refine mj_bipush (v := (-2 : Int32)) X dX8_lose_7 (by decide) ?_
    exact RET h1 _ _ _ dX8_lose_9 (Option.some.inj hf)
abbrev rmX8_lacks : Room := { frames := 1, cells := 0, slots := 0, locals := 22 }
theorem inwX8_lacks_X8 : ∀ w ∈ wsX80, w ∈ wsX8_lacks := by
  intro w hw
  have h9 : wsX80 = (wsX8_lacks.drop 8).take 29 := rfl
  rw [h9] at hw
  exact List.mem_of_mem_drop (List.mem_of_mem_take hw)
theorem lnX8_lacks_0 : Cond.fieldLink RX8 67 "RichestPaysModel" "isThere" "[Z" ∈ wsX8_lacks := List.mem_of_getElem? (i := 1) rfl
theorem lnX8_lacks_1 : Cond.fieldLink RX8 71 "RichestPaysModel" "forms" "[I" ∈ wsX8_lacks := List.mem_of_getElem? (i := 2) rfl
theorem lnX8_lacks_2 : Cond.fieldLink RX8 74 "RichestPaysModel" "sizes" "[I" ∈ wsX8_lacks := List.mem_of_getElem? (i := 3) rfl
set_option maxHeartbeats 4000000 in
set_option maxRecDepth 100000 in
theorem kX8_lacks (l : Launch) (D : va_G) (t1 t2 : Nat) (cI : ClassId) (cZ : ClassId) (ad : Nat → Nat)  (N : Nat) (h : mm_M) (a0 : Int32) (a1 : Int32) (a2 : Int32) (h1 : mm_M) (r : Int32) (hf : fX8_lacks N h a0 a1 a2 = some (h1, r)) : mm_Ki l yX8_lacks wsX8_lacks rmX8_lacks D (my_ty cI cZ) t1 t2 (my_w cI cZ ad) [.ref (ad 0), .int a0, .int a1, .int a2] h r h1 := by
  refine mm_open_i [.ref (ad 0), .int a0, .int a1, .int a2] h r h1 RX8 (by decide) rfl rfl (Nat.le_of_ble_eq_true rfl) ?_
  intro p e s m below meth c A X hr hlocks
  have RET : ∀ (h : mm_M) (pc : Nat) (lo : List (Nat × Value)) (v : Int32), decode cX8_lacks pc = .ok (.ireturn, 1) → (h, v) = (h1, r) → mm_J p l e rmX8_lacks s m ([.ref (ad 0), .int a0, .int a1, .int a2] : List Value).toArray below meth c 0 0 (MQ below (va_Qi (fun (r' : Int32) (u : mm_M) => r' = r ∧ u = h1) (mm_Post D (my_w cI cZ ad) A) A) ([.ref (ad 0), .int a0, .int a1, .int a2] : List Value).toArray s 0 0 A) D (my_w cI cZ ad) A 4 h pc lo [.int v] := by
    intro h2 pc lo v hd he
    cases he
    exact mj_iret X hr rfl hlocks hd
  generalize hout : (h1, r) = out at hf RET
  unfold fX8_lacks at hf
  refine mj_lo (lo' := [(0, .ref (ad 0)), (1, .int a0), (2, .int a1), (3, .int a2)]) rfl ?_
  refine mj_aload_n X dX8_lacks_0 0 rfl ?_
  refine mj_get X inwX8_lacks_X8 (my_at my_oX8 h) rfl 23 (by decide) rfl lnX8_lacks_0 rfl dX8_lacks_1 ?_
  refine mj_iload_n X dX8_lacks_4 1 rfl ?_
  obtain ⟨g1, hf⟩ := mm_g hf
  refine mj_zald X 1 (my_at my_a20 h) rfl g1 dX8_lacks_5 ?_
  refine mj_if_ne (tgt := 13) X dX8_lacks_6 (by decide) (fun c2 => ?_) (fun c2 => ?_)
  · have hf := mm_f c2 hf
    refine mj_aload_n X dX8_lacks_13 0 rfl ?_
    refine mj_get X inwX8_lacks_X8 (my_at my_oX8 h) rfl 24 (by decide) rfl lnX8_lacks_1 rfl dX8_lacks_14 ?_
    refine mj_iload_n X dX8_lacks_17 1 rfl ?_
    refine mj_iald X 0 (my_at my_a21 h) rfl g1 dX8_lacks_18 ?_
    refine mj_iload_n X dX8_lacks_19 2 rfl ?_
    refine mj_icmp_eq (tgt := 27) X dX8_lacks_20 (by decide) (fun c3 => ?_) (fun c3 => ?_)
    · have hf := mm_t c3 hf
      refine mj_iload_n X dX8_lacks_27 3 rfl ?_
      refine mj_iconst (v := (0 : Int32)) X dX8_lacks_28 (by decide) ?_
      refine mj_aload_n X dX8_lacks_29 0 rfl ?_
      refine mj_get X inwX8_lacks_X8 (my_at my_oX8 h) rfl 25 (by decide) rfl lnX8_lacks_2 rfl dX8_lacks_30 ?_
      refine mj_iload_n X dX8_lacks_33 1 rfl ?_
      refine mj_iald X 0 (my_at my_a22 h) rfl g1 dX8_lacks_34 ?_
      refine mj_iconst (v := (1 : Int32)) X dX8_lacks_35 (by decide) ?_
      refine mj_isub X dX8_lacks_36 ?_
      obtain ⟨h4, r5, q6, hf⟩ := mm_c hf
      refine mj_callSi (As := [.int a2, .int (0 : Int32), .int ((h 22 a0.toNatClampNeg) - (1 : Int32))]) (rest := []) X (kX8_in l D t1 t2 cI cZ ad N h a2 (0 : Int32) (((h 22 a0.toNatClampNeg) - (1 : Int32))) h4 r5 q6) (va_cwS 3 X.2.2.2.2.1 gX8_lacks_X8_in rfl rfl rfl (by decide +kernel) ⟨Nat.le_of_ble_eq_true rfl, Nat.le_of_ble_eq_true rfl⟩) rfl rfl (Nat.le_of_ble_eq_true rfl) ⟨Nat.zero_le _, Nat.zero_le _⟩ dX8_lacks_37 ?_
      refine mj_if_eq (tgt := 47) X dX8_lacks_40 (by decide) (fun c7 => ?_) (fun c7 => ?_)
      · have hf := mm_t c7 hf
        refine mj_iconst (v := (2 : Int32)) X dX8_lacks_47 (by decide) ?_
        exact RET h4 _ _ _ dX8_lacks_48 (Option.some.inj hf)
      · have hf := mm_f c7 hf
        refine mj_iconst (v := (0 : Int32)) X dX8_lacks_43 (by decide) ?_
        refine mj_goto (tgt := 48) X dX8_lacks_44 (by decide) ?_
        exact RET h4 _ _ _ dX8_lacks_48 (Option.some.inj hf)
    · have hf := mm_f c3 hf
      refine mj_iconst (v := (3 : Int32)) X dX8_lacks_23 (by decide) ?_
      refine mj_goto (tgt := 48) X dX8_lacks_24 (by decide) ?_
      exact RET h _ _ _ dX8_lacks_48 (Option.some.inj hf)
  · have hf := mm_t c2 hf
    refine mj_iconst (v := (1 : Int32)) X dX8_lacks_9 (by decide) ?_
    refine mj_goto (tgt := 48) X dX8_lacks_10 (by decide) ?_
    exact RET h _ _ _ dX8_lacks_48 (Option.some.inj hf)
abbrev rmX8_keep : Room := { frames := 0, cells := 0, slots := 0, locals := 0 }
theorem inwX8_keep_X8 : ∀ w ∈ wsX80, w ∈ wsX8_keep := by
  intro w hw
  have h9 : wsX80 = (wsX8_keep.drop 3).take 29 := rfl
  rw [h9] at hw
  exact List.mem_of_mem_drop (List.mem_of_mem_take hw)
theorem lnX8_keep_0 : Cond.fieldLink RX8 77 "RichestPaysModel" "items" "[I" ∈ wsX8_keep := List.mem_of_getElem? (i := 1) rfl
theorem lnX8_keep_1 : Cond.fieldLink RX8 71 "RichestPaysModel" "forms" "[I" ∈ wsX8_keep := List.mem_of_getElem? (i := 2) rfl
set_option maxHeartbeats 4000000 in
set_option maxRecDepth 100000 in
theorem kX8_keep (l : Launch) (D : va_G) (t1 t2 : Nat) (cI : ClassId) (cZ : ClassId) (ad : Nat → Nat)  (N : Nat) (h : mm_M) (a0 : Int32) (a1 : Int32) (a2 : Int32) (h1 : mm_M) (r : Unit) (hf : fX8_keep N h a0 a1 a2 = some (h1, r)) : mm_Kv l yX8_keep wsX8_keep rmX8_keep D (my_ty cI cZ) t1 t2 (my_w cI cZ ad) [.ref (ad 0), .int a0, .int a1, .int a2] h h1 := by
  refine mm_open_v [.ref (ad 0), .int a0, .int a1, .int a2] h h1 RX8 (by decide) rfl rfl (Nat.le_of_ble_eq_true rfl) ?_
  intro p e s m below meth c A X hr hlocks
  have RET : ∀ (h : mm_M) (pc : Nat) (lo : List (Nat × Value)) (v : Unit), decode cX8_keep pc = .ok (.return_, 1) → (h, v) = (h1, r) → mm_J p l e rmX8_keep s m ([.ref (ad 0), .int a0, .int a1, .int a2] : List Value).toArray below meth c 0 0 (MQ below (va_Qv (fun (u : mm_M) => u = h1) (mm_Post D (my_w cI cZ ad) A) A) ([.ref (ad 0), .int a0, .int a1, .int a2] : List Value).toArray s 0 0 A) D (my_w cI cZ ad) A 4 h pc lo [] := by
    intro h2 pc lo v hd he
    cases he
    exact mj_vret X hr hlocks hd
  generalize hout : (h1, r) = out at hf RET
  unfold fX8_keep at hf
  refine mj_lo (lo' := [(0, .ref (ad 0)), (1, .int a0), (2, .int a1), (3, .int a2)]) rfl ?_
  refine mj_aload_n X dX8_keep_0 0 rfl ?_
  refine mj_get X inwX8_keep_X8 (my_at my_oX8 h) rfl 26 (by decide) rfl lnX8_keep_0 rfl dX8_keep_1 ?_
  refine mj_bipush (v := (48 : Int32)) X dX8_keep_4 (by decide) ?_
  refine mj_iload_n X dX8_keep_6 1 rfl ?_
  refine mj_imul X dX8_keep_7 ?_
  refine mj_iload_n X dX8_keep_8 2 rfl ?_
  refine mj_iadd X dX8_keep_9 ?_
  refine mj_aload_n X dX8_keep_10 0 rfl ?_
  refine mj_get X inwX8_keep_X8 (my_at my_oX8 h) rfl 24 (by decide) rfl lnX8_keep_1 rfl dX8_keep_11 ?_
  refine mj_iload_n X dX8_keep_14 1 rfl ?_
  obtain ⟨g1, hf⟩ := mm_g hf
  refine mj_iald X 0 (my_at my_a21 h) rfl g1 dX8_keep_15 ?_
  refine mj_if_ne (tgt := 24) X dX8_keep_16 (by decide) (fun c2 => ?_) (fun c2 => ?_)
  · have hf := mm_f c2 hf
    refine mj_aload_n X dX8_keep_24 0 rfl ?_
    refine mj_get X inwX8_keep_X8 (my_at my_oX8 h) rfl 24 (by decide) rfl lnX8_keep_1 rfl dX8_keep_25 ?_
    refine mj_iload_n X dX8_keep_28 1 rfl ?_
    refine mj_iald X 0 (my_at my_a21 h) rfl g1 dX8_keep_29 ?_
    refine mj_iconst (v := (1 : Int32)) X dX8_keep_30 (by decide) ?_
    refine mj_icmp_ne (tgt := 39) X dX8_keep_31 (by decide) (fun c3 => ?_) (fun c3 => ?_)
    · have hf := mm_f c3 hf
      refine mj_iload_n X dX8_keep_39 3 rfl ?_
      obtain ⟨g4, hf⟩ := mm_g hf
      obtain ⟨h5, eh5, hf⟩ := mm_l hf
      refine mj_iast X 0 (my_at my_a23 h) rfl g4 (my_ast my_a23 eh5) dX8_keep_40 ?_
      exact RET h5 _ _ _ dX8_keep_41 (Option.some.inj hf)
    · have hf := mm_t c3 hf
      refine mj_iload_n X dX8_keep_34 3 rfl ?_
      refine mj_i2s X dX8_keep_35 ?_
      refine mj_goto (tgt := 40) X dX8_keep_36 (by decide) ?_
      obtain ⟨g6, hf⟩ := mm_g hf
      obtain ⟨h7, eh7, hf⟩ := mm_l hf
      refine mj_iast X 0 (my_at my_a23 h) rfl g6 (my_ast my_a23 eh7) dX8_keep_40 ?_
      exact RET h7 _ _ _ dX8_keep_41 (Option.some.inj hf)
  · have hf := mm_t c2 hf
    refine mj_iload_n X dX8_keep_19 3 rfl ?_
    refine mj_i2b X dX8_keep_20 ?_
    refine mj_goto (tgt := 40) X dX8_keep_21 (by decide) ?_
    obtain ⟨g8, hf⟩ := mm_g hf
    obtain ⟨h9, eh9, hf⟩ := mm_l hf
    refine mj_iast X 0 (my_at my_a23 h) rfl g8 (my_ast my_a23 eh9) dX8_keep_40 ?_
    exact RET h9 _ _ _ dX8_keep_41 (Option.some.inj hf)
abbrev rmX8_put : Room := { frames := 2, cells := 0, slots := 0, locals := 45 }
set_option maxHeartbeats 4000000 in
set_option maxRecDepth 100000 in
theorem kX8_put (l : Launch) (D : va_G) (t1 t2 : Nat) (cI : ClassId) (cZ : ClassId) (ad : Nat → Nat)  (N : Nat) (h : mm_M) (a0 : Int32) (a1 : Int32) (a2 : Int32) (a3 : Int32) (h1 : mm_M) (r : Int32) (hf : fX8_put N h a0 a1 a2 a3 = some (h1, r)) : mm_Ki l yX8_put wsX8_put rmX8_put D (my_ty cI cZ) t1 t2 (my_w cI cZ ad) [.ref (ad 0), .int a0, .int a1, .int a2, .int a3] h r h1 := by
  refine mm_open_i [.ref (ad 0), .int a0, .int a1, .int a2, .int a3] h r h1 RX8 (by decide) rfl rfl (Nat.le_of_ble_eq_true rfl) ?_
  intro p e s m below meth c A X hr hlocks
  have RET : ∀ (h : mm_M) (pc : Nat) (lo : List (Nat × Value)) (v : Int32), decode cX8_put pc = .ok (.ireturn, 1) → (h, v) = (h1, r) → mm_J p l e rmX8_put s m ([.ref (ad 0), .int a0, .int a1, .int a2, .int a3] : List Value).toArray below meth c 0 0 (MQ below (va_Qi (fun (r' : Int32) (u : mm_M) => r' = r ∧ u = h1) (mm_Post D (my_w cI cZ ad) A) A) ([.ref (ad 0), .int a0, .int a1, .int a2, .int a3] : List Value).toArray s 0 0 A) D (my_w cI cZ ad) A 6 h pc lo [.int v] := by
    intro h2 pc lo v hd he
    cases he
    exact mj_iret X hr rfl hlocks hd
  generalize hout : (h1, r) = out at hf RET
  unfold fX8_put at hf
  refine mj_lo (lo' := [(0, .ref (ad 0)), (1, .int a0), (2, .int a1), (3, .int a2), (4, .int a3)]) rfl ?_
  refine mj_iload_n X dX8_put_0 1 rfl ?_
  obtain ⟨h1, r2, q3, hf⟩ := mm_c hf
  refine mj_callSi (As := [.int a0]) (rest := []) X (kX8_isSheet l D t1 t2 cI cZ ad N h a0 h1 r2 q3) (va_cwS 1 X.2.2.2.2.1 gX8_put_X8_isSheet rfl rfl rfl (by decide +kernel) ⟨Nat.le_of_ble_eq_true rfl, Nat.le_of_ble_eq_true rfl⟩) rfl rfl (Nat.le_of_ble_eq_true rfl) ⟨Nat.zero_le _, Nat.zero_le _⟩ dX8_put_1 ?_
  refine mj_if_eq (tgt := 16) X dX8_put_4 (by decide) (fun c4 => ?_) (fun c4 => ?_)
  · have hf := mm_t c4 hf
    refine mj_bipush (v := (-2 : Int32)) X dX8_put_16 (by decide) ?_
    exact RET h1 _ _ _ dX8_put_18 (Option.some.inj hf)
  · have hf := mm_f c4 hf
    refine mj_iload_n X dX8_put_7 2 rfl ?_
    refine mj_iconst (v := (0 : Int32)) X dX8_put_8 (by decide) ?_
    refine mj_iconst (v := (2 : Int32)) X dX8_put_9 (by decide) ?_
    obtain ⟨h5, r6, q7, hf⟩ := mm_c hf
    refine mj_callSi (As := [.int a1, .int (0 : Int32), .int (2 : Int32)]) (rest := []) X (kX8_in l D t1 t2 cI cZ ad N h1 a1 (0 : Int32) (2 : Int32) h5 r6 q7) (va_cwS 3 X.2.2.2.2.1 gX8_put_X8_in rfl rfl rfl (by decide +kernel) ⟨Nat.le_of_ble_eq_true rfl, Nat.le_of_ble_eq_true rfl⟩) rfl rfl (Nat.le_of_ble_eq_true rfl) ⟨Nat.zero_le _, Nat.zero_le _⟩ dX8_put_10 ?_
    refine mj_if_ne (tgt := 19) X dX8_put_13 (by decide) (fun c8 => ?_) (fun c8 => ?_)
    · have hf := mm_f c8 hf
      refine mj_aload_n X dX8_put_19 0 rfl ?_
      refine mj_iload_n X dX8_put_20 1 rfl ?_
      refine mj_iload_n X dX8_put_21 2 rfl ?_
      refine mj_iload_n X dX8_put_22 3 rfl ?_
      obtain ⟨h9, r10, q11, hf⟩ := mm_c hf
      refine mj_callVi (As := [.int a0, .int a1, .int a2]) (rest := []) X (kX8_lacks l D t1 t2 cI cZ ad N h5 a0 a1 a2 h9 r10 q11) (cwV 3 X.2.2.2.2.1 gX8_put_X8_lacks rfl rfl rfl (by decide +kernel) ⟨Nat.le_of_ble_eq_true rfl, Nat.le_of_ble_eq_true rfl⟩) (my_at my_oX8 h5) rfl rfl rfl rfl (Nat.le_of_ble_eq_true rfl) ⟨Nat.zero_le _, Nat.zero_le _⟩ dX8_put_23 ?_
      refine mj_istore (lo' := [(5, .int r10), (0, .ref (ad 0)), (1, .int a0), (2, .int a1), (3, .int a2), (4, .int a3)]) X dX8_put_26 (by decide) rfl ?_
      refine mj_iload X dX8_put_28 0 rfl ?_
      refine mj_if_le (tgt := 40) X dX8_put_30 (by decide) (fun c12 => ?_) (fun c12 => ?_)
      · have hf := mm_t c12 hf
        refine mj_aload_n X dX8_put_40 1 rfl ?_
        refine mj_iload_n X dX8_put_41 2 rfl ?_
        refine mj_iload_n X dX8_put_42 4 rfl ?_
        refine mj_iload X dX8_put_43 5 rfl ?_
        obtain ⟨h13, r14, q15, hf⟩ := mm_c hf
        refine mj_callVv (As := [.int a0, .int a2, .int a3]) (rest := []) X (kX8_keep l D t1 t2 cI cZ ad N h9 a0 a2 a3 h13 r14 q15) (cwV 3 X.2.2.2.2.1 gX8_put_X8_keep rfl rfl rfl (by decide +kernel) ⟨Nat.le_of_ble_eq_true rfl, Nat.le_of_ble_eq_true rfl⟩) (my_at my_oX8 h9) rfl rfl rfl rfl (Nat.le_of_ble_eq_true rfl) ⟨Nat.zero_le _, Nat.zero_le _⟩ dX8_put_45 ?_
        refine mj_iconst (v := (1 : Int32)) X dX8_put_48 (by decide) ?_
        exact RET h13 _ _ _ dX8_put_49 (Option.some.inj hf)
      · have hf := mm_f c12 hf
        refine mj_aload_n X dX8_put_33 1 rfl ?_
        refine mj_iload X dX8_put_34 0 rfl ?_
        obtain ⟨h16, r17, q18, hf⟩ := mm_c hf
        refine mj_callVi (As := [.int r10]) (rest := []) X (kX8_meets l D t1 t2 cI cZ ad N h9 r10 h16 r17 q18) (cwV 1 X.2.2.2.2.1 gX8_put_X8_meets rfl rfl rfl (by decide +kernel) ⟨Nat.le_of_ble_eq_true rfl, Nat.le_of_ble_eq_true rfl⟩) (my_at my_oX8 h9) rfl rfl rfl rfl (Nat.le_of_ble_eq_true rfl) ⟨Nat.zero_le _, Nat.zero_le _⟩ dX8_put_36 ?_
        exact RET h16 _ _ _ dX8_put_39 (Option.some.inj hf)
    · have hf := mm_t c8 hf
      refine mj_bipush (v := (-2 : Int32)) X dX8_put_16 (by decide) ?_
      exact RET h5 _ _ _ dX8_put_18 (Option.some.inj hf)
abbrev rmX8_get : Room := { frames := 2, cells := 0, slots := 0, locals := 45 }
theorem lnX8_get_0 : Cond.constant RX8 223 (-2147483648) ∈ wsX8_get := List.mem_of_getElem? (i := 1) rfl
theorem inwX8_get_X8 : ∀ w ∈ wsX80, w ∈ wsX8_get := by
  intro w hw
  have h9 : wsX80 = (wsX8_get.drop 18).take 29 := rfl
  rw [h9] at hw
  exact List.mem_of_mem_drop (List.mem_of_mem_take hw)
theorem lnX8_get_1 : Cond.fieldLink RX8 77 "RichestPaysModel" "items" "[I" ∈ wsX8_get := List.mem_of_getElem? (i := 3) rfl
theorem lnX8_get_2 : Cond.fieldLink RX8 213 "RichestPaysModel" "finding" "I" ∈ wsX8_get := List.mem_of_getElem? (i := 2) rfl
set_option maxHeartbeats 4000000 in
set_option maxRecDepth 100000 in
theorem kX8_get (l : Launch) (D : va_G) (t1 t2 : Nat) (cI : ClassId) (cZ : ClassId) (ad : Nat → Nat)  (N : Nat) (h : mm_M) (a0 : Int32) (a1 : Int32) (a2 : Int32) (h1 : mm_M) (r : Int32) (hf : fX8_get N h a0 a1 a2 = some (h1, r)) : mm_Ki l yX8_get wsX8_get rmX8_get D (my_ty cI cZ) t1 t2 (my_w cI cZ ad) [.ref (ad 0), .int a0, .int a1, .int a2] h r h1 := by
  refine mm_open_i [.ref (ad 0), .int a0, .int a1, .int a2] h r h1 RX8 (by decide) rfl rfl (Nat.le_of_ble_eq_true rfl) ?_
  intro p e s m below meth c A X hr hlocks
  have RET : ∀ (h : mm_M) (pc : Nat) (lo : List (Nat × Value)) (v : Int32), decode cX8_get pc = .ok (.ireturn, 1) → (h, v) = (h1, r) → mm_J p l e rmX8_get s m ([.ref (ad 0), .int a0, .int a1, .int a2] : List Value).toArray below meth c 0 0 (MQ below (va_Qi (fun (r' : Int32) (u : mm_M) => r' = r ∧ u = h1) (mm_Post D (my_w cI cZ ad) A) A) ([.ref (ad 0), .int a0, .int a1, .int a2] : List Value).toArray s 0 0 A) D (my_w cI cZ ad) A 5 h pc lo [.int v] := by
    intro h2 pc lo v hd he
    cases he
    exact mj_iret X hr rfl hlocks hd
  generalize hout : (h1, r) = out at hf RET
  unfold fX8_get at hf
  refine mj_lo (lo' := [(0, .ref (ad 0)), (1, .int a0), (2, .int a1), (3, .int a2)]) rfl ?_
  refine mj_iload_n X dX8_get_0 1 rfl ?_
  obtain ⟨h1, r2, q3, hf⟩ := mm_c hf
  refine mj_callSi (As := [.int a0]) (rest := []) X (kX8_isSheet l D t1 t2 cI cZ ad N h a0 h1 r2 q3) (va_cwS 1 X.2.2.2.2.1 gX8_get_X8_isSheet rfl rfl rfl (by decide +kernel) ⟨Nat.le_of_ble_eq_true rfl, Nat.le_of_ble_eq_true rfl⟩) rfl rfl (Nat.le_of_ble_eq_true rfl) ⟨Nat.zero_le _, Nat.zero_le _⟩ dX8_get_1 ?_
  refine mj_if_eq (tgt := 16) X dX8_get_4 (by decide) (fun c4 => ?_) (fun c4 => ?_)
  · have hf := mm_t c4 hf
    refine mj_ldc (v := (-2147483648 : Int32)) X lnX8_get_0 dX8_get_16 ?_
    exact RET h1 _ _ _ dX8_get_18 (Option.some.inj hf)
  · have hf := mm_f c4 hf
    refine mj_iload_n X dX8_get_7 2 rfl ?_
    refine mj_iconst (v := (0 : Int32)) X dX8_get_8 (by decide) ?_
    refine mj_iconst (v := (2 : Int32)) X dX8_get_9 (by decide) ?_
    obtain ⟨h5, r6, q7, hf⟩ := mm_c hf
    refine mj_callSi (As := [.int a1, .int (0 : Int32), .int (2 : Int32)]) (rest := []) X (kX8_in l D t1 t2 cI cZ ad N h1 a1 (0 : Int32) (2 : Int32) h5 r6 q7) (va_cwS 3 X.2.2.2.2.1 gX8_get_X8_in rfl rfl rfl (by decide +kernel) ⟨Nat.le_of_ble_eq_true rfl, Nat.le_of_ble_eq_true rfl⟩) rfl rfl (Nat.le_of_ble_eq_true rfl) ⟨Nat.zero_le _, Nat.zero_le _⟩ dX8_get_10 ?_
    refine mj_if_ne (tgt := 19) X dX8_get_13 (by decide) (fun c8 => ?_) (fun c8 => ?_)
    · have hf := mm_f c8 hf
      refine mj_aload_n X dX8_get_19 0 rfl ?_
      refine mj_iload_n X dX8_get_20 1 rfl ?_
      refine mj_iload_n X dX8_get_21 2 rfl ?_
      refine mj_iload_n X dX8_get_22 3 rfl ?_
      obtain ⟨h9, r10, q11, hf⟩ := mm_c hf
      refine mj_callVi (As := [.int a0, .int a1, .int a2]) (rest := []) X (kX8_lacks l D t1 t2 cI cZ ad N h5 a0 a1 a2 h9 r10 q11) (cwV 3 X.2.2.2.2.1 gX8_get_X8_lacks rfl rfl rfl (by decide +kernel) ⟨Nat.le_of_ble_eq_true rfl, Nat.le_of_ble_eq_true rfl⟩) (my_at my_oX8 h5) rfl rfl rfl rfl (Nat.le_of_ble_eq_true rfl) ⟨Nat.zero_le _, Nat.zero_le _⟩ dX8_get_23 ?_
      refine mj_istore (lo' := [(4, .int r10), (0, .ref (ad 0)), (1, .int a0), (2, .int a1), (3, .int a2)]) X dX8_get_26 (by decide) rfl ?_
      refine mj_iload X dX8_get_28 0 rfl ?_
      refine mj_if_le (tgt := 42) X dX8_get_30 (by decide) (fun c12 => ?_) (fun c12 => ?_)
      · have hf := mm_t c12 hf
        refine mj_aload_n X dX8_get_42 1 rfl ?_
        refine mj_get X inwX8_get_X8 (my_at my_oX8 h9) rfl 26 (by decide) rfl lnX8_get_1 rfl dX8_get_43 ?_
        refine mj_bipush (v := (48 : Int32)) X dX8_get_46 (by decide) ?_
        refine mj_iload_n X dX8_get_48 2 rfl ?_
        refine mj_imul X dX8_get_49 ?_
        refine mj_iload_n X dX8_get_50 4 rfl ?_
        refine mj_iadd X dX8_get_51 ?_
        obtain ⟨g13, hf⟩ := mm_g hf
        refine mj_iald X 0 (my_at my_a23 h9) rfl g13 dX8_get_52 ?_
        exact RET h9 _ _ _ dX8_get_53 (Option.some.inj hf)
      · have hf := mm_f c12 hf
        refine mj_aload_n X dX8_get_33 1 rfl ?_
        refine mj_iload X dX8_get_34 0 rfl ?_
        obtain ⟨h14, eh14, hf⟩ := mm_l hf
        refine mj_put X tyX8_ok nmX8 inwX8_get_X8 (my_at my_oX8 h9) rfl 28 (by decide) rfl lnX8_get_2 rfl (tyX8_ok 28 (by decide)) rfl rfl (Nat.le_of_ble_eq_true rfl) (my_put my_oX8 eh14 (by simp [mm_up_at, upd])) dX8_get_36 ?_
        refine mj_ldc (v := (-2147483648 : Int32)) X lnX8_get_0 dX8_get_39 ?_
        exact RET h14 _ _ _ dX8_get_41 (Option.some.inj hf)
    · have hf := mm_t c8 hf
      refine mj_ldc (v := (-2147483648 : Int32)) X lnX8_get_0 dX8_get_16 ?_
      exact RET h5 _ _ _ dX8_get_18 (Option.some.inj hf)
abbrev rmX8_copy : Room := { frames := 2, cells := 0, slots := 0, locals := 42 }
theorem inwX8_copy_X8 : ∀ w ∈ wsX80, w ∈ wsX8_copy := by
  intro w hw
  have h9 : wsX80 = (wsX8_copy.drop 18).take 29 := rfl
  rw [h9] at hw
  exact List.mem_of_mem_drop (List.mem_of_mem_take hw)
theorem lnX8_copy_0 : Cond.fieldLink RX8 67 "RichestPaysModel" "isThere" "[Z" ∈ wsX8_copy := List.mem_of_getElem? (i := 1) rfl
theorem lnX8_copy_1 : Cond.fieldLink RX8 71 "RichestPaysModel" "forms" "[I" ∈ wsX8_copy := List.mem_of_getElem? (i := 2) rfl
theorem lnX8_copy_2 : Cond.fieldLink RX8 74 "RichestPaysModel" "sizes" "[I" ∈ wsX8_copy := List.mem_of_getElem? (i := 3) rfl
theorem lnX8_copy_3 : Cond.fieldLink RX8 80 "RichestPaysModel" "moved" "[I" ∈ wsX8_copy := List.mem_of_getElem? (i := 4) rfl
theorem lnX8_copy_4 : Cond.fieldLink RX8 77 "RichestPaysModel" "items" "[I" ∈ wsX8_copy := List.mem_of_getElem? (i := 5) rfl
set_option maxHeartbeats 4000000 in
set_option maxRecDepth 100000 in
theorem wX8_copy_L120 (X : mm_X p s m args c cX8_copy RX8 wsX8_copy 7 D (my_ty cI cZ) t1 t2 A) (out : mm_M × Int32) (RET : ∀ (h : mm_M) (pc : Nat) (lo : List (Nat × Value)) (v : Int32), decode cX8_copy pc = .ok (.ireturn, 1) → (h, v) = out → mm_J p l e rmX8_copy s m args below meth c 0 0 Q D (my_w cI cZ ad) A 7 h pc lo [.int v]) (N : Nat)  (p1 : Int32) (p2 : Int32) (p3 : Int32) (p4 : Int32) (p5 : Int32) (k : mm_M → Option (mm_M × Int32)) (HK : ∀ (h : mm_M), k h = some out → mm_J p l e rmX8_copy s m args below meth c 0 0 Q D (my_w cI cZ ad) A 7 h 154 [(0, .ref (ad 0)), (3, .int p3), (4, .int p4), (5, .int p5)] []) : ∀ (n : Nat) (h : mm_M) (m6 : Int32), fX8_copy_L120 N p1 p2 p3 p4 p5 k n h m6 = some out → mm_J p l e rmX8_copy s m args below meth c 0 0 Q D (my_w cI cZ ad) A 7 h 120 [(0, .ref (ad 0)), (1, .int p1), (2, .int p2), (3, .int p3), (4, .int p4), (5, .int p5), (6, .int m6)] [] := by
  intro n
  induction n with
  | zero =>
    intro h m6 hf
    cases hf
  | succ n ih =>
    intro h m6 hf
    rw [fX8_copy_L120] at hf
    refine mj_iload X dX8_copy_120 6 rfl ?_
    refine mj_iload X dX8_copy_122 5 rfl ?_
    refine mj_icmp_ge (tgt := 154) X dX8_copy_124 (by decide) (fun c34 => ?_) (fun c34 => ?_)
    · have hf := mm_t c34 hf
      exact mj_sub [0, 3, 4, 5] rfl (HK h hf)
    · have hf := mm_f c34 hf
      refine mj_aload_n X dX8_copy_127 0 rfl ?_
      refine mj_get X inwX8_copy_X8 (my_at my_oX8 h) rfl 27 (by decide) rfl lnX8_copy_3 rfl dX8_copy_128 ?_
      refine mj_iload X dX8_copy_131 6 rfl ?_
      refine mj_aload_n X dX8_copy_133 0 rfl ?_
      refine mj_get X inwX8_copy_X8 (my_at my_oX8 h) rfl 26 (by decide) rfl lnX8_copy_4 rfl dX8_copy_134 ?_
      refine mj_bipush (v := (48 : Int32)) X dX8_copy_137 (by decide) ?_
      refine mj_iload_n X dX8_copy_139 1 rfl ?_
      refine mj_imul X dX8_copy_140 ?_
      refine mj_iload_n X dX8_copy_141 2 rfl ?_
      refine mj_iadd X dX8_copy_142 ?_
      refine mj_iload X dX8_copy_143 6 rfl ?_
      refine mj_iadd X dX8_copy_145 ?_
      obtain ⟨g35, hf⟩ := mm_g hf
      refine mj_iald X 0 (my_at my_a23 h) rfl g35 dX8_copy_146 ?_
      obtain ⟨g36, hf⟩ := mm_g hf
      obtain ⟨h37, eh37, hf⟩ := mm_l hf
      refine mj_iast X 0 (my_at my_a24 h) rfl g36 (my_ast my_a24 eh37) dX8_copy_147 ?_
      refine mj_iinc (k := 6) (v := (m6 + 1)) (lo' := [(6, .int (m6 + 1)), (0, .ref (ad 0)), (1, .int p1), (2, .int p2), (3, .int p3), (4, .int p4), (5, .int p5)]) X dX8_copy_148 rfl rfl (by decide) rfl ?_
      refine mj_goto (tgt := 120) X dX8_copy_151 (by decide) ?_
      exact mj_sub [1, 2, 3, 4, 5, 6, 0] rfl (ih h37 (m6 + 1) hf)
set_option maxHeartbeats 4000000 in
set_option maxRecDepth 100000 in
theorem wX8_copy_L157 (X : mm_X p s m args c cX8_copy RX8 wsX8_copy 7 D (my_ty cI cZ) t1 t2 A) (out : mm_M × Int32) (RET : ∀ (h : mm_M) (pc : Nat) (lo : List (Nat × Value)) (v : Int32), decode cX8_copy pc = .ok (.ireturn, 1) → (h, v) = out → mm_J p l e rmX8_copy s m args below meth c 0 0 Q D (my_w cI cZ ad) A 7 h pc lo [.int v]) (N : Nat)  (p3 : Int32) (p4 : Int32) (p5 : Int32) (k : mm_M → Option (mm_M × Int32)) (HK : ∀ (h : mm_M), k h = some out → mm_J p l e rmX8_copy s m args below meth c 0 0 Q D (my_w cI cZ ad) A 7 h 192 [] []) : ∀ (n : Nat) (h : mm_M) (m6 : Int32), fX8_copy_L157 N p3 p4 p5 k n h m6 = some out → mm_J p l e rmX8_copy s m args below meth c 0 0 Q D (my_w cI cZ ad) A 7 h 157 [(0, .ref (ad 0)), (3, .int p3), (4, .int p4), (5, .int p5), (6, .int m6)] [] := by
  intro n
  induction n with
  | zero =>
    intro h m6 hf
    cases hf
  | succ n ih =>
    intro h m6 hf
    rw [fX8_copy_L157] at hf
    refine mj_iload X dX8_copy_157 4 rfl ?_
    refine mj_iload X dX8_copy_159 3 rfl ?_
    refine mj_icmp_ge (tgt := 192) X dX8_copy_161 (by decide) (fun c39 => ?_) (fun c39 => ?_)
    · have hf := mm_t c39 hf
      exact mj_sub [] rfl (HK h hf)
    · have hf := mm_f c39 hf
      refine mj_aload_n X dX8_copy_164 0 rfl ?_
      refine mj_get X inwX8_copy_X8 (my_at my_oX8 h) rfl 26 (by decide) rfl lnX8_copy_4 rfl dX8_copy_165 ?_
      refine mj_bipush (v := (48 : Int32)) X dX8_copy_168 (by decide) ?_
      refine mj_iload_n X dX8_copy_170 1 rfl ?_
      refine mj_imul X dX8_copy_171 ?_
      refine mj_iload X dX8_copy_172 2 rfl ?_
      refine mj_iadd X dX8_copy_174 ?_
      refine mj_iload X dX8_copy_175 4 rfl ?_
      refine mj_iadd X dX8_copy_177 ?_
      refine mj_aload_n X dX8_copy_178 0 rfl ?_
      refine mj_get X inwX8_copy_X8 (my_at my_oX8 h) rfl 27 (by decide) rfl lnX8_copy_3 rfl dX8_copy_179 ?_
      refine mj_iload X dX8_copy_182 4 rfl ?_
      obtain ⟨g40, hf⟩ := mm_g hf
      refine mj_iald X 0 (my_at my_a24 h) rfl g40 dX8_copy_184 ?_
      obtain ⟨g41, hf⟩ := mm_g hf
      obtain ⟨h42, eh42, hf⟩ := mm_l hf
      refine mj_iast X 0 (my_at my_a23 h) rfl g41 (my_ast my_a23 eh42) dX8_copy_185 ?_
      refine mj_iinc (k := 4) (v := (m6 + 1)) (lo' := [(6, .int (m6 + 1)), (0, .ref (ad 0)), (3, .int p3), (4, .int p4), (5, .int p5)]) X dX8_copy_186 rfl rfl (by decide) rfl ?_
      refine mj_goto (tgt := 157) X dX8_copy_189 (by decide) ?_
      exact mj_sub [1, 2, 3, 4, 0] rfl (ih h42 (m6 + 1) hf)
set_option maxHeartbeats 4000000 in
set_option maxRecDepth 100000 in
theorem kX8_copy (l : Launch) (D : va_G) (t1 t2 : Nat) (cI : ClassId) (cZ : ClassId) (ad : Nat → Nat)  (N : Nat) (h : mm_M) (a0 : Int32) (a1 : Int32) (a2 : Int32) (a3 : Int32) (a4 : Int32) (h1 : mm_M) (r : Int32) (hf : fX8_copy N h a0 a1 a2 a3 a4 = some (h1, r)) : mm_Ki l yX8_copy wsX8_copy rmX8_copy D (my_ty cI cZ) t1 t2 (my_w cI cZ ad) [.ref (ad 0), .int a0, .int a1, .int a2, .int a3, .int a4] h r h1 := by
  refine mm_open_i [.ref (ad 0), .int a0, .int a1, .int a2, .int a3, .int a4] h r h1 RX8 (by decide) rfl rfl (Nat.le_of_ble_eq_true rfl) ?_
  intro p e s m below meth c A X hr hlocks
  have RET : ∀ (h : mm_M) (pc : Nat) (lo : List (Nat × Value)) (v : Int32), decode cX8_copy pc = .ok (.ireturn, 1) → (h, v) = (h1, r) → mm_J p l e rmX8_copy s m ([.ref (ad 0), .int a0, .int a1, .int a2, .int a3, .int a4] : List Value).toArray below meth c 0 0 (MQ below (va_Qi (fun (r' : Int32) (u : mm_M) => r' = r ∧ u = h1) (mm_Post D (my_w cI cZ ad) A) A) ([.ref (ad 0), .int a0, .int a1, .int a2, .int a3, .int a4] : List Value).toArray s 0 0 A) D (my_w cI cZ ad) A 7 h pc lo [.int v] := by
    intro h2 pc lo v hd he
    cases he
    exact mj_iret X hr rfl hlocks hd
  generalize hout : (h1, r) = out at hf RET
  unfold fX8_copy at hf
  refine mj_lo (lo' := [(0, .ref (ad 0)), (1, .int a0), (2, .int a1), (3, .int a2), (4, .int a3), (5, .int a4)]) rfl ?_
  refine mj_iload_n X dX8_copy_0 1 rfl ?_
  obtain ⟨h1, r2, q3, hf⟩ := mm_c hf
  refine mj_callSi (As := [.int a0]) (rest := []) X (kX8_isSheet l D t1 t2 cI cZ ad N h a0 h1 r2 q3) (va_cwS 1 X.2.2.2.2.1 gX8_copy_X8_isSheet rfl rfl rfl (by decide +kernel) ⟨Nat.le_of_ble_eq_true rfl, Nat.le_of_ble_eq_true rfl⟩) rfl rfl (Nat.le_of_ble_eq_true rfl) ⟨Nat.zero_le _, Nat.zero_le _⟩ dX8_copy_1 ?_
  refine mj_if_eq (tgt := 14) X dX8_copy_4 (by decide) (fun c4 => ?_) (fun c4 => ?_)
  · have hf := mm_t c4 hf
    refine mj_bipush (v := (-2 : Int32)) X dX8_copy_14 (by decide) ?_
    exact RET h1 _ _ _ dX8_copy_16 (Option.some.inj hf)
  · have hf := mm_f c4 hf
    refine mj_iload_n X dX8_copy_7 3 rfl ?_
    obtain ⟨h5, r6, q7, hf⟩ := mm_c hf
    refine mj_callSi (As := [.int a2]) (rest := []) X (kX8_isSheet l D t1 t2 cI cZ ad N h1 a2 h5 r6 q7) (va_cwS 1 X.2.2.2.2.1 gX8_copy_X8_isSheet rfl rfl rfl (by decide +kernel) ⟨Nat.le_of_ble_eq_true rfl, Nat.le_of_ble_eq_true rfl⟩) rfl rfl (Nat.le_of_ble_eq_true rfl) ⟨Nat.zero_le _, Nat.zero_le _⟩ dX8_copy_8 ?_
    refine mj_if_ne (tgt := 17) X dX8_copy_11 (by decide) (fun c8 => ?_) (fun c8 => ?_)
    · have hf := mm_f c8 hf
      refine mj_aload_n X dX8_copy_17 0 rfl ?_
      refine mj_get X inwX8_copy_X8 (my_at my_oX8 h5) rfl 23 (by decide) rfl lnX8_copy_0 rfl dX8_copy_18 ?_
      refine mj_iload_n X dX8_copy_21 1 rfl ?_
      obtain ⟨g9, hf⟩ := mm_g hf
      refine mj_zald X 1 (my_at my_a20 h5) rfl g9 dX8_copy_22 ?_
      refine mj_if_eq (tgt := 35) X dX8_copy_23 (by decide) (fun c10 => ?_) (fun c10 => ?_)
      · have hf := mm_t c10 hf
        refine mj_aload_n X dX8_copy_35 0 rfl ?_
        refine mj_iconst (v := (1 : Int32)) X dX8_copy_36 (by decide) ?_
        obtain ⟨h11, r12, q13, hf⟩ := mm_c hf
        refine mj_callVi (As := [.int (1 : Int32)]) (rest := []) X (kX8_meets l D t1 t2 cI cZ ad N h5 (1 : Int32) h11 r12 q13) (cwV 1 X.2.2.2.2.1 gX8_copy_X8_meets rfl rfl rfl (by decide +kernel) ⟨Nat.le_of_ble_eq_true rfl, Nat.le_of_ble_eq_true rfl⟩) (my_at my_oX8 h5) rfl rfl rfl rfl (Nat.le_of_ble_eq_true rfl) ⟨Nat.zero_le _, Nat.zero_le _⟩ dX8_copy_37 ?_
        exact RET h11 _ _ _ dX8_copy_40 (Option.some.inj hf)
      · have hf := mm_f c10 hf
        refine mj_aload_n X dX8_copy_26 0 rfl ?_
        refine mj_get X inwX8_copy_X8 (my_at my_oX8 h5) rfl 23 (by decide) rfl lnX8_copy_0 rfl dX8_copy_27 ?_
        refine mj_iload_n X dX8_copy_30 3 rfl ?_
        obtain ⟨g14, hf⟩ := mm_g hf
        refine mj_zald X 1 (my_at my_a20 h5) rfl g14 dX8_copy_31 ?_
        refine mj_if_ne (tgt := 41) X dX8_copy_32 (by decide) (fun c15 => ?_) (fun c15 => ?_)
        · have hf := mm_f c15 hf
          refine mj_aload_n X dX8_copy_41 0 rfl ?_
          refine mj_get X inwX8_copy_X8 (my_at my_oX8 h5) rfl 24 (by decide) rfl lnX8_copy_1 rfl dX8_copy_42 ?_
          refine mj_iload_n X dX8_copy_45 1 rfl ?_
          refine mj_iald X 0 (my_at my_a21 h5) rfl g9 dX8_copy_46 ?_
          refine mj_aload_n X dX8_copy_47 0 rfl ?_
          refine mj_get X inwX8_copy_X8 (my_at my_oX8 h5) rfl 24 (by decide) rfl lnX8_copy_1 rfl dX8_copy_48 ?_
          refine mj_iload_n X dX8_copy_51 3 rfl ?_
          refine mj_iald X 0 (my_at my_a21 h5) rfl g14 dX8_copy_52 ?_
          refine mj_icmp_eq (tgt := 62) X dX8_copy_53 (by decide) (fun c16 => ?_) (fun c16 => ?_)
          · have hf := mm_t c16 hf
            refine mj_iload_n X dX8_copy_62 2 rfl ?_
            refine mj_if_lt (tgt := 111) X dX8_copy_63 (by decide) (fun c17 => ?_) (fun c17 => ?_)
            · have hf := mm_t c17 hf
              refine mj_aload_n X dX8_copy_111 0 rfl ?_
              refine mj_iconst (v := (2 : Int32)) X dX8_copy_112 (by decide) ?_
              obtain ⟨h18, r19, q20, hf⟩ := mm_c hf
              refine mj_callVi (As := [.int (2 : Int32)]) (rest := []) X (kX8_meets l D t1 t2 cI cZ ad N h5 (2 : Int32) h18 r19 q20) (cwV 1 X.2.2.2.2.1 gX8_copy_X8_meets rfl rfl rfl (by decide +kernel) ⟨Nat.le_of_ble_eq_true rfl, Nat.le_of_ble_eq_true rfl⟩) (my_at my_oX8 h5) rfl rfl rfl rfl (Nat.le_of_ble_eq_true rfl) ⟨Nat.zero_le _, Nat.zero_le _⟩ dX8_copy_113 ?_
              exact RET h18 _ _ _ dX8_copy_116 (Option.some.inj hf)
            · have hf := mm_f c17 hf
              refine mj_iload X dX8_copy_66 4 rfl ?_
              refine mj_if_lt (tgt := 111) X dX8_copy_68 (by decide) (fun c21 => ?_) (fun c21 => ?_)
              · have hf := mm_t c21 hf
                refine mj_aload_n X dX8_copy_111 0 rfl ?_
                refine mj_iconst (v := (2 : Int32)) X dX8_copy_112 (by decide) ?_
                obtain ⟨h22, r23, q24, hf⟩ := mm_c hf
                refine mj_callVi (As := [.int (2 : Int32)]) (rest := []) X (kX8_meets l D t1 t2 cI cZ ad N h5 (2 : Int32) h22 r23 q24) (cwV 1 X.2.2.2.2.1 gX8_copy_X8_meets rfl rfl rfl (by decide +kernel) ⟨Nat.le_of_ble_eq_true rfl, Nat.le_of_ble_eq_true rfl⟩) (my_at my_oX8 h5) rfl rfl rfl rfl (Nat.le_of_ble_eq_true rfl) ⟨Nat.zero_le _, Nat.zero_le _⟩ dX8_copy_113 ?_
                exact RET h22 _ _ _ dX8_copy_116 (Option.some.inj hf)
              · have hf := mm_f c21 hf
                refine mj_iload X dX8_copy_71 5 rfl ?_
                refine mj_if_lt (tgt := 111) X dX8_copy_73 (by decide) (fun c25 => ?_) (fun c25 => ?_)
                · have hf := mm_t c25 hf
                  refine mj_aload_n X dX8_copy_111 0 rfl ?_
                  refine mj_iconst (v := (2 : Int32)) X dX8_copy_112 (by decide) ?_
                  obtain ⟨h26, r27, q28, hf⟩ := mm_c hf
                  refine mj_callVi (As := [.int (2 : Int32)]) (rest := []) X (kX8_meets l D t1 t2 cI cZ ad N h5 (2 : Int32) h26 r27 q28) (cwV 1 X.2.2.2.2.1 gX8_copy_X8_meets rfl rfl rfl (by decide +kernel) ⟨Nat.le_of_ble_eq_true rfl, Nat.le_of_ble_eq_true rfl⟩) (my_at my_oX8 h5) rfl rfl rfl rfl (Nat.le_of_ble_eq_true rfl) ⟨Nat.zero_le _, Nat.zero_le _⟩ dX8_copy_113 ?_
                  exact RET h26 _ _ _ dX8_copy_116 (Option.some.inj hf)
                · have hf := mm_f c25 hf
                  refine mj_iload_n X dX8_copy_76 2 rfl ?_
                  refine mj_i2l X dX8_copy_77 ?_
                  refine mj_iload X dX8_copy_78 5 rfl ?_
                  refine mj_i2l X dX8_copy_80 ?_
                  refine mj_ladd X dX8_copy_81 ?_
                  refine mj_aload_n X dX8_copy_82 0 rfl ?_
                  refine mj_get X inwX8_copy_X8 (my_at my_oX8 h5) rfl 25 (by decide) rfl lnX8_copy_2 rfl dX8_copy_83 ?_
                  refine mj_iload_n X dX8_copy_86 1 rfl ?_
                  refine mj_iald X 0 (my_at my_a22 h5) rfl g9 dX8_copy_87 ?_
                  refine mj_i2l X dX8_copy_88 ?_
                  refine mj_lcmp X dX8_copy_89 ?_
                  refine mj_if_gt (tgt := 111) X dX8_copy_90 (by decide) (fun c29 => ?_) (fun c29 => ?_)
                  · have hf := mm_t c29 hf
                    refine mj_aload_n X dX8_copy_111 0 rfl ?_
                    refine mj_iconst (v := (2 : Int32)) X dX8_copy_112 (by decide) ?_
                    obtain ⟨h30, r31, q32, hf⟩ := mm_c hf
                    refine mj_callVi (As := [.int (2 : Int32)]) (rest := []) X (kX8_meets l D t1 t2 cI cZ ad N h5 (2 : Int32) h30 r31 q32) (cwV 1 X.2.2.2.2.1 gX8_copy_X8_meets rfl rfl rfl (by decide +kernel) ⟨Nat.le_of_ble_eq_true rfl, Nat.le_of_ble_eq_true rfl⟩) (my_at my_oX8 h5) rfl rfl rfl rfl (Nat.le_of_ble_eq_true rfl) ⟨Nat.zero_le _, Nat.zero_le _⟩ dX8_copy_113 ?_
                    exact RET h30 _ _ _ dX8_copy_116 (Option.some.inj hf)
                  · have hf := mm_f c29 hf
                    refine mj_iload X dX8_copy_93 4 rfl ?_
                    refine mj_i2l X dX8_copy_95 ?_
                    refine mj_iload X dX8_copy_96 5 rfl ?_
                    refine mj_i2l X dX8_copy_98 ?_
                    refine mj_ladd X dX8_copy_99 ?_
                    refine mj_aload_n X dX8_copy_100 0 rfl ?_
                    refine mj_get X inwX8_copy_X8 (my_at my_oX8 h5) rfl 25 (by decide) rfl lnX8_copy_2 rfl dX8_copy_101 ?_
                    refine mj_iload_n X dX8_copy_104 3 rfl ?_
                    refine mj_iald X 0 (my_at my_a22 h5) rfl g14 dX8_copy_105 ?_
                    refine mj_i2l X dX8_copy_106 ?_
                    refine mj_lcmp X dX8_copy_107 ?_
                    refine mj_if_le (tgt := 117) X dX8_copy_108 (by decide) (fun c33 => ?_) (fun c33 => ?_)
                    · have hf := mm_t c33 hf
                      refine mj_iconst (v := (0 : Int32)) X dX8_copy_117 (by decide) ?_
                      refine mj_istore (lo' := [(6, .int (0 : Int32)), (0, .ref (ad 0)), (1, .int a0), (2, .int a1), (3, .int a2), (4, .int a3), (5, .int a4)]) X dX8_copy_118 (by decide) rfl ?_
                      refine mj_sub [1, 2, 3, 4, 5, 6, 0] rfl (wX8_copy_L120 X out RET N a0 a1 a2 a3 a4 _ (fun h38 hf => ?_) N h5 (0 : Int32) hf)
                      refine mj_iconst (v := (0 : Int32)) X dX8_copy_154 (by decide) ?_
                      refine mj_istore (lo' := [(6, .int (0 : Int32)), (0, .ref (ad 0)), (3, .int a2), (4, .int a3), (5, .int a4)]) X dX8_copy_155 (by decide) rfl ?_
                      refine mj_sub [1, 2, 3, 4, 0] rfl (wX8_copy_L157 X out RET N a2 a3 a4 _ (fun h43 hf => ?_) N h38 (0 : Int32) hf)
                      refine mj_iconst (v := (1 : Int32)) X dX8_copy_192 (by decide) ?_
                      exact RET h43 _ _ _ dX8_copy_193 (Option.some.inj hf)
                    · have hf := mm_f c33 hf
                      refine mj_aload_n X dX8_copy_111 0 rfl ?_
                      refine mj_iconst (v := (2 : Int32)) X dX8_copy_112 (by decide) ?_
                      obtain ⟨h44, r45, q46, hf⟩ := mm_c hf
                      refine mj_callVi (As := [.int (2 : Int32)]) (rest := []) X (kX8_meets l D t1 t2 cI cZ ad N h5 (2 : Int32) h44 r45 q46) (cwV 1 X.2.2.2.2.1 gX8_copy_X8_meets rfl rfl rfl (by decide +kernel) ⟨Nat.le_of_ble_eq_true rfl, Nat.le_of_ble_eq_true rfl⟩) (my_at my_oX8 h5) rfl rfl rfl rfl (Nat.le_of_ble_eq_true rfl) ⟨Nat.zero_le _, Nat.zero_le _⟩ dX8_copy_113 ?_
                      exact RET h44 _ _ _ dX8_copy_116 (Option.some.inj hf)
          · have hf := mm_f c16 hf
            refine mj_aload_n X dX8_copy_56 0 rfl ?_
            refine mj_iconst (v := (4 : Int32)) X dX8_copy_57 (by decide) ?_
            obtain ⟨h47, r48, q49, hf⟩ := mm_c hf
            refine mj_callVi (As := [.int (4 : Int32)]) (rest := []) X (kX8_meets l D t1 t2 cI cZ ad N h5 (4 : Int32) h47 r48 q49) (cwV 1 X.2.2.2.2.1 gX8_copy_X8_meets rfl rfl rfl (by decide +kernel) ⟨Nat.le_of_ble_eq_true rfl, Nat.le_of_ble_eq_true rfl⟩) (my_at my_oX8 h5) rfl rfl rfl rfl (Nat.le_of_ble_eq_true rfl) ⟨Nat.zero_le _, Nat.zero_le _⟩ dX8_copy_58 ?_
            exact RET h47 _ _ _ dX8_copy_61 (Option.some.inj hf)
        · have hf := mm_t c15 hf
          refine mj_aload_n X dX8_copy_35 0 rfl ?_
          refine mj_iconst (v := (1 : Int32)) X dX8_copy_36 (by decide) ?_
          obtain ⟨h50, r51, q52, hf⟩ := mm_c hf
          refine mj_callVi (As := [.int (1 : Int32)]) (rest := []) X (kX8_meets l D t1 t2 cI cZ ad N h5 (1 : Int32) h50 r51 q52) (cwV 1 X.2.2.2.2.1 gX8_copy_X8_meets rfl rfl rfl (by decide +kernel) ⟨Nat.le_of_ble_eq_true rfl, Nat.le_of_ble_eq_true rfl⟩) (my_at my_oX8 h5) rfl rfl rfl rfl (Nat.le_of_ble_eq_true rfl) ⟨Nat.zero_le _, Nat.zero_le _⟩ dX8_copy_37 ?_
          exact RET h50 _ _ _ dX8_copy_40 (Option.some.inj hf)
    · have hf := mm_t c8 hf
      refine mj_bipush (v := (-2 : Int32)) X dX8_copy_14 (by decide) ?_
      exact RET h5 _ _ _ dX8_copy_16 (Option.some.inj hf)
abbrev rmX8_write : Room := { frames := 5, cells := 0, slots := 0, locals := 111 }
theorem inwX8_write_X8 : ∀ w ∈ wsX80, w ∈ wsX8_write := by
  intro w hw
  have h9 : wsX80 = (wsX8_write.drop 82).take 29 := rfl
  rw [h9] at hw
  exact List.mem_of_mem_drop (List.mem_of_mem_take hw)
theorem lnX8_write_0 : Cond.fieldLink RX8 67 "RichestPaysModel" "isThere" "[Z" ∈ wsX8_write := List.mem_of_getElem? (i := 1) rfl
theorem lnX8_write_1 : Cond.fieldLink RX8 74 "RichestPaysModel" "sizes" "[I" ∈ wsX8_write := List.mem_of_getElem? (i := 2) rfl
theorem lnX8_write_2 : Cond.fieldLink RX8 89 "RichestPaysModel" "people" "I" ∈ wsX8_write := List.mem_of_getElem? (i := 3) rfl
theorem lnX8_write_3 : Cond.fieldLink RX8 34 "RichestPaysModel" "hand" "[I" ∈ wsX8_write := List.mem_of_getElem? (i := 4) rfl
set_option maxHeartbeats 4000000 in
set_option maxRecDepth 100000 in
theorem wX8_write_L40 (X : mm_X p s m args c cX8_write RX8 wsX8_write 4 D (my_ty cI cZ) t1 t2 A) (out : mm_M × Int32) (RET : ∀ (h : mm_M) (pc : Nat) (lo : List (Nat × Value)) (v : Int32), decode cX8_write pc = .ok (.ireturn, 1) → (h, v) = out → mm_J p l e rmX8_write s m args below meth c 0 0 Q D (my_w cI cZ ad) A 4 h pc lo [.int v]) (N : Nat)  (p2 : Int32) (k : mm_M → Int32 → Option (mm_M × Int32)) (HK : ∀ (h : mm_M) (m3 : Int32), k h m3 = some out → mm_J p l e rmX8_write s m args below meth c 0 0 Q D (my_w cI cZ ad) A 4 h 76 [(3, .int m3)] []) : ∀ (n : Nat) (h : mm_M) (m3 : Int32), fX8_write_L40 N p2 k n h m3 = some out → mm_J p l e rmX8_write s m args below meth c 0 0 Q D (my_w cI cZ ad) A 4 h 40 [(0, .ref (ad 0)), (2, .int p2), (3, .int m3)] [] := by
  intro n
  induction n with
  | zero =>
    intro h m3 hf
    cases hf
  | succ n ih =>
    intro h m3 hf
    rw [fX8_write_L40] at hf
    refine mj_iload_n X dX8_write_40 2 rfl ?_
    refine mj_aload_n X dX8_write_41 0 rfl ?_
    refine mj_get X inwX8_write_X8 (my_at my_oX8 h) rfl 25 (by decide) rfl lnX8_write_1 rfl dX8_write_42 ?_
    refine mj_iload_n X dX8_write_45 1 rfl ?_
    obtain ⟨g14, hf⟩ := mm_g hf
    refine mj_iald X 0 (my_at my_a22 h) rfl g14 dX8_write_46 ?_
    refine mj_icmp_ge (tgt := 76) X dX8_write_47 (by decide) (fun c15 => ?_) (fun c15 => ?_)
    · have hf := mm_t c15 hf
      exact mj_sub [2] rfl (HK h m3 hf)
    · have hf := mm_f c15 hf
      refine mj_iload_n X dX8_write_50 2 rfl ?_
      refine mj_aload_n X dX8_write_51 0 rfl ?_
      refine mj_get X inwX8_write_X8 (my_at my_oX8 h) rfl 2 (by decide) rfl lnX8_write_2 rfl dX8_write_52 ?_
      refine mj_icmp_ge (tgt := 76) X dX8_write_55 (by decide) (fun c16 => ?_) (fun c16 => ?_)
      · have hf := mm_t c16 hf
        exact mj_sub [2] rfl (HK h m3 hf)
      · have hf := mm_f c16 hf
        refine mj_aload_n X dX8_write_58 0 rfl ?_
        refine mj_iload_n X dX8_write_59 1 rfl ?_
        refine mj_iload_n X dX8_write_60 2 rfl ?_
        refine mj_aload_n X dX8_write_61 0 rfl ?_
        refine mj_get X inwX8_write_X8 (my_at my_oX8 h) rfl 10 (by decide) rfl lnX8_write_3 rfl dX8_write_62 ?_
        refine mj_iload_n X dX8_write_65 2 rfl ?_
        obtain ⟨g17, hf⟩ := mm_g hf
        refine mj_iald X 0 (my_at my_a9 h) rfl g17 dX8_write_66 ?_
        obtain ⟨h18, r19, q20, hf⟩ := mm_c hf
        refine mj_callVv (As := [.int p2, .int m3, .int (h 9 m3.toNatClampNeg)]) (rest := []) X (kX8_keep l D t1 t2 cI cZ ad N h p2 m3 (h 9 m3.toNatClampNeg) h18 r19 q20) (cwV 3 X.2.2.2.2.1 gX8_write_X8_keep rfl rfl rfl (by decide +kernel) ⟨Nat.le_of_ble_eq_true rfl, Nat.le_of_ble_eq_true rfl⟩) (my_at my_oX8 h) rfl rfl rfl rfl (Nat.le_of_ble_eq_true rfl) ⟨Nat.zero_le _, Nat.zero_le _⟩ dX8_write_67 ?_
        refine mj_iinc (k := 2) (v := (m3 + 1)) (lo' := [(3, .int (m3 + 1)), (0, .ref (ad 0)), (2, .int p2)]) X dX8_write_70 rfl rfl (by decide) rfl ?_
        refine mj_goto (tgt := 40) X dX8_write_73 (by decide) ?_
        exact mj_sub [1, 2, 0] rfl (ih h18 (m3 + 1) hf)
set_option maxHeartbeats 4000000 in
set_option maxRecDepth 100000 in
theorem kX8_write (l : Launch) (D : va_G) (t1 t2 : Nat) (cI : ClassId) (cZ : ClassId) (ad : Nat → Nat)  (N : Nat) (h : mm_M) (a0 : Int32) (a1 : Int32) (h1 : mm_M) (r : Int32) (hf : fX8_write N h a0 a1 = some (h1, r)) : mm_Ki l yX8_write wsX8_write rmX8_write D (my_ty cI cZ) t1 t2 (my_w cI cZ ad) [.ref (ad 0), .int a0, .int a1] h r h1 := by
  refine mm_open_i [.ref (ad 0), .int a0, .int a1] h r h1 RX8 (by decide) rfl rfl (Nat.le_of_ble_eq_true rfl) ?_
  intro p e s m below meth c A X hr hlocks
  have RET : ∀ (h : mm_M) (pc : Nat) (lo : List (Nat × Value)) (v : Int32), decode cX8_write pc = .ok (.ireturn, 1) → (h, v) = (h1, r) → mm_J p l e rmX8_write s m ([.ref (ad 0), .int a0, .int a1] : List Value).toArray below meth c 0 0 (MQ below (va_Qi (fun (r' : Int32) (u : mm_M) => r' = r ∧ u = h1) (mm_Post D (my_w cI cZ ad) A) A) ([.ref (ad 0), .int a0, .int a1] : List Value).toArray s 0 0 A) D (my_w cI cZ ad) A 4 h pc lo [.int v] := by
    intro h2 pc lo v hd he
    cases he
    exact mj_iret X hr rfl hlocks hd
  generalize hout : (h1, r) = out at hf RET
  unfold fX8_write at hf
  refine mj_lo (lo' := [(0, .ref (ad 0)), (1, .int a0), (2, .int a1)]) rfl ?_
  refine mj_aload_n X dX8_write_0 0 rfl ?_
  refine mj_iload_n X dX8_write_1 1 rfl ?_
  obtain ⟨h1, r2, q3, hf⟩ := mm_c hf
  refine mj_callVi (As := [.int a0]) (rest := []) X (kX8_isBehind l D t1 t2 cI cZ ad N h a0 h1 r2 q3) (cwV 1 X.2.2.2.2.1 gX8_write_X8_isBehind rfl rfl rfl (by decide +kernel) ⟨Nat.le_of_ble_eq_true rfl, Nat.le_of_ble_eq_true rfl⟩) (my_at my_oX8 h) rfl rfl rfl rfl (Nat.le_of_ble_eq_true rfl) ⟨Nat.zero_le _, Nat.zero_le _⟩ dX8_write_2 ?_
  refine mj_if_eq (tgt := 15) X dX8_write_5 (by decide) (fun c4 => ?_) (fun c4 => ?_)
  · have hf := mm_t c4 hf
    refine mj_bipush (v := (-2 : Int32)) X dX8_write_15 (by decide) ?_
    exact RET h1 _ _ _ dX8_write_17 (Option.some.inj hf)
  · have hf := mm_f c4 hf
    refine mj_iload_n X dX8_write_8 2 rfl ?_
    obtain ⟨h5, r6, q7, hf⟩ := mm_c hf
    refine mj_callSi (As := [.int a1]) (rest := []) X (kX8_isSheet l D t1 t2 cI cZ ad N h1 a1 h5 r6 q7) (va_cwS 1 X.2.2.2.2.1 gX8_write_X8_isSheet rfl rfl rfl (by decide +kernel) ⟨Nat.le_of_ble_eq_true rfl, Nat.le_of_ble_eq_true rfl⟩) rfl rfl (Nat.le_of_ble_eq_true rfl) ⟨Nat.zero_le _, Nat.zero_le _⟩ dX8_write_9 ?_
    refine mj_if_ne (tgt := 18) X dX8_write_12 (by decide) (fun c8 => ?_) (fun c8 => ?_)
    · have hf := mm_f c8 hf
      refine mj_aload_n X dX8_write_18 0 rfl ?_
      refine mj_get X inwX8_write_X8 (my_at my_oX8 h5) rfl 23 (by decide) rfl lnX8_write_0 rfl dX8_write_19 ?_
      refine mj_iload_n X dX8_write_22 2 rfl ?_
      obtain ⟨g9, hf⟩ := mm_g hf
      refine mj_zald X 1 (my_at my_a20 h5) rfl g9 dX8_write_23 ?_
      refine mj_if_ne (tgt := 33) X dX8_write_24 (by decide) (fun c10 => ?_) (fun c10 => ?_)
      · have hf := mm_f c10 hf
        refine mj_aload_n X dX8_write_33 0 rfl ?_
        refine mj_iload_n X dX8_write_34 1 rfl ?_
        obtain ⟨h11, r12, q13, hf⟩ := mm_c hf
        refine mj_callVv (As := [.int a0]) (rest := []) X (kX8_runs l D t1 t2 cI cZ ad N h5 a0 h11 r12 q13) (cwV 1 X.2.2.2.2.1 gX8_write_X8_runs rfl rfl rfl (by decide +kernel) ⟨Nat.le_of_ble_eq_true rfl, Nat.le_of_ble_eq_true rfl⟩) (my_at my_oX8 h5) rfl rfl rfl rfl (Nat.le_of_ble_eq_true rfl) ⟨Nat.zero_le _, Nat.zero_le _⟩ dX8_write_35 ?_
        refine mj_iconst (v := (0 : Int32)) X dX8_write_38 (by decide) ?_
        refine mj_istore_n (lo' := [(3, .int (0 : Int32)), (0, .ref (ad 0)), (1, .int a0), (2, .int a1)]) X dX8_write_39 (by decide) rfl ?_
        refine mj_sub [1, 3, 0] rfl (wX8_write_L40 X out RET N a1 _ (fun h21 v22 hf => ?_) N h11 (0 : Int32) hf)
        refine mj_iload_n X dX8_write_76 0 rfl ?_
        exact RET h21 _ _ _ dX8_write_77 (Option.some.inj hf)
      · have hf := mm_t c10 hf
        refine mj_aload_n X dX8_write_27 0 rfl ?_
        refine mj_iconst (v := (1 : Int32)) X dX8_write_28 (by decide) ?_
        obtain ⟨h23, r24, q25, hf⟩ := mm_c hf
        refine mj_callVi (As := [.int (1 : Int32)]) (rest := []) X (kX8_meets l D t1 t2 cI cZ ad N h5 (1 : Int32) h23 r24 q25) (cwV 1 X.2.2.2.2.1 gX8_write_X8_meets rfl rfl rfl (by decide +kernel) ⟨Nat.le_of_ble_eq_true rfl, Nat.le_of_ble_eq_true rfl⟩) (my_at my_oX8 h5) rfl rfl rfl rfl (Nat.le_of_ble_eq_true rfl) ⟨Nat.zero_le _, Nat.zero_le _⟩ dX8_write_29 ?_
        exact RET h23 _ _ _ dX8_write_32 (Option.some.inj hf)
    · have hf := mm_t c8 hf
      refine mj_bipush (v := (-2 : Int32)) X dX8_write_15 (by decide) ?_
      exact RET h5 _ _ _ dX8_write_17 (Option.some.inj hf)
abbrev rmX8_sumOf : Room := { frames := 4, cells := 0, slots := 0, locals := 90 }
theorem inwX8_sumOf_X8 : ∀ w ∈ wsX80, w ∈ wsX8_sumOf := by
  intro w hw
  have h9 : wsX80 = (wsX8_sumOf.drop 62).take 29 := rfl
  rw [h9] at hw
  exact List.mem_of_mem_drop (List.mem_of_mem_take hw)
theorem lnX8_sumOf_0 : Cond.fieldLink RX8 89 "RichestPaysModel" "people" "I" ∈ wsX8_sumOf := List.mem_of_getElem? (i := 2) rfl
theorem lnX8_sumOf_1 : Cond.fieldLink RX8 34 "RichestPaysModel" "hand" "[I" ∈ wsX8_sumOf := List.mem_of_getElem? (i := 4) rfl
theorem lnX8_sumOf_2 : Cond.fieldLink RX8 16 "RichestPaysModel" "purses" "[I" ∈ wsX8_sumOf := List.mem_of_getElem? (i := 3) rfl
theorem lnX8_sumOf_3 : Cond.fieldLink RX8 97 "RichestPaysModel" "rounds" "I" ∈ wsX8_sumOf := List.mem_of_getElem? (i := 1) rfl
theorem lnX8_sumOf_4 : Cond.fieldLink RX8 136 "RichestPaysModel" "meals" "I" ∈ wsX8_sumOf := List.mem_of_getElem? (i := 5) rfl
set_option maxHeartbeats 4000000 in
set_option maxRecDepth 100000 in
theorem wX8_sumOf_L26 (X : mm_X p s m args c cX8_sumOf RX8 wsX8_sumOf 4 D (my_ty cI cZ) t1 t2 A) (out : mm_M × Int32) (RET : ∀ (h : mm_M) (pc : Nat) (lo : List (Nat × Value)) (v : Int32), decode cX8_sumOf pc = .ok (.ireturn, 1) → (h, v) = out → mm_J p l e rmX8_sumOf s m args below meth c 0 0 Q D (my_w cI cZ ad) A 4 h pc lo [.int v]) (N : Nat)  (p1 : Int32) (k : mm_M → Int32 → Option (mm_M × Int32)) (HK : ∀ (h : mm_M) (m2 : Int32), k h m2 = some out → mm_J p l e rmX8_sumOf s m args below meth c 0 0 Q D (my_w cI cZ ad) A 4 h 63 [(0, .ref (ad 0)), (1, .int p1), (2, .int m2)] []) : ∀ (n : Nat) (h : mm_M) (m2 : Int32) (m3 : Int32), fX8_sumOf_L26 N p1 k n h m2 m3 = some out → mm_J p l e rmX8_sumOf s m args below meth c 0 0 Q D (my_w cI cZ ad) A 4 h 26 [(0, .ref (ad 0)), (1, .int p1), (2, .int m2), (3, .int m3)] [] := by
  intro n
  induction n with
  | zero =>
    intro h m2 m3 hf
    cases hf
  | succ n ih =>
    intro h m2 m3 hf
    rw [fX8_sumOf_L26] at hf
    refine mj_iload_n X dX8_sumOf_26 3 rfl ?_
    refine mj_aload_n X dX8_sumOf_27 0 rfl ?_
    refine mj_get X inwX8_sumOf_X8 (my_at my_oX8 h) rfl 2 (by decide) rfl lnX8_sumOf_0 rfl dX8_sumOf_28 ?_
    refine mj_icmp_ge (tgt := 63) X dX8_sumOf_31 (by decide) (fun c8 => ?_) (fun c8 => ?_)
    · have hf := mm_t c8 hf
      exact mj_sub [0, 1, 2] rfl (HK h m2 hf)
    · have hf := mm_f c8 hf
      refine mj_iload_n X dX8_sumOf_34 2 rfl ?_
      refine mj_iload_n X dX8_sumOf_35 1 rfl ?_
      refine mj_iconst (v := (5 : Int32)) X dX8_sumOf_36 (by decide) ?_
      refine mj_icmp_ne (tgt := 49) X dX8_sumOf_37 (by decide) (fun c9 => ?_) (fun c9 => ?_)
      · have hf := mm_f c9 hf
        refine mj_aload_n X dX8_sumOf_49 0 rfl ?_
        refine mj_get X inwX8_sumOf_X8 (my_at my_oX8 h) rfl 10 (by decide) rfl lnX8_sumOf_1 rfl dX8_sumOf_50 ?_
        refine mj_iload_n X dX8_sumOf_53 3 rfl ?_
        obtain ⟨g10, hf⟩ := mm_g hf
        refine mj_iald X 0 (my_at my_a9 h) rfl g10 dX8_sumOf_54 ?_
        refine mj_iadd X dX8_sumOf_55 ?_
        obtain ⟨x11, ex11, hf⟩ := mm_l hf
        refine mj_topi ex11 ?_
        refine mj_istore_n (lo' := [(2, .int x11), (0, .ref (ad 0)), (1, .int p1), (3, .int m3)]) X dX8_sumOf_56 (by decide) rfl ?_
        refine mj_iinc (k := 3) (v := (m3 + 1)) (lo' := [(3, .int (m3 + 1)), (2, .int x11), (0, .ref (ad 0)), (1, .int p1)]) X dX8_sumOf_57 rfl rfl (by decide) rfl ?_
        refine mj_goto (tgt := 26) X dX8_sumOf_60 (by decide) ?_
        exact mj_sub [2, 3, 1, 0] rfl (ih h x11 (m3 + 1) hf)
      · have hf := mm_t c9 hf
        refine mj_aload_n X dX8_sumOf_40 0 rfl ?_
        refine mj_get X inwX8_sumOf_X8 (my_at my_oX8 h) rfl 3 (by decide) rfl lnX8_sumOf_2 rfl dX8_sumOf_41 ?_
        refine mj_iload_n X dX8_sumOf_44 3 rfl ?_
        obtain ⟨g12, hf⟩ := mm_g hf
        refine mj_iald X 0 (my_at my_a3 h) rfl g12 dX8_sumOf_45 ?_
        refine mj_goto (tgt := 55) X dX8_sumOf_46 (by decide) ?_
        refine mj_iadd X dX8_sumOf_55 ?_
        obtain ⟨x13, ex13, hf⟩ := mm_l hf
        refine mj_topi ex13 ?_
        refine mj_istore_n (lo' := [(2, .int x13), (0, .ref (ad 0)), (1, .int p1), (3, .int m3)]) X dX8_sumOf_56 (by decide) rfl ?_
        refine mj_iinc (k := 3) (v := (m3 + 1)) (lo' := [(3, .int (m3 + 1)), (2, .int x13), (0, .ref (ad 0)), (1, .int p1)]) X dX8_sumOf_57 rfl rfl (by decide) rfl ?_
        refine mj_goto (tgt := 26) X dX8_sumOf_60 (by decide) ?_
        exact mj_sub [2, 3, 1, 0] rfl (ih h x13 (m3 + 1) hf)
set_option maxHeartbeats 4000000 in
set_option maxRecDepth 100000 in
theorem kX8_sumOf (l : Launch) (D : va_G) (t1 t2 : Nat) (cI : ClassId) (cZ : ClassId) (ad : Nat → Nat)  (N : Nat) (h : mm_M) (a0 : Int32) (h1 : mm_M) (r : Int32) (hf : fX8_sumOf N h a0 = some (h1, r)) : mm_Ki l yX8_sumOf wsX8_sumOf rmX8_sumOf D (my_ty cI cZ) t1 t2 (my_w cI cZ ad) [.ref (ad 0), .int a0] h r h1 := by
  refine mm_open_i [.ref (ad 0), .int a0] h r h1 RX8 (by decide) rfl rfl (Nat.le_of_ble_eq_true rfl) ?_
  intro p e s m below meth c A X hr hlocks
  have RET : ∀ (h : mm_M) (pc : Nat) (lo : List (Nat × Value)) (v : Int32), decode cX8_sumOf pc = .ok (.ireturn, 1) → (h, v) = (h1, r) → mm_J p l e rmX8_sumOf s m ([.ref (ad 0), .int a0] : List Value).toArray below meth c 0 0 (MQ below (va_Qi (fun (r' : Int32) (u : mm_M) => r' = r ∧ u = h1) (mm_Post D (my_w cI cZ ad) A) A) ([.ref (ad 0), .int a0] : List Value).toArray s 0 0 A) D (my_w cI cZ ad) A 4 h pc lo [.int v] := by
    intro h2 pc lo v hd he
    cases he
    exact mj_iret X hr rfl hlocks hd
  generalize hout : (h1, r) = out at hf RET
  unfold fX8_sumOf at hf
  refine mj_lo (lo' := [(0, .ref (ad 0)), (1, .int a0)]) rfl ?_
  refine mj_aload_n X dX8_sumOf_0 0 rfl ?_
  obtain ⟨h1, r2, q3, hf⟩ := mm_c hf
  refine mj_callVv (As := []) (rest := []) X (kX8_reads l D t1 t2 cI cZ ad N h h1 r2 q3) (cwV 0 X.2.2.2.2.1 gX8_sumOf_X8_reads rfl rfl rfl (by decide +kernel) ⟨Nat.le_of_ble_eq_true rfl, Nat.le_of_ble_eq_true rfl⟩) (my_at my_oX8 h) rfl rfl rfl rfl (Nat.le_of_ble_eq_true rfl) ⟨Nat.zero_le _, Nat.zero_le _⟩ dX8_sumOf_1 ?_
  refine mj_aload_n X dX8_sumOf_4 0 rfl ?_
  refine mj_iload_n X dX8_sumOf_5 1 rfl ?_
  refine mj_bipush (v := (7 : Int32)) X dX8_sumOf_6 (by decide) ?_
  refine mj_icmp_ne (tgt := 18) X dX8_sumOf_8 (by decide) (fun c4 => ?_) (fun c4 => ?_)
  · have hf := mm_f c4 hf
    refine mj_iconst (v := (0 : Int32)) X dX8_sumOf_18 (by decide) ?_
    obtain ⟨h5, r6, q7, hf⟩ := mm_c hf
    refine mj_callVv (As := [.int (0 : Int32)]) (rest := []) X (kX8_runs l D t1 t2 cI cZ ad N h1 (0 : Int32) h5 r6 q7) (cwV 1 X.2.2.2.2.1 gX8_sumOf_X8_runs rfl rfl rfl (by decide +kernel) ⟨Nat.le_of_ble_eq_true rfl, Nat.le_of_ble_eq_true rfl⟩) (my_at my_oX8 h1) rfl rfl rfl rfl (Nat.le_of_ble_eq_true rfl) ⟨Nat.zero_le _, Nat.zero_le _⟩ dX8_sumOf_19 ?_
    refine mj_iconst (v := (0 : Int32)) X dX8_sumOf_22 (by decide) ?_
    refine mj_istore_n (lo' := [(2, .int (0 : Int32)), (0, .ref (ad 0)), (1, .int a0)]) X dX8_sumOf_23 (by decide) rfl ?_
    refine mj_iconst (v := (0 : Int32)) X dX8_sumOf_24 (by decide) ?_
    refine mj_istore_n (lo' := [(3, .int (0 : Int32)), (2, .int (0 : Int32)), (0, .ref (ad 0)), (1, .int a0)]) X dX8_sumOf_25 (by decide) rfl ?_
    refine mj_sub [2, 3, 1, 0] rfl (wX8_sumOf_L26 X out RET N a0 _ (fun h14 v15 hf => ?_) N h5 (0 : Int32) (0 : Int32) hf)
    refine mj_iload_n X dX8_sumOf_63 1 rfl ?_
    refine mj_if_ne (tgt := 74) X dX8_sumOf_64 (by decide) (fun c16 => ?_) (fun c16 => ?_)
    · have hf := mm_f c16 hf
      refine mj_iload_n X dX8_sumOf_74 1 rfl ?_
      refine mj_iconst (v := (1 : Int32)) X dX8_sumOf_75 (by decide) ?_
      refine mj_icmp_ne (tgt := 86) X dX8_sumOf_76 (by decide) (fun c17 => ?_) (fun c17 => ?_)
      · have hf := mm_f c17 hf
        refine mj_iload_n X dX8_sumOf_86 1 rfl ?_
        refine mj_bipush (v := (7 : Int32)) X dX8_sumOf_87 (by decide) ?_
        refine mj_icmp_ne (tgt := 99) X dX8_sumOf_89 (by decide) (fun _ => ?_) (fun c18 => absurd c18 c4)
        refine mj_iload_n X dX8_sumOf_99 2 rfl ?_
        exact RET h14 _ _ _ dX8_sumOf_100 (Option.some.inj hf)
      · have hf := mm_t c17 hf
        refine mj_aload_n X dX8_sumOf_79 0 rfl ?_
        refine mj_get X inwX8_sumOf_X8 (my_at my_oX8 h14) rfl 5 (by decide) rfl lnX8_sumOf_3 rfl dX8_sumOf_80 ?_
        refine mj_goto (tgt := 100) X dX8_sumOf_83 (by decide) ?_
        exact RET h14 _ _ _ dX8_sumOf_100 (Option.some.inj hf)
    · have hf := mm_t c16 hf
      refine mj_aload_n X dX8_sumOf_67 0 rfl ?_
      refine mj_get X inwX8_sumOf_X8 (my_at my_oX8 h14) rfl 2 (by decide) rfl lnX8_sumOf_0 rfl dX8_sumOf_68 ?_
      refine mj_goto (tgt := 100) X dX8_sumOf_71 (by decide) ?_
      exact RET h14 _ _ _ dX8_sumOf_100 (Option.some.inj hf)
  · have hf := mm_t c4 hf
    refine mj_aload_n X dX8_sumOf_11 0 rfl ?_
    refine mj_get X inwX8_sumOf_X8 (my_at my_oX8 h1) rfl 5 (by decide) rfl lnX8_sumOf_3 rfl dX8_sumOf_12 ?_
    refine mj_goto (tgt := 19) X dX8_sumOf_15 (by decide) ?_
    obtain ⟨h19, r20, q21, hf⟩ := mm_c hf
    refine mj_callVv (As := [.int (h1 0 5)]) (rest := []) X (kX8_runs l D t1 t2 cI cZ ad N h1 (h1 0 5) h19 r20 q21) (cwV 1 X.2.2.2.2.1 gX8_sumOf_X8_runs rfl rfl rfl (by decide +kernel) ⟨Nat.le_of_ble_eq_true rfl, Nat.le_of_ble_eq_true rfl⟩) (my_at my_oX8 h1) rfl rfl rfl rfl (Nat.le_of_ble_eq_true rfl) ⟨Nat.zero_le _, Nat.zero_le _⟩ dX8_sumOf_19 ?_
    refine mj_iconst (v := (0 : Int32)) X dX8_sumOf_22 (by decide) ?_
    refine mj_istore_n (lo' := [(2, .int (0 : Int32)), (0, .ref (ad 0)), (1, .int a0)]) X dX8_sumOf_23 (by decide) rfl ?_
    refine mj_iconst (v := (0 : Int32)) X dX8_sumOf_24 (by decide) ?_
    refine mj_istore_n (lo' := [(3, .int (0 : Int32)), (2, .int (0 : Int32)), (0, .ref (ad 0)), (1, .int a0)]) X dX8_sumOf_25 (by decide) rfl ?_
    refine mj_sub [2, 3, 1, 0] rfl (wX8_sumOf_L26 X out RET N a0 _ (fun h22 v23 hf => ?_) N h19 (0 : Int32) (0 : Int32) hf)
    refine mj_iload_n X dX8_sumOf_63 1 rfl ?_
    refine mj_if_ne (tgt := 74) X dX8_sumOf_64 (by decide) (fun c24 => ?_) (fun c24 => ?_)
    · have hf := mm_f c24 hf
      refine mj_iload_n X dX8_sumOf_74 1 rfl ?_
      refine mj_iconst (v := (1 : Int32)) X dX8_sumOf_75 (by decide) ?_
      refine mj_icmp_ne (tgt := 86) X dX8_sumOf_76 (by decide) (fun c25 => ?_) (fun c25 => ?_)
      · have hf := mm_f c25 hf
        refine mj_iload_n X dX8_sumOf_86 1 rfl ?_
        refine mj_bipush (v := (7 : Int32)) X dX8_sumOf_87 (by decide) ?_
        refine mj_icmp_ne (tgt := 99) X dX8_sumOf_89 (by decide) (fun c26 => absurd c4 c26) (fun _ => ?_)
        refine mj_aload_n X dX8_sumOf_92 0 rfl ?_
        refine mj_get X inwX8_sumOf_X8 (my_at my_oX8 h22) rfl 17 (by decide) rfl lnX8_sumOf_4 rfl dX8_sumOf_93 ?_
        refine mj_goto (tgt := 100) X dX8_sumOf_96 (by decide) ?_
        exact RET h22 _ _ _ dX8_sumOf_100 (Option.some.inj hf)
      · have hf := mm_t c25 hf
        refine mj_aload_n X dX8_sumOf_79 0 rfl ?_
        refine mj_get X inwX8_sumOf_X8 (my_at my_oX8 h22) rfl 5 (by decide) rfl lnX8_sumOf_3 rfl dX8_sumOf_80 ?_
        refine mj_goto (tgt := 100) X dX8_sumOf_83 (by decide) ?_
        exact RET h22 _ _ _ dX8_sumOf_100 (Option.some.inj hf)
    · have hf := mm_t c24 hf
      refine mj_aload_n X dX8_sumOf_67 0 rfl ?_
      refine mj_get X inwX8_sumOf_X8 (my_at my_oX8 h22) rfl 2 (by decide) rfl lnX8_sumOf_0 rfl dX8_sumOf_68 ?_
      refine mj_goto (tgt := 100) X dX8_sumOf_71 (by decide) ?_
      exact RET h22 _ _ _ dX8_sumOf_100 (Option.some.inj hf)
end
