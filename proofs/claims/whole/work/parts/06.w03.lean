section
variable {p : Program} {l : Launch} {e : Env} {s : State} {m : MethodId} {args : Array Value} {below : List Frame} {meth : Method} {c : Code} {Q : State → Prop} {D : va_G} {A : Nat → Prop} {t1 t2 : Nat} {cI cT cS cZ : ClassId} {ad : Nat → Nat}
abbrev rmX3_findGains : Room := { frames := 3, cells := 0, slots := 0, locals := 64 }
theorem inwX3_findGains_X3 : ∀ w ∈ wsX30, w ∈ wsX3_findGains := by
  intro w hw
  have h9 : wsX30 = (wsX3_findGains.drop 38).take 10 := rfl
  rw [h9] at hw
  exact List.mem_of_mem_drop (List.mem_of_mem_take hw)
theorem lnX3_findGains_0 : Cond.fieldLink RX3 21 "RichestPays$Seating" "people" "LRichestPays$People;" ∈ wsX3_findGains := List.mem_of_getElem? (i := 1) rfl
theorem lnX3_findGains_1 : Cond.fieldLink RX3 9 "RichestPays$Seating" "hands" "[I" ∈ wsX3_findGains := List.mem_of_getElem? (i := 2) rfl
theorem inwX3_findGains_X2 : ∀ w ∈ wsX20, w ∈ wsX3_findGains := by
  intro w hw
  have h9 : wsX20 = (wsX3_findGains.drop 48).take 9 := rfl
  rw [h9] at hw
  exact List.mem_of_mem_drop (List.mem_of_mem_take hw)
theorem lnX3_findGains_2 : Cond.fieldLink RX3 70 "RichestPays$People" "number" "I" ∈ wsX3_findGains := List.mem_of_getElem? (i := 3) rfl
theorem lnX3_findGains_3 : Cond.fieldLink RX3 15 "RichestPays$Seating" "gains" "[I" ∈ wsX3_findGains := List.mem_of_getElem? (i := 4) rfl
theorem lnX3_findGains_4 : Cond.fieldLink RX3 54 "RichestPays$People" "mealWorth" "[I" ∈ wsX3_findGains := List.mem_of_getElem? (i := 5) rfl
theorem lnX3_findGains_5 : Cond.fieldLink RX3 84 "RichestPays$People" "due" "[I" ∈ wsX3_findGains := List.mem_of_getElem? (i := 6) rfl
theorem lnX3_findGains_6 : Cond.methodLink RX3 87 Lib.Math.min.name ∈ wsX3_findGains := List.mem_of_getElem? (i := 7) rfl
theorem lnX3_findGains_7 : Cond.static Lib.Math.min.name ∈ wsX3_findGains := List.mem_of_getElem? (i := 8) rfl
theorem lnX3_findGains_8 : Cond.initialized "java/lang/Math" ∈ wsX3_findGains := List.mem_of_getElem? (i := 9) rfl
theorem lnX3_findGains_9 : Cond.code Lib.Math.min.name Lib.Math.min.code 2 (some .int) ∈ wsX3_findGains := List.mem_of_getElem? (i := 10) rfl
set_option maxHeartbeats 4000000 in
set_option maxRecDepth 100000 in
theorem wX3_findGains_L42 (X : mm_X p s m args c cX3_findGains RX3 wsX3_findGains 4 D (mx_ty cI cT cS) t1 t2 A) (out : mm_M × Unit) (RET : ∀ (h : mm_M) (pc : Nat) (lo : List (Nat × Value)) (v : Unit), decode cX3_findGains pc = .ok (.return_, 1) → (h, v) = out → mm_J p l e rmX3_findGains s m args below meth c 0 0 Q D (mx_w cI cT cS ad) A 4 h pc lo []) (N : Nat)  (p1 : Int32) (p2 : Int32) (k : mm_M → Option (mm_M × Unit)) (HK : ∀ (h : mm_M), k h = some out → mm_J p l e rmX3_findGains s m args below meth c 0 0 Q D (mx_w cI cT cS ad) A 4 h 98 [(0, .ref (ad 21)), (1, .int p1), (2, .int p2)] []) : ∀ (n : Nat) (h : mm_M) (m3 : Int32), fX3_findGains_L42 N p1 p2 k n h m3 = some out → mm_J p l e rmX3_findGains s m args below meth c 0 0 Q D (mx_w cI cT cS ad) A 4 h 42 [(0, .ref (ad 21)), (1, .int p1), (2, .int p2), (3, .int m3)] [] := by
  intro n
  induction n with
  | zero =>
    intro h m3 hf
    cases hf
  | succ n ih =>
    intro h m3 hf
    rw [fX3_findGains_L42] at hf
    refine mj_iload_n X dX3_findGains_42 3 rfl ?_
    refine mj_aload_n X dX3_findGains_43 0 rfl ?_
    refine mj_get X inwX3_findGains_X3 (mx_at mx_oX3 h) rfl 0 (by decide) rfl lnX3_findGains_0 rfl dX3_findGains_44 ?_
    refine mj_get X inwX3_findGains_X2 (mx_at mx_oX2 h) rfl 5 (by decide) rfl lnX3_findGains_2 rfl dX3_findGains_47 ?_
    refine mj_icmp_ge (tgt := 98) X dX3_findGains_50 (by decide) (fun c9 => ?_) (fun c9 => ?_)
    · have hf := mm_t c9 hf
      exact mj_sub [0, 1, 2] rfl (HK h hf)
    · have hf := mm_f c9 hf
      refine mj_aload_n X dX3_findGains_53 0 rfl ?_
      refine mj_get X inwX3_findGains_X3 (mx_at mx_oX3 h) rfl 3 (by decide) rfl lnX3_findGains_3 rfl dX3_findGains_54 ?_
      refine mj_iload_n X dX3_findGains_57 3 rfl ?_
      refine mj_bipush (v := (64 : Int32)) X dX3_findGains_58 (by decide) ?_
      refine mj_imul X dX3_findGains_60 ?_
      refine mj_iload_n X dX3_findGains_61 2 rfl ?_
      refine mj_iadd X dX3_findGains_62 ?_
      refine mj_aload_n X dX3_findGains_63 0 rfl ?_
      refine mj_get X inwX3_findGains_X3 (mx_at mx_oX3 h) rfl 0 (by decide) rfl lnX3_findGains_0 rfl dX3_findGains_64 ?_
      refine mj_get X inwX3_findGains_X2 (mx_at mx_oX2 h) rfl 3 (by decide) rfl lnX3_findGains_4 rfl dX3_findGains_67 ?_
      refine mj_iload_n X dX3_findGains_70 3 rfl ?_
      obtain ⟨g10, hf⟩ := mm_g hf
      refine mj_iald X 0 (mx_at mx_a10 h) rfl g10 dX3_findGains_71 ?_
      refine mj_aload_n X dX3_findGains_72 0 rfl ?_
      refine mj_get X inwX3_findGains_X3 (mx_at mx_oX3 h) rfl 0 (by decide) rfl lnX3_findGains_0 rfl dX3_findGains_73 ?_
      refine mj_get X inwX3_findGains_X2 (mx_at mx_oX2 h) rfl 4 (by decide) rfl lnX3_findGains_5 rfl dX3_findGains_76 ?_
      refine mj_iload_n X dX3_findGains_79 3 rfl ?_
      refine mj_iald X 0 (mx_at mx_a11 h) rfl g10 dX3_findGains_80 ?_
      refine mj_aload_n X dX3_findGains_81 0 rfl ?_
      refine mj_get X inwX3_findGains_X3 (mx_at mx_oX3 h) rfl 2 (by decide) rfl lnX3_findGains_1 rfl dX3_findGains_82 ?_
      refine mj_iload_n X dX3_findGains_85 3 rfl ?_
      refine mj_iald X 0 (mx_at mx_a22 h) rfl g10 dX3_findGains_86 ?_
      refine mj_min X lnX3_findGains_6 lnX3_findGains_7 lnX3_findGains_8 lnX3_findGains_9 (Nat.le_of_ble_eq_true rfl) (Nat.le_of_ble_eq_true rfl) ⟨Nat.zero_le _, Nat.zero_le _⟩ dX3_findGains_87 ?_
      refine mj_isub X dX3_findGains_90 ?_
      obtain ⟨g11, hf⟩ := mm_g hf
      obtain ⟨h12, eh12, hf⟩ := mm_l hf
      refine mj_iast X 0 (mx_at mx_a23 h) rfl g11 (mx_ast mx_a23 eh12) dX3_findGains_91 ?_
      refine mj_iinc (k := 3) (v := (m3 + 1)) (lo' := [(3, .int (m3 + 1)), (0, .ref (ad 21)), (1, .int p1), (2, .int p2)]) X dX3_findGains_92 rfl rfl (by decide) rfl ?_
      refine mj_goto (tgt := 42) X dX3_findGains_95 (by decide) ?_
      exact mj_sub [1, 2, 3, 0] rfl (ih h12 (m3 + 1) hf)
set_option maxHeartbeats 4000000 in
set_option maxRecDepth 100000 in
theorem wX3_findGains_L23 (X : mm_X p s m args c cX3_findGains RX3 wsX3_findGains 4 D (mx_ty cI cT cS) t1 t2 A) (out : mm_M × Unit) (RET : ∀ (h : mm_M) (pc : Nat) (lo : List (Nat × Value)) (v : Unit), decode cX3_findGains pc = .ok (.return_, 1) → (h, v) = out → mm_J p l e rmX3_findGains s m args below meth c 0 0 Q D (mx_w cI cT cS ad) A 4 h pc lo []) (N : Nat)  (p1 : Int32) (k : mm_M → Option (mm_M × Unit)) (HK : ∀ (h : mm_M), k h = some out → mm_J p l e rmX3_findGains s m args below meth c 0 0 Q D (mx_w cI cT cS ad) A 4 h 104 [] []) : ∀ (n : Nat) (h : mm_M) (m2 : Int32), fX3_findGains_L23 N p1 k n h m2 = some out → mm_J p l e rmX3_findGains s m args below meth c 0 0 Q D (mx_w cI cT cS ad) A 4 h 23 [(0, .ref (ad 21)), (1, .int p1), (2, .int m2)] [] := by
  intro n
  induction n with
  | zero =>
    intro h m2 hf
    cases hf
  | succ n ih =>
    intro h m2 hf
    rw [fX3_findGains_L23] at hf
    refine mj_iload_n X dX3_findGains_23 2 rfl ?_
    refine mj_iload_n X dX3_findGains_24 1 rfl ?_
    refine mj_icmp_ge (tgt := 104) X dX3_findGains_25 (by decide) (fun c5 => ?_) (fun c5 => ?_)
    · have hf := mm_t c5 hf
      exact mj_sub [] rfl (HK h hf)
    · have hf := mm_f c5 hf
      refine mj_aload_n X dX3_findGains_28 0 rfl ?_
      refine mj_get X inwX3_findGains_X3 (mx_at mx_oX3 h) rfl 0 (by decide) rfl lnX3_findGains_0 rfl dX3_findGains_29 ?_
      refine mj_iload_n X dX3_findGains_32 2 rfl ?_
      refine mj_aload_n X dX3_findGains_33 0 rfl ?_
      refine mj_get X inwX3_findGains_X3 (mx_at mx_oX3 h) rfl 2 (by decide) rfl lnX3_findGains_1 rfl dX3_findGains_34 ?_
      obtain ⟨h6, r7, q8, hf⟩ := mm_c hf
      refine mj_callVv (As := [.int m2, .ref (ad 22)]) (rest := []) X (kX2_charge l D t1 t2 cI cT cS ad 22 mx_a22 N h m2 h6 r7 q8) (cwV 2 X.2.2.2.2.1 gX3_findGains_X2_charge rfl rfl rfl (by decide +kernel) ⟨Nat.le_of_ble_eq_true rfl, Nat.le_of_ble_eq_true rfl⟩) (mx_at mx_oX2 h) rfl rfl rfl rfl (Nat.le_of_ble_eq_true rfl) ⟨Nat.zero_le _, Nat.zero_le _⟩ dX3_findGains_37 ?_
      refine mj_iconst (v := (0 : Int32)) X dX3_findGains_40 (by decide) ?_
      refine mj_istore_n (lo' := [(3, .int (0 : Int32)), (0, .ref (ad 21)), (1, .int p1), (2, .int m2)]) X dX3_findGains_41 (by decide) rfl ?_
      refine mj_sub [1, 2, 3, 0] rfl (wX3_findGains_L42 X out RET N p1 m2 _ (fun h13 hf => ?_) N h6 (0 : Int32) hf)
      refine mj_iinc (k := 2) (v := (m2 + 1)) (lo' := [(2, .int (m2 + 1)), (0, .ref (ad 21)), (1, .int p1)]) X dX3_findGains_98 rfl rfl (by decide) rfl ?_
      refine mj_goto (tgt := 23) X dX3_findGains_101 (by decide) ?_
      exact mj_sub [1, 2, 0] rfl (ih h13 (m2 + 1) hf)
set_option maxHeartbeats 4000000 in
set_option maxRecDepth 100000 in
theorem kX3_findGains (l : Launch) (D : va_G) (t1 t2 : Nat) (cI : ClassId) (cT : ClassId) (cS : ClassId) (ad : Nat → Nat)  (N : Nat) (h : mm_M)  (h1 : mm_M) (r : Unit) (hf : fX3_findGains N h = some (h1, r)) : mm_Kv l yX3_findGains wsX3_findGains rmX3_findGains D (mx_ty cI cT cS) t1 t2 (mx_w cI cT cS ad) [.ref (ad 21)] h h1 := by
  refine mm_open_v [.ref (ad 21)] h h1 RX3 (by decide) rfl rfl (Nat.le_of_ble_eq_true rfl) ?_
  intro p e s m below meth c A X hr hlocks
  have RET : ∀ (h : mm_M) (pc : Nat) (lo : List (Nat × Value)) (v : Unit), decode cX3_findGains pc = .ok (.return_, 1) → (h, v) = (h1, r) → mm_J p l e rmX3_findGains s m ([.ref (ad 21)] : List Value).toArray below meth c 0 0 (MQ below (va_Qv (fun (u : mm_M) => u = h1) (mm_Post D (mx_w cI cT cS ad) A) A) ([.ref (ad 21)] : List Value).toArray s 0 0 A) D (mx_w cI cT cS ad) A 4 h pc lo [] := by
    intro h2 pc lo v hd he
    cases he
    exact mj_vret X hr hlocks hd
  generalize hout : (h1, r) = out at hf RET
  unfold fX3_findGains at hf
  refine mj_lo (lo' := [(0, .ref (ad 21))]) rfl ?_
  refine mj_aload_n X dX3_findGains_0 0 rfl ?_
  refine mj_get X inwX3_findGains_X3 (mx_at mx_oX3 h) rfl 0 (by decide) rfl lnX3_findGains_0 rfl dX3_findGains_1 ?_
  refine mj_aload_n X dX3_findGains_4 0 rfl ?_
  refine mj_get X inwX3_findGains_X3 (mx_at mx_oX3 h) rfl 2 (by decide) rfl lnX3_findGains_1 rfl dX3_findGains_5 ?_
  obtain ⟨h1, r2, q3, hf⟩ := mm_c hf
  refine mj_callVv (As := [.ref (ad 22)]) (rest := []) X (kX2_tellHandsAtFirst l D t1 t2 cI cT cS ad 22 mx_a22 N h h1 r2 q3) (cwV 1 X.2.2.2.2.1 gX3_findGains_X2_tellHandsAtFirst rfl rfl rfl (by decide +kernel) ⟨Nat.le_of_ble_eq_true rfl, Nat.le_of_ble_eq_true rfl⟩) (mx_at mx_oX2 h) rfl rfl rfl rfl (Nat.le_of_ble_eq_true rfl) ⟨Nat.zero_le _, Nat.zero_le _⟩ dX3_findGains_8 ?_
  refine mj_iconst (v := (1 : Int32)) X dX3_findGains_11 (by decide) ?_
  refine mj_aload_n X dX3_findGains_12 0 rfl ?_
  refine mj_get X inwX3_findGains_X3 (mx_at mx_oX3 h1) rfl 0 (by decide) rfl lnX3_findGains_0 rfl dX3_findGains_13 ?_
  refine mj_get X inwX3_findGains_X2 (mx_at mx_oX2 h1) rfl 5 (by decide) rfl lnX3_findGains_2 rfl dX3_findGains_16 ?_
  refine mj_ishl X dX3_findGains_19 ?_
  obtain ⟨x4, ex4, hf⟩ := mm_l hf
  refine mj_topi ex4 ?_
  refine mj_istore_n (lo' := [(1, .int x4), (0, .ref (ad 21))]) X dX3_findGains_20 (by decide) rfl ?_
  refine mj_iconst (v := (1 : Int32)) X dX3_findGains_21 (by decide) ?_
  refine mj_istore_n (lo' := [(2, .int (1 : Int32)), (1, .int x4), (0, .ref (ad 21))]) X dX3_findGains_22 (by decide) rfl ?_
  refine mj_sub [2, 1, 0] rfl (wX3_findGains_L23 X out RET N x4 _ (fun h14 hf => ?_) N h1 (1 : Int32) hf)
  exact RET h14 _ _ _ dX3_findGains_104 (Option.some.inj hf)
abbrev rmX3_choiceIn : Room := { frames := 0, cells := 0, slots := 0, locals := 0 }
theorem inwX3_choiceIn_X3 : ∀ w ∈ wsX30, w ∈ wsX3_choiceIn := by
  intro w hw
  have h9 : wsX30 = (wsX3_choiceIn.drop 3).take 10 := rfl
  rw [h9] at hw
  exact List.mem_of_mem_drop (List.mem_of_mem_take hw)
theorem lnX3_choiceIn_0 : Cond.fieldLink RX3 21 "RichestPays$Seating" "people" "LRichestPays$People;" ∈ wsX3_choiceIn := List.mem_of_getElem? (i := 1) rfl
theorem inwX3_choiceIn_X2 : ∀ w ∈ wsX20, w ∈ wsX3_choiceIn := by
  intro w hw
  have h9 : wsX20 = (wsX3_choiceIn.drop 13).take 9 := rfl
  rw [h9] at hw
  exact List.mem_of_mem_drop (List.mem_of_mem_take hw)
theorem lnX3_choiceIn_1 : Cond.fieldLink RX3 70 "RichestPays$People" "number" "I" ∈ wsX3_choiceIn := List.mem_of_getElem? (i := 2) rfl
set_option maxHeartbeats 4000000 in
set_option maxRecDepth 100000 in
theorem kX3_choiceIn (l : Launch) (D : va_G) (t1 t2 : Nat) (cI : ClassId) (cT : ClassId) (cS : ClassId) (ad : Nat → Nat)  (N : Nat) (h : mm_M) (a0 : Int32) (a1 : Int32) (h1 : mm_M) (r : Int32) (hf : fX3_choiceIn N h a0 a1 = some (h1, r)) : mm_Ki l yX3_choiceIn wsX3_choiceIn rmX3_choiceIn D (mx_ty cI cT cS) t1 t2 (mx_w cI cT cS ad) [.ref (ad 21), .int a0, .int a1] h r h1 := by
  refine mm_open_i [.ref (ad 21), .int a0, .int a1] h r h1 RX3 (by decide) rfl rfl (Nat.le_of_ble_eq_true rfl) ?_
  intro p e s m below meth c A X hr hlocks
  have RET : ∀ (h : mm_M) (pc : Nat) (lo : List (Nat × Value)) (v : Int32), decode cX3_choiceIn pc = .ok (.ireturn, 1) → (h, v) = (h1, r) → mm_J p l e rmX3_choiceIn s m ([.ref (ad 21), .int a0, .int a1] : List Value).toArray below meth c 0 0 (MQ below (va_Qi (fun (r' : Int32) (u : mm_M) => r' = r ∧ u = h1) (mm_Post D (mx_w cI cT cS ad) A) A) ([.ref (ad 21), .int a0, .int a1] : List Value).toArray s 0 0 A) D (mx_w cI cT cS ad) A 3 h pc lo [.int v] := by
    intro h2 pc lo v hd he
    cases he
    exact mj_iret X hr rfl hlocks hd
  generalize hout : (h1, r) = out at hf RET
  unfold fX3_choiceIn at hf
  refine mj_lo (lo' := [(0, .ref (ad 21)), (1, .int a0), (2, .int a1)]) rfl ?_
  refine mj_iload_n X dX3_choiceIn_0 1 rfl ?_
  refine mj_iconst (v := (2 : Int32)) X dX3_choiceIn_1 (by decide) ?_
  refine mj_aload_n X dX3_choiceIn_2 0 rfl ?_
  refine mj_get X inwX3_choiceIn_X3 (mx_at mx_oX3 h) rfl 0 (by decide) rfl lnX3_choiceIn_0 rfl dX3_choiceIn_3 ?_
  refine mj_get X inwX3_choiceIn_X2 (mx_at mx_oX2 h) rfl 5 (by decide) rfl lnX3_choiceIn_1 rfl dX3_choiceIn_6 ?_
  refine mj_iconst (v := (1 : Int32)) X dX3_choiceIn_9 (by decide) ?_
  refine mj_isub X dX3_choiceIn_10 ?_
  refine mj_iload_n X dX3_choiceIn_11 2 rfl ?_
  refine mj_isub X dX3_choiceIn_12 ?_
  refine mj_imul X dX3_choiceIn_13 ?_
  refine mj_ishr X dX3_choiceIn_14 ?_
  refine mj_iconst (v := (3 : Int32)) X dX3_choiceIn_15 (by decide) ?_
  refine mj_iand X dX3_choiceIn_16 ?_
  exact RET h _ _ _ dX3_choiceIn_17 (Option.some.inj hf)
abbrev rmX3_gainBy : Room := { frames := 0, cells := 0, slots := 0, locals := 0 }
theorem inwX3_gainBy_X3 : ∀ w ∈ wsX30, w ∈ wsX3_gainBy := by
  intro w hw
  have h9 : wsX30 = (wsX3_gainBy.drop 3).take 10 := rfl
  rw [h9] at hw
  exact List.mem_of_mem_drop (List.mem_of_mem_take hw)
theorem lnX3_gainBy_0 : Cond.fieldLink RX3 15 "RichestPays$Seating" "gains" "[I" ∈ wsX3_gainBy := List.mem_of_getElem? (i := 1) rfl
theorem lnX3_gainBy_1 : Cond.fieldLink RX3 18 "RichestPays$Seating" "choosers" "[I" ∈ wsX3_gainBy := List.mem_of_getElem? (i := 2) rfl
set_option maxHeartbeats 4000000 in
set_option maxRecDepth 100000 in
theorem kX3_gainBy (l : Launch) (D : va_G) (t1 t2 : Nat) (cI : ClassId) (cT : ClassId) (cS : ClassId) (ad : Nat → Nat)  (N : Nat) (h : mm_M) (a0 : Int32) (a1 : Int32) (h1 : mm_M) (r : Int32) (hf : fX3_gainBy N h a0 a1 = some (h1, r)) : mm_Ki l yX3_gainBy wsX3_gainBy rmX3_gainBy D (mx_ty cI cT cS) t1 t2 (mx_w cI cT cS ad) [.ref (ad 21), .int a0, .int a1] h r h1 := by
  refine mm_open_i [.ref (ad 21), .int a0, .int a1] h r h1 RX3 (by decide) rfl rfl (Nat.le_of_ble_eq_true rfl) ?_
  intro p e s m below meth c A X hr hlocks
  have RET : ∀ (h : mm_M) (pc : Nat) (lo : List (Nat × Value)) (v : Int32), decode cX3_gainBy pc = .ok (.ireturn, 1) → (h, v) = (h1, r) → mm_J p l e rmX3_gainBy s m ([.ref (ad 21), .int a0, .int a1] : List Value).toArray below meth c 0 0 (MQ below (va_Qi (fun (r' : Int32) (u : mm_M) => r' = r ∧ u = h1) (mm_Post D (mx_w cI cT cS ad) A) A) ([.ref (ad 21), .int a0, .int a1] : List Value).toArray s 0 0 A) D (mx_w cI cT cS ad) A 3 h pc lo [.int v] := by
    intro h2 pc lo v hd he
    cases he
    exact mj_iret X hr rfl hlocks hd
  generalize hout : (h1, r) = out at hf RET
  unfold fX3_gainBy at hf
  refine mj_lo (lo' := [(0, .ref (ad 21)), (1, .int a0), (2, .int a1)]) rfl ?_
  refine mj_iload_n X dX3_gainBy_0 1 rfl ?_
  refine mj_if_ne (tgt := 8) X dX3_gainBy_1 (by decide) (fun c1 => ?_) (fun c1 => ?_)
  · have hf := mm_f c1 hf
    refine mj_aload_n X dX3_gainBy_8 0 rfl ?_
    refine mj_get X inwX3_gainBy_X3 (mx_at mx_oX3 h) rfl 3 (by decide) rfl lnX3_gainBy_0 rfl dX3_gainBy_9 ?_
    refine mj_iload_n X dX3_gainBy_12 2 rfl ?_
    refine mj_bipush (v := (64 : Int32)) X dX3_gainBy_13 (by decide) ?_
    refine mj_imul X dX3_gainBy_15 ?_
    refine mj_aload_n X dX3_gainBy_16 0 rfl ?_
    refine mj_get X inwX3_gainBy_X3 (mx_at mx_oX3 h) rfl 4 (by decide) rfl lnX3_gainBy_1 rfl dX3_gainBy_17 ?_
    refine mj_iload_n X dX3_gainBy_20 1 rfl ?_
    obtain ⟨g2, hf⟩ := mm_g hf
    refine mj_iald X 0 (mx_at mx_a24 h) rfl g2 dX3_gainBy_21 ?_
    refine mj_iconst (v := (1 : Int32)) X dX3_gainBy_22 (by decide) ?_
    refine mj_iload_n X dX3_gainBy_23 2 rfl ?_
    refine mj_ishl X dX3_gainBy_24 ?_
    refine mj_ior X dX3_gainBy_25 ?_
    refine mj_iadd X dX3_gainBy_26 ?_
    obtain ⟨g3, hf⟩ := mm_g hf
    refine mj_iald X 0 (mx_at mx_a23 h) rfl g3 dX3_gainBy_27 ?_
    exact RET h _ _ _ dX3_gainBy_28 (Option.some.inj hf)
  · have hf := mm_t c1 hf
    refine mj_iconst (v := (0 : Int32)) X dX3_gainBy_4 (by decide) ?_
    refine mj_goto (tgt := 28) X dX3_gainBy_5 (by decide) ?_
    exact RET h _ _ _ dX3_gainBy_28 (Option.some.inj hf)
abbrev rmX3_isRest : Room := { frames := 1, cells := 0, slots := 0, locals := 22 }
theorem inwX3_isRest_X3 : ∀ w ∈ wsX30, w ∈ wsX3_isRest := by
  intro w hw
  have h9 : wsX30 = (wsX3_isRest.drop 14).take 10 := rfl
  rw [h9] at hw
  exact List.mem_of_mem_drop (List.mem_of_mem_take hw)
theorem lnX3_isRest_0 : Cond.fieldLink RX3 18 "RichestPays$Seating" "choosers" "[I" ∈ wsX3_isRest := List.mem_of_getElem? (i := 1) rfl
theorem lnX3_isRest_1 : Cond.fieldLink RX3 21 "RichestPays$Seating" "people" "LRichestPays$People;" ∈ wsX3_isRest := List.mem_of_getElem? (i := 2) rfl
theorem inwX3_isRest_X2 : ∀ w ∈ wsX20, w ∈ wsX3_isRest := by
  intro w hw
  have h9 : wsX20 = (wsX3_isRest.drop 24).take 9 := rfl
  rw [h9] at hw
  exact List.mem_of_mem_drop (List.mem_of_mem_take hw)
theorem lnX3_isRest_2 : Cond.fieldLink RX3 70 "RichestPays$People" "number" "I" ∈ wsX3_isRest := List.mem_of_getElem? (i := 3) rfl
set_option maxHeartbeats 4000000 in
set_option maxRecDepth 100000 in
theorem wX3_isRest_L2 (X : mm_X p s m args c cX3_isRest RX3 wsX3_isRest 5 D (mx_ty cI cT cS) t1 t2 A) (out : mm_M × Int32) (RET : ∀ (h : mm_M) (pc : Nat) (lo : List (Nat × Value)) (v : Int32), decode cX3_isRest pc = .ok (.ireturn, 1) → (v = 0 ∨ v = 1) → (h, v) = out → mm_J p l e rmX3_isRest s m args below meth c 0 0 Q D (mx_w cI cT cS ad) A 5 h pc lo [.int v]) (N : Nat)  (p1 : Int32) (k : mm_M → Option (mm_M × Int32)) (HK : ∀ (h : mm_M), k h = some out → mm_J p l e rmX3_isRest s m args below meth c 0 0 Q D (mx_w cI cT cS ad) A 5 h 20 [(0, .ref (ad 21)), (1, .int p1)] []) : ∀ (n : Nat) (h : mm_M) (m2 : Int32), fX3_isRest_L2 N p1 k n h m2 = some out → mm_J p l e rmX3_isRest s m args below meth c 0 0 Q D (mx_w cI cT cS ad) A 5 h 2 [(0, .ref (ad 21)), (1, .int p1), (2, .int m2)] [] := by
  intro n
  induction n with
  | zero =>
    intro h m2 hf
    cases hf
  | succ n ih =>
    intro h m2 hf
    rw [fX3_isRest_L2] at hf
    refine mj_iload_n X dX3_isRest_2 2 rfl ?_
    refine mj_iconst (v := (4 : Int32)) X dX3_isRest_3 (by decide) ?_
    refine mj_icmp_ge (tgt := 20) X dX3_isRest_4 (by decide) (fun c1 => ?_) (fun c1 => ?_)
    · have hf := mm_t c1 hf
      exact mj_sub [0, 1] rfl (HK h hf)
    · have hf := mm_f c1 hf
      refine mj_aload_n X dX3_isRest_7 0 rfl ?_
      refine mj_get X inwX3_isRest_X3 (mx_at mx_oX3 h) rfl 4 (by decide) rfl lnX3_isRest_0 rfl dX3_isRest_8 ?_
      refine mj_iload_n X dX3_isRest_11 2 rfl ?_
      refine mj_iconst (v := (0 : Int32)) X dX3_isRest_12 (by decide) ?_
      obtain ⟨g2, hf⟩ := mm_g hf
      obtain ⟨h3, eh3, hf⟩ := mm_l hf
      refine mj_iast X 0 (mx_at mx_a24 h) rfl g2 (mx_ast mx_a24 eh3) dX3_isRest_13 ?_
      refine mj_iinc (k := 2) (v := (m2 + 1)) (lo' := [(2, .int (m2 + 1)), (0, .ref (ad 21)), (1, .int p1)]) X dX3_isRest_14 rfl rfl (by decide) rfl ?_
      refine mj_goto (tgt := 2) X dX3_isRest_17 (by decide) ?_
      exact mj_sub [1, 2, 0] rfl (ih h3 (m2 + 1) hf)
set_option maxHeartbeats 4000000 in
set_option maxRecDepth 100000 in
theorem wX3_isRest_L22 (X : mm_X p s m args c cX3_isRest RX3 wsX3_isRest 5 D (mx_ty cI cT cS) t1 t2 A) (out : mm_M × Int32) (RET : ∀ (h : mm_M) (pc : Nat) (lo : List (Nat × Value)) (v : Int32), decode cX3_isRest pc = .ok (.ireturn, 1) → (v = 0 ∨ v = 1) → (h, v) = out → mm_J p l e rmX3_isRest s m args below meth c 0 0 Q D (mx_w cI cT cS ad) A 5 h pc lo [.int v]) (N : Nat)  (p1 : Int32) (k : mm_M → Option (mm_M × Int32)) (HK : ∀ (h : mm_M), k h = some out → mm_J p l e rmX3_isRest s m args below meth c 0 0 Q D (mx_w cI cT cS ad) A 5 h 56 [(0, .ref (ad 21)), (1, .int p1)] []) : ∀ (n : Nat) (h : mm_M) (m2 : Int32), fX3_isRest_L22 N p1 k n h m2 = some out → mm_J p l e rmX3_isRest s m args below meth c 0 0 Q D (mx_w cI cT cS ad) A 5 h 22 [(0, .ref (ad 21)), (1, .int p1), (2, .int m2)] [] := by
  intro n
  induction n with
  | zero =>
    intro h m2 hf
    cases hf
  | succ n ih =>
    intro h m2 hf
    rw [fX3_isRest_L22] at hf
    refine mj_iload_n X dX3_isRest_22 2 rfl ?_
    refine mj_aload_n X dX3_isRest_23 0 rfl ?_
    refine mj_get X inwX3_isRest_X3 (mx_at mx_oX3 h) rfl 0 (by decide) rfl lnX3_isRest_1 rfl dX3_isRest_24 ?_
    refine mj_get X inwX3_isRest_X2 (mx_at mx_oX2 h) rfl 5 (by decide) rfl lnX3_isRest_2 rfl dX3_isRest_27 ?_
    refine mj_icmp_ge (tgt := 56) X dX3_isRest_30 (by decide) (fun c5 => ?_) (fun c5 => ?_)
    · have hf := mm_t c5 hf
      exact mj_sub [0, 1] rfl (HK h hf)
    · have hf := mm_f c5 hf
      refine mj_aload_n X dX3_isRest_33 0 rfl ?_
      refine mj_get X inwX3_isRest_X3 (mx_at mx_oX3 h) rfl 4 (by decide) rfl lnX3_isRest_0 rfl dX3_isRest_34 ?_
      refine mj_aload_n X dX3_isRest_37 0 rfl ?_
      refine mj_iload_n X dX3_isRest_38 1 rfl ?_
      refine mj_iload_n X dX3_isRest_39 2 rfl ?_
      obtain ⟨h6, r7, q8, hf⟩ := mm_c hf
      refine mj_callVi (As := [.int p1, .int m2]) (rest := [.ref (ad 24)]) X (kX3_choiceIn l D t1 t2 cI cT cS ad N h p1 m2 h6 r7 q8) (cwV 2 X.2.2.2.2.1 gX3_isRest_X3_choiceIn rfl rfl rfl (by decide +kernel) ⟨Nat.le_of_ble_eq_true rfl, Nat.le_of_ble_eq_true rfl⟩) (mx_at mx_oX3 h) rfl rfl rfl rfl (Nat.le_of_ble_eq_true rfl) ⟨Nat.zero_le _, Nat.zero_le _⟩ dX3_isRest_40 ?_
      refine mj_dup2 X dX3_isRest_43 rfl rfl ?_
      obtain ⟨g9, hf⟩ := mm_g hf
      refine mj_iald X 0 (mx_at mx_a24 h6) rfl g9 dX3_isRest_44 ?_
      refine mj_iconst (v := (1 : Int32)) X dX3_isRest_45 (by decide) ?_
      refine mj_iload_n X dX3_isRest_46 2 rfl ?_
      refine mj_ishl X dX3_isRest_47 ?_
      refine mj_ior X dX3_isRest_48 ?_
      obtain ⟨h10, eh10, hf⟩ := mm_l hf
      refine mj_iast X 0 (mx_at mx_a24 h6) rfl g9 (mx_ast mx_a24 eh10) dX3_isRest_49 ?_
      refine mj_iinc (k := 2) (v := (m2 + 1)) (lo' := [(2, .int (m2 + 1)), (0, .ref (ad 21)), (1, .int p1)]) X dX3_isRest_50 rfl rfl (by decide) rfl ?_
      refine mj_goto (tgt := 22) X dX3_isRest_53 (by decide) ?_
      exact mj_sub [1, 2, 0] rfl (ih h10 (m2 + 1) hf)
set_option maxHeartbeats 4000000 in
set_option maxRecDepth 100000 in
theorem wX3_isRest_L84 (X : mm_X p s m args c cX3_isRest RX3 wsX3_isRest 5 D (mx_ty cI cT cS) t1 t2 A) (out : mm_M × Int32) (RET : ∀ (h : mm_M) (pc : Nat) (lo : List (Nat × Value)) (v : Int32), decode cX3_isRest pc = .ok (.ireturn, 1) → (v = 0 ∨ v = 1) → (h, v) = out → mm_J p l e rmX3_isRest s m args below meth c 0 0 Q D (mx_w cI cT cS ad) A 5 h pc lo [.int v]) (N : Nat)  (p1 : Int32) (p2 : Int32) (p3 : Int32) (k : mm_M → Option (mm_M × Int32)) (HK : ∀ (h : mm_M), k h = some out → mm_J p l e rmX3_isRest s m args below meth c 0 0 Q D (mx_w cI cT cS ad) A 5 h 109 [(0, .ref (ad 21)), (1, .int p1), (2, .int p2)] []) : ∀ (n : Nat) (h : mm_M) (m4 : Int32), fX3_isRest_L84 N p1 p2 p3 k n h m4 = some out → mm_J p l e rmX3_isRest s m args below meth c 0 0 Q D (mx_w cI cT cS ad) A 5 h 84 [(0, .ref (ad 21)), (1, .int p1), (2, .int p2), (3, .int p3), (4, .int m4)] [] := by
  intro n
  induction n with
  | zero =>
    intro h m4 hf
    cases hf
  | succ n ih =>
    intro h m4 hf
    rw [fX3_isRest_L84] at hf
    refine mj_iload X dX3_isRest_84 4 rfl ?_
    refine mj_iconst (v := (4 : Int32)) X dX3_isRest_86 (by decide) ?_
    refine mj_icmp_ge (tgt := 109) X dX3_isRest_87 (by decide) (fun c19 => ?_) (fun c19 => ?_)
    · have hf := mm_t c19 hf
      exact mj_sub [0, 1, 2] rfl (HK h hf)
    · have hf := mm_f c19 hf
      refine mj_aload_n X dX3_isRest_90 0 rfl ?_
      refine mj_iload X dX3_isRest_91 4 rfl ?_
      refine mj_iload_n X dX3_isRest_93 2 rfl ?_
      obtain ⟨h20, r21, q22, hf⟩ := mm_c hf
      refine mj_callVi (As := [.int m4, .int p2]) (rest := []) X (kX3_gainBy l D t1 t2 cI cT cS ad N h m4 p2 h20 r21 q22) (cwV 2 X.2.2.2.2.1 gX3_isRest_X3_gainBy rfl rfl rfl (by decide +kernel) ⟨Nat.le_of_ble_eq_true rfl, Nat.le_of_ble_eq_true rfl⟩) (mx_at mx_oX3 h) rfl rfl rfl rfl (Nat.le_of_ble_eq_true rfl) ⟨Nat.zero_le _, Nat.zero_le _⟩ dX3_isRest_94 ?_
      refine mj_iload_n X dX3_isRest_97 3 rfl ?_
      refine mj_icmp_le (tgt := 103) X dX3_isRest_98 (by decide) (fun c23 => ?_) (fun c23 => ?_)
      · have hf := mm_t c23 hf
        refine mj_iinc (k := 4) (v := (m4 + 1)) (lo' := [(4, .int (m4 + 1)), (0, .ref (ad 21)), (1, .int p1), (2, .int p2), (3, .int p3)]) X dX3_isRest_103 rfl rfl (by decide) rfl ?_
        refine mj_goto (tgt := 84) X dX3_isRest_106 (by decide) ?_
        exact mj_sub [1, 2, 3, 4, 0] rfl (ih h20 (m4 + 1) hf)
      · have hf := mm_f c23 hf
        refine mj_iconst (v := (0 : Int32)) X dX3_isRest_101 (by decide) ?_
        exact RET h20 _ _ _ dX3_isRest_102 (by decide) (Option.some.inj hf)
set_option maxHeartbeats 4000000 in
set_option maxRecDepth 100000 in
theorem wX3_isRest_L58 (X : mm_X p s m args c cX3_isRest RX3 wsX3_isRest 5 D (mx_ty cI cT cS) t1 t2 A) (out : mm_M × Int32) (RET : ∀ (h : mm_M) (pc : Nat) (lo : List (Nat × Value)) (v : Int32), decode cX3_isRest pc = .ok (.ireturn, 1) → (v = 0 ∨ v = 1) → (h, v) = out → mm_J p l e rmX3_isRest s m args below meth c 0 0 Q D (mx_w cI cT cS ad) A 5 h pc lo [.int v]) (N : Nat)  (p1 : Int32) (k : mm_M → Option (mm_M × Int32)) (HK : ∀ (h : mm_M), k h = some out → mm_J p l e rmX3_isRest s m args below meth c 0 0 Q D (mx_w cI cT cS ad) A 5 h 115 [] []) : ∀ (n : Nat) (h : mm_M) (m2 : Int32), fX3_isRest_L58 N p1 k n h m2 = some out → mm_J p l e rmX3_isRest s m args below meth c 0 0 Q D (mx_w cI cT cS ad) A 5 h 58 [(0, .ref (ad 21)), (1, .int p1), (2, .int m2)] [] := by
  intro n
  induction n with
  | zero =>
    intro h m2 hf
    cases hf
  | succ n ih =>
    intro h m2 hf
    rw [fX3_isRest_L58] at hf
    refine mj_iload_n X dX3_isRest_58 2 rfl ?_
    refine mj_aload_n X dX3_isRest_59 0 rfl ?_
    refine mj_get X inwX3_isRest_X3 (mx_at mx_oX3 h) rfl 0 (by decide) rfl lnX3_isRest_1 rfl dX3_isRest_60 ?_
    refine mj_get X inwX3_isRest_X2 (mx_at mx_oX2 h) rfl 5 (by decide) rfl lnX3_isRest_2 rfl dX3_isRest_63 ?_
    refine mj_icmp_ge (tgt := 115) X dX3_isRest_66 (by decide) (fun c12 => ?_) (fun c12 => ?_)
    · have hf := mm_t c12 hf
      exact mj_sub [] rfl (HK h hf)
    · have hf := mm_f c12 hf
      refine mj_aload_n X dX3_isRest_69 0 rfl ?_
      refine mj_aload_n X dX3_isRest_70 0 rfl ?_
      refine mj_iload_n X dX3_isRest_71 1 rfl ?_
      refine mj_iload_n X dX3_isRest_72 2 rfl ?_
      obtain ⟨h13, r14, q15, hf⟩ := mm_c hf
      refine mj_callVi (As := [.int p1, .int m2]) (rest := [.ref (ad 21)]) X (kX3_choiceIn l D t1 t2 cI cT cS ad N h p1 m2 h13 r14 q15) (cwV 2 X.2.2.2.2.1 gX3_isRest_X3_choiceIn rfl rfl rfl (by decide +kernel) ⟨Nat.le_of_ble_eq_true rfl, Nat.le_of_ble_eq_true rfl⟩) (mx_at mx_oX3 h) rfl rfl rfl rfl (Nat.le_of_ble_eq_true rfl) ⟨Nat.zero_le _, Nat.zero_le _⟩ dX3_isRest_73 ?_
      refine mj_iload_n X dX3_isRest_76 2 rfl ?_
      obtain ⟨h16, r17, q18, hf⟩ := mm_c hf
      refine mj_callVi (As := [.int r14, .int m2]) (rest := []) X (kX3_gainBy l D t1 t2 cI cT cS ad N h13 r14 m2 h16 r17 q18) (cwV 2 X.2.2.2.2.1 gX3_isRest_X3_gainBy rfl rfl rfl (by decide +kernel) ⟨Nat.le_of_ble_eq_true rfl, Nat.le_of_ble_eq_true rfl⟩) (mx_at mx_oX3 h13) rfl rfl rfl rfl (Nat.le_of_ble_eq_true rfl) ⟨Nat.zero_le _, Nat.zero_le _⟩ dX3_isRest_77 ?_
      refine mj_istore_n (lo' := [(3, .int r17), (0, .ref (ad 21)), (1, .int p1), (2, .int m2)]) X dX3_isRest_80 (by decide) rfl ?_
      refine mj_iconst (v := (0 : Int32)) X dX3_isRest_81 (by decide) ?_
      refine mj_istore (lo' := [(4, .int (0 : Int32)), (3, .int r17), (0, .ref (ad 21)), (1, .int p1), (2, .int m2)]) X dX3_isRest_82 (by decide) rfl ?_
      refine mj_sub [2, 3, 4, 1, 0] rfl (wX3_isRest_L84 X out RET N p1 m2 r17 _ (fun h24 hf => ?_) N h16 (0 : Int32) hf)
      refine mj_iinc (k := 2) (v := (m2 + 1)) (lo' := [(2, .int (m2 + 1)), (0, .ref (ad 21)), (1, .int p1)]) X dX3_isRest_109 rfl rfl (by decide) rfl ?_
      refine mj_goto (tgt := 58) X dX3_isRest_112 (by decide) ?_
      exact mj_sub [1, 2, 0] rfl (ih h24 (m2 + 1) hf)
set_option maxHeartbeats 4000000 in
set_option maxRecDepth 100000 in
theorem kX3_isRest (l : Launch) (D : va_G) (t1 t2 : Nat) (cI : ClassId) (cT : ClassId) (cS : ClassId) (ad : Nat → Nat)  (N : Nat) (h : mm_M) (a0 : Int32) (h1 : mm_M) (r : Int32) (hf : fX3_isRest N h a0 = some (h1, r)) : mm_Ki l yX3_isRest wsX3_isRest rmX3_isRest D (mx_ty cI cT cS) t1 t2 (mx_w cI cT cS ad) [.ref (ad 21), .int a0] h r h1 := by
  refine mm_open_i [.ref (ad 21), .int a0] h r h1 RX3 (by decide) rfl rfl (Nat.le_of_ble_eq_true rfl) ?_
  intro p e s m below meth c A X hr hlocks
  have RET : ∀ (h : mm_M) (pc : Nat) (lo : List (Nat × Value)) (v : Int32), decode cX3_isRest pc = .ok (.ireturn, 1) → (v = 0 ∨ v = 1) → (h, v) = (h1, r) → mm_J p l e rmX3_isRest s m ([.ref (ad 21), .int a0] : List Value).toArray below meth c 0 0 (MQ below (va_Qi (fun (r' : Int32) (u : mm_M) => r' = r ∧ u = h1) (mm_Post D (mx_w cI cT cS ad) A) A) ([.ref (ad 21), .int a0] : List Value).toArray s 0 0 A) D (mx_w cI cT cS ad) A 5 h pc lo [.int v] := by
    intro h2 pc lo v hd hz he
    cases he
    exact mj_iret X hr (mm_nz hz) hlocks hd
  generalize hout : (h1, r) = out at hf RET
  unfold fX3_isRest at hf
  refine mj_lo (lo' := [(0, .ref (ad 21)), (1, .int a0)]) rfl ?_
  refine mj_iconst (v := (0 : Int32)) X dX3_isRest_0 (by decide) ?_
  refine mj_istore_n (lo' := [(2, .int (0 : Int32)), (0, .ref (ad 21)), (1, .int a0)]) X dX3_isRest_1 (by decide) rfl ?_
  refine mj_sub [1, 2, 0] rfl (wX3_isRest_L2 X out RET N a0 _ (fun h4 hf => ?_) N h (0 : Int32) hf)
  refine mj_iconst (v := (0 : Int32)) X dX3_isRest_20 (by decide) ?_
  refine mj_istore_n (lo' := [(2, .int (0 : Int32)), (0, .ref (ad 21)), (1, .int a0)]) X dX3_isRest_21 (by decide) rfl ?_
  refine mj_sub [1, 2, 0] rfl (wX3_isRest_L22 X out RET N a0 _ (fun h11 hf => ?_) N h4 (0 : Int32) hf)
  refine mj_iconst (v := (0 : Int32)) X dX3_isRest_56 (by decide) ?_
  refine mj_istore_n (lo' := [(2, .int (0 : Int32)), (0, .ref (ad 21)), (1, .int a0)]) X dX3_isRest_57 (by decide) rfl ?_
  refine mj_sub [1, 2, 0] rfl (wX3_isRest_L58 X out RET N a0 _ (fun h25 hf => ?_) N h11 (0 : Int32) hf)
  refine mj_iconst (v := (1 : Int32)) X dX3_isRest_115 (by decide) ?_
  exact RET h25 _ _ _ dX3_isRest_116 (by decide) (Option.some.inj hf)
abbrev rmX3_findRests : Room := { frames := 4, cells := 0, slots := 0, locals := 87 }
theorem inwX3_findRests_X3 : ∀ w ∈ wsX30, w ∈ wsX3_findRests := by
  intro w hw
  have h9 : wsX30 = (wsX3_findRests.drop 58).take 10 := rfl
  rw [h9] at hw
  exact List.mem_of_mem_drop (List.mem_of_mem_take hw)
theorem lnX3_findRests_0 : Cond.fieldLink RX3 64 "RichestPays$Seating" "restRows" "I" ∈ wsX3_findRests := List.mem_of_getElem? (i := 1) rfl
theorem lnX3_findRests_1 : Cond.fieldLink RX3 67 "RichestPays$Seating" "firstRest" "I" ∈ wsX3_findRests := List.mem_of_getElem? (i := 2) rfl
theorem lnX3_findRests_2 : Cond.fieldLink RX3 21 "RichestPays$Seating" "people" "LRichestPays$People;" ∈ wsX3_findRests := List.mem_of_getElem? (i := 3) rfl
theorem inwX3_findRests_X2 : ∀ w ∈ wsX20, w ∈ wsX3_findRests := by
  intro w hw
  have h9 : wsX20 = (wsX3_findRests.drop 68).take 9 := rfl
  rw [h9] at hw
  exact List.mem_of_mem_drop (List.mem_of_mem_take hw)
theorem lnX3_findRests_3 : Cond.fieldLink RX3 70 "RichestPays$People" "number" "I" ∈ wsX3_findRests := List.mem_of_getElem? (i := 4) rfl
set_option maxHeartbeats 4000000 in
set_option maxRecDepth 100000 in
theorem wX3_findRests_L28 (X : mm_X p s m args c cX3_findRests RX3 wsX3_findRests 3 D (mx_ty cI cT cS) t1 t2 A) (out : mm_M × Unit) (RET : ∀ (h : mm_M) (pc : Nat) (lo : List (Nat × Value)) (v : Unit), decode cX3_findRests pc = .ok (.return_, 1) → (h, v) = out → mm_J p l e rmX3_findRests s m args below meth c 0 0 Q D (mx_w cI cT cS ad) A 3 h pc lo []) (N : Nat)  (p1 : Int32) (k : mm_M → Option (mm_M × Unit)) (HK : ∀ (h : mm_M), k h = some out → mm_J p l e rmX3_findRests s m args below meth c 0 0 Q D (mx_w cI cT cS ad) A 3 h 76 [] []) : ∀ (n : Nat) (h : mm_M) (m2 : Int32), fX3_findRests_L28 N p1 k n h m2 = some out → mm_J p l e rmX3_findRests s m args below meth c 0 0 Q D (mx_w cI cT cS ad) A 3 h 28 [(0, .ref (ad 21)), (1, .int p1), (2, .int m2)] [] := by
  intro n
  induction n with
  | zero =>
    intro h m2 hf
    cases hf
  | succ n ih =>
    intro h m2 hf
    rw [fX3_findRests_L28] at hf
    refine mj_iload_n X dX3_findRests_28 2 rfl ?_
    refine mj_iload_n X dX3_findRests_29 1 rfl ?_
    refine mj_icmp_ge (tgt := 76) X dX3_findRests_30 (by decide) (fun c7 => ?_) (fun c7 => ?_)
    · have hf := mm_t c7 hf
      exact mj_sub [] rfl (HK h hf)
    · have hf := mm_f c7 hf
      refine mj_aload_n X dX3_findRests_33 0 rfl ?_
      refine mj_iload_n X dX3_findRests_34 2 rfl ?_
      obtain ⟨h8, r9, q10, hf⟩ := mm_c hf
      refine mj_callVi (As := [.int m2]) (rest := []) X (kX3_isRest l D t1 t2 cI cT cS ad N h m2 h8 r9 q10) (cwV 1 X.2.2.2.2.1 gX3_findRests_X3_isRest rfl rfl rfl (by decide +kernel) ⟨Nat.le_of_ble_eq_true rfl, Nat.le_of_ble_eq_true rfl⟩) (mx_at mx_oX3 h) rfl rfl rfl rfl (Nat.le_of_ble_eq_true rfl) ⟨Nat.zero_le _, Nat.zero_le _⟩ dX3_findRests_35 ?_
      refine mj_if_eq (tgt := 70) X dX3_findRests_38 (by decide) (fun c11 => ?_) (fun c11 => ?_)
      · have hf := mm_t c11 hf
        refine mj_iinc (k := 2) (v := (m2 + 1)) (lo' := [(2, .int (m2 + 1)), (0, .ref (ad 21)), (1, .int p1)]) X dX3_findRests_70 rfl rfl (by decide) rfl ?_
        refine mj_goto (tgt := 28) X dX3_findRests_73 (by decide) ?_
        exact mj_sub [1, 2, 0] rfl (ih h8 (m2 + 1) hf)
      · have hf := mm_f c11 hf
        refine mj_aload_n X dX3_findRests_41 0 rfl ?_
        refine mj_aload_n X dX3_findRests_42 0 rfl ?_
        refine mj_get X inwX3_findRests_X3 (mx_at mx_oX3 h8) rfl 8 (by decide) rfl lnX3_findRests_0 rfl dX3_findRests_43 ?_
        refine mj_if_ne (tgt := 53) X dX3_findRests_46 (by decide) (fun c12 => ?_) (fun c12 => ?_)
        · have hf := mm_f c12 hf
          refine mj_aload_n X dX3_findRests_53 0 rfl ?_
          refine mj_get X inwX3_findRests_X3 (mx_at mx_oX3 h8) rfl 9 (by decide) rfl lnX3_findRests_1 rfl dX3_findRests_54 ?_
          obtain ⟨h13, eh13, hf⟩ := mm_l hf
          refine mj_put X tyX3_ok nmX3 inwX3_findRests_X3 (mx_at mx_oX3 h8) rfl 9 (by decide) rfl lnX3_findRests_1 rfl (tyX3_ok 9 (by decide)) rfl rfl (Nat.le_of_ble_eq_true rfl) (mx_put mx_oX3 eh13 (by simp [mm_up_at, upd])) dX3_findRests_57 ?_
          refine mj_aload_n X dX3_findRests_60 0 rfl ?_
          refine mj_dup X dX3_findRests_61 rfl ?_
          refine mj_get X inwX3_findRests_X3 (mx_at mx_oX3 h13) rfl 8 (by decide) rfl lnX3_findRests_0 rfl dX3_findRests_62 ?_
          refine mj_iconst (v := (1 : Int32)) X dX3_findRests_65 (by decide) ?_
          refine mj_iadd X dX3_findRests_66 ?_
          obtain ⟨h14, eh14, hf⟩ := mm_l hf
          refine mj_put X tyX3_ok nmX3 inwX3_findRests_X3 (mx_at mx_oX3 h13) rfl 8 (by decide) rfl lnX3_findRests_0 rfl (tyX3_ok 8 (by decide)) rfl rfl (Nat.le_of_ble_eq_true rfl) (mx_put mx_oX3 eh14 (by simp [mm_up_at, upd])) dX3_findRests_67 ?_
          refine mj_iinc (k := 2) (v := (m2 + 1)) (lo' := [(2, .int (m2 + 1)), (0, .ref (ad 21)), (1, .int p1)]) X dX3_findRests_70 rfl rfl (by decide) rfl ?_
          refine mj_goto (tgt := 28) X dX3_findRests_73 (by decide) ?_
          exact mj_sub [1, 2, 0] rfl (ih h14 (m2 + 1) hf)
        · have hf := mm_t c12 hf
          refine mj_iload_n X dX3_findRests_49 2 rfl ?_
          refine mj_goto (tgt := 57) X dX3_findRests_50 (by decide) ?_
          obtain ⟨h15, eh15, hf⟩ := mm_l hf
          refine mj_put X tyX3_ok nmX3 inwX3_findRests_X3 (mx_at mx_oX3 h8) rfl 9 (by decide) rfl lnX3_findRests_1 rfl (tyX3_ok 9 (by decide)) rfl rfl (Nat.le_of_ble_eq_true rfl) (mx_put mx_oX3 eh15 (by simp [mm_up_at, upd])) dX3_findRests_57 ?_
          refine mj_aload_n X dX3_findRests_60 0 rfl ?_
          refine mj_dup X dX3_findRests_61 rfl ?_
          refine mj_get X inwX3_findRests_X3 (mx_at mx_oX3 h15) rfl 8 (by decide) rfl lnX3_findRests_0 rfl dX3_findRests_62 ?_
          refine mj_iconst (v := (1 : Int32)) X dX3_findRests_65 (by decide) ?_
          refine mj_iadd X dX3_findRests_66 ?_
          obtain ⟨h16, eh16, hf⟩ := mm_l hf
          refine mj_put X tyX3_ok nmX3 inwX3_findRests_X3 (mx_at mx_oX3 h15) rfl 8 (by decide) rfl lnX3_findRests_0 rfl (tyX3_ok 8 (by decide)) rfl rfl (Nat.le_of_ble_eq_true rfl) (mx_put mx_oX3 eh16 (by simp [mm_up_at, upd])) dX3_findRests_67 ?_
          refine mj_iinc (k := 2) (v := (m2 + 1)) (lo' := [(2, .int (m2 + 1)), (0, .ref (ad 21)), (1, .int p1)]) X dX3_findRests_70 rfl rfl (by decide) rfl ?_
          refine mj_goto (tgt := 28) X dX3_findRests_73 (by decide) ?_
          exact mj_sub [1, 2, 0] rfl (ih h16 (m2 + 1) hf)
set_option maxHeartbeats 4000000 in
set_option maxRecDepth 100000 in
theorem kX3_findRests (l : Launch) (D : va_G) (t1 t2 : Nat) (cI : ClassId) (cT : ClassId) (cS : ClassId) (ad : Nat → Nat)  (N : Nat) (h : mm_M)  (h1 : mm_M) (r : Unit) (hf : fX3_findRests N h = some (h1, r)) : mm_Kv l yX3_findRests wsX3_findRests rmX3_findRests D (mx_ty cI cT cS) t1 t2 (mx_w cI cT cS ad) [.ref (ad 21)] h h1 := by
  refine mm_open_v [.ref (ad 21)] h h1 RX3 (by decide) rfl rfl (Nat.le_of_ble_eq_true rfl) ?_
  intro p e s m below meth c A X hr hlocks
  have RET : ∀ (h : mm_M) (pc : Nat) (lo : List (Nat × Value)) (v : Unit), decode cX3_findRests pc = .ok (.return_, 1) → (h, v) = (h1, r) → mm_J p l e rmX3_findRests s m ([.ref (ad 21)] : List Value).toArray below meth c 0 0 (MQ below (va_Qv (fun (u : mm_M) => u = h1) (mm_Post D (mx_w cI cT cS ad) A) A) ([.ref (ad 21)] : List Value).toArray s 0 0 A) D (mx_w cI cT cS ad) A 3 h pc lo [] := by
    intro h2 pc lo v hd he
    cases he
    exact mj_vret X hr hlocks hd
  generalize hout : (h1, r) = out at hf RET
  unfold fX3_findRests at hf
  refine mj_lo (lo' := [(0, .ref (ad 21))]) rfl ?_
  refine mj_aload_n X dX3_findRests_0 0 rfl ?_
  obtain ⟨h1, r2, q3, hf⟩ := mm_c hf
  refine mj_callVv (As := []) (rest := []) X (kX3_findGains l D t1 t2 cI cT cS ad N h h1 r2 q3) (cwV 0 X.2.2.2.2.1 gX3_findRests_X3_findGains rfl rfl rfl (by decide +kernel) ⟨Nat.le_of_ble_eq_true rfl, Nat.le_of_ble_eq_true rfl⟩) (mx_at mx_oX3 h) rfl rfl rfl rfl (Nat.le_of_ble_eq_true rfl) ⟨Nat.zero_le _, Nat.zero_le _⟩ dX3_findRests_1 ?_
  refine mj_aload_n X dX3_findRests_4 0 rfl ?_
  refine mj_iconst (v := (0 : Int32)) X dX3_findRests_5 (by decide) ?_
  obtain ⟨h4, eh4, hf⟩ := mm_l hf
  refine mj_put X tyX3_ok nmX3 inwX3_findRests_X3 (mx_at mx_oX3 h1) rfl 8 (by decide) rfl lnX3_findRests_0 rfl (tyX3_ok 8 (by decide)) rfl rfl (Nat.le_of_ble_eq_true rfl) (mx_put mx_oX3 eh4 (by simp [mm_up_at, upd])) dX3_findRests_6 ?_
  refine mj_aload_n X dX3_findRests_9 0 rfl ?_
  refine mj_iconst (v := (-1 : Int32)) X dX3_findRests_10 (by decide) ?_
  obtain ⟨h5, eh5, hf⟩ := mm_l hf
  refine mj_put X tyX3_ok nmX3 inwX3_findRests_X3 (mx_at mx_oX3 h4) rfl 9 (by decide) rfl lnX3_findRests_1 rfl (tyX3_ok 9 (by decide)) rfl rfl (Nat.le_of_ble_eq_true rfl) (mx_put mx_oX3 eh5 (by simp [mm_up_at, upd])) dX3_findRests_11 ?_
  refine mj_iconst (v := (1 : Int32)) X dX3_findRests_14 (by decide) ?_
  refine mj_iconst (v := (2 : Int32)) X dX3_findRests_15 (by decide) ?_
  refine mj_aload_n X dX3_findRests_16 0 rfl ?_
  refine mj_get X inwX3_findRests_X3 (mx_at mx_oX3 h5) rfl 0 (by decide) rfl lnX3_findRests_2 rfl dX3_findRests_17 ?_
  refine mj_get X inwX3_findRests_X2 (mx_at mx_oX2 h5) rfl 5 (by decide) rfl lnX3_findRests_3 rfl dX3_findRests_20 ?_
  refine mj_imul X dX3_findRests_23 ?_
  refine mj_ishl X dX3_findRests_24 ?_
  obtain ⟨x6, ex6, hf⟩ := mm_l hf
  refine mj_topi ex6 ?_
  refine mj_istore_n (lo' := [(1, .int x6), (0, .ref (ad 21))]) X dX3_findRests_25 (by decide) rfl ?_
  refine mj_iconst (v := (0 : Int32)) X dX3_findRests_26 (by decide) ?_
  refine mj_istore_n (lo' := [(2, .int (0 : Int32)), (1, .int x6), (0, .ref (ad 21))]) X dX3_findRests_27 (by decide) rfl ?_
  refine mj_sub [2, 1, 0] rfl (wX3_findRests_L28 X out RET N x6 _ (fun h17 hf => ?_) N h5 (0 : Int32) hf)
  exact RET h17 _ _ _ dX3_findRests_76 (Option.some.inj hf)
abbrev rmX3_firstRestTable : Room := { frames := 1, cells := 0, slots := 0, locals := 22 }
theorem inwX3_firstRestTable_X3 : ∀ w ∈ wsX30, w ∈ wsX3_firstRestTable := by
  intro w hw
  have h9 : wsX30 = (wsX3_firstRestTable.drop 9).take 10 := rfl
  rw [h9] at hw
  exact List.mem_of_mem_drop (List.mem_of_mem_take hw)
theorem lnX3_firstRestTable_0 : Cond.fieldLink RX3 67 "RichestPays$Seating" "firstRest" "I" ∈ wsX3_firstRestTable := List.mem_of_getElem? (i := 1) rfl
set_option maxHeartbeats 4000000 in
set_option maxRecDepth 100000 in
theorem kX3_firstRestTable (l : Launch) (D : va_G) (t1 t2 : Nat) (cI : ClassId) (cT : ClassId) (cS : ClassId) (ad : Nat → Nat)  (N : Nat) (h : mm_M) (a0 : Int32) (h1 : mm_M) (r : Int32) (hf : fX3_firstRestTable N h a0 = some (h1, r)) : mm_Ki l yX3_firstRestTable wsX3_firstRestTable rmX3_firstRestTable D (mx_ty cI cT cS) t1 t2 (mx_w cI cT cS ad) [.ref (ad 21), .int a0] h r h1 := by
  refine mm_open_i [.ref (ad 21), .int a0] h r h1 RX3 (by decide) rfl rfl (Nat.le_of_ble_eq_true rfl) ?_
  intro p e s m below meth c A X hr hlocks
  have RET : ∀ (h : mm_M) (pc : Nat) (lo : List (Nat × Value)) (v : Int32), decode cX3_firstRestTable pc = .ok (.ireturn, 1) → (h, v) = (h1, r) → mm_J p l e rmX3_firstRestTable s m ([.ref (ad 21), .int a0] : List Value).toArray below meth c 0 0 (MQ below (va_Qi (fun (r' : Int32) (u : mm_M) => r' = r ∧ u = h1) (mm_Post D (mx_w cI cT cS ad) A) A) ([.ref (ad 21), .int a0] : List Value).toArray s 0 0 A) D (mx_w cI cT cS ad) A 2 h pc lo [.int v] := by
    intro h2 pc lo v hd he
    cases he
    exact mj_iret X hr rfl hlocks hd
  generalize hout : (h1, r) = out at hf RET
  unfold fX3_firstRestTable at hf
  refine mj_lo (lo' := [(0, .ref (ad 21)), (1, .int a0)]) rfl ?_
  refine mj_aload_n X dX3_firstRestTable_0 0 rfl ?_
  refine mj_get X inwX3_firstRestTable_X3 (mx_at mx_oX3 h) rfl 9 (by decide) rfl lnX3_firstRestTable_0 rfl dX3_firstRestTable_1 ?_
  refine mj_iconst (v := (-1 : Int32)) X dX3_firstRestTable_4 (by decide) ?_
  refine mj_icmp_ne (tgt := 12) X dX3_firstRestTable_5 (by decide) (fun c1 => ?_) (fun c1 => ?_)
  · have hf := mm_f c1 hf
    refine mj_aload_n X dX3_firstRestTable_12 0 rfl ?_
    refine mj_aload_n X dX3_firstRestTable_13 0 rfl ?_
    refine mj_get X inwX3_firstRestTable_X3 (mx_at mx_oX3 h) rfl 9 (by decide) rfl lnX3_firstRestTable_0 rfl dX3_firstRestTable_14 ?_
    refine mj_iload_n X dX3_firstRestTable_17 1 rfl ?_
    obtain ⟨h2, r3, q4, hf⟩ := mm_c hf
    refine mj_callVi (As := [.int (h 21 9), .int a0]) (rest := []) X (kX3_choiceIn l D t1 t2 cI cT cS ad N h (h 21 9) a0 h2 r3 q4) (cwV 2 X.2.2.2.2.1 gX3_firstRestTable_X3_choiceIn rfl rfl rfl (by decide +kernel) ⟨Nat.le_of_ble_eq_true rfl, Nat.le_of_ble_eq_true rfl⟩) (mx_at mx_oX3 h) rfl rfl rfl rfl (Nat.le_of_ble_eq_true rfl) ⟨Nat.zero_le _, Nat.zero_le _⟩ dX3_firstRestTable_18 ?_
    refine mj_iconst (v := (1 : Int32)) X dX3_firstRestTable_21 (by decide) ?_
    refine mj_isub X dX3_firstRestTable_22 ?_
    exact RET h2 _ _ _ dX3_firstRestTable_23 (Option.some.inj hf)
  · have hf := mm_t c1 hf
    refine mj_iconst (v := (-1 : Int32)) X dX3_firstRestTable_8 (by decide) ?_
    refine mj_goto (tgt := 23) X dX3_firstRestTable_9 (by decide) ?_
    exact RET h _ _ _ dX3_firstRestTable_23 (Option.some.inj hf)
abbrev rmX4_leastPassed : Room := { frames := 3, cells := 0, slots := 0, locals := 73 }
theorem inwX4_leastPassed_X4 : ∀ w ∈ wsX40, w ∈ wsX4_leastPassed := by
  intro w hw
  have h9 : wsX40 = (wsX4_leastPassed.drop 38).take 7 := rfl
  rw [h9] at hw
  exact List.mem_of_mem_drop (List.mem_of_mem_take hw)
theorem lnX4_leastPassed_0 : Cond.fieldLink RX4 28 "RichestPays$Secrets" "people" "LRichestPays$People;" ∈ wsX4_leastPassed := List.mem_of_getElem? (i := 1) rfl
theorem lnX4_leastPassed_1 : Cond.fieldLink RX4 9 "RichestPays$Secrets" "hands" "[I" ∈ wsX4_leastPassed := List.mem_of_getElem? (i := 2) rfl
set_option maxHeartbeats 4000000 in
set_option maxRecDepth 100000 in
theorem wX4_leastPassed_L37 (X : mm_X p s m args c cX4_leastPassed RX4 wsX4_leastPassed 7 D (mx_ty cI cT cS) t1 t2 A) (out : mm_M × Int32) (RET : ∀ (h : mm_M) (pc : Nat) (lo : List (Nat × Value)) (v : Int32), decode cX4_leastPassed pc = .ok (.ireturn, 1) → (h, v) = out → mm_J p l e rmX4_leastPassed s m args below meth c 0 0 Q D (mx_w cI cT cS ad) A 7 h pc lo [.int v]) (N : Nat)  (p1 : Int32) (p2 : Int32) (p3 : Int32) (p4 : Int32) (p5 : Int32) (k : mm_M → Option (mm_M × Int32)) (HK : ∀ (h : mm_M), k h = some out → mm_J p l e rmX4_leastPassed s m args below meth c 0 0 Q D (mx_w cI cT cS ad) A 7 h 91 [] []) : ∀ (n : Nat) (h : mm_M) (m6 : Int32), fX4_leastPassed_L37 N p1 p2 p3 p4 p5 k n h m6 = some out → mm_J p l e rmX4_leastPassed s m args below meth c 0 0 Q D (mx_w cI cT cS ad) A 7 h 37 [(0, .ref (ad 28)), (1, .int p1), (2, .int p2), (3, .int p3), (4, .int p4), (5, .int p5), (6, .int m6)] [] := by
  intro n
  induction n with
  | zero =>
    intro h m6 hf
    cases hf
  | succ n ih =>
    intro h m6 hf
    rw [fX4_leastPassed_L37] at hf
    refine mj_iload X dX4_leastPassed_37 6 rfl ?_
    refine mj_iload X dX4_leastPassed_39 5 rfl ?_
    refine mj_icmp_gt (tgt := 91) X dX4_leastPassed_41 (by decide) (fun c9 => ?_) (fun c9 => ?_)
    · have hf := mm_t c9 hf
      exact mj_sub [] rfl (HK h hf)
    · have hf := mm_f c9 hf
      refine mj_aload_n X dX4_leastPassed_44 0 rfl ?_
      refine mj_get X inwX4_leastPassed_X4 (mx_at mx_oX4 h) rfl 2 (by decide) rfl lnX4_leastPassed_1 rfl dX4_leastPassed_45 ?_
      refine mj_iload_n X dX4_leastPassed_48 2 rfl ?_
      refine mj_dup2 X dX4_leastPassed_49 rfl rfl ?_
      obtain ⟨g10, hf⟩ := mm_g hf
      refine mj_iald X 0 (mx_at mx_a29 h) rfl g10 dX4_leastPassed_50 ?_
      refine mj_iconst (v := (1 : Int32)) X dX4_leastPassed_51 (by decide) ?_
      refine mj_isub X dX4_leastPassed_52 ?_
      obtain ⟨h11, eh11, hf⟩ := mm_l hf
      refine mj_iast X 0 (mx_at mx_a29 h) rfl g10 (mx_ast mx_a29 eh11) dX4_leastPassed_53 ?_
      refine mj_aload_n X dX4_leastPassed_54 0 rfl ?_
      refine mj_get X inwX4_leastPassed_X4 (mx_at mx_oX4 h11) rfl 2 (by decide) rfl lnX4_leastPassed_1 rfl dX4_leastPassed_55 ?_
      refine mj_iload_n X dX4_leastPassed_58 3 rfl ?_
      refine mj_dup2 X dX4_leastPassed_59 rfl rfl ?_
      obtain ⟨g12, hf⟩ := mm_g hf
      refine mj_iald X 0 (mx_at mx_a29 h11) rfl g12 dX4_leastPassed_60 ?_
      refine mj_iconst (v := (1 : Int32)) X dX4_leastPassed_61 (by decide) ?_
      refine mj_iadd X dX4_leastPassed_62 ?_
      obtain ⟨h13, eh13, hf⟩ := mm_l hf
      refine mj_iast X 0 (mx_at mx_a29 h11) rfl g12 (mx_ast mx_a29 eh13) dX4_leastPassed_63 ?_
      refine mj_aload_n X dX4_leastPassed_64 0 rfl ?_
      refine mj_get X inwX4_leastPassed_X4 (mx_at mx_oX4 h13) rfl 0 (by decide) rfl lnX4_leastPassed_0 rfl dX4_leastPassed_65 ?_
      refine mj_iload_n X dX4_leastPassed_68 2 rfl ?_
      refine mj_iload_n X dX4_leastPassed_69 1 rfl ?_
      refine mj_aload_n X dX4_leastPassed_70 0 rfl ?_
      refine mj_get X inwX4_leastPassed_X4 (mx_at mx_oX4 h13) rfl 2 (by decide) rfl lnX4_leastPassed_1 rfl dX4_leastPassed_71 ?_
      obtain ⟨h14, r15, q16, hf⟩ := mm_c hf
      refine mj_callVi (As := [.int p2, .int p1, .ref (ad 29)]) (rest := []) X (kX2_payOf l D t1 t2 cI cT cS ad 29 mx_a29 N h13 p2 p1 h14 r15 q16) (cwV 3 X.2.2.2.2.1 gX4_leastPassed_X2_payOf rfl rfl rfl (by decide +kernel) ⟨Nat.le_of_ble_eq_true rfl, Nat.le_of_ble_eq_true rfl⟩) (mx_at mx_oX2 h13) rfl rfl rfl rfl (Nat.le_of_ble_eq_true rfl) ⟨Nat.zero_le _, Nat.zero_le _⟩ dX4_leastPassed_74 ?_
      refine mj_iload X dX4_leastPassed_77 4 rfl ?_
      refine mj_icmp_ge (tgt := 85) X dX4_leastPassed_79 (by decide) (fun c17 => ?_) (fun c17 => ?_)
      · have hf := mm_t c17 hf
        refine mj_iinc (k := 6) (v := (m6 + 1)) (lo' := [(6, .int (m6 + 1)), (0, .ref (ad 28)), (1, .int p1), (2, .int p2), (3, .int p3), (4, .int p4), (5, .int p5)]) X dX4_leastPassed_85 rfl rfl (by decide) rfl ?_
        refine mj_goto (tgt := 37) X dX4_leastPassed_88 (by decide) ?_
        exact mj_sub [1, 2, 3, 4, 5, 6, 0] rfl (ih h14 (m6 + 1) hf)
      · have hf := mm_f c17 hf
        refine mj_iload X dX4_leastPassed_82 6 rfl ?_
        exact RET h14 _ _ _ dX4_leastPassed_84 (Option.some.inj hf)
set_option maxHeartbeats 4000000 in
set_option maxRecDepth 100000 in
theorem kX4_leastPassed (l : Launch) (D : va_G) (t1 t2 : Nat) (cI : ClassId) (cT : ClassId) (cS : ClassId) (ad : Nat → Nat)  (N : Nat) (h : mm_M) (a0 : Int32) (a1 : Int32) (a2 : Int32) (h1 : mm_M) (r : Int32) (hf : fX4_leastPassed N h a0 a1 a2 = some (h1, r)) : mm_Ki l yX4_leastPassed wsX4_leastPassed rmX4_leastPassed D (mx_ty cI cT cS) t1 t2 (mx_w cI cT cS ad) [.ref (ad 28), .int a0, .int a1, .int a2] h r h1 := by
  refine mm_open_i [.ref (ad 28), .int a0, .int a1, .int a2] h r h1 RX4 (by decide) rfl rfl (Nat.le_of_ble_eq_true rfl) ?_
  intro p e s m below meth c A X hr hlocks
  have RET : ∀ (h : mm_M) (pc : Nat) (lo : List (Nat × Value)) (v : Int32), decode cX4_leastPassed pc = .ok (.ireturn, 1) → (h, v) = (h1, r) → mm_J p l e rmX4_leastPassed s m ([.ref (ad 28), .int a0, .int a1, .int a2] : List Value).toArray below meth c 0 0 (MQ below (va_Qi (fun (r' : Int32) (u : mm_M) => r' = r ∧ u = h1) (mm_Post D (mx_w cI cT cS ad) A) A) ([.ref (ad 28), .int a0, .int a1, .int a2] : List Value).toArray s 0 0 A) D (mx_w cI cT cS ad) A 7 h pc lo [.int v] := by
    intro h2 pc lo v hd he
    cases he
    exact mj_iret X hr rfl hlocks hd
  generalize hout : (h1, r) = out at hf RET
  unfold fX4_leastPassed at hf
  refine mj_lo (lo' := [(0, .ref (ad 28)), (1, .int a0), (2, .int a1), (3, .int a2)]) rfl ?_
  refine mj_aload_n X dX4_leastPassed_0 0 rfl ?_
  refine mj_get X inwX4_leastPassed_X4 (mx_at mx_oX4 h) rfl 0 (by decide) rfl lnX4_leastPassed_0 rfl dX4_leastPassed_1 ?_
  refine mj_aload_n X dX4_leastPassed_4 0 rfl ?_
  refine mj_get X inwX4_leastPassed_X4 (mx_at mx_oX4 h) rfl 2 (by decide) rfl lnX4_leastPassed_1 rfl dX4_leastPassed_5 ?_
  obtain ⟨h1, r2, q3, hf⟩ := mm_c hf
  refine mj_callVv (As := [.ref (ad 29)]) (rest := []) X (kX2_tellHandsAtFirst l D t1 t2 cI cT cS ad 29 mx_a29 N h h1 r2 q3) (cwV 1 X.2.2.2.2.1 gX4_leastPassed_X2_tellHandsAtFirst rfl rfl rfl (by decide +kernel) ⟨Nat.le_of_ble_eq_true rfl, Nat.le_of_ble_eq_true rfl⟩) (mx_at mx_oX2 h) rfl rfl rfl rfl (Nat.le_of_ble_eq_true rfl) ⟨Nat.zero_le _, Nat.zero_le _⟩ dX4_leastPassed_8 ?_
  refine mj_aload_n X dX4_leastPassed_11 0 rfl ?_
  refine mj_get X inwX4_leastPassed_X4 (mx_at mx_oX4 h1) rfl 0 (by decide) rfl lnX4_leastPassed_0 rfl dX4_leastPassed_12 ?_
  refine mj_iload_n X dX4_leastPassed_15 2 rfl ?_
  refine mj_iload_n X dX4_leastPassed_16 1 rfl ?_
  refine mj_aload_n X dX4_leastPassed_17 0 rfl ?_
  refine mj_get X inwX4_leastPassed_X4 (mx_at mx_oX4 h1) rfl 2 (by decide) rfl lnX4_leastPassed_1 rfl dX4_leastPassed_18 ?_
  obtain ⟨h4, r5, q6, hf⟩ := mm_c hf
  refine mj_callVi (As := [.int a1, .int a0, .ref (ad 29)]) (rest := []) X (kX2_payOf l D t1 t2 cI cT cS ad 29 mx_a29 N h1 a1 a0 h4 r5 q6) (cwV 3 X.2.2.2.2.1 gX4_leastPassed_X2_payOf rfl rfl rfl (by decide +kernel) ⟨Nat.le_of_ble_eq_true rfl, Nat.le_of_ble_eq_true rfl⟩) (mx_at mx_oX2 h1) rfl rfl rfl rfl (Nat.le_of_ble_eq_true rfl) ⟨Nat.zero_le _, Nat.zero_le _⟩ dX4_leastPassed_21 ?_
  refine mj_istore (lo' := [(4, .int r5), (0, .ref (ad 28)), (1, .int a0), (2, .int a1), (3, .int a2)]) X dX4_leastPassed_24 (by decide) rfl ?_
  refine mj_aload_n X dX4_leastPassed_26 1 rfl ?_
  refine mj_get X inwX4_leastPassed_X4 (mx_at mx_oX4 h4) rfl 2 (by decide) rfl lnX4_leastPassed_1 rfl dX4_leastPassed_27 ?_
  refine mj_iload_n X dX4_leastPassed_30 3 rfl ?_
  obtain ⟨g7, hf⟩ := mm_g hf
  refine mj_iald X 0 (mx_at mx_a29 h4) rfl g7 dX4_leastPassed_31 ?_
  obtain ⟨x8, ex8, hf⟩ := mm_l hf
  refine mj_topi ex8 ?_
  refine mj_istore (lo' := [(5, .int x8), (4, .int r5), (0, .ref (ad 28)), (1, .int a0), (2, .int a1), (3, .int a2)]) X dX4_leastPassed_32 (by decide) rfl ?_
  refine mj_iconst (v := (1 : Int32)) X dX4_leastPassed_34 (by decide) ?_
  refine mj_istore (lo' := [(6, .int (1 : Int32)), (5, .int x8), (4, .int r5), (0, .ref (ad 28)), (1, .int a0), (2, .int a1), (3, .int a2)]) X dX4_leastPassed_35 (by decide) rfl ?_
  refine mj_sub [3, 4, 5, 6, 2, 1, 0] rfl (wX4_leastPassed_L37 X out RET N a0 a1 a2 r5 x8 _ (fun h18 hf => ?_) N h4 (1 : Int32) hf)
  refine mj_iconst (v := (-1 : Int32)) X dX4_leastPassed_91 (by decide) ?_
  exact RET h18 _ _ _ dX4_leastPassed_92 (Option.some.inj hf)
abbrev rmX4_remember : Room := { frames := 0, cells := 0, slots := 0, locals := 0 }
theorem inwX4_remember_X4 : ∀ w ∈ wsX40, w ∈ wsX4_remember := by
  intro w hw
  have h9 : wsX40 = (wsX4_remember.drop 5).take 7 := rfl
  rw [h9] at hw
  exact List.mem_of_mem_drop (List.mem_of_mem_take hw)
theorem lnX4_remember_0 : Cond.fieldLink RX4 24 "RichestPays$Secrets" "seenNumber" "I" ∈ wsX4_remember := List.mem_of_getElem? (i := 1) rfl
theorem lnX4_remember_1 : Cond.fieldLink RX4 15 "RichestPays$Secrets" "seenRound" "[I" ∈ wsX4_remember := List.mem_of_getElem? (i := 2) rfl
theorem lnX4_remember_2 : Cond.fieldLink RX4 18 "RichestPays$Secrets" "seenPerson" "[I" ∈ wsX4_remember := List.mem_of_getElem? (i := 3) rfl
theorem lnX4_remember_3 : Cond.fieldLink RX4 21 "RichestPays$Secrets" "seenPaid" "[I" ∈ wsX4_remember := List.mem_of_getElem? (i := 4) rfl
set_option maxHeartbeats 4000000 in
set_option maxRecDepth 100000 in
theorem kX4_remember (l : Launch) (D : va_G) (t1 t2 : Nat) (cI : ClassId) (cT : ClassId) (cS : ClassId) (ad : Nat → Nat)  (N : Nat) (h : mm_M) (a0 : Int32) (a1 : Int32) (a2 : Int32) (h1 : mm_M) (r : Unit) (hf : fX4_remember N h a0 a1 a2 = some (h1, r)) : mm_Kv l yX4_remember wsX4_remember rmX4_remember D (mx_ty cI cT cS) t1 t2 (mx_w cI cT cS ad) [.ref (ad 28), .int a0, .int a1, .int a2] h h1 := by
  refine mm_open_v [.ref (ad 28), .int a0, .int a1, .int a2] h h1 RX4 (by decide) rfl rfl (Nat.le_of_ble_eq_true rfl) ?_
  intro p e s m below meth c A X hr hlocks
  have RET : ∀ (h : mm_M) (pc : Nat) (lo : List (Nat × Value)) (v : Unit), decode cX4_remember pc = .ok (.return_, 1) → (h, v) = (h1, r) → mm_J p l e rmX4_remember s m ([.ref (ad 28), .int a0, .int a1, .int a2] : List Value).toArray below meth c 0 0 (MQ below (va_Qv (fun (u : mm_M) => u = h1) (mm_Post D (mx_w cI cT cS ad) A) A) ([.ref (ad 28), .int a0, .int a1, .int a2] : List Value).toArray s 0 0 A) D (mx_w cI cT cS ad) A 4 h pc lo [] := by
    intro h2 pc lo v hd he
    cases he
    exact mj_vret X hr hlocks hd
  generalize hout : (h1, r) = out at hf RET
  unfold fX4_remember at hf
  refine mj_lo (lo' := [(0, .ref (ad 28)), (1, .int a0), (2, .int a1), (3, .int a2)]) rfl ?_
  refine mj_aload_n X dX4_remember_0 0 rfl ?_
  refine mj_get X inwX4_remember_X4 (mx_at mx_oX4 h) rfl 6 (by decide) rfl lnX4_remember_0 rfl dX4_remember_1 ?_
  refine mj_bipush (v := (8 : Int32)) X dX4_remember_4 (by decide) ?_
  refine mj_icmp_ge (tgt := 49) X dX4_remember_6 (by decide) (fun c1 => ?_) (fun c1 => ?_)
  · have hf := mm_t c1 hf
    exact RET h _ _ _ dX4_remember_49 (Option.some.inj hf)
  · have hf := mm_f c1 hf
    refine mj_aload_n X dX4_remember_9 0 rfl ?_
    refine mj_get X inwX4_remember_X4 (mx_at mx_oX4 h) rfl 3 (by decide) rfl lnX4_remember_1 rfl dX4_remember_10 ?_
    refine mj_aload_n X dX4_remember_13 0 rfl ?_
    refine mj_get X inwX4_remember_X4 (mx_at mx_oX4 h) rfl 6 (by decide) rfl lnX4_remember_0 rfl dX4_remember_14 ?_
    refine mj_iload_n X dX4_remember_17 1 rfl ?_
    obtain ⟨g2, hf⟩ := mm_g hf
    obtain ⟨h3, eh3, hf⟩ := mm_l hf
    refine mj_iast X 0 (mx_at mx_a30 h) rfl g2 (mx_ast mx_a30 eh3) dX4_remember_18 ?_
    refine mj_aload_n X dX4_remember_19 0 rfl ?_
    refine mj_get X inwX4_remember_X4 (mx_at mx_oX4 h3) rfl 4 (by decide) rfl lnX4_remember_2 rfl dX4_remember_20 ?_
    refine mj_aload_n X dX4_remember_23 0 rfl ?_
    refine mj_get X inwX4_remember_X4 (mx_at mx_oX4 h3) rfl 6 (by decide) rfl lnX4_remember_0 rfl dX4_remember_24 ?_
    refine mj_iload_n X dX4_remember_27 2 rfl ?_
    obtain ⟨g4, hf⟩ := mm_g hf
    obtain ⟨h5, eh5, hf⟩ := mm_l hf
    refine mj_iast X 0 (mx_at mx_a31 h3) rfl g4 (mx_ast mx_a31 eh5) dX4_remember_28 ?_
    refine mj_aload_n X dX4_remember_29 0 rfl ?_
    refine mj_get X inwX4_remember_X4 (mx_at mx_oX4 h5) rfl 5 (by decide) rfl lnX4_remember_3 rfl dX4_remember_30 ?_
    refine mj_aload_n X dX4_remember_33 0 rfl ?_
    refine mj_get X inwX4_remember_X4 (mx_at mx_oX4 h5) rfl 6 (by decide) rfl lnX4_remember_0 rfl dX4_remember_34 ?_
    refine mj_iload_n X dX4_remember_37 3 rfl ?_
    obtain ⟨g6, hf⟩ := mm_g hf
    obtain ⟨h7, eh7, hf⟩ := mm_l hf
    refine mj_iast X 0 (mx_at mx_a32 h5) rfl g6 (mx_ast mx_a32 eh7) dX4_remember_38 ?_
    refine mj_aload_n X dX4_remember_39 0 rfl ?_
    refine mj_dup X dX4_remember_40 rfl ?_
    refine mj_get X inwX4_remember_X4 (mx_at mx_oX4 h7) rfl 6 (by decide) rfl lnX4_remember_0 rfl dX4_remember_41 ?_
    refine mj_iconst (v := (1 : Int32)) X dX4_remember_44 (by decide) ?_
    refine mj_iadd X dX4_remember_45 ?_
    obtain ⟨h8, eh8, hf⟩ := mm_l hf
    refine mj_put X tyX4_ok nmX4 inwX4_remember_X4 (mx_at mx_oX4 h7) rfl 6 (by decide) rfl lnX4_remember_0 rfl (tyX4_ok 6 (by decide)) rfl rfl (Nat.le_of_ble_eq_true rfl) (mx_put mx_oX4 eh8 (by simp [mm_up_at, upd])) dX4_remember_46 ?_
    exact RET h8 _ _ _ dX4_remember_49 (Option.some.inj hf)
abbrev rmX4_paidAsPlayed : Room := { frames := 0, cells := 0, slots := 0, locals := 0 }
theorem inwX4_paidAsPlayed_X4 : ∀ w ∈ wsX40, w ∈ wsX4_paidAsPlayed := by
  intro w hw
  have h9 : wsX40 = (wsX4_paidAsPlayed.drop 5).take 7 := rfl
  rw [h9] at hw
  exact List.mem_of_mem_drop (List.mem_of_mem_take hw)
theorem lnX4_paidAsPlayed_0 : Cond.fieldLink RX4 32 "RichestPays$Secrets" "evening" "LRichestPays$Evening;" ∈ wsX4_paidAsPlayed := List.mem_of_getElem? (i := 1) rfl
theorem inwX4_paidAsPlayed_X0 : ∀ w ∈ wsX00, w ∈ wsX4_paidAsPlayed := by
  intro w hw
  have h9 : wsX00 = (wsX4_paidAsPlayed.drop 12).take 11 := rfl
  rw [h9] at hw
  exact List.mem_of_mem_drop (List.mem_of_mem_take hw)
theorem lnX4_paidAsPlayed_1 : Cond.fieldLink RX4 58 "RichestPays$Evening" "paidIn" "[I" ∈ wsX4_paidAsPlayed := List.mem_of_getElem? (i := 2) rfl
theorem lnX4_paidAsPlayed_2 : Cond.fieldLink RX4 15 "RichestPays$Secrets" "seenRound" "[I" ∈ wsX4_paidAsPlayed := List.mem_of_getElem? (i := 3) rfl
theorem lnX4_paidAsPlayed_3 : Cond.fieldLink RX4 18 "RichestPays$Secrets" "seenPerson" "[I" ∈ wsX4_paidAsPlayed := List.mem_of_getElem? (i := 4) rfl
set_option maxHeartbeats 4000000 in
set_option maxRecDepth 100000 in
theorem kX4_paidAsPlayed (l : Launch) (D : va_G) (t1 t2 : Nat) (cI : ClassId) (cT : ClassId) (cS : ClassId) (ad : Nat → Nat)  (N : Nat) (h : mm_M) (a0 : Int32) (h1 : mm_M) (r : Int32) (hf : fX4_paidAsPlayed N h a0 = some (h1, r)) : mm_Ki l yX4_paidAsPlayed wsX4_paidAsPlayed rmX4_paidAsPlayed D (mx_ty cI cT cS) t1 t2 (mx_w cI cT cS ad) [.ref (ad 28), .int a0] h r h1 := by
  refine mm_open_i [.ref (ad 28), .int a0] h r h1 RX4 (by decide) rfl rfl (Nat.le_of_ble_eq_true rfl) ?_
  intro p e s m below meth c A X hr hlocks
  have RET : ∀ (h : mm_M) (pc : Nat) (lo : List (Nat × Value)) (v : Int32), decode cX4_paidAsPlayed pc = .ok (.ireturn, 1) → (h, v) = (h1, r) → mm_J p l e rmX4_paidAsPlayed s m ([.ref (ad 28), .int a0] : List Value).toArray below meth c 0 0 (MQ below (va_Qi (fun (r' : Int32) (u : mm_M) => r' = r ∧ u = h1) (mm_Post D (mx_w cI cT cS ad) A) A) ([.ref (ad 28), .int a0] : List Value).toArray s 0 0 A) D (mx_w cI cT cS ad) A 2 h pc lo [.int v] := by
    intro h2 pc lo v hd he
    cases he
    exact mj_iret X hr rfl hlocks hd
  generalize hout : (h1, r) = out at hf RET
  unfold fX4_paidAsPlayed at hf
  refine mj_lo (lo' := [(0, .ref (ad 28)), (1, .int a0)]) rfl ?_
  refine mj_aload_n X dX4_paidAsPlayed_0 0 rfl ?_
  refine mj_get X inwX4_paidAsPlayed_X4 (mx_at mx_oX4 h) rfl 1 (by decide) rfl lnX4_paidAsPlayed_0 rfl dX4_paidAsPlayed_1 ?_
  refine mj_get X inwX4_paidAsPlayed_X0 (mx_at mx_oX0 h) rfl 8 (by decide) rfl lnX4_paidAsPlayed_1 rfl dX4_paidAsPlayed_4 ?_
  refine mj_aload_n X dX4_paidAsPlayed_7 0 rfl ?_
  refine mj_get X inwX4_paidAsPlayed_X4 (mx_at mx_oX4 h) rfl 3 (by decide) rfl lnX4_paidAsPlayed_2 rfl dX4_paidAsPlayed_8 ?_
  refine mj_iload_n X dX4_paidAsPlayed_11 1 rfl ?_
  obtain ⟨g1, hf⟩ := mm_g hf
  refine mj_iald X 0 (mx_at mx_a30 h) rfl g1 dX4_paidAsPlayed_12 ?_
  refine mj_bipush (v := (6 : Int32)) X dX4_paidAsPlayed_13 (by decide) ?_
  refine mj_imul X dX4_paidAsPlayed_15 ?_
  refine mj_aload_n X dX4_paidAsPlayed_16 0 rfl ?_
  refine mj_get X inwX4_paidAsPlayed_X4 (mx_at mx_oX4 h) rfl 4 (by decide) rfl lnX4_paidAsPlayed_3 rfl dX4_paidAsPlayed_17 ?_
  refine mj_iload_n X dX4_paidAsPlayed_20 1 rfl ?_
  refine mj_iald X 0 (mx_at mx_a31 h) rfl g1 dX4_paidAsPlayed_21 ?_
  refine mj_iadd X dX4_paidAsPlayed_22 ?_
  obtain ⟨g2, hf⟩ := mm_g hf
  refine mj_iald X 0 (mx_at mx_a20 h) rfl g2 dX4_paidAsPlayed_23 ?_
  exact RET h _ _ _ dX4_paidAsPlayed_24 (Option.some.inj hf)
abbrev rmX4_unlikeSeen : Room := { frames := 1, cells := 0, slots := 0, locals := 21 }
theorem inwX4_unlikeSeen_X4 : ∀ w ∈ wsX40, w ∈ wsX4_unlikeSeen := by
  intro w hw
  have h9 : wsX40 = (wsX4_unlikeSeen.drop 15).take 7 := rfl
  rw [h9] at hw
  exact List.mem_of_mem_drop (List.mem_of_mem_take hw)
theorem lnX4_unlikeSeen_0 : Cond.fieldLink RX4 24 "RichestPays$Secrets" "seenNumber" "I" ∈ wsX4_unlikeSeen := List.mem_of_getElem? (i := 1) rfl
theorem lnX4_unlikeSeen_1 : Cond.fieldLink RX4 15 "RichestPays$Secrets" "seenRound" "[I" ∈ wsX4_unlikeSeen := List.mem_of_getElem? (i := 2) rfl
theorem lnX4_unlikeSeen_2 : Cond.fieldLink RX4 32 "RichestPays$Secrets" "evening" "LRichestPays$Evening;" ∈ wsX4_unlikeSeen := List.mem_of_getElem? (i := 3) rfl
theorem inwX4_unlikeSeen_X0 : ∀ w ∈ wsX00, w ∈ wsX4_unlikeSeen := by
  intro w hw
  have h9 : wsX00 = (wsX4_unlikeSeen.drop 22).take 11 := rfl
  rw [h9] at hw
  exact List.mem_of_mem_drop (List.mem_of_mem_take hw)
theorem lnX4_unlikeSeen_3 : Cond.fieldLink RX4 46 "RichestPays$Evening" "rounds" "I" ∈ wsX4_unlikeSeen := List.mem_of_getElem? (i := 4) rfl
theorem lnX4_unlikeSeen_4 : Cond.fieldLink RX4 18 "RichestPays$Secrets" "seenPerson" "[I" ∈ wsX4_unlikeSeen := List.mem_of_getElem? (i := 5) rfl
theorem lnX4_unlikeSeen_5 : Cond.fieldLink RX4 28 "RichestPays$Secrets" "people" "LRichestPays$People;" ∈ wsX4_unlikeSeen := List.mem_of_getElem? (i := 6) rfl
theorem inwX4_unlikeSeen_X2 : ∀ w ∈ wsX20, w ∈ wsX4_unlikeSeen := by
  intro w hw
  have h9 : wsX20 = (wsX4_unlikeSeen.drop 33).take 9 := rfl
  rw [h9] at hw
  exact List.mem_of_mem_drop (List.mem_of_mem_take hw)
theorem lnX4_unlikeSeen_6 : Cond.fieldLink RX4 51 "RichestPays$People" "number" "I" ∈ wsX4_unlikeSeen := List.mem_of_getElem? (i := 7) rfl
theorem lnX4_unlikeSeen_7 : Cond.fieldLink RX4 21 "RichestPays$Secrets" "seenPaid" "[I" ∈ wsX4_unlikeSeen := List.mem_of_getElem? (i := 8) rfl
set_option maxHeartbeats 4000000 in
set_option maxRecDepth 100000 in
theorem wX4_unlikeSeen_L4 (X : mm_X p s m args c cX4_unlikeSeen RX4 wsX4_unlikeSeen 4 D (mx_ty cI cT cS) t1 t2 A) (out : mm_M × Int32) (RET : ∀ (h : mm_M) (pc : Nat) (lo : List (Nat × Value)) (v : Int32), decode cX4_unlikeSeen pc = .ok (.ireturn, 1) → (h, v) = out → mm_J p l e rmX4_unlikeSeen s m args below meth c 0 0 Q D (mx_w cI cT cS ad) A 4 h pc lo [.int v]) (N : Nat)   (k : mm_M → Int32 → Option (mm_M × Int32)) (HK : ∀ (h : mm_M) (m1 : Int32), k h m1 = some out → mm_J p l e rmX4_unlikeSeen s m args below meth c 0 0 Q D (mx_w cI cT cS ad) A 4 h 77 [(1, .int m1)] []) : ∀ (n : Nat) (h : mm_M) (m1 : Int32) (m2 : Int32), fX4_unlikeSeen_L4 N k n h m1 m2 = some out → mm_J p l e rmX4_unlikeSeen s m args below meth c 0 0 Q D (mx_w cI cT cS ad) A 4 h 4 [(0, .ref (ad 28)), (1, .int m1), (2, .int m2)] [] := by
  intro n
  induction n with
  | zero =>
    intro h m1 m2 hf
    cases hf
  | succ n ih =>
    intro h m1 m2 hf
    rw [fX4_unlikeSeen_L4] at hf
    refine mj_iload_n X dX4_unlikeSeen_4 2 rfl ?_
    refine mj_aload_n X dX4_unlikeSeen_5 0 rfl ?_
    refine mj_get X inwX4_unlikeSeen_X4 (mx_at mx_oX4 h) rfl 6 (by decide) rfl lnX4_unlikeSeen_0 rfl dX4_unlikeSeen_6 ?_
    refine mj_icmp_ge (tgt := 77) X dX4_unlikeSeen_9 (by decide) (fun c1 => ?_) (fun c1 => ?_)
    · have hf := mm_t c1 hf
      exact mj_sub [1] rfl (HK h m1 hf)
    · have hf := mm_f c1 hf
      refine mj_aload_n X dX4_unlikeSeen_12 0 rfl ?_
      refine mj_get X inwX4_unlikeSeen_X4 (mx_at mx_oX4 h) rfl 3 (by decide) rfl lnX4_unlikeSeen_1 rfl dX4_unlikeSeen_13 ?_
      refine mj_iload_n X dX4_unlikeSeen_16 2 rfl ?_
      obtain ⟨g2, hf⟩ := mm_g hf
      refine mj_iald X 0 (mx_at mx_a30 h) rfl g2 dX4_unlikeSeen_17 ?_
      refine mj_aload_n X dX4_unlikeSeen_18 0 rfl ?_
      refine mj_get X inwX4_unlikeSeen_X4 (mx_at mx_oX4 h) rfl 1 (by decide) rfl lnX4_unlikeSeen_2 rfl dX4_unlikeSeen_19 ?_
      refine mj_get X inwX4_unlikeSeen_X0 (mx_at mx_oX0 h) rfl 9 (by decide) rfl lnX4_unlikeSeen_3 rfl dX4_unlikeSeen_22 ?_
      refine mj_icmp_ge (tgt := 48) X dX4_unlikeSeen_25 (by decide) (fun c3 => ?_) (fun c3 => ?_)
      · have hf := mm_t c3 hf
        refine mj_iconst (v := (0 : Int32)) X dX4_unlikeSeen_48 (by decide) ?_
        refine mj_istore_n (lo' := [(3, .int (0 : Int32)), (0, .ref (ad 28)), (1, .int m1), (2, .int m2)]) X dX4_unlikeSeen_49 (by decide) rfl ?_
        refine mj_iload_n X dX4_unlikeSeen_50 0 rfl ?_
        refine mj_if_eq (tgt := 68) X dX4_unlikeSeen_51 (by decide) (fun _ => ?_) (fun c4 => absurd c4 (by decide))
        refine mj_iinc (k := 2) (v := (m1 + 1)) (lo' := [(1, .int (m1 + 1)), (3, .int (0 : Int32)), (0, .ref (ad 28)), (2, .int m2)]) X dX4_unlikeSeen_68 rfl rfl (by decide) rfl ?_
        refine mj_iinc (k := 3) (v := (m2 + 1)) (lo' := [(2, .int (m2 + 1)), (1, .int (m1 + 1)), (3, .int (0 : Int32)), (0, .ref (ad 28))]) X dX4_unlikeSeen_71 rfl rfl (by decide) rfl ?_
        refine mj_goto (tgt := 4) X dX4_unlikeSeen_74 (by decide) ?_
        exact mj_sub [3, 1, 0] rfl (ih h (m1 + 1) (m2 + 1) hf)
      · have hf := mm_f c3 hf
        refine mj_aload_n X dX4_unlikeSeen_28 0 rfl ?_
        refine mj_get X inwX4_unlikeSeen_X4 (mx_at mx_oX4 h) rfl 4 (by decide) rfl lnX4_unlikeSeen_4 rfl dX4_unlikeSeen_29 ?_
        refine mj_iload_n X dX4_unlikeSeen_32 2 rfl ?_
        refine mj_iald X 0 (mx_at mx_a31 h) rfl g2 dX4_unlikeSeen_33 ?_
        refine mj_aload_n X dX4_unlikeSeen_34 0 rfl ?_
        refine mj_get X inwX4_unlikeSeen_X4 (mx_at mx_oX4 h) rfl 0 (by decide) rfl lnX4_unlikeSeen_5 rfl dX4_unlikeSeen_35 ?_
        refine mj_get X inwX4_unlikeSeen_X2 (mx_at mx_oX2 h) rfl 5 (by decide) rfl lnX4_unlikeSeen_6 rfl dX4_unlikeSeen_38 ?_
        refine mj_icmp_ge (tgt := 48) X dX4_unlikeSeen_41 (by decide) (fun c5 => ?_) (fun c5 => ?_)
        · have hf := mm_t c5 hf
          refine mj_iconst (v := (0 : Int32)) X dX4_unlikeSeen_48 (by decide) ?_
          refine mj_istore_n (lo' := [(3, .int (0 : Int32)), (0, .ref (ad 28)), (1, .int m1), (2, .int m2)]) X dX4_unlikeSeen_49 (by decide) rfl ?_
          refine mj_iload_n X dX4_unlikeSeen_50 0 rfl ?_
          refine mj_if_eq (tgt := 68) X dX4_unlikeSeen_51 (by decide) (fun _ => ?_) (fun c6 => absurd c6 (by decide))
          refine mj_iinc (k := 2) (v := (m1 + 1)) (lo' := [(1, .int (m1 + 1)), (3, .int (0 : Int32)), (0, .ref (ad 28)), (2, .int m2)]) X dX4_unlikeSeen_68 rfl rfl (by decide) rfl ?_
          refine mj_iinc (k := 3) (v := (m2 + 1)) (lo' := [(2, .int (m2 + 1)), (1, .int (m1 + 1)), (3, .int (0 : Int32)), (0, .ref (ad 28))]) X dX4_unlikeSeen_71 rfl rfl (by decide) rfl ?_
          refine mj_goto (tgt := 4) X dX4_unlikeSeen_74 (by decide) ?_
          exact mj_sub [3, 1, 0] rfl (ih h (m1 + 1) (m2 + 1) hf)
        · have hf := mm_f c5 hf
          refine mj_iconst (v := (1 : Int32)) X dX4_unlikeSeen_44 (by decide) ?_
          refine mj_goto (tgt := 49) X dX4_unlikeSeen_45 (by decide) ?_
          refine mj_istore_n (lo' := [(3, .int (1 : Int32)), (0, .ref (ad 28)), (1, .int m1), (2, .int m2)]) X dX4_unlikeSeen_49 (by decide) rfl ?_
          refine mj_iload_n X dX4_unlikeSeen_50 0 rfl ?_
          refine mj_if_eq (tgt := 68) X dX4_unlikeSeen_51 (by decide) (fun c7 => absurd c7 (by decide)) (fun _ => ?_)
          refine mj_aload_n X dX4_unlikeSeen_54 1 rfl ?_
          refine mj_iload_n X dX4_unlikeSeen_55 3 rfl ?_
          obtain ⟨h8, r9, q10, hf⟩ := mm_c hf
          refine mj_callVi (As := [.int m2]) (rest := []) X (kX4_paidAsPlayed l D t1 t2 cI cT cS ad N h m2 h8 r9 q10) (cwV 1 X.2.2.2.2.1 gX4_unlikeSeen_X4_paidAsPlayed rfl rfl rfl (by decide +kernel) ⟨Nat.le_of_ble_eq_true rfl, Nat.le_of_ble_eq_true rfl⟩) (mx_at mx_oX4 h) rfl rfl rfl rfl (Nat.le_of_ble_eq_true rfl) ⟨Nat.zero_le _, Nat.zero_le _⟩ dX4_unlikeSeen_56 ?_
          refine mj_aload_n X dX4_unlikeSeen_59 1 rfl ?_
          refine mj_get X inwX4_unlikeSeen_X4 (mx_at mx_oX4 h8) rfl 5 (by decide) rfl lnX4_unlikeSeen_7 rfl dX4_unlikeSeen_60 ?_
          refine mj_iload_n X dX4_unlikeSeen_63 3 rfl ?_
          refine mj_iald X 0 (mx_at mx_a32 h8) rfl g2 dX4_unlikeSeen_64 ?_
          refine mj_icmp_eq (tgt := 71) X dX4_unlikeSeen_65 (by decide) (fun c11 => ?_) (fun c11 => ?_)
          · have hf := mm_t c11 hf
            refine mj_iinc (k := 3) (v := (m2 + 1)) (lo' := [(2, .int (m2 + 1)), (3, .int (1 : Int32)), (0, .ref (ad 28)), (1, .int m1)]) X dX4_unlikeSeen_71 rfl rfl (by decide) rfl ?_
            refine mj_goto (tgt := 4) X dX4_unlikeSeen_74 (by decide) ?_
            exact mj_sub [2, 3, 0] rfl (ih h8 m1 (m2 + 1) hf)
          · have hf := mm_f c11 hf
            refine mj_iinc (k := 2) (v := (m1 + 1)) (lo' := [(1, .int (m1 + 1)), (3, .int (1 : Int32)), (0, .ref (ad 28)), (2, .int m2)]) X dX4_unlikeSeen_68 rfl rfl (by decide) rfl ?_
            refine mj_iinc (k := 3) (v := (m2 + 1)) (lo' := [(2, .int (m2 + 1)), (1, .int (m1 + 1)), (3, .int (1 : Int32)), (0, .ref (ad 28))]) X dX4_unlikeSeen_71 rfl rfl (by decide) rfl ?_
            refine mj_goto (tgt := 4) X dX4_unlikeSeen_74 (by decide) ?_
            exact mj_sub [3, 1, 0] rfl (ih h8 (m1 + 1) (m2 + 1) hf)
set_option maxHeartbeats 4000000 in
set_option maxRecDepth 100000 in
theorem kX4_unlikeSeen (l : Launch) (D : va_G) (t1 t2 : Nat) (cI : ClassId) (cT : ClassId) (cS : ClassId) (ad : Nat → Nat)  (N : Nat) (h : mm_M)  (h1 : mm_M) (r : Int32) (hf : fX4_unlikeSeen N h = some (h1, r)) : mm_Ki l yX4_unlikeSeen wsX4_unlikeSeen rmX4_unlikeSeen D (mx_ty cI cT cS) t1 t2 (mx_w cI cT cS ad) [.ref (ad 28)] h r h1 := by
  refine mm_open_i [.ref (ad 28)] h r h1 RX4 (by decide) rfl rfl (Nat.le_of_ble_eq_true rfl) ?_
  intro p e s m below meth c A X hr hlocks
  have RET : ∀ (h : mm_M) (pc : Nat) (lo : List (Nat × Value)) (v : Int32), decode cX4_unlikeSeen pc = .ok (.ireturn, 1) → (h, v) = (h1, r) → mm_J p l e rmX4_unlikeSeen s m ([.ref (ad 28)] : List Value).toArray below meth c 0 0 (MQ below (va_Qi (fun (r' : Int32) (u : mm_M) => r' = r ∧ u = h1) (mm_Post D (mx_w cI cT cS ad) A) A) ([.ref (ad 28)] : List Value).toArray s 0 0 A) D (mx_w cI cT cS ad) A 4 h pc lo [.int v] := by
    intro h2 pc lo v hd he
    cases he
    exact mj_iret X hr rfl hlocks hd
  generalize hout : (h1, r) = out at hf RET
  unfold fX4_unlikeSeen at hf
  refine mj_lo (lo' := [(0, .ref (ad 28))]) rfl ?_
  refine mj_iconst (v := (0 : Int32)) X dX4_unlikeSeen_0 (by decide) ?_
  refine mj_istore_n (lo' := [(1, .int (0 : Int32)), (0, .ref (ad 28))]) X dX4_unlikeSeen_1 (by decide) rfl ?_
  refine mj_iconst (v := (0 : Int32)) X dX4_unlikeSeen_2 (by decide) ?_
  refine mj_istore_n (lo' := [(2, .int (0 : Int32)), (1, .int (0 : Int32)), (0, .ref (ad 28))]) X dX4_unlikeSeen_3 (by decide) rfl ?_
  refine mj_sub [2, 1, 0] rfl (wX4_unlikeSeen_L4 X out RET N _ (fun h12 v13 hf => ?_) N h (0 : Int32) (0 : Int32) hf)
  refine mj_iload_n X dX4_unlikeSeen_77 0 rfl ?_
  exact RET h12 _ _ _ dX4_unlikeSeen_78 (Option.some.inj hf)
abbrev rmX4_leastHidden : Room := { frames := 4, cells := 0, slots := 0, locals := 97 }
theorem inwX4_leastHidden_X4 : ∀ w ∈ wsX40, w ∈ wsX4_leastHidden := by
  intro w hw
  have h9 : wsX40 = (wsX4_leastHidden.drop 81).take 7 := rfl
  rw [h9] at hw
  exact List.mem_of_mem_drop (List.mem_of_mem_take hw)
theorem lnX4_leastHidden_0 : Cond.fieldLink RX4 28 "RichestPays$Secrets" "people" "LRichestPays$People;" ∈ wsX4_leastHidden := List.mem_of_getElem? (i := 1) rfl
theorem inwX4_leastHidden_X2 : ∀ w ∈ wsX20, w ∈ wsX4_leastHidden := by
  intro w hw
  have h9 : wsX20 = (wsX4_leastHidden.drop 88).take 9 := rfl
  rw [h9] at hw
  exact List.mem_of_mem_drop (List.mem_of_mem_take hw)
theorem lnX4_leastHidden_1 : Cond.fieldLink RX4 61 "RichestPays$People" "purse" "[I" ∈ wsX4_leastHidden := List.mem_of_getElem? (i := 2) rfl
theorem lnX4_leastHidden_2 : Cond.fieldLink RX4 32 "RichestPays$Secrets" "evening" "LRichestPays$Evening;" ∈ wsX4_leastHidden := List.mem_of_getElem? (i := 3) rfl
theorem inwX4_leastHidden_X0 : ∀ w ∈ wsX00, w ∈ wsX4_leastHidden := by
  intro w hw
  have h9 : wsX00 = (wsX4_leastHidden.drop 97).take 11 := rfl
  rw [h9] at hw
  exact List.mem_of_mem_drop (List.mem_of_mem_take hw)
theorem lnX4_leastHidden_3 : Cond.fieldLink RX4 64 "RichestPays$Evening" "hand" "[I" ∈ wsX4_leastHidden := List.mem_of_getElem? (i := 4) rfl
theorem lnX4_leastHidden_4 : Cond.fieldLink RX4 46 "RichestPays$Evening" "rounds" "I" ∈ wsX4_leastHidden := List.mem_of_getElem? (i := 5) rfl
set_option maxHeartbeats 4000000 in
set_option maxRecDepth 100000 in
theorem wX4_leastHidden_L2 (X : mm_X p s m args c cX4_leastHidden RX4 wsX4_leastHidden 3 D (mx_ty cI cT cS) t1 t2 A) (out : mm_M × Int32) (RET : ∀ (h : mm_M) (pc : Nat) (lo : List (Nat × Value)) (v : Int32), decode cX4_leastHidden pc = .ok (.ireturn, 1) → (h, v) = out → mm_J p l e rmX4_leastHidden s m args below meth c 0 0 Q D (mx_w cI cT cS ad) A 3 h pc lo [.int v]) (N : Nat)  (p1 : Int32) (k : mm_M → Option (mm_M × Int32)) (HK : ∀ (h : mm_M), k h = some out → mm_J p l e rmX4_leastHidden s m args below meth c 0 0 Q D (mx_w cI cT cS ad) A 3 h 78 [] []) : ∀ (n : Nat) (h : mm_M) (m2 : Int32), fX4_leastHidden_L2 N p1 k n h m2 = some out → mm_J p l e rmX4_leastHidden s m args below meth c 0 0 Q D (mx_w cI cT cS ad) A 3 h 2 [(0, .ref (ad 28)), (1, .int p1), (2, .int m2)] [] := by
  intro n
  induction n with
  | zero =>
    intro h m2 hf
    cases hf
  | succ n ih =>
    intro h m2 hf
    rw [fX4_leastHidden_L2] at hf
    refine mj_iload_n X dX4_leastHidden_2 2 rfl ?_
    refine mj_aload_n X dX4_leastHidden_3 0 rfl ?_
    refine mj_get X inwX4_leastHidden_X4 (mx_at mx_oX4 h) rfl 0 (by decide) rfl lnX4_leastHidden_0 rfl dX4_leastHidden_4 ?_
    refine mj_get X inwX4_leastHidden_X2 (mx_at mx_oX2 h) rfl 0 (by decide) rfl lnX4_leastHidden_1 rfl dX4_leastHidden_7 ?_
    refine mj_iload_n X dX4_leastHidden_10 1 rfl ?_
    obtain ⟨g1, hf⟩ := mm_g hf
    refine mj_iald X 0 (mx_at mx_a7 h) rfl g1 dX4_leastHidden_11 ?_
    refine mj_icmp_gt (tgt := 78) X dX4_leastHidden_12 (by decide) (fun c2 => ?_) (fun c2 => ?_)
    · have hf := mm_t c2 hf
      exact mj_sub [] rfl (HK h hf)
    · have hf := mm_f c2 hf
      refine mj_aload_n X dX4_leastHidden_15 0 rfl ?_
      refine mj_get X inwX4_leastHidden_X4 (mx_at mx_oX4 h) rfl 0 (by decide) rfl lnX4_leastHidden_0 rfl dX4_leastHidden_16 ?_
      refine mj_aload_n X dX4_leastHidden_19 0 rfl ?_
      refine mj_get X inwX4_leastHidden_X4 (mx_at mx_oX4 h) rfl 1 (by decide) rfl lnX4_leastHidden_2 rfl dX4_leastHidden_20 ?_
      refine mj_get X inwX4_leastHidden_X0 (mx_at mx_oX0 h) rfl 3 (by decide) rfl lnX4_leastHidden_3 rfl dX4_leastHidden_23 ?_
      obtain ⟨h3, r4, q5, hf⟩ := mm_c hf
      refine mj_callVv (As := [.ref (ad 15)]) (rest := []) X (kX2_tellHandsAtFirst l D t1 t2 cI cT cS ad 15 mx_a15 N h h3 r4 q5) (cwV 1 X.2.2.2.2.1 gX4_leastHidden_X2_tellHandsAtFirst rfl rfl rfl (by decide +kernel) ⟨Nat.le_of_ble_eq_true rfl, Nat.le_of_ble_eq_true rfl⟩) (mx_at mx_oX2 h) rfl rfl rfl rfl (Nat.le_of_ble_eq_true rfl) ⟨Nat.zero_le _, Nat.zero_le _⟩ dX4_leastHidden_26 ?_
      refine mj_aload_n X dX4_leastHidden_29 0 rfl ?_
      refine mj_get X inwX4_leastHidden_X4 (mx_at mx_oX4 h3) rfl 1 (by decide) rfl lnX4_leastHidden_2 rfl dX4_leastHidden_30 ?_
      refine mj_get X inwX4_leastHidden_X0 (mx_at mx_oX0 h3) rfl 3 (by decide) rfl lnX4_leastHidden_3 rfl dX4_leastHidden_33 ?_
      refine mj_iload_n X dX4_leastHidden_36 1 rfl ?_
      refine mj_aload_n X dX4_leastHidden_37 0 rfl ?_
      refine mj_get X inwX4_leastHidden_X4 (mx_at mx_oX4 h3) rfl 0 (by decide) rfl lnX4_leastHidden_0 rfl dX4_leastHidden_38 ?_
      refine mj_get X inwX4_leastHidden_X2 (mx_at mx_oX2 h3) rfl 0 (by decide) rfl lnX4_leastHidden_1 rfl dX4_leastHidden_41 ?_
      refine mj_iload_n X dX4_leastHidden_44 1 rfl ?_
      refine mj_iald X 0 (mx_at mx_a7 h3) rfl g1 dX4_leastHidden_45 ?_
      refine mj_iload_n X dX4_leastHidden_46 2 rfl ?_
      refine mj_isub X dX4_leastHidden_47 ?_
      obtain ⟨h6, eh6, hf⟩ := mm_l hf
      refine mj_iast X 0 (mx_at mx_a15 h3) rfl g1 (mx_ast mx_a15 eh6) dX4_leastHidden_48 ?_
      refine mj_aload_n X dX4_leastHidden_49 0 rfl ?_
      refine mj_get X inwX4_leastHidden_X4 (mx_at mx_oX4 h6) rfl 1 (by decide) rfl lnX4_leastHidden_2 rfl dX4_leastHidden_50 ?_
      refine mj_aload_n X dX4_leastHidden_53 0 rfl ?_
      refine mj_get X inwX4_leastHidden_X4 (mx_at mx_oX4 h6) rfl 1 (by decide) rfl lnX4_leastHidden_2 rfl dX4_leastHidden_54 ?_
      refine mj_get X inwX4_leastHidden_X0 (mx_at mx_oX0 h6) rfl 9 (by decide) rfl lnX4_leastHidden_4 rfl dX4_leastHidden_57 ?_
      obtain ⟨h7, r8, q9, hf⟩ := mm_c hf
      refine mj_callVv (As := [.int (h6 12 9)]) (rest := []) X (kX0_playFromHands l D t1 t2 cI cT cS ad N h6 (h6 12 9) h7 r8 q9) (cwV 1 X.2.2.2.2.1 gX4_leastHidden_X0_playFromHands rfl rfl rfl (by decide +kernel) ⟨Nat.le_of_ble_eq_true rfl, Nat.le_of_ble_eq_true rfl⟩) (mx_at mx_oX0 h6) rfl rfl rfl rfl (Nat.le_of_ble_eq_true rfl) ⟨Nat.zero_le _, Nat.zero_le _⟩ dX4_leastHidden_60 ?_
      refine mj_aload_n X dX4_leastHidden_63 0 rfl ?_
      obtain ⟨h10, r11, q12, hf⟩ := mm_c hf
      refine mj_callVi (As := []) (rest := []) X (kX4_unlikeSeen l D t1 t2 cI cT cS ad N h7 h10 r11 q12) (cwV 0 X.2.2.2.2.1 gX4_leastHidden_X4_unlikeSeen rfl rfl rfl (by decide +kernel) ⟨Nat.le_of_ble_eq_true rfl, Nat.le_of_ble_eq_true rfl⟩) (mx_at mx_oX4 h7) rfl rfl rfl rfl (Nat.le_of_ble_eq_true rfl) ⟨Nat.zero_le _, Nat.zero_le _⟩ dX4_leastHidden_64 ?_
      refine mj_if_ne (tgt := 72) X dX4_leastHidden_67 (by decide) (fun c13 => ?_) (fun c13 => ?_)
      · have hf := mm_f c13 hf
        refine mj_iinc (k := 2) (v := (m2 + 1)) (lo' := [(2, .int (m2 + 1)), (0, .ref (ad 28)), (1, .int p1)]) X dX4_leastHidden_72 rfl rfl (by decide) rfl ?_
        refine mj_goto (tgt := 2) X dX4_leastHidden_75 (by decide) ?_
        exact mj_sub [1, 2, 0] rfl (ih h10 (m2 + 1) hf)
      · have hf := mm_t c13 hf
        refine mj_iload_n X dX4_leastHidden_70 2 rfl ?_
        exact RET h10 _ _ _ dX4_leastHidden_71 (Option.some.inj hf)
set_option maxHeartbeats 4000000 in
set_option maxRecDepth 100000 in
theorem kX4_leastHidden (l : Launch) (D : va_G) (t1 t2 : Nat) (cI : ClassId) (cT : ClassId) (cS : ClassId) (ad : Nat → Nat)  (N : Nat) (h : mm_M) (a0 : Int32) (h1 : mm_M) (r : Int32) (hf : fX4_leastHidden N h a0 = some (h1, r)) : mm_Ki l yX4_leastHidden wsX4_leastHidden rmX4_leastHidden D (mx_ty cI cT cS) t1 t2 (mx_w cI cT cS ad) [.ref (ad 28), .int a0] h r h1 := by
  refine mm_open_i [.ref (ad 28), .int a0] h r h1 RX4 (by decide) rfl rfl (Nat.le_of_ble_eq_true rfl) ?_
  intro p e s m below meth c A X hr hlocks
  have RET : ∀ (h : mm_M) (pc : Nat) (lo : List (Nat × Value)) (v : Int32), decode cX4_leastHidden pc = .ok (.ireturn, 1) → (h, v) = (h1, r) → mm_J p l e rmX4_leastHidden s m ([.ref (ad 28), .int a0] : List Value).toArray below meth c 0 0 (MQ below (va_Qi (fun (r' : Int32) (u : mm_M) => r' = r ∧ u = h1) (mm_Post D (mx_w cI cT cS ad) A) A) ([.ref (ad 28), .int a0] : List Value).toArray s 0 0 A) D (mx_w cI cT cS ad) A 3 h pc lo [.int v] := by
    intro h2 pc lo v hd he
    cases he
    exact mj_iret X hr rfl hlocks hd
  generalize hout : (h1, r) = out at hf RET
  unfold fX4_leastHidden at hf
  refine mj_lo (lo' := [(0, .ref (ad 28)), (1, .int a0)]) rfl ?_
  refine mj_iconst (v := (0 : Int32)) X dX4_leastHidden_0 (by decide) ?_
  refine mj_istore_n (lo' := [(2, .int (0 : Int32)), (0, .ref (ad 28)), (1, .int a0)]) X dX4_leastHidden_1 (by decide) rfl ?_
  refine mj_sub [1, 2, 0] rfl (wX4_leastHidden_L2 X out RET N a0 _ (fun h14 hf => ?_) N h (0 : Int32) hf)
  refine mj_iconst (v := (-1 : Int32)) X dX4_leastHidden_78 (by decide) ?_
  exact RET h14 _ _ _ dX4_leastHidden_79 (Option.some.inj hf)
abbrev rmX5_renew : Room := { frames := 0, cells := 0, slots := 0, locals := 0 }
theorem inwX5_renew_X5 : ∀ w ∈ wsX50, w ∈ wsX5_renew := by
  intro w hw
  have h9 : wsX50 = (wsX5_renew.drop 5).take 4 := rfl
  rw [h9] at hw
  exact List.mem_of_mem_drop (List.mem_of_mem_take hw)
theorem lnX5_renew_0 : Cond.fieldLink RX5 22 "RichestPays$Sheet" "isLost" "Z" ∈ wsX5_renew := List.mem_of_getElem? (i := 1) rfl
theorem lnX5_renew_1 : Cond.fieldLink RX5 15 "RichestPays$Sheet" "form" "I" ∈ wsX5_renew := List.mem_of_getElem? (i := 2) rfl
theorem lnX5_renew_2 : Cond.fieldLink RX5 19 "RichestPays$Sheet" "size" "I" ∈ wsX5_renew := List.mem_of_getElem? (i := 3) rfl
theorem lnX5_renew_3 : Cond.fieldLink RX5 9 "RichestPays$Sheet" "items" "[I" ∈ wsX5_renew := List.mem_of_getElem? (i := 4) rfl
set_option maxHeartbeats 4000000 in
set_option maxRecDepth 100000 in
theorem wX5_renew_L17 (X : mm_X p s m args c cX5_renew RX5 wsX5_renew 4 D (mx_ty cI cT cS) t1 t2 A) (out : mm_M × Unit) (RET : ∀ (h : mm_M) (pc : Nat) (lo : List (Nat × Value)) (v : Unit), decode cX5_renew pc = .ok (.return_, 1) → (h, v) = out → mm_J p l e rmX5_renew s m args below meth c 0 0 Q D (mx_w cI cT cS ad) A 4 h pc lo []) (N : Nat) (P : Nat) (hP : mx_isX5 P)  (k : mm_M → Option (mm_M × Unit)) (HK : ∀ (h : mm_M), k h = some out → mm_J p l e rmX5_renew s m args below meth c 0 0 Q D (mx_w cI cT cS ad) A 4 h 36 [] []) : ∀ (n : Nat) (h : mm_M) (m3 : Int32), fX5_renew_L17 N P k n h m3 = some out → mm_J p l e rmX5_renew s m args below meth c 0 0 Q D (mx_w cI cT cS ad) A 4 h 17 [(0, .ref (ad P)), (3, .int m3)] [] := by
  intro n
  induction n with
  | zero =>
    intro h m3 hf
    cases hf
  | succ n ih =>
    intro h m3 hf
    rw [fX5_renew_L17] at hf
    refine mj_iload_n X dX5_renew_17 1 rfl ?_
    refine mj_bipush (v := (48 : Int32)) X dX5_renew_18 (by decide) ?_
    refine mj_icmp_ge (tgt := 36) X dX5_renew_20 (by decide) (fun c4 => ?_) (fun c4 => ?_)
    · have hf := mm_t c4 hf
      exact mj_sub [] rfl (HK h hf)
    · have hf := mm_f c4 hf
      refine mj_aload_n X dX5_renew_23 0 rfl ?_
      refine mj_get X inwX5_renew_X5 (mx_at (mx_oX5 hP) h) rfl 0 (by decide) rfl lnX5_renew_3 rfl dX5_renew_24 ?_
      refine mj_iload_n X dX5_renew_27 1 rfl ?_
      refine mj_iconst (v := (0 : Int32)) X dX5_renew_28 (by decide) ?_
      obtain ⟨g5, hf⟩ := mm_g hf
      obtain ⟨h6, eh6, hf⟩ := mm_l hf
      refine mj_iast X 0 (mx_at (mx_bX5 hP) h) rfl g5 (mx_ast (mx_bX5 hP) eh6) dX5_renew_29 ?_
      refine mj_iinc (k := 1) (v := (m3 + 1)) (lo' := [(3, .int (m3 + 1)), (0, .ref (ad P))]) X dX5_renew_30 rfl rfl (by decide) rfl ?_
      refine mj_goto (tgt := 17) X dX5_renew_33 (by decide) ?_
      exact mj_sub [1, 0] rfl (ih h6 (m3 + 1) hf)
set_option maxHeartbeats 4000000 in
set_option maxRecDepth 100000 in
theorem kX5_renew (l : Launch) (D : va_G) (t1 t2 : Nat) (cI : ClassId) (cT : ClassId) (cS : ClassId) (ad : Nat → Nat) (P : Nat) (hP : mx_isX5 P) (N : Nat) (h : mm_M) (a0 : Int32) (a1 : Int32) (h1 : mm_M) (r : Unit) (hf : fX5_renew N P h a0 a1 = some (h1, r)) : mm_Kv l yX5_renew wsX5_renew rmX5_renew D (mx_ty cI cT cS) t1 t2 (mx_w cI cT cS ad) [.ref (ad P), .int a0, .int a1] h h1 := by
  refine mm_open_v [.ref (ad P), .int a0, .int a1] h h1 RX5 (by decide) rfl rfl (Nat.le_of_ble_eq_true rfl) ?_
  intro p e s m below meth c A X hr hlocks
  have RET : ∀ (h : mm_M) (pc : Nat) (lo : List (Nat × Value)) (v : Unit), decode cX5_renew pc = .ok (.return_, 1) → (h, v) = (h1, r) → mm_J p l e rmX5_renew s m ([.ref (ad P), .int a0, .int a1] : List Value).toArray below meth c 0 0 (MQ below (va_Qv (fun (u : mm_M) => u = h1) (mm_Post D (mx_w cI cT cS ad) A) A) ([.ref (ad P), .int a0, .int a1] : List Value).toArray s 0 0 A) D (mx_w cI cT cS ad) A 4 h pc lo [] := by
    intro h2 pc lo v hd he
    cases he
    exact mj_vret X hr hlocks hd
  generalize hout : (h1, r) = out at hf RET
  unfold fX5_renew at hf
  refine mj_lo (lo' := [(0, .ref (ad P)), (1, .int a0), (2, .int a1)]) rfl ?_
  refine mj_aload_n X dX5_renew_0 0 rfl ?_
  refine mj_iconst (v := (0 : Int32)) X dX5_renew_1 (by decide) ?_
  obtain ⟨h1, eh1, hf⟩ := mm_l hf
  refine mj_put X tyX5_ok nmX5 inwX5_renew_X5 (mx_at (mx_oX5 hP) h) rfl 3 (by decide) rfl lnX5_renew_0 rfl (tyX5_ok 3 (by decide)) rfl rfl (Nat.le_of_ble_eq_true rfl) (mx_put (mx_oX5 hP) eh1 (by simp [mm_up_at, upd])) dX5_renew_2 ?_
  refine mj_aload_n X dX5_renew_5 0 rfl ?_
  refine mj_iload_n X dX5_renew_6 1 rfl ?_
  obtain ⟨h2, eh2, hf⟩ := mm_l hf
  refine mj_put X tyX5_ok nmX5 inwX5_renew_X5 (mx_at (mx_oX5 hP) h1) rfl 1 (by decide) rfl lnX5_renew_1 rfl (tyX5_ok 1 (by decide)) rfl rfl (Nat.le_of_ble_eq_true rfl) (mx_put (mx_oX5 hP) eh2 (by simp [mm_up_at, upd])) dX5_renew_7 ?_
  refine mj_aload_n X dX5_renew_10 0 rfl ?_
  refine mj_iload_n X dX5_renew_11 2 rfl ?_
  obtain ⟨h3, eh3, hf⟩ := mm_l hf
  refine mj_put X tyX5_ok nmX5 inwX5_renew_X5 (mx_at (mx_oX5 hP) h2) rfl 2 (by decide) rfl lnX5_renew_2 rfl (tyX5_ok 2 (by decide)) rfl rfl (Nat.le_of_ble_eq_true rfl) (mx_put (mx_oX5 hP) eh3 (by simp [mm_up_at, upd])) dX5_renew_12 ?_
  refine mj_iconst (v := (0 : Int32)) X dX5_renew_15 (by decide) ?_
  refine mj_istore_n (lo' := [(3, .int (0 : Int32)), (0, .ref (ad P)), (1, .int a0), (2, .int a1)]) X dX5_renew_16 (by decide) rfl ?_
  refine mj_sub [1, 0] rfl (wX5_renew_L17 X out RET N P hP _ (fun h7 hf => ?_) N h3 (0 : Int32) hf)
  exact RET h7 _ _ _ dX5_renew_36 (Option.some.inj hf)
end
