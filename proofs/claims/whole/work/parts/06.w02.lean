section
variable {p : Program} {l : Launch} {e : Env} {s : State} {m : MethodId} {args : Array Value} {below : List Frame} {meth : Method} {c : Code} {Q : State → Prop} {D : va_G} {A : Nat → Prop} {t1 t2 : Nat} {cI cT cS cZ : ClassId} {ad : Nat → Nat}
abbrev rmX1_follow : Room := { frames := 3, cells := 0, slots := 0, locals := 74 }
theorem inwX1_follow_X1 : ∀ w ∈ wsX10, w ∈ wsX1_follow := by
  intro w hw
  have h9 : wsX10 = (wsX1_follow.drop 56).take 4 := rfl
  rw [h9] at hw
  exact List.mem_of_mem_drop (List.mem_of_mem_take hw)
theorem lnX1_follow_0 : Cond.fieldLink RX1 18 "RichestPays$Partings" "people" "LRichestPays$People;" ∈ wsX1_follow := List.mem_of_getElem? (i := 1) rfl
theorem inwX1_follow_X2 : ∀ w ∈ wsX20, w ∈ wsX1_follow := by
  intro w hw
  have h9 : wsX20 = (wsX1_follow.drop 60).take 9 := rfl
  rw [h9] at hw
  exact List.mem_of_mem_drop (List.mem_of_mem_take hw)
theorem lnX1_follow_1 : Cond.fieldLink RX1 22 "RichestPays$People" "number" "I" ∈ wsX1_follow := List.mem_of_getElem? (i := 2) rfl
theorem lnX1_follow_2 : Cond.fieldLink RX1 28 "RichestPays$Partings" "WAYS" "[I" ∈ wsX1_follow := List.mem_of_getElem? (i := 3) rfl
theorem lnX1_follow_3 : Cond.fieldLink RX1 31 "RichestPays$Partings" "ways" "I" ∈ wsX1_follow := List.mem_of_getElem? (i := 4) rfl
theorem lnX1_follow_4 : Cond.fieldLink RX1 9 "RichestPays$Partings" "hands" "[I" ∈ wsX1_follow := List.mem_of_getElem? (i := 5) rfl
theorem lnX1_follow_5 : Cond.fieldLink RX1 15 "RichestPays$Partings" "states" "[I" ∈ wsX1_follow := List.mem_of_getElem? (i := 6) rfl
set_option maxHeartbeats 4000000 in
set_option maxRecDepth 100000 in
theorem wX1_follow_L85 (X : mm_X p s m args c cX1_follow RX1 wsX1_follow 4 D (mx_ty cI cT cS) t1 t2 A) (out : mm_M × Unit) (RET : ∀ (h : mm_M) (pc : Nat) (lo : List (Nat × Value)) (v : Unit), decode cX1_follow pc = .ok (.return_, 1) → (h, v) = out → mm_J p l e rmX1_follow s m args below meth c 0 0 Q D (mx_w cI cT cS ad) A 4 h pc lo []) (N : Nat)  (p1 : Int32) (p2 : Int32) (k : mm_M → Option (mm_M × Unit)) (HK : ∀ (h : mm_M), k h = some out → mm_J p l e rmX1_follow s m args below meth c 0 0 Q D (mx_w cI cT cS ad) A 4 h 133 [(0, .ref (ad 25)), (1, .int p1), (2, .int p2)] []) : ∀ (n : Nat) (h : mm_M) (m3 : Int32), fX1_follow_L85 N p1 p2 k n h m3 = some out → mm_J p l e rmX1_follow s m args below meth c 0 0 Q D (mx_w cI cT cS ad) A 4 h 85 [(0, .ref (ad 25)), (1, .int p1), (2, .int p2), (3, .int m3)] [] := by
  intro n
  induction n with
  | zero =>
    intro h m3 hf
    cases hf
  | succ n ih =>
    intro h m3 hf
    rw [fX1_follow_L85] at hf
    refine mj_iload_n X dX1_follow_85 3 rfl ?_
    refine mj_aload_n X dX1_follow_86 0 rfl ?_
    refine mj_get X inwX1_follow_X1 (mx_at mx_oX1 h) rfl 3 (by decide) rfl lnX1_follow_3 rfl dX1_follow_87 ?_
    refine mj_icmp_ge (tgt := 133) X dX1_follow_90 (by decide) (fun c14 => ?_) (fun c14 => ?_)
    · have hf := mm_t c14 hf
      exact mj_sub [0, 1, 2] rfl (HK h hf)
    · have hf := mm_f c14 hf
      refine mj_aload_n X dX1_follow_93 0 rfl ?_
      refine mj_aload_n X dX1_follow_94 0 rfl ?_
      refine mj_get X inwX1_follow_X1 (mx_at mx_oX1 h) rfl 2 (by decide) rfl lnX1_follow_5 rfl dX1_follow_95 ?_
      refine mj_iload_n X dX1_follow_98 2 rfl ?_
      obtain ⟨g15, hf⟩ := mm_g hf
      refine mj_iald X 0 (mx_at mx_a27 h) rfl g15 dX1_follow_99 ?_
      obtain ⟨h16, r17, q18, hf⟩ := mm_c hf
      refine mj_callVv (As := [.int (h 27 p2.toNatClampNeg)]) (rest := []) X (kX1_unpack l D t1 t2 cI cT cS ad N h (h 27 p2.toNatClampNeg) h16 r17 q18) (cwV 1 X.2.2.2.2.1 gX1_follow_X1_unpack rfl rfl rfl (by decide +kernel) ⟨Nat.le_of_ble_eq_true rfl, Nat.le_of_ble_eq_true rfl⟩) (mx_at mx_oX1 h) rfl rfl rfl rfl (Nat.le_of_ble_eq_true rfl) ⟨Nat.zero_le _, Nat.zero_le _⟩ dX1_follow_100 ?_
      refine mj_aload_n X dX1_follow_103 0 rfl ?_
      refine mj_iload_n X dX1_follow_104 3 rfl ?_
      obtain ⟨h19, r20, q21, hf⟩ := mm_c hf
      refine mj_callVv (As := [.int m3]) (rest := []) X (kX1_pay l D t1 t2 cI cT cS ad N h16 m3 h19 r20 q21) (cwV 1 X.2.2.2.2.1 gX1_follow_X1_pay rfl rfl rfl (by decide +kernel) ⟨Nat.le_of_ble_eq_true rfl, Nat.le_of_ble_eq_true rfl⟩) (mx_at mx_oX1 h16) rfl rfl rfl rfl (Nat.le_of_ble_eq_true rfl) ⟨Nat.zero_le _, Nat.zero_le _⟩ dX1_follow_105 ?_
      refine mj_aload_n X dX1_follow_108 0 rfl ?_
      refine mj_get X inwX1_follow_X1 (mx_at mx_oX1 h19) rfl 2 (by decide) rfl lnX1_follow_5 rfl dX1_follow_109 ?_
      refine mj_iload_n X dX1_follow_112 2 rfl ?_
      refine mj_aload_n X dX1_follow_113 0 rfl ?_
      refine mj_get X inwX1_follow_X1 (mx_at mx_oX1 h19) rfl 3 (by decide) rfl lnX1_follow_3 rfl dX1_follow_114 ?_
      refine mj_imul X dX1_follow_117 ?_
      refine mj_iconst (v := (1 : Int32)) X dX1_follow_118 (by decide) ?_
      refine mj_iadd X dX1_follow_119 ?_
      refine mj_iload_n X dX1_follow_120 3 rfl ?_
      refine mj_iadd X dX1_follow_121 ?_
      refine mj_aload_n X dX1_follow_122 0 rfl ?_
      obtain ⟨h22, r23, q24, hf⟩ := mm_c hf
      refine mj_callVi (As := []) (rest := [.int (((p2 * (h19 25 3)) + (1 : Int32)) + m3), .ref (ad 27)]) X (kX1_packed l D t1 t2 cI cT cS ad N h19 h22 r23 q24) (cwV 0 X.2.2.2.2.1 gX1_follow_X1_packed rfl rfl rfl (by decide +kernel) ⟨Nat.le_of_ble_eq_true rfl, Nat.le_of_ble_eq_true rfl⟩) (mx_at mx_oX1 h19) rfl rfl rfl rfl (Nat.le_of_ble_eq_true rfl) ⟨Nat.zero_le _, Nat.zero_le _⟩ dX1_follow_123 ?_
      obtain ⟨g25, hf⟩ := mm_g hf
      obtain ⟨h26, eh26, hf⟩ := mm_l hf
      refine mj_iast X 0 (mx_at mx_a27 h22) rfl g25 (mx_ast mx_a27 eh26) dX1_follow_126 ?_
      refine mj_iinc (k := 3) (v := (m3 + 1)) (lo' := [(3, .int (m3 + 1)), (0, .ref (ad 25)), (1, .int p1), (2, .int p2)]) X dX1_follow_127 rfl rfl (by decide) rfl ?_
      refine mj_goto (tgt := 85) X dX1_follow_130 (by decide) ?_
      exact mj_sub [1, 2, 3, 0] rfl (ih h26 (m3 + 1) hf)
set_option maxHeartbeats 4000000 in
set_option maxRecDepth 100000 in
theorem wX1_follow_L78 (X : mm_X p s m args c cX1_follow RX1 wsX1_follow 4 D (mx_ty cI cT cS) t1 t2 A) (out : mm_M × Unit) (RET : ∀ (h : mm_M) (pc : Nat) (lo : List (Nat × Value)) (v : Unit), decode cX1_follow pc = .ok (.return_, 1) → (h, v) = out → mm_J p l e rmX1_follow s m args below meth c 0 0 Q D (mx_w cI cT cS ad) A 4 h pc lo []) (N : Nat)  (p1 : Int32) (k : mm_M → Option (mm_M × Unit)) (HK : ∀ (h : mm_M), k h = some out → mm_J p l e rmX1_follow s m args below meth c 0 0 Q D (mx_w cI cT cS ad) A 4 h 139 [] []) : ∀ (n : Nat) (h : mm_M) (m2 : Int32), fX1_follow_L78 N p1 k n h m2 = some out → mm_J p l e rmX1_follow s m args below meth c 0 0 Q D (mx_w cI cT cS ad) A 4 h 78 [(0, .ref (ad 25)), (1, .int p1), (2, .int m2)] [] := by
  intro n
  induction n with
  | zero =>
    intro h m2 hf
    cases hf
  | succ n ih =>
    intro h m2 hf
    rw [fX1_follow_L78] at hf
    refine mj_iload_n X dX1_follow_78 2 rfl ?_
    refine mj_iload_n X dX1_follow_79 1 rfl ?_
    refine mj_icmp_ge (tgt := 139) X dX1_follow_80 (by decide) (fun c13 => ?_) (fun c13 => ?_)
    · have hf := mm_t c13 hf
      exact mj_sub [] rfl (HK h hf)
    · have hf := mm_f c13 hf
      refine mj_iconst (v := (0 : Int32)) X dX1_follow_83 (by decide) ?_
      refine mj_istore_n (lo' := [(3, .int (0 : Int32)), (0, .ref (ad 25)), (1, .int p1), (2, .int m2)]) X dX1_follow_84 (by decide) rfl ?_
      refine mj_sub [1, 2, 3, 0] rfl (wX1_follow_L85 X out RET N p1 m2 _ (fun h27 hf => ?_) N h (0 : Int32) hf)
      refine mj_iinc (k := 2) (v := (m2 + 1)) (lo' := [(2, .int (m2 + 1)), (0, .ref (ad 25)), (1, .int p1)]) X dX1_follow_133 rfl rfl (by decide) rfl ?_
      refine mj_goto (tgt := 78) X dX1_follow_136 (by decide) ?_
      exact mj_sub [1, 2, 0] rfl (ih h27 (m2 + 1) hf)
set_option maxHeartbeats 4000000 in
set_option maxRecDepth 100000 in
theorem kX1_follow (l : Launch) (D : va_G) (t1 t2 : Nat) (cI : ClassId) (cT : ClassId) (cS : ClassId) (ad : Nat → Nat)  (N : Nat) (h : mm_M)  (h1 : mm_M) (r : Unit) (hf : fX1_follow N h = some (h1, r)) : mm_Kv l yX1_follow wsX1_follow rmX1_follow D (mx_ty cI cT cS) t1 t2 (mx_w cI cT cS ad) [.ref (ad 25)] h h1 := by
  refine mm_open_v [.ref (ad 25)] h h1 RX1 (by decide) rfl rfl (Nat.le_of_ble_eq_true rfl) ?_
  intro p e s m below meth c A X hr hlocks
  have RET : ∀ (h : mm_M) (pc : Nat) (lo : List (Nat × Value)) (v : Unit), decode cX1_follow pc = .ok (.return_, 1) → (h, v) = (h1, r) → mm_J p l e rmX1_follow s m ([.ref (ad 25)] : List Value).toArray below meth c 0 0 (MQ below (va_Qv (fun (u : mm_M) => u = h1) (mm_Post D (mx_w cI cT cS ad) A) A) ([.ref (ad 25)] : List Value).toArray s 0 0 A) D (mx_w cI cT cS ad) A 4 h pc lo [] := by
    intro h2 pc lo v hd he
    cases he
    exact mj_vret X hr hlocks hd
  generalize hout : (h1, r) = out at hf RET
  unfold fX1_follow at hf
  refine mj_lo (lo' := [(0, .ref (ad 25))]) rfl ?_
  refine mj_aload_n X dX1_follow_0 0 rfl ?_
  refine mj_aload_n X dX1_follow_1 0 rfl ?_
  refine mj_get X inwX1_follow_X1 (mx_at mx_oX1 h) rfl 0 (by decide) rfl lnX1_follow_0 rfl dX1_follow_2 ?_
  refine mj_get X inwX1_follow_X2 (mx_at mx_oX2 h) rfl 5 (by decide) rfl lnX1_follow_1 rfl dX1_follow_5 ?_
  refine mj_iconst (v := (4 : Int32)) X dX1_follow_8 (by decide) ?_
  refine mj_icmp_le (tgt := 16) X dX1_follow_9 (by decide) (fun c1 => ?_) (fun c1 => ?_)
  · have hf := mm_t c1 hf
    refine mj_gets1 X lnX1_follow_2 dX1_follow_16 ?_
    refine mj_aload_n X dX1_follow_19 0 rfl ?_
    refine mj_get X inwX1_follow_X1 (mx_at mx_oX1 h) rfl 0 (by decide) rfl lnX1_follow_0 rfl dX1_follow_20 ?_
    refine mj_get X inwX1_follow_X2 (mx_at mx_oX2 h) rfl 5 (by decide) rfl lnX1_follow_1 rfl dX1_follow_23 ?_
    obtain ⟨g2, hf⟩ := mm_g hf
    refine mj_ti1 X g2 dX1_follow_26 ?_
    obtain ⟨h3, eh3, hf⟩ := mm_l hf
    refine mj_put X tyX1_ok nmX1 inwX1_follow_X1 (mx_at mx_oX1 h) rfl 3 (by decide) rfl lnX1_follow_3 rfl (tyX1_ok 3 (by decide)) rfl rfl (Nat.le_of_ble_eq_true rfl) (mx_put mx_oX1 eh3 (by simp [mm_up_at, upd])) dX1_follow_27 ?_
    refine mj_aload_n X dX1_follow_30 0 rfl ?_
    refine mj_get X inwX1_follow_X1 (mx_at mx_oX1 h3) rfl 3 (by decide) rfl lnX1_follow_3 rfl dX1_follow_31 ?_
    refine mj_if_ne (tgt := 38) X dX1_follow_34 (by decide) (fun c4 => ?_) (fun c4 => ?_)
    · have hf := mm_f c4 hf
      refine mj_aload_n X dX1_follow_38 0 rfl ?_
      refine mj_get X inwX1_follow_X1 (mx_at mx_oX1 h3) rfl 0 (by decide) rfl lnX1_follow_0 rfl dX1_follow_39 ?_
      refine mj_aload_n X dX1_follow_42 0 rfl ?_
      refine mj_get X inwX1_follow_X1 (mx_at mx_oX1 h3) rfl 1 (by decide) rfl lnX1_follow_4 rfl dX1_follow_43 ?_
      obtain ⟨h5, r6, q7, hf⟩ := mm_c hf
      refine mj_callVv (As := [.ref (ad 26)]) (rest := []) X (kX2_tellHandsAtFirst l D t1 t2 cI cT cS ad 26 mx_a26 N h3 h5 r6 q7) (cwV 1 X.2.2.2.2.1 gX1_follow_X2_tellHandsAtFirst rfl rfl rfl (by decide +kernel) ⟨Nat.le_of_ble_eq_true rfl, Nat.le_of_ble_eq_true rfl⟩) (mx_at mx_oX2 h3) rfl rfl rfl rfl (Nat.le_of_ble_eq_true rfl) ⟨Nat.zero_le _, Nat.zero_le _⟩ dX1_follow_46 ?_
      refine mj_aload_n X dX1_follow_49 0 rfl ?_
      refine mj_get X inwX1_follow_X1 (mx_at mx_oX1 h5) rfl 2 (by decide) rfl lnX1_follow_5 rfl dX1_follow_50 ?_
      refine mj_iconst (v := (0 : Int32)) X dX1_follow_53 (by decide) ?_
      refine mj_aload_n X dX1_follow_54 0 rfl ?_
      obtain ⟨h8, r9, q10, hf⟩ := mm_c hf
      refine mj_callVi (As := []) (rest := [.int (0 : Int32), .ref (ad 27)]) X (kX1_packed l D t1 t2 cI cT cS ad N h5 h8 r9 q10) (cwV 0 X.2.2.2.2.1 gX1_follow_X1_packed rfl rfl rfl (by decide +kernel) ⟨Nat.le_of_ble_eq_true rfl, Nat.le_of_ble_eq_true rfl⟩) (mx_at mx_oX1 h5) rfl rfl rfl rfl (Nat.le_of_ble_eq_true rfl) ⟨Nat.zero_le _, Nat.zero_le _⟩ dX1_follow_55 ?_
      obtain ⟨h11, eh11, hf⟩ := mm_l hf
      refine mj_iast X 0 (mx_at mx_a27 h8) rfl (by decide) (mx_ast mx_a27 eh11) dX1_follow_58 ?_
      refine mj_iconst (v := (1 : Int32)) X dX1_follow_59 (by decide) ?_
      refine mj_aload_n X dX1_follow_60 0 rfl ?_
      refine mj_get X inwX1_follow_X1 (mx_at mx_oX1 h11) rfl 3 (by decide) rfl lnX1_follow_3 rfl dX1_follow_61 ?_
      refine mj_iadd X dX1_follow_64 ?_
      refine mj_aload_n X dX1_follow_65 0 rfl ?_
      refine mj_get X inwX1_follow_X1 (mx_at mx_oX1 h11) rfl 3 (by decide) rfl lnX1_follow_3 rfl dX1_follow_66 ?_
      refine mj_aload_n X dX1_follow_69 0 rfl ?_
      refine mj_get X inwX1_follow_X1 (mx_at mx_oX1 h11) rfl 3 (by decide) rfl lnX1_follow_3 rfl dX1_follow_70 ?_
      refine mj_imul X dX1_follow_73 ?_
      refine mj_iadd X dX1_follow_74 ?_
      obtain ⟨x12, ex12, hf⟩ := mm_l hf
      refine mj_topi ex12 ?_
      refine mj_istore_n (lo' := [(1, .int x12), (0, .ref (ad 25))]) X dX1_follow_75 (by decide) rfl ?_
      refine mj_iconst (v := (0 : Int32)) X dX1_follow_76 (by decide) ?_
      refine mj_istore_n (lo' := [(2, .int (0 : Int32)), (1, .int x12), (0, .ref (ad 25))]) X dX1_follow_77 (by decide) rfl ?_
      refine mj_sub [2, 1, 0] rfl (wX1_follow_L78 X out RET N x12 _ (fun h28 hf => ?_) N h11 (0 : Int32) hf)
      exact RET h28 _ _ _ dX1_follow_139 (Option.some.inj hf)
    · have hf := mm_t c4 hf
      exact RET h3 _ _ _ dX1_follow_37 (Option.some.inj hf)
  · have hf := mm_f c1 hf
    refine mj_iconst (v := (0 : Int32)) X dX1_follow_12 (by decide) ?_
    refine mj_goto (tgt := 27) X dX1_follow_13 (by decide) ?_
    obtain ⟨h29, eh29, hf⟩ := mm_l hf
    refine mj_put X tyX1_ok nmX1 inwX1_follow_X1 (mx_at mx_oX1 h) rfl 3 (by decide) rfl lnX1_follow_3 rfl (tyX1_ok 3 (by decide)) rfl rfl (Nat.le_of_ble_eq_true rfl) (mx_put mx_oX1 eh29 (by simp [mm_up_at, upd])) dX1_follow_27 ?_
    refine mj_aload_n X dX1_follow_30 0 rfl ?_
    refine mj_get X inwX1_follow_X1 (mx_at mx_oX1 h29) rfl 3 (by decide) rfl lnX1_follow_3 rfl dX1_follow_31 ?_
    refine mj_if_ne (tgt := 38) X dX1_follow_34 (by decide) (fun c30 => ?_) (fun c30 => ?_)
    · have hf := mm_f c30 hf
      refine mj_aload_n X dX1_follow_38 0 rfl ?_
      refine mj_get X inwX1_follow_X1 (mx_at mx_oX1 h29) rfl 0 (by decide) rfl lnX1_follow_0 rfl dX1_follow_39 ?_
      refine mj_aload_n X dX1_follow_42 0 rfl ?_
      refine mj_get X inwX1_follow_X1 (mx_at mx_oX1 h29) rfl 1 (by decide) rfl lnX1_follow_4 rfl dX1_follow_43 ?_
      obtain ⟨h31, r32, q33, hf⟩ := mm_c hf
      refine mj_callVv (As := [.ref (ad 26)]) (rest := []) X (kX2_tellHandsAtFirst l D t1 t2 cI cT cS ad 26 mx_a26 N h29 h31 r32 q33) (cwV 1 X.2.2.2.2.1 gX1_follow_X2_tellHandsAtFirst rfl rfl rfl (by decide +kernel) ⟨Nat.le_of_ble_eq_true rfl, Nat.le_of_ble_eq_true rfl⟩) (mx_at mx_oX2 h29) rfl rfl rfl rfl (Nat.le_of_ble_eq_true rfl) ⟨Nat.zero_le _, Nat.zero_le _⟩ dX1_follow_46 ?_
      refine mj_aload_n X dX1_follow_49 0 rfl ?_
      refine mj_get X inwX1_follow_X1 (mx_at mx_oX1 h31) rfl 2 (by decide) rfl lnX1_follow_5 rfl dX1_follow_50 ?_
      refine mj_iconst (v := (0 : Int32)) X dX1_follow_53 (by decide) ?_
      refine mj_aload_n X dX1_follow_54 0 rfl ?_
      obtain ⟨h34, r35, q36, hf⟩ := mm_c hf
      refine mj_callVi (As := []) (rest := [.int (0 : Int32), .ref (ad 27)]) X (kX1_packed l D t1 t2 cI cT cS ad N h31 h34 r35 q36) (cwV 0 X.2.2.2.2.1 gX1_follow_X1_packed rfl rfl rfl (by decide +kernel) ⟨Nat.le_of_ble_eq_true rfl, Nat.le_of_ble_eq_true rfl⟩) (mx_at mx_oX1 h31) rfl rfl rfl rfl (Nat.le_of_ble_eq_true rfl) ⟨Nat.zero_le _, Nat.zero_le _⟩ dX1_follow_55 ?_
      obtain ⟨h37, eh37, hf⟩ := mm_l hf
      refine mj_iast X 0 (mx_at mx_a27 h34) rfl (by decide) (mx_ast mx_a27 eh37) dX1_follow_58 ?_
      refine mj_iconst (v := (1 : Int32)) X dX1_follow_59 (by decide) ?_
      refine mj_aload_n X dX1_follow_60 0 rfl ?_
      refine mj_get X inwX1_follow_X1 (mx_at mx_oX1 h37) rfl 3 (by decide) rfl lnX1_follow_3 rfl dX1_follow_61 ?_
      refine mj_iadd X dX1_follow_64 ?_
      refine mj_aload_n X dX1_follow_65 0 rfl ?_
      refine mj_get X inwX1_follow_X1 (mx_at mx_oX1 h37) rfl 3 (by decide) rfl lnX1_follow_3 rfl dX1_follow_66 ?_
      refine mj_aload_n X dX1_follow_69 0 rfl ?_
      refine mj_get X inwX1_follow_X1 (mx_at mx_oX1 h37) rfl 3 (by decide) rfl lnX1_follow_3 rfl dX1_follow_70 ?_
      refine mj_imul X dX1_follow_73 ?_
      refine mj_iadd X dX1_follow_74 ?_
      obtain ⟨x38, ex38, hf⟩ := mm_l hf
      refine mj_topi ex38 ?_
      refine mj_istore_n (lo' := [(1, .int x38), (0, .ref (ad 25))]) X dX1_follow_75 (by decide) rfl ?_
      refine mj_iconst (v := (0 : Int32)) X dX1_follow_76 (by decide) ?_
      refine mj_istore_n (lo' := [(2, .int (0 : Int32)), (1, .int x38), (0, .ref (ad 25))]) X dX1_follow_77 (by decide) rfl ?_
      refine mj_sub [2, 1, 0] rfl (wX1_follow_L78 X out RET N x38 _ (fun h39 hf => ?_) N h37 (0 : Int32) hf)
      exact RET h39 _ _ _ dX1_follow_139 (Option.some.inj hf)
    · have hf := mm_t c30 hf
      exact RET h29 _ _ _ dX1_follow_37 (Option.some.inj hf)
abbrev rmX1_areAlike : Room := { frames := 1, cells := 0, slots := 0, locals := 21 }
theorem inwX1_areAlike_X1 : ∀ w ∈ wsX10, w ∈ wsX1_areAlike := by
  intro w hw
  have h9 : wsX10 = (wsX1_areAlike.drop 7).take 4 := rfl
  rw [h9] at hw
  exact List.mem_of_mem_drop (List.mem_of_mem_take hw)
theorem lnX1_areAlike_0 : Cond.fieldLink RX1 18 "RichestPays$Partings" "people" "LRichestPays$People;" ∈ wsX1_areAlike := List.mem_of_getElem? (i := 1) rfl
theorem inwX1_areAlike_X2 : ∀ w ∈ wsX20, w ∈ wsX1_areAlike := by
  intro w hw
  have h9 : wsX20 = (wsX1_areAlike.drop 11).take 9 := rfl
  rw [h9] at hw
  exact List.mem_of_mem_drop (List.mem_of_mem_take hw)
theorem lnX1_areAlike_1 : Cond.fieldLink RX1 22 "RichestPays$People" "number" "I" ∈ wsX1_areAlike := List.mem_of_getElem? (i := 2) rfl
set_option maxHeartbeats 4000000 in
set_option maxRecDepth 100000 in
theorem wX1_areAlike_L2 (X : mm_X p s m args c cX1_areAlike RX1 wsX1_areAlike 3 D (mx_ty cI cT cS) t1 t2 A) (out : mm_M × Int32) (RET : ∀ (h : mm_M) (pc : Nat) (lo : List (Nat × Value)) (v : Int32), decode cX1_areAlike pc = .ok (.ireturn, 1) → (v = 0 ∨ v = 1) → (h, v) = out → mm_J p l e rmX1_areAlike s m args below meth c 0 0 Q D (mx_w cI cT cS ad) A 3 h pc lo [.int v]) (N : Nat)  (p1 : Int32) (k : mm_M → Option (mm_M × Int32)) (HK : ∀ (h : mm_M), k h = some out → mm_J p l e rmX1_areAlike s m args below meth c 0 0 Q D (mx_w cI cT cS ad) A 3 h 34 [] []) : ∀ (n : Nat) (h : mm_M) (m2 : Int32), fX1_areAlike_L2 N p1 k n h m2 = some out → mm_J p l e rmX1_areAlike s m args below meth c 0 0 Q D (mx_w cI cT cS ad) A 3 h 2 [(0, .ref (ad 25)), (1, .int p1), (2, .int m2)] [] := by
  intro n
  induction n with
  | zero =>
    intro h m2 hf
    cases hf
  | succ n ih =>
    intro h m2 hf
    rw [fX1_areAlike_L2] at hf
    refine mj_iload_n X dX1_areAlike_2 2 rfl ?_
    refine mj_aload_n X dX1_areAlike_3 0 rfl ?_
    refine mj_get X inwX1_areAlike_X1 (mx_at mx_oX1 h) rfl 0 (by decide) rfl lnX1_areAlike_0 rfl dX1_areAlike_4 ?_
    refine mj_get X inwX1_areAlike_X2 (mx_at mx_oX2 h) rfl 5 (by decide) rfl lnX1_areAlike_1 rfl dX1_areAlike_7 ?_
    refine mj_icmp_ge (tgt := 34) X dX1_areAlike_10 (by decide) (fun c1 => ?_) (fun c1 => ?_)
    · have hf := mm_t c1 hf
      exact mj_sub [] rfl (HK h hf)
    · have hf := mm_f c1 hf
      refine mj_iload_n X dX1_areAlike_13 1 rfl ?_
      refine mj_iload_n X dX1_areAlike_14 2 rfl ?_
      obtain ⟨h2, r3, q4, hf⟩ := mm_c hf
      refine mj_callSi (As := [.int p1, .int m2]) (rest := []) X (kX1_handIn l D t1 t2 cI cT cS ad N h p1 m2 h2 r3 q4) (va_cwS 2 X.2.2.2.2.1 gX1_areAlike_X1_handIn rfl rfl rfl (by decide +kernel) ⟨Nat.le_of_ble_eq_true rfl, Nat.le_of_ble_eq_true rfl⟩) rfl rfl (Nat.le_of_ble_eq_true rfl) ⟨Nat.zero_le _, Nat.zero_le _⟩ dX1_areAlike_15 ?_
      refine mj_iload_n X dX1_areAlike_18 1 rfl ?_
      refine mj_iconst (v := (0 : Int32)) X dX1_areAlike_19 (by decide) ?_
      obtain ⟨h5, r6, q7, hf⟩ := mm_c hf
      refine mj_callSi (As := [.int p1, .int (0 : Int32)]) (rest := [.int r3]) X (kX1_handIn l D t1 t2 cI cT cS ad N h2 p1 (0 : Int32) h5 r6 q7) (va_cwS 2 X.2.2.2.2.1 gX1_areAlike_X1_handIn rfl rfl rfl (by decide +kernel) ⟨Nat.le_of_ble_eq_true rfl, Nat.le_of_ble_eq_true rfl⟩) rfl rfl (Nat.le_of_ble_eq_true rfl) ⟨Nat.zero_le _, Nat.zero_le _⟩ dX1_areAlike_20 ?_
      refine mj_icmp_eq (tgt := 28) X dX1_areAlike_23 (by decide) (fun c8 => ?_) (fun c8 => ?_)
      · have hf := mm_t c8 hf
        refine mj_iinc (k := 2) (v := (m2 + 1)) (lo' := [(2, .int (m2 + 1)), (0, .ref (ad 25)), (1, .int p1)]) X dX1_areAlike_28 rfl rfl (by decide) rfl ?_
        refine mj_goto (tgt := 2) X dX1_areAlike_31 (by decide) ?_
        exact mj_sub [1, 2, 0] rfl (ih h5 (m2 + 1) hf)
      · have hf := mm_f c8 hf
        refine mj_iconst (v := (0 : Int32)) X dX1_areAlike_26 (by decide) ?_
        exact RET h5 _ _ _ dX1_areAlike_27 (by decide) (Option.some.inj hf)
set_option maxHeartbeats 4000000 in
set_option maxRecDepth 100000 in
theorem kX1_areAlike (l : Launch) (D : va_G) (t1 t2 : Nat) (cI : ClassId) (cT : ClassId) (cS : ClassId) (ad : Nat → Nat)  (N : Nat) (h : mm_M) (a0 : Int32) (h1 : mm_M) (r : Int32) (hf : fX1_areAlike N h a0 = some (h1, r)) : mm_Ki l yX1_areAlike wsX1_areAlike rmX1_areAlike D (mx_ty cI cT cS) t1 t2 (mx_w cI cT cS ad) [.ref (ad 25), .int a0] h r h1 := by
  refine mm_open_i [.ref (ad 25), .int a0] h r h1 RX1 (by decide) rfl rfl (Nat.le_of_ble_eq_true rfl) ?_
  intro p e s m below meth c A X hr hlocks
  have RET : ∀ (h : mm_M) (pc : Nat) (lo : List (Nat × Value)) (v : Int32), decode cX1_areAlike pc = .ok (.ireturn, 1) → (v = 0 ∨ v = 1) → (h, v) = (h1, r) → mm_J p l e rmX1_areAlike s m ([.ref (ad 25), .int a0] : List Value).toArray below meth c 0 0 (MQ below (va_Qi (fun (r' : Int32) (u : mm_M) => r' = r ∧ u = h1) (mm_Post D (mx_w cI cT cS ad) A) A) ([.ref (ad 25), .int a0] : List Value).toArray s 0 0 A) D (mx_w cI cT cS ad) A 3 h pc lo [.int v] := by
    intro h2 pc lo v hd hz he
    cases he
    exact mj_iret X hr (mm_nz hz) hlocks hd
  generalize hout : (h1, r) = out at hf RET
  unfold fX1_areAlike at hf
  refine mj_lo (lo' := [(0, .ref (ad 25)), (1, .int a0)]) rfl ?_
  refine mj_iconst (v := (1 : Int32)) X dX1_areAlike_0 (by decide) ?_
  refine mj_istore_n (lo' := [(2, .int (1 : Int32)), (0, .ref (ad 25)), (1, .int a0)]) X dX1_areAlike_1 (by decide) rfl ?_
  refine mj_sub [1, 2, 0] rfl (wX1_areAlike_L2 X out RET N a0 _ (fun h9 hf => ?_) N h (1 : Int32) hf)
  refine mj_iconst (v := (1 : Int32)) X dX1_areAlike_34 (by decide) ?_
  exact RET h9 _ _ _ dX1_areAlike_35 (by decide) (Option.some.inj hf)
abbrev rmX1_fewest : Room := { frames := 2, cells := 0, slots := 0, locals := 43 }
theorem inwX1_fewest_X1 : ∀ w ∈ wsX10, w ∈ wsX1_fewest := by
  intro w hw
  have h9 : wsX10 = (wsX1_fewest.drop 13).take 4 := rfl
  rw [h9] at hw
  exact List.mem_of_mem_drop (List.mem_of_mem_take hw)
theorem lnX1_fewest_0 : Cond.fieldLink RX1 31 "RichestPays$Partings" "ways" "I" ∈ wsX1_fewest := List.mem_of_getElem? (i := 1) rfl
theorem lnX1_fewest_1 : Cond.fieldLink RX1 15 "RichestPays$Partings" "states" "[I" ∈ wsX1_fewest := List.mem_of_getElem? (i := 2) rfl
set_option maxHeartbeats 4000000 in
set_option maxRecDepth 100000 in
theorem wX1_fewest_L27 (X : mm_X p s m args c cX1_fewest RX1 wsX1_fewest 7 D (mx_ty cI cT cS) t1 t2 A) (out : mm_M × Int32) (RET : ∀ (h : mm_M) (pc : Nat) (lo : List (Nat × Value)) (v : Int32), decode cX1_fewest pc = .ok (.ireturn, 1) → (h, v) = out → mm_J p l e rmX1_fewest s m args below meth c 0 0 Q D (mx_w cI cT cS ad) A 7 h pc lo [.int v]) (N : Nat)  (p1 : Int32) (p2 : Int32) (p3 : Int32) (p4 : Int32) (p5 : Int32) (k : mm_M → Option (mm_M × Int32)) (HK : ∀ (h : mm_M), k h = some out → mm_J p l e rmX1_fewest s m args below meth c 0 0 Q D (mx_w cI cT cS ad) A 7 h 82 [(0, .ref (ad 25)), (1, .int p1), (2, .int p2), (3, .int p3), (4, .int p4), (5, .int p5)] []) : ∀ (n : Nat) (h : mm_M) (m6 : Int32), fX1_fewest_L27 N p1 p2 p3 p4 p5 k n h m6 = some out → mm_J p l e rmX1_fewest s m args below meth c 0 0 Q D (mx_w cI cT cS ad) A 7 h 27 [(0, .ref (ad 25)), (1, .int p1), (2, .int p2), (3, .int p3), (4, .int p4), (5, .int p5), (6, .int m6)] [] := by
  intro n
  induction n with
  | zero =>
    intro h m6 hf
    cases hf
  | succ n ih =>
    intro h m6 hf
    rw [fX1_fewest_L27] at hf
    refine mj_iload X dX1_fewest_27 6 rfl ?_
    refine mj_iload_n X dX1_fewest_29 3 rfl ?_
    refine mj_iload X dX1_fewest_30 4 rfl ?_
    refine mj_iadd X dX1_fewest_32 ?_
    refine mj_icmp_ge (tgt := 82) X dX1_fewest_33 (by decide) (fun c3 => ?_) (fun c3 => ?_)
    · have hf := mm_t c3 hf
      exact mj_sub [0, 1, 2, 3, 4, 5] rfl (HK h hf)
    · have hf := mm_f c3 hf
      refine mj_iload_n X dX1_fewest_36 1 rfl ?_
      refine mj_iconst (v := (-1 : Int32)) X dX1_fewest_37 (by decide) ?_
      refine mj_icmp_ne (tgt := 58) X dX1_fewest_38 (by decide) (fun c4 => ?_) (fun c4 => ?_)
      · have hf := mm_f c4 hf
        refine mj_aload_n X dX1_fewest_58 0 rfl ?_
        refine mj_get X inwX1_fewest_X1 (mx_at mx_oX1 h) rfl 2 (by decide) rfl lnX1_fewest_1 rfl dX1_fewest_59 ?_
        refine mj_iload X dX1_fewest_62 6 rfl ?_
        obtain ⟨g5, hf⟩ := mm_g hf
        refine mj_iald X 0 (mx_at mx_a27 h) rfl g5 dX1_fewest_64 ?_
        refine mj_iload_n X dX1_fewest_65 1 rfl ?_
        obtain ⟨h6, r7, q8, hf⟩ := mm_c hf
        refine mj_callSi (As := [.int (h 27 m6.toNatClampNeg), .int p1]) (rest := []) X (kX1_handIn l D t1 t2 cI cT cS ad N h (h 27 m6.toNatClampNeg) p1 h6 r7 q8) (va_cwS 2 X.2.2.2.2.1 gX1_fewest_X1_handIn rfl rfl rfl (by decide +kernel) ⟨Nat.le_of_ble_eq_true rfl, Nat.le_of_ble_eq_true rfl⟩) rfl rfl (Nat.le_of_ble_eq_true rfl) ⟨Nat.zero_le _, Nat.zero_le _⟩ dX1_fewest_66 ?_
        refine mj_iload_n X dX1_fewest_69 2 rfl ?_
        refine mj_icmp_ne (tgt := 76) X dX1_fewest_70 (by decide) (fun c9 => ?_) (fun c9 => ?_)
        · have hf := mm_f c9 hf
          refine mj_iinc (k := 6) (v := (m6 + 1)) (lo' := [(6, .int (m6 + 1)), (0, .ref (ad 25)), (1, .int p1), (2, .int p2), (3, .int p3), (4, .int p4), (5, .int p5)]) X dX1_fewest_76 rfl rfl (by decide) rfl ?_
          refine mj_goto (tgt := 27) X dX1_fewest_79 (by decide) ?_
          exact mj_sub [1, 2, 3, 4, 5, 6, 0] rfl (ih h6 (m6 + 1) hf)
        · have hf := mm_t c9 hf
          refine mj_iload X dX1_fewest_73 5 rfl ?_
          exact RET h6 _ _ _ dX1_fewest_75 (Option.some.inj hf)
      · have hf := mm_t c4 hf
        refine mj_aload_n X dX1_fewest_41 0 rfl ?_
        refine mj_aload_n X dX1_fewest_42 0 rfl ?_
        refine mj_get X inwX1_fewest_X1 (mx_at mx_oX1 h) rfl 2 (by decide) rfl lnX1_fewest_1 rfl dX1_fewest_43 ?_
        refine mj_iload X dX1_fewest_46 6 rfl ?_
        obtain ⟨g10, hf⟩ := mm_g hf
        refine mj_iald X 0 (mx_at mx_a27 h) rfl g10 dX1_fewest_48 ?_
        obtain ⟨h11, r12, q13, hf⟩ := mm_c hf
        refine mj_callVi (As := [.int (h 27 m6.toNatClampNeg)]) (rest := []) X (kX1_areAlike l D t1 t2 cI cT cS ad N h (h 27 m6.toNatClampNeg) h11 r12 q13) (cwV 1 X.2.2.2.2.1 gX1_fewest_X1_areAlike rfl rfl rfl (by decide +kernel) ⟨Nat.le_of_ble_eq_true rfl, Nat.le_of_ble_eq_true rfl⟩) (mx_at mx_oX1 h) rfl rfl rfl rfl (Nat.le_of_ble_eq_true rfl) ⟨Nat.zero_le _, Nat.zero_le _⟩ dX1_fewest_49 ?_
        refine mj_if_eq (tgt := 76) X dX1_fewest_52 (by decide) (fun c14 => ?_) (fun c14 => ?_)
        · have hf := mm_t c14 hf
          refine mj_iinc (k := 6) (v := (m6 + 1)) (lo' := [(6, .int (m6 + 1)), (0, .ref (ad 25)), (1, .int p1), (2, .int p2), (3, .int p3), (4, .int p4), (5, .int p5)]) X dX1_fewest_76 rfl rfl (by decide) rfl ?_
          refine mj_goto (tgt := 27) X dX1_fewest_79 (by decide) ?_
          exact mj_sub [1, 2, 3, 4, 5, 6, 0] rfl (ih h11 (m6 + 1) hf)
        · have hf := mm_f c14 hf
          refine mj_goto (tgt := 73) X dX1_fewest_55 (by decide) ?_
          refine mj_iload X dX1_fewest_73 5 rfl ?_
          exact RET h11 _ _ _ dX1_fewest_75 (Option.some.inj hf)
set_option maxHeartbeats 4000000 in
set_option maxRecDepth 100000 in
theorem wX1_fewest_L18 (X : mm_X p s m args c cX1_fewest RX1 wsX1_fewest 7 D (mx_ty cI cT cS) t1 t2 A) (out : mm_M × Int32) (RET : ∀ (h : mm_M) (pc : Nat) (lo : List (Nat × Value)) (v : Int32), decode cX1_fewest pc = .ok (.ireturn, 1) → (h, v) = out → mm_J p l e rmX1_fewest s m args below meth c 0 0 Q D (mx_w cI cT cS ad) A 7 h pc lo [.int v]) (N : Nat)  (p1 : Int32) (p2 : Int32) (k : mm_M → Option (mm_M × Int32)) (HK : ∀ (h : mm_M), k h = some out → mm_J p l e rmX1_fewest s m args below meth c 0 0 Q D (mx_w cI cT cS ad) A 7 h 102 [] []) : ∀ (n : Nat) (h : mm_M) (m3 : Int32) (m4 : Int32) (m5 : Int32), fX1_fewest_L18 N p1 p2 k n h m3 m4 m5 = some out → mm_J p l e rmX1_fewest s m args below meth c 0 0 Q D (mx_w cI cT cS ad) A 7 h 18 [(0, .ref (ad 25)), (1, .int p1), (2, .int p2), (3, .int m3), (4, .int m4), (5, .int m5)] [] := by
  intro n
  induction n with
  | zero =>
    intro h m3 m4 m5 hf
    cases hf
  | succ n ih =>
    intro h m3 m4 m5 hf
    rw [fX1_fewest_L18] at hf
    refine mj_iload X dX1_fewest_18 5 rfl ?_
    refine mj_iconst (v := (3 : Int32)) X dX1_fewest_20 (by decide) ?_
    refine mj_icmp_gt (tgt := 102) X dX1_fewest_21 (by decide) (fun c2 => ?_) (fun c2 => ?_)
    · have hf := mm_t c2 hf
      exact mj_sub [] rfl (HK h hf)
    · have hf := mm_f c2 hf
      refine mj_iload_n X dX1_fewest_24 3 rfl ?_
      refine mj_istore (lo' := [(6, .int m3), (0, .ref (ad 25)), (1, .int p1), (2, .int p2), (3, .int m3), (4, .int m4), (5, .int m5)]) X dX1_fewest_25 (by decide) rfl ?_
      refine mj_sub [1, 2, 3, 4, 5, 6, 0] rfl (wX1_fewest_L27 X out RET N p1 p2 m3 m4 m5 _ (fun h15 hf => ?_) N h m3 hf)
      refine mj_iload_n X dX1_fewest_82 3 rfl ?_
      refine mj_iload X dX1_fewest_83 4 rfl ?_
      refine mj_iadd X dX1_fewest_85 ?_
      obtain ⟨x16, ex16, hf⟩ := mm_l hf
      refine mj_topi ex16 ?_
      refine mj_istore_n (lo' := [(3, .int x16), (0, .ref (ad 25)), (1, .int p1), (2, .int p2), (4, .int m4), (5, .int m5)]) X dX1_fewest_86 (by decide) rfl ?_
      refine mj_iload X dX1_fewest_87 4 rfl ?_
      refine mj_aload_n X dX1_fewest_89 1 rfl ?_
      refine mj_get X inwX1_fewest_X1 (mx_at mx_oX1 h15) rfl 3 (by decide) rfl lnX1_fewest_0 rfl dX1_fewest_90 ?_
      refine mj_imul X dX1_fewest_93 ?_
      obtain ⟨x17, ex17, hf⟩ := mm_l hf
      refine mj_topi ex17 ?_
      refine mj_istore (lo' := [(4, .int x17), (3, .int x16), (0, .ref (ad 25)), (1, .int p1), (2, .int p2), (5, .int m5)]) X dX1_fewest_94 (by decide) rfl ?_
      refine mj_iinc (k := 5) (v := (m5 + 1)) (lo' := [(5, .int (m5 + 1)), (4, .int x17), (3, .int x16), (0, .ref (ad 25)), (1, .int p1), (2, .int p2)]) X dX1_fewest_96 rfl rfl (by decide) rfl ?_
      refine mj_goto (tgt := 18) X dX1_fewest_99 (by decide) ?_
      exact mj_sub [3, 4, 5, 2, 1, 0] rfl (ih h15 x16 x17 (m5 + 1) hf)
set_option maxHeartbeats 4000000 in
set_option maxRecDepth 100000 in
theorem kX1_fewest (l : Launch) (D : va_G) (t1 t2 : Nat) (cI : ClassId) (cT : ClassId) (cS : ClassId) (ad : Nat → Nat)  (N : Nat) (h : mm_M) (a0 : Int32) (a1 : Int32) (h1 : mm_M) (r : Int32) (hf : fX1_fewest N h a0 a1 = some (h1, r)) : mm_Ki l yX1_fewest wsX1_fewest rmX1_fewest D (mx_ty cI cT cS) t1 t2 (mx_w cI cT cS ad) [.ref (ad 25), .int a0, .int a1] h r h1 := by
  refine mm_open_i [.ref (ad 25), .int a0, .int a1] h r h1 RX1 (by decide) rfl rfl (Nat.le_of_ble_eq_true rfl) ?_
  intro p e s m below meth c A X hr hlocks
  have RET : ∀ (h : mm_M) (pc : Nat) (lo : List (Nat × Value)) (v : Int32), decode cX1_fewest pc = .ok (.ireturn, 1) → (h, v) = (h1, r) → mm_J p l e rmX1_fewest s m ([.ref (ad 25), .int a0, .int a1] : List Value).toArray below meth c 0 0 (MQ below (va_Qi (fun (r' : Int32) (u : mm_M) => r' = r ∧ u = h1) (mm_Post D (mx_w cI cT cS ad) A) A) ([.ref (ad 25), .int a0, .int a1] : List Value).toArray s 0 0 A) D (mx_w cI cT cS ad) A 7 h pc lo [.int v] := by
    intro h2 pc lo v hd he
    cases he
    exact mj_iret X hr rfl hlocks hd
  generalize hout : (h1, r) = out at hf RET
  unfold fX1_fewest at hf
  refine mj_lo (lo' := [(0, .ref (ad 25)), (1, .int a0), (2, .int a1)]) rfl ?_
  refine mj_aload_n X dX1_fewest_0 0 rfl ?_
  refine mj_get X inwX1_fewest_X1 (mx_at mx_oX1 h) rfl 3 (by decide) rfl lnX1_fewest_0 rfl dX1_fewest_1 ?_
  refine mj_if_ne (tgt := 10) X dX1_fewest_4 (by decide) (fun c1 => ?_) (fun c1 => ?_)
  · have hf := mm_f c1 hf
    refine mj_iconst (v := (0 : Int32)) X dX1_fewest_10 (by decide) ?_
    refine mj_istore_n (lo' := [(3, .int (0 : Int32)), (0, .ref (ad 25)), (1, .int a0), (2, .int a1)]) X dX1_fewest_11 (by decide) rfl ?_
    refine mj_iconst (v := (1 : Int32)) X dX1_fewest_12 (by decide) ?_
    refine mj_istore (lo' := [(4, .int (1 : Int32)), (3, .int (0 : Int32)), (0, .ref (ad 25)), (1, .int a0), (2, .int a1)]) X dX1_fewest_13 (by decide) rfl ?_
    refine mj_iconst (v := (0 : Int32)) X dX1_fewest_15 (by decide) ?_
    refine mj_istore (lo' := [(5, .int (0 : Int32)), (4, .int (1 : Int32)), (3, .int (0 : Int32)), (0, .ref (ad 25)), (1, .int a0), (2, .int a1)]) X dX1_fewest_16 (by decide) rfl ?_
    refine mj_sub [3, 4, 5, 2, 1, 0] rfl (wX1_fewest_L18 X out RET N a0 a1 _ (fun h18 hf => ?_) N h (0 : Int32) (1 : Int32) (0 : Int32) hf)
    refine mj_iconst (v := (-1 : Int32)) X dX1_fewest_102 (by decide) ?_
    exact RET h18 _ _ _ dX1_fewest_103 (Option.some.inj hf)
  · have hf := mm_t c1 hf
    refine mj_bipush (v := (-4 : Int32)) X dX1_fewest_7 (by decide) ?_
    exact RET h _ _ _ dX1_fewest_9 (Option.some.inj hf)
abbrev rmX1_fewestDown : Room := { frames := 3, cells := 0, slots := 0, locals := 69 }
set_option maxHeartbeats 4000000 in
set_option maxRecDepth 100000 in
theorem kX1_fewestDown (l : Launch) (D : va_G) (t1 t2 : Nat) (cI : ClassId) (cT : ClassId) (cS : ClassId) (ad : Nat → Nat)  (N : Nat) (h : mm_M) (a0 : Int32) (a1 : Int32) (h1 : mm_M) (r : Int32) (hf : fX1_fewestDown N h a0 a1 = some (h1, r)) : mm_Ki l yX1_fewestDown wsX1_fewestDown rmX1_fewestDown D (mx_ty cI cT cS) t1 t2 (mx_w cI cT cS ad) [.ref (ad 25), .int a0, .int a1] h r h1 := by
  refine mm_open_i [.ref (ad 25), .int a0, .int a1] h r h1 RX1 (by decide) rfl rfl (Nat.le_of_ble_eq_true rfl) ?_
  intro p e s m below meth c A X hr hlocks
  have RET : ∀ (h : mm_M) (pc : Nat) (lo : List (Nat × Value)) (v : Int32), decode cX1_fewestDown pc = .ok (.ireturn, 1) → (h, v) = (h1, r) → mm_J p l e rmX1_fewestDown s m ([.ref (ad 25), .int a0, .int a1] : List Value).toArray below meth c 0 0 (MQ below (va_Qi (fun (r' : Int32) (u : mm_M) => r' = r ∧ u = h1) (mm_Post D (mx_w cI cT cS ad) A) A) ([.ref (ad 25), .int a0, .int a1] : List Value).toArray s 0 0 A) D (mx_w cI cT cS ad) A 3 h pc lo [.int v] := by
    intro h2 pc lo v hd he
    cases he
    exact mj_iret X hr rfl hlocks hd
  generalize hout : (h1, r) = out at hf RET
  unfold fX1_fewestDown at hf
  refine mj_lo (lo' := [(0, .ref (ad 25)), (1, .int a0), (2, .int a1)]) rfl ?_
  refine mj_aload_n X dX1_fewestDown_0 0 rfl ?_
  refine mj_iload_n X dX1_fewestDown_1 1 rfl ?_
  refine mj_iload_n X dX1_fewestDown_2 2 rfl ?_
  obtain ⟨h1, r2, q3, hf⟩ := mm_c hf
  refine mj_callVi (As := [.int a0, .int a1]) (rest := []) X (kX1_fewest l D t1 t2 cI cT cS ad N h a0 a1 h1 r2 q3) (cwV 2 X.2.2.2.2.1 gX1_fewestDown_X1_fewest rfl rfl rfl (by decide +kernel) ⟨Nat.le_of_ble_eq_true rfl, Nat.le_of_ble_eq_true rfl⟩) (mx_at mx_oX1 h) rfl rfl rfl rfl (Nat.le_of_ble_eq_true rfl) ⟨Nat.zero_le _, Nat.zero_le _⟩ dX1_fewestDown_3 ?_
  exact RET h1 _ _ _ dX1_fewestDown_6 (Option.some.inj hf)
abbrev rmX1_fewestAlike : Room := { frames := 3, cells := 0, slots := 0, locals := 69 }
set_option maxHeartbeats 4000000 in
set_option maxRecDepth 100000 in
theorem kX1_fewestAlike (l : Launch) (D : va_G) (t1 t2 : Nat) (cI : ClassId) (cT : ClassId) (cS : ClassId) (ad : Nat → Nat)  (N : Nat) (h : mm_M)  (h1 : mm_M) (r : Int32) (hf : fX1_fewestAlike N h = some (h1, r)) : mm_Ki l yX1_fewestAlike wsX1_fewestAlike rmX1_fewestAlike D (mx_ty cI cT cS) t1 t2 (mx_w cI cT cS ad) [.ref (ad 25)] h r h1 := by
  refine mm_open_i [.ref (ad 25)] h r h1 RX1 (by decide) rfl rfl (Nat.le_of_ble_eq_true rfl) ?_
  intro p e s m below meth c A X hr hlocks
  have RET : ∀ (h : mm_M) (pc : Nat) (lo : List (Nat × Value)) (v : Int32), decode cX1_fewestAlike pc = .ok (.ireturn, 1) → (h, v) = (h1, r) → mm_J p l e rmX1_fewestAlike s m ([.ref (ad 25)] : List Value).toArray below meth c 0 0 (MQ below (va_Qi (fun (r' : Int32) (u : mm_M) => r' = r ∧ u = h1) (mm_Post D (mx_w cI cT cS ad) A) A) ([.ref (ad 25)] : List Value).toArray s 0 0 A) D (mx_w cI cT cS ad) A 1 h pc lo [.int v] := by
    intro h2 pc lo v hd he
    cases he
    exact mj_iret X hr rfl hlocks hd
  generalize hout : (h1, r) = out at hf RET
  unfold fX1_fewestAlike at hf
  refine mj_lo (lo' := [(0, .ref (ad 25))]) rfl ?_
  refine mj_aload_n X dX1_fewestAlike_0 0 rfl ?_
  refine mj_iconst (v := (-1 : Int32)) X dX1_fewestAlike_1 (by decide) ?_
  refine mj_iconst (v := (0 : Int32)) X dX1_fewestAlike_2 (by decide) ?_
  obtain ⟨h1, r2, q3, hf⟩ := mm_c hf
  refine mj_callVi (As := [.int (-1 : Int32), .int (0 : Int32)]) (rest := []) X (kX1_fewest l D t1 t2 cI cT cS ad N h (-1 : Int32) (0 : Int32) h1 r2 q3) (cwV 2 X.2.2.2.2.1 gX1_fewestAlike_X1_fewest rfl rfl rfl (by decide +kernel) ⟨Nat.le_of_ble_eq_true rfl, Nat.le_of_ble_eq_true rfl⟩) (mx_at mx_oX1 h) rfl rfl rfl rfl (Nat.le_of_ble_eq_true rfl) ⟨Nat.zero_le _, Nat.zero_le _⟩ dX1_fewestAlike_3 ?_
  exact RET h1 _ _ _ dX1_fewestAlike_6 (Option.some.inj hf)
abbrev rmX6_twoFigures : Room := { frames := 0, cells := 0, slots := 0, locals := 0 }
theorem inwX6_twoFigures_X6 : ∀ w ∈ wsX60, w ∈ wsX6_twoFigures := by
  intro w hw
  have h9 : wsX60 = (wsX6_twoFigures.drop 3).take 2 := rfl
  rw [h9] at hw
  exact List.mem_of_mem_drop (List.mem_of_mem_take hw)
theorem lnX6_twoFigures_0 : Cond.fieldLink RX6 15 "RichestPays$Text" "length" "I" ∈ wsX6_twoFigures := List.mem_of_getElem? (i := 1) rfl
theorem lnX6_twoFigures_1 : Cond.fieldLink RX6 9 "RichestPays$Text" "bytes" "[I" ∈ wsX6_twoFigures := List.mem_of_getElem? (i := 2) rfl
set_option maxHeartbeats 4000000 in
set_option maxRecDepth 100000 in
theorem kX6_twoFigures (l : Launch) (D : va_G) (t1 t2 : Nat) (cI : ClassId) (cT : ClassId) (cS : ClassId) (ad : Nat → Nat) (P : Nat) (hP : mx_isX6 P) (N : Nat) (h : mm_M) (a0 : Int32) (h1 : mm_M) (r : Int32) (hf : fX6_twoFigures N P h a0 = some (h1, r)) : mm_Ki l yX6_twoFigures wsX6_twoFigures rmX6_twoFigures D (mx_ty cI cT cS) t1 t2 (mx_w cI cT cS ad) [.ref (ad P), .int a0] h r h1 := by
  refine mm_open_i [.ref (ad P), .int a0] h r h1 RX6 (by decide) rfl rfl (Nat.le_of_ble_eq_true rfl) ?_
  intro p e s m below meth c A X hr hlocks
  have RET : ∀ (h : mm_M) (pc : Nat) (lo : List (Nat × Value)) (v : Int32), decode cX6_twoFigures pc = .ok (.ireturn, 1) → (h, v) = (h1, r) → mm_J p l e rmX6_twoFigures s m ([.ref (ad P), .int a0] : List Value).toArray below meth c 0 0 (MQ below (va_Qi (fun (r' : Int32) (u : mm_M) => r' = r ∧ u = h1) (mm_Post D (mx_w cI cT cS ad) A) A) ([.ref (ad P), .int a0] : List Value).toArray s 0 0 A) D (mx_w cI cT cS ad) A 2 h pc lo [.int v] := by
    intro h2 pc lo v hd he
    cases he
    exact mj_iret X hr rfl hlocks hd
  generalize hout : (h1, r) = out at hf RET
  unfold fX6_twoFigures at hf
  refine mj_lo (lo' := [(0, .ref (ad P)), (1, .int a0)]) rfl ?_
  refine mj_iload_n X dX6_twoFigures_0 1 rfl ?_
  refine mj_if_lt (tgt := 14) X dX6_twoFigures_1 (by decide) (fun c1 => ?_) (fun c1 => ?_)
  · have hf := mm_t c1 hf
    refine mj_iconst (v := (0 : Int32)) X dX6_twoFigures_14 (by decide) ?_
    exact RET h _ _ _ dX6_twoFigures_15 (Option.some.inj hf)
  · have hf := mm_f c1 hf
    refine mj_iload_n X dX6_twoFigures_4 1 rfl ?_
    refine mj_iconst (v := (1 : Int32)) X dX6_twoFigures_5 (by decide) ?_
    refine mj_iadd X dX6_twoFigures_6 ?_
    refine mj_aload_n X dX6_twoFigures_7 0 rfl ?_
    refine mj_get X inwX6_twoFigures_X6 (mx_at (mx_oX6 hP) h) rfl 1 (by decide) rfl lnX6_twoFigures_0 rfl dX6_twoFigures_8 ?_
    refine mj_icmp_lt (tgt := 16) X dX6_twoFigures_11 (by decide) (fun c2 => ?_) (fun c2 => ?_)
    · have hf := mm_t c2 hf
      refine mj_bipush (v := (10 : Int32)) X dX6_twoFigures_16 (by decide) ?_
      refine mj_aload_n X dX6_twoFigures_18 0 rfl ?_
      refine mj_get X inwX6_twoFigures_X6 (mx_at (mx_oX6 hP) h) rfl 0 (by decide) rfl lnX6_twoFigures_1 rfl dX6_twoFigures_19 ?_
      refine mj_iload_n X dX6_twoFigures_22 1 rfl ?_
      obtain ⟨g3, hf⟩ := mm_g hf
      refine mj_iald X 0 (mx_at (mx_bX6 hP) h) rfl g3 dX6_twoFigures_23 ?_
      refine mj_bipush (v := (48 : Int32)) X dX6_twoFigures_24 (by decide) ?_
      refine mj_isub X dX6_twoFigures_26 ?_
      refine mj_imul X dX6_twoFigures_27 ?_
      refine mj_aload_n X dX6_twoFigures_28 0 rfl ?_
      refine mj_get X inwX6_twoFigures_X6 (mx_at (mx_oX6 hP) h) rfl 0 (by decide) rfl lnX6_twoFigures_1 rfl dX6_twoFigures_29 ?_
      refine mj_iload_n X dX6_twoFigures_32 1 rfl ?_
      refine mj_iconst (v := (1 : Int32)) X dX6_twoFigures_33 (by decide) ?_
      refine mj_iadd X dX6_twoFigures_34 ?_
      obtain ⟨g4, hf⟩ := mm_g hf
      refine mj_iald X 0 (mx_at (mx_bX6 hP) h) rfl g4 dX6_twoFigures_35 ?_
      refine mj_iadd X dX6_twoFigures_36 ?_
      refine mj_bipush (v := (48 : Int32)) X dX6_twoFigures_37 (by decide) ?_
      refine mj_isub X dX6_twoFigures_39 ?_
      exact RET h _ _ _ dX6_twoFigures_40 (Option.some.inj hf)
    · have hf := mm_f c2 hf
      refine mj_iconst (v := (0 : Int32)) X dX6_twoFigures_14 (by decide) ?_
      exact RET h _ _ _ dX6_twoFigures_15 (Option.some.inj hf)
abbrev rmX2_understand : Room := { frames := 3, cells := 0, slots := 0, locals := 69 }
theorem inwX2_understand_X2 : ∀ w ∈ wsX20, w ∈ wsX2_understand := by
  intro w hw
  have h9 : wsX20 = (wsX2_understand.drop 23).take 9 := rfl
  rw [h9] at hw
  exact List.mem_of_mem_drop (List.mem_of_mem_take hw)
theorem lnX2_understand_0 : Cond.fieldLink RX2 31 "RichestPays$People" "textFault" "I" ∈ wsX2_understand := List.mem_of_getElem? (i := 1) rfl
theorem lnX2_understand_1 : Cond.fieldLink RX2 27 "RichestPays$People" "number" "I" ∈ wsX2_understand := List.mem_of_getElem? (i := 3) rfl
theorem lnX2_understand_2 : Cond.fieldLink RX2 9 "RichestPays$People" "purse" "[I" ∈ wsX2_understand := List.mem_of_getElem? (i := 4) rfl
theorem lnX2_understand_3 : Cond.fieldLink RX2 15 "RichestPays$People" "appetite" "[I" ∈ wsX2_understand := List.mem_of_getElem? (i := 5) rfl
theorem inwX2_understand_X6 : ∀ w ∈ wsX60, w ∈ wsX2_understand := by
  intro w hw
  have h9 : wsX60 = (wsX2_understand.drop 32).take 2 := rfl
  rw [h9] at hw
  exact List.mem_of_mem_drop (List.mem_of_mem_take hw)
theorem lnX2_understand_4 : Cond.fieldLink RX2 46 "RichestPays$Text" "length" "I" ∈ wsX2_understand := List.mem_of_getElem? (i := 2) rfl
set_option maxHeartbeats 4000000 in
set_option maxRecDepth 100000 in
theorem wX2_understand_L38 (X : mm_X p s m args c cX2_understand RX2 wsX2_understand 4 D (mx_ty cI cT cS) t1 t2 A) (out : mm_M × Unit) (RET : ∀ (h : mm_M) (pc : Nat) (lo : List (Nat × Value)) (v : Unit), decode cX2_understand pc = .ok (.return_, 1) → (h, v) = out → mm_J p l e rmX2_understand s m args below meth c 0 0 Q D (mx_w cI cT cS ad) A 4 h pc lo []) (N : Nat) (Q0 : Nat) (hQ0 : mx_isX6 Q0)  (k : mm_M → Option (mm_M × Unit)) (HK : ∀ (h : mm_M), k h = some out → mm_J p l e rmX2_understand s m args below meth c 0 0 Q D (mx_w cI cT cS ad) A 4 h 108 [] []) : ∀ (n : Nat) (h : mm_M) (m2 : Int32), fX2_understand_L38 N Q0 k n h m2 = some out → mm_J p l e rmX2_understand s m args below meth c 0 0 Q D (mx_w cI cT cS ad) A 4 h 38 [(0, .ref (ad 6)), (1, .ref (ad Q0)), (2, .int m2)] [] := by
  intro n
  induction n with
  | zero =>
    intro h m2 hf
    cases hf
  | succ n ih =>
    intro h m2 hf
    rw [fX2_understand_L38] at hf
    refine mj_iload_n X dX2_understand_38 2 rfl ?_
    refine mj_bipush (v := (6 : Int32)) X dX2_understand_39 (by decide) ?_
    refine mj_icmp_ge (tgt := 108) X dX2_understand_41 (by decide) (fun c7 => ?_) (fun c7 => ?_)
    · have hf := mm_t c7 hf
      exact mj_sub [] rfl (HK h hf)
    · have hf := mm_f c7 hf
      refine mj_iload_n X dX2_understand_44 2 rfl ?_
      refine mj_aload_n X dX2_understand_45 0 rfl ?_
      refine mj_get X inwX2_understand_X2 (mx_at mx_oX2 h) rfl 5 (by decide) rfl lnX2_understand_1 rfl dX2_understand_46 ?_
      refine mj_icmp_ge (tgt := 56) X dX2_understand_49 (by decide) (fun c8 => ?_) (fun c8 => ?_)
      · have hf := mm_t c8 hf
        refine mj_iconst (v := (0 : Int32)) X dX2_understand_56 (by decide) ?_
        refine mj_istore_n (lo' := [(3, .int (0 : Int32)), (0, .ref (ad 6)), (1, .ref (ad Q0)), (2, .int m2)]) X dX2_understand_57 (by decide) rfl ?_
        refine mj_aload_n X dX2_understand_58 1 rfl ?_
        refine mj_get X inwX2_understand_X2 (mx_at mx_oX2 h) rfl 0 (by decide) rfl lnX2_understand_2 rfl dX2_understand_59 ?_
        refine mj_iload_n X dX2_understand_62 3 rfl ?_
        refine mj_iload_n X dX2_understand_63 0 rfl ?_
        refine mj_if_eq (tgt := 77) X dX2_understand_64 (by decide) (fun _ => ?_) (fun c9 => absurd c9 (by decide))
        refine mj_iconst (v := (0 : Int32)) X dX2_understand_77 (by decide) ?_
        obtain ⟨g10, hf⟩ := mm_g hf
        obtain ⟨h11, eh11, hf⟩ := mm_l hf
        refine mj_iast X 0 (mx_at mx_a7 h) rfl g10 (mx_ast mx_a7 eh11) dX2_understand_78 ?_
        refine mj_aload_n X dX2_understand_79 1 rfl ?_
        refine mj_get X inwX2_understand_X2 (mx_at mx_oX2 h11) rfl 1 (by decide) rfl lnX2_understand_3 rfl dX2_understand_80 ?_
        refine mj_iload_n X dX2_understand_83 3 rfl ?_
        refine mj_iload_n X dX2_understand_84 0 rfl ?_
        refine mj_if_eq (tgt := 100) X dX2_understand_85 (by decide) (fun _ => ?_) (fun c12 => absurd c12 (by decide))
        refine mj_iconst (v := (0 : Int32)) X dX2_understand_100 (by decide) ?_
        obtain ⟨h13, eh13, hf⟩ := mm_l hf
        refine mj_iast X 0 (mx_at mx_a8 h11) rfl g10 (mx_ast mx_a8 eh13) dX2_understand_101 ?_
        refine mj_iinc (k := 3) (v := (m2 + 1)) (lo' := [(2, .int (m2 + 1)), (3, .int (0 : Int32)), (0, .ref (ad 6)), (1, .ref (ad Q0))]) X dX2_understand_102 rfl rfl (by decide) rfl ?_
        refine mj_goto (tgt := 38) X dX2_understand_105 (by decide) ?_
        exact mj_sub [2, 3, 0] rfl (ih h13 (m2 + 1) hf)
      · have hf := mm_f c8 hf
        refine mj_iconst (v := (1 : Int32)) X dX2_understand_52 (by decide) ?_
        refine mj_goto (tgt := 57) X dX2_understand_53 (by decide) ?_
        refine mj_istore_n (lo' := [(3, .int (1 : Int32)), (0, .ref (ad 6)), (1, .ref (ad Q0)), (2, .int m2)]) X dX2_understand_57 (by decide) rfl ?_
        refine mj_aload_n X dX2_understand_58 1 rfl ?_
        refine mj_get X inwX2_understand_X2 (mx_at mx_oX2 h) rfl 0 (by decide) rfl lnX2_understand_2 rfl dX2_understand_59 ?_
        refine mj_iload_n X dX2_understand_62 3 rfl ?_
        refine mj_iload_n X dX2_understand_63 0 rfl ?_
        refine mj_if_eq (tgt := 77) X dX2_understand_64 (by decide) (fun c14 => absurd c14 (by decide)) (fun _ => ?_)
        refine mj_aload_n X dX2_understand_67 2 rfl ?_
        refine mj_iload_n X dX2_understand_68 3 rfl ?_
        refine mj_iconst (v := (5 : Int32)) X dX2_understand_69 (by decide) ?_
        refine mj_imul X dX2_understand_70 ?_
        obtain ⟨h15, r16, q17, hf⟩ := mm_c hf
        refine mj_callVi (As := [.int (m2 * (5 : Int32))]) (rest := [.int m2, .ref (ad 7)]) X (kX6_twoFigures l D t1 t2 cI cT cS ad Q0 hQ0 N h ((m2 * (5 : Int32))) h15 r16 q17) (cwV 1 X.2.2.2.2.1 gX2_understand_X6_twoFigures rfl rfl rfl (by decide +kernel) ⟨Nat.le_of_ble_eq_true rfl, Nat.le_of_ble_eq_true rfl⟩) (mx_at (mx_oX6 hQ0) h) rfl rfl rfl rfl (Nat.le_of_ble_eq_true rfl) ⟨Nat.zero_le _, Nat.zero_le _⟩ dX2_understand_71 ?_
        refine mj_goto (tgt := 78) X dX2_understand_74 (by decide) ?_
        obtain ⟨g18, hf⟩ := mm_g hf
        obtain ⟨h19, eh19, hf⟩ := mm_l hf
        refine mj_iast X 0 (mx_at mx_a7 h15) rfl g18 (mx_ast mx_a7 eh19) dX2_understand_78 ?_
        refine mj_aload_n X dX2_understand_79 1 rfl ?_
        refine mj_get X inwX2_understand_X2 (mx_at mx_oX2 h19) rfl 1 (by decide) rfl lnX2_understand_3 rfl dX2_understand_80 ?_
        refine mj_iload_n X dX2_understand_83 3 rfl ?_
        refine mj_iload_n X dX2_understand_84 0 rfl ?_
        refine mj_if_eq (tgt := 100) X dX2_understand_85 (by decide) (fun c20 => absurd c20 (by decide)) (fun _ => ?_)
        refine mj_aload_n X dX2_understand_88 2 rfl ?_
        refine mj_iload_n X dX2_understand_89 3 rfl ?_
        refine mj_iconst (v := (5 : Int32)) X dX2_understand_90 (by decide) ?_
        refine mj_imul X dX2_understand_91 ?_
        refine mj_iconst (v := (2 : Int32)) X dX2_understand_92 (by decide) ?_
        refine mj_iadd X dX2_understand_93 ?_
        obtain ⟨h21, r22, q23, hf⟩ := mm_c hf
        refine mj_callVi (As := [.int ((m2 * (5 : Int32)) + (2 : Int32))]) (rest := [.int m2, .ref (ad 8)]) X (kX6_twoFigures l D t1 t2 cI cT cS ad Q0 hQ0 N h19 (((m2 * (5 : Int32)) + (2 : Int32))) h21 r22 q23) (cwV 1 X.2.2.2.2.1 gX2_understand_X6_twoFigures rfl rfl rfl (by decide +kernel) ⟨Nat.le_of_ble_eq_true rfl, Nat.le_of_ble_eq_true rfl⟩) (mx_at (mx_oX6 hQ0) h19) rfl rfl rfl rfl (Nat.le_of_ble_eq_true rfl) ⟨Nat.zero_le _, Nat.zero_le _⟩ dX2_understand_94 ?_
        refine mj_goto (tgt := 101) X dX2_understand_97 (by decide) ?_
        obtain ⟨h24, eh24, hf⟩ := mm_l hf
        refine mj_iast X 0 (mx_at mx_a8 h21) rfl g18 (mx_ast mx_a8 eh24) dX2_understand_101 ?_
        refine mj_iinc (k := 3) (v := (m2 + 1)) (lo' := [(2, .int (m2 + 1)), (3, .int (1 : Int32)), (0, .ref (ad 6)), (1, .ref (ad Q0))]) X dX2_understand_102 rfl rfl (by decide) rfl ?_
        refine mj_goto (tgt := 38) X dX2_understand_105 (by decide) ?_
        exact mj_sub [2, 3, 0] rfl (ih h24 (m2 + 1) hf)
set_option maxHeartbeats 4000000 in
set_option maxRecDepth 100000 in
theorem kX2_understand (l : Launch) (D : va_G) (t1 t2 : Nat) (cI : ClassId) (cT : ClassId) (cS : ClassId) (ad : Nat → Nat) (Q0 : Nat) (hQ0 : mx_isX6 Q0) (N : Nat) (h : mm_M)  (h1 : mm_M) (r : Unit) (hf : fX2_understand N Q0 h = some (h1, r)) : mm_Kv l yX2_understand wsX2_understand rmX2_understand D (mx_ty cI cT cS) t1 t2 (mx_w cI cT cS ad) [.ref (ad 6), .ref (ad Q0)] h h1 := by
  refine mm_open_v [.ref (ad 6), .ref (ad Q0)] h h1 RX2 (by decide) rfl rfl (Nat.le_of_ble_eq_true rfl) ?_
  intro p e s m below meth c A X hr hlocks
  have RET : ∀ (h : mm_M) (pc : Nat) (lo : List (Nat × Value)) (v : Unit), decode cX2_understand pc = .ok (.return_, 1) → (h, v) = (h1, r) → mm_J p l e rmX2_understand s m ([.ref (ad 6), .ref (ad Q0)] : List Value).toArray below meth c 0 0 (MQ below (va_Qv (fun (u : mm_M) => u = h1) (mm_Post D (mx_w cI cT cS ad) A) A) ([.ref (ad 6), .ref (ad Q0)] : List Value).toArray s 0 0 A) D (mx_w cI cT cS ad) A 4 h pc lo [] := by
    intro h2 pc lo v hd he
    cases he
    exact mj_vret X hr hlocks hd
  generalize hout : (h1, r) = out at hf RET
  unfold fX2_understand at hf
  refine mj_lo (lo' := [(0, .ref (ad 6)), (1, .ref (ad Q0))]) rfl ?_
  refine mj_aload_n X dX2_understand_0 0 rfl ?_
  refine mj_aload_n X dX2_understand_1 1 rfl ?_
  refine mj_iconst (v := (4 : Int32)) X dX2_understand_2 (by decide) ?_
  refine mj_bipush (v := (6 : Int32)) X dX2_understand_3 (by decide) ?_
  refine mj_iconst (v := (0 : Int32)) X dX2_understand_5 (by decide) ?_
  obtain ⟨h1, r2, q3, hf⟩ := mm_c hf
  refine mj_callVi (As := [.int (4 : Int32), .int (6 : Int32), .int (0 : Int32)]) (rest := [.ref (ad 6)]) X (kX6_faultInRows l D t1 t2 cI cT cS ad Q0 hQ0 N h (4 : Int32) (6 : Int32) (0 : Int32) h1 r2 q3) (cwV 3 X.2.2.2.2.1 gX2_understand_X6_faultInRows rfl rfl rfl (by decide +kernel) ⟨Nat.le_of_ble_eq_true rfl, Nat.le_of_ble_eq_true rfl⟩) (mx_at (mx_oX6 hQ0) h) rfl rfl rfl rfl (Nat.le_of_ble_eq_true rfl) ⟨Nat.zero_le _, Nat.zero_le _⟩ dX2_understand_6 ?_
  obtain ⟨h4, eh4, hf⟩ := mm_l hf
  refine mj_put X tyX2_ok nmX2 inwX2_understand_X2 (mx_at mx_oX2 h1) rfl 6 (by decide) rfl lnX2_understand_0 rfl (tyX2_ok 6 (by decide)) rfl rfl (Nat.le_of_ble_eq_true rfl) (mx_put mx_oX2 eh4 (by simp [mm_up_at, upd])) dX2_understand_9 ?_
  refine mj_aload_n X dX2_understand_12 0 rfl ?_
  refine mj_aload_n X dX2_understand_13 0 rfl ?_
  refine mj_get X inwX2_understand_X2 (mx_at mx_oX2 h4) rfl 6 (by decide) rfl lnX2_understand_0 rfl dX2_understand_14 ?_
  refine mj_iconst (v := (-1 : Int32)) X dX2_understand_17 (by decide) ?_
  refine mj_icmp_ne (tgt := 32) X dX2_understand_18 (by decide) (fun c5 => ?_) (fun c5 => ?_)
  · have hf := mm_f c5 hf
    refine mj_iconst (v := (0 : Int32)) X dX2_understand_32 (by decide) ?_
    obtain ⟨h6, eh6, hf⟩ := mm_l hf
    refine mj_put X tyX2_ok nmX2 inwX2_understand_X2 (mx_at mx_oX2 h4) rfl 5 (by decide) rfl lnX2_understand_1 rfl (tyX2_ok 5 (by decide)) rfl rfl (Nat.le_of_ble_eq_true rfl) (mx_put mx_oX2 eh6 (by simp [mm_up_at, upd])) dX2_understand_33 ?_
    refine mj_iconst (v := (0 : Int32)) X dX2_understand_36 (by decide) ?_
    refine mj_istore_n (lo' := [(2, .int (0 : Int32)), (0, .ref (ad 6)), (1, .ref (ad Q0))]) X dX2_understand_37 (by decide) rfl ?_
    refine mj_sub [1, 2, 0] rfl (wX2_understand_L38 X out RET N Q0 hQ0 _ (fun h25 hf => ?_) N h6 (0 : Int32) hf)
    exact RET h25 _ _ _ dX2_understand_108 (Option.some.inj hf)
  · have hf := mm_t c5 hf
    refine mj_aload_n X dX2_understand_21 1 rfl ?_
    refine mj_get X inwX2_understand_X6 (mx_at (mx_oX6 hQ0) h4) rfl 1 (by decide) rfl lnX2_understand_4 rfl dX2_understand_22 ?_
    refine mj_iconst (v := (1 : Int32)) X dX2_understand_25 (by decide) ?_
    refine mj_iadd X dX2_understand_26 ?_
    refine mj_iconst (v := (5 : Int32)) X dX2_understand_27 (by decide) ?_
    refine mj_idiv X dX2_understand_28 (by decide) ?_
    refine mj_goto (tgt := 33) X dX2_understand_29 (by decide) ?_
    obtain ⟨h26, eh26, hf⟩ := mm_l hf
    refine mj_put X tyX2_ok nmX2 inwX2_understand_X2 (mx_at mx_oX2 h4) rfl 5 (by decide) rfl lnX2_understand_1 rfl (tyX2_ok 5 (by decide)) rfl rfl (Nat.le_of_ble_eq_true rfl) (mx_put mx_oX2 eh26 (by simp [mm_up_at, upd])) dX2_understand_33 ?_
    refine mj_iconst (v := (0 : Int32)) X dX2_understand_36 (by decide) ?_
    refine mj_istore_n (lo' := [(2, .int (0 : Int32)), (0, .ref (ad 6)), (1, .ref (ad Q0))]) X dX2_understand_37 (by decide) rfl ?_
    refine mj_sub [1, 2, 0] rfl (wX2_understand_L38 X out RET N Q0 hQ0 _ (fun h27 hf => ?_) N h26 (0 : Int32) hf)
    exact RET h27 _ _ _ dX2_understand_108 (Option.some.inj hf)
abbrev rmX2_together : Room := { frames := 0, cells := 0, slots := 0, locals := 0 }
theorem inwX2_together_X2 : ∀ w ∈ wsX20, w ∈ wsX2_together := by
  intro w hw
  have h9 : wsX20 = (wsX2_together.drop 2).take 9 := rfl
  rw [h9] at hw
  exact List.mem_of_mem_drop (List.mem_of_mem_take hw)
theorem lnX2_together_0 : Cond.fieldLink RX2 27 "RichestPays$People" "number" "I" ∈ wsX2_together := List.mem_of_getElem? (i := 1) rfl
set_option maxHeartbeats 4000000 in
set_option maxRecDepth 100000 in
theorem wX2_together_L4 (X : mm_X p s m args c cX2_together RX2 wsX2_together 4 D (mx_ty cI cT cS) t1 t2 A) (out : mm_M × Int32) (RET : ∀ (h : mm_M) (pc : Nat) (lo : List (Nat × Value)) (v : Int32), decode cX2_together pc = .ok (.ireturn, 1) → (h, v) = out → mm_J p l e rmX2_together s m args below meth c 0 0 Q D (mx_w cI cT cS ad) A 4 h pc lo [.int v]) (N : Nat) (y0 : Nat) (hy0 : mx_arr cI cT cS ad y0 6)  (k : mm_M → Int32 → Option (mm_M × Int32)) (HK : ∀ (h : mm_M) (m2 : Int32), k h m2 = some out → mm_J p l e rmX2_together s m args below meth c 0 0 Q D (mx_w cI cT cS ad) A 4 h 24 [(2, .int m2)] []) : ∀ (n : Nat) (h : mm_M) (m2 : Int32) (m3 : Int32), fX2_together_L4 N y0 k n h m2 m3 = some out → mm_J p l e rmX2_together s m args below meth c 0 0 Q D (mx_w cI cT cS ad) A 4 h 4 [(0, .ref (ad 6)), (1, .ref (ad y0)), (2, .int m2), (3, .int m3)] [] := by
  intro n
  induction n with
  | zero =>
    intro h m2 m3 hf
    cases hf
  | succ n ih =>
    intro h m2 m3 hf
    rw [fX2_together_L4] at hf
    refine mj_iload_n X dX2_together_4 3 rfl ?_
    refine mj_aload_n X dX2_together_5 0 rfl ?_
    refine mj_get X inwX2_together_X2 (mx_at mx_oX2 h) rfl 5 (by decide) rfl lnX2_together_0 rfl dX2_together_6 ?_
    refine mj_icmp_ge (tgt := 24) X dX2_together_9 (by decide) (fun c1 => ?_) (fun c1 => ?_)
    · have hf := mm_t c1 hf
      exact mj_sub [2] rfl (HK h m2 hf)
    · have hf := mm_f c1 hf
      refine mj_iload_n X dX2_together_12 2 rfl ?_
      refine mj_aload_n X dX2_together_13 1 rfl ?_
      refine mj_iload_n X dX2_together_14 3 rfl ?_
      obtain ⟨g2, hf⟩ := mm_g hf
      refine mj_iald X 0 (mx_at hy0 h) rfl g2 dX2_together_15 ?_
      refine mj_iadd X dX2_together_16 ?_
      obtain ⟨x3, ex3, hf⟩ := mm_l hf
      refine mj_topi ex3 ?_
      refine mj_istore_n (lo' := [(2, .int x3), (0, .ref (ad 6)), (1, .ref (ad y0)), (3, .int m3)]) X dX2_together_17 (by decide) rfl ?_
      refine mj_iinc (k := 3) (v := (m3 + 1)) (lo' := [(3, .int (m3 + 1)), (2, .int x3), (0, .ref (ad 6)), (1, .ref (ad y0))]) X dX2_together_18 rfl rfl (by decide) rfl ?_
      refine mj_goto (tgt := 4) X dX2_together_21 (by decide) ?_
      exact mj_sub [2, 3, 1, 0] rfl (ih h x3 (m3 + 1) hf)
set_option maxHeartbeats 4000000 in
set_option maxRecDepth 100000 in
theorem kX2_together (l : Launch) (D : va_G) (t1 t2 : Nat) (cI : ClassId) (cT : ClassId) (cS : ClassId) (ad : Nat → Nat) (y0 : Nat) (hy0 : mx_arr cI cT cS ad y0 6) (N : Nat) (h : mm_M)  (h1 : mm_M) (r : Int32) (hf : fX2_together N y0 h = some (h1, r)) : mm_Ki l yX2_together wsX2_together rmX2_together D (mx_ty cI cT cS) t1 t2 (mx_w cI cT cS ad) [.ref (ad 6), .ref (ad y0)] h r h1 := by
  refine mm_open_i [.ref (ad 6), .ref (ad y0)] h r h1 RX2 (by decide) rfl rfl (Nat.le_of_ble_eq_true rfl) ?_
  intro p e s m below meth c A X hr hlocks
  have RET : ∀ (h : mm_M) (pc : Nat) (lo : List (Nat × Value)) (v : Int32), decode cX2_together pc = .ok (.ireturn, 1) → (h, v) = (h1, r) → mm_J p l e rmX2_together s m ([.ref (ad 6), .ref (ad y0)] : List Value).toArray below meth c 0 0 (MQ below (va_Qi (fun (r' : Int32) (u : mm_M) => r' = r ∧ u = h1) (mm_Post D (mx_w cI cT cS ad) A) A) ([.ref (ad 6), .ref (ad y0)] : List Value).toArray s 0 0 A) D (mx_w cI cT cS ad) A 4 h pc lo [.int v] := by
    intro h2 pc lo v hd he
    cases he
    exact mj_iret X hr rfl hlocks hd
  generalize hout : (h1, r) = out at hf RET
  unfold fX2_together at hf
  refine mj_lo (lo' := [(0, .ref (ad 6)), (1, .ref (ad y0))]) rfl ?_
  refine mj_iconst (v := (0 : Int32)) X dX2_together_0 (by decide) ?_
  refine mj_istore_n (lo' := [(2, .int (0 : Int32)), (0, .ref (ad 6)), (1, .ref (ad y0))]) X dX2_together_1 (by decide) rfl ?_
  refine mj_iconst (v := (0 : Int32)) X dX2_together_2 (by decide) ?_
  refine mj_istore_n (lo' := [(3, .int (0 : Int32)), (2, .int (0 : Int32)), (0, .ref (ad 6)), (1, .ref (ad y0))]) X dX2_together_3 (by decide) rfl ?_
  refine mj_sub [2, 3, 1, 0] rfl (wX2_together_L4 X out RET N y0 hy0 _ (fun h4 v5 hf => ?_) N h (0 : Int32) (0 : Int32) hf)
  refine mj_iload_n X dX2_together_24 0 rfl ?_
  exact RET h4 _ _ _ dX2_together_25 (Option.some.inj hf)
abbrev rmX2_payOf : Room := { frames := 2, cells := 0, slots := 0, locals := 50 }
theorem inwX2_payOf_X2 : ∀ w ∈ wsX20, w ∈ wsX2_payOf := by
  intro w hw
  have h9 : wsX20 = (wsX2_payOf.drop 19).take 9 := rfl
  rw [h9] at hw
  exact List.mem_of_mem_drop (List.mem_of_mem_take hw)
theorem lnX2_payOf_0 : Cond.fieldLink RX2 24 "RichestPays$People" "due" "[I" ∈ wsX2_payOf := List.mem_of_getElem? (i := 1) rfl
theorem lnX2_payOf_1 : Cond.methodLink RX2 70 Lib.Math.min.name ∈ wsX2_payOf := List.mem_of_getElem? (i := 2) rfl
theorem lnX2_payOf_2 : Cond.static Lib.Math.min.name ∈ wsX2_payOf := List.mem_of_getElem? (i := 3) rfl
theorem lnX2_payOf_3 : Cond.initialized "java/lang/Math" ∈ wsX2_payOf := List.mem_of_getElem? (i := 4) rfl
theorem lnX2_payOf_4 : Cond.code Lib.Math.min.name Lib.Math.min.code 2 (some .int) ∈ wsX2_payOf := List.mem_of_getElem? (i := 5) rfl
set_option maxHeartbeats 4000000 in
set_option maxRecDepth 100000 in
theorem kX2_payOf (l : Launch) (D : va_G) (t1 t2 : Nat) (cI : ClassId) (cT : ClassId) (cS : ClassId) (ad : Nat → Nat) (y2 : Nat) (hy2 : mx_arr cI cT cS ad y2 6) (N : Nat) (h : mm_M) (a0 : Int32) (a1 : Int32) (h1 : mm_M) (r : Int32) (hf : fX2_payOf N y2 h a0 a1 = some (h1, r)) : mm_Ki l yX2_payOf wsX2_payOf rmX2_payOf D (mx_ty cI cT cS) t1 t2 (mx_w cI cT cS ad) [.ref (ad 6), .int a0, .int a1, .ref (ad y2)] h r h1 := by
  refine mm_open_i [.ref (ad 6), .int a0, .int a1, .ref (ad y2)] h r h1 RX2 (by decide) rfl rfl (Nat.le_of_ble_eq_true rfl) ?_
  intro p e s m below meth c A X hr hlocks
  have RET : ∀ (h : mm_M) (pc : Nat) (lo : List (Nat × Value)) (v : Int32), decode cX2_payOf pc = .ok (.ireturn, 1) → (h, v) = (h1, r) → mm_J p l e rmX2_payOf s m ([.ref (ad 6), .int a0, .int a1, .ref (ad y2)] : List Value).toArray below meth c 0 0 (MQ below (va_Qi (fun (r' : Int32) (u : mm_M) => r' = r ∧ u = h1) (mm_Post D (mx_w cI cT cS ad) A) A) ([.ref (ad 6), .int a0, .int a1, .ref (ad y2)] : List Value).toArray s 0 0 A) D (mx_w cI cT cS ad) A 4 h pc lo [.int v] := by
    intro h2 pc lo v hd he
    cases he
    exact mj_iret X hr rfl hlocks hd
  generalize hout : (h1, r) = out at hf RET
  unfold fX2_payOf at hf
  refine mj_lo (lo' := [(0, .ref (ad 6)), (1, .int a0), (2, .int a1), (3, .ref (ad y2))]) rfl ?_
  refine mj_aload_n X dX2_payOf_0 0 rfl ?_
  refine mj_iload_n X dX2_payOf_1 2 rfl ?_
  refine mj_aload_n X dX2_payOf_2 3 rfl ?_
  obtain ⟨h1, r2, q3, hf⟩ := mm_c hf
  refine mj_callVv (As := [.int a1, .ref (ad y2)]) (rest := []) X (kX2_charge l D t1 t2 cI cT cS ad y2 hy2 N h a1 h1 r2 q3) (cwV 2 X.2.2.2.2.1 gX2_payOf_X2_charge rfl rfl rfl (by decide +kernel) ⟨Nat.le_of_ble_eq_true rfl, Nat.le_of_ble_eq_true rfl⟩) (mx_at mx_oX2 h) rfl rfl rfl rfl (Nat.le_of_ble_eq_true rfl) ⟨Nat.zero_le _, Nat.zero_le _⟩ dX2_payOf_3 ?_
  refine mj_aload_n X dX2_payOf_6 0 rfl ?_
  refine mj_get X inwX2_payOf_X2 (mx_at mx_oX2 h1) rfl 4 (by decide) rfl lnX2_payOf_0 rfl dX2_payOf_7 ?_
  refine mj_iload_n X dX2_payOf_10 1 rfl ?_
  obtain ⟨g4, hf⟩ := mm_g hf
  refine mj_iald X 0 (mx_at mx_a11 h1) rfl g4 dX2_payOf_11 ?_
  refine mj_aload_n X dX2_payOf_12 3 rfl ?_
  refine mj_iload_n X dX2_payOf_13 1 rfl ?_
  refine mj_iald X 0 (mx_at hy2 h1) rfl g4 dX2_payOf_14 ?_
  refine mj_min X lnX2_payOf_1 lnX2_payOf_2 lnX2_payOf_3 lnX2_payOf_4 (Nat.le_of_ble_eq_true rfl) (Nat.le_of_ble_eq_true rfl) ⟨Nat.zero_le _, Nat.zero_le _⟩ dX2_payOf_15 ?_
  exact RET h1 _ _ _ dX2_payOf_18 (Option.some.inj hf)
abbrev rmX3_findBest : Room := { frames := 3, cells := 0, slots := 0, locals := 73 }
theorem inwX3_findBest_X3 : ∀ w ∈ wsX30, w ∈ wsX3_findBest := by
  intro w hw
  have h9 : wsX30 = (wsX3_findBest.drop 50).take 10 := rfl
  rw [h9] at hw
  exact List.mem_of_mem_drop (List.mem_of_mem_take hw)
theorem lnX3_findBest_0 : Cond.fieldLink RX3 29 "RichestPays$Seating" "bestGain" "I" ∈ wsX3_findBest := List.mem_of_getElem? (i := 1) rfl
theorem lnX3_findBest_1 : Cond.fieldLink RX3 33 "RichestPays$Seating" "bestTable" "I" ∈ wsX3_findBest := List.mem_of_getElem? (i := 2) rfl
theorem lnX3_findBest_2 : Cond.fieldLink RX3 36 "RichestPays$Seating" "bestHome" "I" ∈ wsX3_findBest := List.mem_of_getElem? (i := 3) rfl
theorem lnX3_findBest_3 : Cond.fieldLink RX3 21 "RichestPays$Seating" "people" "LRichestPays$People;" ∈ wsX3_findBest := List.mem_of_getElem? (i := 4) rfl
theorem lnX3_findBest_4 : Cond.fieldLink RX3 9 "RichestPays$Seating" "hands" "[I" ∈ wsX3_findBest := List.mem_of_getElem? (i := 5) rfl
theorem lnX3_findBest_5 : Cond.fieldLink RX3 25 "RichestPays$Seating" "evening" "LRichestPays$Evening;" ∈ wsX3_findBest := List.mem_of_getElem? (i := 6) rfl
theorem inwX3_findBest_X2 : ∀ w ∈ wsX20, w ∈ wsX3_findBest := by
  intro w hw
  have h9 : wsX20 = (wsX3_findBest.drop 60).take 9 := rfl
  rw [h9] at hw
  exact List.mem_of_mem_drop (List.mem_of_mem_take hw)
theorem lnX3_findBest_6 : Cond.fieldLink RX3 51 "RichestPays$People" "purse" "[I" ∈ wsX3_findBest := List.mem_of_getElem? (i := 7) rfl
theorem lnX3_findBest_7 : Cond.fieldLink RX3 54 "RichestPays$People" "mealWorth" "[I" ∈ wsX3_findBest := List.mem_of_getElem? (i := 8) rfl
set_option maxHeartbeats 4000000 in
set_option maxRecDepth 100000 in
theorem wX3_findBest_L52 (X : mm_X p s m args c cX3_findBest RX3 wsX3_findBest 7 D (mx_ty cI cT cS) t1 t2 A) (out : mm_M × Unit) (RET : ∀ (h : mm_M) (pc : Nat) (lo : List (Nat × Value)) (v : Unit), decode cX3_findBest pc = .ok (.return_, 1) → (h, v) = out → mm_J p l e rmX3_findBest s m args below meth c 0 0 Q D (mx_w cI cT cS ad) A 7 h pc lo []) (N : Nat)  (p1 : Int32) (p2 : Int32) (p3 : Int32) (p4 : Int32) (k : mm_M → Option (mm_M × Unit)) (HK : ∀ (h : mm_M), k h = some out → mm_J p l e rmX3_findBest s m args below meth c 0 0 Q D (mx_w cI cT cS ad) A 7 h 142 [(0, .ref (ad 21)), (1, .int p1), (2, .int p2), (3, .int p3)] []) : ∀ (n : Nat) (h : mm_M) (m5 : Int32), fX3_findBest_L52 N p1 p2 p3 p4 k n h m5 = some out → mm_J p l e rmX3_findBest s m args below meth c 0 0 Q D (mx_w cI cT cS ad) A 7 h 52 [(0, .ref (ad 21)), (1, .int p1), (2, .int p2), (3, .int p3), (4, .int p4), (5, .int m5)] [] := by
  intro n
  induction n with
  | zero =>
    intro h m5 hf
    cases hf
  | succ n ih =>
    intro h m5 hf
    rw [fX3_findBest_L52] at hf
    refine mj_iload X dX3_findBest_52 5 rfl ?_
    refine mj_aload_n X dX3_findBest_54 0 rfl ?_
    refine mj_get X inwX3_findBest_X3 (mx_at mx_oX3 h) rfl 0 (by decide) rfl lnX3_findBest_3 rfl dX3_findBest_55 ?_
    refine mj_get X inwX3_findBest_X2 (mx_at mx_oX2 h) rfl 0 (by decide) rfl lnX3_findBest_6 rfl dX3_findBest_58 ?_
    refine mj_iload_n X dX3_findBest_61 2 rfl ?_
    obtain ⟨g12, hf⟩ := mm_g hf
    refine mj_iald X 0 (mx_at mx_a7 h) rfl g12 dX3_findBest_62 ?_
    refine mj_icmp_gt (tgt := 142) X dX3_findBest_63 (by decide) (fun c13 => ?_) (fun c13 => ?_)
    · have hf := mm_t c13 hf
      exact mj_sub [0, 1, 2, 3] rfl (HK h hf)
    · have hf := mm_f c13 hf
      refine mj_aload_n X dX3_findBest_66 0 rfl ?_
      refine mj_get X inwX3_findBest_X3 (mx_at mx_oX3 h) rfl 2 (by decide) rfl lnX3_findBest_4 rfl dX3_findBest_67 ?_
      refine mj_iload_n X dX3_findBest_70 2 rfl ?_
      refine mj_aload_n X dX3_findBest_71 0 rfl ?_
      refine mj_get X inwX3_findBest_X3 (mx_at mx_oX3 h) rfl 0 (by decide) rfl lnX3_findBest_3 rfl dX3_findBest_72 ?_
      refine mj_get X inwX3_findBest_X2 (mx_at mx_oX2 h) rfl 0 (by decide) rfl lnX3_findBest_6 rfl dX3_findBest_75 ?_
      refine mj_iload_n X dX3_findBest_78 2 rfl ?_
      refine mj_iald X 0 (mx_at mx_a7 h) rfl g12 dX3_findBest_79 ?_
      refine mj_iload X dX3_findBest_80 5 rfl ?_
      refine mj_isub X dX3_findBest_82 ?_
      obtain ⟨h14, eh14, hf⟩ := mm_l hf
      refine mj_iast X 0 (mx_at mx_a22 h) rfl g12 (mx_ast mx_a22 eh14) dX3_findBest_83 ?_
      refine mj_aload_n X dX3_findBest_84 0 rfl ?_
      refine mj_get X inwX3_findBest_X3 (mx_at mx_oX3 h14) rfl 0 (by decide) rfl lnX3_findBest_3 rfl dX3_findBest_85 ?_
      refine mj_get X inwX3_findBest_X2 (mx_at mx_oX2 h14) rfl 3 (by decide) rfl lnX3_findBest_7 rfl dX3_findBest_88 ?_
      refine mj_iload_n X dX3_findBest_91 2 rfl ?_
      refine mj_iald X 0 (mx_at mx_a10 h14) rfl g12 dX3_findBest_92 ?_
      refine mj_aload_n X dX3_findBest_93 0 rfl ?_
      refine mj_get X inwX3_findBest_X3 (mx_at mx_oX3 h14) rfl 0 (by decide) rfl lnX3_findBest_3 rfl dX3_findBest_94 ?_
      refine mj_iload_n X dX3_findBest_97 2 rfl ?_
      refine mj_iload X dX3_findBest_98 4 rfl ?_
      refine mj_aload_n X dX3_findBest_100 0 rfl ?_
      refine mj_get X inwX3_findBest_X3 (mx_at mx_oX3 h14) rfl 2 (by decide) rfl lnX3_findBest_4 rfl dX3_findBest_101 ?_
      obtain ⟨h15, r16, q17, hf⟩ := mm_c hf
      refine mj_callVi (As := [.int p2, .int p4, .ref (ad 22)]) (rest := [.int (h14 10 p2.toNatClampNeg)]) X (kX2_payOf l D t1 t2 cI cT cS ad 22 mx_a22 N h14 p2 p4 h15 r16 q17) (cwV 3 X.2.2.2.2.1 gX3_findBest_X2_payOf rfl rfl rfl (by decide +kernel) ⟨Nat.le_of_ble_eq_true rfl, Nat.le_of_ble_eq_true rfl⟩) (mx_at mx_oX2 h14) rfl rfl rfl rfl (Nat.le_of_ble_eq_true rfl) ⟨Nat.zero_le _, Nat.zero_le _⟩ dX3_findBest_104 ?_
      refine mj_isub X dX3_findBest_107 ?_
      obtain ⟨x18, ex18, hf⟩ := mm_l hf
      refine mj_topi ex18 ?_
      refine mj_istore (lo' := [(6, .int x18), (0, .ref (ad 21)), (1, .int p1), (2, .int p2), (3, .int p3), (4, .int p4), (5, .int m5)]) X dX3_findBest_108 (by decide) rfl ?_
      refine mj_iload X dX3_findBest_110 0 rfl ?_
      refine mj_aload_n X dX3_findBest_112 1 rfl ?_
      refine mj_get X inwX3_findBest_X3 (mx_at mx_oX3 h15) rfl 5 (by decide) rfl lnX3_findBest_0 rfl dX3_findBest_113 ?_
      refine mj_icmp_le (tgt := 136) X dX3_findBest_116 (by decide) (fun c19 => ?_) (fun c19 => ?_)
      · have hf := mm_t c19 hf
        refine mj_iinc (k := 6) (v := (m5 + 1)) (lo' := [(5, .int (m5 + 1)), (6, .int x18), (0, .ref (ad 21)), (1, .int p1), (2, .int p2), (3, .int p3), (4, .int p4)]) X dX3_findBest_136 rfl rfl (by decide) rfl ?_
        refine mj_goto (tgt := 52) X dX3_findBest_139 (by decide) ?_
        exact mj_sub [2, 3, 4, 5, 6, 0] rfl (ih h15 (m5 + 1) hf)
      · have hf := mm_f c19 hf
        refine mj_aload_n X dX3_findBest_119 1 rfl ?_
        refine mj_iload X dX3_findBest_120 0 rfl ?_
        obtain ⟨h20, eh20, hf⟩ := mm_l hf
        refine mj_put X tyX3_ok nmX3 inwX3_findBest_X3 (mx_at mx_oX3 h15) rfl 5 (by decide) rfl lnX3_findBest_0 rfl (tyX3_ok 5 (by decide)) rfl rfl (Nat.le_of_ble_eq_true rfl) (mx_put mx_oX3 eh20 (by simp [mm_up_at, upd])) dX3_findBest_122 ?_
        refine mj_aload_n X dX3_findBest_125 1 rfl ?_
        refine mj_iload_n X dX3_findBest_126 4 rfl ?_
        obtain ⟨h21, eh21, hf⟩ := mm_l hf
        refine mj_put X tyX3_ok nmX3 inwX3_findBest_X3 (mx_at mx_oX3 h20) rfl 6 (by decide) rfl lnX3_findBest_1 rfl (tyX3_ok 6 (by decide)) rfl rfl (Nat.le_of_ble_eq_true rfl) (mx_put mx_oX3 eh21 (by simp [mm_up_at, upd])) dX3_findBest_127 ?_
        refine mj_aload_n X dX3_findBest_130 1 rfl ?_
        refine mj_iload X dX3_findBest_131 6 rfl ?_
        obtain ⟨h22, eh22, hf⟩ := mm_l hf
        refine mj_put X tyX3_ok nmX3 inwX3_findBest_X3 (mx_at mx_oX3 h21) rfl 7 (by decide) rfl lnX3_findBest_2 rfl (tyX3_ok 7 (by decide)) rfl rfl (Nat.le_of_ble_eq_true rfl) (mx_put mx_oX3 eh22 (by simp [mm_up_at, upd])) dX3_findBest_133 ?_
        refine mj_iinc (k := 6) (v := (m5 + 1)) (lo' := [(5, .int (m5 + 1)), (6, .int x18), (0, .ref (ad 21)), (1, .int p1), (2, .int p2), (3, .int p3), (4, .int p4)]) X dX3_findBest_136 rfl rfl (by decide) rfl ?_
        refine mj_goto (tgt := 52) X dX3_findBest_139 (by decide) ?_
        exact mj_sub [2, 3, 4, 5, 6, 0] rfl (ih h22 (m5 + 1) hf)
set_option maxHeartbeats 4000000 in
set_option maxRecDepth 100000 in
theorem wX3_findBest_L28 (X : mm_X p s m args c cX3_findBest RX3 wsX3_findBest 7 D (mx_ty cI cT cS) t1 t2 A) (out : mm_M × Unit) (RET : ∀ (h : mm_M) (pc : Nat) (lo : List (Nat × Value)) (v : Unit), decode cX3_findBest pc = .ok (.return_, 1) → (h, v) = out → mm_J p l e rmX3_findBest s m args below meth c 0 0 Q D (mx_w cI cT cS ad) A 7 h pc lo []) (N : Nat)  (p1 : Int32) (p2 : Int32) (k : mm_M → Option (mm_M × Unit)) (HK : ∀ (h : mm_M), k h = some out → mm_J p l e rmX3_findBest s m args below meth c 0 0 Q D (mx_w cI cT cS ad) A 7 h 148 [] []) : ∀ (n : Nat) (h : mm_M) (m3 : Int32), fX3_findBest_L28 N p1 p2 k n h m3 = some out → mm_J p l e rmX3_findBest s m args below meth c 0 0 Q D (mx_w cI cT cS ad) A 7 h 28 [(0, .ref (ad 21)), (1, .int p1), (2, .int p2), (3, .int m3)] [] := by
  intro n
  induction n with
  | zero =>
    intro h m3 hf
    cases hf
  | succ n ih =>
    intro h m3 hf
    rw [fX3_findBest_L28] at hf
    refine mj_iload_n X dX3_findBest_28 3 rfl ?_
    refine mj_bipush (v := (6 : Int32)) X dX3_findBest_29 (by decide) ?_
    refine mj_icmp_ge (tgt := 148) X dX3_findBest_31 (by decide) (fun c7 => ?_) (fun c7 => ?_)
    · have hf := mm_t c7 hf
      exact mj_sub [] rfl (HK h hf)
    · have hf := mm_f c7 hf
      refine mj_aload_n X dX3_findBest_34 0 rfl ?_
      refine mj_get X inwX3_findBest_X3 (mx_at mx_oX3 h) rfl 1 (by decide) rfl lnX3_findBest_5 rfl dX3_findBest_35 ?_
      refine mj_iload_n X dX3_findBest_38 1 rfl ?_
      refine mj_iload_n X dX3_findBest_39 3 rfl ?_
      obtain ⟨h8, r9, q10, hf⟩ := mm_c hf
      refine mj_callVi (As := [.int p1, .int m3]) (rest := []) X (kX0_seatedAt l D t1 t2 cI cT cS ad N h p1 m3 h8 r9 q10) (cwV 2 X.2.2.2.2.1 gX3_findBest_X0_seatedAt rfl rfl rfl (by decide +kernel) ⟨Nat.le_of_ble_eq_true rfl, Nat.le_of_ble_eq_true rfl⟩) (mx_at mx_oX0 h) rfl rfl rfl rfl (Nat.le_of_ble_eq_true rfl) ⟨Nat.zero_le _, Nat.zero_le _⟩ dX3_findBest_40 ?_
      refine mj_iconst (v := (1 : Int32)) X dX3_findBest_43 (by decide) ?_
      refine mj_iload_n X dX3_findBest_44 2 rfl ?_
      refine mj_ishl X dX3_findBest_45 ?_
      refine mj_ior X dX3_findBest_46 ?_
      obtain ⟨x11, ex11, hf⟩ := mm_l hf
      refine mj_topi ex11 ?_
      refine mj_istore (lo' := [(4, .int x11), (0, .ref (ad 21)), (1, .int p1), (2, .int p2), (3, .int m3)]) X dX3_findBest_47 (by decide) rfl ?_
      refine mj_iconst (v := (0 : Int32)) X dX3_findBest_49 (by decide) ?_
      refine mj_istore (lo' := [(5, .int (0 : Int32)), (4, .int x11), (0, .ref (ad 21)), (1, .int p1), (2, .int p2), (3, .int m3)]) X dX3_findBest_50 (by decide) rfl ?_
      refine mj_sub [2, 3, 4, 5, 1, 0] rfl (wX3_findBest_L52 X out RET N p1 p2 m3 x11 _ (fun h23 hf => ?_) N h8 (0 : Int32) hf)
      refine mj_iinc (k := 3) (v := (m3 + 1)) (lo' := [(3, .int (m3 + 1)), (0, .ref (ad 21)), (1, .int p1), (2, .int p2)]) X dX3_findBest_142 rfl rfl (by decide) rfl ?_
      refine mj_goto (tgt := 28) X dX3_findBest_145 (by decide) ?_
      exact mj_sub [1, 2, 3, 0] rfl (ih h23 (m3 + 1) hf)
set_option maxHeartbeats 4000000 in
set_option maxRecDepth 100000 in
theorem kX3_findBest (l : Launch) (D : va_G) (t1 t2 : Nat) (cI : ClassId) (cT : ClassId) (cS : ClassId) (ad : Nat → Nat)  (N : Nat) (h : mm_M) (a0 : Int32) (a1 : Int32) (h1 : mm_M) (r : Unit) (hf : fX3_findBest N h a0 a1 = some (h1, r)) : mm_Kv l yX3_findBest wsX3_findBest rmX3_findBest D (mx_ty cI cT cS) t1 t2 (mx_w cI cT cS ad) [.ref (ad 21), .int a0, .int a1] h h1 := by
  refine mm_open_v [.ref (ad 21), .int a0, .int a1] h h1 RX3 (by decide) rfl rfl (Nat.le_of_ble_eq_true rfl) ?_
  intro p e s m below meth c A X hr hlocks
  have RET : ∀ (h : mm_M) (pc : Nat) (lo : List (Nat × Value)) (v : Unit), decode cX3_findBest pc = .ok (.return_, 1) → (h, v) = (h1, r) → mm_J p l e rmX3_findBest s m ([.ref (ad 21), .int a0, .int a1] : List Value).toArray below meth c 0 0 (MQ below (va_Qv (fun (u : mm_M) => u = h1) (mm_Post D (mx_w cI cT cS ad) A) A) ([.ref (ad 21), .int a0, .int a1] : List Value).toArray s 0 0 A) D (mx_w cI cT cS ad) A 7 h pc lo [] := by
    intro h2 pc lo v hd he
    cases he
    exact mj_vret X hr hlocks hd
  generalize hout : (h1, r) = out at hf RET
  unfold fX3_findBest at hf
  refine mj_lo (lo' := [(0, .ref (ad 21)), (1, .int a0), (2, .int a1)]) rfl ?_
  refine mj_aload_n X dX3_findBest_0 0 rfl ?_
  refine mj_iconst (v := (0 : Int32)) X dX3_findBest_1 (by decide) ?_
  obtain ⟨h1, eh1, hf⟩ := mm_l hf
  refine mj_put X tyX3_ok nmX3 inwX3_findBest_X3 (mx_at mx_oX3 h) rfl 5 (by decide) rfl lnX3_findBest_0 rfl (tyX3_ok 5 (by decide)) rfl rfl (Nat.le_of_ble_eq_true rfl) (mx_put mx_oX3 eh1 (by simp [mm_up_at, upd])) dX3_findBest_2 ?_
  refine mj_aload_n X dX3_findBest_5 0 rfl ?_
  refine mj_iconst (v := (-1 : Int32)) X dX3_findBest_6 (by decide) ?_
  obtain ⟨h2, eh2, hf⟩ := mm_l hf
  refine mj_put X tyX3_ok nmX3 inwX3_findBest_X3 (mx_at mx_oX3 h1) rfl 6 (by decide) rfl lnX3_findBest_1 rfl (tyX3_ok 6 (by decide)) rfl rfl (Nat.le_of_ble_eq_true rfl) (mx_put mx_oX3 eh2 (by simp [mm_up_at, upd])) dX3_findBest_7 ?_
  refine mj_aload_n X dX3_findBest_10 0 rfl ?_
  refine mj_iconst (v := (0 : Int32)) X dX3_findBest_11 (by decide) ?_
  obtain ⟨h3, eh3, hf⟩ := mm_l hf
  refine mj_put X tyX3_ok nmX3 inwX3_findBest_X3 (mx_at mx_oX3 h2) rfl 7 (by decide) rfl lnX3_findBest_2 rfl (tyX3_ok 7 (by decide)) rfl rfl (Nat.le_of_ble_eq_true rfl) (mx_put mx_oX3 eh3 (by simp [mm_up_at, upd])) dX3_findBest_12 ?_
  refine mj_aload_n X dX3_findBest_15 0 rfl ?_
  refine mj_get X inwX3_findBest_X3 (mx_at mx_oX3 h3) rfl 0 (by decide) rfl lnX3_findBest_3 rfl dX3_findBest_16 ?_
  refine mj_aload_n X dX3_findBest_19 0 rfl ?_
  refine mj_get X inwX3_findBest_X3 (mx_at mx_oX3 h3) rfl 2 (by decide) rfl lnX3_findBest_4 rfl dX3_findBest_20 ?_
  obtain ⟨h4, r5, q6, hf⟩ := mm_c hf
  refine mj_callVv (As := [.ref (ad 22)]) (rest := []) X (kX2_tellHandsAtFirst l D t1 t2 cI cT cS ad 22 mx_a22 N h3 h4 r5 q6) (cwV 1 X.2.2.2.2.1 gX3_findBest_X2_tellHandsAtFirst rfl rfl rfl (by decide +kernel) ⟨Nat.le_of_ble_eq_true rfl, Nat.le_of_ble_eq_true rfl⟩) (mx_at mx_oX2 h3) rfl rfl rfl rfl (Nat.le_of_ble_eq_true rfl) ⟨Nat.zero_le _, Nat.zero_le _⟩ dX3_findBest_23 ?_
  refine mj_iconst (v := (0 : Int32)) X dX3_findBest_26 (by decide) ?_
  refine mj_istore_n (lo' := [(3, .int (0 : Int32)), (0, .ref (ad 21)), (1, .int a0), (2, .int a1)]) X dX3_findBest_27 (by decide) rfl ?_
  refine mj_sub [1, 2, 3, 0] rfl (wX3_findBest_L28 X out RET N a0 a1 _ (fun h24 hf => ?_) N h4 (0 : Int32) hf)
  exact RET h24 _ _ _ dX3_findBest_148 (Option.some.inj hf)
abbrev rmX3_bestTold : Room := { frames := 0, cells := 0, slots := 0, locals := 0 }
theorem inwX3_bestTold_X3 : ∀ w ∈ wsX30, w ∈ wsX3_bestTold := by
  intro w hw
  have h9 : wsX30 = (wsX3_bestTold.drop 4).take 10 := rfl
  rw [h9] at hw
  exact List.mem_of_mem_drop (List.mem_of_mem_take hw)
theorem lnX3_bestTold_0 : Cond.fieldLink RX3 36 "RichestPays$Seating" "bestHome" "I" ∈ wsX3_bestTold := List.mem_of_getElem? (i := 3) rfl
theorem lnX3_bestTold_1 : Cond.fieldLink RX3 33 "RichestPays$Seating" "bestTable" "I" ∈ wsX3_bestTold := List.mem_of_getElem? (i := 2) rfl
theorem lnX3_bestTold_2 : Cond.fieldLink RX3 29 "RichestPays$Seating" "bestGain" "I" ∈ wsX3_bestTold := List.mem_of_getElem? (i := 1) rfl
set_option maxHeartbeats 4000000 in
set_option maxRecDepth 100000 in
theorem kX3_bestTold (l : Launch) (D : va_G) (t1 t2 : Nat) (cI : ClassId) (cT : ClassId) (cS : ClassId) (ad : Nat → Nat)  (N : Nat) (h : mm_M) (a0 : Int32) (h1 : mm_M) (r : Int32) (hf : fX3_bestTold N h a0 = some (h1, r)) : mm_Ki l yX3_bestTold wsX3_bestTold rmX3_bestTold D (mx_ty cI cT cS) t1 t2 (mx_w cI cT cS ad) [.ref (ad 21), .int a0] h r h1 := by
  refine mm_open_i [.ref (ad 21), .int a0] h r h1 RX3 (by decide) rfl rfl (Nat.le_of_ble_eq_true rfl) ?_
  intro p e s m below meth c A X hr hlocks
  have RET : ∀ (h : mm_M) (pc : Nat) (lo : List (Nat × Value)) (v : Int32), decode cX3_bestTold pc = .ok (.ireturn, 1) → (h, v) = (h1, r) → mm_J p l e rmX3_bestTold s m ([.ref (ad 21), .int a0] : List Value).toArray below meth c 0 0 (MQ below (va_Qi (fun (r' : Int32) (u : mm_M) => r' = r ∧ u = h1) (mm_Post D (mx_w cI cT cS ad) A) A) ([.ref (ad 21), .int a0] : List Value).toArray s 0 0 A) D (mx_w cI cT cS ad) A 2 h pc lo [.int v] := by
    intro h2 pc lo v hd he
    cases he
    exact mj_iret X hr rfl hlocks hd
  generalize hout : (h1, r) = out at hf RET
  unfold fX3_bestTold at hf
  refine mj_lo (lo' := [(0, .ref (ad 21)), (1, .int a0)]) rfl ?_
  refine mj_iload_n X dX3_bestTold_0 1 rfl ?_
  refine mj_if_ne (tgt := 11) X dX3_bestTold_1 (by decide) (fun c1 => ?_) (fun c1 => ?_)
  · have hf := mm_f c1 hf
    refine mj_iload_n X dX3_bestTold_11 1 rfl ?_
    refine mj_iconst (v := (1 : Int32)) X dX3_bestTold_12 (by decide) ?_
    refine mj_icmp_ne (tgt := 23) X dX3_bestTold_13 (by decide) (fun c2 => ?_) (fun c2 => ?_)
    · have hf := mm_f c2 hf
      refine mj_aload_n X dX3_bestTold_23 0 rfl ?_
      refine mj_get X inwX3_bestTold_X3 (mx_at mx_oX3 h) rfl 7 (by decide) rfl lnX3_bestTold_0 rfl dX3_bestTold_24 ?_
      exact RET h _ _ _ dX3_bestTold_27 (Option.some.inj hf)
    · have hf := mm_t c2 hf
      refine mj_aload_n X dX3_bestTold_16 0 rfl ?_
      refine mj_get X inwX3_bestTold_X3 (mx_at mx_oX3 h) rfl 6 (by decide) rfl lnX3_bestTold_1 rfl dX3_bestTold_17 ?_
      refine mj_goto (tgt := 27) X dX3_bestTold_20 (by decide) ?_
      exact RET h _ _ _ dX3_bestTold_27 (Option.some.inj hf)
  · have hf := mm_t c1 hf
    refine mj_aload_n X dX3_bestTold_4 0 rfl ?_
    refine mj_get X inwX3_bestTold_X3 (mx_at mx_oX3 h) rfl 5 (by decide) rfl lnX3_bestTold_2 rfl dX3_bestTold_5 ?_
    refine mj_goto (tgt := 27) X dX3_bestTold_8 (by decide) ?_
    exact RET h _ _ _ dX3_bestTold_27 (Option.some.inj hf)
end
