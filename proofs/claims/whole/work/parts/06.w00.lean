section
variable {p : Program} {l : Launch} {e : Env} {s : State} {m : MethodId} {args : Array Value} {below : List Frame} {meth : Method} {c : Code} {Q : State → Prop} {D : va_G} {A : Nat → Prop} {t1 t2 : Nat} {cI cT cS cZ : ClassId} {ad : Nat → Nat}
abbrev rmX7_isIn : Room := { frames := 0, cells := 0, slots := 0, locals := 0 }
set_option maxHeartbeats 4000000 in
set_option maxRecDepth 100000 in
theorem kX7_isIn (l : Launch) (D : va_G) (t1 t2 : Nat) (cI : ClassId) (cT : ClassId) (cS : ClassId) (ad : Nat → Nat)  (N : Nat) (h : mm_M) (a0 : Int32) (a1 : Int32) (a2 : Int32) (h1 : mm_M) (r : Int32) (hf : fX7_isIn N h a0 a1 a2 = some (h1, r)) : mm_Ki l yX7_isIn wsX7_isIn rmX7_isIn D (mx_ty cI cT cS) t1 t2 (mx_w cI cT cS ad) [.int a0, .int a1, .int a2] h r h1 := by
  refine mm_open_i [.int a0, .int a1, .int a2] h r h1 RX7 (by decide) rfl rfl (Nat.le_of_ble_eq_true rfl) ?_
  intro p e s m below meth c A X hr hlocks
  have RET : ∀ (h : mm_M) (pc : Nat) (lo : List (Nat × Value)) (v : Int32), decode cX7_isIn pc = .ok (.ireturn, 1) → (v = 0 ∨ v = 1) → (h, v) = (h1, r) → mm_J p l e rmX7_isIn s m ([.int a0, .int a1, .int a2] : List Value).toArray below meth c 0 0 (MQ below (va_Qi (fun (r' : Int32) (u : mm_M) => r' = r ∧ u = h1) (mm_Post D (mx_w cI cT cS ad) A) A) ([.int a0, .int a1, .int a2] : List Value).toArray s 0 0 A) D (mx_w cI cT cS ad) A 3 h pc lo [.int v] := by
    intro h2 pc lo v hd hz he
    cases he
    exact mj_iret X hr (mm_nz hz) hlocks hd
  generalize hout : (h1, r) = out at hf RET
  unfold fX7_isIn at hf
  refine mj_lo (lo' := [(0, .int a0), (1, .int a1), (2, .int a2)]) rfl ?_
  refine mj_iload_n X dX7_isIn_0 0 rfl ?_
  refine mj_iload_n X dX7_isIn_1 1 rfl ?_
  refine mj_icmp_lt (tgt := 14) X dX7_isIn_2 (by decide) (fun c1 => ?_) (fun c1 => ?_)
  · have hf := mm_t c1 hf
    refine mj_iconst (v := (0 : Int32)) X dX7_isIn_14 (by decide) ?_
    exact RET h _ _ _ dX7_isIn_15 (by decide) (Option.some.inj hf)
  · have hf := mm_f c1 hf
    refine mj_iload_n X dX7_isIn_5 0 rfl ?_
    refine mj_iload_n X dX7_isIn_6 2 rfl ?_
    refine mj_icmp_gt (tgt := 14) X dX7_isIn_7 (by decide) (fun c2 => ?_) (fun c2 => ?_)
    · have hf := mm_t c2 hf
      refine mj_iconst (v := (0 : Int32)) X dX7_isIn_14 (by decide) ?_
      exact RET h _ _ _ dX7_isIn_15 (by decide) (Option.some.inj hf)
    · have hf := mm_f c2 hf
      refine mj_iconst (v := (1 : Int32)) X dX7_isIn_10 (by decide) ?_
      refine mj_goto (tgt := 15) X dX7_isIn_11 (by decide) ?_
      exact RET h _ _ _ dX7_isIn_15 (by decide) (Option.some.inj hf)
abbrev rmX6_isSign : Room := { frames := 1, cells := 0, slots := 0, locals := 22 }
theorem lnX6_isSign_0 : Cond.initialized RX7 ∈ wsX6_isSign := List.mem_of_getElem? (i := 2) rfl
theorem lnX6_isSign_1 : Cond.static yX7_isIn ∈ wsX6_isSign := List.mem_of_getElem? (i := 1) rfl
set_option maxHeartbeats 4000000 in
set_option maxRecDepth 100000 in
theorem kX6_isSign (l : Launch) (D : va_G) (t1 t2 : Nat) (cI : ClassId) (cT : ClassId) (cS : ClassId) (ad : Nat → Nat)  (N : Nat) (h : mm_M) (a0 : Int32) (a1 : Int32) (h1 : mm_M) (r : Int32) (hf : fX6_isSign N h a0 a1 = some (h1, r)) : mm_Ki l yX6_isSign wsX6_isSign rmX6_isSign D (mx_ty cI cT cS) t1 t2 (mx_w cI cT cS ad) [.int a0, .int a1] h r h1 := by
  refine mm_open_i [.int a0, .int a1] h r h1 RX6 (by decide) rfl rfl (Nat.le_of_ble_eq_true rfl) ?_
  intro p e s m below meth c A X hr hlocks
  have RET : ∀ (h : mm_M) (pc : Nat) (lo : List (Nat × Value)) (v : Int32), decode cX6_isSign pc = .ok (.ireturn, 1) → (v = 0 ∨ v = 1) → (h, v) = (h1, r) → mm_J p l e rmX6_isSign s m ([.int a0, .int a1] : List Value).toArray below meth c 0 0 (MQ below (va_Qi (fun (r' : Int32) (u : mm_M) => r' = r ∧ u = h1) (mm_Post D (mx_w cI cT cS ad) A) A) ([.int a0, .int a1] : List Value).toArray s 0 0 A) D (mx_w cI cT cS ad) A 2 h pc lo [.int v] := by
    intro h2 pc lo v hd hz he
    cases he
    exact mj_iret X hr (mm_nz hz) hlocks hd
  generalize hout : (h1, r) = out at hf RET
  unfold fX6_isSign at hf
  refine mj_lo (lo' := [(0, .int a0), (1, .int a1)]) rfl ?_
  refine mj_iload_n X dX6_isSign_0 1 rfl ?_
  refine mj_if_eq (tgt := 29) X dX6_isSign_1 (by decide) (fun c1 => ?_) (fun c1 => ?_)
  · have hf := mm_t c1 hf
    refine mj_iload_n X dX6_isSign_29 0 rfl ?_
    refine mj_bipush (v := (48 : Int32)) X dX6_isSign_30 (by decide) ?_
    refine mj_bipush (v := (57 : Int32)) X dX6_isSign_32 (by decide) ?_
    obtain ⟨h2, r3, q4, hf⟩ := mm_c hf
    refine mj_callNi (As := [.int a0, .int (48 : Int32), .int (57 : Int32)]) (rest := []) X (kX7_isIn l D t1 t2 cI cT cS ad N h a0 (48 : Int32) (57 : Int32) h2 r3 q4) ⟨va_cnB 3 X.2.2.2.2.1 gX6_isSign_X7_isIn_n27 rfl rfl rfl X.2.2.2.2.2.2.1.2.2.2 (X.2.2.2.2.1 _ lnX6_isSign_0) (by decide +kernel) ⟨Nat.le_of_ble_eq_true rfl, Nat.le_of_ble_eq_true rfl⟩, X.2.2.2.2.1 _ lnX6_isSign_1, trivial⟩ rfl rfl (Nat.le_of_ble_eq_true rfl) ⟨Nat.zero_le _, Nat.zero_le _⟩ dX6_isSign_34 ?_
    obtain ⟨g5, hf⟩ := mm_g hf
    exact RET h2 _ _ _ dX6_isSign_37 g5 (Option.some.inj hf)
  · have hf := mm_f c1 hf
    refine mj_iload_n X dX6_isSign_4 0 rfl ?_
    refine mj_bipush (v := (45 : Int32)) X dX6_isSign_5 (by decide) ?_
    refine mj_icmp_eq (tgt := 21) X dX6_isSign_7 (by decide) (fun c6 => ?_) (fun c6 => ?_)
    · have hf := mm_t c6 hf
      refine mj_iconst (v := (1 : Int32)) X dX6_isSign_21 (by decide) ?_
      refine mj_goto (tgt := 37) X dX6_isSign_22 (by decide) ?_
      exact RET h _ _ _ dX6_isSign_37 (by decide) (Option.some.inj hf)
    · have hf := mm_f c6 hf
      refine mj_iload_n X dX6_isSign_10 0 rfl ?_
      refine mj_bipush (v := (48 : Int32)) X dX6_isSign_11 (by decide) ?_
      refine mj_bipush (v := (53 : Int32)) X dX6_isSign_13 (by decide) ?_
      obtain ⟨h7, r8, q9, hf⟩ := mm_c hf
      refine mj_callNi (As := [.int a0, .int (48 : Int32), .int (53 : Int32)]) (rest := []) X (kX7_isIn l D t1 t2 cI cT cS ad N h a0 (48 : Int32) (53 : Int32) h7 r8 q9) ⟨va_cnB 3 X.2.2.2.2.1 gX6_isSign_X7_isIn_n27 rfl rfl rfl X.2.2.2.2.2.2.1.2.2.2 (X.2.2.2.2.1 _ lnX6_isSign_0) (by decide +kernel) ⟨Nat.le_of_ble_eq_true rfl, Nat.le_of_ble_eq_true rfl⟩, X.2.2.2.2.1 _ lnX6_isSign_1, trivial⟩ rfl rfl (Nat.le_of_ble_eq_true rfl) ⟨Nat.zero_le _, Nat.zero_le _⟩ dX6_isSign_15 ?_
      refine mj_if_eq (tgt := 25) X dX6_isSign_18 (by decide) (fun c10 => ?_) (fun c10 => ?_)
      · have hf := mm_t c10 hf
        refine mj_iconst (v := (0 : Int32)) X dX6_isSign_25 (by decide) ?_
        refine mj_goto (tgt := 37) X dX6_isSign_26 (by decide) ?_
        exact RET h7 _ _ _ dX6_isSign_37 (by decide) (Option.some.inj hf)
      · have hf := mm_f c10 hf
        refine mj_iconst (v := (1 : Int32)) X dX6_isSign_21 (by decide) ?_
        refine mj_goto (tgt := 37) X dX6_isSign_22 (by decide) ?_
        exact RET h7 _ _ _ dX6_isSign_37 (by decide) (Option.some.inj hf)
abbrev rmX6_faultInRows : Room := { frames := 2, cells := 0, slots := 0, locals := 43 }
theorem inwX6_faultInRows_X6 : ∀ w ∈ wsX60, w ∈ wsX6_faultInRows := by
  intro w hw
  have h9 : wsX60 = (wsX6_faultInRows.drop 10).take 2 := rfl
  rw [h9] at hw
  exact List.mem_of_mem_drop (List.mem_of_mem_take hw)
theorem lnX6_faultInRows_0 : Cond.fieldLink RX6 15 "RichestPays$Text" "length" "I" ∈ wsX6_faultInRows := List.mem_of_getElem? (i := 1) rfl
theorem lnX6_faultInRows_1 : Cond.fieldLink RX6 9 "RichestPays$Text" "bytes" "[I" ∈ wsX6_faultInRows := List.mem_of_getElem? (i := 2) rfl
set_option maxHeartbeats 4000000 in
set_option maxRecDepth 100000 in
theorem wX6_faultInRows_L18 (X : mm_X p s m args c cX6_faultInRows RX6 wsX6_faultInRows 7 D (mx_ty cI cT cS) t1 t2 A) (out : mm_M × Int32) (RET : ∀ (h : mm_M) (pc : Nat) (lo : List (Nat × Value)) (v : Int32), decode cX6_faultInRows pc = .ok (.ireturn, 1) → (h, v) = out → mm_J p l e rmX6_faultInRows s m args below meth c 0 0 Q D (mx_w cI cT cS ad) A 7 h pc lo [.int v]) (N : Nat) (P : Nat) (hP : mx_isX6 P) (p1 : Int32) (p2 : Int32) (p3 : Int32) (k : mm_M → Option (mm_M × Int32)) (HK : ∀ (h : mm_M), k h = some out → mm_J p l e rmX6_faultInRows s m args below meth c 0 0 Q D (mx_w cI cT cS ad) A 7 h 98 [(0, .ref (ad P)), (1, .int p1)] []) : ∀ (n : Nat) (h : mm_M) (m4 : Int32), fX6_faultInRows_L18 N P p1 p2 p3 k n h m4 = some out → mm_J p l e rmX6_faultInRows s m args below meth c 0 0 Q D (mx_w cI cT cS ad) A 7 h 18 [(0, .ref (ad P)), (1, .int p1), (2, .int p2), (3, .int p3), (4, .int m4)] [] := by
  intro n
  induction n with
  | zero =>
    intro h m4 hf
    cases hf
  | succ n ih =>
    intro h m4 hf
    rw [fX6_faultInRows_L18] at hf
    refine mj_iload X dX6_faultInRows_18 4 rfl ?_
    refine mj_aload_n X dX6_faultInRows_20 0 rfl ?_
    refine mj_get X inwX6_faultInRows_X6 (mx_at (mx_oX6 hP) h) rfl 1 (by decide) rfl lnX6_faultInRows_0 rfl dX6_faultInRows_21 ?_
    refine mj_icmp_ge (tgt := 98) X dX6_faultInRows_24 (by decide) (fun c3 => ?_) (fun c3 => ?_)
    · have hf := mm_t c3 hf
      exact mj_sub [0, 1] rfl (HK h hf)
    · have hf := mm_f c3 hf
      refine mj_iload X dX6_faultInRows_27 4 rfl ?_
      refine mj_iload_n X dX6_faultInRows_29 1 rfl ?_
      refine mj_iconst (v := (1 : Int32)) X dX6_faultInRows_30 (by decide) ?_
      refine mj_iadd X dX6_faultInRows_31 ?_
      obtain ⟨g4, hf⟩ := mm_g hf
      refine mj_irem X dX6_faultInRows_32 g4 ?_
      obtain ⟨x5, ex5, hf⟩ := mm_l hf
      refine mj_topi ex5 ?_
      refine mj_istore (lo' := [(5, .int x5), (0, .ref (ad P)), (1, .int p1), (2, .int p2), (3, .int p3), (4, .int m4)]) X dX6_faultInRows_33 (by decide) rfl ?_
      refine mj_iload X dX6_faultInRows_35 0 rfl ?_
      refine mj_iload_n X dX6_faultInRows_37 2 rfl ?_
      refine mj_icmp_ne (tgt := 61) X dX6_faultInRows_38 (by decide) (fun c6 => ?_) (fun c6 => ?_)
      · have hf := mm_f c6 hf
        refine mj_aload_n X dX6_faultInRows_61 1 rfl ?_
        refine mj_get X inwX6_faultInRows_X6 (mx_at (mx_oX6 hP) h) rfl 0 (by decide) rfl lnX6_faultInRows_1 rfl dX6_faultInRows_62 ?_
        refine mj_iload X dX6_faultInRows_65 5 rfl ?_
        obtain ⟨g7, hf⟩ := mm_g hf
        refine mj_iald X 0 (mx_at (mx_bX6 hP) h) rfl g7 dX6_faultInRows_67 ?_
        refine mj_iload_n X dX6_faultInRows_68 4 rfl ?_
        obtain ⟨h8, r9, q10, hf⟩ := mm_c hf
        refine mj_callSi (As := [.int (h (P + 2) m4.toNatClampNeg), .int p3]) (rest := []) X (kX6_isSign l D t1 t2 cI cT cS ad N h ((h (P + 2) m4.toNatClampNeg)) p3 h8 r9 q10) (va_cwS 2 X.2.2.2.2.1 gX6_faultInRows_X6_isSign rfl rfl rfl (by decide +kernel) ⟨Nat.le_of_ble_eq_true rfl, Nat.le_of_ble_eq_true rfl⟩) rfl rfl (Nat.le_of_ble_eq_true rfl) ⟨Nat.zero_le _, Nat.zero_le _⟩ dX6_faultInRows_69 ?_
        refine mj_istore (lo' := [(6, .int r9), (5, .int x5), (0, .ref (ad P)), (1, .int p1), (2, .int p2), (3, .int p3), (4, .int m4)]) X dX6_faultInRows_72 (by decide) rfl ?_
        refine mj_iload X dX6_faultInRows_74 0 rfl ?_
        refine mj_if_eq (tgt := 89) X dX6_faultInRows_76 (by decide) (fun c11 => ?_) (fun c11 => ?_)
        · have hf := mm_t c11 hf
          refine mj_iload X dX6_faultInRows_89 6 rfl ?_
          exact RET h8 _ _ _ dX6_faultInRows_91 (Option.some.inj hf)
        · have hf := mm_f c11 hf
          refine mj_iload X dX6_faultInRows_79 6 rfl ?_
          refine mj_iload_n X dX6_faultInRows_81 3 rfl ?_
          refine mj_iconst (v := (1 : Int32)) X dX6_faultInRows_82 (by decide) ?_
          refine mj_iadd X dX6_faultInRows_83 ?_
          refine mj_idiv X dX6_faultInRows_84 g4 ?_
          refine mj_iload_n X dX6_faultInRows_85 4 rfl ?_
          refine mj_icmp_lt (tgt := 92) X dX6_faultInRows_86 (by decide) (fun c12 => ?_) (fun c12 => ?_)
          · have hf := mm_t c12 hf
            refine mj_iinc (k := 6) (v := (m4 + 1)) (lo' := [(4, .int (m4 + 1)), (6, .int r9), (5, .int x5), (0, .ref (ad P)), (1, .int p1), (2, .int p2), (3, .int p3)]) X dX6_faultInRows_92 rfl rfl (by decide) rfl ?_
            refine mj_goto (tgt := 18) X dX6_faultInRows_95 (by decide) ?_
            exact mj_sub [3, 4, 5, 6, 0] rfl (ih h8 (m4 + 1) hf)
          · have hf := mm_f c12 hf
            refine mj_iload X dX6_faultInRows_89 6 rfl ?_
            exact RET h8 _ _ _ dX6_faultInRows_91 (Option.some.inj hf)
      · have hf := mm_t c6 hf
        refine mj_aload_n X dX6_faultInRows_41 1 rfl ?_
        refine mj_get X inwX6_faultInRows_X6 (mx_at (mx_oX6 hP) h) rfl 0 (by decide) rfl lnX6_faultInRows_1 rfl dX6_faultInRows_42 ?_
        refine mj_iload X dX6_faultInRows_45 5 rfl ?_
        obtain ⟨g13, hf⟩ := mm_g hf
        refine mj_iald X 0 (mx_at (mx_bX6 hP) h) rfl g13 dX6_faultInRows_47 ?_
        refine mj_bipush (v := (59 : Int32)) X dX6_faultInRows_48 (by decide) ?_
        refine mj_icmp_ne (tgt := 57) X dX6_faultInRows_50 (by decide) (fun c14 => ?_) (fun c14 => ?_)
        · have hf := mm_f c14 hf
          refine mj_iconst (v := (0 : Int32)) X dX6_faultInRows_57 (by decide) ?_
          refine mj_goto (tgt := 72) X dX6_faultInRows_58 (by decide) ?_
          refine mj_istore (lo' := [(6, .int (0 : Int32)), (5, .int x5), (0, .ref (ad P)), (1, .int p1), (2, .int p2), (3, .int p3), (4, .int m4)]) X dX6_faultInRows_72 (by decide) rfl ?_
          refine mj_iload X dX6_faultInRows_74 0 rfl ?_
          refine mj_if_eq (tgt := 89) X dX6_faultInRows_76 (by decide) (fun _ => ?_) (fun c15 => absurd c15 (by decide))
          refine mj_iload X dX6_faultInRows_89 6 rfl ?_
          exact RET h _ _ _ dX6_faultInRows_91 (Option.some.inj hf)
        · have hf := mm_t c14 hf
          refine mj_iconst (v := (1 : Int32)) X dX6_faultInRows_53 (by decide) ?_
          refine mj_goto (tgt := 72) X dX6_faultInRows_54 (by decide) ?_
          refine mj_istore (lo' := [(6, .int (1 : Int32)), (5, .int x5), (0, .ref (ad P)), (1, .int p1), (2, .int p2), (3, .int p3), (4, .int m4)]) X dX6_faultInRows_72 (by decide) rfl ?_
          refine mj_iload X dX6_faultInRows_74 0 rfl ?_
          refine mj_if_eq (tgt := 89) X dX6_faultInRows_76 (by decide) (fun c16 => absurd c16 (by decide)) (fun _ => ?_)
          refine mj_iload X dX6_faultInRows_79 6 rfl ?_
          refine mj_iload_n X dX6_faultInRows_81 3 rfl ?_
          refine mj_iconst (v := (1 : Int32)) X dX6_faultInRows_82 (by decide) ?_
          refine mj_iadd X dX6_faultInRows_83 ?_
          refine mj_idiv X dX6_faultInRows_84 g4 ?_
          refine mj_iload_n X dX6_faultInRows_85 4 rfl ?_
          refine mj_icmp_lt (tgt := 92) X dX6_faultInRows_86 (by decide) (fun c17 => ?_) (fun c17 => ?_)
          · have hf := mm_t c17 hf
            refine mj_iinc (k := 6) (v := (m4 + 1)) (lo' := [(4, .int (m4 + 1)), (6, .int (1 : Int32)), (5, .int x5), (0, .ref (ad P)), (1, .int p1), (2, .int p2), (3, .int p3)]) X dX6_faultInRows_92 rfl rfl (by decide) rfl ?_
            refine mj_goto (tgt := 18) X dX6_faultInRows_95 (by decide) ?_
            exact mj_sub [3, 4, 5, 6, 0] rfl (ih h (m4 + 1) hf)
          · have hf := mm_f c17 hf
            refine mj_iload X dX6_faultInRows_89 6 rfl ?_
            exact RET h _ _ _ dX6_faultInRows_91 (Option.some.inj hf)
set_option maxHeartbeats 4000000 in
set_option maxRecDepth 100000 in
theorem kX6_faultInRows (l : Launch) (D : va_G) (t1 t2 : Nat) (cI : ClassId) (cT : ClassId) (cS : ClassId) (ad : Nat → Nat) (P : Nat) (hP : mx_isX6 P) (N : Nat) (h : mm_M) (a0 : Int32) (a1 : Int32) (a2 : Int32) (h1 : mm_M) (r : Int32) (hf : fX6_faultInRows N P h a0 a1 a2 = some (h1, r)) : mm_Ki l yX6_faultInRows wsX6_faultInRows rmX6_faultInRows D (mx_ty cI cT cS) t1 t2 (mx_w cI cT cS ad) [.ref (ad P), .int a0, .int a1, .int a2] h r h1 := by
  refine mm_open_i [.ref (ad P), .int a0, .int a1, .int a2] h r h1 RX6 (by decide) rfl rfl (Nat.le_of_ble_eq_true rfl) ?_
  intro p e s m below meth c A X hr hlocks
  have RET : ∀ (h : mm_M) (pc : Nat) (lo : List (Nat × Value)) (v : Int32), decode cX6_faultInRows pc = .ok (.ireturn, 1) → (h, v) = (h1, r) → mm_J p l e rmX6_faultInRows s m ([.ref (ad P), .int a0, .int a1, .int a2] : List Value).toArray below meth c 0 0 (MQ below (va_Qi (fun (r' : Int32) (u : mm_M) => r' = r ∧ u = h1) (mm_Post D (mx_w cI cT cS ad) A) A) ([.ref (ad P), .int a0, .int a1, .int a2] : List Value).toArray s 0 0 A) D (mx_w cI cT cS ad) A 7 h pc lo [.int v] := by
    intro h2 pc lo v hd he
    cases he
    exact mj_iret X hr rfl hlocks hd
  generalize hout : (h1, r) = out at hf RET
  unfold fX6_faultInRows at hf
  refine mj_lo (lo' := [(0, .ref (ad P)), (1, .int a0), (2, .int a1), (3, .int a2)]) rfl ?_
  refine mj_aload_n X dX6_faultInRows_0 0 rfl ?_
  refine mj_get X inwX6_faultInRows_X6 (mx_at (mx_oX6 hP) h) rfl 1 (by decide) rfl lnX6_faultInRows_0 rfl dX6_faultInRows_1 ?_
  refine mj_if_ne (tgt := 9) X dX6_faultInRows_4 (by decide) (fun c1 => ?_) (fun c1 => ?_)
  · have hf := mm_f c1 hf
    refine mj_iload_n X dX6_faultInRows_9 1 rfl ?_
    refine mj_if_gt (tgt := 15) X dX6_faultInRows_10 (by decide) (fun c2 => ?_) (fun c2 => ?_)
    · have hf := mm_t c2 hf
      refine mj_iconst (v := (0 : Int32)) X dX6_faultInRows_15 (by decide) ?_
      refine mj_istore (lo' := [(4, .int (0 : Int32)), (0, .ref (ad P)), (1, .int a0), (2, .int a1), (3, .int a2)]) X dX6_faultInRows_16 (by decide) rfl ?_
      refine mj_sub [1, 2, 3, 4, 0] rfl (wX6_faultInRows_L18 X out RET N P hP a0 a1 a2 _ (fun h18 hf => ?_) N h (0 : Int32) hf)
      refine mj_aload_n X dX6_faultInRows_98 0 rfl ?_
      refine mj_get X inwX6_faultInRows_X6 (mx_at (mx_oX6 hP) h18) rfl 1 (by decide) rfl lnX6_faultInRows_0 rfl dX6_faultInRows_99 ?_
      refine mj_iload_n X dX6_faultInRows_102 1 rfl ?_
      refine mj_iconst (v := (1 : Int32)) X dX6_faultInRows_103 (by decide) ?_
      refine mj_iadd X dX6_faultInRows_104 ?_
      obtain ⟨g19, hf⟩ := mm_g hf
      refine mj_irem X dX6_faultInRows_105 g19 ?_
      refine mj_iload_n X dX6_faultInRows_106 1 rfl ?_
      refine mj_icmp_ne (tgt := 114) X dX6_faultInRows_107 (by decide) (fun c20 => ?_) (fun c20 => ?_)
      · have hf := mm_f c20 hf
        refine mj_aload_n X dX6_faultInRows_114 0 rfl ?_
        refine mj_get X inwX6_faultInRows_X6 (mx_at (mx_oX6 hP) h18) rfl 1 (by decide) rfl lnX6_faultInRows_0 rfl dX6_faultInRows_115 ?_
        exact RET h18 _ _ _ dX6_faultInRows_118 (Option.some.inj hf)
      · have hf := mm_t c20 hf
        refine mj_iconst (v := (-1 : Int32)) X dX6_faultInRows_110 (by decide) ?_
        refine mj_goto (tgt := 118) X dX6_faultInRows_111 (by decide) ?_
        exact RET h18 _ _ _ dX6_faultInRows_118 (Option.some.inj hf)
    · have hf := mm_f c2 hf
      refine mj_iconst (v := (0 : Int32)) X dX6_faultInRows_13 (by decide) ?_
      exact RET h _ _ _ dX6_faultInRows_14 (Option.some.inj hf)
  · have hf := mm_t c1 hf
    refine mj_iconst (v := (-1 : Int32)) X dX6_faultInRows_7 (by decide) ?_
    exact RET h _ _ _ dX6_faultInRows_8 (Option.some.inj hf)
abbrev rmX0_seat : Room := { frames := 1, cells := 0, slots := 0, locals := 22 }
theorem inwX0_seat_X0 : ∀ w ∈ wsX00, w ∈ wsX0_seat := by
  intro w hw
  have h9 : wsX00 = (wsX0_seat.drop 6).take 11 := rfl
  rw [h9] at hw
  exact List.mem_of_mem_drop (List.mem_of_mem_take hw)
theorem lnX0_seat_0 : Cond.fieldLink RX0 9 "RichestPays$Evening" "tables" "[I" ∈ wsX0_seat := List.mem_of_getElem? (i := 1) rfl
theorem lnX0_seat_1 : Cond.initialized RX7 ∈ wsX0_seat := List.mem_of_getElem? (i := 4) rfl
theorem lnX0_seat_2 : Cond.static yX7_isIn ∈ wsX0_seat := List.mem_of_getElem? (i := 3) rfl
theorem lnX0_seat_3 : Cond.fieldLink RX0 15 "RichestPays$Evening" "groups" "[I" ∈ wsX0_seat := List.mem_of_getElem? (i := 2) rfl
set_option maxHeartbeats 4000000 in
set_option maxRecDepth 100000 in
theorem kX0_seat (l : Launch) (D : va_G) (t1 t2 : Nat) (cI : ClassId) (cT : ClassId) (cS : ClassId) (ad : Nat → Nat)  (N : Nat) (h : mm_M) (a0 : Int32) (a1 : Int32) (a2 : Int32) (h1 : mm_M) (r : Unit) (hf : fX0_seat N h a0 a1 a2 = some (h1, r)) : mm_Kv l yX0_seat wsX0_seat rmX0_seat D (mx_ty cI cT cS) t1 t2 (mx_w cI cT cS ad) [.ref (ad 12), .int a0, .int a1, .int a2] h h1 := by
  refine mm_open_v [.ref (ad 12), .int a0, .int a1, .int a2] h h1 RX0 (by decide) rfl rfl (Nat.le_of_ble_eq_true rfl) ?_
  intro p e s m below meth c A X hr hlocks
  have RET : ∀ (h : mm_M) (pc : Nat) (lo : List (Nat × Value)) (v : Unit), decode cX0_seat pc = .ok (.return_, 1) → (h, v) = (h1, r) → mm_J p l e rmX0_seat s m ([.ref (ad 12), .int a0, .int a1, .int a2] : List Value).toArray below meth c 0 0 (MQ below (va_Qv (fun (u : mm_M) => u = h1) (mm_Post D (mx_w cI cT cS ad) A) A) ([.ref (ad 12), .int a0, .int a1, .int a2] : List Value).toArray s 0 0 A) D (mx_w cI cT cS ad) A 5 h pc lo [] := by
    intro h2 pc lo v hd he
    cases he
    exact mj_vret X hr hlocks hd
  generalize hout : (h1, r) = out at hf RET
  unfold fX0_seat at hf
  refine mj_lo (lo' := [(0, .ref (ad 12)), (1, .int a0), (2, .int a1), (3, .int a2)]) rfl ?_
  refine mj_iload_n X dX0_seat_0 3 rfl ?_
  refine mj_bipush (v := (45 : Int32)) X dX0_seat_1 (by decide) ?_
  refine mj_icmp_ne (tgt := 10) X dX0_seat_3 (by decide) (fun c1 => ?_) (fun c1 => ?_)
  · have hf := mm_f c1 hf
    refine mj_iload_n X dX0_seat_10 3 rfl ?_
    refine mj_bipush (v := (48 : Int32)) X dX0_seat_11 (by decide) ?_
    refine mj_isub X dX0_seat_13 ?_
    obtain ⟨x2, ex2, hf⟩ := mm_l hf
    refine mj_topi ex2 ?_
    refine mj_istore (lo' := [(4, .int x2), (0, .ref (ad 12)), (1, .int a0), (2, .int a1), (3, .int a2)]) X dX0_seat_14 (by decide) rfl ?_
    refine mj_aload_n X dX0_seat_16 1 rfl ?_
    refine mj_get X inwX0_seat_X0 (mx_at mx_oX0 h) rfl 1 (by decide) rfl lnX0_seat_0 rfl dX0_seat_17 ?_
    refine mj_iload_n X dX0_seat_20 2 rfl ?_
    refine mj_bipush (v := (6 : Int32)) X dX0_seat_21 (by decide) ?_
    refine mj_imul X dX0_seat_23 ?_
    refine mj_iload_n X dX0_seat_24 3 rfl ?_
    refine mj_iadd X dX0_seat_25 ?_
    refine mj_iload X dX0_seat_26 0 rfl ?_
    obtain ⟨g3, hf⟩ := mm_g hf
    obtain ⟨h4, eh4, hf⟩ := mm_l hf
    refine mj_iast X 0 (mx_at mx_a13 h) rfl g3 (mx_ast mx_a13 eh4) dX0_seat_28 ?_
    refine mj_iload X dX0_seat_29 0 rfl ?_
    refine mj_iconst (v := (0 : Int32)) X dX0_seat_31 (by decide) ?_
    refine mj_iconst (v := (5 : Int32)) X dX0_seat_32 (by decide) ?_
    obtain ⟨h5, r6, q7, hf⟩ := mm_c hf
    refine mj_callNi (As := [.int x2, .int (0 : Int32), .int (5 : Int32)]) (rest := []) X (kX7_isIn l D t1 t2 cI cT cS ad N h4 x2 (0 : Int32) (5 : Int32) h5 r6 q7) ⟨va_cnB 3 X.2.2.2.2.1 gX0_seat_X7_isIn_n68 rfl rfl rfl X.2.2.2.2.2.2.1.2.2.1 (X.2.2.2.2.1 _ lnX0_seat_1) (by decide +kernel) ⟨Nat.le_of_ble_eq_true rfl, Nat.le_of_ble_eq_true rfl⟩, X.2.2.2.2.1 _ lnX0_seat_2, trivial⟩ rfl rfl (Nat.le_of_ble_eq_true rfl) ⟨Nat.zero_le _, Nat.zero_le _⟩ dX0_seat_33 ?_
    refine mj_if_eq (tgt := 57) X dX0_seat_36 (by decide) (fun c8 => ?_) (fun c8 => ?_)
    · have hf := mm_t c8 hf
      exact RET h5 _ _ _ dX0_seat_57 (Option.some.inj hf)
    · have hf := mm_f c8 hf
      refine mj_aload_n X dX0_seat_39 1 rfl ?_
      refine mj_get X inwX0_seat_X0 (mx_at mx_oX0 h5) rfl 2 (by decide) rfl lnX0_seat_3 rfl dX0_seat_40 ?_
      refine mj_iload_n X dX0_seat_43 2 rfl ?_
      refine mj_bipush (v := (6 : Int32)) X dX0_seat_44 (by decide) ?_
      refine mj_imul X dX0_seat_46 ?_
      refine mj_iload X dX0_seat_47 0 rfl ?_
      refine mj_iadd X dX0_seat_49 ?_
      refine mj_dup2 X dX0_seat_50 rfl rfl ?_
      obtain ⟨g9, hf⟩ := mm_g hf
      refine mj_iald X 0 (mx_at mx_a14 h5) rfl g9 dX0_seat_51 ?_
      refine mj_iconst (v := (1 : Int32)) X dX0_seat_52 (by decide) ?_
      refine mj_iload_n X dX0_seat_53 3 rfl ?_
      refine mj_ishl X dX0_seat_54 ?_
      refine mj_ior X dX0_seat_55 ?_
      obtain ⟨h10, eh10, hf⟩ := mm_l hf
      refine mj_iast X 0 (mx_at mx_a14 h5) rfl g9 (mx_ast mx_a14 eh10) dX0_seat_56 ?_
      exact RET h10 _ _ _ dX0_seat_57 (Option.some.inj hf)
  · have hf := mm_t c1 hf
    refine mj_iconst (v := (-1 : Int32)) X dX0_seat_6 (by decide) ?_
    refine mj_goto (tgt := 14) X dX0_seat_7 (by decide) ?_
    refine mj_istore (lo' := [(4, .int (-1 : Int32)), (0, .ref (ad 12)), (1, .int a0), (2, .int a1), (3, .int a2)]) X dX0_seat_14 (by decide) rfl ?_
    refine mj_aload_n X dX0_seat_16 1 rfl ?_
    refine mj_get X inwX0_seat_X0 (mx_at mx_oX0 h) rfl 1 (by decide) rfl lnX0_seat_0 rfl dX0_seat_17 ?_
    refine mj_iload_n X dX0_seat_20 2 rfl ?_
    refine mj_bipush (v := (6 : Int32)) X dX0_seat_21 (by decide) ?_
    refine mj_imul X dX0_seat_23 ?_
    refine mj_iload_n X dX0_seat_24 3 rfl ?_
    refine mj_iadd X dX0_seat_25 ?_
    refine mj_iload X dX0_seat_26 0 rfl ?_
    obtain ⟨g11, hf⟩ := mm_g hf
    obtain ⟨h12, eh12, hf⟩ := mm_l hf
    refine mj_iast X 0 (mx_at mx_a13 h) rfl g11 (mx_ast mx_a13 eh12) dX0_seat_28 ?_
    refine mj_iload X dX0_seat_29 0 rfl ?_
    refine mj_iconst (v := (0 : Int32)) X dX0_seat_31 (by decide) ?_
    refine mj_iconst (v := (5 : Int32)) X dX0_seat_32 (by decide) ?_
    obtain ⟨h13, r14, q15, hf⟩ := mm_c hf
    refine mj_callNi (As := [.int (-1 : Int32), .int (0 : Int32), .int (5 : Int32)]) (rest := []) X (kX7_isIn l D t1 t2 cI cT cS ad N h12 (-1 : Int32) (0 : Int32) (5 : Int32) h13 r14 q15) ⟨va_cnB 3 X.2.2.2.2.1 gX0_seat_X7_isIn_n68 rfl rfl rfl X.2.2.2.2.2.2.1.2.2.1 (X.2.2.2.2.1 _ lnX0_seat_1) (by decide +kernel) ⟨Nat.le_of_ble_eq_true rfl, Nat.le_of_ble_eq_true rfl⟩, X.2.2.2.2.1 _ lnX0_seat_2, trivial⟩ rfl rfl (Nat.le_of_ble_eq_true rfl) ⟨Nat.zero_le _, Nat.zero_le _⟩ dX0_seat_33 ?_
    refine mj_if_eq (tgt := 57) X dX0_seat_36 (by decide) (fun c16 => ?_) (fun c16 => ?_)
    · have hf := mm_t c16 hf
      exact RET h13 _ _ _ dX0_seat_57 (Option.some.inj hf)
    · have hf := mm_f c16 hf
      refine mj_aload_n X dX0_seat_39 1 rfl ?_
      refine mj_get X inwX0_seat_X0 (mx_at mx_oX0 h13) rfl 2 (by decide) rfl lnX0_seat_3 rfl dX0_seat_40 ?_
      refine mj_iload_n X dX0_seat_43 2 rfl ?_
      refine mj_bipush (v := (6 : Int32)) X dX0_seat_44 (by decide) ?_
      refine mj_imul X dX0_seat_46 ?_
      refine mj_iload X dX0_seat_47 0 rfl ?_
      refine mj_iadd X dX0_seat_49 ?_
      refine mj_dup2 X dX0_seat_50 rfl rfl ?_
      obtain ⟨g17, hf⟩ := mm_g hf
      refine mj_iald X 0 (mx_at mx_a14 h13) rfl g17 dX0_seat_51 ?_
      refine mj_iconst (v := (1 : Int32)) X dX0_seat_52 (by decide) ?_
      refine mj_iload_n X dX0_seat_53 3 rfl ?_
      refine mj_ishl X dX0_seat_54 ?_
      refine mj_ior X dX0_seat_55 ?_
      obtain ⟨h18, eh18, hf⟩ := mm_l hf
      refine mj_iast X 0 (mx_at mx_a14 h13) rfl g17 (mx_ast mx_a14 eh18) dX0_seat_56 ?_
      exact RET h18 _ _ _ dX0_seat_57 (Option.some.inj hf)
abbrev rmX0_understand : Room := { frames := 3, cells := 0, slots := 0, locals := 69 }
theorem inwX0_understand_X0 : ∀ w ∈ wsX00, w ∈ wsX0_understand := by
  intro w hw
  have h9 : wsX00 = (wsX0_understand.drop 27).take 11 := rfl
  rw [h9] at hw
  exact List.mem_of_mem_drop (List.mem_of_mem_take hw)
theorem lnX0_understand_0 : Cond.fieldLink RX0 43 "RichestPays$Evening" "people" "LRichestPays$People;" ∈ wsX0_understand := List.mem_of_getElem? (i := 1) rfl
theorem inwX0_understand_X2 : ∀ w ∈ wsX20, w ∈ wsX0_understand := by
  intro w hw
  have h9 : wsX20 = (wsX0_understand.drop 38).take 9 := rfl
  rw [h9] at hw
  exact List.mem_of_mem_drop (List.mem_of_mem_take hw)
theorem lnX0_understand_1 : Cond.fieldLink RX0 47 "RichestPays$People" "number" "I" ∈ wsX0_understand := List.mem_of_getElem? (i := 2) rfl
theorem lnX0_understand_2 : Cond.fieldLink RX0 40 "RichestPays$Evening" "textFault" "I" ∈ wsX0_understand := List.mem_of_getElem? (i := 3) rfl
theorem lnX0_understand_3 : Cond.fieldLink RX0 36 "RichestPays$Evening" "rounds" "I" ∈ wsX0_understand := List.mem_of_getElem? (i := 5) rfl
theorem lnX0_understand_4 : Cond.fieldLink RX0 15 "RichestPays$Evening" "groups" "[I" ∈ wsX0_understand := List.mem_of_getElem? (i := 6) rfl
theorem inwX0_understand_X6 : ∀ w ∈ wsX60, w ∈ wsX0_understand := by
  intro w hw
  have h9 : wsX60 = (wsX0_understand.drop 47).take 2 := rfl
  rw [h9] at hw
  exact List.mem_of_mem_drop (List.mem_of_mem_take hw)
theorem lnX0_understand_5 : Cond.fieldLink RX0 61 "RichestPays$Text" "bytes" "[I" ∈ wsX0_understand := List.mem_of_getElem? (i := 7) rfl
theorem lnX0_understand_6 : Cond.fieldLink RX0 58 "RichestPays$Text" "length" "I" ∈ wsX0_understand := List.mem_of_getElem? (i := 4) rfl
set_option maxHeartbeats 4000000 in
set_option maxRecDepth 100000 in
theorem wX0_understand_L57 (X : mm_X p s m args c cX0_understand RX0 wsX0_understand 5 D (mx_ty cI cT cS) t1 t2 A) (out : mm_M × Unit) (RET : ∀ (h : mm_M) (pc : Nat) (lo : List (Nat × Value)) (v : Unit), decode cX0_understand pc = .ok (.return_, 1) → (h, v) = out → mm_J p l e rmX0_understand s m args below meth c 0 0 Q D (mx_w cI cT cS ad) A 5 h pc lo []) (N : Nat) (Q0 : Nat) (hQ0 : mx_isX6 Q0) (p2 : Int32) (k : mm_M → Option (mm_M × Unit)) (HK : ∀ (h : mm_M), k h = some out → mm_J p l e rmX0_understand s m args below meth c 0 0 Q D (mx_w cI cT cS ad) A 5 h 76 [(0, .ref (ad 12)), (1, .ref (ad Q0)), (2, .int p2)] []) : ∀ (n : Nat) (h : mm_M) (m3 : Int32), fX0_understand_L57 N Q0 p2 k n h m3 = some out → mm_J p l e rmX0_understand s m args below meth c 0 0 Q D (mx_w cI cT cS ad) A 5 h 57 [(0, .ref (ad 12)), (1, .ref (ad Q0)), (2, .int p2), (3, .int m3)] [] := by
  intro n
  induction n with
  | zero =>
    intro h m3 hf
    cases hf
  | succ n ih =>
    intro h m3 hf
    rw [fX0_understand_L57] at hf
    refine mj_iload_n X dX0_understand_57 3 rfl ?_
    refine mj_bipush (v := (48 : Int32)) X dX0_understand_58 (by decide) ?_
    refine mj_icmp_ge (tgt := 76) X dX0_understand_60 (by decide) (fun c8 => ?_) (fun c8 => ?_)
    · have hf := mm_t c8 hf
      exact mj_sub [0, 1, 2] rfl (HK h hf)
    · have hf := mm_f c8 hf
      refine mj_aload_n X dX0_understand_63 0 rfl ?_
      refine mj_get X inwX0_understand_X0 (mx_at mx_oX0 h) rfl 2 (by decide) rfl lnX0_understand_4 rfl dX0_understand_64 ?_
      refine mj_iload_n X dX0_understand_67 3 rfl ?_
      refine mj_iconst (v := (0 : Int32)) X dX0_understand_68 (by decide) ?_
      obtain ⟨g9, hf⟩ := mm_g hf
      obtain ⟨h10, eh10, hf⟩ := mm_l hf
      refine mj_iast X 0 (mx_at mx_a14 h) rfl g9 (mx_ast mx_a14 eh10) dX0_understand_69 ?_
      refine mj_iinc (k := 3) (v := (m3 + 1)) (lo' := [(3, .int (m3 + 1)), (0, .ref (ad 12)), (1, .ref (ad Q0)), (2, .int p2)]) X dX0_understand_70 rfl rfl (by decide) rfl ?_
      refine mj_goto (tgt := 57) X dX0_understand_73 (by decide) ?_
      exact mj_sub [1, 2, 3, 0] rfl (ih h10 (m3 + 1) hf)
set_option maxHeartbeats 4000000 in
set_option maxRecDepth 100000 in
theorem wX0_understand_L89 (X : mm_X p s m args c cX0_understand RX0 wsX0_understand 5 D (mx_ty cI cT cS) t1 t2 A) (out : mm_M × Unit) (RET : ∀ (h : mm_M) (pc : Nat) (lo : List (Nat × Value)) (v : Unit), decode cX0_understand pc = .ok (.return_, 1) → (h, v) = out → mm_J p l e rmX0_understand s m args below meth c 0 0 Q D (mx_w cI cT cS ad) A 5 h pc lo []) (N : Nat) (Q0 : Nat) (hQ0 : mx_isX6 Q0) (p2 : Int32) (p3 : Int32) (k : mm_M → Option (mm_M × Unit)) (HK : ∀ (h : mm_M), k h = some out → mm_J p l e rmX0_understand s m args below meth c 0 0 Q D (mx_w cI cT cS ad) A 5 h 121 [(0, .ref (ad 12)), (1, .ref (ad Q0)), (2, .int p2), (3, .int p3)] []) : ∀ (n : Nat) (h : mm_M) (m4 : Int32), fX0_understand_L89 N Q0 p2 p3 k n h m4 = some out → mm_J p l e rmX0_understand s m args below meth c 0 0 Q D (mx_w cI cT cS ad) A 5 h 89 [(0, .ref (ad 12)), (1, .ref (ad Q0)), (2, .int p2), (3, .int p3), (4, .int m4)] [] := by
  intro n
  induction n with
  | zero =>
    intro h m4 hf
    cases hf
  | succ n ih =>
    intro h m4 hf
    rw [fX0_understand_L89] at hf
    refine mj_iload X dX0_understand_89 4 rfl ?_
    refine mj_iload_n X dX0_understand_91 2 rfl ?_
    refine mj_icmp_ge (tgt := 121) X dX0_understand_92 (by decide) (fun c13 => ?_) (fun c13 => ?_)
    · have hf := mm_t c13 hf
      exact mj_sub [0, 1, 2, 3] rfl (HK h hf)
    · have hf := mm_f c13 hf
      refine mj_aload_n X dX0_understand_95 0 rfl ?_
      refine mj_iload_n X dX0_understand_96 3 rfl ?_
      refine mj_iload X dX0_understand_97 4 rfl ?_
      refine mj_aload_n X dX0_understand_99 1 rfl ?_
      refine mj_get X inwX0_understand_X6 (mx_at (mx_oX6 hQ0) h) rfl 0 (by decide) rfl lnX0_understand_5 rfl dX0_understand_100 ?_
      refine mj_iload_n X dX0_understand_103 3 rfl ?_
      refine mj_iload_n X dX0_understand_104 2 rfl ?_
      refine mj_iconst (v := (1 : Int32)) X dX0_understand_105 (by decide) ?_
      refine mj_iadd X dX0_understand_106 ?_
      refine mj_imul X dX0_understand_107 ?_
      refine mj_iload X dX0_understand_108 4 rfl ?_
      refine mj_iadd X dX0_understand_110 ?_
      obtain ⟨g14, hf⟩ := mm_g hf
      refine mj_iald X 0 (mx_at (mx_bX6 hQ0) h) rfl g14 dX0_understand_111 ?_
      obtain ⟨h15, r16, q17, hf⟩ := mm_c hf
      refine mj_callVv (As := [.int p3, .int m4, .int (h (Q0 + 2) ((p3 * (p2 + (1 : Int32))) + m4).toNatClampNeg)]) (rest := []) X (kX0_seat l D t1 t2 cI cT cS ad N h p3 m4 ((h (Q0 + 2) ((p3 * (p2 + (1 : Int32))) + m4).toNatClampNeg)) h15 r16 q17) (cwV 3 X.2.2.2.2.1 gX0_understand_X0_seat rfl rfl rfl (by decide +kernel) ⟨Nat.le_of_ble_eq_true rfl, Nat.le_of_ble_eq_true rfl⟩) (mx_at mx_oX0 h) rfl rfl rfl rfl (Nat.le_of_ble_eq_true rfl) ⟨Nat.zero_le _, Nat.zero_le _⟩ dX0_understand_112 ?_
      refine mj_iinc (k := 4) (v := (m4 + 1)) (lo' := [(4, .int (m4 + 1)), (0, .ref (ad 12)), (1, .ref (ad Q0)), (2, .int p2), (3, .int p3)]) X dX0_understand_115 rfl rfl (by decide) rfl ?_
      refine mj_goto (tgt := 89) X dX0_understand_118 (by decide) ?_
      exact mj_sub [1, 2, 3, 4, 0] rfl (ih h15 (m4 + 1) hf)
set_option maxHeartbeats 4000000 in
set_option maxRecDepth 100000 in
theorem wX0_understand_L78 (X : mm_X p s m args c cX0_understand RX0 wsX0_understand 5 D (mx_ty cI cT cS) t1 t2 A) (out : mm_M × Unit) (RET : ∀ (h : mm_M) (pc : Nat) (lo : List (Nat × Value)) (v : Unit), decode cX0_understand pc = .ok (.return_, 1) → (h, v) = out → mm_J p l e rmX0_understand s m args below meth c 0 0 Q D (mx_w cI cT cS ad) A 5 h pc lo []) (N : Nat) (Q0 : Nat) (hQ0 : mx_isX6 Q0) (p2 : Int32) (k : mm_M → Option (mm_M × Unit)) (HK : ∀ (h : mm_M), k h = some out → mm_J p l e rmX0_understand s m args below meth c 0 0 Q D (mx_w cI cT cS ad) A 5 h 127 [] []) : ∀ (n : Nat) (h : mm_M) (m3 : Int32), fX0_understand_L78 N Q0 p2 k n h m3 = some out → mm_J p l e rmX0_understand s m args below meth c 0 0 Q D (mx_w cI cT cS ad) A 5 h 78 [(0, .ref (ad 12)), (1, .ref (ad Q0)), (2, .int p2), (3, .int m3)] [] := by
  intro n
  induction n with
  | zero =>
    intro h m3 hf
    cases hf
  | succ n ih =>
    intro h m3 hf
    rw [fX0_understand_L78] at hf
    refine mj_iload_n X dX0_understand_78 3 rfl ?_
    refine mj_aload_n X dX0_understand_79 0 rfl ?_
    refine mj_get X inwX0_understand_X0 (mx_at mx_oX0 h) rfl 9 (by decide) rfl lnX0_understand_3 rfl dX0_understand_80 ?_
    refine mj_icmp_ge (tgt := 127) X dX0_understand_83 (by decide) (fun c12 => ?_) (fun c12 => ?_)
    · have hf := mm_t c12 hf
      exact mj_sub [] rfl (HK h hf)
    · have hf := mm_f c12 hf
      refine mj_iconst (v := (0 : Int32)) X dX0_understand_86 (by decide) ?_
      refine mj_istore (lo' := [(4, .int (0 : Int32)), (0, .ref (ad 12)), (1, .ref (ad Q0)), (2, .int p2), (3, .int m3)]) X dX0_understand_87 (by decide) rfl ?_
      refine mj_sub [1, 2, 3, 4, 0] rfl (wX0_understand_L89 X out RET N Q0 hQ0 p2 m3 _ (fun h18 hf => ?_) N h (0 : Int32) hf)
      refine mj_iinc (k := 3) (v := (m3 + 1)) (lo' := [(3, .int (m3 + 1)), (0, .ref (ad 12)), (1, .ref (ad Q0)), (2, .int p2)]) X dX0_understand_121 rfl rfl (by decide) rfl ?_
      refine mj_goto (tgt := 78) X dX0_understand_124 (by decide) ?_
      exact mj_sub [1, 2, 3, 0] rfl (ih h18 (m3 + 1) hf)
set_option maxHeartbeats 4000000 in
set_option maxRecDepth 100000 in
theorem kX0_understand (l : Launch) (D : va_G) (t1 t2 : Nat) (cI : ClassId) (cT : ClassId) (cS : ClassId) (ad : Nat → Nat) (Q0 : Nat) (hQ0 : mx_isX6 Q0) (N : Nat) (h : mm_M)  (h1 : mm_M) (r : Unit) (hf : fX0_understand N Q0 h = some (h1, r)) : mm_Kv l yX0_understand wsX0_understand rmX0_understand D (mx_ty cI cT cS) t1 t2 (mx_w cI cT cS ad) [.ref (ad 12), .ref (ad Q0)] h h1 := by
  refine mm_open_v [.ref (ad 12), .ref (ad Q0)] h h1 RX0 (by decide) rfl rfl (Nat.le_of_ble_eq_true rfl) ?_
  intro p e s m below meth c A X hr hlocks
  have RET : ∀ (h : mm_M) (pc : Nat) (lo : List (Nat × Value)) (v : Unit), decode cX0_understand pc = .ok (.return_, 1) → (h, v) = (h1, r) → mm_J p l e rmX0_understand s m ([.ref (ad 12), .ref (ad Q0)] : List Value).toArray below meth c 0 0 (MQ below (va_Qv (fun (u : mm_M) => u = h1) (mm_Post D (mx_w cI cT cS ad) A) A) ([.ref (ad 12), .ref (ad Q0)] : List Value).toArray s 0 0 A) D (mx_w cI cT cS ad) A 5 h pc lo [] := by
    intro h2 pc lo v hd he
    cases he
    exact mj_vret X hr hlocks hd
  generalize hout : (h1, r) = out at hf RET
  unfold fX0_understand at hf
  refine mj_lo (lo' := [(0, .ref (ad 12)), (1, .ref (ad Q0))]) rfl ?_
  refine mj_aload_n X dX0_understand_0 0 rfl ?_
  refine mj_get X inwX0_understand_X0 (mx_at mx_oX0 h) rfl 0 (by decide) rfl lnX0_understand_0 rfl dX0_understand_1 ?_
  refine mj_get X inwX0_understand_X2 (mx_at mx_oX2 h) rfl 5 (by decide) rfl lnX0_understand_1 rfl dX0_understand_4 ?_
  refine mj_istore_n (lo' := [(2, .int (h 6 5)), (0, .ref (ad 12)), (1, .ref (ad Q0))]) X dX0_understand_7 (by decide) rfl ?_
  refine mj_aload_n X dX0_understand_8 1 rfl ?_
  refine mj_aload_n X dX0_understand_9 2 rfl ?_
  refine mj_iload_n X dX0_understand_10 0 rfl ?_
  refine mj_bipush (v := (8 : Int32)) X dX0_understand_11 (by decide) ?_
  refine mj_iconst (v := (1 : Int32)) X dX0_understand_13 (by decide) ?_
  obtain ⟨h1, r2, q3, hf⟩ := mm_c hf
  refine mj_callVi (As := [.int (h 6 5), .int (8 : Int32), .int (1 : Int32)]) (rest := [.ref (ad 12)]) X (kX6_faultInRows l D t1 t2 cI cT cS ad Q0 hQ0 N h (h 6 5) (8 : Int32) (1 : Int32) h1 r2 q3) (cwV 3 X.2.2.2.2.1 gX0_understand_X6_faultInRows rfl rfl rfl (by decide +kernel) ⟨Nat.le_of_ble_eq_true rfl, Nat.le_of_ble_eq_true rfl⟩) (mx_at (mx_oX6 hQ0) h) rfl rfl rfl rfl (Nat.le_of_ble_eq_true rfl) ⟨Nat.zero_le _, Nat.zero_le _⟩ dX0_understand_14 ?_
  obtain ⟨h4, eh4, hf⟩ := mm_l hf
  refine mj_put X tyX0_ok nmX0 inwX0_understand_X0 (mx_at mx_oX0 h1) rfl 10 (by decide) rfl lnX0_understand_2 rfl (tyX0_ok 10 (by decide)) rfl rfl (Nat.le_of_ble_eq_true rfl) (mx_put mx_oX0 eh4 (by simp [mm_up_at, upd])) dX0_understand_17 ?_
  refine mj_aload_n X dX0_understand_20 1 rfl ?_
  refine mj_aload_n X dX0_understand_21 1 rfl ?_
  refine mj_get X inwX0_understand_X0 (mx_at mx_oX0 h4) rfl 10 (by decide) rfl lnX0_understand_2 rfl dX0_understand_22 ?_
  refine mj_iconst (v := (-1 : Int32)) X dX0_understand_25 (by decide) ?_
  refine mj_icmp_ne (tgt := 42) X dX0_understand_26 (by decide) (fun c5 => ?_) (fun c5 => ?_)
  · have hf := mm_f c5 hf
    refine mj_iconst (v := (0 : Int32)) X dX0_understand_42 (by decide) ?_
    obtain ⟨h6, eh6, hf⟩ := mm_l hf
    refine mj_put X tyX0_ok nmX0 inwX0_understand_X0 (mx_at mx_oX0 h4) rfl 9 (by decide) rfl lnX0_understand_3 rfl (tyX0_ok 9 (by decide)) rfl rfl (Nat.le_of_ble_eq_true rfl) (mx_put mx_oX0 eh6 (by simp [mm_up_at, upd])) dX0_understand_43 ?_
    refine mj_iload_n X dX0_understand_46 0 rfl ?_
    refine mj_if_ne (tgt := 55) X dX0_understand_47 (by decide) (fun c7 => ?_) (fun c7 => ?_)
    · have hf := mm_f c7 hf
      refine mj_iconst (v := (0 : Int32)) X dX0_understand_55 (by decide) ?_
      refine mj_istore_n (lo' := [(3, .int (0 : Int32)), (2, .int (h 6 5)), (0, .ref (ad 12)), (1, .ref (ad Q0))]) X dX0_understand_56 (by decide) rfl ?_
      refine mj_sub [2, 3, 1, 0] rfl (wX0_understand_L57 X out RET N Q0 hQ0 (h 6 5) _ (fun h11 hf => ?_) N h6 (0 : Int32) hf)
      refine mj_iconst (v := (0 : Int32)) X dX0_understand_76 (by decide) ?_
      refine mj_istore_n (lo' := [(3, .int (0 : Int32)), (0, .ref (ad 12)), (1, .ref (ad Q0)), (2, .int (h 6 5))]) X dX0_understand_77 (by decide) rfl ?_
      refine mj_sub [1, 2, 3, 0] rfl (wX0_understand_L78 X out RET N Q0 hQ0 (h 6 5) _ (fun h19 hf => ?_) N h11 (0 : Int32) hf)
      exact RET h19 _ _ _ dX0_understand_127 (Option.some.inj hf)
    · have hf := mm_t c7 hf
      refine mj_aload_n X dX0_understand_50 1 rfl ?_
      refine mj_iconst (v := (0 : Int32)) X dX0_understand_51 (by decide) ?_
      obtain ⟨h20, eh20, hf⟩ := mm_l hf
      refine mj_put X tyX0_ok nmX0 inwX0_understand_X0 (mx_at mx_oX0 h6) rfl 9 (by decide) rfl lnX0_understand_3 rfl (tyX0_ok 9 (by decide)) rfl rfl (Nat.le_of_ble_eq_true rfl) (mx_put mx_oX0 eh20 (by simp [mm_up_at, upd])) dX0_understand_52 ?_
      refine mj_iconst (v := (0 : Int32)) X dX0_understand_55 (by decide) ?_
      refine mj_istore_n (lo' := [(3, .int (0 : Int32)), (2, .int (h 6 5)), (0, .ref (ad 12)), (1, .ref (ad Q0))]) X dX0_understand_56 (by decide) rfl ?_
      refine mj_sub [2, 3, 1, 0] rfl (wX0_understand_L57 X out RET N Q0 hQ0 (h 6 5) _ (fun h21 hf => ?_) N h20 (0 : Int32) hf)
      refine mj_iconst (v := (0 : Int32)) X dX0_understand_76 (by decide) ?_
      refine mj_istore_n (lo' := [(3, .int (0 : Int32)), (0, .ref (ad 12)), (1, .ref (ad Q0)), (2, .int (h 6 5))]) X dX0_understand_77 (by decide) rfl ?_
      refine mj_sub [1, 2, 3, 0] rfl (wX0_understand_L78 X out RET N Q0 hQ0 (h 6 5) _ (fun h22 hf => ?_) N h21 (0 : Int32) hf)
      exact RET h22 _ _ _ dX0_understand_127 (Option.some.inj hf)
  · have hf := mm_t c5 hf
    refine mj_aload_n X dX0_understand_29 2 rfl ?_
    refine mj_get X inwX0_understand_X6 (mx_at (mx_oX6 hQ0) h4) rfl 1 (by decide) rfl lnX0_understand_6 rfl dX0_understand_30 ?_
    refine mj_iconst (v := (1 : Int32)) X dX0_understand_33 (by decide) ?_
    refine mj_iadd X dX0_understand_34 ?_
    refine mj_iload_n X dX0_understand_35 0 rfl ?_
    refine mj_iconst (v := (1 : Int32)) X dX0_understand_36 (by decide) ?_
    refine mj_iadd X dX0_understand_37 ?_
    obtain ⟨g23, hf⟩ := mm_g hf
    refine mj_idiv X dX0_understand_38 g23 ?_
    refine mj_goto (tgt := 43) X dX0_understand_39 (by decide) ?_
    obtain ⟨h24, eh24, hf⟩ := mm_l hf
    refine mj_put X tyX0_ok nmX0 inwX0_understand_X0 (mx_at mx_oX0 h4) rfl 9 (by decide) rfl lnX0_understand_3 rfl (tyX0_ok 9 (by decide)) rfl rfl (Nat.le_of_ble_eq_true rfl) (mx_put mx_oX0 eh24 (by simp [mm_up_at, upd])) dX0_understand_43 ?_
    refine mj_iload_n X dX0_understand_46 0 rfl ?_
    refine mj_if_ne (tgt := 55) X dX0_understand_47 (by decide) (fun c25 => ?_) (fun c25 => ?_)
    · have hf := mm_f c25 hf
      refine mj_iconst (v := (0 : Int32)) X dX0_understand_55 (by decide) ?_
      refine mj_istore_n (lo' := [(3, .int (0 : Int32)), (2, .int (h 6 5)), (0, .ref (ad 12)), (1, .ref (ad Q0))]) X dX0_understand_56 (by decide) rfl ?_
      refine mj_sub [2, 3, 1, 0] rfl (wX0_understand_L57 X out RET N Q0 hQ0 (h 6 5) _ (fun h26 hf => ?_) N h24 (0 : Int32) hf)
      refine mj_iconst (v := (0 : Int32)) X dX0_understand_76 (by decide) ?_
      refine mj_istore_n (lo' := [(3, .int (0 : Int32)), (0, .ref (ad 12)), (1, .ref (ad Q0)), (2, .int (h 6 5))]) X dX0_understand_77 (by decide) rfl ?_
      refine mj_sub [1, 2, 3, 0] rfl (wX0_understand_L78 X out RET N Q0 hQ0 (h 6 5) _ (fun h27 hf => ?_) N h26 (0 : Int32) hf)
      exact RET h27 _ _ _ dX0_understand_127 (Option.some.inj hf)
    · have hf := mm_t c25 hf
      refine mj_aload_n X dX0_understand_50 1 rfl ?_
      refine mj_iconst (v := (0 : Int32)) X dX0_understand_51 (by decide) ?_
      obtain ⟨h28, eh28, hf⟩ := mm_l hf
      refine mj_put X tyX0_ok nmX0 inwX0_understand_X0 (mx_at mx_oX0 h24) rfl 9 (by decide) rfl lnX0_understand_3 rfl (tyX0_ok 9 (by decide)) rfl rfl (Nat.le_of_ble_eq_true rfl) (mx_put mx_oX0 eh28 (by simp [mm_up_at, upd])) dX0_understand_52 ?_
      refine mj_iconst (v := (0 : Int32)) X dX0_understand_55 (by decide) ?_
      refine mj_istore_n (lo' := [(3, .int (0 : Int32)), (2, .int (h 6 5)), (0, .ref (ad 12)), (1, .ref (ad Q0))]) X dX0_understand_56 (by decide) rfl ?_
      refine mj_sub [2, 3, 1, 0] rfl (wX0_understand_L57 X out RET N Q0 hQ0 (h 6 5) _ (fun h29 hf => ?_) N h28 (0 : Int32) hf)
      refine mj_iconst (v := (0 : Int32)) X dX0_understand_76 (by decide) ?_
      refine mj_istore_n (lo' := [(3, .int (0 : Int32)), (0, .ref (ad 12)), (1, .ref (ad Q0)), (2, .int (h 6 5))]) X dX0_understand_77 (by decide) rfl ?_
      refine mj_sub [1, 2, 3, 0] rfl (wX0_understand_L78 X out RET N Q0 hQ0 (h 6 5) _ (fun h30 hf => ?_) N h29 (0 : Int32) hf)
      exact RET h30 _ _ _ dX0_understand_127 (Option.some.inj hf)
abbrev rmX0_tableOf : Room := { frames := 0, cells := 0, slots := 0, locals := 0 }
theorem inwX0_tableOf_X0 : ∀ w ∈ wsX00, w ∈ wsX0_tableOf := by
  intro w hw
  have h9 : wsX00 = (wsX0_tableOf.drop 2).take 11 := rfl
  rw [h9] at hw
  exact List.mem_of_mem_drop (List.mem_of_mem_take hw)
theorem lnX0_tableOf_0 : Cond.fieldLink RX0 9 "RichestPays$Evening" "tables" "[I" ∈ wsX0_tableOf := List.mem_of_getElem? (i := 1) rfl
set_option maxHeartbeats 4000000 in
set_option maxRecDepth 100000 in
theorem kX0_tableOf (l : Launch) (D : va_G) (t1 t2 : Nat) (cI : ClassId) (cT : ClassId) (cS : ClassId) (ad : Nat → Nat)  (N : Nat) (h : mm_M) (a0 : Int32) (a1 : Int32) (h1 : mm_M) (r : Int32) (hf : fX0_tableOf N h a0 a1 = some (h1, r)) : mm_Ki l yX0_tableOf wsX0_tableOf rmX0_tableOf D (mx_ty cI cT cS) t1 t2 (mx_w cI cT cS ad) [.ref (ad 12), .int a0, .int a1] h r h1 := by
  refine mm_open_i [.ref (ad 12), .int a0, .int a1] h r h1 RX0 (by decide) rfl rfl (Nat.le_of_ble_eq_true rfl) ?_
  intro p e s m below meth c A X hr hlocks
  have RET : ∀ (h : mm_M) (pc : Nat) (lo : List (Nat × Value)) (v : Int32), decode cX0_tableOf pc = .ok (.ireturn, 1) → (h, v) = (h1, r) → mm_J p l e rmX0_tableOf s m ([.ref (ad 12), .int a0, .int a1] : List Value).toArray below meth c 0 0 (MQ below (va_Qi (fun (r' : Int32) (u : mm_M) => r' = r ∧ u = h1) (mm_Post D (mx_w cI cT cS ad) A) A) ([.ref (ad 12), .int a0, .int a1] : List Value).toArray s 0 0 A) D (mx_w cI cT cS ad) A 3 h pc lo [.int v] := by
    intro h2 pc lo v hd he
    cases he
    exact mj_iret X hr rfl hlocks hd
  generalize hout : (h1, r) = out at hf RET
  unfold fX0_tableOf at hf
  refine mj_lo (lo' := [(0, .ref (ad 12)), (1, .int a0), (2, .int a1)]) rfl ?_
  refine mj_aload_n X dX0_tableOf_0 0 rfl ?_
  refine mj_get X inwX0_tableOf_X0 (mx_at mx_oX0 h) rfl 1 (by decide) rfl lnX0_tableOf_0 rfl dX0_tableOf_1 ?_
  refine mj_iload_n X dX0_tableOf_4 1 rfl ?_
  refine mj_bipush (v := (6 : Int32)) X dX0_tableOf_5 (by decide) ?_
  refine mj_imul X dX0_tableOf_7 ?_
  refine mj_iload_n X dX0_tableOf_8 2 rfl ?_
  refine mj_iadd X dX0_tableOf_9 ?_
  obtain ⟨g1, hf⟩ := mm_g hf
  refine mj_iald X 0 (mx_at mx_a13 h) rfl g1 dX0_tableOf_10 ?_
  exact RET h _ _ _ dX0_tableOf_11 (Option.some.inj hf)
abbrev rmX0_seatedAt : Room := { frames := 0, cells := 0, slots := 0, locals := 0 }
theorem inwX0_seatedAt_X0 : ∀ w ∈ wsX00, w ∈ wsX0_seatedAt := by
  intro w hw
  have h9 : wsX00 = (wsX0_seatedAt.drop 2).take 11 := rfl
  rw [h9] at hw
  exact List.mem_of_mem_drop (List.mem_of_mem_take hw)
theorem lnX0_seatedAt_0 : Cond.fieldLink RX0 15 "RichestPays$Evening" "groups" "[I" ∈ wsX0_seatedAt := List.mem_of_getElem? (i := 1) rfl
set_option maxHeartbeats 4000000 in
set_option maxRecDepth 100000 in
theorem kX0_seatedAt (l : Launch) (D : va_G) (t1 t2 : Nat) (cI : ClassId) (cT : ClassId) (cS : ClassId) (ad : Nat → Nat)  (N : Nat) (h : mm_M) (a0 : Int32) (a1 : Int32) (h1 : mm_M) (r : Int32) (hf : fX0_seatedAt N h a0 a1 = some (h1, r)) : mm_Ki l yX0_seatedAt wsX0_seatedAt rmX0_seatedAt D (mx_ty cI cT cS) t1 t2 (mx_w cI cT cS ad) [.ref (ad 12), .int a0, .int a1] h r h1 := by
  refine mm_open_i [.ref (ad 12), .int a0, .int a1] h r h1 RX0 (by decide) rfl rfl (Nat.le_of_ble_eq_true rfl) ?_
  intro p e s m below meth c A X hr hlocks
  have RET : ∀ (h : mm_M) (pc : Nat) (lo : List (Nat × Value)) (v : Int32), decode cX0_seatedAt pc = .ok (.ireturn, 1) → (h, v) = (h1, r) → mm_J p l e rmX0_seatedAt s m ([.ref (ad 12), .int a0, .int a1] : List Value).toArray below meth c 0 0 (MQ below (va_Qi (fun (r' : Int32) (u : mm_M) => r' = r ∧ u = h1) (mm_Post D (mx_w cI cT cS ad) A) A) ([.ref (ad 12), .int a0, .int a1] : List Value).toArray s 0 0 A) D (mx_w cI cT cS ad) A 3 h pc lo [.int v] := by
    intro h2 pc lo v hd he
    cases he
    exact mj_iret X hr rfl hlocks hd
  generalize hout : (h1, r) = out at hf RET
  unfold fX0_seatedAt at hf
  refine mj_lo (lo' := [(0, .ref (ad 12)), (1, .int a0), (2, .int a1)]) rfl ?_
  refine mj_aload_n X dX0_seatedAt_0 0 rfl ?_
  refine mj_get X inwX0_seatedAt_X0 (mx_at mx_oX0 h) rfl 2 (by decide) rfl lnX0_seatedAt_0 rfl dX0_seatedAt_1 ?_
  refine mj_iload_n X dX0_seatedAt_4 1 rfl ?_
  refine mj_bipush (v := (6 : Int32)) X dX0_seatedAt_5 (by decide) ?_
  refine mj_imul X dX0_seatedAt_7 ?_
  refine mj_iload_n X dX0_seatedAt_8 2 rfl ?_
  refine mj_iadd X dX0_seatedAt_9 ?_
  obtain ⟨g1, hf⟩ := mm_g hf
  refine mj_iald X 0 (mx_at mx_a14 h) rfl g1 dX0_seatedAt_10 ?_
  exact RET h _ _ _ dX0_seatedAt_11 (Option.some.inj hf)
abbrev rmJ6_bitCount_0f7a4 : Room := { frames := 0, cells := 0, slots := 0, locals := 0 }
theorem lnJ6_bitCount_0f7a4_0 : Cond.constant RJ6 265 (1431655765) ∈ wsJ6_bitCount_0f7a4 := List.mem_of_getElem? (i := 1) rfl
theorem lnJ6_bitCount_0f7a4_1 : Cond.constant RJ6 266 (858993459) ∈ wsJ6_bitCount_0f7a4 := List.mem_of_getElem? (i := 2) rfl
theorem lnJ6_bitCount_0f7a4_2 : Cond.constant RJ6 267 (252645135) ∈ wsJ6_bitCount_0f7a4 := List.mem_of_getElem? (i := 3) rfl
set_option maxHeartbeats 4000000 in
set_option maxRecDepth 100000 in
theorem kJ6_bitCount_0f7a4 (l : Launch) (D : va_G) (t1 t2 : Nat) (cI : ClassId) (cT : ClassId) (cS : ClassId) (ad : Nat → Nat)  (N : Nat) (h : mm_M) (a0 : Int32) (h1 : mm_M) (r : Int32) (hf : fJ6_bitCount_0f7a4 N h a0 = some (h1, r)) : mm_Ki l yJ6_bitCount_0f7a4 wsJ6_bitCount_0f7a4 rmJ6_bitCount_0f7a4 D (mx_ty cI cT cS) t1 t2 (mx_w cI cT cS ad) [.int a0] h r h1 := by
  refine mm_open_i [.int a0] h r h1 RJ6 (by decide) rfl rfl (Nat.le_of_ble_eq_true rfl) ?_
  intro p e s m below meth c A X hr hlocks
  have RET : ∀ (h : mm_M) (pc : Nat) (lo : List (Nat × Value)) (v : Int32), decode cJ6_bitCount_0f7a4 pc = .ok (.ireturn, 1) → (h, v) = (h1, r) → mm_J p l e rmJ6_bitCount_0f7a4 s m ([.int a0] : List Value).toArray below meth c 0 0 (MQ below (va_Qi (fun (r' : Int32) (u : mm_M) => r' = r ∧ u = h1) (mm_Post D (mx_w cI cT cS ad) A) A) ([.int a0] : List Value).toArray s 0 0 A) D (mx_w cI cT cS ad) A 1 h pc lo [.int v] := by
    intro h2 pc lo v hd he
    cases he
    exact mj_iret X hr rfl hlocks hd
  generalize hout : (h1, r) = out at hf RET
  unfold fJ6_bitCount_0f7a4 at hf
  refine mj_lo (lo' := [(0, .int a0)]) rfl ?_
  refine mj_iload_n X dJ6_bitCount_0f7a4_0 0 rfl ?_
  refine mj_iload_n X dJ6_bitCount_0f7a4_1 0 rfl ?_
  refine mj_iconst (v := (1 : Int32)) X dJ6_bitCount_0f7a4_2 (by decide) ?_
  refine mj_iushr X dJ6_bitCount_0f7a4_3 ?_
  refine mj_ldcw (v := (1431655765 : Int32)) X lnJ6_bitCount_0f7a4_0 dJ6_bitCount_0f7a4_4 ?_
  refine mj_iand X dJ6_bitCount_0f7a4_7 ?_
  refine mj_isub X dJ6_bitCount_0f7a4_8 ?_
  obtain ⟨x1, ex1, hf⟩ := mm_l hf
  refine mj_topi ex1 ?_
  refine mj_istore_n (lo' := [(0, .int x1)]) X dJ6_bitCount_0f7a4_9 (by decide) rfl ?_
  refine mj_iload_n X dJ6_bitCount_0f7a4_10 0 rfl ?_
  refine mj_ldcw (v := (858993459 : Int32)) X lnJ6_bitCount_0f7a4_1 dJ6_bitCount_0f7a4_11 ?_
  refine mj_iand X dJ6_bitCount_0f7a4_14 ?_
  refine mj_iload_n X dJ6_bitCount_0f7a4_15 0 rfl ?_
  refine mj_iconst (v := (2 : Int32)) X dJ6_bitCount_0f7a4_16 (by decide) ?_
  refine mj_iushr X dJ6_bitCount_0f7a4_17 ?_
  refine mj_ldcw (v := (858993459 : Int32)) X lnJ6_bitCount_0f7a4_1 dJ6_bitCount_0f7a4_18 ?_
  refine mj_iand X dJ6_bitCount_0f7a4_21 ?_
  refine mj_iadd X dJ6_bitCount_0f7a4_22 ?_
  obtain ⟨x2, ex2, hf⟩ := mm_l hf
  refine mj_topi ex2 ?_
  refine mj_istore_n (lo' := [(0, .int x2)]) X dJ6_bitCount_0f7a4_23 (by decide) rfl ?_
  refine mj_iload_n X dJ6_bitCount_0f7a4_24 0 rfl ?_
  refine mj_iload_n X dJ6_bitCount_0f7a4_25 0 rfl ?_
  refine mj_iconst (v := (4 : Int32)) X dJ6_bitCount_0f7a4_26 (by decide) ?_
  refine mj_iushr X dJ6_bitCount_0f7a4_27 ?_
  refine mj_iadd X dJ6_bitCount_0f7a4_28 ?_
  refine mj_ldcw (v := (252645135 : Int32)) X lnJ6_bitCount_0f7a4_2 dJ6_bitCount_0f7a4_29 ?_
  refine mj_iand X dJ6_bitCount_0f7a4_32 ?_
  obtain ⟨x3, ex3, hf⟩ := mm_l hf
  refine mj_topi ex3 ?_
  refine mj_istore_n (lo' := [(0, .int x3)]) X dJ6_bitCount_0f7a4_33 (by decide) rfl ?_
  refine mj_iload_n X dJ6_bitCount_0f7a4_34 0 rfl ?_
  refine mj_iload_n X dJ6_bitCount_0f7a4_35 0 rfl ?_
  refine mj_bipush (v := (8 : Int32)) X dJ6_bitCount_0f7a4_36 (by decide) ?_
  refine mj_iushr X dJ6_bitCount_0f7a4_38 ?_
  refine mj_iadd X dJ6_bitCount_0f7a4_39 ?_
  obtain ⟨x4, ex4, hf⟩ := mm_l hf
  refine mj_topi ex4 ?_
  refine mj_istore_n (lo' := [(0, .int x4)]) X dJ6_bitCount_0f7a4_40 (by decide) rfl ?_
  refine mj_iload_n X dJ6_bitCount_0f7a4_41 0 rfl ?_
  refine mj_iload_n X dJ6_bitCount_0f7a4_42 0 rfl ?_
  refine mj_bipush (v := (16 : Int32)) X dJ6_bitCount_0f7a4_43 (by decide) ?_
  refine mj_iushr X dJ6_bitCount_0f7a4_45 ?_
  refine mj_iadd X dJ6_bitCount_0f7a4_46 ?_
  obtain ⟨x5, ex5, hf⟩ := mm_l hf
  refine mj_topi ex5 ?_
  refine mj_istore_n (lo' := [(0, .int x5)]) X dJ6_bitCount_0f7a4_47 (by decide) rfl ?_
  refine mj_iload_n X dJ6_bitCount_0f7a4_48 0 rfl ?_
  refine mj_bipush (v := (63 : Int32)) X dJ6_bitCount_0f7a4_49 (by decide) ?_
  refine mj_iand X dJ6_bitCount_0f7a4_51 ?_
  exact RET h _ _ _ dJ6_bitCount_0f7a4_52 (Option.some.inj hf)
abbrev rmX0_meals : Room := { frames := 1, cells := 0, slots := 0, locals := 22 }
theorem inwX0_meals_X0 : ∀ w ∈ wsX00, w ∈ wsX0_meals := by
  intro w hw
  have h9 : wsX00 = (wsX0_meals.drop 15).take 11 := rfl
  rw [h9] at hw
  exact List.mem_of_mem_drop (List.mem_of_mem_take hw)
theorem lnX0_meals_0 : Cond.fieldLink RX0 36 "RichestPays$Evening" "rounds" "I" ∈ wsX0_meals := List.mem_of_getElem? (i := 1) rfl
set_option maxHeartbeats 4000000 in
set_option maxRecDepth 100000 in
theorem wX0_meals_L14 (X : mm_X p s m args c cX0_meals RX0 wsX0_meals 4 D (mx_ty cI cT cS) t1 t2 A) (out : mm_M × Int32) (RET : ∀ (h : mm_M) (pc : Nat) (lo : List (Nat × Value)) (v : Int32), decode cX0_meals pc = .ok (.ireturn, 1) → (h, v) = out → mm_J p l e rmX0_meals s m args below meth c 0 0 Q D (mx_w cI cT cS ad) A 4 h pc lo [.int v]) (N : Nat)  (p2 : Int32) (k : mm_M → Int32 → Option (mm_M × Int32)) (HK : ∀ (h : mm_M) (m1 : Int32), k h m1 = some out → mm_J p l e rmX0_meals s m args below meth c 0 0 Q D (mx_w cI cT cS ad) A 4 h 38 [(0, .ref (ad 12)), (1, .int m1), (2, .int p2)] []) : ∀ (n : Nat) (h : mm_M) (m1 : Int32) (m3 : Int32), fX0_meals_L14 N p2 k n h m1 m3 = some out → mm_J p l e rmX0_meals s m args below meth c 0 0 Q D (mx_w cI cT cS ad) A 4 h 14 [(0, .ref (ad 12)), (1, .int m1), (2, .int p2), (3, .int m3)] [] := by
  intro n
  induction n with
  | zero =>
    intro h m1 m3 hf
    cases hf
  | succ n ih =>
    intro h m1 m3 hf
    rw [fX0_meals_L14] at hf
    refine mj_iload_n X dX0_meals_14 3 rfl ?_
    refine mj_bipush (v := (6 : Int32)) X dX0_meals_15 (by decide) ?_
    refine mj_icmp_ge (tgt := 38) X dX0_meals_17 (by decide) (fun c2 => ?_) (fun c2 => ?_)
    · have hf := mm_t c2 hf
      exact mj_sub [0, 1, 2] rfl (HK h m1 hf)
    · have hf := mm_f c2 hf
      refine mj_iload_n X dX0_meals_20 1 rfl ?_
      refine mj_aload_n X dX0_meals_21 0 rfl ?_
      refine mj_iload_n X dX0_meals_22 2 rfl ?_
      refine mj_iload_n X dX0_meals_23 3 rfl ?_
      obtain ⟨h3, r4, q5, hf⟩ := mm_c hf
      refine mj_callVi (As := [.int p2, .int m3]) (rest := [.int m1]) X (kX0_seatedAt l D t1 t2 cI cT cS ad N h p2 m3 h3 r4 q5) (cwV 2 X.2.2.2.2.1 gX0_meals_X0_seatedAt rfl rfl rfl (by decide +kernel) ⟨Nat.le_of_ble_eq_true rfl, Nat.le_of_ble_eq_true rfl⟩) (mx_at mx_oX0 h) rfl rfl rfl rfl (Nat.le_of_ble_eq_true rfl) ⟨Nat.zero_le _, Nat.zero_le _⟩ dX0_meals_24 ?_
      obtain ⟨h6, r7, q8, hf⟩ := mm_c hf
      refine mj_callSi (As := [.int r4]) (rest := [.int m1]) X (kJ6_bitCount_0f7a4 l D t1 t2 cI cT cS ad N h3 r4 h6 r7 q8) (va_cwS 1 X.2.2.2.2.1 gX0_meals_J6_bitCount_0f7a4 rfl rfl rfl (by decide +kernel) ⟨Nat.le_of_ble_eq_true rfl, Nat.le_of_ble_eq_true rfl⟩) rfl rfl (Nat.le_of_ble_eq_true rfl) ⟨Nat.zero_le _, Nat.zero_le _⟩ dX0_meals_27 ?_
      refine mj_iadd X dX0_meals_30 ?_
      obtain ⟨x9, ex9, hf⟩ := mm_l hf
      refine mj_topi ex9 ?_
      refine mj_istore_n (lo' := [(1, .int x9), (0, .ref (ad 12)), (2, .int p2), (3, .int m3)]) X dX0_meals_31 (by decide) rfl ?_
      refine mj_iinc (k := 3) (v := (m3 + 1)) (lo' := [(3, .int (m3 + 1)), (1, .int x9), (0, .ref (ad 12)), (2, .int p2)]) X dX0_meals_32 rfl rfl (by decide) rfl ?_
      refine mj_goto (tgt := 14) X dX0_meals_35 (by decide) ?_
      exact mj_sub [2, 1, 3, 0] rfl (ih h6 x9 (m3 + 1) hf)
set_option maxHeartbeats 4000000 in
set_option maxRecDepth 100000 in
theorem wX0_meals_L4 (X : mm_X p s m args c cX0_meals RX0 wsX0_meals 4 D (mx_ty cI cT cS) t1 t2 A) (out : mm_M × Int32) (RET : ∀ (h : mm_M) (pc : Nat) (lo : List (Nat × Value)) (v : Int32), decode cX0_meals pc = .ok (.ireturn, 1) → (h, v) = out → mm_J p l e rmX0_meals s m args below meth c 0 0 Q D (mx_w cI cT cS ad) A 4 h pc lo [.int v]) (N : Nat)   (k : mm_M → Int32 → Option (mm_M × Int32)) (HK : ∀ (h : mm_M) (m1 : Int32), k h m1 = some out → mm_J p l e rmX0_meals s m args below meth c 0 0 Q D (mx_w cI cT cS ad) A 4 h 44 [(1, .int m1)] []) : ∀ (n : Nat) (h : mm_M) (m1 : Int32) (m2 : Int32), fX0_meals_L4 N k n h m1 m2 = some out → mm_J p l e rmX0_meals s m args below meth c 0 0 Q D (mx_w cI cT cS ad) A 4 h 4 [(0, .ref (ad 12)), (1, .int m1), (2, .int m2)] [] := by
  intro n
  induction n with
  | zero =>
    intro h m1 m2 hf
    cases hf
  | succ n ih =>
    intro h m1 m2 hf
    rw [fX0_meals_L4] at hf
    refine mj_iload_n X dX0_meals_4 2 rfl ?_
    refine mj_aload_n X dX0_meals_5 0 rfl ?_
    refine mj_get X inwX0_meals_X0 (mx_at mx_oX0 h) rfl 9 (by decide) rfl lnX0_meals_0 rfl dX0_meals_6 ?_
    refine mj_icmp_ge (tgt := 44) X dX0_meals_9 (by decide) (fun c1 => ?_) (fun c1 => ?_)
    · have hf := mm_t c1 hf
      exact mj_sub [1] rfl (HK h m1 hf)
    · have hf := mm_f c1 hf
      refine mj_iconst (v := (0 : Int32)) X dX0_meals_12 (by decide) ?_
      refine mj_istore_n (lo' := [(3, .int (0 : Int32)), (0, .ref (ad 12)), (1, .int m1), (2, .int m2)]) X dX0_meals_13 (by decide) rfl ?_
      refine mj_sub [1, 2, 3, 0] rfl (wX0_meals_L14 X out RET N m2 _ (fun h10 v11 hf => ?_) N h m1 (0 : Int32) hf)
      refine mj_iinc (k := 2) (v := (m2 + 1)) (lo' := [(2, .int (m2 + 1)), (0, .ref (ad 12)), (1, .int v11)]) X dX0_meals_38 rfl rfl (by decide) rfl ?_
      refine mj_goto (tgt := 4) X dX0_meals_41 (by decide) ?_
      exact mj_sub [1, 2, 0] rfl (ih h10 v11 (m2 + 1) hf)
set_option maxHeartbeats 4000000 in
set_option maxRecDepth 100000 in
theorem kX0_meals (l : Launch) (D : va_G) (t1 t2 : Nat) (cI : ClassId) (cT : ClassId) (cS : ClassId) (ad : Nat → Nat)  (N : Nat) (h : mm_M)  (h1 : mm_M) (r : Int32) (hf : fX0_meals N h = some (h1, r)) : mm_Ki l yX0_meals wsX0_meals rmX0_meals D (mx_ty cI cT cS) t1 t2 (mx_w cI cT cS ad) [.ref (ad 12)] h r h1 := by
  refine mm_open_i [.ref (ad 12)] h r h1 RX0 (by decide) rfl rfl (Nat.le_of_ble_eq_true rfl) ?_
  intro p e s m below meth c A X hr hlocks
  have RET : ∀ (h : mm_M) (pc : Nat) (lo : List (Nat × Value)) (v : Int32), decode cX0_meals pc = .ok (.ireturn, 1) → (h, v) = (h1, r) → mm_J p l e rmX0_meals s m ([.ref (ad 12)] : List Value).toArray below meth c 0 0 (MQ below (va_Qi (fun (r' : Int32) (u : mm_M) => r' = r ∧ u = h1) (mm_Post D (mx_w cI cT cS ad) A) A) ([.ref (ad 12)] : List Value).toArray s 0 0 A) D (mx_w cI cT cS ad) A 4 h pc lo [.int v] := by
    intro h2 pc lo v hd he
    cases he
    exact mj_iret X hr rfl hlocks hd
  generalize hout : (h1, r) = out at hf RET
  unfold fX0_meals at hf
  refine mj_lo (lo' := [(0, .ref (ad 12))]) rfl ?_
  refine mj_iconst (v := (0 : Int32)) X dX0_meals_0 (by decide) ?_
  refine mj_istore_n (lo' := [(1, .int (0 : Int32)), (0, .ref (ad 12))]) X dX0_meals_1 (by decide) rfl ?_
  refine mj_iconst (v := (0 : Int32)) X dX0_meals_2 (by decide) ?_
  refine mj_istore_n (lo' := [(2, .int (0 : Int32)), (1, .int (0 : Int32)), (0, .ref (ad 12))]) X dX0_meals_3 (by decide) rfl ?_
  refine mj_sub [2, 1, 0] rfl (wX0_meals_L4 X out RET N _ (fun h12 v13 hf => ?_) N h (0 : Int32) (0 : Int32) hf)
  refine mj_iload_n X dX0_meals_44 0 rfl ?_
  exact RET h12 _ _ _ dX0_meals_45 (Option.some.inj hf)
abbrev rmX2_handAtFirst : Room := { frames := 1, cells := 0, slots := 0, locals := 21 }
theorem inwX2_handAtFirst_X2 : ∀ w ∈ wsX20, w ∈ wsX2_handAtFirst := by
  intro w hw
  have h9 : wsX20 = (wsX2_handAtFirst.drop 7).take 9 := rfl
  rw [h9] at hw
  exact List.mem_of_mem_drop (List.mem_of_mem_take hw)
theorem lnX2_handAtFirst_0 : Cond.fieldLink RX2 9 "RichestPays$People" "purse" "[I" ∈ wsX2_handAtFirst := List.mem_of_getElem? (i := 1) rfl
theorem lnX2_handAtFirst_1 : Cond.fieldLink RX2 18 "RichestPays$People" "atHome" "[I" ∈ wsX2_handAtFirst := List.mem_of_getElem? (i := 2) rfl
theorem lnX2_handAtFirst_2 : Cond.methodLink RX2 53 Lib.Math.max.name ∈ wsX2_handAtFirst := List.mem_of_getElem? (i := 3) rfl
theorem lnX2_handAtFirst_3 : Cond.static Lib.Math.max.name ∈ wsX2_handAtFirst := List.mem_of_getElem? (i := 4) rfl
theorem lnX2_handAtFirst_4 : Cond.initialized "java/lang/Math" ∈ wsX2_handAtFirst := List.mem_of_getElem? (i := 5) rfl
theorem lnX2_handAtFirst_5 : Cond.code Lib.Math.max.name Lib.Math.max.code 2 (some .int) ∈ wsX2_handAtFirst := List.mem_of_getElem? (i := 6) rfl
set_option maxHeartbeats 4000000 in
set_option maxRecDepth 100000 in
theorem kX2_handAtFirst (l : Launch) (D : va_G) (t1 t2 : Nat) (cI : ClassId) (cT : ClassId) (cS : ClassId) (ad : Nat → Nat)  (N : Nat) (h : mm_M) (a0 : Int32) (h1 : mm_M) (r : Int32) (hf : fX2_handAtFirst N h a0 = some (h1, r)) : mm_Ki l yX2_handAtFirst wsX2_handAtFirst rmX2_handAtFirst D (mx_ty cI cT cS) t1 t2 (mx_w cI cT cS ad) [.ref (ad 6), .int a0] h r h1 := by
  refine mm_open_i [.ref (ad 6), .int a0] h r h1 RX2 (by decide) rfl rfl (Nat.le_of_ble_eq_true rfl) ?_
  intro p e s m below meth c A X hr hlocks
  have RET : ∀ (h : mm_M) (pc : Nat) (lo : List (Nat × Value)) (v : Int32), decode cX2_handAtFirst pc = .ok (.ireturn, 1) → (h, v) = (h1, r) → mm_J p l e rmX2_handAtFirst s m ([.ref (ad 6), .int a0] : List Value).toArray below meth c 0 0 (MQ below (va_Qi (fun (r' : Int32) (u : mm_M) => r' = r ∧ u = h1) (mm_Post D (mx_w cI cT cS ad) A) A) ([.ref (ad 6), .int a0] : List Value).toArray s 0 0 A) D (mx_w cI cT cS ad) A 2 h pc lo [.int v] := by
    intro h2 pc lo v hd he
    cases he
    exact mj_iret X hr rfl hlocks hd
  generalize hout : (h1, r) = out at hf RET
  unfold fX2_handAtFirst at hf
  refine mj_lo (lo' := [(0, .ref (ad 6)), (1, .int a0)]) rfl ?_
  refine mj_iconst (v := (0 : Int32)) X dX2_handAtFirst_0 (by decide) ?_
  refine mj_aload_n X dX2_handAtFirst_1 0 rfl ?_
  refine mj_get X inwX2_handAtFirst_X2 (mx_at mx_oX2 h) rfl 0 (by decide) rfl lnX2_handAtFirst_0 rfl dX2_handAtFirst_2 ?_
  refine mj_iload_n X dX2_handAtFirst_5 1 rfl ?_
  obtain ⟨g1, hf⟩ := mm_g hf
  refine mj_iald X 0 (mx_at mx_a7 h) rfl g1 dX2_handAtFirst_6 ?_
  refine mj_aload_n X dX2_handAtFirst_7 0 rfl ?_
  refine mj_get X inwX2_handAtFirst_X2 (mx_at mx_oX2 h) rfl 2 (by decide) rfl lnX2_handAtFirst_1 rfl dX2_handAtFirst_8 ?_
  refine mj_iload_n X dX2_handAtFirst_11 1 rfl ?_
  refine mj_iald X 0 (mx_at mx_a9 h) rfl g1 dX2_handAtFirst_12 ?_
  refine mj_isub X dX2_handAtFirst_13 ?_
  refine mj_max X lnX2_handAtFirst_2 lnX2_handAtFirst_3 lnX2_handAtFirst_4 lnX2_handAtFirst_5 (Nat.le_of_ble_eq_true rfl) (Nat.le_of_ble_eq_true rfl) ⟨Nat.zero_le _, Nat.zero_le _⟩ dX2_handAtFirst_14 ?_
  exact RET h _ _ _ dX2_handAtFirst_17 (Option.some.inj hf)
abbrev rmX2_tellHandsAtFirst : Room := { frames := 2, cells := 0, slots := 0, locals := 42 }
set_option maxHeartbeats 4000000 in
set_option maxRecDepth 100000 in
theorem wX2_tellHandsAtFirst_L2 (X : mm_X p s m args c cX2_tellHandsAtFirst RX2 wsX2_tellHandsAtFirst 3 D (mx_ty cI cT cS) t1 t2 A) (out : mm_M × Unit) (RET : ∀ (h : mm_M) (pc : Nat) (lo : List (Nat × Value)) (v : Unit), decode cX2_tellHandsAtFirst pc = .ok (.return_, 1) → (h, v) = out → mm_J p l e rmX2_tellHandsAtFirst s m args below meth c 0 0 Q D (mx_w cI cT cS ad) A 3 h pc lo []) (N : Nat) (y0 : Nat) (hy0 : mx_arr cI cT cS ad y0 6)  (k : mm_M → Option (mm_M × Unit)) (HK : ∀ (h : mm_M), k h = some out → mm_J p l e rmX2_tellHandsAtFirst s m args below meth c 0 0 Q D (mx_w cI cT cS ad) A 3 h 22 [] []) : ∀ (n : Nat) (h : mm_M) (m2 : Int32), fX2_tellHandsAtFirst_L2 N y0 k n h m2 = some out → mm_J p l e rmX2_tellHandsAtFirst s m args below meth c 0 0 Q D (mx_w cI cT cS ad) A 3 h 2 [(0, .ref (ad 6)), (1, .ref (ad y0)), (2, .int m2)] [] := by
  intro n
  induction n with
  | zero =>
    intro h m2 hf
    cases hf
  | succ n ih =>
    intro h m2 hf
    rw [fX2_tellHandsAtFirst_L2] at hf
    refine mj_iload_n X dX2_tellHandsAtFirst_2 2 rfl ?_
    refine mj_bipush (v := (6 : Int32)) X dX2_tellHandsAtFirst_3 (by decide) ?_
    refine mj_icmp_ge (tgt := 22) X dX2_tellHandsAtFirst_5 (by decide) (fun c1 => ?_) (fun c1 => ?_)
    · have hf := mm_t c1 hf
      exact mj_sub [] rfl (HK h hf)
    · have hf := mm_f c1 hf
      refine mj_aload_n X dX2_tellHandsAtFirst_8 1 rfl ?_
      refine mj_iload_n X dX2_tellHandsAtFirst_9 2 rfl ?_
      refine mj_aload_n X dX2_tellHandsAtFirst_10 0 rfl ?_
      refine mj_iload_n X dX2_tellHandsAtFirst_11 2 rfl ?_
      obtain ⟨h2, r3, q4, hf⟩ := mm_c hf
      refine mj_callVi (As := [.int m2]) (rest := [.int m2, .ref (ad y0)]) X (kX2_handAtFirst l D t1 t2 cI cT cS ad N h m2 h2 r3 q4) (cwV 1 X.2.2.2.2.1 gX2_tellHandsAtFirst_X2_handAtFirst rfl rfl rfl (by decide +kernel) ⟨Nat.le_of_ble_eq_true rfl, Nat.le_of_ble_eq_true rfl⟩) (mx_at mx_oX2 h) rfl rfl rfl rfl (Nat.le_of_ble_eq_true rfl) ⟨Nat.zero_le _, Nat.zero_le _⟩ dX2_tellHandsAtFirst_12 ?_
      obtain ⟨g5, hf⟩ := mm_g hf
      obtain ⟨h6, eh6, hf⟩ := mm_l hf
      refine mj_iast X 0 (mx_at hy0 h2) rfl g5 (mx_ast hy0 eh6) dX2_tellHandsAtFirst_15 ?_
      refine mj_iinc (k := 2) (v := (m2 + 1)) (lo' := [(2, .int (m2 + 1)), (0, .ref (ad 6)), (1, .ref (ad y0))]) X dX2_tellHandsAtFirst_16 rfl rfl (by decide) rfl ?_
      refine mj_goto (tgt := 2) X dX2_tellHandsAtFirst_19 (by decide) ?_
      exact mj_sub [1, 2, 0] rfl (ih h6 (m2 + 1) hf)
set_option maxHeartbeats 4000000 in
set_option maxRecDepth 100000 in
theorem kX2_tellHandsAtFirst (l : Launch) (D : va_G) (t1 t2 : Nat) (cI : ClassId) (cT : ClassId) (cS : ClassId) (ad : Nat → Nat) (y0 : Nat) (hy0 : mx_arr cI cT cS ad y0 6) (N : Nat) (h : mm_M)  (h1 : mm_M) (r : Unit) (hf : fX2_tellHandsAtFirst N y0 h = some (h1, r)) : mm_Kv l yX2_tellHandsAtFirst wsX2_tellHandsAtFirst rmX2_tellHandsAtFirst D (mx_ty cI cT cS) t1 t2 (mx_w cI cT cS ad) [.ref (ad 6), .ref (ad y0)] h h1 := by
  refine mm_open_v [.ref (ad 6), .ref (ad y0)] h h1 RX2 (by decide) rfl rfl (Nat.le_of_ble_eq_true rfl) ?_
  intro p e s m below meth c A X hr hlocks
  have RET : ∀ (h : mm_M) (pc : Nat) (lo : List (Nat × Value)) (v : Unit), decode cX2_tellHandsAtFirst pc = .ok (.return_, 1) → (h, v) = (h1, r) → mm_J p l e rmX2_tellHandsAtFirst s m ([.ref (ad 6), .ref (ad y0)] : List Value).toArray below meth c 0 0 (MQ below (va_Qv (fun (u : mm_M) => u = h1) (mm_Post D (mx_w cI cT cS ad) A) A) ([.ref (ad 6), .ref (ad y0)] : List Value).toArray s 0 0 A) D (mx_w cI cT cS ad) A 3 h pc lo [] := by
    intro h2 pc lo v hd he
    cases he
    exact mj_vret X hr hlocks hd
  generalize hout : (h1, r) = out at hf RET
  unfold fX2_tellHandsAtFirst at hf
  refine mj_lo (lo' := [(0, .ref (ad 6)), (1, .ref (ad y0))]) rfl ?_
  refine mj_iconst (v := (0 : Int32)) X dX2_tellHandsAtFirst_0 (by decide) ?_
  refine mj_istore_n (lo' := [(2, .int (0 : Int32)), (0, .ref (ad 6)), (1, .ref (ad y0))]) X dX2_tellHandsAtFirst_1 (by decide) rfl ?_
  refine mj_sub [1, 2, 0] rfl (wX2_tellHandsAtFirst_L2 X out RET N y0 hy0 _ (fun h7 hf => ?_) N h (0 : Int32) hf)
  exact RET h7 _ _ _ dX2_tellHandsAtFirst_22 (Option.some.inj hf)
abbrev rmX2_aheadBy : Room := { frames := 0, cells := 0, slots := 0, locals := 0 }
theorem inwX2_aheadBy_X2 : ∀ w ∈ wsX20, w ∈ wsX2_aheadBy := by
  intro w hw
  have h9 : wsX20 = (wsX2_aheadBy.drop 3).take 9 := rfl
  rw [h9] at hw
  exact List.mem_of_mem_drop (List.mem_of_mem_take hw)
theorem lnX2_aheadBy_0 : Cond.fieldLink RX2 27 "RichestPays$People" "number" "I" ∈ wsX2_aheadBy := List.mem_of_getElem? (i := 1) rfl
theorem lnX2_aheadBy_1 : Cond.fieldLink RX2 37 "RichestPays$People" "ties" "I" ∈ wsX2_aheadBy := List.mem_of_getElem? (i := 2) rfl
set_option maxHeartbeats 4000000 in
set_option maxRecDepth 100000 in
theorem wX2_aheadBy_L5 (X : mm_X p s m args c cX2_aheadBy RX2 wsX2_aheadBy 6 D (mx_ty cI cT cS) t1 t2 A) (out : mm_M × Int32) (RET : ∀ (h : mm_M) (pc : Nat) (lo : List (Nat × Value)) (v : Int32), decode cX2_aheadBy pc = .ok (.ireturn, 1) → (h, v) = out → mm_J p l e rmX2_aheadBy s m args below meth c 0 0 Q D (mx_w cI cT cS ad) A 6 h pc lo [.int v]) (N : Nat) (y0 : Nat) (hy0 : mx_arr cI cT cS ad y0 6) (p2 : Int32) (k : mm_M → Int32 → Option (mm_M × Int32)) (HK : ∀ (h : mm_M) (m3 : Int32), k h m3 = some out → mm_J p l e rmX2_aheadBy s m args below meth c 0 0 Q D (mx_w cI cT cS ad) A 6 h 77 [(3, .int m3)] []) : ∀ (n : Nat) (h : mm_M) (m3 : Int32) (m4 : Int32), fX2_aheadBy_L5 N y0 p2 k n h m3 m4 = some out → mm_J p l e rmX2_aheadBy s m args below meth c 0 0 Q D (mx_w cI cT cS ad) A 6 h 5 [(0, .ref (ad 6)), (1, .ref (ad y0)), (2, .int p2), (3, .int m3), (4, .int m4)] [] := by
  intro n
  induction n with
  | zero =>
    intro h m3 m4 hf
    cases hf
  | succ n ih =>
    intro h m3 m4 hf
    rw [fX2_aheadBy_L5] at hf
    refine mj_iload X dX2_aheadBy_5 4 rfl ?_
    refine mj_aload_n X dX2_aheadBy_7 0 rfl ?_
    refine mj_get X inwX2_aheadBy_X2 (mx_at mx_oX2 h) rfl 5 (by decide) rfl lnX2_aheadBy_0 rfl dX2_aheadBy_8 ?_
    refine mj_icmp_ge (tgt := 77) X dX2_aheadBy_11 (by decide) (fun c1 => ?_) (fun c1 => ?_)
    · have hf := mm_t c1 hf
      exact mj_sub [3] rfl (HK h m3 hf)
    · have hf := mm_f c1 hf
      refine mj_iload_n X dX2_aheadBy_14 2 rfl ?_
      refine mj_iconst (v := (1 : Int32)) X dX2_aheadBy_15 (by decide) ?_
      refine mj_iload X dX2_aheadBy_16 4 rfl ?_
      refine mj_ishl X dX2_aheadBy_18 ?_
      refine mj_iand X dX2_aheadBy_19 ?_
      refine mj_if_eq (tgt := 27) X dX2_aheadBy_20 (by decide) (fun c2 => ?_) (fun c2 => ?_)
      · have hf := mm_t c2 hf
        refine mj_iconst (v := (0 : Int32)) X dX2_aheadBy_27 (by decide) ?_
        refine mj_istore (lo' := [(5, .int (0 : Int32)), (0, .ref (ad 6)), (1, .ref (ad y0)), (2, .int p2), (3, .int m3), (4, .int m4)]) X dX2_aheadBy_28 (by decide) rfl ?_
        refine mj_iload X dX2_aheadBy_30 0 rfl ?_
        refine mj_if_eq (tgt := 71) X dX2_aheadBy_32 (by decide) (fun _ => ?_) (fun c3 => absurd c3 (by decide))
        refine mj_iinc (k := 5) (v := (m4 + 1)) (lo' := [(4, .int (m4 + 1)), (5, .int (0 : Int32)), (0, .ref (ad 6)), (1, .ref (ad y0)), (2, .int p2), (3, .int m3)]) X dX2_aheadBy_71 rfl rfl (by decide) rfl ?_
        refine mj_goto (tgt := 5) X dX2_aheadBy_74 (by decide) ?_
        exact mj_sub [2, 3, 4, 5, 0] rfl (ih h m3 (m4 + 1) hf)
      · have hf := mm_f c2 hf
        refine mj_iconst (v := (1 : Int32)) X dX2_aheadBy_23 (by decide) ?_
        refine mj_goto (tgt := 28) X dX2_aheadBy_24 (by decide) ?_
        refine mj_istore (lo' := [(5, .int (1 : Int32)), (0, .ref (ad 6)), (1, .ref (ad y0)), (2, .int p2), (3, .int m3), (4, .int m4)]) X dX2_aheadBy_28 (by decide) rfl ?_
        refine mj_iload X dX2_aheadBy_30 0 rfl ?_
        refine mj_if_eq (tgt := 71) X dX2_aheadBy_32 (by decide) (fun c4 => absurd c4 (by decide)) (fun _ => ?_)
        refine mj_iload_n X dX2_aheadBy_35 4 rfl ?_
        refine mj_iconst (v := (-1 : Int32)) X dX2_aheadBy_36 (by decide) ?_
        refine mj_icmp_eq (tgt := 68) X dX2_aheadBy_37 (by decide) (fun c5 => ?_) (fun c5 => ?_)
        · have hf := mm_t c5 hf
          refine mj_iload X dX2_aheadBy_68 5 rfl ?_
          refine mj_istore_n (lo' := [(3, .int m4), (5, .int (1 : Int32)), (0, .ref (ad 6)), (1, .ref (ad y0)), (2, .int p2), (4, .int m4)]) X dX2_aheadBy_70 (by decide) rfl ?_
          refine mj_iinc (k := 5) (v := (m4 + 1)) (lo' := [(4, .int (m4 + 1)), (3, .int m4), (5, .int (1 : Int32)), (0, .ref (ad 6)), (1, .ref (ad y0)), (2, .int p2)]) X dX2_aheadBy_71 rfl rfl (by decide) rfl ?_
          refine mj_goto (tgt := 5) X dX2_aheadBy_74 (by decide) ?_
          exact mj_sub [3, 4, 5, 1, 0] rfl (ih h m4 (m4 + 1) hf)
        · have hf := mm_f c5 hf
          refine mj_aload_n X dX2_aheadBy_40 2 rfl ?_
          refine mj_iload X dX2_aheadBy_41 5 rfl ?_
          obtain ⟨g6, hf⟩ := mm_g hf
          refine mj_iald X 0 (mx_at hy0 h) rfl g6 dX2_aheadBy_43 ?_
          refine mj_aload_n X dX2_aheadBy_44 2 rfl ?_
          refine mj_iload_n X dX2_aheadBy_45 4 rfl ?_
          obtain ⟨g7, hf⟩ := mm_g hf
          refine mj_iald X 0 (mx_at hy0 h) rfl g7 dX2_aheadBy_46 ?_
          refine mj_icmp_gt (tgt := 68) X dX2_aheadBy_47 (by decide) (fun c8 => ?_) (fun c8 => ?_)
          · have hf := mm_t c8 hf
            refine mj_iload X dX2_aheadBy_68 5 rfl ?_
            refine mj_istore_n (lo' := [(3, .int m4), (5, .int (1 : Int32)), (0, .ref (ad 6)), (1, .ref (ad y0)), (2, .int p2), (4, .int m4)]) X dX2_aheadBy_70 (by decide) rfl ?_
            refine mj_iinc (k := 5) (v := (m4 + 1)) (lo' := [(4, .int (m4 + 1)), (3, .int m4), (5, .int (1 : Int32)), (0, .ref (ad 6)), (1, .ref (ad y0)), (2, .int p2)]) X dX2_aheadBy_71 rfl rfl (by decide) rfl ?_
            refine mj_goto (tgt := 5) X dX2_aheadBy_74 (by decide) ?_
            exact mj_sub [3, 4, 5, 1, 0] rfl (ih h m4 (m4 + 1) hf)
          · have hf := mm_f c8 hf
            refine mj_aload_n X dX2_aheadBy_50 1 rfl ?_
            refine mj_get X inwX2_aheadBy_X2 (mx_at mx_oX2 h) rfl 8 (by decide) rfl lnX2_aheadBy_1 rfl dX2_aheadBy_51 ?_
            refine mj_iconst (v := (1 : Int32)) X dX2_aheadBy_54 (by decide) ?_
            refine mj_icmp_ne (tgt := 71) X dX2_aheadBy_55 (by decide) (fun c9 => ?_) (fun c9 => ?_)
            · have hf := mm_f c9 hf
              refine mj_iinc (k := 5) (v := (m4 + 1)) (lo' := [(4, .int (m4 + 1)), (5, .int (1 : Int32)), (0, .ref (ad 6)), (1, .ref (ad y0)), (2, .int p2), (3, .int m3)]) X dX2_aheadBy_71 rfl rfl (by decide) rfl ?_
              refine mj_goto (tgt := 5) X dX2_aheadBy_74 (by decide) ?_
              exact mj_sub [2, 3, 4, 5, 0] rfl (ih h m3 (m4 + 1) hf)
            · have hf := mm_t c9 hf
              refine mj_aload_n X dX2_aheadBy_58 2 rfl ?_
              refine mj_iload X dX2_aheadBy_59 5 rfl ?_
              refine mj_iald X 0 (mx_at hy0 h) rfl g6 dX2_aheadBy_61 ?_
              refine mj_aload_n X dX2_aheadBy_62 2 rfl ?_
              refine mj_iload_n X dX2_aheadBy_63 4 rfl ?_
              refine mj_iald X 0 (mx_at hy0 h) rfl g7 dX2_aheadBy_64 ?_
              refine mj_icmp_ne (tgt := 71) X dX2_aheadBy_65 (by decide) (fun c10 => ?_) (fun c10 => ?_)
              · have hf := mm_f c10 hf
                refine mj_iinc (k := 5) (v := (m4 + 1)) (lo' := [(4, .int (m4 + 1)), (5, .int (1 : Int32)), (0, .ref (ad 6)), (1, .ref (ad y0)), (2, .int p2), (3, .int m3)]) X dX2_aheadBy_71 rfl rfl (by decide) rfl ?_
                refine mj_goto (tgt := 5) X dX2_aheadBy_74 (by decide) ?_
                exact mj_sub [2, 3, 4, 5, 0] rfl (ih h m3 (m4 + 1) hf)
              · have hf := mm_t c10 hf
                refine mj_iload X dX2_aheadBy_68 5 rfl ?_
                refine mj_istore_n (lo' := [(3, .int m4), (5, .int (1 : Int32)), (0, .ref (ad 6)), (1, .ref (ad y0)), (2, .int p2), (4, .int m4)]) X dX2_aheadBy_70 (by decide) rfl ?_
                refine mj_iinc (k := 5) (v := (m4 + 1)) (lo' := [(4, .int (m4 + 1)), (3, .int m4), (5, .int (1 : Int32)), (0, .ref (ad 6)), (1, .ref (ad y0)), (2, .int p2)]) X dX2_aheadBy_71 rfl rfl (by decide) rfl ?_
                refine mj_goto (tgt := 5) X dX2_aheadBy_74 (by decide) ?_
                exact mj_sub [3, 4, 5, 1, 0] rfl (ih h m4 (m4 + 1) hf)
set_option maxHeartbeats 4000000 in
set_option maxRecDepth 100000 in
theorem kX2_aheadBy (l : Launch) (D : va_G) (t1 t2 : Nat) (cI : ClassId) (cT : ClassId) (cS : ClassId) (ad : Nat → Nat) (y0 : Nat) (hy0 : mx_arr cI cT cS ad y0 6) (N : Nat) (h : mm_M) (a1 : Int32) (h1 : mm_M) (r : Int32) (hf : fX2_aheadBy N y0 h a1 = some (h1, r)) : mm_Ki l yX2_aheadBy wsX2_aheadBy rmX2_aheadBy D (mx_ty cI cT cS) t1 t2 (mx_w cI cT cS ad) [.ref (ad 6), .ref (ad y0), .int a1] h r h1 := by
  refine mm_open_i [.ref (ad 6), .ref (ad y0), .int a1] h r h1 RX2 (by decide) rfl rfl (Nat.le_of_ble_eq_true rfl) ?_
  intro p e s m below meth c A X hr hlocks
  have RET : ∀ (h : mm_M) (pc : Nat) (lo : List (Nat × Value)) (v : Int32), decode cX2_aheadBy pc = .ok (.ireturn, 1) → (h, v) = (h1, r) → mm_J p l e rmX2_aheadBy s m ([.ref (ad 6), .ref (ad y0), .int a1] : List Value).toArray below meth c 0 0 (MQ below (va_Qi (fun (r' : Int32) (u : mm_M) => r' = r ∧ u = h1) (mm_Post D (mx_w cI cT cS ad) A) A) ([.ref (ad 6), .ref (ad y0), .int a1] : List Value).toArray s 0 0 A) D (mx_w cI cT cS ad) A 6 h pc lo [.int v] := by
    intro h2 pc lo v hd he
    cases he
    exact mj_iret X hr rfl hlocks hd
  generalize hout : (h1, r) = out at hf RET
  unfold fX2_aheadBy at hf
  refine mj_lo (lo' := [(0, .ref (ad 6)), (1, .ref (ad y0)), (2, .int a1)]) rfl ?_
  refine mj_iconst (v := (-1 : Int32)) X dX2_aheadBy_0 (by decide) ?_
  refine mj_istore_n (lo' := [(3, .int (-1 : Int32)), (0, .ref (ad 6)), (1, .ref (ad y0)), (2, .int a1)]) X dX2_aheadBy_1 (by decide) rfl ?_
  refine mj_iconst (v := (0 : Int32)) X dX2_aheadBy_2 (by decide) ?_
  refine mj_istore (lo' := [(4, .int (0 : Int32)), (3, .int (-1 : Int32)), (0, .ref (ad 6)), (1, .ref (ad y0)), (2, .int a1)]) X dX2_aheadBy_3 (by decide) rfl ?_
  refine mj_sub [2, 3, 4, 1, 0] rfl (wX2_aheadBy_L5 X out RET N y0 hy0 a1 _ (fun h11 v12 hf => ?_) N h (-1 : Int32) (0 : Int32) hf)
  refine mj_iload_n X dX2_aheadBy_77 0 rfl ?_
  exact RET h11 _ _ _ dX2_aheadBy_78 (Option.some.inj hf)
end
