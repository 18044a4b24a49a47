section
variable {p : Program} {l : Launch} {e : Env} {s : State} {m : MethodId} {args : Array Value} {below : List Frame} {meth : Method} {c : Code} {Q : State → Prop} {D : va_G} {A : Nat → Prop} {t1 t2 : Nat} {cI cT cS cZ : ClassId} {ad : Nat → Nat}
abbrev rmX8_bills : Room := { frames := 1, cells := 0, slots := 0, locals := 25 }
theorem inwX8_bills_X8 : ∀ w ∈ wsX80, w ∈ wsX8_bills := by
  intro w hw
  have h9 : wsX80 = (wsX8_bills.drop 13).take 29 := rfl
  rw [h9] at hw
  exact List.mem_of_mem_drop (List.mem_of_mem_take hw)
theorem lnX8_bills_0 : Cond.fieldLink RX8 89 "RichestPaysModel" "people" "I" ∈ wsX8_bills := List.mem_of_getElem? (i := 1) rfl
theorem lnX8_bills_1 : Cond.fieldLink RX8 43 "RichestPaysModel" "owes" "[I" ∈ wsX8_bills := List.mem_of_getElem? (i := 2) rfl
theorem lnX8_bills_2 : Cond.fieldLink RX8 31 "RichestPaysModel" "setting" "[I" ∈ wsX8_bills := List.mem_of_getElem? (i := 3) rfl
theorem lnX8_bills_3 : Cond.fieldLink RX8 37 "RichestPaysModel" "seat" "[I" ∈ wsX8_bills := List.mem_of_getElem? (i := 4) rfl
theorem lnX8_bills_4 : Cond.fieldLink RX8 19 "RichestPaysModel" "appetites" "[I" ∈ wsX8_bills := List.mem_of_getElem? (i := 5) rfl
theorem lnX8_bills_5 : Cond.fieldLink RX8 40 "RichestPaysModel" "pays" "[I" ∈ wsX8_bills := List.mem_of_getElem? (i := 6) rfl
theorem lnX8_bills_6 : Cond.fieldLink RX8 34 "RichestPaysModel" "hand" "[I" ∈ wsX8_bills := List.mem_of_getElem? (i := 7) rfl
set_option maxHeartbeats 4000000 in
set_option maxRecDepth 100000 in
theorem wX8_bills_L2 (X : mm_X p s m args c cX8_bills RX8 wsX8_bills 6 D (my_ty cI cZ) t1 t2 A) (out : mm_M × Unit) (RET : ∀ (h : mm_M) (pc : Nat) (lo : List (Nat × Value)) (v : Unit), decode cX8_bills pc = .ok (.return_, 1) → (h, v) = out → mm_J p l e rmX8_bills s m args below meth c 0 0 Q D (my_w cI cZ ad) A 6 h pc lo []) (N : Nat)   (k : mm_M → Option (mm_M × Unit)) (HK : ∀ (h : mm_M), k h = some out → mm_J p l e rmX8_bills s m args below meth c 0 0 Q D (my_w cI cZ ad) A 6 h 52 [(0, .ref (ad 0))] []) : ∀ (n : Nat) (h : mm_M) (m1 : Int32), fX8_bills_L2 N k n h m1 = some out → mm_J p l e rmX8_bills s m args below meth c 0 0 Q D (my_w cI cZ ad) A 6 h 2 [(0, .ref (ad 0)), (1, .int m1)] [] := by
  intro n
  induction n with
  | zero =>
    intro h m1 hf
    cases hf
  | succ n ih =>
    intro h m1 hf
    rw [fX8_bills_L2] at hf
    refine mj_iload_n X dX8_bills_2 1 rfl ?_
    refine mj_aload_n X dX8_bills_3 0 rfl ?_
    refine mj_get X inwX8_bills_X8 (my_at my_oX8 h) rfl 2 (by decide) rfl lnX8_bills_0 rfl dX8_bills_4 ?_
    refine mj_icmp_ge (tgt := 52) X dX8_bills_7 (by decide) (fun c1 => ?_) (fun c1 => ?_)
    · have hf := mm_t c1 hf
      exact mj_sub [0] rfl (HK h hf)
    · have hf := mm_f c1 hf
      refine mj_aload_n X dX8_bills_10 0 rfl ?_
      refine mj_get X inwX8_bills_X8 (my_at my_oX8 h) rfl 13 (by decide) rfl lnX8_bills_1 rfl dX8_bills_11 ?_
      refine mj_iload_n X dX8_bills_14 1 rfl ?_
      refine mj_aload_n X dX8_bills_15 0 rfl ?_
      refine mj_get X inwX8_bills_X8 (my_at my_oX8 h) rfl 9 (by decide) rfl lnX8_bills_2 rfl dX8_bills_16 ?_
      refine mj_iconst (v := (0 : Int32)) X dX8_bills_19 (by decide) ?_
      refine mj_iald X 0 (my_at my_a8 h) rfl (by decide) dX8_bills_20 ?_
      refine mj_iconst (v := (2 : Int32)) X dX8_bills_21 (by decide) ?_
      refine mj_icmp_ne (tgt := 44) X dX8_bills_22 (by decide) (fun c2 => ?_) (fun c2 => ?_)
      · have hf := mm_f c2 hf
        refine mj_iconst (v := (0 : Int32)) X dX8_bills_44 (by decide) ?_
        obtain ⟨g3, hf⟩ := mm_g hf
        obtain ⟨h4, eh4, hf⟩ := mm_l hf
        refine mj_iast X 0 (my_at my_a12 h) rfl g3 (my_ast my_a12 eh4) dX8_bills_45 ?_
        refine mj_iinc (k := 1) (v := (m1 + 1)) (lo' := [(1, .int (m1 + 1)), (0, .ref (ad 0))]) X dX8_bills_46 rfl rfl (by decide) rfl ?_
        refine mj_goto (tgt := 2) X dX8_bills_49 (by decide) ?_
        exact mj_sub [1, 0] rfl (ih h4 (m1 + 1) hf)
      · have hf := mm_t c2 hf
        refine mj_aload_n X dX8_bills_25 0 rfl ?_
        refine mj_get X inwX8_bills_X8 (my_at my_oX8 h) rfl 11 (by decide) rfl lnX8_bills_3 rfl dX8_bills_26 ?_
        refine mj_iload_n X dX8_bills_29 1 rfl ?_
        obtain ⟨g5, hf⟩ := mm_g hf
        refine mj_iald X 0 (my_at my_a10 h) rfl g5 dX8_bills_30 ?_
        refine mj_iconst (v := (-1 : Int32)) X dX8_bills_31 (by decide) ?_
        refine mj_icmp_eq (tgt := 44) X dX8_bills_32 (by decide) (fun c6 => ?_) (fun c6 => ?_)
        · have hf := mm_t c6 hf
          refine mj_iconst (v := (0 : Int32)) X dX8_bills_44 (by decide) ?_
          obtain ⟨h7, eh7, hf⟩ := mm_l hf
          refine mj_iast X 0 (my_at my_a12 h) rfl g5 (my_ast my_a12 eh7) dX8_bills_45 ?_
          refine mj_iinc (k := 1) (v := (m1 + 1)) (lo' := [(1, .int (m1 + 1)), (0, .ref (ad 0))]) X dX8_bills_46 rfl rfl (by decide) rfl ?_
          refine mj_goto (tgt := 2) X dX8_bills_49 (by decide) ?_
          exact mj_sub [1, 0] rfl (ih h7 (m1 + 1) hf)
        · have hf := mm_f c6 hf
          refine mj_aload_n X dX8_bills_35 0 rfl ?_
          refine mj_get X inwX8_bills_X8 (my_at my_oX8 h) rfl 4 (by decide) rfl lnX8_bills_4 rfl dX8_bills_36 ?_
          refine mj_iload_n X dX8_bills_39 1 rfl ?_
          refine mj_iald X 0 (my_at my_a4 h) rfl g5 dX8_bills_40 ?_
          refine mj_goto (tgt := 45) X dX8_bills_41 (by decide) ?_
          obtain ⟨h8, eh8, hf⟩ := mm_l hf
          refine mj_iast X 0 (my_at my_a12 h) rfl g5 (my_ast my_a12 eh8) dX8_bills_45 ?_
          refine mj_iinc (k := 1) (v := (m1 + 1)) (lo' := [(1, .int (m1 + 1)), (0, .ref (ad 0))]) X dX8_bills_46 rfl rfl (by decide) rfl ?_
          refine mj_goto (tgt := 2) X dX8_bills_49 (by decide) ?_
          exact mj_sub [1, 0] rfl (ih h8 (m1 + 1) hf)
set_option maxHeartbeats 4000000 in
set_option maxRecDepth 100000 in
theorem wX8_bills_L74 (X : mm_X p s m args c cX8_bills RX8 wsX8_bills 6 D (my_ty cI cZ) t1 t2 A) (out : mm_M × Unit) (RET : ∀ (h : mm_M) (pc : Nat) (lo : List (Nat × Value)) (v : Unit), decode cX8_bills pc = .ok (.return_, 1) → (h, v) = out → mm_J p l e rmX8_bills s m args below meth c 0 0 Q D (my_w cI cZ ad) A 6 h pc lo []) (N : Nat)  (p1 : Int32) (k : mm_M → Int32 → Option (mm_M × Unit)) (HK : ∀ (h : mm_M) (m2 : Int32), k h m2 = some out → mm_J p l e rmX8_bills s m args below meth c 0 0 Q D (my_w cI cZ ad) A 6 h 111 [(0, .ref (ad 0)), (1, .int p1), (2, .int m2)] []) : ∀ (n : Nat) (h : mm_M) (m2 : Int32) (m3 : Int32), fX8_bills_L74 N p1 k n h m2 m3 = some out → mm_J p l e rmX8_bills s m args below meth c 0 0 Q D (my_w cI cZ ad) A 6 h 74 [(0, .ref (ad 0)), (1, .int p1), (2, .int m2), (3, .int m3)] [] := by
  intro n
  induction n with
  | zero =>
    intro h m2 m3 hf
    cases hf
  | succ n ih =>
    intro h m2 m3 hf
    rw [fX8_bills_L74] at hf
    refine mj_iload_n X dX8_bills_74 3 rfl ?_
    refine mj_aload_n X dX8_bills_75 0 rfl ?_
    refine mj_get X inwX8_bills_X8 (my_at my_oX8 h) rfl 2 (by decide) rfl lnX8_bills_0 rfl dX8_bills_76 ?_
    refine mj_icmp_ge (tgt := 111) X dX8_bills_79 (by decide) (fun c12 => ?_) (fun c12 => ?_)
    · have hf := mm_t c12 hf
      exact mj_sub [0, 1, 2] rfl (HK h m2 hf)
    · have hf := mm_f c12 hf
      refine mj_iload_n X dX8_bills_82 2 rfl ?_
      refine mj_aload_n X dX8_bills_83 0 rfl ?_
      refine mj_get X inwX8_bills_X8 (my_at my_oX8 h) rfl 11 (by decide) rfl lnX8_bills_3 rfl dX8_bills_84 ?_
      refine mj_iload_n X dX8_bills_87 3 rfl ?_
      obtain ⟨g13, hf⟩ := mm_g hf
      refine mj_iald X 0 (my_at my_a10 h) rfl g13 dX8_bills_88 ?_
      refine mj_iload_n X dX8_bills_89 1 rfl ?_
      refine mj_icmp_ne (tgt := 102) X dX8_bills_90 (by decide) (fun c14 => ?_) (fun c14 => ?_)
      · have hf := mm_f c14 hf
        refine mj_iconst (v := (0 : Int32)) X dX8_bills_102 (by decide) ?_
        refine mj_iadd X dX8_bills_103 ?_
        obtain ⟨x15, ex15, hf⟩ := mm_l hf
        refine mj_topi ex15 ?_
        refine mj_istore_n (lo' := [(2, .int x15), (0, .ref (ad 0)), (1, .int p1), (3, .int m3)]) X dX8_bills_104 (by decide) rfl ?_
        refine mj_iinc (k := 3) (v := (m3 + 1)) (lo' := [(3, .int (m3 + 1)), (2, .int x15), (0, .ref (ad 0)), (1, .int p1)]) X dX8_bills_105 rfl rfl (by decide) rfl ?_
        refine mj_goto (tgt := 74) X dX8_bills_108 (by decide) ?_
        exact mj_sub [2, 3, 1, 0] rfl (ih h x15 (m3 + 1) hf)
      · have hf := mm_t c14 hf
        refine mj_aload_n X dX8_bills_93 0 rfl ?_
        refine mj_get X inwX8_bills_X8 (my_at my_oX8 h) rfl 4 (by decide) rfl lnX8_bills_4 rfl dX8_bills_94 ?_
        refine mj_iload_n X dX8_bills_97 3 rfl ?_
        refine mj_iald X 0 (my_at my_a4 h) rfl g13 dX8_bills_98 ?_
        refine mj_goto (tgt := 103) X dX8_bills_99 (by decide) ?_
        refine mj_iadd X dX8_bills_103 ?_
        obtain ⟨x16, ex16, hf⟩ := mm_l hf
        refine mj_topi ex16 ?_
        refine mj_istore_n (lo' := [(2, .int x16), (0, .ref (ad 0)), (1, .int p1), (3, .int m3)]) X dX8_bills_104 (by decide) rfl ?_
        refine mj_iinc (k := 3) (v := (m3 + 1)) (lo' := [(3, .int (m3 + 1)), (2, .int x16), (0, .ref (ad 0)), (1, .int p1)]) X dX8_bills_105 rfl rfl (by decide) rfl ?_
        refine mj_goto (tgt := 74) X dX8_bills_108 (by decide) ?_
        exact mj_sub [2, 3, 1, 0] rfl (ih h x16 (m3 + 1) hf)
set_option maxHeartbeats 4000000 in
set_option maxRecDepth 100000 in
theorem wX8_bills_L54 (X : mm_X p s m args c cX8_bills RX8 wsX8_bills 6 D (my_ty cI cZ) t1 t2 A) (out : mm_M × Unit) (RET : ∀ (h : mm_M) (pc : Nat) (lo : List (Nat × Value)) (v : Unit), decode cX8_bills pc = .ok (.return_, 1) → (h, v) = out → mm_J p l e rmX8_bills s m args below meth c 0 0 Q D (my_w cI cZ ad) A 6 h pc lo []) (N : Nat)   (k : mm_M → Option (mm_M × Unit)) (HK : ∀ (h : mm_M), k h = some out → mm_J p l e rmX8_bills s m args below meth c 0 0 Q D (my_w cI cZ ad) A 6 h 187 [(0, .ref (ad 0))] []) : ∀ (n : Nat) (h : mm_M) (m1 : Int32), fX8_bills_L54 N k n h m1 = some out → mm_J p l e rmX8_bills s m args below meth c 0 0 Q D (my_w cI cZ ad) A 6 h 54 [(0, .ref (ad 0)), (1, .int m1)] [] := by
  intro n
  induction n with
  | zero =>
    intro h m1 hf
    cases hf
  | succ n ih =>
    intro h m1 hf
    rw [fX8_bills_L54] at hf
    refine mj_iload_n X dX8_bills_54 1 rfl ?_
    refine mj_bipush (v := (6 : Int32)) X dX8_bills_55 (by decide) ?_
    refine mj_icmp_ge (tgt := 187) X dX8_bills_57 (by decide) (fun c10 => ?_) (fun c10 => ?_)
    · have hf := mm_t c10 hf
      exact mj_sub [0] rfl (HK h hf)
    · have hf := mm_f c10 hf
      refine mj_aload_n X dX8_bills_60 0 rfl ?_
      refine mj_get X inwX8_bills_X8 (my_at my_oX8 h) rfl 9 (by decide) rfl lnX8_bills_2 rfl dX8_bills_61 ?_
      refine mj_iconst (v := (0 : Int32)) X dX8_bills_64 (by decide) ?_
      refine mj_iald X 0 (my_at my_a8 h) rfl (by decide) dX8_bills_65 ?_
      refine mj_iconst (v := (2 : Int32)) X dX8_bills_66 (by decide) ?_
      refine mj_icmp_ge (tgt := 187) X dX8_bills_67 (by decide) (fun c11 => ?_) (fun c11 => ?_)
      · have hf := mm_t c11 hf
        exact mj_sub [0] rfl (HK h hf)
      · have hf := mm_f c11 hf
        refine mj_iconst (v := (0 : Int32)) X dX8_bills_70 (by decide) ?_
        refine mj_istore_n (lo' := [(2, .int (0 : Int32)), (0, .ref (ad 0)), (1, .int m1)]) X dX8_bills_71 (by decide) rfl ?_
        refine mj_iconst (v := (0 : Int32)) X dX8_bills_72 (by decide) ?_
        refine mj_istore_n (lo' := [(3, .int (0 : Int32)), (2, .int (0 : Int32)), (0, .ref (ad 0)), (1, .int m1)]) X dX8_bills_73 (by decide) rfl ?_
        refine mj_sub [2, 3, 1, 0] rfl (wX8_bills_L74 X out RET N m1 _ (fun h17 v18 hf => ?_) N h (0 : Int32) (0 : Int32) hf)
        refine mj_aload_n X dX8_bills_111 0 rfl ?_
        refine mj_iload_n X dX8_bills_112 1 rfl ?_
        refine mj_iconst (v := (-1 : Int32)) X dX8_bills_113 (by decide) ?_
        obtain ⟨h19, r20, q21, hf⟩ := mm_c hf
        refine mj_callVi (As := [.int m1, .int (-1 : Int32)]) (rest := []) X (kX8_firstAt l D t1 t2 cI cZ ad N h17 m1 (-1 : Int32) h19 r20 q21) (cwV 2 X.2.2.2.2.1 gX8_bills_X8_firstAt rfl rfl rfl (by decide +kernel) ⟨Nat.le_of_ble_eq_true rfl, Nat.le_of_ble_eq_true rfl⟩) (my_at my_oX8 h17) rfl rfl rfl rfl (Nat.le_of_ble_eq_true rfl) ⟨Nat.zero_le _, Nat.zero_le _⟩ dX8_bills_114 ?_
        refine mj_istore_n (lo' := [(3, .int r20), (0, .ref (ad 0)), (1, .int m1), (2, .int v18)]) X dX8_bills_117 (by decide) rfl ?_
        refine mj_iload_n X dX8_bills_118 0 rfl ?_
        refine mj_iconst (v := (-1 : Int32)) X dX8_bills_119 (by decide) ?_
        refine mj_icmp_eq (tgt := 181) X dX8_bills_120 (by decide) (fun c22 => ?_) (fun c22 => ?_)
        · have hf := mm_t c22 hf
          refine mj_iinc (k := 2) (v := (m1 + 1)) (lo' := [(1, .int (m1 + 1)), (3, .int r20), (0, .ref (ad 0)), (2, .int v18)]) X dX8_bills_181 rfl rfl (by decide) rfl ?_
          refine mj_goto (tgt := 54) X dX8_bills_184 (by decide) ?_
          exact mj_sub [2, 0] rfl (ih h19 (m1 + 1) hf)
        · have hf := mm_f c22 hf
          refine mj_aload_n X dX8_bills_123 1 rfl ?_
          refine mj_iload_n X dX8_bills_124 2 rfl ?_
          refine mj_iload_n X dX8_bills_125 0 rfl ?_
          obtain ⟨h23, r24, q25, hf⟩ := mm_c hf
          refine mj_callVi (As := [.int m1, .int r20]) (rest := []) X (kX8_firstAt l D t1 t2 cI cZ ad N h19 m1 r20 h23 r24 q25) (cwV 2 X.2.2.2.2.1 gX8_bills_X8_firstAt rfl rfl rfl (by decide +kernel) ⟨Nat.le_of_ble_eq_true rfl, Nat.le_of_ble_eq_true rfl⟩) (my_at my_oX8 h19) rfl rfl rfl rfl (Nat.le_of_ble_eq_true rfl) ⟨Nat.zero_le _, Nat.zero_le _⟩ dX8_bills_126 ?_
          refine mj_istore (lo' := [(4, .int r24), (3, .int r20), (0, .ref (ad 0)), (1, .int m1), (2, .int v18)]) X dX8_bills_129 (by decide) rfl ?_
          refine mj_aload_n X dX8_bills_131 2 rfl ?_
          refine mj_get X inwX8_bills_X8 (my_at my_oX8 h23) rfl 9 (by decide) rfl lnX8_bills_2 rfl dX8_bills_132 ?_
          refine mj_iconst (v := (0 : Int32)) X dX8_bills_135 (by decide) ?_
          refine mj_iald X 0 (my_at my_a8 h23) rfl (by decide) dX8_bills_136 ?_
          refine mj_iconst (v := (1 : Int32)) X dX8_bills_137 (by decide) ?_
          refine mj_icmp_ne (tgt := 153) X dX8_bills_138 (by decide) (fun c26 => ?_) (fun c26 => ?_)
          · have hf := mm_f c26 hf
            refine mj_iload_n X dX8_bills_153 4 rfl ?_
            refine mj_istore (lo' := [(5, .int v18), (4, .int r24), (3, .int r20), (0, .ref (ad 0)), (1, .int m1), (2, .int v18)]) X dX8_bills_154 (by decide) rfl ?_
            refine mj_aload_n X dX8_bills_156 3 rfl ?_
            refine mj_get X inwX8_bills_X8 (my_at my_oX8 h23) rfl 13 (by decide) rfl lnX8_bills_1 rfl dX8_bills_157 ?_
            refine mj_iload_n X dX8_bills_160 2 rfl ?_
            refine mj_iload X dX8_bills_161 0 rfl ?_
            obtain ⟨g27, hf⟩ := mm_g hf
            obtain ⟨h28, eh28, hf⟩ := mm_l hf
            refine mj_iast X 0 (my_at my_a12 h23) rfl g27 (my_ast my_a12 eh28) dX8_bills_163 ?_
            refine mj_iload X dX8_bills_164 1 rfl ?_
            refine mj_iconst (v := (-1 : Int32)) X dX8_bills_166 (by decide) ?_
            refine mj_icmp_eq (tgt := 181) X dX8_bills_167 (by decide) (fun c29 => ?_) (fun c29 => ?_)
            · have hf := mm_t c29 hf
              refine mj_iinc (k := 4) (v := (m1 + 1)) (lo' := [(1, .int (m1 + 1)), (5, .int v18), (4, .int r24), (3, .int r20), (0, .ref (ad 0)), (2, .int v18)]) X dX8_bills_181 rfl rfl (by decide) rfl ?_
              refine mj_goto (tgt := 54) X dX8_bills_184 (by decide) ?_
              exact mj_sub [4, 0] rfl (ih h28 (m1 + 1) hf)
            · have hf := mm_f c29 hf
              refine mj_aload_n X dX8_bills_170 3 rfl ?_
              refine mj_get X inwX8_bills_X8 (my_at my_oX8 h28) rfl 13 (by decide) rfl lnX8_bills_1 rfl dX8_bills_171 ?_
              refine mj_iload X dX8_bills_174 1 rfl ?_
              refine mj_iload_n X dX8_bills_176 5 rfl ?_
              refine mj_iload X dX8_bills_177 0 rfl ?_
              refine mj_isub X dX8_bills_179 ?_
              obtain ⟨g30, hf⟩ := mm_g hf
              obtain ⟨h31, eh31, hf⟩ := mm_l hf
              refine mj_iast X 0 (my_at my_a12 h28) rfl g30 (my_ast my_a12 eh31) dX8_bills_180 ?_
              refine mj_iinc (k := 4) (v := (m1 + 1)) (lo' := [(1, .int (m1 + 1)), (5, .int v18), (4, .int r24), (3, .int r20), (0, .ref (ad 0)), (2, .int v18)]) X dX8_bills_181 rfl rfl (by decide) rfl ?_
              refine mj_goto (tgt := 54) X dX8_bills_184 (by decide) ?_
              exact mj_sub [4, 0] rfl (ih h31 (m1 + 1) hf)
          · have hf := mm_t c26 hf
            refine mj_iload X dX8_bills_141 0 rfl ?_
            refine mj_iconst (v := (-1 : Int32)) X dX8_bills_143 (by decide) ?_
            refine mj_icmp_eq (tgt := 153) X dX8_bills_144 (by decide) (fun c32 => ?_) (fun c32 => ?_)
            · have hf := mm_t c32 hf
              refine mj_iload_n X dX8_bills_153 4 rfl ?_
              refine mj_istore (lo' := [(5, .int v18), (4, .int r24), (3, .int r20), (0, .ref (ad 0)), (1, .int m1), (2, .int v18)]) X dX8_bills_154 (by decide) rfl ?_
              refine mj_aload_n X dX8_bills_156 3 rfl ?_
              refine mj_get X inwX8_bills_X8 (my_at my_oX8 h23) rfl 13 (by decide) rfl lnX8_bills_1 rfl dX8_bills_157 ?_
              refine mj_iload_n X dX8_bills_160 2 rfl ?_
              refine mj_iload X dX8_bills_161 0 rfl ?_
              obtain ⟨g33, hf⟩ := mm_g hf
              obtain ⟨h34, eh34, hf⟩ := mm_l hf
              refine mj_iast X 0 (my_at my_a12 h23) rfl g33 (my_ast my_a12 eh34) dX8_bills_163 ?_
              refine mj_iload X dX8_bills_164 1 rfl ?_
              refine mj_iconst (v := (-1 : Int32)) X dX8_bills_166 (by decide) ?_
              refine mj_icmp_eq (tgt := 181) X dX8_bills_167 (by decide) (fun _ => ?_) (fun c35 => absurd c32 c35)
              refine mj_iinc (k := 4) (v := (m1 + 1)) (lo' := [(1, .int (m1 + 1)), (5, .int v18), (4, .int r24), (3, .int r20), (0, .ref (ad 0)), (2, .int v18)]) X dX8_bills_181 rfl rfl (by decide) rfl ?_
              refine mj_goto (tgt := 54) X dX8_bills_184 (by decide) ?_
              exact mj_sub [4, 0] rfl (ih h34 (m1 + 1) hf)
            · have hf := mm_f c32 hf
              refine mj_iload_n X dX8_bills_147 4 rfl ?_
              refine mj_iconst (v := (2 : Int32)) X dX8_bills_148 (by decide) ?_
              refine mj_idiv X dX8_bills_149 (by decide) ?_
              refine mj_goto (tgt := 154) X dX8_bills_150 (by decide) ?_
              obtain ⟨x36, ex36, hf⟩ := mm_l hf
              refine mj_topi ex36 ?_
              refine mj_istore (lo' := [(5, .int x36), (4, .int r24), (3, .int r20), (0, .ref (ad 0)), (1, .int m1), (2, .int v18)]) X dX8_bills_154 (by decide) rfl ?_
              refine mj_aload_n X dX8_bills_156 3 rfl ?_
              refine mj_get X inwX8_bills_X8 (my_at my_oX8 h23) rfl 13 (by decide) rfl lnX8_bills_1 rfl dX8_bills_157 ?_
              refine mj_iload_n X dX8_bills_160 2 rfl ?_
              refine mj_iload X dX8_bills_161 0 rfl ?_
              obtain ⟨g37, hf⟩ := mm_g hf
              obtain ⟨h38, eh38, hf⟩ := mm_l hf
              refine mj_iast X 0 (my_at my_a12 h23) rfl g37 (my_ast my_a12 eh38) dX8_bills_163 ?_
              refine mj_iload X dX8_bills_164 1 rfl ?_
              refine mj_iconst (v := (-1 : Int32)) X dX8_bills_166 (by decide) ?_
              refine mj_icmp_eq (tgt := 181) X dX8_bills_167 (by decide) (fun c39 => absurd c39 c32) (fun _ => ?_)
              refine mj_aload_n X dX8_bills_170 3 rfl ?_
              refine mj_get X inwX8_bills_X8 (my_at my_oX8 h38) rfl 13 (by decide) rfl lnX8_bills_1 rfl dX8_bills_171 ?_
              refine mj_iload X dX8_bills_174 1 rfl ?_
              refine mj_iload_n X dX8_bills_176 5 rfl ?_
              refine mj_iload X dX8_bills_177 0 rfl ?_
              refine mj_isub X dX8_bills_179 ?_
              obtain ⟨g40, hf⟩ := mm_g hf
              obtain ⟨h41, eh41, hf⟩ := mm_l hf
              refine mj_iast X 0 (my_at my_a12 h38) rfl g40 (my_ast my_a12 eh41) dX8_bills_180 ?_
              refine mj_iinc (k := 4) (v := (m1 + 1)) (lo' := [(1, .int (m1 + 1)), (5, .int x36), (4, .int r24), (3, .int r20), (0, .ref (ad 0)), (2, .int v18)]) X dX8_bills_181 rfl rfl (by decide) rfl ?_
              refine mj_goto (tgt := 54) X dX8_bills_184 (by decide) ?_
              exact mj_sub [4, 0] rfl (ih h41 (m1 + 1) hf)
set_option maxHeartbeats 4000000 in
set_option maxRecDepth 100000 in
theorem wX8_bills_L189 (X : mm_X p s m args c cX8_bills RX8 wsX8_bills 6 D (my_ty cI cZ) t1 t2 A) (out : mm_M × Unit) (RET : ∀ (h : mm_M) (pc : Nat) (lo : List (Nat × Value)) (v : Unit), decode cX8_bills pc = .ok (.return_, 1) → (h, v) = out → mm_J p l e rmX8_bills s m args below meth c 0 0 Q D (my_w cI cZ ad) A 6 h pc lo []) (N : Nat)   (k : mm_M → Option (mm_M × Unit)) (HK : ∀ (h : mm_M), k h = some out → mm_J p l e rmX8_bills s m args below meth c 0 0 Q D (my_w cI cZ ad) A 6 h 239 [] []) : ∀ (n : Nat) (h : mm_M) (m1 : Int32), fX8_bills_L189 N k n h m1 = some out → mm_J p l e rmX8_bills s m args below meth c 0 0 Q D (my_w cI cZ ad) A 6 h 189 [(0, .ref (ad 0)), (1, .int m1)] [] := by
  intro n
  induction n with
  | zero =>
    intro h m1 hf
    cases hf
  | succ n ih =>
    intro h m1 hf
    rw [fX8_bills_L189] at hf
    refine mj_iload_n X dX8_bills_189 1 rfl ?_
    refine mj_aload_n X dX8_bills_190 0 rfl ?_
    refine mj_get X inwX8_bills_X8 (my_at my_oX8 h) rfl 2 (by decide) rfl lnX8_bills_0 rfl dX8_bills_191 ?_
    refine mj_icmp_ge (tgt := 239) X dX8_bills_194 (by decide) (fun c43 => ?_) (fun c43 => ?_)
    · have hf := mm_t c43 hf
      exact mj_sub [] rfl (HK h hf)
    · have hf := mm_f c43 hf
      refine mj_aload_n X dX8_bills_197 0 rfl ?_
      refine mj_get X inwX8_bills_X8 (my_at my_oX8 h) rfl 12 (by decide) rfl lnX8_bills_5 rfl dX8_bills_198 ?_
      refine mj_iload_n X dX8_bills_201 1 rfl ?_
      refine mj_aload_n X dX8_bills_202 0 rfl ?_
      refine mj_get X inwX8_bills_X8 (my_at my_oX8 h) rfl 13 (by decide) rfl lnX8_bills_1 rfl dX8_bills_203 ?_
      refine mj_iload_n X dX8_bills_206 1 rfl ?_
      obtain ⟨g44, hf⟩ := mm_g hf
      refine mj_iald X 0 (my_at my_a12 h) rfl g44 dX8_bills_207 ?_
      refine mj_aload_n X dX8_bills_208 0 rfl ?_
      refine mj_get X inwX8_bills_X8 (my_at my_oX8 h) rfl 10 (by decide) rfl lnX8_bills_6 rfl dX8_bills_209 ?_
      refine mj_iload_n X dX8_bills_212 1 rfl ?_
      refine mj_iald X 0 (my_at my_a9 h) rfl g44 dX8_bills_213 ?_
      refine mj_icmp_ge (tgt := 226) X dX8_bills_214 (by decide) (fun c45 => ?_) (fun c45 => ?_)
      · have hf := mm_t c45 hf
        refine mj_aload_n X dX8_bills_226 0 rfl ?_
        refine mj_get X inwX8_bills_X8 (my_at my_oX8 h) rfl 10 (by decide) rfl lnX8_bills_6 rfl dX8_bills_227 ?_
        refine mj_iload_n X dX8_bills_230 1 rfl ?_
        refine mj_iald X 0 (my_at my_a9 h) rfl g44 dX8_bills_231 ?_
        obtain ⟨h46, eh46, hf⟩ := mm_l hf
        refine mj_iast X 0 (my_at my_a11 h) rfl g44 (my_ast my_a11 eh46) dX8_bills_232 ?_
        refine mj_iinc (k := 1) (v := (m1 + 1)) (lo' := [(1, .int (m1 + 1)), (0, .ref (ad 0))]) X dX8_bills_233 rfl rfl (by decide) rfl ?_
        refine mj_goto (tgt := 189) X dX8_bills_236 (by decide) ?_
        exact mj_sub [1, 0] rfl (ih h46 (m1 + 1) hf)
      · have hf := mm_f c45 hf
        refine mj_aload_n X dX8_bills_217 0 rfl ?_
        refine mj_get X inwX8_bills_X8 (my_at my_oX8 h) rfl 13 (by decide) rfl lnX8_bills_1 rfl dX8_bills_218 ?_
        refine mj_iload_n X dX8_bills_221 1 rfl ?_
        refine mj_iald X 0 (my_at my_a12 h) rfl g44 dX8_bills_222 ?_
        refine mj_goto (tgt := 232) X dX8_bills_223 (by decide) ?_
        obtain ⟨h47, eh47, hf⟩ := mm_l hf
        refine mj_iast X 0 (my_at my_a11 h) rfl g44 (my_ast my_a11 eh47) dX8_bills_232 ?_
        refine mj_iinc (k := 1) (v := (m1 + 1)) (lo' := [(1, .int (m1 + 1)), (0, .ref (ad 0))]) X dX8_bills_233 rfl rfl (by decide) rfl ?_
        refine mj_goto (tgt := 189) X dX8_bills_236 (by decide) ?_
        exact mj_sub [1, 0] rfl (ih h47 (m1 + 1) hf)
set_option maxHeartbeats 4000000 in
set_option maxRecDepth 100000 in
theorem kX8_bills (l : Launch) (D : va_G) (t1 t2 : Nat) (cI : ClassId) (cZ : ClassId) (ad : Nat → Nat)  (N : Nat) (h : mm_M)  (h1 : mm_M) (r : Unit) (hf : fX8_bills N h = some (h1, r)) : mm_Kv l yX8_bills wsX8_bills rmX8_bills D (my_ty cI cZ) t1 t2 (my_w cI cZ ad) [.ref (ad 0)] h h1 := by
  refine mm_open_v [.ref (ad 0)] h h1 RX8 (by decide) rfl rfl (Nat.le_of_ble_eq_true rfl) ?_
  intro p e s m below meth c A X hr hlocks
  have RET : ∀ (h : mm_M) (pc : Nat) (lo : List (Nat × Value)) (v : Unit), decode cX8_bills pc = .ok (.return_, 1) → (h, v) = (h1, r) → mm_J p l e rmX8_bills s m ([.ref (ad 0)] : List Value).toArray below meth c 0 0 (MQ below (va_Qv (fun (u : mm_M) => u = h1) (mm_Post D (my_w cI cZ ad) A) A) ([.ref (ad 0)] : List Value).toArray s 0 0 A) D (my_w cI cZ ad) A 6 h pc lo [] := by
    intro h2 pc lo v hd he
    cases he
    exact mj_vret X hr hlocks hd
  generalize hout : (h1, r) = out at hf RET
  unfold fX8_bills at hf
  refine mj_lo (lo' := [(0, .ref (ad 0))]) rfl ?_
  refine mj_iconst (v := (0 : Int32)) X dX8_bills_0 (by decide) ?_
  refine mj_istore_n (lo' := [(1, .int (0 : Int32)), (0, .ref (ad 0))]) X dX8_bills_1 (by decide) rfl ?_
  refine mj_sub [1, 0] rfl (wX8_bills_L2 X out RET N _ (fun h9 hf => ?_) N h (0 : Int32) hf)
  refine mj_iconst (v := (0 : Int32)) X dX8_bills_52 (by decide) ?_
  refine mj_istore_n (lo' := [(1, .int (0 : Int32)), (0, .ref (ad 0))]) X dX8_bills_53 (by decide) rfl ?_
  refine mj_sub [1, 0] rfl (wX8_bills_L54 X out RET N _ (fun h42 hf => ?_) N h9 (0 : Int32) hf)
  refine mj_iconst (v := (0 : Int32)) X dX8_bills_187 (by decide) ?_
  refine mj_istore_n (lo' := [(1, .int (0 : Int32)), (0, .ref (ad 0))]) X dX8_bills_188 (by decide) rfl ?_
  refine mj_sub [1, 0] rfl (wX8_bills_L189 X out RET N _ (fun h48 hf => ?_) N h42 (0 : Int32) hf)
  exact RET h48 _ _ _ dX8_bills_239 (Option.some.inj hf)
abbrev rmX8_sitAsTold : Room := { frames := 0, cells := 0, slots := 0, locals := 0 }
theorem inwX8_sitAsTold_X8 : ∀ w ∈ wsX80, w ∈ wsX8_sitAsTold := by
  intro w hw
  have h9 : wsX80 = (wsX8_sitAsTold.drop 4).take 29 := rfl
  rw [h9] at hw
  exact List.mem_of_mem_drop (List.mem_of_mem_take hw)
theorem lnX8_sitAsTold_0 : Cond.fieldLink RX8 89 "RichestPaysModel" "people" "I" ∈ wsX8_sitAsTold := List.mem_of_getElem? (i := 1) rfl
theorem lnX8_sitAsTold_1 : Cond.fieldLink RX8 37 "RichestPaysModel" "seat" "[I" ∈ wsX8_sitAsTold := List.mem_of_getElem? (i := 2) rfl
theorem lnX8_sitAsTold_2 : Cond.fieldLink RX8 22 "RichestPaysModel" "told" "[I" ∈ wsX8_sitAsTold := List.mem_of_getElem? (i := 3) rfl
set_option maxHeartbeats 4000000 in
set_option maxRecDepth 100000 in
theorem wX8_sitAsTold_L2 (X : mm_X p s m args c cX8_sitAsTold RX8 wsX8_sitAsTold 3 D (my_ty cI cZ) t1 t2 A) (out : mm_M × Unit) (RET : ∀ (h : mm_M) (pc : Nat) (lo : List (Nat × Value)) (v : Unit), decode cX8_sitAsTold pc = .ok (.return_, 1) → (h, v) = out → mm_J p l e rmX8_sitAsTold s m args below meth c 0 0 Q D (my_w cI cZ ad) A 3 h pc lo []) (N : Nat)  (p1 : Int32) (k : mm_M → Option (mm_M × Unit)) (HK : ∀ (h : mm_M), k h = some out → mm_J p l e rmX8_sitAsTold s m args below meth c 0 0 Q D (my_w cI cZ ad) A 3 h 33 [] []) : ∀ (n : Nat) (h : mm_M) (m2 : Int32), fX8_sitAsTold_L2 N p1 k n h m2 = some out → mm_J p l e rmX8_sitAsTold s m args below meth c 0 0 Q D (my_w cI cZ ad) A 3 h 2 [(0, .ref (ad 0)), (1, .int p1), (2, .int m2)] [] := by
  intro n
  induction n with
  | zero =>
    intro h m2 hf
    cases hf
  | succ n ih =>
    intro h m2 hf
    rw [fX8_sitAsTold_L2] at hf
    refine mj_iload_n X dX8_sitAsTold_2 2 rfl ?_
    refine mj_aload_n X dX8_sitAsTold_3 0 rfl ?_
    refine mj_get X inwX8_sitAsTold_X8 (my_at my_oX8 h) rfl 2 (by decide) rfl lnX8_sitAsTold_0 rfl dX8_sitAsTold_4 ?_
    refine mj_icmp_ge (tgt := 33) X dX8_sitAsTold_7 (by decide) (fun c1 => ?_) (fun c1 => ?_)
    · have hf := mm_t c1 hf
      exact mj_sub [] rfl (HK h hf)
    · have hf := mm_f c1 hf
      refine mj_aload_n X dX8_sitAsTold_10 0 rfl ?_
      refine mj_get X inwX8_sitAsTold_X8 (my_at my_oX8 h) rfl 11 (by decide) rfl lnX8_sitAsTold_1 rfl dX8_sitAsTold_11 ?_
      refine mj_iload_n X dX8_sitAsTold_14 2 rfl ?_
      refine mj_aload_n X dX8_sitAsTold_15 0 rfl ?_
      refine mj_get X inwX8_sitAsTold_X8 (my_at my_oX8 h) rfl 6 (by decide) rfl lnX8_sitAsTold_2 rfl dX8_sitAsTold_16 ?_
      refine mj_bipush (v := (6 : Int32)) X dX8_sitAsTold_19 (by decide) ?_
      refine mj_iload_n X dX8_sitAsTold_21 1 rfl ?_
      refine mj_imul X dX8_sitAsTold_22 ?_
      refine mj_iload_n X dX8_sitAsTold_23 2 rfl ?_
      refine mj_iadd X dX8_sitAsTold_24 ?_
      obtain ⟨g2, hf⟩ := mm_g hf
      refine mj_iald X 0 (my_at my_a5 h) rfl g2 dX8_sitAsTold_25 ?_
      obtain ⟨g3, hf⟩ := mm_g hf
      obtain ⟨h4, eh4, hf⟩ := mm_l hf
      refine mj_iast X 0 (my_at my_a10 h) rfl g3 (my_ast my_a10 eh4) dX8_sitAsTold_26 ?_
      refine mj_iinc (k := 2) (v := (m2 + 1)) (lo' := [(2, .int (m2 + 1)), (0, .ref (ad 0)), (1, .int p1)]) X dX8_sitAsTold_27 rfl rfl (by decide) rfl ?_
      refine mj_goto (tgt := 2) X dX8_sitAsTold_30 (by decide) ?_
      exact mj_sub [1, 2, 0] rfl (ih h4 (m2 + 1) hf)
set_option maxHeartbeats 4000000 in
set_option maxRecDepth 100000 in
theorem kX8_sitAsTold (l : Launch) (D : va_G) (t1 t2 : Nat) (cI : ClassId) (cZ : ClassId) (ad : Nat → Nat)  (N : Nat) (h : mm_M) (a0 : Int32) (h1 : mm_M) (r : Unit) (hf : fX8_sitAsTold N h a0 = some (h1, r)) : mm_Kv l yX8_sitAsTold wsX8_sitAsTold rmX8_sitAsTold D (my_ty cI cZ) t1 t2 (my_w cI cZ ad) [.ref (ad 0), .int a0] h h1 := by
  refine mm_open_v [.ref (ad 0), .int a0] h h1 RX8 (by decide) rfl rfl (Nat.le_of_ble_eq_true rfl) ?_
  intro p e s m below meth c A X hr hlocks
  have RET : ∀ (h : mm_M) (pc : Nat) (lo : List (Nat × Value)) (v : Unit), decode cX8_sitAsTold pc = .ok (.return_, 1) → (h, v) = (h1, r) → mm_J p l e rmX8_sitAsTold s m ([.ref (ad 0), .int a0] : List Value).toArray below meth c 0 0 (MQ below (va_Qv (fun (u : mm_M) => u = h1) (mm_Post D (my_w cI cZ ad) A) A) ([.ref (ad 0), .int a0] : List Value).toArray s 0 0 A) D (my_w cI cZ ad) A 3 h pc lo [] := by
    intro h2 pc lo v hd he
    cases he
    exact mj_vret X hr hlocks hd
  generalize hout : (h1, r) = out at hf RET
  unfold fX8_sitAsTold at hf
  refine mj_lo (lo' := [(0, .ref (ad 0)), (1, .int a0)]) rfl ?_
  refine mj_iconst (v := (0 : Int32)) X dX8_sitAsTold_0 (by decide) ?_
  refine mj_istore_n (lo' := [(2, .int (0 : Int32)), (0, .ref (ad 0)), (1, .int a0)]) X dX8_sitAsTold_1 (by decide) rfl ?_
  refine mj_sub [1, 2, 0] rfl (wX8_sitAsTold_L2 X out RET N a0 _ (fun h5 hf => ?_) N h (0 : Int32) hf)
  exact RET h5 _ _ _ dX8_sitAsTold_33 (Option.some.inj hf)
abbrev rmX8_runs : Room := { frames := 2, cells := 0, slots := 0, locals := 50 }
theorem inwX8_runs_X8 : ∀ w ∈ wsX80, w ∈ wsX8_runs := by
  intro w hw
  have h9 : wsX80 = (wsX8_runs.drop 32).take 29 := rfl
  rw [h9] at hw
  exact List.mem_of_mem_drop (List.mem_of_mem_take hw)
theorem lnX8_runs_0 : Cond.fieldLink RX8 136 "RichestPaysModel" "meals" "I" ∈ wsX8_runs := List.mem_of_getElem? (i := 1) rfl
theorem lnX8_runs_1 : Cond.fieldLink RX8 89 "RichestPaysModel" "people" "I" ∈ wsX8_runs := List.mem_of_getElem? (i := 2) rfl
theorem lnX8_runs_2 : Cond.fieldLink RX8 46 "RichestPaysModel" "paidAll" "[I" ∈ wsX8_runs := List.mem_of_getElem? (i := 3) rfl
theorem lnX8_runs_3 : Cond.fieldLink RX8 49 "RichestPaysModel" "eaten" "[I" ∈ wsX8_runs := List.mem_of_getElem? (i := 4) rfl
theorem lnX8_runs_4 : Cond.fieldLink RX8 52 "RichestPaysModel" "shorts" "[I" ∈ wsX8_runs := List.mem_of_getElem? (i := 5) rfl
theorem lnX8_runs_5 : Cond.fieldLink RX8 40 "RichestPaysModel" "pays" "[I" ∈ wsX8_runs := List.mem_of_getElem? (i := 6) rfl
theorem lnX8_runs_6 : Cond.fieldLink RX8 34 "RichestPaysModel" "hand" "[I" ∈ wsX8_runs := List.mem_of_getElem? (i := 7) rfl
theorem lnX8_runs_7 : Cond.fieldLink RX8 43 "RichestPaysModel" "owes" "[I" ∈ wsX8_runs := List.mem_of_getElem? (i := 8) rfl
theorem lnX8_runs_8 : Cond.fieldLink RX8 37 "RichestPaysModel" "seat" "[I" ∈ wsX8_runs := List.mem_of_getElem? (i := 9) rfl
theorem lnX8_runs_9 : Cond.fieldLink RX8 19 "RichestPaysModel" "appetites" "[I" ∈ wsX8_runs := List.mem_of_getElem? (i := 10) rfl
set_option maxHeartbeats 4000000 in
set_option maxRecDepth 100000 in
theorem wX8_runs_L11 (X : mm_X p s m args c cX8_runs RX8 wsX8_runs 4 D (my_ty cI cZ) t1 t2 A) (out : mm_M × Unit) (RET : ∀ (h : mm_M) (pc : Nat) (lo : List (Nat × Value)) (v : Unit), decode cX8_runs pc = .ok (.return_, 1) → (h, v) = out → mm_J p l e rmX8_runs s m args below meth c 0 0 Q D (my_w cI cZ ad) A 4 h pc lo []) (N : Nat)  (p1 : Int32) (k : mm_M → Option (mm_M × Unit)) (HK : ∀ (h : mm_M), k h = some out → mm_J p l e rmX8_runs s m args below meth c 0 0 Q D (my_w cI cZ ad) A 4 h 53 [(0, .ref (ad 0)), (1, .int p1)] []) : ∀ (n : Nat) (h : mm_M) (m2 : Int32), fX8_runs_L11 N p1 k n h m2 = some out → mm_J p l e rmX8_runs s m args below meth c 0 0 Q D (my_w cI cZ ad) A 4 h 11 [(0, .ref (ad 0)), (1, .int p1), (2, .int m2)] [] := by
  intro n
  induction n with
  | zero =>
    intro h m2 hf
    cases hf
  | succ n ih =>
    intro h m2 hf
    rw [fX8_runs_L11] at hf
    refine mj_iload_n X dX8_runs_11 2 rfl ?_
    refine mj_aload_n X dX8_runs_12 0 rfl ?_
    refine mj_get X inwX8_runs_X8 (my_at my_oX8 h) rfl 2 (by decide) rfl lnX8_runs_1 rfl dX8_runs_13 ?_
    refine mj_icmp_ge (tgt := 53) X dX8_runs_16 (by decide) (fun c5 => ?_) (fun c5 => ?_)
    · have hf := mm_t c5 hf
      exact mj_sub [0, 1] rfl (HK h hf)
    · have hf := mm_f c5 hf
      refine mj_aload_n X dX8_runs_19 0 rfl ?_
      refine mj_get X inwX8_runs_X8 (my_at my_oX8 h) rfl 14 (by decide) rfl lnX8_runs_2 rfl dX8_runs_20 ?_
      refine mj_iload_n X dX8_runs_23 2 rfl ?_
      refine mj_iconst (v := (0 : Int32)) X dX8_runs_24 (by decide) ?_
      obtain ⟨g6, hf⟩ := mm_g hf
      obtain ⟨h7, eh7, hf⟩ := mm_l hf
      refine mj_iast X 0 (my_at my_a13 h) rfl g6 (my_ast my_a13 eh7) dX8_runs_25 ?_
      refine mj_aload_n X dX8_runs_26 0 rfl ?_
      refine mj_get X inwX8_runs_X8 (my_at my_oX8 h7) rfl 15 (by decide) rfl lnX8_runs_3 rfl dX8_runs_27 ?_
      refine mj_iload_n X dX8_runs_30 2 rfl ?_
      refine mj_iconst (v := (0 : Int32)) X dX8_runs_31 (by decide) ?_
      obtain ⟨h8, eh8, hf⟩ := mm_l hf
      refine mj_iast X 0 (my_at my_a14 h7) rfl g6 (my_ast my_a14 eh8) dX8_runs_32 ?_
      refine mj_aload_n X dX8_runs_33 0 rfl ?_
      refine mj_get X inwX8_runs_X8 (my_at my_oX8 h8) rfl 16 (by decide) rfl lnX8_runs_4 rfl dX8_runs_34 ?_
      refine mj_iload_n X dX8_runs_37 2 rfl ?_
      refine mj_iconst (v := (0 : Int32)) X dX8_runs_38 (by decide) ?_
      obtain ⟨h9, eh9, hf⟩ := mm_l hf
      refine mj_iast X 0 (my_at my_a15 h8) rfl g6 (my_ast my_a15 eh9) dX8_runs_39 ?_
      refine mj_aload_n X dX8_runs_40 0 rfl ?_
      refine mj_get X inwX8_runs_X8 (my_at my_oX8 h9) rfl 12 (by decide) rfl lnX8_runs_5 rfl dX8_runs_41 ?_
      refine mj_iload_n X dX8_runs_44 2 rfl ?_
      refine mj_iconst (v := (0 : Int32)) X dX8_runs_45 (by decide) ?_
      obtain ⟨h10, eh10, hf⟩ := mm_l hf
      refine mj_iast X 0 (my_at my_a11 h9) rfl g6 (my_ast my_a11 eh10) dX8_runs_46 ?_
      refine mj_iinc (k := 2) (v := (m2 + 1)) (lo' := [(2, .int (m2 + 1)), (0, .ref (ad 0)), (1, .int p1)]) X dX8_runs_47 rfl rfl (by decide) rfl ?_
      refine mj_goto (tgt := 11) X dX8_runs_50 (by decide) ?_
      exact mj_sub [1, 2, 0] rfl (ih h10 (m2 + 1) hf)
set_option maxHeartbeats 4000000 in
set_option maxRecDepth 100000 in
theorem wX8_runs_L71 (X : mm_X p s m args c cX8_runs RX8 wsX8_runs 4 D (my_ty cI cZ) t1 t2 A) (out : mm_M × Unit) (RET : ∀ (h : mm_M) (pc : Nat) (lo : List (Nat × Value)) (v : Unit), decode cX8_runs pc = .ok (.return_, 1) → (h, v) = out → mm_J p l e rmX8_runs s m args below meth c 0 0 Q D (my_w cI cZ ad) A 4 h pc lo []) (N : Nat)  (p1 : Int32) (p2 : Int32) (k : mm_M → Option (mm_M × Unit)) (HK : ∀ (h : mm_M), k h = some out → mm_J p l e rmX8_runs s m args below meth c 0 0 Q D (my_w cI cZ ad) A 4 h 190 [(0, .ref (ad 0)), (1, .int p1), (2, .int p2)] []) : ∀ (n : Nat) (h : mm_M) (m3 : Int32), fX8_runs_L71 N p1 p2 k n h m3 = some out → mm_J p l e rmX8_runs s m args below meth c 0 0 Q D (my_w cI cZ ad) A 4 h 71 [(0, .ref (ad 0)), (1, .int p1), (2, .int p2), (3, .int m3)] [] := by
  intro n
  induction n with
  | zero =>
    intro h m3 hf
    cases hf
  | succ n ih =>
    intro h m3 hf
    rw [fX8_runs_L71] at hf
    refine mj_iload_n X dX8_runs_71 3 rfl ?_
    refine mj_aload_n X dX8_runs_72 0 rfl ?_
    refine mj_get X inwX8_runs_X8 (my_at my_oX8 h) rfl 2 (by decide) rfl lnX8_runs_1 rfl dX8_runs_73 ?_
    refine mj_icmp_ge (tgt := 190) X dX8_runs_76 (by decide) (fun c19 => ?_) (fun c19 => ?_)
    · have hf := mm_t c19 hf
      exact mj_sub [0, 1, 2] rfl (HK h hf)
    · have hf := mm_f c19 hf
      refine mj_aload_n X dX8_runs_79 0 rfl ?_
      refine mj_get X inwX8_runs_X8 (my_at my_oX8 h) rfl 10 (by decide) rfl lnX8_runs_6 rfl dX8_runs_80 ?_
      refine mj_iload_n X dX8_runs_83 3 rfl ?_
      refine mj_dup2 X dX8_runs_84 rfl rfl ?_
      obtain ⟨g20, hf⟩ := mm_g hf
      refine mj_iald X 0 (my_at my_a9 h) rfl g20 dX8_runs_85 ?_
      refine mj_aload_n X dX8_runs_86 0 rfl ?_
      refine mj_get X inwX8_runs_X8 (my_at my_oX8 h) rfl 12 (by decide) rfl lnX8_runs_5 rfl dX8_runs_87 ?_
      refine mj_iload_n X dX8_runs_90 3 rfl ?_
      refine mj_iald X 0 (my_at my_a11 h) rfl g20 dX8_runs_91 ?_
      refine mj_isub X dX8_runs_92 ?_
      obtain ⟨h21, eh21, hf⟩ := mm_l hf
      refine mj_iast X 0 (my_at my_a9 h) rfl g20 (my_ast my_a9 eh21) dX8_runs_93 ?_
      refine mj_aload_n X dX8_runs_94 0 rfl ?_
      refine mj_get X inwX8_runs_X8 (my_at my_oX8 h21) rfl 14 (by decide) rfl lnX8_runs_2 rfl dX8_runs_95 ?_
      refine mj_iload_n X dX8_runs_98 3 rfl ?_
      refine mj_dup2 X dX8_runs_99 rfl rfl ?_
      refine mj_iald X 0 (my_at my_a13 h21) rfl g20 dX8_runs_100 ?_
      refine mj_aload_n X dX8_runs_101 0 rfl ?_
      refine mj_get X inwX8_runs_X8 (my_at my_oX8 h21) rfl 12 (by decide) rfl lnX8_runs_5 rfl dX8_runs_102 ?_
      refine mj_iload_n X dX8_runs_105 3 rfl ?_
      refine mj_iald X 0 (my_at my_a11 h21) rfl g20 dX8_runs_106 ?_
      refine mj_iadd X dX8_runs_107 ?_
      obtain ⟨h22, eh22, hf⟩ := mm_l hf
      refine mj_iast X 0 (my_at my_a13 h21) rfl g20 (my_ast my_a13 eh22) dX8_runs_108 ?_
      refine mj_aload_n X dX8_runs_109 0 rfl ?_
      refine mj_get X inwX8_runs_X8 (my_at my_oX8 h22) rfl 16 (by decide) rfl lnX8_runs_4 rfl dX8_runs_110 ?_
      refine mj_iload_n X dX8_runs_113 3 rfl ?_
      refine mj_dup2 X dX8_runs_114 rfl rfl ?_
      refine mj_iald X 0 (my_at my_a15 h22) rfl g20 dX8_runs_115 ?_
      refine mj_aload_n X dX8_runs_116 0 rfl ?_
      refine mj_get X inwX8_runs_X8 (my_at my_oX8 h22) rfl 13 (by decide) rfl lnX8_runs_7 rfl dX8_runs_117 ?_
      refine mj_iload_n X dX8_runs_120 3 rfl ?_
      refine mj_iald X 0 (my_at my_a12 h22) rfl g20 dX8_runs_121 ?_
      refine mj_aload_n X dX8_runs_122 0 rfl ?_
      refine mj_get X inwX8_runs_X8 (my_at my_oX8 h22) rfl 12 (by decide) rfl lnX8_runs_5 rfl dX8_runs_123 ?_
      refine mj_iload_n X dX8_runs_126 3 rfl ?_
      refine mj_iald X 0 (my_at my_a11 h22) rfl g20 dX8_runs_127 ?_
      refine mj_isub X dX8_runs_128 ?_
      refine mj_iadd X dX8_runs_129 ?_
      obtain ⟨h23, eh23, hf⟩ := mm_l hf
      refine mj_iast X 0 (my_at my_a15 h22) rfl g20 (my_ast my_a15 eh23) dX8_runs_130 ?_
      refine mj_aload_n X dX8_runs_131 0 rfl ?_
      refine mj_get X inwX8_runs_X8 (my_at my_oX8 h23) rfl 15 (by decide) rfl lnX8_runs_3 rfl dX8_runs_132 ?_
      refine mj_iload_n X dX8_runs_135 3 rfl ?_
      refine mj_dup2 X dX8_runs_136 rfl rfl ?_
      refine mj_iald X 0 (my_at my_a14 h23) rfl g20 dX8_runs_137 ?_
      refine mj_aload_n X dX8_runs_138 0 rfl ?_
      refine mj_get X inwX8_runs_X8 (my_at my_oX8 h23) rfl 11 (by decide) rfl lnX8_runs_8 rfl dX8_runs_139 ?_
      refine mj_iload_n X dX8_runs_142 3 rfl ?_
      refine mj_iald X 0 (my_at my_a10 h23) rfl g20 dX8_runs_143 ?_
      refine mj_iconst (v := (-1 : Int32)) X dX8_runs_144 (by decide) ?_
      refine mj_icmp_ne (tgt := 152) X dX8_runs_145 (by decide) (fun c24 => ?_) (fun c24 => ?_)
      · have hf := mm_f c24 hf
        refine mj_aload_n X dX8_runs_152 0 rfl ?_
        refine mj_get X inwX8_runs_X8 (my_at my_oX8 h23) rfl 4 (by decide) rfl lnX8_runs_9 rfl dX8_runs_153 ?_
        refine mj_iload_n X dX8_runs_156 3 rfl ?_
        refine mj_iald X 0 (my_at my_a4 h23) rfl g20 dX8_runs_157 ?_
        refine mj_iadd X dX8_runs_158 ?_
        obtain ⟨h25, eh25, hf⟩ := mm_l hf
        refine mj_iast X 0 (my_at my_a14 h23) rfl g20 (my_ast my_a14 eh25) dX8_runs_159 ?_
        refine mj_aload_n X dX8_runs_160 0 rfl ?_
        refine mj_dup X dX8_runs_161 rfl ?_
        refine mj_get X inwX8_runs_X8 (my_at my_oX8 h25) rfl 17 (by decide) rfl lnX8_runs_0 rfl dX8_runs_162 ?_
        refine mj_aload_n X dX8_runs_165 0 rfl ?_
        refine mj_get X inwX8_runs_X8 (my_at my_oX8 h25) rfl 11 (by decide) rfl lnX8_runs_8 rfl dX8_runs_166 ?_
        refine mj_iload_n X dX8_runs_169 3 rfl ?_
        refine mj_iald X 0 (my_at my_a10 h25) rfl g20 dX8_runs_170 ?_
        refine mj_iconst (v := (-1 : Int32)) X dX8_runs_171 (by decide) ?_
        refine mj_icmp_ne (tgt := 179) X dX8_runs_172 (by decide) (fun c26 => ?_) (fun c26 => ?_)
        · have hf := mm_f c26 hf
          refine mj_iconst (v := (1 : Int32)) X dX8_runs_179 (by decide) ?_
          refine mj_iadd X dX8_runs_180 ?_
          obtain ⟨h27, eh27, hf⟩ := mm_l hf
          refine mj_put X tyX8_ok nmX8 inwX8_runs_X8 (my_at my_oX8 h25) rfl 17 (by decide) rfl lnX8_runs_0 rfl (tyX8_ok 17 (by decide)) rfl rfl (Nat.le_of_ble_eq_true rfl) (my_put my_oX8 eh27 (by simp [mm_up_at, upd])) dX8_runs_181 ?_
          refine mj_iinc (k := 3) (v := (m3 + 1)) (lo' := [(3, .int (m3 + 1)), (0, .ref (ad 0)), (1, .int p1), (2, .int p2)]) X dX8_runs_184 rfl rfl (by decide) rfl ?_
          refine mj_goto (tgt := 71) X dX8_runs_187 (by decide) ?_
          exact mj_sub [1, 2, 3, 0] rfl (ih h27 (m3 + 1) hf)
        · have hf := mm_t c26 hf
          refine mj_iconst (v := (0 : Int32)) X dX8_runs_175 (by decide) ?_
          refine mj_goto (tgt := 180) X dX8_runs_176 (by decide) ?_
          refine mj_iadd X dX8_runs_180 ?_
          obtain ⟨h28, eh28, hf⟩ := mm_l hf
          refine mj_put X tyX8_ok nmX8 inwX8_runs_X8 (my_at my_oX8 h25) rfl 17 (by decide) rfl lnX8_runs_0 rfl (tyX8_ok 17 (by decide)) rfl rfl (Nat.le_of_ble_eq_true rfl) (my_put my_oX8 eh28 (by simp [mm_up_at, upd])) dX8_runs_181 ?_
          refine mj_iinc (k := 3) (v := (m3 + 1)) (lo' := [(3, .int (m3 + 1)), (0, .ref (ad 0)), (1, .int p1), (2, .int p2)]) X dX8_runs_184 rfl rfl (by decide) rfl ?_
          refine mj_goto (tgt := 71) X dX8_runs_187 (by decide) ?_
          exact mj_sub [1, 2, 3, 0] rfl (ih h28 (m3 + 1) hf)
      · have hf := mm_t c24 hf
        refine mj_iconst (v := (0 : Int32)) X dX8_runs_148 (by decide) ?_
        refine mj_goto (tgt := 158) X dX8_runs_149 (by decide) ?_
        refine mj_iadd X dX8_runs_158 ?_
        obtain ⟨h29, eh29, hf⟩ := mm_l hf
        refine mj_iast X 0 (my_at my_a14 h23) rfl g20 (my_ast my_a14 eh29) dX8_runs_159 ?_
        refine mj_aload_n X dX8_runs_160 0 rfl ?_
        refine mj_dup X dX8_runs_161 rfl ?_
        refine mj_get X inwX8_runs_X8 (my_at my_oX8 h29) rfl 17 (by decide) rfl lnX8_runs_0 rfl dX8_runs_162 ?_
        refine mj_aload_n X dX8_runs_165 0 rfl ?_
        refine mj_get X inwX8_runs_X8 (my_at my_oX8 h29) rfl 11 (by decide) rfl lnX8_runs_8 rfl dX8_runs_166 ?_
        refine mj_iload_n X dX8_runs_169 3 rfl ?_
        refine mj_iald X 0 (my_at my_a10 h29) rfl g20 dX8_runs_170 ?_
        refine mj_iconst (v := (-1 : Int32)) X dX8_runs_171 (by decide) ?_
        refine mj_icmp_ne (tgt := 179) X dX8_runs_172 (by decide) (fun c30 => ?_) (fun c30 => ?_)
        · have hf := mm_f c30 hf
          refine mj_iconst (v := (1 : Int32)) X dX8_runs_179 (by decide) ?_
          refine mj_iadd X dX8_runs_180 ?_
          obtain ⟨h31, eh31, hf⟩ := mm_l hf
          refine mj_put X tyX8_ok nmX8 inwX8_runs_X8 (my_at my_oX8 h29) rfl 17 (by decide) rfl lnX8_runs_0 rfl (tyX8_ok 17 (by decide)) rfl rfl (Nat.le_of_ble_eq_true rfl) (my_put my_oX8 eh31 (by simp [mm_up_at, upd])) dX8_runs_181 ?_
          refine mj_iinc (k := 3) (v := (m3 + 1)) (lo' := [(3, .int (m3 + 1)), (0, .ref (ad 0)), (1, .int p1), (2, .int p2)]) X dX8_runs_184 rfl rfl (by decide) rfl ?_
          refine mj_goto (tgt := 71) X dX8_runs_187 (by decide) ?_
          exact mj_sub [1, 2, 3, 0] rfl (ih h31 (m3 + 1) hf)
        · have hf := mm_t c30 hf
          refine mj_iconst (v := (0 : Int32)) X dX8_runs_175 (by decide) ?_
          refine mj_goto (tgt := 180) X dX8_runs_176 (by decide) ?_
          refine mj_iadd X dX8_runs_180 ?_
          obtain ⟨h32, eh32, hf⟩ := mm_l hf
          refine mj_put X tyX8_ok nmX8 inwX8_runs_X8 (my_at my_oX8 h29) rfl 17 (by decide) rfl lnX8_runs_0 rfl (tyX8_ok 17 (by decide)) rfl rfl (Nat.le_of_ble_eq_true rfl) (my_put my_oX8 eh32 (by simp [mm_up_at, upd])) dX8_runs_181 ?_
          refine mj_iinc (k := 3) (v := (m3 + 1)) (lo' := [(3, .int (m3 + 1)), (0, .ref (ad 0)), (1, .int p1), (2, .int p2)]) X dX8_runs_184 rfl rfl (by decide) rfl ?_
          refine mj_goto (tgt := 71) X dX8_runs_187 (by decide) ?_
          exact mj_sub [1, 2, 3, 0] rfl (ih h32 (m3 + 1) hf)
set_option maxHeartbeats 4000000 in
set_option maxRecDepth 100000 in
theorem wX8_runs_L55 (X : mm_X p s m args c cX8_runs RX8 wsX8_runs 4 D (my_ty cI cZ) t1 t2 A) (out : mm_M × Unit) (RET : ∀ (h : mm_M) (pc : Nat) (lo : List (Nat × Value)) (v : Unit), decode cX8_runs pc = .ok (.return_, 1) → (h, v) = out → mm_J p l e rmX8_runs s m args below meth c 0 0 Q D (my_w cI cZ ad) A 4 h pc lo []) (N : Nat)  (p1 : Int32) (k : mm_M → Option (mm_M × Unit)) (HK : ∀ (h : mm_M), k h = some out → mm_J p l e rmX8_runs s m args below meth c 0 0 Q D (my_w cI cZ ad) A 4 h 196 [] []) : ∀ (n : Nat) (h : mm_M) (m2 : Int32), fX8_runs_L55 N p1 k n h m2 = some out → mm_J p l e rmX8_runs s m args below meth c 0 0 Q D (my_w cI cZ ad) A 4 h 55 [(0, .ref (ad 0)), (1, .int p1), (2, .int m2)] [] := by
  intro n
  induction n with
  | zero =>
    intro h m2 hf
    cases hf
  | succ n ih =>
    intro h m2 hf
    rw [fX8_runs_L55] at hf
    refine mj_iload_n X dX8_runs_55 2 rfl ?_
    refine mj_iload_n X dX8_runs_56 1 rfl ?_
    refine mj_icmp_ge (tgt := 196) X dX8_runs_57 (by decide) (fun c12 => ?_) (fun c12 => ?_)
    · have hf := mm_t c12 hf
      exact mj_sub [] rfl (HK h hf)
    · have hf := mm_f c12 hf
      refine mj_aload_n X dX8_runs_60 0 rfl ?_
      refine mj_iload_n X dX8_runs_61 2 rfl ?_
      obtain ⟨h13, r14, q15, hf⟩ := mm_c hf
      refine mj_callVv (As := [.int m2]) (rest := []) X (kX8_sitAsTold l D t1 t2 cI cZ ad N h m2 h13 r14 q15) (cwV 1 X.2.2.2.2.1 gX8_runs_X8_sitAsTold rfl rfl rfl (by decide +kernel) ⟨Nat.le_of_ble_eq_true rfl, Nat.le_of_ble_eq_true rfl⟩) (my_at my_oX8 h) rfl rfl rfl rfl (Nat.le_of_ble_eq_true rfl) ⟨Nat.zero_le _, Nat.zero_le _⟩ dX8_runs_62 ?_
      refine mj_aload_n X dX8_runs_65 0 rfl ?_
      obtain ⟨h16, r17, q18, hf⟩ := mm_c hf
      refine mj_callVv (As := []) (rest := []) X (kX8_bills l D t1 t2 cI cZ ad N h13 h16 r17 q18) (cwV 0 X.2.2.2.2.1 gX8_runs_X8_bills rfl rfl rfl (by decide +kernel) ⟨Nat.le_of_ble_eq_true rfl, Nat.le_of_ble_eq_true rfl⟩) (my_at my_oX8 h13) rfl rfl rfl rfl (Nat.le_of_ble_eq_true rfl) ⟨Nat.zero_le _, Nat.zero_le _⟩ dX8_runs_66 ?_
      refine mj_iconst (v := (0 : Int32)) X dX8_runs_69 (by decide) ?_
      refine mj_istore_n (lo' := [(3, .int (0 : Int32)), (0, .ref (ad 0)), (1, .int p1), (2, .int m2)]) X dX8_runs_70 (by decide) rfl ?_
      refine mj_sub [1, 2, 3, 0] rfl (wX8_runs_L71 X out RET N p1 m2 _ (fun h33 hf => ?_) N h16 (0 : Int32) hf)
      refine mj_iinc (k := 2) (v := (m2 + 1)) (lo' := [(2, .int (m2 + 1)), (0, .ref (ad 0)), (1, .int p1)]) X dX8_runs_190 rfl rfl (by decide) rfl ?_
      refine mj_goto (tgt := 55) X dX8_runs_193 (by decide) ?_
      exact mj_sub [1, 2, 0] rfl (ih h33 (m2 + 1) hf)
set_option maxHeartbeats 4000000 in
set_option maxRecDepth 100000 in
theorem kX8_runs (l : Launch) (D : va_G) (t1 t2 : Nat) (cI : ClassId) (cZ : ClassId) (ad : Nat → Nat)  (N : Nat) (h : mm_M) (a0 : Int32) (h1 : mm_M) (r : Unit) (hf : fX8_runs N h a0 = some (h1, r)) : mm_Kv l yX8_runs wsX8_runs rmX8_runs D (my_ty cI cZ) t1 t2 (my_w cI cZ ad) [.ref (ad 0), .int a0] h h1 := by
  refine mm_open_v [.ref (ad 0), .int a0] h h1 RX8 (by decide) rfl rfl (Nat.le_of_ble_eq_true rfl) ?_
  intro p e s m below meth c A X hr hlocks
  have RET : ∀ (h : mm_M) (pc : Nat) (lo : List (Nat × Value)) (v : Unit), decode cX8_runs pc = .ok (.return_, 1) → (h, v) = (h1, r) → mm_J p l e rmX8_runs s m ([.ref (ad 0), .int a0] : List Value).toArray below meth c 0 0 (MQ below (va_Qv (fun (u : mm_M) => u = h1) (mm_Post D (my_w cI cZ ad) A) A) ([.ref (ad 0), .int a0] : List Value).toArray s 0 0 A) D (my_w cI cZ ad) A 4 h pc lo [] := by
    intro h2 pc lo v hd he
    cases he
    exact mj_vret X hr hlocks hd
  generalize hout : (h1, r) = out at hf RET
  unfold fX8_runs at hf
  refine mj_lo (lo' := [(0, .ref (ad 0)), (1, .int a0)]) rfl ?_
  refine mj_aload_n X dX8_runs_0 0 rfl ?_
  obtain ⟨h1, r2, q3, hf⟩ := mm_c hf
  refine mj_callVv (As := []) (rest := []) X (kX8_atFirst l D t1 t2 cI cZ ad N h h1 r2 q3) (cwV 0 X.2.2.2.2.1 gX8_runs_X8_atFirst rfl rfl rfl (by decide +kernel) ⟨Nat.le_of_ble_eq_true rfl, Nat.le_of_ble_eq_true rfl⟩) (my_at my_oX8 h) rfl rfl rfl rfl (Nat.le_of_ble_eq_true rfl) ⟨Nat.zero_le _, Nat.zero_le _⟩ dX8_runs_1 ?_
  refine mj_aload_n X dX8_runs_4 0 rfl ?_
  refine mj_iconst (v := (0 : Int32)) X dX8_runs_5 (by decide) ?_
  obtain ⟨h4, eh4, hf⟩ := mm_l hf
  refine mj_put X tyX8_ok nmX8 inwX8_runs_X8 (my_at my_oX8 h1) rfl 17 (by decide) rfl lnX8_runs_0 rfl (tyX8_ok 17 (by decide)) rfl rfl (Nat.le_of_ble_eq_true rfl) (my_put my_oX8 eh4 (by simp [mm_up_at, upd])) dX8_runs_6 ?_
  refine mj_iconst (v := (0 : Int32)) X dX8_runs_9 (by decide) ?_
  refine mj_istore_n (lo' := [(2, .int (0 : Int32)), (0, .ref (ad 0)), (1, .int a0)]) X dX8_runs_10 (by decide) rfl ?_
  refine mj_sub [1, 2, 0] rfl (wX8_runs_L11 X out RET N a0 _ (fun h11 hf => ?_) N h4 (0 : Int32) hf)
  refine mj_iconst (v := (0 : Int32)) X dX8_runs_53 (by decide) ?_
  refine mj_istore_n (lo' := [(2, .int (0 : Int32)), (0, .ref (ad 0)), (1, .int a0)]) X dX8_runs_54 (by decide) rfl ?_
  refine mj_sub [1, 2, 0] rfl (wX8_runs_L55 X out RET N a0 _ (fun h34 hf => ?_) N h11 (0 : Int32) hf)
  exact RET h34 _ _ _ dX8_runs_196 (Option.some.inj hf)
abbrev rmX8_stateOf : Room := { frames := 3, cells := 0, slots := 0, locals := 73 }
theorem inwX8_stateOf_X8 : ∀ w ∈ wsX80, w ∈ wsX8_stateOf := by
  intro w hw
  have h9 : wsX80 = (wsX8_stateOf.drop 36).take 29 := rfl
  rw [h9] at hw
  exact List.mem_of_mem_drop (List.mem_of_mem_take hw)
theorem lnX8_stateOf_0 : Cond.fieldLink RX8 52 "RichestPaysModel" "shorts" "[I" ∈ wsX8_stateOf := List.mem_of_getElem? (i := 4) rfl
theorem lnX8_stateOf_1 : Cond.fieldLink RX8 49 "RichestPaysModel" "eaten" "[I" ∈ wsX8_stateOf := List.mem_of_getElem? (i := 3) rfl
theorem lnX8_stateOf_2 : Cond.fieldLink RX8 46 "RichestPaysModel" "paidAll" "[I" ∈ wsX8_stateOf := List.mem_of_getElem? (i := 2) rfl
theorem lnX8_stateOf_3 : Cond.fieldLink RX8 34 "RichestPaysModel" "hand" "[I" ∈ wsX8_stateOf := List.mem_of_getElem? (i := 1) rfl
set_option maxHeartbeats 4000000 in
set_option maxRecDepth 100000 in
theorem kX8_stateOf (l : Launch) (D : va_G) (t1 t2 : Nat) (cI : ClassId) (cZ : ClassId) (ad : Nat → Nat)  (N : Nat) (h : mm_M) (a0 : Int32) (a1 : Int32) (a2 : Int32) (h1 : mm_M) (r : Int32) (hf : fX8_stateOf N h a0 a1 a2 = some (h1, r)) : mm_Ki l yX8_stateOf wsX8_stateOf rmX8_stateOf D (my_ty cI cZ) t1 t2 (my_w cI cZ ad) [.ref (ad 0), .int a0, .int a1, .int a2] h r h1 := by
  refine mm_open_i [.ref (ad 0), .int a0, .int a1, .int a2] h r h1 RX8 (by decide) rfl rfl (Nat.le_of_ble_eq_true rfl) ?_
  intro p e s m below meth c A X hr hlocks
  have RET : ∀ (h : mm_M) (pc : Nat) (lo : List (Nat × Value)) (v : Int32), decode cX8_stateOf pc = .ok (.ireturn, 1) → (h, v) = (h1, r) → mm_J p l e rmX8_stateOf s m ([.ref (ad 0), .int a0, .int a1, .int a2] : List Value).toArray below meth c 0 0 (MQ below (va_Qi (fun (r' : Int32) (u : mm_M) => r' = r ∧ u = h1) (mm_Post D (my_w cI cZ ad) A) A) ([.ref (ad 0), .int a0, .int a1, .int a2] : List Value).toArray s 0 0 A) D (my_w cI cZ ad) A 4 h pc lo [.int v] := by
    intro h2 pc lo v hd he
    cases he
    exact mj_iret X hr rfl hlocks hd
  generalize hout : (h1, r) = out at hf RET
  unfold fX8_stateOf at hf
  refine mj_lo (lo' := [(0, .ref (ad 0)), (1, .int a0), (2, .int a1), (3, .int a2)]) rfl ?_
  refine mj_aload_n X dX8_stateOf_0 0 rfl ?_
  refine mj_iload_n X dX8_stateOf_1 2 rfl ?_
  obtain ⟨h1, r2, q3, hf⟩ := mm_c hf
  refine mj_callVv (As := [.int a1]) (rest := []) X (kX8_runs l D t1 t2 cI cZ ad N h a1 h1 r2 q3) (cwV 1 X.2.2.2.2.1 gX8_stateOf_X8_runs rfl rfl rfl (by decide +kernel) ⟨Nat.le_of_ble_eq_true rfl, Nat.le_of_ble_eq_true rfl⟩) (my_at my_oX8 h) rfl rfl rfl rfl (Nat.le_of_ble_eq_true rfl) ⟨Nat.zero_le _, Nat.zero_le _⟩ dX8_stateOf_2 ?_
  refine mj_iload_n X dX8_stateOf_5 3 rfl ?_
  refine mj_if_ne (tgt := 18) X dX8_stateOf_6 (by decide) (fun c4 => ?_) (fun c4 => ?_)
  · have hf := mm_f c4 hf
    refine mj_iload_n X dX8_stateOf_18 3 rfl ?_
    refine mj_iconst (v := (1 : Int32)) X dX8_stateOf_19 (by decide) ?_
    refine mj_icmp_ne (tgt := 32) X dX8_stateOf_20 (by decide) (fun c5 => ?_) (fun c5 => ?_)
    · have hf := mm_f c5 hf
      refine mj_iload_n X dX8_stateOf_32 3 rfl ?_
      refine mj_iconst (v := (2 : Int32)) X dX8_stateOf_33 (by decide) ?_
      refine mj_icmp_ne (tgt := 46) X dX8_stateOf_34 (by decide) (fun c6 => ?_) (fun c6 => ?_)
      · have hf := mm_f c6 hf
        refine mj_aload_n X dX8_stateOf_46 0 rfl ?_
        refine mj_get X inwX8_stateOf_X8 (my_at my_oX8 h1) rfl 16 (by decide) rfl lnX8_stateOf_0 rfl dX8_stateOf_47 ?_
        refine mj_iload_n X dX8_stateOf_50 1 rfl ?_
        obtain ⟨g7, hf⟩ := mm_g hf
        refine mj_iald X 0 (my_at my_a15 h1) rfl g7 dX8_stateOf_51 ?_
        exact RET h1 _ _ _ dX8_stateOf_52 (Option.some.inj hf)
      · have hf := mm_t c6 hf
        refine mj_aload_n X dX8_stateOf_37 0 rfl ?_
        refine mj_get X inwX8_stateOf_X8 (my_at my_oX8 h1) rfl 15 (by decide) rfl lnX8_stateOf_1 rfl dX8_stateOf_38 ?_
        refine mj_iload_n X dX8_stateOf_41 1 rfl ?_
        obtain ⟨g8, hf⟩ := mm_g hf
        refine mj_iald X 0 (my_at my_a14 h1) rfl g8 dX8_stateOf_42 ?_
        refine mj_goto (tgt := 52) X dX8_stateOf_43 (by decide) ?_
        exact RET h1 _ _ _ dX8_stateOf_52 (Option.some.inj hf)
    · have hf := mm_t c5 hf
      refine mj_aload_n X dX8_stateOf_23 0 rfl ?_
      refine mj_get X inwX8_stateOf_X8 (my_at my_oX8 h1) rfl 14 (by decide) rfl lnX8_stateOf_2 rfl dX8_stateOf_24 ?_
      refine mj_iload_n X dX8_stateOf_27 1 rfl ?_
      obtain ⟨g9, hf⟩ := mm_g hf
      refine mj_iald X 0 (my_at my_a13 h1) rfl g9 dX8_stateOf_28 ?_
      refine mj_goto (tgt := 52) X dX8_stateOf_29 (by decide) ?_
      exact RET h1 _ _ _ dX8_stateOf_52 (Option.some.inj hf)
  · have hf := mm_t c4 hf
    refine mj_aload_n X dX8_stateOf_9 0 rfl ?_
    refine mj_get X inwX8_stateOf_X8 (my_at my_oX8 h1) rfl 10 (by decide) rfl lnX8_stateOf_3 rfl dX8_stateOf_10 ?_
    refine mj_iload_n X dX8_stateOf_13 1 rfl ?_
    obtain ⟨g10, hf⟩ := mm_g hf
    refine mj_iald X 0 (my_at my_a9 h1) rfl g10 dX8_stateOf_14 ?_
    refine mj_goto (tgt := 52) X dX8_stateOf_15 (by decide) ?_
    exact RET h1 _ _ _ dX8_stateOf_52 (Option.some.inj hf)
abbrev rmX8_isBehind : Room := { frames := 4, cells := 0, slots := 0, locals := 90 }
theorem inwX8_isBehind_X8 : ∀ w ∈ wsX80, w ∈ wsX8_isBehind := by
  intro w hw
  have h9 : wsX80 = (wsX8_isBehind.drop 32).take 29 := rfl
  rw [h9] at hw
  exact List.mem_of_mem_drop (List.mem_of_mem_take hw)
theorem lnX8_isBehind_0 : Cond.fieldLink RX8 97 "RichestPaysModel" "rounds" "I" ∈ wsX8_isBehind := List.mem_of_getElem? (i := 1) rfl
set_option maxHeartbeats 4000000 in
set_option maxRecDepth 100000 in
theorem kX8_isBehind (l : Launch) (D : va_G) (t1 t2 : Nat) (cI : ClassId) (cZ : ClassId) (ad : Nat → Nat)  (N : Nat) (h : mm_M) (a0 : Int32) (h1 : mm_M) (r : Int32) (hf : fX8_isBehind N h a0 = some (h1, r)) : mm_Ki l yX8_isBehind wsX8_isBehind rmX8_isBehind D (my_ty cI cZ) t1 t2 (my_w cI cZ ad) [.ref (ad 0), .int a0] h r h1 := by
  refine mm_open_i [.ref (ad 0), .int a0] h r h1 RX8 (by decide) rfl rfl (Nat.le_of_ble_eq_true rfl) ?_
  intro p e s m below meth c A X hr hlocks
  have RET : ∀ (h : mm_M) (pc : Nat) (lo : List (Nat × Value)) (v : Int32), decode cX8_isBehind pc = .ok (.ireturn, 1) → (v = 0 ∨ v = 1) → (h, v) = (h1, r) → mm_J p l e rmX8_isBehind s m ([.ref (ad 0), .int a0] : List Value).toArray below meth c 0 0 (MQ below (va_Qi (fun (r' : Int32) (u : mm_M) => r' = r ∧ u = h1) (mm_Post D (my_w cI cZ ad) A) A) ([.ref (ad 0), .int a0] : List Value).toArray s 0 0 A) D (my_w cI cZ ad) A 2 h pc lo [.int v] := by
    intro h2 pc lo v hd hz he
    cases he
    exact mj_iret X hr (mm_nz hz) hlocks hd
  generalize hout : (h1, r) = out at hf RET
  unfold fX8_isBehind at hf
  refine mj_lo (lo' := [(0, .ref (ad 0)), (1, .int a0)]) rfl ?_
  refine mj_aload_n X dX8_isBehind_0 0 rfl ?_
  obtain ⟨h1, r2, q3, hf⟩ := mm_c hf
  refine mj_callVv (As := []) (rest := []) X (kX8_reads l D t1 t2 cI cZ ad N h h1 r2 q3) (cwV 0 X.2.2.2.2.1 gX8_isBehind_X8_reads rfl rfl rfl (by decide +kernel) ⟨Nat.le_of_ble_eq_true rfl, Nat.le_of_ble_eq_true rfl⟩) (my_at my_oX8 h) rfl rfl rfl rfl (Nat.le_of_ble_eq_true rfl) ⟨Nat.zero_le _, Nat.zero_le _⟩ dX8_isBehind_1 ?_
  refine mj_iload_n X dX8_isBehind_4 1 rfl ?_
  refine mj_iconst (v := (0 : Int32)) X dX8_isBehind_5 (by decide) ?_
  refine mj_aload_n X dX8_isBehind_6 0 rfl ?_
  refine mj_get X inwX8_isBehind_X8 (my_at my_oX8 h1) rfl 5 (by decide) rfl lnX8_isBehind_0 rfl dX8_isBehind_7 ?_
  obtain ⟨h4, r5, q6, hf⟩ := mm_c hf
  refine mj_callSi (As := [.int a0, .int (0 : Int32), .int (h1 0 5)]) (rest := []) X (kX8_in l D t1 t2 cI cZ ad N h1 a0 (0 : Int32) (h1 0 5) h4 r5 q6) (va_cwS 3 X.2.2.2.2.1 gX8_isBehind_X8_in rfl rfl rfl (by decide +kernel) ⟨Nat.le_of_ble_eq_true rfl, Nat.le_of_ble_eq_true rfl⟩) rfl rfl (Nat.le_of_ble_eq_true rfl) ⟨Nat.zero_le _, Nat.zero_le _⟩ dX8_isBehind_10 ?_
  obtain ⟨g7, hf⟩ := mm_g hf
  exact RET h4 _ _ _ dX8_isBehind_13 g7 (Option.some.inj hf)
abbrev rmX8_state : Room := { frames := 5, cells := 0, slots := 0, locals := 111 }
set_option maxHeartbeats 4000000 in
set_option maxRecDepth 100000 in
theorem kX8_state (l : Launch) (D : va_G) (t1 t2 : Nat) (cI : ClassId) (cZ : ClassId) (ad : Nat → Nat)  (N : Nat) (h : mm_M) (a0 : Int32) (a1 : Int32) (a2 : Int32) (h1 : mm_M) (r : Int32) (hf : fX8_state N h a0 a1 a2 = some (h1, r)) : mm_Ki l yX8_state wsX8_state rmX8_state D (my_ty cI cZ) t1 t2 (my_w cI cZ ad) [.ref (ad 0), .int a0, .int a1, .int a2] h r h1 := by
  refine mm_open_i [.ref (ad 0), .int a0, .int a1, .int a2] h r h1 RX8 (by decide) rfl rfl (Nat.le_of_ble_eq_true rfl) ?_
  intro p e s m below meth c A X hr hlocks
  have RET : ∀ (h : mm_M) (pc : Nat) (lo : List (Nat × Value)) (v : Int32), decode cX8_state pc = .ok (.ireturn, 1) → (h, v) = (h1, r) → mm_J p l e rmX8_state s m ([.ref (ad 0), .int a0, .int a1, .int a2] : List Value).toArray below meth c 0 0 (MQ below (va_Qi (fun (r' : Int32) (u : mm_M) => r' = r ∧ u = h1) (mm_Post D (my_w cI cZ ad) A) A) ([.ref (ad 0), .int a0, .int a1, .int a2] : List Value).toArray s 0 0 A) D (my_w cI cZ ad) A 4 h pc lo [.int v] := by
    intro h2 pc lo v hd he
    cases he
    exact mj_iret X hr rfl hlocks hd
  generalize hout : (h1, r) = out at hf RET
  unfold fX8_state at hf
  refine mj_lo (lo' := [(0, .ref (ad 0)), (1, .int a0), (2, .int a1), (3, .int a2)]) rfl ?_
  refine mj_aload_n X dX8_state_0 0 rfl ?_
  refine mj_iload_n X dX8_state_1 1 rfl ?_
  obtain ⟨h1, r2, q3, hf⟩ := mm_c hf
  refine mj_callVi (As := [.int a0]) (rest := []) X (kX8_isPerson l D t1 t2 cI cZ ad N h a0 h1 r2 q3) (cwV 1 X.2.2.2.2.1 gX8_state_X8_isPerson rfl rfl rfl (by decide +kernel) ⟨Nat.le_of_ble_eq_true rfl, Nat.le_of_ble_eq_true rfl⟩) (my_at my_oX8 h) rfl rfl rfl rfl (Nat.le_of_ble_eq_true rfl) ⟨Nat.zero_le _, Nat.zero_le _⟩ dX8_state_2 ?_
  refine mj_if_eq (tgt := 35) X dX8_state_5 (by decide) (fun c4 => ?_) (fun c4 => ?_)
  · have hf := mm_t c4 hf
    refine mj_bipush (v := (-2 : Int32)) X dX8_state_35 (by decide) ?_
    exact RET h1 _ _ _ dX8_state_37 (Option.some.inj hf)
  · have hf := mm_f c4 hf
    refine mj_aload_n X dX8_state_8 0 rfl ?_
    refine mj_iload_n X dX8_state_9 2 rfl ?_
    obtain ⟨h5, r6, q7, hf⟩ := mm_c hf
    refine mj_callVi (As := [.int a1]) (rest := []) X (kX8_isBehind l D t1 t2 cI cZ ad N h1 a1 h5 r6 q7) (cwV 1 X.2.2.2.2.1 gX8_state_X8_isBehind rfl rfl rfl (by decide +kernel) ⟨Nat.le_of_ble_eq_true rfl, Nat.le_of_ble_eq_true rfl⟩) (my_at my_oX8 h1) rfl rfl rfl rfl (Nat.le_of_ble_eq_true rfl) ⟨Nat.zero_le _, Nat.zero_le _⟩ dX8_state_10 ?_
    refine mj_if_eq (tgt := 35) X dX8_state_13 (by decide) (fun c8 => ?_) (fun c8 => ?_)
    · have hf := mm_t c8 hf
      refine mj_bipush (v := (-2 : Int32)) X dX8_state_35 (by decide) ?_
      exact RET h5 _ _ _ dX8_state_37 (Option.some.inj hf)
    · have hf := mm_f c8 hf
      refine mj_iload_n X dX8_state_16 3 rfl ?_
      refine mj_iconst (v := (0 : Int32)) X dX8_state_17 (by decide) ?_
      refine mj_iconst (v := (3 : Int32)) X dX8_state_18 (by decide) ?_
      obtain ⟨h9, r10, q11, hf⟩ := mm_c hf
      refine mj_callSi (As := [.int a2, .int (0 : Int32), .int (3 : Int32)]) (rest := []) X (kX8_in l D t1 t2 cI cZ ad N h5 a2 (0 : Int32) (3 : Int32) h9 r10 q11) (va_cwS 3 X.2.2.2.2.1 gX8_state_X8_in rfl rfl rfl (by decide +kernel) ⟨Nat.le_of_ble_eq_true rfl, Nat.le_of_ble_eq_true rfl⟩) rfl rfl (Nat.le_of_ble_eq_true rfl) ⟨Nat.zero_le _, Nat.zero_le _⟩ dX8_state_19 ?_
      refine mj_if_eq (tgt := 35) X dX8_state_22 (by decide) (fun c12 => ?_) (fun c12 => ?_)
      · have hf := mm_t c12 hf
        refine mj_bipush (v := (-2 : Int32)) X dX8_state_35 (by decide) ?_
        exact RET h9 _ _ _ dX8_state_37 (Option.some.inj hf)
      · have hf := mm_f c12 hf
        refine mj_aload_n X dX8_state_25 0 rfl ?_
        refine mj_iload_n X dX8_state_26 1 rfl ?_
        refine mj_iload_n X dX8_state_27 2 rfl ?_
        refine mj_iload_n X dX8_state_28 3 rfl ?_
        obtain ⟨h13, r14, q15, hf⟩ := mm_c hf
        refine mj_callVi (As := [.int a0, .int a1, .int a2]) (rest := []) X (kX8_stateOf l D t1 t2 cI cZ ad N h9 a0 a1 a2 h13 r14 q15) (cwV 3 X.2.2.2.2.1 gX8_state_X8_stateOf rfl rfl rfl (by decide +kernel) ⟨Nat.le_of_ble_eq_true rfl, Nat.le_of_ble_eq_true rfl⟩) (my_at my_oX8 h9) rfl rfl rfl rfl (Nat.le_of_ble_eq_true rfl) ⟨Nat.zero_le _, Nat.zero_le _⟩ dX8_state_29 ?_
        refine mj_goto (tgt := 37) X dX8_state_32 (by decide) ?_
        exact RET h13 _ _ _ dX8_state_37 (Option.some.inj hf)
abbrev rmX8_allOf : Room := { frames := 4, cells := 0, slots := 0, locals := 96 }
theorem inwX8_allOf_X8 : ∀ w ∈ wsX80, w ∈ wsX8_allOf := by
  intro w hw
  have h9 : wsX80 = (wsX8_allOf.drop 40).take 29 := rfl
  rw [h9] at hw
  exact List.mem_of_mem_drop (List.mem_of_mem_take hw)
theorem lnX8_allOf_0 : Cond.fieldLink RX8 89 "RichestPaysModel" "people" "I" ∈ wsX8_allOf := List.mem_of_getElem? (i := 1) rfl
set_option maxHeartbeats 4000000 in
set_option maxRecDepth 100000 in
theorem wX8_allOf_L5 (X : mm_X p s m args c cX8_allOf RX8 wsX8_allOf 5 D (my_ty cI cZ) t1 t2 A) (out : mm_M × Int32) (RET : ∀ (h : mm_M) (pc : Nat) (lo : List (Nat × Value)) (v : Int32), decode cX8_allOf pc = .ok (.ireturn, 1) → (h, v) = out → mm_J p l e rmX8_allOf s m args below meth c 0 0 Q D (my_w cI cZ ad) A 5 h pc lo [.int v]) (N : Nat)  (p1 : Int32) (p2 : Int32) (k : mm_M → Int32 → Option (mm_M × Int32)) (HK : ∀ (h : mm_M) (m3 : Int32), k h m3 = some out → mm_J p l e rmX8_allOf s m args below meth c 0 0 Q D (my_w cI cZ ad) A 5 h 31 [(3, .int m3)] []) : ∀ (n : Nat) (h : mm_M) (m3 : Int32) (m4 : Int32), fX8_allOf_L5 N p1 p2 k n h m3 m4 = some out → mm_J p l e rmX8_allOf s m args below meth c 0 0 Q D (my_w cI cZ ad) A 5 h 5 [(0, .ref (ad 0)), (1, .int p1), (2, .int p2), (3, .int m3), (4, .int m4)] [] := by
  intro n
  induction n with
  | zero =>
    intro h m3 m4 hf
    cases hf
  | succ n ih =>
    intro h m3 m4 hf
    rw [fX8_allOf_L5] at hf
    refine mj_iload X dX8_allOf_5 4 rfl ?_
    refine mj_aload_n X dX8_allOf_7 0 rfl ?_
    refine mj_get X inwX8_allOf_X8 (my_at my_oX8 h) rfl 2 (by decide) rfl lnX8_allOf_0 rfl dX8_allOf_8 ?_
    refine mj_icmp_ge (tgt := 31) X dX8_allOf_11 (by decide) (fun c1 => ?_) (fun c1 => ?_)
    · have hf := mm_t c1 hf
      exact mj_sub [3] rfl (HK h m3 hf)
    · have hf := mm_f c1 hf
      refine mj_iload_n X dX8_allOf_14 3 rfl ?_
      refine mj_aload_n X dX8_allOf_15 0 rfl ?_
      refine mj_iload X dX8_allOf_16 4 rfl ?_
      refine mj_iload_n X dX8_allOf_18 1 rfl ?_
      refine mj_iload_n X dX8_allOf_19 2 rfl ?_
      obtain ⟨h2, r3, q4, hf⟩ := mm_c hf
      refine mj_callVi (As := [.int m4, .int p1, .int p2]) (rest := [.int m3]) X (kX8_stateOf l D t1 t2 cI cZ ad N h m4 p1 p2 h2 r3 q4) (cwV 3 X.2.2.2.2.1 gX8_allOf_X8_stateOf rfl rfl rfl (by decide +kernel) ⟨Nat.le_of_ble_eq_true rfl, Nat.le_of_ble_eq_true rfl⟩) (my_at my_oX8 h) rfl rfl rfl rfl (Nat.le_of_ble_eq_true rfl) ⟨Nat.zero_le _, Nat.zero_le _⟩ dX8_allOf_20 ?_
      refine mj_iadd X dX8_allOf_23 ?_
      obtain ⟨x5, ex5, hf⟩ := mm_l hf
      refine mj_topi ex5 ?_
      refine mj_istore_n (lo' := [(3, .int x5), (0, .ref (ad 0)), (1, .int p1), (2, .int p2), (4, .int m4)]) X dX8_allOf_24 (by decide) rfl ?_
      refine mj_iinc (k := 4) (v := (m4 + 1)) (lo' := [(4, .int (m4 + 1)), (3, .int x5), (0, .ref (ad 0)), (1, .int p1), (2, .int p2)]) X dX8_allOf_25 rfl rfl (by decide) rfl ?_
      refine mj_goto (tgt := 5) X dX8_allOf_28 (by decide) ?_
      exact mj_sub [2, 3, 4, 1, 0] rfl (ih h2 x5 (m4 + 1) hf)
set_option maxHeartbeats 4000000 in
set_option maxRecDepth 100000 in
theorem kX8_allOf (l : Launch) (D : va_G) (t1 t2 : Nat) (cI : ClassId) (cZ : ClassId) (ad : Nat → Nat)  (N : Nat) (h : mm_M) (a0 : Int32) (a1 : Int32) (h1 : mm_M) (r : Int32) (hf : fX8_allOf N h a0 a1 = some (h1, r)) : mm_Ki l yX8_allOf wsX8_allOf rmX8_allOf D (my_ty cI cZ) t1 t2 (my_w cI cZ ad) [.ref (ad 0), .int a0, .int a1] h r h1 := by
  refine mm_open_i [.ref (ad 0), .int a0, .int a1] h r h1 RX8 (by decide) rfl rfl (Nat.le_of_ble_eq_true rfl) ?_
  intro p e s m below meth c A X hr hlocks
  have RET : ∀ (h : mm_M) (pc : Nat) (lo : List (Nat × Value)) (v : Int32), decode cX8_allOf pc = .ok (.ireturn, 1) → (h, v) = (h1, r) → mm_J p l e rmX8_allOf s m ([.ref (ad 0), .int a0, .int a1] : List Value).toArray below meth c 0 0 (MQ below (va_Qi (fun (r' : Int32) (u : mm_M) => r' = r ∧ u = h1) (mm_Post D (my_w cI cZ ad) A) A) ([.ref (ad 0), .int a0, .int a1] : List Value).toArray s 0 0 A) D (my_w cI cZ ad) A 5 h pc lo [.int v] := by
    intro h2 pc lo v hd he
    cases he
    exact mj_iret X hr rfl hlocks hd
  generalize hout : (h1, r) = out at hf RET
  unfold fX8_allOf at hf
  refine mj_lo (lo' := [(0, .ref (ad 0)), (1, .int a0), (2, .int a1)]) rfl ?_
  refine mj_iconst (v := (0 : Int32)) X dX8_allOf_0 (by decide) ?_
  refine mj_istore_n (lo' := [(3, .int (0 : Int32)), (0, .ref (ad 0)), (1, .int a0), (2, .int a1)]) X dX8_allOf_1 (by decide) rfl ?_
  refine mj_iconst (v := (0 : Int32)) X dX8_allOf_2 (by decide) ?_
  refine mj_istore (lo' := [(4, .int (0 : Int32)), (3, .int (0 : Int32)), (0, .ref (ad 0)), (1, .int a0), (2, .int a1)]) X dX8_allOf_3 (by decide) rfl ?_
  refine mj_sub [2, 3, 4, 1, 0] rfl (wX8_allOf_L5 X out RET N a0 a1 _ (fun h6 v7 hf => ?_) N h (0 : Int32) (0 : Int32) hf)
  refine mj_iload_n X dX8_allOf_31 0 rfl ?_
  exact RET h6 _ _ _ dX8_allOf_32 (Option.some.inj hf)
abbrev rmX8_all : Room := { frames := 5, cells := 0, slots := 0, locals := 120 }
set_option maxHeartbeats 4000000 in
set_option maxRecDepth 100000 in
theorem kX8_all (l : Launch) (D : va_G) (t1 t2 : Nat) (cI : ClassId) (cZ : ClassId) (ad : Nat → Nat)  (N : Nat) (h : mm_M) (a0 : Int32) (a1 : Int32) (h1 : mm_M) (r : Int32) (hf : fX8_all N h a0 a1 = some (h1, r)) : mm_Ki l yX8_all wsX8_all rmX8_all D (my_ty cI cZ) t1 t2 (my_w cI cZ ad) [.ref (ad 0), .int a0, .int a1] h r h1 := by
  refine mm_open_i [.ref (ad 0), .int a0, .int a1] h r h1 RX8 (by decide) rfl rfl (Nat.le_of_ble_eq_true rfl) ?_
  intro p e s m below meth c A X hr hlocks
  have RET : ∀ (h : mm_M) (pc : Nat) (lo : List (Nat × Value)) (v : Int32), decode cX8_all pc = .ok (.ireturn, 1) → (h, v) = (h1, r) → mm_J p l e rmX8_all s m ([.ref (ad 0), .int a0, .int a1] : List Value).toArray below meth c 0 0 (MQ below (va_Qi (fun (r' : Int32) (u : mm_M) => r' = r ∧ u = h1) (mm_Post D (my_w cI cZ ad) A) A) ([.ref (ad 0), .int a0, .int a1] : List Value).toArray s 0 0 A) D (my_w cI cZ ad) A 3 h pc lo [.int v] := by
    intro h2 pc lo v hd he
    cases he
    exact mj_iret X hr rfl hlocks hd
  generalize hout : (h1, r) = out at hf RET
  unfold fX8_all at hf
  refine mj_lo (lo' := [(0, .ref (ad 0)), (1, .int a0), (2, .int a1)]) rfl ?_
  refine mj_aload_n X dX8_all_0 0 rfl ?_
  refine mj_iload_n X dX8_all_1 1 rfl ?_
  obtain ⟨h1, r2, q3, hf⟩ := mm_c hf
  refine mj_callVi (As := [.int a0]) (rest := []) X (kX8_isBehind l D t1 t2 cI cZ ad N h a0 h1 r2 q3) (cwV 1 X.2.2.2.2.1 gX8_all_X8_isBehind rfl rfl rfl (by decide +kernel) ⟨Nat.le_of_ble_eq_true rfl, Nat.le_of_ble_eq_true rfl⟩) (my_at my_oX8 h) rfl rfl rfl rfl (Nat.le_of_ble_eq_true rfl) ⟨Nat.zero_le _, Nat.zero_le _⟩ dX8_all_2 ?_
  refine mj_if_eq (tgt := 26) X dX8_all_5 (by decide) (fun c4 => ?_) (fun c4 => ?_)
  · have hf := mm_t c4 hf
    refine mj_bipush (v := (-2 : Int32)) X dX8_all_26 (by decide) ?_
    exact RET h1 _ _ _ dX8_all_28 (Option.some.inj hf)
  · have hf := mm_f c4 hf
    refine mj_iload_n X dX8_all_8 2 rfl ?_
    refine mj_iconst (v := (0 : Int32)) X dX8_all_9 (by decide) ?_
    refine mj_iconst (v := (3 : Int32)) X dX8_all_10 (by decide) ?_
    obtain ⟨h5, r6, q7, hf⟩ := mm_c hf
    refine mj_callSi (As := [.int a1, .int (0 : Int32), .int (3 : Int32)]) (rest := []) X (kX8_in l D t1 t2 cI cZ ad N h1 a1 (0 : Int32) (3 : Int32) h5 r6 q7) (va_cwS 3 X.2.2.2.2.1 gX8_all_X8_in rfl rfl rfl (by decide +kernel) ⟨Nat.le_of_ble_eq_true rfl, Nat.le_of_ble_eq_true rfl⟩) rfl rfl (Nat.le_of_ble_eq_true rfl) ⟨Nat.zero_le _, Nat.zero_le _⟩ dX8_all_11 ?_
    refine mj_if_eq (tgt := 26) X dX8_all_14 (by decide) (fun c8 => ?_) (fun c8 => ?_)
    · have hf := mm_t c8 hf
      refine mj_bipush (v := (-2 : Int32)) X dX8_all_26 (by decide) ?_
      exact RET h5 _ _ _ dX8_all_28 (Option.some.inj hf)
    · have hf := mm_f c8 hf
      refine mj_aload_n X dX8_all_17 0 rfl ?_
      refine mj_iload_n X dX8_all_18 1 rfl ?_
      refine mj_iload_n X dX8_all_19 2 rfl ?_
      obtain ⟨h9, r10, q11, hf⟩ := mm_c hf
      refine mj_callVi (As := [.int a0, .int a1]) (rest := []) X (kX8_allOf l D t1 t2 cI cZ ad N h5 a0 a1 h9 r10 q11) (cwV 2 X.2.2.2.2.1 gX8_all_X8_allOf rfl rfl rfl (by decide +kernel) ⟨Nat.le_of_ble_eq_true rfl, Nat.le_of_ble_eq_true rfl⟩) (my_at my_oX8 h5) rfl rfl rfl rfl (Nat.le_of_ble_eq_true rfl) ⟨Nat.zero_le _, Nat.zero_le _⟩ dX8_all_20 ?_
      refine mj_goto (tgt := 28) X dX8_all_23 (by decide) ?_
      exact RET h9 _ _ _ dX8_all_28 (Option.some.inj hf)
abbrev rmX8_payerOf : Room := { frames := 3, cells := 0, slots := 0, locals := 73 }
theorem inwX8_payerOf_X8 : ∀ w ∈ wsX80, w ∈ wsX8_payerOf := by
  intro w hw
  have h9 : wsX80 = (wsX8_payerOf.drop 36).take 29 := rfl
  rw [h9] at hw
  exact List.mem_of_mem_drop (List.mem_of_mem_take hw)
theorem lnX8_payerOf_0 : Cond.fieldLink RX8 89 "RichestPaysModel" "people" "I" ∈ wsX8_payerOf := List.mem_of_getElem? (i := 1) rfl
theorem lnX8_payerOf_1 : Cond.fieldLink RX8 37 "RichestPaysModel" "seat" "[I" ∈ wsX8_payerOf := List.mem_of_getElem? (i := 4) rfl
theorem lnX8_payerOf_2 : Cond.fieldLink RX8 40 "RichestPaysModel" "pays" "[I" ∈ wsX8_payerOf := List.mem_of_getElem? (i := 2) rfl
theorem lnX8_payerOf_3 : Cond.fieldLink RX8 31 "RichestPaysModel" "setting" "[I" ∈ wsX8_payerOf := List.mem_of_getElem? (i := 3) rfl
set_option maxHeartbeats 4000000 in
set_option maxRecDepth 100000 in
theorem wX8_payerOf_L12 (X : mm_X p s m args c cX8_payerOf RX8 wsX8_payerOf 6 D (my_ty cI cZ) t1 t2 A) (out : mm_M × Int32) (RET : ∀ (h : mm_M) (pc : Nat) (lo : List (Nat × Value)) (v : Int32), decode cX8_payerOf pc = .ok (.ireturn, 1) → (h, v) = out → mm_J p l e rmX8_payerOf s m args below meth c 0 0 Q D (my_w cI cZ ad) A 6 h pc lo [.int v]) (N : Nat)  (p2 : Int32) (k : mm_M → Int32 → Option (mm_M × Int32)) (HK : ∀ (h : mm_M) (m3 : Int32), k h m3 = some out → mm_J p l e rmX8_payerOf s m args below meth c 0 0 Q D (my_w cI cZ ad) A 6 h 104 [(3, .int m3)] []) : ∀ (n : Nat) (h : mm_M) (m3 : Int32) (m4 : Int32), fX8_payerOf_L12 N p2 k n h m3 m4 = some out → mm_J p l e rmX8_payerOf s m args below meth c 0 0 Q D (my_w cI cZ ad) A 6 h 12 [(0, .ref (ad 0)), (2, .int p2), (3, .int m3), (4, .int m4)] [] := by
  intro n
  induction n with
  | zero =>
    intro h m3 m4 hf
    cases hf
  | succ n ih =>
    intro h m3 m4 hf
    rw [fX8_payerOf_L12] at hf
    refine mj_iload X dX8_payerOf_12 3 rfl ?_
    refine mj_aload_n X dX8_payerOf_14 0 rfl ?_
    refine mj_get X inwX8_payerOf_X8 (my_at my_oX8 h) rfl 2 (by decide) rfl lnX8_payerOf_0 rfl dX8_payerOf_15 ?_
    refine mj_icmp_ge (tgt := 104) X dX8_payerOf_18 (by decide) (fun c4 => ?_) (fun c4 => ?_)
    · have hf := mm_t c4 hf
      exact mj_sub [2] rfl (HK h m3 hf)
    · have hf := mm_f c4 hf
      refine mj_iload_n X dX8_payerOf_21 2 rfl ?_
      refine mj_iconst (v := (-1 : Int32)) X dX8_payerOf_22 (by decide) ?_
      refine mj_icmp_eq (tgt := 68) X dX8_payerOf_23 (by decide) (fun c5 => ?_) (fun c5 => ?_)
      · have hf := mm_t c5 hf
        refine mj_iconst (v := (1 : Int32)) X dX8_payerOf_68 (by decide) ?_
        refine mj_goto (tgt := 73) X dX8_payerOf_69 (by decide) ?_
        refine mj_istore (lo' := [(5, .int (1 : Int32)), (0, .ref (ad 0)), (2, .int p2), (3, .int m3), (4, .int m4)]) X dX8_payerOf_73 (by decide) rfl ?_
        refine mj_aload_n X dX8_payerOf_75 1 rfl ?_
        refine mj_get X inwX8_payerOf_X8 (my_at my_oX8 h) rfl 11 (by decide) rfl lnX8_payerOf_1 rfl dX8_payerOf_76 ?_
        refine mj_iload X dX8_payerOf_79 4 rfl ?_
        obtain ⟨g6, hf⟩ := mm_g hf
        refine mj_iald X 0 (my_at my_a10 h) rfl g6 dX8_payerOf_81 ?_
        refine mj_iload_n X dX8_payerOf_82 2 rfl ?_
        refine mj_icmp_ne (tgt := 96) X dX8_payerOf_83 (by decide) (fun c7 => ?_) (fun c7 => ?_)
        · have hf := mm_f c7 hf
          refine mj_iload_n X dX8_payerOf_96 3 rfl ?_
          refine mj_istore_n (lo' := [(3, .int m3), (5, .int (1 : Int32)), (0, .ref (ad 0)), (2, .int p2), (4, .int m4)]) X dX8_payerOf_97 (by decide) rfl ?_
          refine mj_iinc (k := 4) (v := (m4 + 1)) (lo' := [(4, .int (m4 + 1)), (3, .int m3), (5, .int (1 : Int32)), (0, .ref (ad 0)), (2, .int p2)]) X dX8_payerOf_98 rfl rfl (by decide) rfl ?_
          refine mj_goto (tgt := 12) X dX8_payerOf_101 (by decide) ?_
          exact mj_sub [3, 4, 1, 0] rfl (ih h m3 (m4 + 1) hf)
        · have hf := mm_t c7 hf
          refine mj_iload X dX8_payerOf_86 0 rfl ?_
          refine mj_if_eq (tgt := 96) X dX8_payerOf_88 (by decide) (fun c8 => absurd c8 (by decide)) (fun _ => ?_)
          refine mj_iload X dX8_payerOf_91 4 rfl ?_
          refine mj_goto (tgt := 97) X dX8_payerOf_93 (by decide) ?_
          refine mj_istore_n (lo' := [(3, .int m4), (5, .int (1 : Int32)), (0, .ref (ad 0)), (2, .int p2), (4, .int m4)]) X dX8_payerOf_97 (by decide) rfl ?_
          refine mj_iinc (k := 4) (v := (m4 + 1)) (lo' := [(4, .int (m4 + 1)), (3, .int m4), (5, .int (1 : Int32)), (0, .ref (ad 0)), (2, .int p2)]) X dX8_payerOf_98 rfl rfl (by decide) rfl ?_
          refine mj_goto (tgt := 12) X dX8_payerOf_101 (by decide) ?_
          exact mj_sub [3, 4, 1, 0] rfl (ih h m4 (m4 + 1) hf)
      · have hf := mm_f c5 hf
        refine mj_aload_n X dX8_payerOf_26 0 rfl ?_
        refine mj_get X inwX8_payerOf_X8 (my_at my_oX8 h) rfl 12 (by decide) rfl lnX8_payerOf_2 rfl dX8_payerOf_27 ?_
        refine mj_iload X dX8_payerOf_30 3 rfl ?_
        obtain ⟨g9, hf⟩ := mm_g hf
        refine mj_iald X 0 (my_at my_a11 h) rfl g9 dX8_payerOf_32 ?_
        refine mj_aload_n X dX8_payerOf_33 0 rfl ?_
        refine mj_get X inwX8_payerOf_X8 (my_at my_oX8 h) rfl 12 (by decide) rfl lnX8_payerOf_2 rfl dX8_payerOf_34 ?_
        refine mj_iload_n X dX8_payerOf_37 2 rfl ?_
        obtain ⟨g10, hf⟩ := mm_g hf
        refine mj_iald X 0 (my_at my_a11 h) rfl g10 dX8_payerOf_38 ?_
        refine mj_icmp_gt (tgt := 68) X dX8_payerOf_39 (by decide) (fun c11 => ?_) (fun c11 => ?_)
        · have hf := mm_t c11 hf
          refine mj_iconst (v := (1 : Int32)) X dX8_payerOf_68 (by decide) ?_
          refine mj_goto (tgt := 73) X dX8_payerOf_69 (by decide) ?_
          refine mj_istore (lo' := [(5, .int (1 : Int32)), (0, .ref (ad 0)), (2, .int p2), (3, .int m3), (4, .int m4)]) X dX8_payerOf_73 (by decide) rfl ?_
          refine mj_aload_n X dX8_payerOf_75 1 rfl ?_
          refine mj_get X inwX8_payerOf_X8 (my_at my_oX8 h) rfl 11 (by decide) rfl lnX8_payerOf_1 rfl dX8_payerOf_76 ?_
          refine mj_iload X dX8_payerOf_79 4 rfl ?_
          refine mj_iald X 0 (my_at my_a10 h) rfl g9 dX8_payerOf_81 ?_
          refine mj_iload_n X dX8_payerOf_82 2 rfl ?_
          refine mj_icmp_ne (tgt := 96) X dX8_payerOf_83 (by decide) (fun c12 => ?_) (fun c12 => ?_)
          · have hf := mm_f c12 hf
            refine mj_iload_n X dX8_payerOf_96 3 rfl ?_
            refine mj_istore_n (lo' := [(3, .int m3), (5, .int (1 : Int32)), (0, .ref (ad 0)), (2, .int p2), (4, .int m4)]) X dX8_payerOf_97 (by decide) rfl ?_
            refine mj_iinc (k := 4) (v := (m4 + 1)) (lo' := [(4, .int (m4 + 1)), (3, .int m3), (5, .int (1 : Int32)), (0, .ref (ad 0)), (2, .int p2)]) X dX8_payerOf_98 rfl rfl (by decide) rfl ?_
            refine mj_goto (tgt := 12) X dX8_payerOf_101 (by decide) ?_
            exact mj_sub [3, 4, 1, 0] rfl (ih h m3 (m4 + 1) hf)
          · have hf := mm_t c12 hf
            refine mj_iload X dX8_payerOf_86 0 rfl ?_
            refine mj_if_eq (tgt := 96) X dX8_payerOf_88 (by decide) (fun c13 => absurd c13 (by decide)) (fun _ => ?_)
            refine mj_iload X dX8_payerOf_91 4 rfl ?_
            refine mj_goto (tgt := 97) X dX8_payerOf_93 (by decide) ?_
            refine mj_istore_n (lo' := [(3, .int m4), (5, .int (1 : Int32)), (0, .ref (ad 0)), (2, .int p2), (4, .int m4)]) X dX8_payerOf_97 (by decide) rfl ?_
            refine mj_iinc (k := 4) (v := (m4 + 1)) (lo' := [(4, .int (m4 + 1)), (3, .int m4), (5, .int (1 : Int32)), (0, .ref (ad 0)), (2, .int p2)]) X dX8_payerOf_98 rfl rfl (by decide) rfl ?_
            refine mj_goto (tgt := 12) X dX8_payerOf_101 (by decide) ?_
            exact mj_sub [3, 4, 1, 0] rfl (ih h m4 (m4 + 1) hf)
        · have hf := mm_f c11 hf
          refine mj_aload_n X dX8_payerOf_42 0 rfl ?_
          refine mj_get X inwX8_payerOf_X8 (my_at my_oX8 h) rfl 12 (by decide) rfl lnX8_payerOf_2 rfl dX8_payerOf_43 ?_
          refine mj_iload X dX8_payerOf_46 3 rfl ?_
          refine mj_iald X 0 (my_at my_a11 h) rfl g9 dX8_payerOf_48 ?_
          refine mj_aload_n X dX8_payerOf_49 0 rfl ?_
          refine mj_get X inwX8_payerOf_X8 (my_at my_oX8 h) rfl 12 (by decide) rfl lnX8_payerOf_2 rfl dX8_payerOf_50 ?_
          refine mj_iload_n X dX8_payerOf_53 2 rfl ?_
          refine mj_iald X 0 (my_at my_a11 h) rfl g10 dX8_payerOf_54 ?_
          refine mj_icmp_ne (tgt := 72) X dX8_payerOf_55 (by decide) (fun c14 => ?_) (fun c14 => ?_)
          · have hf := mm_f c14 hf
            refine mj_iconst (v := (0 : Int32)) X dX8_payerOf_72 (by decide) ?_
            refine mj_istore (lo' := [(5, .int (0 : Int32)), (0, .ref (ad 0)), (2, .int p2), (3, .int m3), (4, .int m4)]) X dX8_payerOf_73 (by decide) rfl ?_
            refine mj_aload_n X dX8_payerOf_75 1 rfl ?_
            refine mj_get X inwX8_payerOf_X8 (my_at my_oX8 h) rfl 11 (by decide) rfl lnX8_payerOf_1 rfl dX8_payerOf_76 ?_
            refine mj_iload X dX8_payerOf_79 4 rfl ?_
            refine mj_iald X 0 (my_at my_a10 h) rfl g9 dX8_payerOf_81 ?_
            refine mj_iload_n X dX8_payerOf_82 2 rfl ?_
            refine mj_icmp_ne (tgt := 96) X dX8_payerOf_83 (by decide) (fun c15 => ?_) (fun c15 => ?_)
            · have hf := mm_f c15 hf
              refine mj_iload_n X dX8_payerOf_96 3 rfl ?_
              refine mj_istore_n (lo' := [(3, .int m3), (5, .int (0 : Int32)), (0, .ref (ad 0)), (2, .int p2), (4, .int m4)]) X dX8_payerOf_97 (by decide) rfl ?_
              refine mj_iinc (k := 4) (v := (m4 + 1)) (lo' := [(4, .int (m4 + 1)), (3, .int m3), (5, .int (0 : Int32)), (0, .ref (ad 0)), (2, .int p2)]) X dX8_payerOf_98 rfl rfl (by decide) rfl ?_
              refine mj_goto (tgt := 12) X dX8_payerOf_101 (by decide) ?_
              exact mj_sub [3, 4, 1, 0] rfl (ih h m3 (m4 + 1) hf)
            · have hf := mm_t c15 hf
              refine mj_iload X dX8_payerOf_86 0 rfl ?_
              refine mj_if_eq (tgt := 96) X dX8_payerOf_88 (by decide) (fun _ => ?_) (fun c16 => absurd c16 (by decide))
              refine mj_iload_n X dX8_payerOf_96 3 rfl ?_
              refine mj_istore_n (lo' := [(3, .int m3), (5, .int (0 : Int32)), (0, .ref (ad 0)), (2, .int p2), (4, .int m4)]) X dX8_payerOf_97 (by decide) rfl ?_
              refine mj_iinc (k := 4) (v := (m4 + 1)) (lo' := [(4, .int (m4 + 1)), (3, .int m3), (5, .int (0 : Int32)), (0, .ref (ad 0)), (2, .int p2)]) X dX8_payerOf_98 rfl rfl (by decide) rfl ?_
              refine mj_goto (tgt := 12) X dX8_payerOf_101 (by decide) ?_
              exact mj_sub [3, 4, 1, 0] rfl (ih h m3 (m4 + 1) hf)
          · have hf := mm_t c14 hf
            refine mj_aload_n X dX8_payerOf_58 0 rfl ?_
            refine mj_get X inwX8_payerOf_X8 (my_at my_oX8 h) rfl 9 (by decide) rfl lnX8_payerOf_3 rfl dX8_payerOf_59 ?_
            refine mj_iconst (v := (1 : Int32)) X dX8_payerOf_62 (by decide) ?_
            refine mj_iald X 0 (my_at my_a8 h) rfl (by decide) dX8_payerOf_63 ?_
            refine mj_iconst (v := (1 : Int32)) X dX8_payerOf_64 (by decide) ?_
            refine mj_icmp_ne (tgt := 72) X dX8_payerOf_65 (by decide) (fun c17 => ?_) (fun c17 => ?_)
            · have hf := mm_f c17 hf
              refine mj_iconst (v := (0 : Int32)) X dX8_payerOf_72 (by decide) ?_
              refine mj_istore (lo' := [(5, .int (0 : Int32)), (0, .ref (ad 0)), (2, .int p2), (3, .int m3), (4, .int m4)]) X dX8_payerOf_73 (by decide) rfl ?_
              refine mj_aload_n X dX8_payerOf_75 1 rfl ?_
              refine mj_get X inwX8_payerOf_X8 (my_at my_oX8 h) rfl 11 (by decide) rfl lnX8_payerOf_1 rfl dX8_payerOf_76 ?_
              refine mj_iload X dX8_payerOf_79 4 rfl ?_
              refine mj_iald X 0 (my_at my_a10 h) rfl g9 dX8_payerOf_81 ?_
              refine mj_iload_n X dX8_payerOf_82 2 rfl ?_
              refine mj_icmp_ne (tgt := 96) X dX8_payerOf_83 (by decide) (fun c18 => ?_) (fun c18 => ?_)
              · have hf := mm_f c18 hf
                refine mj_iload_n X dX8_payerOf_96 3 rfl ?_
                refine mj_istore_n (lo' := [(3, .int m3), (5, .int (0 : Int32)), (0, .ref (ad 0)), (2, .int p2), (4, .int m4)]) X dX8_payerOf_97 (by decide) rfl ?_
                refine mj_iinc (k := 4) (v := (m4 + 1)) (lo' := [(4, .int (m4 + 1)), (3, .int m3), (5, .int (0 : Int32)), (0, .ref (ad 0)), (2, .int p2)]) X dX8_payerOf_98 rfl rfl (by decide) rfl ?_
                refine mj_goto (tgt := 12) X dX8_payerOf_101 (by decide) ?_
                exact mj_sub [3, 4, 1, 0] rfl (ih h m3 (m4 + 1) hf)
              · have hf := mm_t c18 hf
                refine mj_iload X dX8_payerOf_86 0 rfl ?_
                refine mj_if_eq (tgt := 96) X dX8_payerOf_88 (by decide) (fun _ => ?_) (fun c19 => absurd c19 (by decide))
                refine mj_iload_n X dX8_payerOf_96 3 rfl ?_
                refine mj_istore_n (lo' := [(3, .int m3), (5, .int (0 : Int32)), (0, .ref (ad 0)), (2, .int p2), (4, .int m4)]) X dX8_payerOf_97 (by decide) rfl ?_
                refine mj_iinc (k := 4) (v := (m4 + 1)) (lo' := [(4, .int (m4 + 1)), (3, .int m3), (5, .int (0 : Int32)), (0, .ref (ad 0)), (2, .int p2)]) X dX8_payerOf_98 rfl rfl (by decide) rfl ?_
                refine mj_goto (tgt := 12) X dX8_payerOf_101 (by decide) ?_
                exact mj_sub [3, 4, 1, 0] rfl (ih h m3 (m4 + 1) hf)
            · have hf := mm_t c17 hf
              refine mj_iconst (v := (1 : Int32)) X dX8_payerOf_68 (by decide) ?_
              refine mj_goto (tgt := 73) X dX8_payerOf_69 (by decide) ?_
              refine mj_istore (lo' := [(5, .int (1 : Int32)), (0, .ref (ad 0)), (2, .int p2), (3, .int m3), (4, .int m4)]) X dX8_payerOf_73 (by decide) rfl ?_
              refine mj_aload_n X dX8_payerOf_75 1 rfl ?_
              refine mj_get X inwX8_payerOf_X8 (my_at my_oX8 h) rfl 11 (by decide) rfl lnX8_payerOf_1 rfl dX8_payerOf_76 ?_
              refine mj_iload X dX8_payerOf_79 4 rfl ?_
              refine mj_iald X 0 (my_at my_a10 h) rfl g9 dX8_payerOf_81 ?_
              refine mj_iload_n X dX8_payerOf_82 2 rfl ?_
              refine mj_icmp_ne (tgt := 96) X dX8_payerOf_83 (by decide) (fun c20 => ?_) (fun c20 => ?_)
              · have hf := mm_f c20 hf
                refine mj_iload_n X dX8_payerOf_96 3 rfl ?_
                refine mj_istore_n (lo' := [(3, .int m3), (5, .int (1 : Int32)), (0, .ref (ad 0)), (2, .int p2), (4, .int m4)]) X dX8_payerOf_97 (by decide) rfl ?_
                refine mj_iinc (k := 4) (v := (m4 + 1)) (lo' := [(4, .int (m4 + 1)), (3, .int m3), (5, .int (1 : Int32)), (0, .ref (ad 0)), (2, .int p2)]) X dX8_payerOf_98 rfl rfl (by decide) rfl ?_
                refine mj_goto (tgt := 12) X dX8_payerOf_101 (by decide) ?_
                exact mj_sub [3, 4, 1, 0] rfl (ih h m3 (m4 + 1) hf)
              · have hf := mm_t c20 hf
                refine mj_iload X dX8_payerOf_86 0 rfl ?_
                refine mj_if_eq (tgt := 96) X dX8_payerOf_88 (by decide) (fun c21 => absurd c21 (by decide)) (fun _ => ?_)
                refine mj_iload X dX8_payerOf_91 4 rfl ?_
                refine mj_goto (tgt := 97) X dX8_payerOf_93 (by decide) ?_
                refine mj_istore_n (lo' := [(3, .int m4), (5, .int (1 : Int32)), (0, .ref (ad 0)), (2, .int p2), (4, .int m4)]) X dX8_payerOf_97 (by decide) rfl ?_
                refine mj_iinc (k := 4) (v := (m4 + 1)) (lo' := [(4, .int (m4 + 1)), (3, .int m4), (5, .int (1 : Int32)), (0, .ref (ad 0)), (2, .int p2)]) X dX8_payerOf_98 rfl rfl (by decide) rfl ?_
                refine mj_goto (tgt := 12) X dX8_payerOf_101 (by decide) ?_
                exact mj_sub [3, 4, 1, 0] rfl (ih h m4 (m4 + 1) hf)
set_option maxHeartbeats 4000000 in
set_option maxRecDepth 100000 in
theorem kX8_payerOf (l : Launch) (D : va_G) (t1 t2 : Nat) (cI : ClassId) (cZ : ClassId) (ad : Nat → Nat)  (N : Nat) (h : mm_M) (a0 : Int32) (a1 : Int32) (h1 : mm_M) (r : Int32) (hf : fX8_payerOf N h a0 a1 = some (h1, r)) : mm_Ki l yX8_payerOf wsX8_payerOf rmX8_payerOf D (my_ty cI cZ) t1 t2 (my_w cI cZ ad) [.ref (ad 0), .int a0, .int a1] h r h1 := by
  refine mm_open_i [.ref (ad 0), .int a0, .int a1] h r h1 RX8 (by decide) rfl rfl (Nat.le_of_ble_eq_true rfl) ?_
  intro p e s m below meth c A X hr hlocks
  have RET : ∀ (h : mm_M) (pc : Nat) (lo : List (Nat × Value)) (v : Int32), decode cX8_payerOf pc = .ok (.ireturn, 1) → (h, v) = (h1, r) → mm_J p l e rmX8_payerOf s m ([.ref (ad 0), .int a0, .int a1] : List Value).toArray below meth c 0 0 (MQ below (va_Qi (fun (r' : Int32) (u : mm_M) => r' = r ∧ u = h1) (mm_Post D (my_w cI cZ ad) A) A) ([.ref (ad 0), .int a0, .int a1] : List Value).toArray s 0 0 A) D (my_w cI cZ ad) A 6 h pc lo [.int v] := by
    intro h2 pc lo v hd he
    cases he
    exact mj_iret X hr rfl hlocks hd
  generalize hout : (h1, r) = out at hf RET
  unfold fX8_payerOf at hf
  refine mj_lo (lo' := [(0, .ref (ad 0)), (1, .int a0), (2, .int a1)]) rfl ?_
  refine mj_aload_n X dX8_payerOf_0 0 rfl ?_
  refine mj_iload_n X dX8_payerOf_1 1 rfl ?_
  refine mj_iconst (v := (1 : Int32)) X dX8_payerOf_2 (by decide) ?_
  refine mj_iadd X dX8_payerOf_3 ?_
  obtain ⟨h1, r2, q3, hf⟩ := mm_c hf
  refine mj_callVv (As := [.int (a0 + (1 : Int32))]) (rest := []) X (kX8_runs l D t1 t2 cI cZ ad N h ((a0 + (1 : Int32))) h1 r2 q3) (cwV 1 X.2.2.2.2.1 gX8_payerOf_X8_runs rfl rfl rfl (by decide +kernel) ⟨Nat.le_of_ble_eq_true rfl, Nat.le_of_ble_eq_true rfl⟩) (my_at my_oX8 h) rfl rfl rfl rfl (Nat.le_of_ble_eq_true rfl) ⟨Nat.zero_le _, Nat.zero_le _⟩ dX8_payerOf_4 ?_
  refine mj_iconst (v := (-1 : Int32)) X dX8_payerOf_7 (by decide) ?_
  refine mj_istore_n (lo' := [(3, .int (-1 : Int32)), (0, .ref (ad 0)), (1, .int a0), (2, .int a1)]) X dX8_payerOf_8 (by decide) rfl ?_
  refine mj_iconst (v := (0 : Int32)) X dX8_payerOf_9 (by decide) ?_
  refine mj_istore (lo' := [(4, .int (0 : Int32)), (3, .int (-1 : Int32)), (0, .ref (ad 0)), (1, .int a0), (2, .int a1)]) X dX8_payerOf_10 (by decide) rfl ?_
  refine mj_sub [2, 4, 1, 0] rfl (wX8_payerOf_L12 X out RET N a1 _ (fun h22 v23 hf => ?_) N h1 (-1 : Int32) (0 : Int32) hf)
  refine mj_iload_n X dX8_payerOf_104 0 rfl ?_
  exact RET h22 _ _ _ dX8_payerOf_105 (Option.some.inj hf)
end
