section
variable {p : Program} {l : Launch} {e : Env} {s : State} {m : MethodId} {args : Array Value} {below : List Frame} {meth : Method} {c : Code} {Q : State → Prop} {D : va_G} {A : Nat → Prop} {t1 t2 : Nat} {cI cT cS cZ : ClassId} {ad : Nat → Nat}
abbrev rmX8_roundsTill : Room := { frames := 2, cells := 0, slots := 0, locals := 50 }
theorem inwX8_roundsTill_X8 : ∀ w ∈ wsX80, w ∈ wsX8_roundsTill := by
  intro w hw
  have h9 : wsX80 = (wsX8_roundsTill.drop 31).take 29 := rfl
  rw [h9] at hw
  exact List.mem_of_mem_drop (List.mem_of_mem_take hw)
theorem lnX8_roundsTill_0 : Cond.fieldLink RX8 89 "RichestPaysModel" "people" "I" ∈ wsX8_roundsTill := List.mem_of_getElem? (i := 1) rfl
theorem lnX8_roundsTill_1 : Cond.fieldLink RX8 34 "RichestPaysModel" "hand" "[I" ∈ wsX8_roundsTill := List.mem_of_getElem? (i := 2) rfl
theorem lnX8_roundsTill_2 : Cond.fieldLink RX8 40 "RichestPaysModel" "pays" "[I" ∈ wsX8_roundsTill := List.mem_of_getElem? (i := 3) rfl
set_option maxHeartbeats 4000000 in
set_option maxRecDepth 100000 in
theorem wX8_roundsTill_L47 (X : mm_X p s m args c cX8_roundsTill RX8 wsX8_roundsTill 9 D (my_ty cI cZ) t1 t2 A) (out : mm_M × Int32) (RET : ∀ (h : mm_M) (pc : Nat) (lo : List (Nat × Value)) (v : Int32), decode cX8_roundsTill pc = .ok (.ireturn, 1) → (h, v) = out → mm_J p l e rmX8_roundsTill s m args below meth c 0 0 Q D (my_w cI cZ ad) A 9 h pc lo [.int v]) (N : Nat)  (p1 : Int32) (p2 : Int32) (p3 : Int32) (p4 : Int32) (p5 : Int32) (p6 : Int32) (k : mm_M → Option (mm_M × Int32)) (HK : ∀ (h : mm_M), k h = some out → mm_J p l e rmX8_roundsTill s m args below meth c 0 0 Q D (my_w cI cZ ad) A 9 h 79 [(0, .ref (ad 0)), (1, .int p1), (2, .int p2), (3, .int p3), (4, .int p4), (5, .int p5), (6, .int p6)] []) : ∀ (n : Nat) (h : mm_M) (m8 : Int32), fX8_roundsTill_L47 N p1 p2 p3 p4 p5 p6 k n h m8 = some out → mm_J p l e rmX8_roundsTill s m args below meth c 0 0 Q D (my_w cI cZ ad) A 9 h 47 [(0, .ref (ad 0)), (1, .int p1), (2, .int p2), (3, .int p3), (4, .int p4), (5, .int p5), (6, .int p6), (8, .int m8)] [] := by
  intro n
  induction n with
  | zero =>
    intro h m8 hf
    cases hf
  | succ n ih =>
    intro h m8 hf
    rw [fX8_roundsTill_L47] at hf
    refine mj_iload X dX8_roundsTill_47 7 rfl ?_
    refine mj_aload_n X dX8_roundsTill_49 0 rfl ?_
    refine mj_get X inwX8_roundsTill_X8 (my_at my_oX8 h) rfl 2 (by decide) rfl lnX8_roundsTill_0 rfl dX8_roundsTill_50 ?_
    refine mj_icmp_ge (tgt := 79) X dX8_roundsTill_53 (by decide) (fun c13 => ?_) (fun c13 => ?_)
    · have hf := mm_t c13 hf
      exact mj_sub [0, 1, 2, 3, 4, 5, 6] rfl (HK h hf)
    · have hf := mm_f c13 hf
      refine mj_aload_n X dX8_roundsTill_56 0 rfl ?_
      refine mj_get X inwX8_roundsTill_X8 (my_at my_oX8 h) rfl 10 (by decide) rfl lnX8_roundsTill_1 rfl dX8_roundsTill_57 ?_
      refine mj_iload X dX8_roundsTill_60 7 rfl ?_
      refine mj_dup2 X dX8_roundsTill_62 rfl rfl ?_
      obtain ⟨g14, hf⟩ := mm_g hf
      refine mj_iald X 0 (my_at my_a9 h) rfl g14 dX8_roundsTill_63 ?_
      refine mj_aload_n X dX8_roundsTill_64 0 rfl ?_
      refine mj_get X inwX8_roundsTill_X8 (my_at my_oX8 h) rfl 12 (by decide) rfl lnX8_roundsTill_2 rfl dX8_roundsTill_65 ?_
      refine mj_iload X dX8_roundsTill_68 7 rfl ?_
      refine mj_iald X 0 (my_at my_a11 h) rfl g14 dX8_roundsTill_70 ?_
      refine mj_isub X dX8_roundsTill_71 ?_
      obtain ⟨h15, eh15, hf⟩ := mm_l hf
      refine mj_iast X 0 (my_at my_a9 h) rfl g14 (my_ast my_a9 eh15) dX8_roundsTill_72 ?_
      refine mj_iinc (k := 7) (v := (m8 + 1)) (lo' := [(8, .int (m8 + 1)), (0, .ref (ad 0)), (1, .int p1), (2, .int p2), (3, .int p3), (4, .int p4), (5, .int p5), (6, .int p6)]) X dX8_roundsTill_73 rfl rfl (by decide) rfl ?_
      refine mj_goto (tgt := 47) X dX8_roundsTill_76 (by decide) ?_
      exact mj_sub [1, 2, 3, 4, 5, 6, 7, 0] rfl (ih h15 (m8 + 1) hf)
set_option maxHeartbeats 4000000 in
set_option maxRecDepth 100000 in
theorem wX8_roundsTill_L7 (X : mm_X p s m args c cX8_roundsTill RX8 wsX8_roundsTill 9 D (my_ty cI cZ) t1 t2 A) (out : mm_M × Int32) (RET : ∀ (h : mm_M) (pc : Nat) (lo : List (Nat × Value)) (v : Int32), decode cX8_roundsTill pc = .ok (.ireturn, 1) → (h, v) = out → mm_J p l e rmX8_roundsTill s m args below meth c 0 0 Q D (my_w cI cZ ad) A 9 h pc lo [.int v]) (N : Nat)  (p1 : Int32) (p2 : Int32) (p3 : Int32) (p4 : Int32) (p5 : Int32) (k : mm_M → Option (mm_M × Int32)) (HK : ∀ (h : mm_M), k h = some out → mm_J p l e rmX8_roundsTill s m args below meth c 0 0 Q D (my_w cI cZ ad) A 9 h 99 [] []) : ∀ (n : Nat) (h : mm_M) (m6 : Int32), fX8_roundsTill_L7 N p1 p2 p3 p4 p5 k n h m6 = some out → mm_J p l e rmX8_roundsTill s m args below meth c 0 0 Q D (my_w cI cZ ad) A 9 h 7 [(0, .ref (ad 0)), (1, .int p1), (2, .int p2), (3, .int p3), (4, .int p4), (5, .int p5), (6, .int m6)] [] := by
  intro n
  induction n with
  | zero =>
    intro h m6 hf
    cases hf
  | succ n ih =>
    intro h m6 hf
    rw [fX8_roundsTill_L7] at hf
    refine mj_iload X dX8_roundsTill_7 6 rfl ?_
    refine mj_iconst (v := (4 : Int32)) X dX8_roundsTill_9 (by decide) ?_
    refine mj_icmp_ge (tgt := 99) X dX8_roundsTill_10 (by decide) (fun c4 => ?_) (fun c4 => ?_)
    · have hf := mm_t c4 hf
      exact mj_sub [] rfl (HK h hf)
    · have hf := mm_f c4 hf
      refine mj_aload_n X dX8_roundsTill_13 0 rfl ?_
      refine mj_iload X dX8_roundsTill_14 6 rfl ?_
      refine mj_iconst (v := (1 : Int32)) X dX8_roundsTill_16 (by decide) ?_
      refine mj_icmp_ne (tgt := 24) X dX8_roundsTill_17 (by decide) (fun c5 => ?_) (fun c5 => ?_)
      · have hf := mm_f c5 hf
        refine mj_iload X dX8_roundsTill_24 6 rfl ?_
        refine mj_iconst (v := (2 : Int32)) X dX8_roundsTill_26 (by decide) ?_
        refine mj_icmp_ne (tgt := 34) X dX8_roundsTill_27 (by decide) (fun c6 => ?_) (fun c6 => ?_)
        · have hf := mm_f c6 hf
          refine mj_iload_n X dX8_roundsTill_34 3 rfl ?_
          obtain ⟨h7, r8, q9, hf⟩ := mm_c hf
          refine mj_callVi (As := [.int p3]) (rest := []) X (kX8_parts l D t1 t2 cI cZ ad N h p3 h7 r8 q9) (cwV 1 X.2.2.2.2.1 gX8_roundsTill_X8_parts rfl rfl rfl (by decide +kernel) ⟨Nat.le_of_ble_eq_true rfl, Nat.le_of_ble_eq_true rfl⟩) (my_at my_oX8 h) rfl rfl rfl rfl (Nat.le_of_ble_eq_true rfl) ⟨Nat.zero_le _, Nat.zero_le _⟩ dX8_roundsTill_35 ?_
          refine mj_istore (lo' := [(7, .int r8), (0, .ref (ad 0)), (1, .int p1), (2, .int p2), (3, .int p3), (4, .int p4), (5, .int p5), (6, .int m6)]) X dX8_roundsTill_38 (by decide) rfl ?_
          refine mj_aload_n X dX8_roundsTill_40 1 rfl ?_
          obtain ⟨h10, r11, q12, hf⟩ := mm_c hf
          refine mj_callVv (As := []) (rest := []) X (kX8_bills l D t1 t2 cI cZ ad N h7 h10 r11 q12) (cwV 0 X.2.2.2.2.1 gX8_roundsTill_X8_bills rfl rfl rfl (by decide +kernel) ⟨Nat.le_of_ble_eq_true rfl, Nat.le_of_ble_eq_true rfl⟩) (my_at my_oX8 h7) rfl rfl rfl rfl (Nat.le_of_ble_eq_true rfl) ⟨Nat.zero_le _, Nat.zero_le _⟩ dX8_roundsTill_41 ?_
          refine mj_iconst (v := (0 : Int32)) X dX8_roundsTill_44 (by decide) ?_
          refine mj_istore (lo' := [(8, .int (0 : Int32)), (7, .int r8), (0, .ref (ad 0)), (1, .int p1), (2, .int p2), (3, .int p3), (4, .int p4), (5, .int p5), (6, .int m6)]) X dX8_roundsTill_45 (by decide) rfl ?_
          refine mj_sub [2, 3, 4, 5, 6, 7, 8, 0] rfl (wX8_roundsTill_L47 X out RET N p1 p2 p3 p4 p5 m6 _ (fun h16 hf => ?_) N h10 (0 : Int32) hf)
          refine mj_aload_n X dX8_roundsTill_79 0 rfl ?_
          refine mj_iload X dX8_roundsTill_80 4 rfl ?_
          refine mj_iload X dX8_roundsTill_82 5 rfl ?_
          obtain ⟨h17, r18, q19, hf⟩ := mm_c hf
          refine mj_callVi (As := [.int p4, .int p5]) (rest := []) X (kX8_isDown l D t1 t2 cI cZ ad N h16 p4 p5 h17 r18 q19) (cwV 2 X.2.2.2.2.1 gX8_roundsTill_X8_isDown rfl rfl rfl (by decide +kernel) ⟨Nat.le_of_ble_eq_true rfl, Nat.le_of_ble_eq_true rfl⟩) (my_at my_oX8 h16) rfl rfl rfl rfl (Nat.le_of_ble_eq_true rfl) ⟨Nat.zero_le _, Nat.zero_le _⟩ dX8_roundsTill_84 ?_
          refine mj_if_eq (tgt := 93) X dX8_roundsTill_87 (by decide) (fun c20 => ?_) (fun c20 => ?_)
          · have hf := mm_t c20 hf
            refine mj_iinc (k := 6) (v := (m6 + 1)) (lo' := [(6, .int (m6 + 1)), (0, .ref (ad 0)), (1, .int p1), (2, .int p2), (3, .int p3), (4, .int p4), (5, .int p5)]) X dX8_roundsTill_93 rfl rfl (by decide) rfl ?_
            refine mj_goto (tgt := 7) X dX8_roundsTill_96 (by decide) ?_
            exact mj_sub [1, 2, 3, 4, 5, 6, 0] rfl (ih h17 (m6 + 1) hf)
          · have hf := mm_f c20 hf
            refine mj_iload X dX8_roundsTill_90 6 rfl ?_
            exact RET h17 _ _ _ dX8_roundsTill_92 (Option.some.inj hf)
        · have hf := mm_t c6 hf
          refine mj_iload_n X dX8_roundsTill_30 2 rfl ?_
          refine mj_goto (tgt := 35) X dX8_roundsTill_31 (by decide) ?_
          obtain ⟨h21, r22, q23, hf⟩ := mm_c hf
          refine mj_callVi (As := [.int p2]) (rest := []) X (kX8_parts l D t1 t2 cI cZ ad N h p2 h21 r22 q23) (cwV 1 X.2.2.2.2.1 gX8_roundsTill_X8_parts rfl rfl rfl (by decide +kernel) ⟨Nat.le_of_ble_eq_true rfl, Nat.le_of_ble_eq_true rfl⟩) (my_at my_oX8 h) rfl rfl rfl rfl (Nat.le_of_ble_eq_true rfl) ⟨Nat.zero_le _, Nat.zero_le _⟩ dX8_roundsTill_35 ?_
          refine mj_istore (lo' := [(7, .int r22), (0, .ref (ad 0)), (1, .int p1), (2, .int p2), (3, .int p3), (4, .int p4), (5, .int p5), (6, .int m6)]) X dX8_roundsTill_38 (by decide) rfl ?_
          refine mj_aload_n X dX8_roundsTill_40 1 rfl ?_
          obtain ⟨h24, r25, q26, hf⟩ := mm_c hf
          refine mj_callVv (As := []) (rest := []) X (kX8_bills l D t1 t2 cI cZ ad N h21 h24 r25 q26) (cwV 0 X.2.2.2.2.1 gX8_roundsTill_X8_bills rfl rfl rfl (by decide +kernel) ⟨Nat.le_of_ble_eq_true rfl, Nat.le_of_ble_eq_true rfl⟩) (my_at my_oX8 h21) rfl rfl rfl rfl (Nat.le_of_ble_eq_true rfl) ⟨Nat.zero_le _, Nat.zero_le _⟩ dX8_roundsTill_41 ?_
          refine mj_iconst (v := (0 : Int32)) X dX8_roundsTill_44 (by decide) ?_
          refine mj_istore (lo' := [(8, .int (0 : Int32)), (7, .int r22), (0, .ref (ad 0)), (1, .int p1), (2, .int p2), (3, .int p3), (4, .int p4), (5, .int p5), (6, .int m6)]) X dX8_roundsTill_45 (by decide) rfl ?_
          refine mj_sub [2, 3, 4, 5, 6, 7, 8, 0] rfl (wX8_roundsTill_L47 X out RET N p1 p2 p3 p4 p5 m6 _ (fun h27 hf => ?_) N h24 (0 : Int32) hf)
          refine mj_aload_n X dX8_roundsTill_79 0 rfl ?_
          refine mj_iload X dX8_roundsTill_80 4 rfl ?_
          refine mj_iload X dX8_roundsTill_82 5 rfl ?_
          obtain ⟨h28, r29, q30, hf⟩ := mm_c hf
          refine mj_callVi (As := [.int p4, .int p5]) (rest := []) X (kX8_isDown l D t1 t2 cI cZ ad N h27 p4 p5 h28 r29 q30) (cwV 2 X.2.2.2.2.1 gX8_roundsTill_X8_isDown rfl rfl rfl (by decide +kernel) ⟨Nat.le_of_ble_eq_true rfl, Nat.le_of_ble_eq_true rfl⟩) (my_at my_oX8 h27) rfl rfl rfl rfl (Nat.le_of_ble_eq_true rfl) ⟨Nat.zero_le _, Nat.zero_le _⟩ dX8_roundsTill_84 ?_
          refine mj_if_eq (tgt := 93) X dX8_roundsTill_87 (by decide) (fun c31 => ?_) (fun c31 => ?_)
          · have hf := mm_t c31 hf
            refine mj_iinc (k := 6) (v := (m6 + 1)) (lo' := [(6, .int (m6 + 1)), (0, .ref (ad 0)), (1, .int p1), (2, .int p2), (3, .int p3), (4, .int p4), (5, .int p5)]) X dX8_roundsTill_93 rfl rfl (by decide) rfl ?_
            refine mj_goto (tgt := 7) X dX8_roundsTill_96 (by decide) ?_
            exact mj_sub [1, 2, 3, 4, 5, 6, 0] rfl (ih h28 (m6 + 1) hf)
          · have hf := mm_f c31 hf
            refine mj_iload X dX8_roundsTill_90 6 rfl ?_
            exact RET h28 _ _ _ dX8_roundsTill_92 (Option.some.inj hf)
      · have hf := mm_t c5 hf
        refine mj_iload_n X dX8_roundsTill_20 1 rfl ?_
        refine mj_goto (tgt := 35) X dX8_roundsTill_21 (by decide) ?_
        obtain ⟨h32, r33, q34, hf⟩ := mm_c hf
        refine mj_callVi (As := [.int p1]) (rest := []) X (kX8_parts l D t1 t2 cI cZ ad N h p1 h32 r33 q34) (cwV 1 X.2.2.2.2.1 gX8_roundsTill_X8_parts rfl rfl rfl (by decide +kernel) ⟨Nat.le_of_ble_eq_true rfl, Nat.le_of_ble_eq_true rfl⟩) (my_at my_oX8 h) rfl rfl rfl rfl (Nat.le_of_ble_eq_true rfl) ⟨Nat.zero_le _, Nat.zero_le _⟩ dX8_roundsTill_35 ?_
        refine mj_istore (lo' := [(7, .int r33), (0, .ref (ad 0)), (1, .int p1), (2, .int p2), (3, .int p3), (4, .int p4), (5, .int p5), (6, .int m6)]) X dX8_roundsTill_38 (by decide) rfl ?_
        refine mj_aload_n X dX8_roundsTill_40 1 rfl ?_
        obtain ⟨h35, r36, q37, hf⟩ := mm_c hf
        refine mj_callVv (As := []) (rest := []) X (kX8_bills l D t1 t2 cI cZ ad N h32 h35 r36 q37) (cwV 0 X.2.2.2.2.1 gX8_roundsTill_X8_bills rfl rfl rfl (by decide +kernel) ⟨Nat.le_of_ble_eq_true rfl, Nat.le_of_ble_eq_true rfl⟩) (my_at my_oX8 h32) rfl rfl rfl rfl (Nat.le_of_ble_eq_true rfl) ⟨Nat.zero_le _, Nat.zero_le _⟩ dX8_roundsTill_41 ?_
        refine mj_iconst (v := (0 : Int32)) X dX8_roundsTill_44 (by decide) ?_
        refine mj_istore (lo' := [(8, .int (0 : Int32)), (7, .int r33), (0, .ref (ad 0)), (1, .int p1), (2, .int p2), (3, .int p3), (4, .int p4), (5, .int p5), (6, .int m6)]) X dX8_roundsTill_45 (by decide) rfl ?_
        refine mj_sub [2, 3, 4, 5, 6, 7, 8, 0] rfl (wX8_roundsTill_L47 X out RET N p1 p2 p3 p4 p5 m6 _ (fun h38 hf => ?_) N h35 (0 : Int32) hf)
        refine mj_aload_n X dX8_roundsTill_79 0 rfl ?_
        refine mj_iload X dX8_roundsTill_80 4 rfl ?_
        refine mj_iload X dX8_roundsTill_82 5 rfl ?_
        obtain ⟨h39, r40, q41, hf⟩ := mm_c hf
        refine mj_callVi (As := [.int p4, .int p5]) (rest := []) X (kX8_isDown l D t1 t2 cI cZ ad N h38 p4 p5 h39 r40 q41) (cwV 2 X.2.2.2.2.1 gX8_roundsTill_X8_isDown rfl rfl rfl (by decide +kernel) ⟨Nat.le_of_ble_eq_true rfl, Nat.le_of_ble_eq_true rfl⟩) (my_at my_oX8 h38) rfl rfl rfl rfl (Nat.le_of_ble_eq_true rfl) ⟨Nat.zero_le _, Nat.zero_le _⟩ dX8_roundsTill_84 ?_
        refine mj_if_eq (tgt := 93) X dX8_roundsTill_87 (by decide) (fun c42 => ?_) (fun c42 => ?_)
        · have hf := mm_t c42 hf
          refine mj_iinc (k := 6) (v := (m6 + 1)) (lo' := [(6, .int (m6 + 1)), (0, .ref (ad 0)), (1, .int p1), (2, .int p2), (3, .int p3), (4, .int p4), (5, .int p5)]) X dX8_roundsTill_93 rfl rfl (by decide) rfl ?_
          refine mj_goto (tgt := 7) X dX8_roundsTill_96 (by decide) ?_
          exact mj_sub [1, 2, 3, 4, 5, 6, 0] rfl (ih h39 (m6 + 1) hf)
        · have hf := mm_f c42 hf
          refine mj_iload X dX8_roundsTill_90 6 rfl ?_
          exact RET h39 _ _ _ dX8_roundsTill_92 (Option.some.inj hf)
set_option maxHeartbeats 4000000 in
set_option maxRecDepth 100000 in
theorem kX8_roundsTill (l : Launch) (D : va_G) (t1 t2 : Nat) (cI : ClassId) (cZ : ClassId) (ad : Nat → Nat)  (N : Nat) (h : mm_M) (a0 : Int32) (a1 : Int32) (a2 : Int32) (a3 : Int32) (a4 : Int32) (h1 : mm_M) (r : Int32) (hf : fX8_roundsTill N h a0 a1 a2 a3 a4 = some (h1, r)) : mm_Ki l yX8_roundsTill wsX8_roundsTill rmX8_roundsTill D (my_ty cI cZ) t1 t2 (my_w cI cZ ad) [.ref (ad 0), .int a0, .int a1, .int a2, .int a3, .int a4] h r h1 := by
  refine mm_open_i [.ref (ad 0), .int a0, .int a1, .int a2, .int a3, .int a4] h r h1 RX8 (by decide) rfl rfl (Nat.le_of_ble_eq_true rfl) ?_
  intro p e s m below meth c A X hr hlocks
  have RET : ∀ (h : mm_M) (pc : Nat) (lo : List (Nat × Value)) (v : Int32), decode cX8_roundsTill pc = .ok (.ireturn, 1) → (h, v) = (h1, r) → mm_J p l e rmX8_roundsTill s m ([.ref (ad 0), .int a0, .int a1, .int a2, .int a3, .int a4] : List Value).toArray below meth c 0 0 (MQ below (va_Qi (fun (r' : Int32) (u : mm_M) => r' = r ∧ u = h1) (mm_Post D (my_w cI cZ ad) A) A) ([.ref (ad 0), .int a0, .int a1, .int a2, .int a3, .int a4] : List Value).toArray s 0 0 A) D (my_w cI cZ ad) A 9 h pc lo [.int v] := by
    intro h2 pc lo v hd he
    cases he
    exact mj_iret X hr rfl hlocks hd
  generalize hout : (h1, r) = out at hf RET
  unfold fX8_roundsTill at hf
  refine mj_lo (lo' := [(0, .ref (ad 0)), (1, .int a0), (2, .int a1), (3, .int a2), (4, .int a3), (5, .int a4)]) rfl ?_
  refine mj_aload_n X dX8_roundsTill_0 0 rfl ?_
  obtain ⟨h1, r2, q3, hf⟩ := mm_c hf
  refine mj_callVv (As := []) (rest := []) X (kX8_atFirst l D t1 t2 cI cZ ad N h h1 r2 q3) (cwV 0 X.2.2.2.2.1 gX8_roundsTill_X8_atFirst rfl rfl rfl (by decide +kernel) ⟨Nat.le_of_ble_eq_true rfl, Nat.le_of_ble_eq_true rfl⟩) (my_at my_oX8 h) rfl rfl rfl rfl (Nat.le_of_ble_eq_true rfl) ⟨Nat.zero_le _, Nat.zero_le _⟩ dX8_roundsTill_1 ?_
  refine mj_iconst (v := (1 : Int32)) X dX8_roundsTill_4 (by decide) ?_
  refine mj_istore (lo' := [(6, .int (1 : Int32)), (0, .ref (ad 0)), (1, .int a0), (2, .int a1), (3, .int a2), (4, .int a3), (5, .int a4)]) X dX8_roundsTill_5 (by decide) rfl ?_
  refine mj_sub [1, 2, 3, 4, 5, 6, 0] rfl (wX8_roundsTill_L7 X out RET N a0 a1 a2 a3 a4 _ (fun h43 hf => ?_) N h1 (1 : Int32) hf)
  refine mj_iconst (v := (-1 : Int32)) X dX8_roundsTill_99 (by decide) ?_
  exact RET h43 _ _ _ dX8_roundsTill_100 (Option.some.inj hf)
abbrev rmX8_downBy : Room := { frames := 4, cells := 0, slots := 0, locals := 90 }
theorem inwX8_downBy_X8 : ∀ w ∈ wsX80, w ∈ wsX8_downBy := by
  intro w hw
  have h9 : wsX80 = (wsX8_downBy.drop 62).take 29 := rfl
  rw [h9] at hw
  exact List.mem_of_mem_drop (List.mem_of_mem_take hw)
theorem lnX8_downBy_0 : Cond.fieldLink RX8 89 "RichestPaysModel" "people" "I" ∈ wsX8_downBy := List.mem_of_getElem? (i := 1) rfl
set_option maxHeartbeats 4000000 in
set_option maxRecDepth 100000 in
theorem wX8_downBy_L81 (X : mm_X p s m args c cX8_downBy RX8 wsX8_downBy 9 D (my_ty cI cZ) t1 t2 A) (out : mm_M × Int32) (RET : ∀ (h : mm_M) (pc : Nat) (lo : List (Nat × Value)) (v : Int32), decode cX8_downBy pc = .ok (.ireturn, 1) → (h, v) = out → mm_J p l e rmX8_downBy s m args below meth c 0 0 Q D (my_w cI cZ ad) A 9 h pc lo [.int v]) (N : Nat)  (p1 : Int32) (p2 : Int32) (p3 : Int32) (p5 : Int32) (p6 : Int32) (k : mm_M → Int32 → Option (mm_M × Int32)) (HK : ∀ (h : mm_M) (m4 : Int32), k h m4 = some out → mm_J p l e rmX8_downBy s m args below meth c 0 0 Q D (my_w cI cZ ad) A 9 h 144 [(0, .ref (ad 0)), (1, .int p1), (2, .int p2), (3, .int p3), (4, .int m4), (5, .int p5), (6, .int p6)] []) : ∀ (n : Nat) (h : mm_M) (m4 : Int32) (m7 : Int32), fX8_downBy_L81 N p1 p2 p3 p5 p6 k n h m4 m7 = some out → mm_J p l e rmX8_downBy s m args below meth c 0 0 Q D (my_w cI cZ ad) A 9 h 81 [(0, .ref (ad 0)), (1, .int p1), (2, .int p2), (3, .int p3), (4, .int m4), (5, .int p5), (6, .int p6), (7, .int m7)] [] := by
  intro n
  induction n with
  | zero =>
    intro h m4 m7 hf
    cases hf
  | succ n ih =>
    intro h m4 m7 hf
    rw [fX8_downBy_L81] at hf
    refine mj_iload X dX8_downBy_81 7 rfl ?_
    refine mj_iload_n X dX8_downBy_83 3 rfl ?_
    refine mj_icmp_ge (tgt := 144) X dX8_downBy_84 (by decide) (fun c23 => ?_) (fun c23 => ?_)
    · have hf := mm_t c23 hf
      exact mj_sub [0, 1, 2, 3, 4, 5, 6] rfl (HK h m4 hf)
    · have hf := mm_f c23 hf
      refine mj_aload_n X dX8_downBy_87 0 rfl ?_
      refine mj_iload X dX8_downBy_88 7 rfl ?_
      obtain ⟨h24, r25, q26, hf⟩ := mm_c hf
      refine mj_callVi (As := [.int m7]) (rest := []) X (kX8_parts l D t1 t2 cI cZ ad N h m7 h24 r25 q26) (cwV 1 X.2.2.2.2.1 gX8_downBy_X8_parts rfl rfl rfl (by decide +kernel) ⟨Nat.le_of_ble_eq_true rfl, Nat.le_of_ble_eq_true rfl⟩) (my_at my_oX8 h) rfl rfl rfl rfl (Nat.le_of_ble_eq_true rfl) ⟨Nat.zero_le _, Nat.zero_le _⟩ dX8_downBy_90 ?_
      refine mj_if_eq (tgt := 138) X dX8_downBy_93 (by decide) (fun c27 => ?_) (fun c27 => ?_)
      · have hf := mm_t c27 hf
        refine mj_iinc (k := 7) (v := (m7 + 1)) (lo' := [(7, .int (m7 + 1)), (0, .ref (ad 0)), (1, .int p1), (2, .int p2), (3, .int p3), (4, .int m4), (5, .int p5), (6, .int p6)]) X dX8_downBy_138 rfl rfl (by decide) rfl ?_
        refine mj_goto (tgt := 81) X dX8_downBy_141 (by decide) ?_
        exact mj_sub [1, 2, 3, 4, 5, 6, 7, 0] rfl (ih h24 m4 (m7 + 1) hf)
      · have hf := mm_f c27 hf
        refine mj_aload_n X dX8_downBy_96 0 rfl ?_
        refine mj_iload X dX8_downBy_97 5 rfl ?_
        refine mj_iload X dX8_downBy_99 6 rfl ?_
        refine mj_iload X dX8_downBy_101 7 rfl ?_
        refine mj_iload_n X dX8_downBy_103 1 rfl ?_
        refine mj_iload_n X dX8_downBy_104 2 rfl ?_
        obtain ⟨h28, r29, q30, hf⟩ := mm_c hf
        refine mj_callVi (As := [.int p5, .int p6, .int m7, .int p1, .int p2]) (rest := []) X (kX8_roundsTill l D t1 t2 cI cZ ad N h24 p5 p6 m7 p1 p2 h28 r29 q30) (cwV 5 X.2.2.2.2.1 gX8_downBy_X8_roundsTill rfl rfl rfl (by decide +kernel) ⟨Nat.le_of_ble_eq_true rfl, Nat.le_of_ble_eq_true rfl⟩) (my_at my_oX8 h24) rfl rfl rfl rfl (Nat.le_of_ble_eq_true rfl) ⟨Nat.zero_le _, Nat.zero_le _⟩ dX8_downBy_105 ?_
        refine mj_istore (lo' := [(8, .int r29), (0, .ref (ad 0)), (1, .int p1), (2, .int p2), (3, .int p3), (4, .int m4), (5, .int p5), (6, .int p6), (7, .int m7)]) X dX8_downBy_108 (by decide) rfl ?_
        refine mj_iload X dX8_downBy_110 0 rfl ?_
        refine mj_iconst (v := (-1 : Int32)) X dX8_downBy_112 (by decide) ?_
        refine mj_icmp_eq (tgt := 134) X dX8_downBy_113 (by decide) (fun c31 => ?_) (fun c31 => ?_)
        · have hf := mm_t c31 hf
          refine mj_iload X dX8_downBy_134 5 rfl ?_
          refine mj_istore (lo' := [(4, .int m4), (8, .int r29), (0, .ref (ad 0)), (1, .int p1), (2, .int p2), (3, .int p3), (5, .int p5), (6, .int p6), (7, .int m7)]) X dX8_downBy_136 (by decide) rfl ?_
          refine mj_iinc (k := 8) (v := (m7 + 1)) (lo' := [(7, .int (m7 + 1)), (4, .int m4), (8, .int r29), (0, .ref (ad 0)), (1, .int p1), (2, .int p2), (3, .int p3), (5, .int p5), (6, .int p6)]) X dX8_downBy_138 rfl rfl (by decide) rfl ?_
          refine mj_goto (tgt := 81) X dX8_downBy_141 (by decide) ?_
          exact mj_sub [3, 4, 5, 6, 1, 7, 8, 0] rfl (ih h28 m4 (m7 + 1) hf)
        · have hf := mm_f c31 hf
          refine mj_iload X dX8_downBy_116 5 rfl ?_
          refine mj_iconst (v := (-1 : Int32)) X dX8_downBy_118 (by decide) ?_
          refine mj_icmp_eq (tgt := 129) X dX8_downBy_119 (by decide) (fun c32 => ?_) (fun c32 => ?_)
          · have hf := mm_t c32 hf
            refine mj_iload X dX8_downBy_129 0 rfl ?_
            refine mj_goto (tgt := 136) X dX8_downBy_131 (by decide) ?_
            refine mj_istore (lo' := [(4, .int r29), (8, .int r29), (0, .ref (ad 0)), (1, .int p1), (2, .int p2), (3, .int p3), (5, .int p5), (6, .int p6), (7, .int m7)]) X dX8_downBy_136 (by decide) rfl ?_
            refine mj_iinc (k := 8) (v := (m7 + 1)) (lo' := [(7, .int (m7 + 1)), (4, .int r29), (8, .int r29), (0, .ref (ad 0)), (1, .int p1), (2, .int p2), (3, .int p3), (5, .int p5), (6, .int p6)]) X dX8_downBy_138 rfl rfl (by decide) rfl ?_
            refine mj_goto (tgt := 81) X dX8_downBy_141 (by decide) ?_
            exact mj_sub [3, 4, 5, 6, 1, 7, 8, 0] rfl (ih h28 r29 (m7 + 1) hf)
          · have hf := mm_f c32 hf
            refine mj_iload X dX8_downBy_122 0 rfl ?_
            refine mj_iload X dX8_downBy_124 5 rfl ?_
            refine mj_icmp_ge (tgt := 134) X dX8_downBy_126 (by decide) (fun c33 => ?_) (fun c33 => ?_)
            · have hf := mm_t c33 hf
              refine mj_iload X dX8_downBy_134 5 rfl ?_
              refine mj_istore (lo' := [(4, .int m4), (8, .int r29), (0, .ref (ad 0)), (1, .int p1), (2, .int p2), (3, .int p3), (5, .int p5), (6, .int p6), (7, .int m7)]) X dX8_downBy_136 (by decide) rfl ?_
              refine mj_iinc (k := 8) (v := (m7 + 1)) (lo' := [(7, .int (m7 + 1)), (4, .int m4), (8, .int r29), (0, .ref (ad 0)), (1, .int p1), (2, .int p2), (3, .int p3), (5, .int p5), (6, .int p6)]) X dX8_downBy_138 rfl rfl (by decide) rfl ?_
              refine mj_goto (tgt := 81) X dX8_downBy_141 (by decide) ?_
              exact mj_sub [3, 4, 5, 6, 1, 7, 8, 0] rfl (ih h28 m4 (m7 + 1) hf)
            · have hf := mm_f c33 hf
              refine mj_iload X dX8_downBy_129 0 rfl ?_
              refine mj_goto (tgt := 136) X dX8_downBy_131 (by decide) ?_
              refine mj_istore (lo' := [(4, .int r29), (8, .int r29), (0, .ref (ad 0)), (1, .int p1), (2, .int p2), (3, .int p3), (5, .int p5), (6, .int p6), (7, .int m7)]) X dX8_downBy_136 (by decide) rfl ?_
              refine mj_iinc (k := 8) (v := (m7 + 1)) (lo' := [(7, .int (m7 + 1)), (4, .int r29), (8, .int r29), (0, .ref (ad 0)), (1, .int p1), (2, .int p2), (3, .int p3), (5, .int p5), (6, .int p6)]) X dX8_downBy_138 rfl rfl (by decide) rfl ?_
              refine mj_goto (tgt := 81) X dX8_downBy_141 (by decide) ?_
              exact mj_sub [3, 4, 5, 6, 1, 7, 8, 0] rfl (ih h28 r29 (m7 + 1) hf)
set_option maxHeartbeats 4000000 in
set_option maxRecDepth 100000 in
theorem wX8_downBy_L63 (X : mm_X p s m args c cX8_downBy RX8 wsX8_downBy 9 D (my_ty cI cZ) t1 t2 A) (out : mm_M × Int32) (RET : ∀ (h : mm_M) (pc : Nat) (lo : List (Nat × Value)) (v : Int32), decode cX8_downBy pc = .ok (.ireturn, 1) → (h, v) = out → mm_J p l e rmX8_downBy s m args below meth c 0 0 Q D (my_w cI cZ ad) A 9 h pc lo [.int v]) (N : Nat)  (p1 : Int32) (p2 : Int32) (p3 : Int32) (p5 : Int32) (k : mm_M → Int32 → Option (mm_M × Int32)) (HK : ∀ (h : mm_M) (m4 : Int32), k h m4 = some out → mm_J p l e rmX8_downBy s m args below meth c 0 0 Q D (my_w cI cZ ad) A 9 h 150 [(0, .ref (ad 0)), (1, .int p1), (2, .int p2), (3, .int p3), (4, .int m4), (5, .int p5)] []) : ∀ (n : Nat) (h : mm_M) (m4 : Int32) (m6 : Int32), fX8_downBy_L63 N p1 p2 p3 p5 k n h m4 m6 = some out → mm_J p l e rmX8_downBy s m args below meth c 0 0 Q D (my_w cI cZ ad) A 9 h 63 [(0, .ref (ad 0)), (1, .int p1), (2, .int p2), (3, .int p3), (4, .int m4), (5, .int p5), (6, .int m6)] [] := by
  intro n
  induction n with
  | zero =>
    intro h m4 m6 hf
    cases hf
  | succ n ih =>
    intro h m4 m6 hf
    rw [fX8_downBy_L63] at hf
    refine mj_iload X dX8_downBy_63 6 rfl ?_
    refine mj_iload_n X dX8_downBy_65 3 rfl ?_
    refine mj_icmp_ge (tgt := 150) X dX8_downBy_66 (by decide) (fun c18 => ?_) (fun c18 => ?_)
    · have hf := mm_t c18 hf
      exact mj_sub [0, 1, 2, 3, 4, 5] rfl (HK h m4 hf)
    · have hf := mm_f c18 hf
      refine mj_aload_n X dX8_downBy_69 0 rfl ?_
      refine mj_iload X dX8_downBy_70 6 rfl ?_
      obtain ⟨h19, r20, q21, hf⟩ := mm_c hf
      refine mj_callVi (As := [.int m6]) (rest := []) X (kX8_parts l D t1 t2 cI cZ ad N h m6 h19 r20 q21) (cwV 1 X.2.2.2.2.1 gX8_downBy_X8_parts rfl rfl rfl (by decide +kernel) ⟨Nat.le_of_ble_eq_true rfl, Nat.le_of_ble_eq_true rfl⟩) (my_at my_oX8 h) rfl rfl rfl rfl (Nat.le_of_ble_eq_true rfl) ⟨Nat.zero_le _, Nat.zero_le _⟩ dX8_downBy_72 ?_
      refine mj_if_eq (tgt := 144) X dX8_downBy_75 (by decide) (fun c22 => ?_) (fun c22 => ?_)
      · have hf := mm_t c22 hf
        refine mj_iinc (k := 6) (v := (m6 + 1)) (lo' := [(6, .int (m6 + 1)), (0, .ref (ad 0)), (1, .int p1), (2, .int p2), (3, .int p3), (4, .int m4), (5, .int p5)]) X dX8_downBy_144 rfl rfl (by decide) rfl ?_
        refine mj_goto (tgt := 63) X dX8_downBy_147 (by decide) ?_
        exact mj_sub [1, 2, 3, 4, 5, 6, 0] rfl (ih h19 m4 (m6 + 1) hf)
      · have hf := mm_f c22 hf
        refine mj_iconst (v := (0 : Int32)) X dX8_downBy_78 (by decide) ?_
        refine mj_istore (lo' := [(7, .int (0 : Int32)), (0, .ref (ad 0)), (1, .int p1), (2, .int p2), (3, .int p3), (4, .int m4), (5, .int p5), (6, .int m6)]) X dX8_downBy_79 (by decide) rfl ?_
        refine mj_sub [1, 2, 3, 4, 5, 6, 7, 0] rfl (wX8_downBy_L81 X out RET N p1 p2 p3 p5 m6 _ (fun h34 v35 hf => ?_) N h19 m4 (0 : Int32) hf)
        refine mj_iinc (k := 6) (v := (m6 + 1)) (lo' := [(6, .int (m6 + 1)), (0, .ref (ad 0)), (1, .int p1), (2, .int p2), (3, .int p3), (4, .int v35), (5, .int p5)]) X dX8_downBy_144 rfl rfl (by decide) rfl ?_
        refine mj_goto (tgt := 63) X dX8_downBy_147 (by decide) ?_
        exact mj_sub [1, 2, 3, 4, 5, 6, 0] rfl (ih h34 v35 (m6 + 1) hf)
set_option maxHeartbeats 4000000 in
set_option maxRecDepth 100000 in
theorem wX8_downBy_L45 (X : mm_X p s m args c cX8_downBy RX8 wsX8_downBy 9 D (my_ty cI cZ) t1 t2 A) (out : mm_M × Int32) (RET : ∀ (h : mm_M) (pc : Nat) (lo : List (Nat × Value)) (v : Int32), decode cX8_downBy pc = .ok (.ireturn, 1) → (h, v) = out → mm_J p l e rmX8_downBy s m args below meth c 0 0 Q D (my_w cI cZ ad) A 9 h pc lo [.int v]) (N : Nat)  (p1 : Int32) (p2 : Int32) (p3 : Int32) (k : mm_M → Int32 → Option (mm_M × Int32)) (HK : ∀ (h : mm_M) (m4 : Int32), k h m4 = some out → mm_J p l e rmX8_downBy s m args below meth c 0 0 Q D (my_w cI cZ ad) A 9 h 156 [(4, .int m4)] []) : ∀ (n : Nat) (h : mm_M) (m4 : Int32) (m5 : Int32), fX8_downBy_L45 N p1 p2 p3 k n h m4 m5 = some out → mm_J p l e rmX8_downBy s m args below meth c 0 0 Q D (my_w cI cZ ad) A 9 h 45 [(0, .ref (ad 0)), (1, .int p1), (2, .int p2), (3, .int p3), (4, .int m4), (5, .int m5)] [] := by
  intro n
  induction n with
  | zero =>
    intro h m4 m5 hf
    cases hf
  | succ n ih =>
    intro h m4 m5 hf
    rw [fX8_downBy_L45] at hf
    refine mj_iload X dX8_downBy_45 5 rfl ?_
    refine mj_iload_n X dX8_downBy_47 3 rfl ?_
    refine mj_icmp_ge (tgt := 156) X dX8_downBy_48 (by decide) (fun c13 => ?_) (fun c13 => ?_)
    · have hf := mm_t c13 hf
      exact mj_sub [4] rfl (HK h m4 hf)
    · have hf := mm_f c13 hf
      refine mj_aload_n X dX8_downBy_51 0 rfl ?_
      refine mj_iload X dX8_downBy_52 5 rfl ?_
      obtain ⟨h14, r15, q16, hf⟩ := mm_c hf
      refine mj_callVi (As := [.int m5]) (rest := []) X (kX8_parts l D t1 t2 cI cZ ad N h m5 h14 r15 q16) (cwV 1 X.2.2.2.2.1 gX8_downBy_X8_parts rfl rfl rfl (by decide +kernel) ⟨Nat.le_of_ble_eq_true rfl, Nat.le_of_ble_eq_true rfl⟩) (my_at my_oX8 h) rfl rfl rfl rfl (Nat.le_of_ble_eq_true rfl) ⟨Nat.zero_le _, Nat.zero_le _⟩ dX8_downBy_54 ?_
      refine mj_if_eq (tgt := 150) X dX8_downBy_57 (by decide) (fun c17 => ?_) (fun c17 => ?_)
      · have hf := mm_t c17 hf
        refine mj_iinc (k := 5) (v := (m5 + 1)) (lo' := [(5, .int (m5 + 1)), (0, .ref (ad 0)), (1, .int p1), (2, .int p2), (3, .int p3), (4, .int m4)]) X dX8_downBy_150 rfl rfl (by decide) rfl ?_
        refine mj_goto (tgt := 45) X dX8_downBy_153 (by decide) ?_
        exact mj_sub [1, 2, 3, 4, 5, 0] rfl (ih h14 m4 (m5 + 1) hf)
      · have hf := mm_f c17 hf
        refine mj_iconst (v := (0 : Int32)) X dX8_downBy_60 (by decide) ?_
        refine mj_istore (lo' := [(6, .int (0 : Int32)), (0, .ref (ad 0)), (1, .int p1), (2, .int p2), (3, .int p3), (4, .int m4), (5, .int m5)]) X dX8_downBy_61 (by decide) rfl ?_
        refine mj_sub [1, 2, 3, 4, 5, 6, 0] rfl (wX8_downBy_L63 X out RET N p1 p2 p3 m5 _ (fun h36 v37 hf => ?_) N h14 m4 (0 : Int32) hf)
        refine mj_iinc (k := 5) (v := (m5 + 1)) (lo' := [(5, .int (m5 + 1)), (0, .ref (ad 0)), (1, .int p1), (2, .int p2), (3, .int p3), (4, .int v37)]) X dX8_downBy_150 rfl rfl (by decide) rfl ?_
        refine mj_goto (tgt := 45) X dX8_downBy_153 (by decide) ?_
        exact mj_sub [1, 2, 3, 4, 5, 0] rfl (ih h36 v37 (m5 + 1) hf)
set_option maxHeartbeats 4000000 in
set_option maxRecDepth 100000 in
theorem kX8_downBy (l : Launch) (D : va_G) (t1 t2 : Nat) (cI : ClassId) (cZ : ClassId) (ad : Nat → Nat)  (N : Nat) (h : mm_M) (a0 : Int32) (a1 : Int32) (h1 : mm_M) (r : Int32) (hf : fX8_downBy N h a0 a1 = some (h1, r)) : mm_Ki l yX8_downBy wsX8_downBy rmX8_downBy D (my_ty cI cZ) t1 t2 (my_w cI cZ ad) [.ref (ad 0), .int a0, .int a1] h r h1 := by
  refine mm_open_i [.ref (ad 0), .int a0, .int a1] h r h1 RX8 (by decide) rfl rfl (Nat.le_of_ble_eq_true rfl) ?_
  intro p e s m below meth c A X hr hlocks
  have RET : ∀ (h : mm_M) (pc : Nat) (lo : List (Nat × Value)) (v : Int32), decode cX8_downBy pc = .ok (.ireturn, 1) → (h, v) = (h1, r) → mm_J p l e rmX8_downBy s m ([.ref (ad 0), .int a0, .int a1] : List Value).toArray below meth c 0 0 (MQ below (va_Qi (fun (r' : Int32) (u : mm_M) => r' = r ∧ u = h1) (mm_Post D (my_w cI cZ ad) A) A) ([.ref (ad 0), .int a0, .int a1] : List Value).toArray s 0 0 A) D (my_w cI cZ ad) A 9 h pc lo [.int v] := by
    intro h2 pc lo v hd he
    cases he
    exact mj_iret X hr rfl hlocks hd
  generalize hout : (h1, r) = out at hf RET
  unfold fX8_downBy at hf
  refine mj_lo (lo' := [(0, .ref (ad 0)), (1, .int a0), (2, .int a1)]) rfl ?_
  refine mj_aload_n X dX8_downBy_0 0 rfl ?_
  obtain ⟨h1, r2, q3, hf⟩ := mm_c hf
  refine mj_callVv (As := []) (rest := []) X (kX8_reads l D t1 t2 cI cZ ad N h h1 r2 q3) (cwV 0 X.2.2.2.2.1 gX8_downBy_X8_reads rfl rfl rfl (by decide +kernel) ⟨Nat.le_of_ble_eq_true rfl, Nat.le_of_ble_eq_true rfl⟩) (my_at my_oX8 h) rfl rfl rfl rfl (Nat.le_of_ble_eq_true rfl) ⟨Nat.zero_le _, Nat.zero_le _⟩ dX8_downBy_1 ?_
  refine mj_aload_n X dX8_downBy_4 0 rfl ?_
  refine mj_get X inwX8_downBy_X8 (my_at my_oX8 h1) rfl 2 (by decide) rfl lnX8_downBy_0 rfl dX8_downBy_5 ?_
  refine mj_iconst (v := (4 : Int32)) X dX8_downBy_8 (by decide) ?_
  refine mj_icmp_le (tgt := 15) X dX8_downBy_9 (by decide) (fun c4 => ?_) (fun c4 => ?_)
  · have hf := mm_t c4 hf
    refine mj_aload_n X dX8_downBy_15 0 rfl ?_
    obtain ⟨h5, r6, q7, hf⟩ := mm_c hf
    refine mj_callVv (As := []) (rest := []) X (kX8_atFirst l D t1 t2 cI cZ ad N h1 h5 r6 q7) (cwV 0 X.2.2.2.2.1 gX8_downBy_X8_atFirst rfl rfl rfl (by decide +kernel) ⟨Nat.le_of_ble_eq_true rfl, Nat.le_of_ble_eq_true rfl⟩) (my_at my_oX8 h1) rfl rfl rfl rfl (Nat.le_of_ble_eq_true rfl) ⟨Nat.zero_le _, Nat.zero_le _⟩ dX8_downBy_16 ?_
    refine mj_aload_n X dX8_downBy_19 0 rfl ?_
    refine mj_iload_n X dX8_downBy_20 1 rfl ?_
    refine mj_iload_n X dX8_downBy_21 2 rfl ?_
    obtain ⟨h8, r9, q10, hf⟩ := mm_c hf
    refine mj_callVi (As := [.int a0, .int a1]) (rest := []) X (kX8_isDown l D t1 t2 cI cZ ad N h5 a0 a1 h8 r9 q10) (cwV 2 X.2.2.2.2.1 gX8_downBy_X8_isDown rfl rfl rfl (by decide +kernel) ⟨Nat.le_of_ble_eq_true rfl, Nat.le_of_ble_eq_true rfl⟩) (my_at my_oX8 h5) rfl rfl rfl rfl (Nat.le_of_ble_eq_true rfl) ⟨Nat.zero_le _, Nat.zero_le _⟩ dX8_downBy_22 ?_
    refine mj_if_eq (tgt := 30) X dX8_downBy_25 (by decide) (fun c11 => ?_) (fun c11 => ?_)
    · have hf := mm_t c11 hf
      refine mj_iconst (v := (1 : Int32)) X dX8_downBy_30 (by decide) ?_
      refine mj_iconst (v := (2 : Int32)) X dX8_downBy_31 (by decide) ?_
      refine mj_aload_n X dX8_downBy_32 0 rfl ?_
      refine mj_get X inwX8_downBy_X8 (my_at my_oX8 h8) rfl 2 (by decide) rfl lnX8_downBy_0 rfl dX8_downBy_33 ?_
      refine mj_imul X dX8_downBy_36 ?_
      refine mj_ishl X dX8_downBy_37 ?_
      obtain ⟨x12, ex12, hf⟩ := mm_l hf
      refine mj_topi ex12 ?_
      refine mj_istore_n (lo' := [(3, .int x12), (0, .ref (ad 0)), (1, .int a0), (2, .int a1)]) X dX8_downBy_38 (by decide) rfl ?_
      refine mj_iconst (v := (-1 : Int32)) X dX8_downBy_39 (by decide) ?_
      refine mj_istore (lo' := [(4, .int (-1 : Int32)), (3, .int x12), (0, .ref (ad 0)), (1, .int a0), (2, .int a1)]) X dX8_downBy_40 (by decide) rfl ?_
      refine mj_iconst (v := (0 : Int32)) X dX8_downBy_42 (by decide) ?_
      refine mj_istore (lo' := [(5, .int (0 : Int32)), (4, .int (-1 : Int32)), (3, .int x12), (0, .ref (ad 0)), (1, .int a0), (2, .int a1)]) X dX8_downBy_43 (by decide) rfl ?_
      refine mj_sub [3, 4, 5, 2, 1, 0] rfl (wX8_downBy_L45 X out RET N a0 a1 x12 _ (fun h38 v39 hf => ?_) N h8 (-1 : Int32) (0 : Int32) hf)
      refine mj_iload X dX8_downBy_156 0 rfl ?_
      exact RET h38 _ _ _ dX8_downBy_158 (Option.some.inj hf)
    · have hf := mm_f c11 hf
      refine mj_iconst (v := (0 : Int32)) X dX8_downBy_28 (by decide) ?_
      exact RET h8 _ _ _ dX8_downBy_29 (Option.some.inj hf)
  · have hf := mm_f c4 hf
    refine mj_bipush (v := (-4 : Int32)) X dX8_downBy_12 (by decide) ?_
    exact RET h1 _ _ _ dX8_downBy_14 (Option.some.inj hf)
abbrev rmX8_down : Room := { frames := 5, cells := 0, slots := 0, locals := 118 }
set_option maxHeartbeats 4000000 in
set_option maxRecDepth 100000 in
theorem kX8_down (l : Launch) (D : va_G) (t1 t2 : Nat) (cI : ClassId) (cZ : ClassId) (ad : Nat → Nat)  (N : Nat) (h : mm_M) (a0 : Int32) (a1 : Int32) (h1 : mm_M) (r : Int32) (hf : fX8_down N h a0 a1 = some (h1, r)) : mm_Ki l yX8_down wsX8_down rmX8_down D (my_ty cI cZ) t1 t2 (my_w cI cZ ad) [.ref (ad 0), .int a0, .int a1] h r h1 := by
  refine mm_open_i [.ref (ad 0), .int a0, .int a1] h r h1 RX8 (by decide) rfl rfl (Nat.le_of_ble_eq_true rfl) ?_
  intro p e s m below meth c A X hr hlocks
  have RET : ∀ (h : mm_M) (pc : Nat) (lo : List (Nat × Value)) (v : Int32), decode cX8_down pc = .ok (.ireturn, 1) → (h, v) = (h1, r) → mm_J p l e rmX8_down s m ([.ref (ad 0), .int a0, .int a1] : List Value).toArray below meth c 0 0 (MQ below (va_Qi (fun (r' : Int32) (u : mm_M) => r' = r ∧ u = h1) (mm_Post D (my_w cI cZ ad) A) A) ([.ref (ad 0), .int a0, .int a1] : List Value).toArray s 0 0 A) D (my_w cI cZ ad) A 3 h pc lo [.int v] := by
    intro h2 pc lo v hd he
    cases he
    exact mj_iret X hr rfl hlocks hd
  generalize hout : (h1, r) = out at hf RET
  unfold fX8_down at hf
  refine mj_lo (lo' := [(0, .ref (ad 0)), (1, .int a0), (2, .int a1)]) rfl ?_
  refine mj_aload_n X dX8_down_0 0 rfl ?_
  refine mj_iload_n X dX8_down_1 1 rfl ?_
  obtain ⟨h1, r2, q3, hf⟩ := mm_c hf
  refine mj_callVi (As := [.int a0]) (rest := []) X (kX8_isPerson l D t1 t2 cI cZ ad N h a0 h1 r2 q3) (cwV 1 X.2.2.2.2.1 gX8_down_X8_isPerson rfl rfl rfl (by decide +kernel) ⟨Nat.le_of_ble_eq_true rfl, Nat.le_of_ble_eq_true rfl⟩) (my_at my_oX8 h) rfl rfl rfl rfl (Nat.le_of_ble_eq_true rfl) ⟨Nat.zero_le _, Nat.zero_le _⟩ dX8_down_2 ?_
  refine mj_if_eq (tgt := 27) X dX8_down_5 (by decide) (fun c4 => ?_) (fun c4 => ?_)
  · have hf := mm_t c4 hf
    refine mj_bipush (v := (-2 : Int32)) X dX8_down_27 (by decide) ?_
    exact RET h1 _ _ _ dX8_down_29 (Option.some.inj hf)
  · have hf := mm_f c4 hf
    refine mj_iload_n X dX8_down_8 2 rfl ?_
    refine mj_iconst (v := (0 : Int32)) X dX8_down_9 (by decide) ?_
    refine mj_bipush (v := (99 : Int32)) X dX8_down_10 (by decide) ?_
    obtain ⟨h5, r6, q7, hf⟩ := mm_c hf
    refine mj_callSi (As := [.int a1, .int (0 : Int32), .int (99 : Int32)]) (rest := []) X (kX8_in l D t1 t2 cI cZ ad N h1 a1 (0 : Int32) (99 : Int32) h5 r6 q7) (va_cwS 3 X.2.2.2.2.1 gX8_down_X8_in rfl rfl rfl (by decide +kernel) ⟨Nat.le_of_ble_eq_true rfl, Nat.le_of_ble_eq_true rfl⟩) rfl rfl (Nat.le_of_ble_eq_true rfl) ⟨Nat.zero_le _, Nat.zero_le _⟩ dX8_down_12 ?_
    refine mj_if_eq (tgt := 27) X dX8_down_15 (by decide) (fun c8 => ?_) (fun c8 => ?_)
    · have hf := mm_t c8 hf
      refine mj_bipush (v := (-2 : Int32)) X dX8_down_27 (by decide) ?_
      exact RET h5 _ _ _ dX8_down_29 (Option.some.inj hf)
    · have hf := mm_f c8 hf
      refine mj_aload_n X dX8_down_18 0 rfl ?_
      refine mj_iload_n X dX8_down_19 1 rfl ?_
      refine mj_iload_n X dX8_down_20 2 rfl ?_
      obtain ⟨h9, r10, q11, hf⟩ := mm_c hf
      refine mj_callVi (As := [.int a0, .int a1]) (rest := []) X (kX8_downBy l D t1 t2 cI cZ ad N h5 a0 a1 h9 r10 q11) (cwV 2 X.2.2.2.2.1 gX8_down_X8_downBy rfl rfl rfl (by decide +kernel) ⟨Nat.le_of_ble_eq_true rfl, Nat.le_of_ble_eq_true rfl⟩) (my_at my_oX8 h5) rfl rfl rfl rfl (Nat.le_of_ble_eq_true rfl) ⟨Nat.zero_le _, Nat.zero_le _⟩ dX8_down_21 ?_
      refine mj_goto (tgt := 29) X dX8_down_24 (by decide) ?_
      exact RET h9 _ _ _ dX8_down_29 (Option.some.inj hf)
abbrev rmX8_alike : Room := { frames := 5, cells := 0, slots := 0, locals := 118 }
set_option maxHeartbeats 4000000 in
set_option maxRecDepth 100000 in
theorem kX8_alike (l : Launch) (D : va_G) (t1 t2 : Nat) (cI : ClassId) (cZ : ClassId) (ad : Nat → Nat)  (N : Nat) (h : mm_M)  (h1 : mm_M) (r : Int32) (hf : fX8_alike N h = some (h1, r)) : mm_Ki l yX8_alike wsX8_alike rmX8_alike D (my_ty cI cZ) t1 t2 (my_w cI cZ ad) [.ref (ad 0)] h r h1 := by
  refine mm_open_i [.ref (ad 0)] h r h1 RX8 (by decide) rfl rfl (Nat.le_of_ble_eq_true rfl) ?_
  intro p e s m below meth c A X hr hlocks
  have RET : ∀ (h : mm_M) (pc : Nat) (lo : List (Nat × Value)) (v : Int32), decode cX8_alike pc = .ok (.ireturn, 1) → (h, v) = (h1, r) → mm_J p l e rmX8_alike s m ([.ref (ad 0)] : List Value).toArray below meth c 0 0 (MQ below (va_Qi (fun (r' : Int32) (u : mm_M) => r' = r ∧ u = h1) (mm_Post D (my_w cI cZ ad) A) A) ([.ref (ad 0)] : List Value).toArray s 0 0 A) D (my_w cI cZ ad) A 1 h pc lo [.int v] := by
    intro h2 pc lo v hd he
    cases he
    exact mj_iret X hr rfl hlocks hd
  generalize hout : (h1, r) = out at hf RET
  unfold fX8_alike at hf
  refine mj_lo (lo' := [(0, .ref (ad 0))]) rfl ?_
  refine mj_aload_n X dX8_alike_0 0 rfl ?_
  refine mj_iconst (v := (-1 : Int32)) X dX8_alike_1 (by decide) ?_
  refine mj_iconst (v := (0 : Int32)) X dX8_alike_2 (by decide) ?_
  obtain ⟨h1, r2, q3, hf⟩ := mm_c hf
  refine mj_callVi (As := [.int (-1 : Int32), .int (0 : Int32)]) (rest := []) X (kX8_downBy l D t1 t2 cI cZ ad N h (-1 : Int32) (0 : Int32) h1 r2 q3) (cwV 2 X.2.2.2.2.1 gX8_alike_X8_downBy rfl rfl rfl (by decide +kernel) ⟨Nat.le_of_ble_eq_true rfl, Nat.le_of_ble_eq_true rfl⟩) (my_at my_oX8 h) rfl rfl rfl rfl (Nat.le_of_ble_eq_true rfl) ⟨Nat.zero_le _, Nat.zero_le _⟩ dX8_alike_3 ?_
  exact RET h1 _ _ _ dX8_alike_6 (Option.some.inj hf)
abbrev rmX8_darkOf : Room := { frames := 2, cells := 0, slots := 0, locals := 50 }
theorem inwX8_darkOf_X8 : ∀ w ∈ wsX80, w ∈ wsX8_darkOf := by
  intro w hw
  have h9 : wsX80 = (wsX8_darkOf.drop 28).take 29 := rfl
  rw [h9] at hw
  exact List.mem_of_mem_drop (List.mem_of_mem_take hw)
theorem lnX8_darkOf_0 : Cond.fieldLink RX8 37 "RichestPaysModel" "seat" "[I" ∈ wsX8_darkOf := List.mem_of_getElem? (i := 1) rfl
theorem lnX8_darkOf_1 : Cond.fieldLink RX8 40 "RichestPaysModel" "pays" "[I" ∈ wsX8_darkOf := List.mem_of_getElem? (i := 2) rfl
theorem lnX8_darkOf_2 : Cond.fieldLink RX8 34 "RichestPaysModel" "hand" "[I" ∈ wsX8_darkOf := List.mem_of_getElem? (i := 3) rfl
set_option maxHeartbeats 4000000 in
set_option maxRecDepth 100000 in
theorem wX8_darkOf_L60 (X : mm_X p s m args c cX8_darkOf RX8 wsX8_darkOf 7 D (my_ty cI cZ) t1 t2 A) (out : mm_M × Int32) (RET : ∀ (h : mm_M) (pc : Nat) (lo : List (Nat × Value)) (v : Int32), decode cX8_darkOf pc = .ok (.ireturn, 1) → (h, v) = out → mm_J p l e rmX8_darkOf s m args below meth c 0 0 Q D (my_w cI cZ ad) A 7 h pc lo [.int v]) (N : Nat)  (p2 : Int32) (p3 : Int32) (p4 : Int32) (p5 : Int32) (k : mm_M → Option (mm_M × Int32)) (HK : ∀ (h : mm_M), k h = some out → mm_J p l e rmX8_darkOf s m args below meth c 0 0 Q D (my_w cI cZ ad) A 7 h 111 [] []) : ∀ (n : Nat) (h : mm_M) (m6 : Int32), fX8_darkOf_L60 N p2 p3 p4 p5 k n h m6 = some out → mm_J p l e rmX8_darkOf s m args below meth c 0 0 Q D (my_w cI cZ ad) A 7 h 60 [(0, .ref (ad 0)), (2, .int p2), (3, .int p3), (4, .int p4), (5, .int p5), (6, .int m6)] [] := by
  intro n
  induction n with
  | zero =>
    intro h m6 hf
    cases hf
  | succ n ih =>
    intro h m6 hf
    rw [fX8_darkOf_L60] at hf
    refine mj_iload X dX8_darkOf_60 5 rfl ?_
    refine mj_iload X dX8_darkOf_62 4 rfl ?_
    refine mj_icmp_gt (tgt := 111) X dX8_darkOf_64 (by decide) (fun c16 => ?_) (fun c16 => ?_)
    · have hf := mm_t c16 hf
      exact mj_sub [] rfl (HK h hf)
    · have hf := mm_f c16 hf
      refine mj_aload_n X dX8_darkOf_67 0 rfl ?_
      refine mj_get X inwX8_darkOf_X8 (my_at my_oX8 h) rfl 10 (by decide) rfl lnX8_darkOf_2 rfl dX8_darkOf_68 ?_
      refine mj_iload_n X dX8_darkOf_71 1 rfl ?_
      refine mj_dup2 X dX8_darkOf_72 rfl rfl ?_
      obtain ⟨g17, hf⟩ := mm_g hf
      refine mj_iald X 0 (my_at my_a9 h) rfl g17 dX8_darkOf_73 ?_
      refine mj_iconst (v := (1 : Int32)) X dX8_darkOf_74 (by decide) ?_
      refine mj_isub X dX8_darkOf_75 ?_
      obtain ⟨h18, eh18, hf⟩ := mm_l hf
      refine mj_iast X 0 (my_at my_a9 h) rfl g17 (my_ast my_a9 eh18) dX8_darkOf_76 ?_
      refine mj_aload_n X dX8_darkOf_77 0 rfl ?_
      refine mj_get X inwX8_darkOf_X8 (my_at my_oX8 h18) rfl 10 (by decide) rfl lnX8_darkOf_2 rfl dX8_darkOf_78 ?_
      refine mj_iload_n X dX8_darkOf_81 2 rfl ?_
      refine mj_dup2 X dX8_darkOf_82 rfl rfl ?_
      obtain ⟨g19, hf⟩ := mm_g hf
      refine mj_iald X 0 (my_at my_a9 h18) rfl g19 dX8_darkOf_83 ?_
      refine mj_iconst (v := (1 : Int32)) X dX8_darkOf_84 (by decide) ?_
      refine mj_iadd X dX8_darkOf_85 ?_
      obtain ⟨h20, eh20, hf⟩ := mm_l hf
      refine mj_iast X 0 (my_at my_a9 h18) rfl g19 (my_ast my_a9 eh20) dX8_darkOf_86 ?_
      refine mj_aload_n X dX8_darkOf_87 0 rfl ?_
      obtain ⟨h21, r22, q23, hf⟩ := mm_c hf
      refine mj_callVv (As := []) (rest := []) X (kX8_bills l D t1 t2 cI cZ ad N h20 h21 r22 q23) (cwV 0 X.2.2.2.2.1 gX8_darkOf_X8_bills rfl rfl rfl (by decide +kernel) ⟨Nat.le_of_ble_eq_true rfl, Nat.le_of_ble_eq_true rfl⟩) (my_at my_oX8 h20) rfl rfl rfl rfl (Nat.le_of_ble_eq_true rfl) ⟨Nat.zero_le _, Nat.zero_le _⟩ dX8_darkOf_88 ?_
      refine mj_aload_n X dX8_darkOf_91 0 rfl ?_
      refine mj_get X inwX8_darkOf_X8 (my_at my_oX8 h21) rfl 12 (by decide) rfl lnX8_darkOf_1 rfl dX8_darkOf_92 ?_
      refine mj_iload_n X dX8_darkOf_95 1 rfl ?_
      refine mj_iald X 0 (my_at my_a11 h21) rfl g17 dX8_darkOf_96 ?_
      refine mj_iload X dX8_darkOf_97 3 rfl ?_
      refine mj_icmp_ge (tgt := 105) X dX8_darkOf_99 (by decide) (fun c24 => ?_) (fun c24 => ?_)
      · have hf := mm_t c24 hf
        refine mj_iinc (k := 5) (v := (m6 + 1)) (lo' := [(6, .int (m6 + 1)), (0, .ref (ad 0)), (2, .int p2), (3, .int p3), (4, .int p4), (5, .int p5)]) X dX8_darkOf_105 rfl rfl (by decide) rfl ?_
        refine mj_goto (tgt := 60) X dX8_darkOf_108 (by decide) ?_
        exact mj_sub [1, 2, 3, 4, 5, 0] rfl (ih h21 (m6 + 1) hf)
      · have hf := mm_f c24 hf
        refine mj_iload X dX8_darkOf_102 5 rfl ?_
        exact RET h21 _ _ _ dX8_darkOf_104 (Option.some.inj hf)
set_option maxHeartbeats 4000000 in
set_option maxRecDepth 100000 in
theorem kX8_darkOf (l : Launch) (D : va_G) (t1 t2 : Nat) (cI : ClassId) (cZ : ClassId) (ad : Nat → Nat)  (N : Nat) (h : mm_M) (a0 : Int32) (a1 : Int32) (a2 : Int32) (h1 : mm_M) (r : Int32) (hf : fX8_darkOf N h a0 a1 a2 = some (h1, r)) : mm_Ki l yX8_darkOf wsX8_darkOf rmX8_darkOf D (my_ty cI cZ) t1 t2 (my_w cI cZ ad) [.ref (ad 0), .int a0, .int a1, .int a2] h r h1 := by
  refine mm_open_i [.ref (ad 0), .int a0, .int a1, .int a2] h r h1 RX8 (by decide) rfl rfl (Nat.le_of_ble_eq_true rfl) ?_
  intro p e s m below meth c A X hr hlocks
  have RET : ∀ (h : mm_M) (pc : Nat) (lo : List (Nat × Value)) (v : Int32), decode cX8_darkOf pc = .ok (.ireturn, 1) → (h, v) = (h1, r) → mm_J p l e rmX8_darkOf s m ([.ref (ad 0), .int a0, .int a1, .int a2] : List Value).toArray below meth c 0 0 (MQ below (va_Qi (fun (r' : Int32) (u : mm_M) => r' = r ∧ u = h1) (mm_Post D (my_w cI cZ ad) A) A) ([.ref (ad 0), .int a0, .int a1, .int a2] : List Value).toArray s 0 0 A) D (my_w cI cZ ad) A 7 h pc lo [.int v] := by
    intro h2 pc lo v hd he
    cases he
    exact mj_iret X hr rfl hlocks hd
  generalize hout : (h1, r) = out at hf RET
  unfold fX8_darkOf at hf
  refine mj_lo (lo' := [(0, .ref (ad 0)), (1, .int a0), (2, .int a1), (3, .int a2)]) rfl ?_
  refine mj_aload_n X dX8_darkOf_0 0 rfl ?_
  obtain ⟨h1, r2, q3, hf⟩ := mm_c hf
  refine mj_callVv (As := []) (rest := []) X (kX8_atFirst l D t1 t2 cI cZ ad N h h1 r2 q3) (cwV 0 X.2.2.2.2.1 gX8_darkOf_X8_atFirst rfl rfl rfl (by decide +kernel) ⟨Nat.le_of_ble_eq_true rfl, Nat.le_of_ble_eq_true rfl⟩) (my_at my_oX8 h) rfl rfl rfl rfl (Nat.le_of_ble_eq_true rfl) ⟨Nat.zero_le _, Nat.zero_le _⟩ dX8_darkOf_1 ?_
  refine mj_aload_n X dX8_darkOf_4 0 rfl ?_
  refine mj_iload_n X dX8_darkOf_5 1 rfl ?_
  obtain ⟨h4, r5, q6, hf⟩ := mm_c hf
  refine mj_callVv (As := [.int a0]) (rest := []) X (kX8_sitAsTold l D t1 t2 cI cZ ad N h1 a0 h4 r5 q6) (cwV 1 X.2.2.2.2.1 gX8_darkOf_X8_sitAsTold rfl rfl rfl (by decide +kernel) ⟨Nat.le_of_ble_eq_true rfl, Nat.le_of_ble_eq_true rfl⟩) (my_at my_oX8 h1) rfl rfl rfl rfl (Nat.le_of_ble_eq_true rfl) ⟨Nat.zero_le _, Nat.zero_le _⟩ dX8_darkOf_6 ?_
  refine mj_aload_n X dX8_darkOf_9 0 rfl ?_
  refine mj_get X inwX8_darkOf_X8 (my_at my_oX8 h4) rfl 11 (by decide) rfl lnX8_darkOf_0 rfl dX8_darkOf_10 ?_
  refine mj_iload_n X dX8_darkOf_13 2 rfl ?_
  obtain ⟨g7, hf⟩ := mm_g hf
  refine mj_iald X 0 (my_at my_a10 h4) rfl g7 dX8_darkOf_14 ?_
  refine mj_iconst (v := (-1 : Int32)) X dX8_darkOf_15 (by decide) ?_
  refine mj_icmp_eq (tgt := 34) X dX8_darkOf_16 (by decide) (fun c8 => ?_) (fun c8 => ?_)
  · have hf := mm_t c8 hf
    refine mj_bipush (v := (-3 : Int32)) X dX8_darkOf_34 (by decide) ?_
    exact RET h4 _ _ _ dX8_darkOf_36 (Option.some.inj hf)
  · have hf := mm_f c8 hf
    refine mj_aload_n X dX8_darkOf_19 0 rfl ?_
    refine mj_get X inwX8_darkOf_X8 (my_at my_oX8 h4) rfl 11 (by decide) rfl lnX8_darkOf_0 rfl dX8_darkOf_20 ?_
    refine mj_iload_n X dX8_darkOf_23 2 rfl ?_
    refine mj_iald X 0 (my_at my_a10 h4) rfl g7 dX8_darkOf_24 ?_
    refine mj_aload_n X dX8_darkOf_25 0 rfl ?_
    refine mj_get X inwX8_darkOf_X8 (my_at my_oX8 h4) rfl 11 (by decide) rfl lnX8_darkOf_0 rfl dX8_darkOf_26 ?_
    refine mj_iload_n X dX8_darkOf_29 3 rfl ?_
    obtain ⟨g9, hf⟩ := mm_g hf
    refine mj_iald X 0 (my_at my_a10 h4) rfl g9 dX8_darkOf_30 ?_
    refine mj_icmp_eq (tgt := 37) X dX8_darkOf_31 (by decide) (fun c10 => ?_) (fun c10 => ?_)
    · have hf := mm_t c10 hf
      refine mj_aload_n X dX8_darkOf_37 0 rfl ?_
      obtain ⟨h11, r12, q13, hf⟩ := mm_c hf
      refine mj_callVv (As := []) (rest := []) X (kX8_bills l D t1 t2 cI cZ ad N h4 h11 r12 q13) (cwV 0 X.2.2.2.2.1 gX8_darkOf_X8_bills rfl rfl rfl (by decide +kernel) ⟨Nat.le_of_ble_eq_true rfl, Nat.le_of_ble_eq_true rfl⟩) (my_at my_oX8 h4) rfl rfl rfl rfl (Nat.le_of_ble_eq_true rfl) ⟨Nat.zero_le _, Nat.zero_le _⟩ dX8_darkOf_38 ?_
      refine mj_aload_n X dX8_darkOf_41 0 rfl ?_
      refine mj_get X inwX8_darkOf_X8 (my_at my_oX8 h11) rfl 12 (by decide) rfl lnX8_darkOf_1 rfl dX8_darkOf_42 ?_
      refine mj_iload_n X dX8_darkOf_45 2 rfl ?_
      refine mj_iald X 0 (my_at my_a11 h11) rfl g7 dX8_darkOf_46 ?_
      obtain ⟨x14, ex14, hf⟩ := mm_l hf
      refine mj_topi ex14 ?_
      refine mj_istore (lo' := [(4, .int x14), (0, .ref (ad 0)), (1, .int a0), (2, .int a1), (3, .int a2)]) X dX8_darkOf_47 (by decide) rfl ?_
      refine mj_aload_n X dX8_darkOf_49 1 rfl ?_
      refine mj_get X inwX8_darkOf_X8 (my_at my_oX8 h11) rfl 10 (by decide) rfl lnX8_darkOf_2 rfl dX8_darkOf_50 ?_
      refine mj_iload_n X dX8_darkOf_53 3 rfl ?_
      refine mj_iald X 0 (my_at my_a9 h11) rfl g7 dX8_darkOf_54 ?_
      obtain ⟨x15, ex15, hf⟩ := mm_l hf
      refine mj_topi ex15 ?_
      refine mj_istore (lo' := [(5, .int x15), (4, .int x14), (0, .ref (ad 0)), (1, .int a0), (2, .int a1), (3, .int a2)]) X dX8_darkOf_55 (by decide) rfl ?_
      refine mj_iconst (v := (1 : Int32)) X dX8_darkOf_57 (by decide) ?_
      refine mj_istore (lo' := [(6, .int (1 : Int32)), (5, .int x15), (4, .int x14), (0, .ref (ad 0)), (1, .int a0), (2, .int a1), (3, .int a2)]) X dX8_darkOf_58 (by decide) rfl ?_
      refine mj_sub [3, 5, 6, 2, 1, 0] rfl (wX8_darkOf_L60 X out RET N a1 a2 x14 x15 _ (fun h25 hf => ?_) N h11 (1 : Int32) hf)
      refine mj_iconst (v := (-1 : Int32)) X dX8_darkOf_111 (by decide) ?_
      exact RET h25 _ _ _ dX8_darkOf_112 (Option.some.inj hf)
    · have hf := mm_f c10 hf
      refine mj_bipush (v := (-3 : Int32)) X dX8_darkOf_34 (by decide) ?_
      exact RET h4 _ _ _ dX8_darkOf_36 (Option.some.inj hf)
abbrev rmX8_dark : Room := { frames := 5, cells := 0, slots := 0, locals := 111 }
set_option maxHeartbeats 4000000 in
set_option maxRecDepth 100000 in
theorem kX8_dark (l : Launch) (D : va_G) (t1 t2 : Nat) (cI : ClassId) (cZ : ClassId) (ad : Nat → Nat)  (N : Nat) (h : mm_M) (a0 : Int32) (a1 : Int32) (a2 : Int32) (h1 : mm_M) (r : Int32) (hf : fX8_dark N h a0 a1 a2 = some (h1, r)) : mm_Ki l yX8_dark wsX8_dark rmX8_dark D (my_ty cI cZ) t1 t2 (my_w cI cZ ad) [.ref (ad 0), .int a0, .int a1, .int a2] h r h1 := by
  refine mm_open_i [.ref (ad 0), .int a0, .int a1, .int a2] h r h1 RX8 (by decide) rfl rfl (Nat.le_of_ble_eq_true rfl) ?_
  intro p e s m below meth c A X hr hlocks
  have RET : ∀ (h : mm_M) (pc : Nat) (lo : List (Nat × Value)) (v : Int32), decode cX8_dark pc = .ok (.ireturn, 1) → (h, v) = (h1, r) → mm_J p l e rmX8_dark s m ([.ref (ad 0), .int a0, .int a1, .int a2] : List Value).toArray below meth c 0 0 (MQ below (va_Qi (fun (r' : Int32) (u : mm_M) => r' = r ∧ u = h1) (mm_Post D (my_w cI cZ ad) A) A) ([.ref (ad 0), .int a0, .int a1, .int a2] : List Value).toArray s 0 0 A) D (my_w cI cZ ad) A 4 h pc lo [.int v] := by
    intro h2 pc lo v hd he
    cases he
    exact mj_iret X hr rfl hlocks hd
  generalize hout : (h1, r) = out at hf RET
  unfold fX8_dark at hf
  refine mj_lo (lo' := [(0, .ref (ad 0)), (1, .int a0), (2, .int a1), (3, .int a2)]) rfl ?_
  refine mj_aload_n X dX8_dark_0 0 rfl ?_
  refine mj_iload_n X dX8_dark_1 1 rfl ?_
  obtain ⟨h1, r2, q3, hf⟩ := mm_c hf
  refine mj_callVi (As := [.int a0]) (rest := []) X (kX8_isRound l D t1 t2 cI cZ ad N h a0 h1 r2 q3) (cwV 1 X.2.2.2.2.1 gX8_dark_X8_isRound rfl rfl rfl (by decide +kernel) ⟨Nat.le_of_ble_eq_true rfl, Nat.le_of_ble_eq_true rfl⟩) (my_at my_oX8 h) rfl rfl rfl rfl (Nat.le_of_ble_eq_true rfl) ⟨Nat.zero_le _, Nat.zero_le _⟩ dX8_dark_2 ?_
  refine mj_if_eq (tgt := 39) X dX8_dark_5 (by decide) (fun c4 => ?_) (fun c4 => ?_)
  · have hf := mm_t c4 hf
    refine mj_bipush (v := (-2 : Int32)) X dX8_dark_39 (by decide) ?_
    exact RET h1 _ _ _ dX8_dark_41 (Option.some.inj hf)
  · have hf := mm_f c4 hf
    refine mj_aload_n X dX8_dark_8 0 rfl ?_
    refine mj_iload_n X dX8_dark_9 2 rfl ?_
    obtain ⟨h5, r6, q7, hf⟩ := mm_c hf
    refine mj_callVi (As := [.int a1]) (rest := []) X (kX8_isPerson l D t1 t2 cI cZ ad N h1 a1 h5 r6 q7) (cwV 1 X.2.2.2.2.1 gX8_dark_X8_isPerson rfl rfl rfl (by decide +kernel) ⟨Nat.le_of_ble_eq_true rfl, Nat.le_of_ble_eq_true rfl⟩) (my_at my_oX8 h1) rfl rfl rfl rfl (Nat.le_of_ble_eq_true rfl) ⟨Nat.zero_le _, Nat.zero_le _⟩ dX8_dark_10 ?_
    refine mj_if_eq (tgt := 39) X dX8_dark_13 (by decide) (fun c8 => ?_) (fun c8 => ?_)
    · have hf := mm_t c8 hf
      refine mj_bipush (v := (-2 : Int32)) X dX8_dark_39 (by decide) ?_
      exact RET h5 _ _ _ dX8_dark_41 (Option.some.inj hf)
    · have hf := mm_f c8 hf
      refine mj_aload_n X dX8_dark_16 0 rfl ?_
      refine mj_iload_n X dX8_dark_17 3 rfl ?_
      obtain ⟨h9, r10, q11, hf⟩ := mm_c hf
      refine mj_callVi (As := [.int a2]) (rest := []) X (kX8_isPerson l D t1 t2 cI cZ ad N h5 a2 h9 r10 q11) (cwV 1 X.2.2.2.2.1 gX8_dark_X8_isPerson rfl rfl rfl (by decide +kernel) ⟨Nat.le_of_ble_eq_true rfl, Nat.le_of_ble_eq_true rfl⟩) (my_at my_oX8 h5) rfl rfl rfl rfl (Nat.le_of_ble_eq_true rfl) ⟨Nat.zero_le _, Nat.zero_le _⟩ dX8_dark_18 ?_
      refine mj_if_eq (tgt := 39) X dX8_dark_21 (by decide) (fun c12 => ?_) (fun c12 => ?_)
      · have hf := mm_t c12 hf
        refine mj_bipush (v := (-2 : Int32)) X dX8_dark_39 (by decide) ?_
        exact RET h9 _ _ _ dX8_dark_41 (Option.some.inj hf)
      · have hf := mm_f c12 hf
        refine mj_iload_n X dX8_dark_24 2 rfl ?_
        refine mj_iload_n X dX8_dark_25 3 rfl ?_
        refine mj_icmp_eq (tgt := 39) X dX8_dark_26 (by decide) (fun c13 => ?_) (fun c13 => ?_)
        · have hf := mm_t c13 hf
          refine mj_bipush (v := (-2 : Int32)) X dX8_dark_39 (by decide) ?_
          exact RET h9 _ _ _ dX8_dark_41 (Option.some.inj hf)
        · have hf := mm_f c13 hf
          refine mj_aload_n X dX8_dark_29 0 rfl ?_
          refine mj_iload_n X dX8_dark_30 1 rfl ?_
          refine mj_iload_n X dX8_dark_31 2 rfl ?_
          refine mj_iload_n X dX8_dark_32 3 rfl ?_
          obtain ⟨h14, r15, q16, hf⟩ := mm_c hf
          refine mj_callVi (As := [.int a0, .int a1, .int a2]) (rest := []) X (kX8_darkOf l D t1 t2 cI cZ ad N h9 a0 a1 a2 h14 r15 q16) (cwV 3 X.2.2.2.2.1 gX8_dark_X8_darkOf rfl rfl rfl (by decide +kernel) ⟨Nat.le_of_ble_eq_true rfl, Nat.le_of_ble_eq_true rfl⟩) (my_at my_oX8 h9) rfl rfl rfl rfl (Nat.le_of_ble_eq_true rfl) ⟨Nat.zero_le _, Nat.zero_le _⟩ dX8_dark_33 ?_
          refine mj_goto (tgt := 41) X dX8_dark_36 (by decide) ?_
          exact RET h14 _ _ _ dX8_dark_41 (Option.some.inj hf)
abbrev rmX8_seen : Room := { frames := 2, cells := 0, slots := 0, locals := 42 }
theorem inwX8_seen_X8 : ∀ w ∈ wsX80, w ∈ wsX8_seen := by
  intro w hw
  have h9 : wsX80 = (wsX8_seen.drop 12).take 29 := rfl
  rw [h9] at hw
  exact List.mem_of_mem_drop (List.mem_of_mem_take hw)
theorem lnX8_seen_0 : Cond.fieldLink RX8 189 "RichestPaysModel" "sights" "I" ∈ wsX8_seen := List.mem_of_getElem? (i := 1) rfl
theorem lnX8_seen_1 : Cond.fieldLink RX8 58 "RichestPaysModel" "seenRound" "[I" ∈ wsX8_seen := List.mem_of_getElem? (i := 2) rfl
theorem lnX8_seen_2 : Cond.fieldLink RX8 61 "RichestPaysModel" "seenWho" "[I" ∈ wsX8_seen := List.mem_of_getElem? (i := 3) rfl
theorem lnX8_seen_3 : Cond.fieldLink RX8 64 "RichestPaysModel" "seenV" "[I" ∈ wsX8_seen := List.mem_of_getElem? (i := 4) rfl
set_option maxHeartbeats 4000000 in
set_option maxRecDepth 100000 in
theorem kX8_seen (l : Launch) (D : va_G) (t1 t2 : Nat) (cI : ClassId) (cZ : ClassId) (ad : Nat → Nat)  (N : Nat) (h : mm_M) (a0 : Int32) (a1 : Int32) (a2 : Int32) (h1 : mm_M) (r : Int32) (hf : fX8_seen N h a0 a1 a2 = some (h1, r)) : mm_Ki l yX8_seen wsX8_seen rmX8_seen D (my_ty cI cZ) t1 t2 (my_w cI cZ ad) [.ref (ad 0), .int a0, .int a1, .int a2] h r h1 := by
  refine mm_open_i [.ref (ad 0), .int a0, .int a1, .int a2] h r h1 RX8 (by decide) rfl rfl (Nat.le_of_ble_eq_true rfl) ?_
  intro p e s m below meth c A X hr hlocks
  have RET : ∀ (h : mm_M) (pc : Nat) (lo : List (Nat × Value)) (v : Int32), decode cX8_seen pc = .ok (.ireturn, 1) → (h, v) = (h1, r) → mm_J p l e rmX8_seen s m ([.ref (ad 0), .int a0, .int a1, .int a2] : List Value).toArray below meth c 0 0 (MQ below (va_Qi (fun (r' : Int32) (u : mm_M) => r' = r ∧ u = h1) (mm_Post D (my_w cI cZ ad) A) A) ([.ref (ad 0), .int a0, .int a1, .int a2] : List Value).toArray s 0 0 A) D (my_w cI cZ ad) A 4 h pc lo [.int v] := by
    intro h2 pc lo v hd he
    cases he
    exact mj_iret X hr rfl hlocks hd
  generalize hout : (h1, r) = out at hf RET
  unfold fX8_seen at hf
  refine mj_lo (lo' := [(0, .ref (ad 0)), (1, .int a0), (2, .int a1), (3, .int a2)]) rfl ?_
  refine mj_iload_n X dX8_seen_0 1 rfl ?_
  refine mj_iconst (v := (0 : Int32)) X dX8_seen_1 (by decide) ?_
  refine mj_bipush (v := (7 : Int32)) X dX8_seen_2 (by decide) ?_
  obtain ⟨h1, r2, q3, hf⟩ := mm_c hf
  refine mj_callSi (As := [.int a0, .int (0 : Int32), .int (7 : Int32)]) (rest := []) X (kX8_in l D t1 t2 cI cZ ad N h a0 (0 : Int32) (7 : Int32) h1 r2 q3) (va_cwS 3 X.2.2.2.2.1 gX8_seen_X8_in rfl rfl rfl (by decide +kernel) ⟨Nat.le_of_ble_eq_true rfl, Nat.le_of_ble_eq_true rfl⟩) rfl rfl (Nat.le_of_ble_eq_true rfl) ⟨Nat.zero_le _, Nat.zero_le _⟩ dX8_seen_4 ?_
  refine mj_if_eq (tgt := 27) X dX8_seen_7 (by decide) (fun c4 => ?_) (fun c4 => ?_)
  · have hf := mm_t c4 hf
    refine mj_bipush (v := (-2 : Int32)) X dX8_seen_27 (by decide) ?_
    exact RET h1 _ _ _ dX8_seen_29 (Option.some.inj hf)
  · have hf := mm_f c4 hf
    refine mj_iload_n X dX8_seen_10 2 rfl ?_
    obtain ⟨h5, r6, q7, hf⟩ := mm_c hf
    refine mj_callSi (As := [.int a1]) (rest := []) X (kX8_isSix l D t1 t2 cI cZ ad N h1 a1 h5 r6 q7) (va_cwS 1 X.2.2.2.2.1 gX8_seen_X8_isSix rfl rfl rfl (by decide +kernel) ⟨Nat.le_of_ble_eq_true rfl, Nat.le_of_ble_eq_true rfl⟩) rfl rfl (Nat.le_of_ble_eq_true rfl) ⟨Nat.zero_le _, Nat.zero_le _⟩ dX8_seen_11 ?_
    refine mj_if_eq (tgt := 27) X dX8_seen_14 (by decide) (fun c8 => ?_) (fun c8 => ?_)
    · have hf := mm_t c8 hf
      refine mj_bipush (v := (-2 : Int32)) X dX8_seen_27 (by decide) ?_
      exact RET h5 _ _ _ dX8_seen_29 (Option.some.inj hf)
    · have hf := mm_f c8 hf
      refine mj_iload_n X dX8_seen_17 3 rfl ?_
      refine mj_iconst (v := (0 : Int32)) X dX8_seen_18 (by decide) ?_
      refine mj_bipush (v := (99 : Int32)) X dX8_seen_19 (by decide) ?_
      obtain ⟨h9, r10, q11, hf⟩ := mm_c hf
      refine mj_callSi (As := [.int a2, .int (0 : Int32), .int (99 : Int32)]) (rest := []) X (kX8_in l D t1 t2 cI cZ ad N h5 a2 (0 : Int32) (99 : Int32) h9 r10 q11) (va_cwS 3 X.2.2.2.2.1 gX8_seen_X8_in rfl rfl rfl (by decide +kernel) ⟨Nat.le_of_ble_eq_true rfl, Nat.le_of_ble_eq_true rfl⟩) rfl rfl (Nat.le_of_ble_eq_true rfl) ⟨Nat.zero_le _, Nat.zero_le _⟩ dX8_seen_21 ?_
      refine mj_if_ne (tgt := 30) X dX8_seen_24 (by decide) (fun c12 => ?_) (fun c12 => ?_)
      · have hf := mm_f c12 hf
        refine mj_aload_n X dX8_seen_30 0 rfl ?_
        refine mj_get X inwX8_seen_X8 (my_at my_oX8 h9) rfl 19 (by decide) rfl lnX8_seen_0 rfl dX8_seen_31 ?_
        refine mj_bipush (v := (8 : Int32)) X dX8_seen_34 (by decide) ?_
        refine mj_icmp_ne (tgt := 42) X dX8_seen_36 (by decide) (fun c13 => ?_) (fun c13 => ?_)
        · have hf := mm_f c13 hf
          refine mj_aload_n X dX8_seen_42 0 rfl ?_
          refine mj_get X inwX8_seen_X8 (my_at my_oX8 h9) rfl 20 (by decide) rfl lnX8_seen_1 rfl dX8_seen_43 ?_
          refine mj_aload_n X dX8_seen_46 0 rfl ?_
          refine mj_get X inwX8_seen_X8 (my_at my_oX8 h9) rfl 19 (by decide) rfl lnX8_seen_0 rfl dX8_seen_47 ?_
          refine mj_iload_n X dX8_seen_50 1 rfl ?_
          obtain ⟨g14, hf⟩ := mm_g hf
          obtain ⟨h15, eh15, hf⟩ := mm_l hf
          refine mj_iast X 0 (my_at my_a17 h9) rfl g14 (my_ast my_a17 eh15) dX8_seen_51 ?_
          refine mj_aload_n X dX8_seen_52 0 rfl ?_
          refine mj_get X inwX8_seen_X8 (my_at my_oX8 h15) rfl 21 (by decide) rfl lnX8_seen_2 rfl dX8_seen_53 ?_
          refine mj_aload_n X dX8_seen_56 0 rfl ?_
          refine mj_get X inwX8_seen_X8 (my_at my_oX8 h15) rfl 19 (by decide) rfl lnX8_seen_0 rfl dX8_seen_57 ?_
          refine mj_iload_n X dX8_seen_60 2 rfl ?_
          obtain ⟨g16, hf⟩ := mm_g hf
          obtain ⟨h17, eh17, hf⟩ := mm_l hf
          refine mj_iast X 0 (my_at my_a18 h15) rfl g16 (my_ast my_a18 eh17) dX8_seen_61 ?_
          refine mj_aload_n X dX8_seen_62 0 rfl ?_
          refine mj_get X inwX8_seen_X8 (my_at my_oX8 h17) rfl 22 (by decide) rfl lnX8_seen_3 rfl dX8_seen_63 ?_
          refine mj_aload_n X dX8_seen_66 0 rfl ?_
          refine mj_get X inwX8_seen_X8 (my_at my_oX8 h17) rfl 19 (by decide) rfl lnX8_seen_0 rfl dX8_seen_67 ?_
          refine mj_iload_n X dX8_seen_70 3 rfl ?_
          obtain ⟨g18, hf⟩ := mm_g hf
          obtain ⟨h19, eh19, hf⟩ := mm_l hf
          refine mj_iast X 0 (my_at my_a19 h17) rfl g18 (my_ast my_a19 eh19) dX8_seen_71 ?_
          refine mj_aload_n X dX8_seen_72 0 rfl ?_
          refine mj_dup X dX8_seen_73 rfl ?_
          refine mj_get X inwX8_seen_X8 (my_at my_oX8 h19) rfl 19 (by decide) rfl lnX8_seen_0 rfl dX8_seen_74 ?_
          refine mj_iconst (v := (1 : Int32)) X dX8_seen_77 (by decide) ?_
          refine mj_iadd X dX8_seen_78 ?_
          obtain ⟨h20, eh20, hf⟩ := mm_l hf
          refine mj_put X tyX8_ok nmX8 inwX8_seen_X8 (my_at my_oX8 h19) rfl 19 (by decide) rfl lnX8_seen_0 rfl (tyX8_ok 19 (by decide)) rfl rfl (Nat.le_of_ble_eq_true rfl) (my_put my_oX8 eh20 (by simp [mm_up_at, upd])) dX8_seen_79 ?_
          refine mj_aload_n X dX8_seen_82 0 rfl ?_
          refine mj_get X inwX8_seen_X8 (my_at my_oX8 h20) rfl 19 (by decide) rfl lnX8_seen_0 rfl dX8_seen_83 ?_
          exact RET h20 _ _ _ dX8_seen_86 (Option.some.inj hf)
        · have hf := mm_t c13 hf
          refine mj_bipush (v := (-4 : Int32)) X dX8_seen_39 (by decide) ?_
          exact RET h9 _ _ _ dX8_seen_41 (Option.some.inj hf)
      · have hf := mm_t c12 hf
        refine mj_bipush (v := (-2 : Int32)) X dX8_seen_27 (by decide) ?_
        exact RET h9 _ _ _ dX8_seen_29 (Option.some.inj hf)
abbrev rmX8_forget : Room := { frames := 0, cells := 0, slots := 0, locals := 0 }
theorem inwX8_forget_X8 : ∀ w ∈ wsX80, w ∈ wsX8_forget := by
  intro w hw
  have h9 : wsX80 = (wsX8_forget.drop 2).take 29 := rfl
  rw [h9] at hw
  exact List.mem_of_mem_drop (List.mem_of_mem_take hw)
theorem lnX8_forget_0 : Cond.fieldLink RX8 189 "RichestPaysModel" "sights" "I" ∈ wsX8_forget := List.mem_of_getElem? (i := 1) rfl
set_option maxHeartbeats 4000000 in
set_option maxRecDepth 100000 in
theorem kX8_forget (l : Launch) (D : va_G) (t1 t2 : Nat) (cI : ClassId) (cZ : ClassId) (ad : Nat → Nat)  (N : Nat) (h : mm_M)  (h1 : mm_M) (r : Int32) (hf : fX8_forget N h = some (h1, r)) : mm_Ki l yX8_forget wsX8_forget rmX8_forget D (my_ty cI cZ) t1 t2 (my_w cI cZ ad) [.ref (ad 0)] h r h1 := by
  refine mm_open_i [.ref (ad 0)] h r h1 RX8 (by decide) rfl rfl (Nat.le_of_ble_eq_true rfl) ?_
  intro p e s m below meth c A X hr hlocks
  have RET : ∀ (h : mm_M) (pc : Nat) (lo : List (Nat × Value)) (v : Int32), decode cX8_forget pc = .ok (.ireturn, 1) → (h, v) = (h1, r) → mm_J p l e rmX8_forget s m ([.ref (ad 0)] : List Value).toArray below meth c 0 0 (MQ below (va_Qi (fun (r' : Int32) (u : mm_M) => r' = r ∧ u = h1) (mm_Post D (my_w cI cZ ad) A) A) ([.ref (ad 0)] : List Value).toArray s 0 0 A) D (my_w cI cZ ad) A 2 h pc lo [.int v] := by
    intro h2 pc lo v hd he
    cases he
    exact mj_iret X hr rfl hlocks hd
  generalize hout : (h1, r) = out at hf RET
  unfold fX8_forget at hf
  refine mj_lo (lo' := [(0, .ref (ad 0))]) rfl ?_
  refine mj_aload_n X dX8_forget_0 0 rfl ?_
  refine mj_get X inwX8_forget_X8 (my_at my_oX8 h) rfl 19 (by decide) rfl lnX8_forget_0 rfl dX8_forget_1 ?_
  refine mj_istore_n (lo' := [(1, .int (h 0 19)), (0, .ref (ad 0))]) X dX8_forget_4 (by decide) rfl ?_
  refine mj_aload_n X dX8_forget_5 1 rfl ?_
  refine mj_iconst (v := (0 : Int32)) X dX8_forget_6 (by decide) ?_
  obtain ⟨h1, eh1, hf⟩ := mm_l hf
  refine mj_put X tyX8_ok nmX8 inwX8_forget_X8 (my_at my_oX8 h) rfl 19 (by decide) rfl lnX8_forget_0 rfl (tyX8_ok 19 (by decide)) rfl rfl (Nat.le_of_ble_eq_true rfl) (my_put my_oX8 eh1 (by simp [mm_up_at, upd])) dX8_forget_7 ?_
  refine mj_iload_n X dX8_forget_10 0 rfl ?_
  exact RET h1 _ _ _ dX8_forget_11 (Option.some.inj hf)
abbrev rmX8_comesOut : Room := { frames := 3, cells := 0, slots := 0, locals := 73 }
theorem inwX8_comesOut_X8 : ∀ w ∈ wsX80, w ∈ wsX8_comesOut := by
  intro w hw
  have h9 : wsX80 = (wsX8_comesOut.drop 40).take 29 := rfl
  rw [h9] at hw
  exact List.mem_of_mem_drop (List.mem_of_mem_take hw)
theorem lnX8_comesOut_0 : Cond.fieldLink RX8 58 "RichestPaysModel" "seenRound" "[I" ∈ wsX8_comesOut := List.mem_of_getElem? (i := 1) rfl
theorem lnX8_comesOut_1 : Cond.fieldLink RX8 97 "RichestPaysModel" "rounds" "I" ∈ wsX8_comesOut := List.mem_of_getElem? (i := 2) rfl
theorem lnX8_comesOut_2 : Cond.fieldLink RX8 61 "RichestPaysModel" "seenWho" "[I" ∈ wsX8_comesOut := List.mem_of_getElem? (i := 3) rfl
theorem lnX8_comesOut_3 : Cond.fieldLink RX8 89 "RichestPaysModel" "people" "I" ∈ wsX8_comesOut := List.mem_of_getElem? (i := 4) rfl
theorem lnX8_comesOut_4 : Cond.fieldLink RX8 40 "RichestPaysModel" "pays" "[I" ∈ wsX8_comesOut := List.mem_of_getElem? (i := 5) rfl
theorem lnX8_comesOut_5 : Cond.fieldLink RX8 64 "RichestPaysModel" "seenV" "[I" ∈ wsX8_comesOut := List.mem_of_getElem? (i := 6) rfl
set_option maxHeartbeats 4000000 in
set_option maxRecDepth 100000 in
theorem kX8_comesOut (l : Launch) (D : va_G) (t1 t2 : Nat) (cI : ClassId) (cZ : ClassId) (ad : Nat → Nat)  (N : Nat) (h : mm_M) (a0 : Int32) (h1 : mm_M) (r : Int32) (hf : fX8_comesOut N h a0 = some (h1, r)) : mm_Ki l yX8_comesOut wsX8_comesOut rmX8_comesOut D (my_ty cI cZ) t1 t2 (my_w cI cZ ad) [.ref (ad 0), .int a0] h r h1 := by
  refine mm_open_i [.ref (ad 0), .int a0] h r h1 RX8 (by decide) rfl rfl (Nat.le_of_ble_eq_true rfl) ?_
  intro p e s m below meth c A X hr hlocks
  have RET : ∀ (h : mm_M) (pc : Nat) (lo : List (Nat × Value)) (v : Int32), decode cX8_comesOut pc = .ok (.ireturn, 1) → (v = 0 ∨ v = 1) → (h, v) = (h1, r) → mm_J p l e rmX8_comesOut s m ([.ref (ad 0), .int a0] : List Value).toArray below meth c 0 0 (MQ below (va_Qi (fun (r' : Int32) (u : mm_M) => r' = r ∧ u = h1) (mm_Post D (my_w cI cZ ad) A) A) ([.ref (ad 0), .int a0] : List Value).toArray s 0 0 A) D (my_w cI cZ ad) A 2 h pc lo [.int v] := by
    intro h2 pc lo v hd hz he
    cases he
    exact mj_iret X hr (mm_nz hz) hlocks hd
  generalize hout : (h1, r) = out at hf RET
  unfold fX8_comesOut at hf
  refine mj_lo (lo' := [(0, .ref (ad 0)), (1, .int a0)]) rfl ?_
  refine mj_aload_n X dX8_comesOut_0 0 rfl ?_
  refine mj_get X inwX8_comesOut_X8 (my_at my_oX8 h) rfl 20 (by decide) rfl lnX8_comesOut_0 rfl dX8_comesOut_1 ?_
  refine mj_iload_n X dX8_comesOut_4 1 rfl ?_
  obtain ⟨g1, hf⟩ := mm_g hf
  refine mj_iald X 0 (my_at my_a17 h) rfl g1 dX8_comesOut_5 ?_
  refine mj_aload_n X dX8_comesOut_6 0 rfl ?_
  refine mj_get X inwX8_comesOut_X8 (my_at my_oX8 h) rfl 5 (by decide) rfl lnX8_comesOut_1 rfl dX8_comesOut_7 ?_
  refine mj_icmp_ge (tgt := 26) X dX8_comesOut_10 (by decide) (fun c2 => ?_) (fun c2 => ?_)
  · have hf := mm_t c2 hf
    refine mj_iconst (v := (0 : Int32)) X dX8_comesOut_26 (by decide) ?_
    exact RET h _ _ _ dX8_comesOut_27 (by decide) (Option.some.inj hf)
  · have hf := mm_f c2 hf
    refine mj_aload_n X dX8_comesOut_13 0 rfl ?_
    refine mj_get X inwX8_comesOut_X8 (my_at my_oX8 h) rfl 21 (by decide) rfl lnX8_comesOut_2 rfl dX8_comesOut_14 ?_
    refine mj_iload_n X dX8_comesOut_17 1 rfl ?_
    refine mj_iald X 0 (my_at my_a18 h) rfl g1 dX8_comesOut_18 ?_
    refine mj_aload_n X dX8_comesOut_19 0 rfl ?_
    refine mj_get X inwX8_comesOut_X8 (my_at my_oX8 h) rfl 2 (by decide) rfl lnX8_comesOut_3 rfl dX8_comesOut_20 ?_
    refine mj_icmp_lt (tgt := 28) X dX8_comesOut_23 (by decide) (fun c3 => ?_) (fun c3 => ?_)
    · have hf := mm_t c3 hf
      refine mj_aload_n X dX8_comesOut_28 0 rfl ?_
      refine mj_aload_n X dX8_comesOut_29 0 rfl ?_
      refine mj_get X inwX8_comesOut_X8 (my_at my_oX8 h) rfl 20 (by decide) rfl lnX8_comesOut_0 rfl dX8_comesOut_30 ?_
      refine mj_iload_n X dX8_comesOut_33 1 rfl ?_
      refine mj_iald X 0 (my_at my_a17 h) rfl g1 dX8_comesOut_34 ?_
      refine mj_iconst (v := (1 : Int32)) X dX8_comesOut_35 (by decide) ?_
      refine mj_iadd X dX8_comesOut_36 ?_
      obtain ⟨h4, r5, q6, hf⟩ := mm_c hf
      refine mj_callVv (As := [.int ((h 17 a0.toNatClampNeg) + (1 : Int32))]) (rest := []) X (kX8_runs l D t1 t2 cI cZ ad N h (((h 17 a0.toNatClampNeg) + (1 : Int32))) h4 r5 q6) (cwV 1 X.2.2.2.2.1 gX8_comesOut_X8_runs rfl rfl rfl (by decide +kernel) ⟨Nat.le_of_ble_eq_true rfl, Nat.le_of_ble_eq_true rfl⟩) (my_at my_oX8 h) rfl rfl rfl rfl (Nat.le_of_ble_eq_true rfl) ⟨Nat.zero_le _, Nat.zero_le _⟩ dX8_comesOut_37 ?_
      refine mj_aload_n X dX8_comesOut_40 0 rfl ?_
      refine mj_get X inwX8_comesOut_X8 (my_at my_oX8 h4) rfl 12 (by decide) rfl lnX8_comesOut_4 rfl dX8_comesOut_41 ?_
      refine mj_aload_n X dX8_comesOut_44 0 rfl ?_
      refine mj_get X inwX8_comesOut_X8 (my_at my_oX8 h4) rfl 21 (by decide) rfl lnX8_comesOut_2 rfl dX8_comesOut_45 ?_
      refine mj_iload_n X dX8_comesOut_48 1 rfl ?_
      refine mj_iald X 0 (my_at my_a18 h4) rfl g1 dX8_comesOut_49 ?_
      obtain ⟨g7, hf⟩ := mm_g hf
      refine mj_iald X 0 (my_at my_a11 h4) rfl g7 dX8_comesOut_50 ?_
      refine mj_aload_n X dX8_comesOut_51 0 rfl ?_
      refine mj_get X inwX8_comesOut_X8 (my_at my_oX8 h4) rfl 22 (by decide) rfl lnX8_comesOut_5 rfl dX8_comesOut_52 ?_
      refine mj_iload_n X dX8_comesOut_55 1 rfl ?_
      refine mj_iald X 0 (my_at my_a19 h4) rfl g1 dX8_comesOut_56 ?_
      refine mj_icmp_ne (tgt := 64) X dX8_comesOut_57 (by decide) (fun c8 => ?_) (fun c8 => ?_)
      · have hf := mm_f c8 hf
        refine mj_iconst (v := (0 : Int32)) X dX8_comesOut_64 (by decide) ?_
        exact RET h4 _ _ _ dX8_comesOut_65 (by decide) (Option.some.inj hf)
      · have hf := mm_t c8 hf
        refine mj_iconst (v := (1 : Int32)) X dX8_comesOut_60 (by decide) ?_
        refine mj_goto (tgt := 65) X dX8_comesOut_61 (by decide) ?_
        exact RET h4 _ _ _ dX8_comesOut_65 (by decide) (Option.some.inj hf)
    · have hf := mm_f c3 hf
      refine mj_iconst (v := (0 : Int32)) X dX8_comesOut_26 (by decide) ?_
      exact RET h _ _ _ dX8_comesOut_27 (by decide) (Option.some.inj hf)
abbrev rmX8_unlikeNow : Room := { frames := 4, cells := 0, slots := 0, locals := 94 }
theorem inwX8_unlikeNow_X8 : ∀ w ∈ wsX80, w ∈ wsX8_unlikeNow := by
  intro w hw
  have h9 : wsX80 = (wsX8_unlikeNow.drop 70).take 29 := rfl
  rw [h9] at hw
  exact List.mem_of_mem_drop (List.mem_of_mem_take hw)
theorem lnX8_unlikeNow_0 : Cond.fieldLink RX8 189 "RichestPaysModel" "sights" "I" ∈ wsX8_unlikeNow := List.mem_of_getElem? (i := 1) rfl
set_option maxHeartbeats 4000000 in
set_option maxRecDepth 100000 in
theorem wX8_unlikeNow_L8 (X : mm_X p s m args c cX8_unlikeNow RX8 wsX8_unlikeNow 3 D (my_ty cI cZ) t1 t2 A) (out : mm_M × Int32) (RET : ∀ (h : mm_M) (pc : Nat) (lo : List (Nat × Value)) (v : Int32), decode cX8_unlikeNow pc = .ok (.ireturn, 1) → (h, v) = out → mm_J p l e rmX8_unlikeNow s m args below meth c 0 0 Q D (my_w cI cZ ad) A 3 h pc lo [.int v]) (N : Nat)   (k : mm_M → Int32 → Option (mm_M × Int32)) (HK : ∀ (h : mm_M) (m1 : Int32), k h m1 = some out → mm_J p l e rmX8_unlikeNow s m args below meth c 0 0 Q D (my_w cI cZ ad) A 3 h 38 [(1, .int m1)] []) : ∀ (n : Nat) (h : mm_M) (m1 : Int32) (m2 : Int32), fX8_unlikeNow_L8 N k n h m1 m2 = some out → mm_J p l e rmX8_unlikeNow s m args below meth c 0 0 Q D (my_w cI cZ ad) A 3 h 8 [(0, .ref (ad 0)), (1, .int m1), (2, .int m2)] [] := by
  intro n
  induction n with
  | zero =>
    intro h m1 m2 hf
    cases hf
  | succ n ih =>
    intro h m1 m2 hf
    rw [fX8_unlikeNow_L8] at hf
    refine mj_iload_n X dX8_unlikeNow_8 2 rfl ?_
    refine mj_aload_n X dX8_unlikeNow_9 0 rfl ?_
    refine mj_get X inwX8_unlikeNow_X8 (my_at my_oX8 h) rfl 19 (by decide) rfl lnX8_unlikeNow_0 rfl dX8_unlikeNow_10 ?_
    refine mj_icmp_ge (tgt := 38) X dX8_unlikeNow_13 (by decide) (fun c4 => ?_) (fun c4 => ?_)
    · have hf := mm_t c4 hf
      exact mj_sub [1] rfl (HK h m1 hf)
    · have hf := mm_f c4 hf
      refine mj_iload_n X dX8_unlikeNow_16 1 rfl ?_
      refine mj_aload_n X dX8_unlikeNow_17 0 rfl ?_
      refine mj_iload_n X dX8_unlikeNow_18 2 rfl ?_
      obtain ⟨h5, r6, q7, hf⟩ := mm_c hf
      refine mj_callVi (As := [.int m2]) (rest := [.int m1]) X (kX8_comesOut l D t1 t2 cI cZ ad N h m2 h5 r6 q7) (cwV 1 X.2.2.2.2.1 gX8_unlikeNow_X8_comesOut rfl rfl rfl (by decide +kernel) ⟨Nat.le_of_ble_eq_true rfl, Nat.le_of_ble_eq_true rfl⟩) (my_at my_oX8 h) rfl rfl rfl rfl (Nat.le_of_ble_eq_true rfl) ⟨Nat.zero_le _, Nat.zero_le _⟩ dX8_unlikeNow_19 ?_
      refine mj_if_eq (tgt := 29) X dX8_unlikeNow_22 (by decide) (fun c8 => ?_) (fun c8 => ?_)
      · have hf := mm_t c8 hf
        refine mj_iconst (v := (1 : Int32)) X dX8_unlikeNow_29 (by decide) ?_
        refine mj_iadd X dX8_unlikeNow_30 ?_
        obtain ⟨x9, ex9, hf⟩ := mm_l hf
        refine mj_topi ex9 ?_
        refine mj_istore_n (lo' := [(1, .int x9), (0, .ref (ad 0)), (2, .int m2)]) X dX8_unlikeNow_31 (by decide) rfl ?_
        refine mj_iinc (k := 2) (v := (m2 + 1)) (lo' := [(2, .int (m2 + 1)), (1, .int x9), (0, .ref (ad 0))]) X dX8_unlikeNow_32 rfl rfl (by decide) rfl ?_
        refine mj_goto (tgt := 8) X dX8_unlikeNow_35 (by decide) ?_
        exact mj_sub [2, 1, 0] rfl (ih h5 x9 (m2 + 1) hf)
      · have hf := mm_f c8 hf
        refine mj_iconst (v := (0 : Int32)) X dX8_unlikeNow_25 (by decide) ?_
        refine mj_goto (tgt := 30) X dX8_unlikeNow_26 (by decide) ?_
        refine mj_iadd X dX8_unlikeNow_30 ?_
        obtain ⟨x10, ex10, hf⟩ := mm_l hf
        refine mj_topi ex10 ?_
        refine mj_istore_n (lo' := [(1, .int x10), (0, .ref (ad 0)), (2, .int m2)]) X dX8_unlikeNow_31 (by decide) rfl ?_
        refine mj_iinc (k := 2) (v := (m2 + 1)) (lo' := [(2, .int (m2 + 1)), (1, .int x10), (0, .ref (ad 0))]) X dX8_unlikeNow_32 rfl rfl (by decide) rfl ?_
        refine mj_goto (tgt := 8) X dX8_unlikeNow_35 (by decide) ?_
        exact mj_sub [2, 1, 0] rfl (ih h5 x10 (m2 + 1) hf)
set_option maxHeartbeats 4000000 in
set_option maxRecDepth 100000 in
theorem kX8_unlikeNow (l : Launch) (D : va_G) (t1 t2 : Nat) (cI : ClassId) (cZ : ClassId) (ad : Nat → Nat)  (N : Nat) (h : mm_M)  (h1 : mm_M) (r : Int32) (hf : fX8_unlikeNow N h = some (h1, r)) : mm_Ki l yX8_unlikeNow wsX8_unlikeNow rmX8_unlikeNow D (my_ty cI cZ) t1 t2 (my_w cI cZ ad) [.ref (ad 0)] h r h1 := by
  refine mm_open_i [.ref (ad 0)] h r h1 RX8 (by decide) rfl rfl (Nat.le_of_ble_eq_true rfl) ?_
  intro p e s m below meth c A X hr hlocks
  have RET : ∀ (h : mm_M) (pc : Nat) (lo : List (Nat × Value)) (v : Int32), decode cX8_unlikeNow pc = .ok (.ireturn, 1) → (h, v) = (h1, r) → mm_J p l e rmX8_unlikeNow s m ([.ref (ad 0)] : List Value).toArray below meth c 0 0 (MQ below (va_Qi (fun (r' : Int32) (u : mm_M) => r' = r ∧ u = h1) (mm_Post D (my_w cI cZ ad) A) A) ([.ref (ad 0)] : List Value).toArray s 0 0 A) D (my_w cI cZ ad) A 3 h pc lo [.int v] := by
    intro h2 pc lo v hd he
    cases he
    exact mj_iret X hr rfl hlocks hd
  generalize hout : (h1, r) = out at hf RET
  unfold fX8_unlikeNow at hf
  refine mj_lo (lo' := [(0, .ref (ad 0))]) rfl ?_
  refine mj_aload_n X dX8_unlikeNow_0 0 rfl ?_
  obtain ⟨h1, r2, q3, hf⟩ := mm_c hf
  refine mj_callVv (As := []) (rest := []) X (kX8_reads l D t1 t2 cI cZ ad N h h1 r2 q3) (cwV 0 X.2.2.2.2.1 gX8_unlikeNow_X8_reads rfl rfl rfl (by decide +kernel) ⟨Nat.le_of_ble_eq_true rfl, Nat.le_of_ble_eq_true rfl⟩) (my_at my_oX8 h) rfl rfl rfl rfl (Nat.le_of_ble_eq_true rfl) ⟨Nat.zero_le _, Nat.zero_le _⟩ dX8_unlikeNow_1 ?_
  refine mj_iconst (v := (0 : Int32)) X dX8_unlikeNow_4 (by decide) ?_
  refine mj_istore_n (lo' := [(1, .int (0 : Int32)), (0, .ref (ad 0))]) X dX8_unlikeNow_5 (by decide) rfl ?_
  refine mj_iconst (v := (0 : Int32)) X dX8_unlikeNow_6 (by decide) ?_
  refine mj_istore_n (lo' := [(2, .int (0 : Int32)), (1, .int (0 : Int32)), (0, .ref (ad 0))]) X dX8_unlikeNow_7 (by decide) rfl ?_
  refine mj_sub [2, 1, 0] rfl (wX8_unlikeNow_L8 X out RET N _ (fun h11 v12 hf => ?_) N h1 (0 : Int32) (0 : Int32) hf)
  refine mj_iload_n X dX8_unlikeNow_38 0 rfl ?_
  exact RET h11 _ _ _ dX8_unlikeNow_39 (Option.some.inj hf)
abbrev rmX8_unlike : Room := { frames := 5, cells := 0, slots := 0, locals := 116 }
set_option maxHeartbeats 4000000 in
set_option maxRecDepth 100000 in
theorem kX8_unlike (l : Launch) (D : va_G) (t1 t2 : Nat) (cI : ClassId) (cZ : ClassId) (ad : Nat → Nat)  (N : Nat) (h : mm_M)  (h1 : mm_M) (r : Int32) (hf : fX8_unlike N h = some (h1, r)) : mm_Ki l yX8_unlike wsX8_unlike rmX8_unlike D (my_ty cI cZ) t1 t2 (my_w cI cZ ad) [.ref (ad 0)] h r h1 := by
  refine mm_open_i [.ref (ad 0)] h r h1 RX8 (by decide) rfl rfl (Nat.le_of_ble_eq_true rfl) ?_
  intro p e s m below meth c A X hr hlocks
  have RET : ∀ (h : mm_M) (pc : Nat) (lo : List (Nat × Value)) (v : Int32), decode cX8_unlike pc = .ok (.ireturn, 1) → (h, v) = (h1, r) → mm_J p l e rmX8_unlike s m ([.ref (ad 0)] : List Value).toArray below meth c 0 0 (MQ below (va_Qi (fun (r' : Int32) (u : mm_M) => r' = r ∧ u = h1) (mm_Post D (my_w cI cZ ad) A) A) ([.ref (ad 0)] : List Value).toArray s 0 0 A) D (my_w cI cZ ad) A 1 h pc lo [.int v] := by
    intro h2 pc lo v hd he
    cases he
    exact mj_iret X hr rfl hlocks hd
  generalize hout : (h1, r) = out at hf RET
  unfold fX8_unlike at hf
  refine mj_lo (lo' := [(0, .ref (ad 0))]) rfl ?_
  refine mj_aload_n X dX8_unlike_0 0 rfl ?_
  obtain ⟨h1, r2, q3, hf⟩ := mm_c hf
  refine mj_callVi (As := []) (rest := []) X (kX8_unlikeNow l D t1 t2 cI cZ ad N h h1 r2 q3) (cwV 0 X.2.2.2.2.1 gX8_unlike_X8_unlikeNow rfl rfl rfl (by decide +kernel) ⟨Nat.le_of_ble_eq_true rfl, Nat.le_of_ble_eq_true rfl⟩) (my_at my_oX8 h) rfl rfl rfl rfl (Nat.le_of_ble_eq_true rfl) ⟨Nat.zero_le _, Nat.zero_le _⟩ dX8_unlike_1 ?_
  exact RET h1 _ _ _ dX8_unlike_4 (Option.some.inj hf)
abbrev rmX8_hidOf : Room := { frames := 5, cells := 0, slots := 0, locals := 116 }
theorem inwX8_hidOf_X8 : ∀ w ∈ wsX80, w ∈ wsX8_hidOf := by
  intro w hw
  have h9 : wsX80 = (wsX8_hidOf.drop 74).take 29 := rfl
  rw [h9] at hw
  exact List.mem_of_mem_drop (List.mem_of_mem_take hw)
theorem lnX8_hidOf_0 : Cond.fieldLink RX8 25 "RichestPaysModel" "homes" "[I" ∈ wsX8_hidOf := List.mem_of_getElem? (i := 1) rfl
theorem lnX8_hidOf_1 : Cond.fieldLink RX8 16 "RichestPaysModel" "purses" "[I" ∈ wsX8_hidOf := List.mem_of_getElem? (i := 2) rfl
set_option maxHeartbeats 4000000 in
set_option maxRecDepth 100000 in
theorem wX8_hidOf_L12 (X : mm_X p s m args c cX8_hidOf RX8 wsX8_hidOf 5 D (my_ty cI cZ) t1 t2 A) (out : mm_M × Int32) (RET : ∀ (h : mm_M) (pc : Nat) (lo : List (Nat × Value)) (v : Int32), decode cX8_hidOf pc = .ok (.ireturn, 1) → (h, v) = out → mm_J p l e rmX8_hidOf s m args below meth c 0 0 Q D (my_w cI cZ ad) A 5 h pc lo [.int v]) (N : Nat)  (p1 : Int32) (p2 : Int32) (k : mm_M → Int32 → Option (mm_M × Int32)) (HK : ∀ (h : mm_M) (m3 : Int32), k h m3 = some out → mm_J p l e rmX8_hidOf s m args below meth c 0 0 Q D (my_w cI cZ ad) A 5 h 56 [(0, .ref (ad 0)), (1, .int p1), (2, .int p2), (3, .int m3)] []) : ∀ (n : Nat) (h : mm_M) (m3 : Int32) (m4 : Int32), fX8_hidOf_L12 N p1 p2 k n h m3 m4 = some out → mm_J p l e rmX8_hidOf s m args below meth c 0 0 Q D (my_w cI cZ ad) A 5 h 12 [(0, .ref (ad 0)), (1, .int p1), (2, .int p2), (3, .int m3), (4, .int m4)] [] := by
  intro n
  induction n with
  | zero =>
    intro h m3 m4 hf
    cases hf
  | succ n ih =>
    intro h m3 m4 hf
    rw [fX8_hidOf_L12] at hf
    refine mj_iload X dX8_hidOf_12 4 rfl ?_
    refine mj_aload_n X dX8_hidOf_14 0 rfl ?_
    refine mj_get X inwX8_hidOf_X8 (my_at my_oX8 h) rfl 3 (by decide) rfl lnX8_hidOf_1 rfl dX8_hidOf_15 ?_
    refine mj_iload_n X dX8_hidOf_18 1 rfl ?_
    obtain ⟨g3, hf⟩ := mm_g hf
    refine mj_iald X 0 (my_at my_a3 h) rfl g3 dX8_hidOf_19 ?_
    refine mj_icmp_gt (tgt := 56) X dX8_hidOf_20 (by decide) (fun c4 => ?_) (fun c4 => ?_)
    · have hf := mm_t c4 hf
      exact mj_sub [0, 1, 2, 3] rfl (HK h m3 hf)
    · have hf := mm_f c4 hf
      refine mj_iload_n X dX8_hidOf_23 3 rfl ?_
      refine mj_iconst (v := (-1 : Int32)) X dX8_hidOf_24 (by decide) ?_
      refine mj_icmp_ne (tgt := 56) X dX8_hidOf_25 (by decide) (fun c5 => ?_) (fun c5 => ?_)
      · have hf := mm_f c5 hf
        exact mj_sub [0, 1, 2, 3] rfl (HK h m3 hf)
      · have hf := mm_t c5 hf
        refine mj_aload_n X dX8_hidOf_28 0 rfl ?_
        refine mj_get X inwX8_hidOf_X8 (my_at my_oX8 h) rfl 7 (by decide) rfl lnX8_hidOf_0 rfl dX8_hidOf_29 ?_
        refine mj_iload_n X dX8_hidOf_32 1 rfl ?_
        refine mj_iload X dX8_hidOf_33 4 rfl ?_
        obtain ⟨g6, hf⟩ := mm_g hf
        obtain ⟨h7, eh7, hf⟩ := mm_l hf
        refine mj_iast X 0 (my_at my_a6 h) rfl g6 (my_ast my_a6 eh7) dX8_hidOf_35 ?_
        refine mj_aload_n X dX8_hidOf_36 0 rfl ?_
        obtain ⟨h8, r9, q10, hf⟩ := mm_c hf
        refine mj_callVi (As := []) (rest := []) X (kX8_unlikeNow l D t1 t2 cI cZ ad N h7 h8 r9 q10) (cwV 0 X.2.2.2.2.1 gX8_hidOf_X8_unlikeNow rfl rfl rfl (by decide +kernel) ⟨Nat.le_of_ble_eq_true rfl, Nat.le_of_ble_eq_true rfl⟩) (my_at my_oX8 h7) rfl rfl rfl rfl (Nat.le_of_ble_eq_true rfl) ⟨Nat.zero_le _, Nat.zero_le _⟩ dX8_hidOf_37 ?_
        refine mj_if_ne (tgt := 48) X dX8_hidOf_40 (by decide) (fun c11 => ?_) (fun c11 => ?_)
        · have hf := mm_f c11 hf
          refine mj_iconst (v := (-1 : Int32)) X dX8_hidOf_48 (by decide) ?_
          refine mj_istore_n (lo' := [(3, .int (-1 : Int32)), (0, .ref (ad 0)), (1, .int p1), (2, .int p2), (4, .int m4)]) X dX8_hidOf_49 (by decide) rfl ?_
          refine mj_iinc (k := 4) (v := (m4 + 1)) (lo' := [(4, .int (m4 + 1)), (3, .int (-1 : Int32)), (0, .ref (ad 0)), (1, .int p1), (2, .int p2)]) X dX8_hidOf_50 rfl rfl (by decide) rfl ?_
          refine mj_goto (tgt := 12) X dX8_hidOf_53 (by decide) ?_
          exact mj_sub [2, 3, 4, 1, 0] rfl (ih h8 (-1 : Int32) (m4 + 1) hf)
        · have hf := mm_t c11 hf
          refine mj_iload X dX8_hidOf_43 4 rfl ?_
          refine mj_goto (tgt := 49) X dX8_hidOf_45 (by decide) ?_
          refine mj_istore_n (lo' := [(3, .int m4), (0, .ref (ad 0)), (1, .int p1), (2, .int p2), (4, .int m4)]) X dX8_hidOf_49 (by decide) rfl ?_
          refine mj_iinc (k := 4) (v := (m4 + 1)) (lo' := [(4, .int (m4 + 1)), (3, .int m4), (0, .ref (ad 0)), (1, .int p1), (2, .int p2)]) X dX8_hidOf_50 rfl rfl (by decide) rfl ?_
          refine mj_goto (tgt := 12) X dX8_hidOf_53 (by decide) ?_
          exact mj_sub [2, 3, 4, 1, 0] rfl (ih h8 m4 (m4 + 1) hf)
set_option maxHeartbeats 4000000 in
set_option maxRecDepth 100000 in
theorem kX8_hidOf (l : Launch) (D : va_G) (t1 t2 : Nat) (cI : ClassId) (cZ : ClassId) (ad : Nat → Nat)  (N : Nat) (h : mm_M) (a0 : Int32) (h1 : mm_M) (r : Int32) (hf : fX8_hidOf N h a0 = some (h1, r)) : mm_Ki l yX8_hidOf wsX8_hidOf rmX8_hidOf D (my_ty cI cZ) t1 t2 (my_w cI cZ ad) [.ref (ad 0), .int a0] h r h1 := by
  refine mm_open_i [.ref (ad 0), .int a0] h r h1 RX8 (by decide) rfl rfl (Nat.le_of_ble_eq_true rfl) ?_
  intro p e s m below meth c A X hr hlocks
  have RET : ∀ (h : mm_M) (pc : Nat) (lo : List (Nat × Value)) (v : Int32), decode cX8_hidOf pc = .ok (.ireturn, 1) → (h, v) = (h1, r) → mm_J p l e rmX8_hidOf s m ([.ref (ad 0), .int a0] : List Value).toArray below meth c 0 0 (MQ below (va_Qi (fun (r' : Int32) (u : mm_M) => r' = r ∧ u = h1) (mm_Post D (my_w cI cZ ad) A) A) ([.ref (ad 0), .int a0] : List Value).toArray s 0 0 A) D (my_w cI cZ ad) A 5 h pc lo [.int v] := by
    intro h2 pc lo v hd he
    cases he
    exact mj_iret X hr rfl hlocks hd
  generalize hout : (h1, r) = out at hf RET
  unfold fX8_hidOf at hf
  refine mj_lo (lo' := [(0, .ref (ad 0)), (1, .int a0)]) rfl ?_
  refine mj_aload_n X dX8_hidOf_0 0 rfl ?_
  refine mj_get X inwX8_hidOf_X8 (my_at my_oX8 h) rfl 7 (by decide) rfl lnX8_hidOf_0 rfl dX8_hidOf_1 ?_
  refine mj_iload_n X dX8_hidOf_4 1 rfl ?_
  obtain ⟨g1, hf⟩ := mm_g hf
  refine mj_iald X 0 (my_at my_a6 h) rfl g1 dX8_hidOf_5 ?_
  obtain ⟨x2, ex2, hf⟩ := mm_l hf
  refine mj_topi ex2 ?_
  refine mj_istore_n (lo' := [(2, .int x2), (0, .ref (ad 0)), (1, .int a0)]) X dX8_hidOf_6 (by decide) rfl ?_
  refine mj_iconst (v := (-1 : Int32)) X dX8_hidOf_7 (by decide) ?_
  refine mj_istore_n (lo' := [(3, .int (-1 : Int32)), (2, .int x2), (0, .ref (ad 0)), (1, .int a0)]) X dX8_hidOf_8 (by decide) rfl ?_
  refine mj_iconst (v := (0 : Int32)) X dX8_hidOf_9 (by decide) ?_
  refine mj_istore (lo' := [(4, .int (0 : Int32)), (3, .int (-1 : Int32)), (2, .int x2), (0, .ref (ad 0)), (1, .int a0)]) X dX8_hidOf_10 (by decide) rfl ?_
  refine mj_sub [3, 4, 2, 1, 0] rfl (wX8_hidOf_L12 X out RET N a0 x2 _ (fun h12 v13 hf => ?_) N h (-1 : Int32) (0 : Int32) hf)
  refine mj_aload_n X dX8_hidOf_56 0 rfl ?_
  refine mj_get X inwX8_hidOf_X8 (my_at my_oX8 h12) rfl 7 (by decide) rfl lnX8_hidOf_0 rfl dX8_hidOf_57 ?_
  refine mj_iload_n X dX8_hidOf_60 1 rfl ?_
  refine mj_iload_n X dX8_hidOf_61 2 rfl ?_
  obtain ⟨h14, eh14, hf⟩ := mm_l hf
  refine mj_iast X 0 (my_at my_a6 h12) rfl g1 (my_ast my_a6 eh14) dX8_hidOf_62 ?_
  refine mj_iload_n X dX8_hidOf_63 3 rfl ?_
  exact RET h14 _ _ _ dX8_hidOf_64 (Option.some.inj hf)
abbrev rmX8_hid : Room := { frames := 6, cells := 0, slots := 0, locals := 140 }
set_option maxHeartbeats 4000000 in
set_option maxRecDepth 100000 in
theorem kX8_hid (l : Launch) (D : va_G) (t1 t2 : Nat) (cI : ClassId) (cZ : ClassId) (ad : Nat → Nat)  (N : Nat) (h : mm_M) (a0 : Int32) (h1 : mm_M) (r : Int32) (hf : fX8_hid N h a0 = some (h1, r)) : mm_Ki l yX8_hid wsX8_hid rmX8_hid D (my_ty cI cZ) t1 t2 (my_w cI cZ ad) [.ref (ad 0), .int a0] h r h1 := by
  refine mm_open_i [.ref (ad 0), .int a0] h r h1 RX8 (by decide) rfl rfl (Nat.le_of_ble_eq_true rfl) ?_
  intro p e s m below meth c A X hr hlocks
  have RET : ∀ (h : mm_M) (pc : Nat) (lo : List (Nat × Value)) (v : Int32), decode cX8_hid pc = .ok (.ireturn, 1) → (h, v) = (h1, r) → mm_J p l e rmX8_hid s m ([.ref (ad 0), .int a0] : List Value).toArray below meth c 0 0 (MQ below (va_Qi (fun (r' : Int32) (u : mm_M) => r' = r ∧ u = h1) (mm_Post D (my_w cI cZ ad) A) A) ([.ref (ad 0), .int a0] : List Value).toArray s 0 0 A) D (my_w cI cZ ad) A 2 h pc lo [.int v] := by
    intro h2 pc lo v hd he
    cases he
    exact mj_iret X hr rfl hlocks hd
  generalize hout : (h1, r) = out at hf RET
  unfold fX8_hid at hf
  refine mj_lo (lo' := [(0, .ref (ad 0)), (1, .int a0)]) rfl ?_
  refine mj_aload_n X dX8_hid_0 0 rfl ?_
  refine mj_iload_n X dX8_hid_1 1 rfl ?_
  obtain ⟨h1, r2, q3, hf⟩ := mm_c hf
  refine mj_callVi (As := [.int a0]) (rest := []) X (kX8_isPerson l D t1 t2 cI cZ ad N h a0 h1 r2 q3) (cwV 1 X.2.2.2.2.1 gX8_hid_X8_isPerson rfl rfl rfl (by decide +kernel) ⟨Nat.le_of_ble_eq_true rfl, Nat.le_of_ble_eq_true rfl⟩) (my_at my_oX8 h) rfl rfl rfl rfl (Nat.le_of_ble_eq_true rfl) ⟨Nat.zero_le _, Nat.zero_le _⟩ dX8_hid_2 ?_
  refine mj_if_eq (tgt := 16) X dX8_hid_5 (by decide) (fun c4 => ?_) (fun c4 => ?_)
  · have hf := mm_t c4 hf
    refine mj_bipush (v := (-2 : Int32)) X dX8_hid_16 (by decide) ?_
    exact RET h1 _ _ _ dX8_hid_18 (Option.some.inj hf)
  · have hf := mm_f c4 hf
    refine mj_aload_n X dX8_hid_8 0 rfl ?_
    refine mj_iload_n X dX8_hid_9 1 rfl ?_
    obtain ⟨h5, r6, q7, hf⟩ := mm_c hf
    refine mj_callVi (As := [.int a0]) (rest := []) X (kX8_hidOf l D t1 t2 cI cZ ad N h1 a0 h5 r6 q7) (cwV 1 X.2.2.2.2.1 gX8_hid_X8_hidOf rfl rfl rfl (by decide +kernel) ⟨Nat.le_of_ble_eq_true rfl, Nat.le_of_ble_eq_true rfl⟩) (my_at my_oX8 h1) rfl rfl rfl rfl (Nat.le_of_ble_eq_true rfl) ⟨Nat.zero_le _, Nat.zero_le _⟩ dX8_hid_10 ?_
    refine mj_goto (tgt := 18) X dX8_hid_13 (by decide) ?_
    exact RET h5 _ _ _ dX8_hid_18 (Option.some.inj hf)
end
