section
variable {p : Program} {l : Launch} {e : Env} {s : State} {m : MethodId} {args : Array Value} {below : List Frame} {meth : Method} {c : Code} {Q : State → Prop} {D : va_G} {A : Nat → Prop} {t1 t2 : Nat} {cI cT cS cZ : ClassId} {ad : Nat → Nat}
abbrev rmX8_count : Room := { frames := 5, cells := 0, slots := 0, locals := 113 }
theorem inwX8_count_X8 : ∀ w ∈ wsX80, w ∈ wsX8_count := by
  intro w hw
  have h9 : wsX80 = (wsX8_count.drop 68).take 29 := rfl
  rw [h9] at hw
  exact List.mem_of_mem_drop (List.mem_of_mem_take hw)
theorem lnX8_count_0 : Cond.fieldLink RX8 7 "RichestPaysModel" "typed" "[I" ∈ wsX8_count := List.mem_of_getElem? (i := 1) rfl
theorem lnX8_count_1 : Cond.fieldLink RX8 189 "RichestPaysModel" "sights" "I" ∈ wsX8_count := List.mem_of_getElem? (i := 2) rfl
theorem lnX8_count_2 : Cond.fieldLink RX8 213 "RichestPaysModel" "finding" "I" ∈ wsX8_count := List.mem_of_getElem? (i := 3) rfl
set_option maxHeartbeats 4000000 in
set_option maxRecDepth 100000 in
theorem kX8_count (l : Launch) (D : va_G) (t1 t2 : Nat) (cI : ClassId) (cZ : ClassId) (ad : Nat → Nat)  (N : Nat) (h : mm_M) (a0 : Int32) (h1 : mm_M) (r : Int32) (hf : fX8_count N h a0 = some (h1, r)) : mm_Ki l yX8_count wsX8_count rmX8_count D (my_ty cI cZ) t1 t2 (my_w cI cZ ad) [.ref (ad 0), .int a0] h r h1 := by
  refine mm_open_i [.ref (ad 0), .int a0] h r h1 RX8 (by decide) rfl rfl (Nat.le_of_ble_eq_true rfl) ?_
  intro p e s m below meth c A X hr hlocks
  have RET : ∀ (h : mm_M) (pc : Nat) (lo : List (Nat × Value)) (v : Int32), decode cX8_count pc = .ok (.ireturn, 1) → (h, v) = (h1, r) → mm_J p l e rmX8_count s m ([.ref (ad 0), .int a0] : List Value).toArray below meth c 0 0 (MQ below (va_Qi (fun (r' : Int32) (u : mm_M) => r' = r ∧ u = h1) (mm_Post D (my_w cI cZ ad) A) A) ([.ref (ad 0), .int a0] : List Value).toArray s 0 0 A) D (my_w cI cZ ad) A 2 h pc lo [.int v] := by
    intro h2 pc lo v hd he
    cases he
    exact mj_iret X hr rfl hlocks hd
  generalize hout : (h1, r) = out at hf RET
  unfold fX8_count at hf
  refine mj_lo (lo' := [(0, .ref (ad 0)), (1, .int a0)]) rfl ?_
  refine mj_iload_n X dX8_count_0 1 rfl ?_
  by_cases c1 : a0 = 0
  · have hf := mm_t c1 hf
    refine mj_tableIn (tgt := 52) (off := 51) X dX8_count_1 (by rw [c1]; decide) (by rw [c1]; decide) (by rw [c1]; decide) (by decide) ?_
    refine mj_aload_n X dX8_count_52 0 rfl ?_
    refine mj_iload_n X dX8_count_53 1 rfl ?_
    obtain ⟨h2, r3, q4, hf⟩ := mm_c hf
    refine mj_callVi (As := [.int a0]) (rest := []) X (kX8_sumOf l D t1 t2 cI cZ ad N h a0 h2 r3 q4) (cwV 1 X.2.2.2.2.1 gX8_count_X8_sumOf rfl rfl rfl (by decide +kernel) ⟨Nat.le_of_ble_eq_true rfl, Nat.le_of_ble_eq_true rfl⟩) (my_at my_oX8 h) rfl rfl rfl rfl (Nat.le_of_ble_eq_true rfl) ⟨Nat.zero_le _, Nat.zero_le _⟩ dX8_count_54 ?_
    exact RET h2 _ _ _ dX8_count_57 (Option.some.inj hf)
  · have hf := mm_f c1 hf
    by_cases c5 : a0 = 1
    · have hf := mm_t c5 hf
      refine mj_tableIn (tgt := 52) (off := 51) X dX8_count_1 (by rw [c5]; decide) (by rw [c5]; decide) (by rw [c5]; decide) (by decide) ?_
      refine mj_aload_n X dX8_count_52 0 rfl ?_
      refine mj_iload_n X dX8_count_53 1 rfl ?_
      obtain ⟨h6, r7, q8, hf⟩ := mm_c hf
      refine mj_callVi (As := [.int a0]) (rest := []) X (kX8_sumOf l D t1 t2 cI cZ ad N h a0 h6 r7 q8) (cwV 1 X.2.2.2.2.1 gX8_count_X8_sumOf rfl rfl rfl (by decide +kernel) ⟨Nat.le_of_ble_eq_true rfl, Nat.le_of_ble_eq_true rfl⟩) (my_at my_oX8 h) rfl rfl rfl rfl (Nat.le_of_ble_eq_true rfl) ⟨Nat.zero_le _, Nat.zero_le _⟩ dX8_count_54 ?_
      exact RET h6 _ _ _ dX8_count_57 (Option.some.inj hf)
    · have hf := mm_f c5 hf
      by_cases c9 : a0 = 2
      · have hf := mm_t c9 hf
        refine mj_tableIn (tgt := 58) (off := 57) X dX8_count_1 (by rw [c9]; decide) (by rw [c9]; decide) (by rw [c9]; decide) (by decide) ?_
        refine mj_aload_n X dX8_count_58 0 rfl ?_
        refine mj_get X inwX8_count_X8 (my_at my_oX8 h) rfl 0 (by decide) rfl lnX8_count_0 rfl dX8_count_59 ?_
        refine mj_iload_n X dX8_count_62 1 rfl ?_
        refine mj_iconst (v := (2 : Int32)) X dX8_count_63 (by decide) ?_
        refine mj_isub X dX8_count_64 ?_
        obtain ⟨g10, hf⟩ := mm_g hf
        refine mj_iald X 0 (my_at my_a1 h) rfl g10 dX8_count_65 ?_
        exact RET h _ _ _ dX8_count_66 (Option.some.inj hf)
      · have hf := mm_f c9 hf
        by_cases c11 : a0 = 3
        · have hf := mm_t c11 hf
          refine mj_tableIn (tgt := 58) (off := 57) X dX8_count_1 (by rw [c11]; decide) (by rw [c11]; decide) (by rw [c11]; decide) (by decide) ?_
          refine mj_aload_n X dX8_count_58 0 rfl ?_
          refine mj_get X inwX8_count_X8 (my_at my_oX8 h) rfl 0 (by decide) rfl lnX8_count_0 rfl dX8_count_59 ?_
          refine mj_iload_n X dX8_count_62 1 rfl ?_
          refine mj_iconst (v := (2 : Int32)) X dX8_count_63 (by decide) ?_
          refine mj_isub X dX8_count_64 ?_
          obtain ⟨g12, hf⟩ := mm_g hf
          refine mj_iald X 0 (my_at my_a1 h) rfl g12 dX8_count_65 ?_
          exact RET h _ _ _ dX8_count_66 (Option.some.inj hf)
        · have hf := mm_f c11 hf
          by_cases c13 : a0 = 4
          · have hf := mm_t c13 hf
            refine mj_tableIn (tgt := 67) (off := 66) X dX8_count_1 (by rw [c13]; decide) (by rw [c13]; decide) (by rw [c13]; decide) (by decide) ?_
            refine mj_aload_n X dX8_count_67 0 rfl ?_
            refine mj_get X inwX8_count_X8 (my_at my_oX8 h) rfl 19 (by decide) rfl lnX8_count_1 rfl dX8_count_68 ?_
            exact RET h _ _ _ dX8_count_71 (Option.some.inj hf)
          · have hf := mm_f c13 hf
            by_cases c14 : a0 = 5
            · have hf := mm_t c14 hf
              refine mj_tableIn (tgt := 52) (off := 51) X dX8_count_1 (by rw [c14]; decide) (by rw [c14]; decide) (by rw [c14]; decide) (by decide) ?_
              refine mj_aload_n X dX8_count_52 0 rfl ?_
              refine mj_iload_n X dX8_count_53 1 rfl ?_
              obtain ⟨h15, r16, q17, hf⟩ := mm_c hf
              refine mj_callVi (As := [.int a0]) (rest := []) X (kX8_sumOf l D t1 t2 cI cZ ad N h a0 h15 r16 q17) (cwV 1 X.2.2.2.2.1 gX8_count_X8_sumOf rfl rfl rfl (by decide +kernel) ⟨Nat.le_of_ble_eq_true rfl, Nat.le_of_ble_eq_true rfl⟩) (my_at my_oX8 h) rfl rfl rfl rfl (Nat.le_of_ble_eq_true rfl) ⟨Nat.zero_le _, Nat.zero_le _⟩ dX8_count_54 ?_
              exact RET h15 _ _ _ dX8_count_57 (Option.some.inj hf)
            · have hf := mm_f c14 hf
              by_cases c18 : a0 = 6
              · have hf := mm_t c18 hf
                refine mj_tableIn (tgt := 52) (off := 51) X dX8_count_1 (by rw [c18]; decide) (by rw [c18]; decide) (by rw [c18]; decide) (by decide) ?_
                refine mj_aload_n X dX8_count_52 0 rfl ?_
                refine mj_iload_n X dX8_count_53 1 rfl ?_
                obtain ⟨h19, r20, q21, hf⟩ := mm_c hf
                refine mj_callVi (As := [.int a0]) (rest := []) X (kX8_sumOf l D t1 t2 cI cZ ad N h a0 h19 r20 q21) (cwV 1 X.2.2.2.2.1 gX8_count_X8_sumOf rfl rfl rfl (by decide +kernel) ⟨Nat.le_of_ble_eq_true rfl, Nat.le_of_ble_eq_true rfl⟩) (my_at my_oX8 h) rfl rfl rfl rfl (Nat.le_of_ble_eq_true rfl) ⟨Nat.zero_le _, Nat.zero_le _⟩ dX8_count_54 ?_
                exact RET h19 _ _ _ dX8_count_57 (Option.some.inj hf)
              · have hf := mm_f c18 hf
                by_cases c22 : a0 = 7
                · have hf := mm_t c22 hf
                  refine mj_tableIn (tgt := 52) (off := 51) X dX8_count_1 (by rw [c22]; decide) (by rw [c22]; decide) (by rw [c22]; decide) (by decide) ?_
                  refine mj_aload_n X dX8_count_52 0 rfl ?_
                  refine mj_iload_n X dX8_count_53 1 rfl ?_
                  obtain ⟨h23, r24, q25, hf⟩ := mm_c hf
                  refine mj_callVi (As := [.int a0]) (rest := []) X (kX8_sumOf l D t1 t2 cI cZ ad N h a0 h23 r24 q25) (cwV 1 X.2.2.2.2.1 gX8_count_X8_sumOf rfl rfl rfl (by decide +kernel) ⟨Nat.le_of_ble_eq_true rfl, Nat.le_of_ble_eq_true rfl⟩) (my_at my_oX8 h) rfl rfl rfl rfl (Nat.le_of_ble_eq_true rfl) ⟨Nat.zero_le _, Nat.zero_le _⟩ dX8_count_54 ?_
                  exact RET h23 _ _ _ dX8_count_57 (Option.some.inj hf)
                · have hf := mm_f c22 hf
                  by_cases c26 : a0 = 8
                  · have hf := mm_t c26 hf
                    refine mj_tableIn (tgt := 72) (off := 71) X dX8_count_1 (by rw [c26]; decide) (by rw [c26]; decide) (by rw [c26]; decide) (by decide) ?_
                    refine mj_aload_n X dX8_count_72 0 rfl ?_
                    refine mj_get X inwX8_count_X8 (my_at my_oX8 h) rfl 28 (by decide) rfl lnX8_count_2 rfl dX8_count_73 ?_
                    exact RET h _ _ _ dX8_count_76 (Option.some.inj hf)
                  · have hf := mm_f c26 hf
                    refine mj_tableOut (tgt := 77) X dX8_count_1 (mm_tout (by intro j h1 h2; rcases (show j = 0 ∨ j = 1 ∨ j = 2 ∨ j = 3 ∨ j = 4 ∨ j = 5 ∨ j = 6 ∨ j = 7 ∨ j = 8 by omega) with rfl | rfl | rfl | rfl | rfl | rfl | rfl | rfl | rfl; exact lv_neT c1 (by decide); exact lv_neT c5 (by decide); exact lv_neT c9 (by decide); exact lv_neT c11 (by decide); exact lv_neT c13 (by decide); exact lv_neT c14 (by decide); exact lv_neT c18 (by decide); exact lv_neT c22 (by decide); exact lv_neT c26 (by decide))) (by decide) ?_
                    refine mj_bipush (v := (-2 : Int32)) X dX8_count_77 (by decide) ?_
                    exact RET h _ _ _ dX8_count_79 (Option.some.inj hf)
abbrev rmX8_digest : Room := { frames := 6, cells := 0, slots := 0, locals := 140 }
theorem lnX8_digest_0 : Cond.constantLong RX8 227 (17) ∈ wsX8_digest := List.mem_of_getElem? (i := 1) rfl
theorem lnX8_digest_1 : Cond.constantLong RX8 229 (31) ∈ wsX8_digest := List.mem_of_getElem? (i := 2) rfl
theorem inwX8_digest_X8 : ∀ w ∈ wsX80, w ∈ wsX8_digest := by
  intro w hw
  have h9 : wsX80 = (wsX8_digest.drop 146).take 29 := rfl
  rw [h9] at hw
  exact List.mem_of_mem_drop (List.mem_of_mem_take hw)
theorem lnX8_digest_2 : Cond.fieldLink RX8 89 "RichestPaysModel" "people" "I" ∈ wsX8_digest := List.mem_of_getElem? (i := 3) rfl
theorem lnX8_digest_3 : Cond.fieldLink RX8 16 "RichestPaysModel" "purses" "[I" ∈ wsX8_digest := List.mem_of_getElem? (i := 4) rfl
theorem lnX8_digest_4 : Cond.fieldLink RX8 19 "RichestPaysModel" "appetites" "[I" ∈ wsX8_digest := List.mem_of_getElem? (i := 5) rfl
theorem lnX8_digest_5 : Cond.fieldLink RX8 97 "RichestPaysModel" "rounds" "I" ∈ wsX8_digest := List.mem_of_getElem? (i := 6) rfl
set_option maxHeartbeats 4000000 in
set_option maxRecDepth 100000 in
theorem wX8_digest_L6 (X : mm_X p s m args c cX8_digest RX8 wsX8_digest 5 D (my_ty cI cZ) t1 t2 A) (out : mm_M × Int64) (RET : ∀ (h : mm_M) (pc : Nat) (lo : List (Nat × Value)) (v : Int64), decode cX8_digest pc = .ok (.lreturn, 1) → (h, v) = out → mm_J p l e rmX8_digest s m args below meth c 0 0 Q D (my_w cI cZ ad) A 5 h pc lo [.long v]) (N : Nat)   (k : mm_M → Int64 → Option (mm_M × Int64)) (HK : ∀ (h : mm_M) (m1 : Int64), k h m1 = some out → mm_J p l e rmX8_digest s m args below meth c 0 0 Q D (my_w cI cZ ad) A 5 h 31 [(0, .ref (ad 0)), (1, .long m1)] []) : ∀ (n : Nat) (h : mm_M) (m1 : Int64) (m3 : Int32), fX8_digest_L6 N k n h m1 m3 = some out → mm_J p l e rmX8_digest s m args below meth c 0 0 Q D (my_w cI cZ ad) A 5 h 6 [(0, .ref (ad 0)), (1, .long m1), (3, .int m3)] [] := by
  intro n
  induction n with
  | zero =>
    intro h m1 m3 hf
    cases hf
  | succ n ih =>
    intro h m1 m3 hf
    rw [fX8_digest_L6] at hf
    refine mj_iload_n X dX8_digest_6 2 rfl ?_
    refine mj_bipush (v := (8 : Int32)) X dX8_digest_7 (by decide) ?_
    refine mj_icmp_ge (tgt := 31) X dX8_digest_9 (by decide) (fun c1 => ?_) (fun c1 => ?_)
    · have hf := mm_t c1 hf
      exact mj_sub [0, 1] rfl (HK h m1 hf)
    · have hf := mm_f c1 hf
      refine mj_ldc2 (v := (31 : Int64)) X lnX8_digest_1 dX8_digest_12 ?_
      refine mj_lload_n X dX8_digest_15 1 rfl ?_
      refine mj_lmul X dX8_digest_16 ?_
      refine mj_aload_n X dX8_digest_17 0 rfl ?_
      refine mj_iload_n X dX8_digest_18 2 rfl ?_
      obtain ⟨h2, r3, q4, hf⟩ := mm_c hf
      refine mj_callVi (As := [.int m3]) (rest := [.long ((31 : Int64) * m1)]) X (kX8_count l D t1 t2 cI cZ ad N h m3 h2 r3 q4) (cwV 1 X.2.2.2.2.1 gX8_digest_X8_count rfl rfl rfl (by decide +kernel) ⟨Nat.le_of_ble_eq_true rfl, Nat.le_of_ble_eq_true rfl⟩) (my_at my_oX8 h) rfl rfl rfl rfl (Nat.le_of_ble_eq_true rfl) ⟨Nat.zero_le _, Nat.zero_le _⟩ dX8_digest_19 ?_
      refine mj_i2l X dX8_digest_22 ?_
      refine mj_ladd X dX8_digest_23 ?_
      obtain ⟨x5, ex5, hf⟩ := mm_l hf
      refine mj_topl ex5 ?_
      refine mj_lstore_n (lo' := [(1, .long x5), (0, .ref (ad 0)), (3, .int m3)]) X dX8_digest_24 (by decide) rfl ?_
      refine mj_iinc (k := 2) (v := (m3 + 1)) (lo' := [(3, .int (m3 + 1)), (1, .long x5), (0, .ref (ad 0))]) X dX8_digest_25 rfl rfl (by decide) rfl ?_
      refine mj_goto (tgt := 6) X dX8_digest_28 (by decide) ?_
      exact mj_sub [2, 1, 0] rfl (ih h2 x5 (m3 + 1) hf)
set_option maxHeartbeats 4000000 in
set_option maxRecDepth 100000 in
theorem wX8_digest_L98 (X : mm_X p s m args c cX8_digest RX8 wsX8_digest 5 D (my_ty cI cZ) t1 t2 A) (out : mm_M × Int64) (RET : ∀ (h : mm_M) (pc : Nat) (lo : List (Nat × Value)) (v : Int64), decode cX8_digest pc = .ok (.lreturn, 1) → (h, v) = out → mm_J p l e rmX8_digest s m args below meth c 0 0 Q D (my_w cI cZ ad) A 5 h pc lo [.long v]) (N : Nat)  (p3 : Int32) (k : mm_M → Int64 → Option (mm_M × Int64)) (HK : ∀ (h : mm_M) (m1 : Int64), k h m1 = some out → mm_J p l e rmX8_digest s m args below meth c 0 0 Q D (my_w cI cZ ad) A 5 h 129 [(0, .ref (ad 0)), (1, .long m1), (3, .int p3)] []) : ∀ (n : Nat) (h : mm_M) (m1 : Int64) (m4 : Int32), fX8_digest_L98 N p3 k n h m1 m4 = some out → mm_J p l e rmX8_digest s m args below meth c 0 0 Q D (my_w cI cZ ad) A 5 h 98 [(0, .ref (ad 0)), (1, .long m1), (3, .int p3), (4, .int m4)] [] := by
  intro n
  induction n with
  | zero =>
    intro h m1 m4 hf
    cases hf
  | succ n ih =>
    intro h m1 m4 hf
    rw [fX8_digest_L98] at hf
    refine mj_iload X dX8_digest_98 3 rfl ?_
    refine mj_iconst (v := (4 : Int32)) X dX8_digest_100 (by decide) ?_
    refine mj_icmp_ge (tgt := 129) X dX8_digest_101 (by decide) (fun c20 => ?_) (fun c20 => ?_)
    · have hf := mm_t c20 hf
      exact mj_sub [0, 1, 2] rfl (HK h m1 hf)
    · have hf := mm_f c20 hf
      refine mj_ldc2 (v := (31 : Int64)) X lnX8_digest_1 dX8_digest_104 ?_
      refine mj_lload_n X dX8_digest_107 1 rfl ?_
      refine mj_lmul X dX8_digest_108 ?_
      refine mj_aload_n X dX8_digest_109 0 rfl ?_
      refine mj_iload_n X dX8_digest_110 2 rfl ?_
      refine mj_aload_n X dX8_digest_111 0 rfl ?_
      refine mj_get X inwX8_digest_X8 (my_at my_oX8 h) rfl 5 (by decide) rfl lnX8_digest_5 rfl dX8_digest_112 ?_
      refine mj_iload X dX8_digest_115 3 rfl ?_
      obtain ⟨h21, r22, q23, hf⟩ := mm_c hf
      refine mj_callVi (As := [.int p3, .int (h 0 5), .int m4]) (rest := [.long ((31 : Int64) * m1)]) X (kX8_stateOf l D t1 t2 cI cZ ad N h p3 (h 0 5) m4 h21 r22 q23) (cwV 3 X.2.2.2.2.1 gX8_digest_X8_stateOf rfl rfl rfl (by decide +kernel) ⟨Nat.le_of_ble_eq_true rfl, Nat.le_of_ble_eq_true rfl⟩) (my_at my_oX8 h) rfl rfl rfl rfl (Nat.le_of_ble_eq_true rfl) ⟨Nat.zero_le _, Nat.zero_le _⟩ dX8_digest_117 ?_
      refine mj_i2l X dX8_digest_120 ?_
      refine mj_ladd X dX8_digest_121 ?_
      obtain ⟨x24, ex24, hf⟩ := mm_l hf
      refine mj_topl ex24 ?_
      refine mj_lstore_n (lo' := [(1, .long x24), (0, .ref (ad 0)), (3, .int p3), (4, .int m4)]) X dX8_digest_122 (by decide) rfl ?_
      refine mj_iinc (k := 3) (v := (m4 + 1)) (lo' := [(4, .int (m4 + 1)), (1, .long x24), (0, .ref (ad 0)), (3, .int p3)]) X dX8_digest_123 rfl rfl (by decide) rfl ?_
      refine mj_goto (tgt := 98) X dX8_digest_126 (by decide) ?_
      exact mj_sub [2, 1, 3, 0] rfl (ih h21 x24 (m4 + 1) hf)
set_option maxHeartbeats 4000000 in
set_option maxRecDepth 100000 in
theorem wX8_digest_L59 (X : mm_X p s m args c cX8_digest RX8 wsX8_digest 5 D (my_ty cI cZ) t1 t2 A) (out : mm_M × Int64) (RET : ∀ (h : mm_M) (pc : Nat) (lo : List (Nat × Value)) (v : Int64), decode cX8_digest pc = .ok (.lreturn, 1) → (h, v) = out → mm_J p l e rmX8_digest s m args below meth c 0 0 Q D (my_w cI cZ ad) A 5 h pc lo [.long v]) (N : Nat)   (k : mm_M → Int64 → Option (mm_M × Int64)) (HK : ∀ (h : mm_M) (m1 : Int64), k h m1 = some out → mm_J p l e rmX8_digest s m args below meth c 0 0 Q D (my_w cI cZ ad) A 5 h 176 [(0, .ref (ad 0)), (1, .long m1)] []) : ∀ (n : Nat) (h : mm_M) (m1 : Int64) (m3 : Int32), fX8_digest_L59 N k n h m1 m3 = some out → mm_J p l e rmX8_digest s m args below meth c 0 0 Q D (my_w cI cZ ad) A 5 h 59 [(0, .ref (ad 0)), (1, .long m1), (3, .int m3)] [] := by
  intro n
  induction n with
  | zero =>
    intro h m1 m3 hf
    cases hf
  | succ n ih =>
    intro h m1 m3 hf
    rw [fX8_digest_L59] at hf
    refine mj_iload_n X dX8_digest_59 2 rfl ?_
    refine mj_aload_n X dX8_digest_60 0 rfl ?_
    refine mj_get X inwX8_digest_X8 (my_at my_oX8 h) rfl 2 (by decide) rfl lnX8_digest_2 rfl dX8_digest_61 ?_
    refine mj_icmp_ge (tgt := 176) X dX8_digest_64 (by decide) (fun c16 => ?_) (fun c16 => ?_)
    · have hf := mm_t c16 hf
      exact mj_sub [0, 1] rfl (HK h m1 hf)
    · have hf := mm_f c16 hf
      refine mj_ldc2 (v := (31 : Int64)) X lnX8_digest_1 dX8_digest_67 ?_
      refine mj_lload_n X dX8_digest_70 1 rfl ?_
      refine mj_lmul X dX8_digest_71 ?_
      refine mj_aload_n X dX8_digest_72 0 rfl ?_
      refine mj_get X inwX8_digest_X8 (my_at my_oX8 h) rfl 3 (by decide) rfl lnX8_digest_3 rfl dX8_digest_73 ?_
      refine mj_iload_n X dX8_digest_76 2 rfl ?_
      obtain ⟨g17, hf⟩ := mm_g hf
      refine mj_iald X 0 (my_at my_a3 h) rfl g17 dX8_digest_77 ?_
      refine mj_i2l X dX8_digest_78 ?_
      refine mj_ladd X dX8_digest_79 ?_
      obtain ⟨x18, ex18, hf⟩ := mm_l hf
      refine mj_topl ex18 ?_
      refine mj_lstore_n (lo' := [(1, .long x18), (0, .ref (ad 0)), (3, .int m3)]) X dX8_digest_80 (by decide) rfl ?_
      refine mj_ldc2 (v := (31 : Int64)) X lnX8_digest_1 dX8_digest_81 ?_
      refine mj_lload_n X dX8_digest_84 0 rfl ?_
      refine mj_lmul X dX8_digest_85 ?_
      refine mj_aload_n X dX8_digest_86 1 rfl ?_
      refine mj_get X inwX8_digest_X8 (my_at my_oX8 h) rfl 4 (by decide) rfl lnX8_digest_4 rfl dX8_digest_87 ?_
      refine mj_iload_n X dX8_digest_90 2 rfl ?_
      refine mj_iald X 0 (my_at my_a4 h) rfl g17 dX8_digest_91 ?_
      refine mj_i2l X dX8_digest_92 ?_
      refine mj_ladd X dX8_digest_93 ?_
      obtain ⟨x19, ex19, hf⟩ := mm_l hf
      refine mj_topl ex19 ?_
      refine mj_lstore_n (lo' := [(1, .long x19), (0, .ref (ad 0)), (3, .int m3)]) X dX8_digest_94 (by decide) rfl ?_
      refine mj_iconst (v := (0 : Int32)) X dX8_digest_95 (by decide) ?_
      refine mj_istore (lo' := [(4, .int (0 : Int32)), (1, .long x19), (0, .ref (ad 0)), (3, .int m3)]) X dX8_digest_96 (by decide) rfl ?_
      refine mj_sub [2, 1, 3, 0] rfl (wX8_digest_L98 X out RET N m3 _ (fun h25 v26 hf => ?_) N h x19 (0 : Int32) hf)
      refine mj_ldc2 (v := (31 : Int64)) X lnX8_digest_1 dX8_digest_129 ?_
      refine mj_lload_n X dX8_digest_132 1 rfl ?_
      refine mj_lmul X dX8_digest_133 ?_
      refine mj_aload_n X dX8_digest_134 0 rfl ?_
      refine mj_iload_n X dX8_digest_135 2 rfl ?_
      obtain ⟨h27, r28, q29, hf⟩ := mm_c hf
      refine mj_callVi (As := [.int m3]) (rest := [.long ((31 : Int64) * v26)]) X (kX8_restOf l D t1 t2 cI cZ ad N h25 m3 h27 r28 q29) (cwV 1 X.2.2.2.2.1 gX8_digest_X8_restOf rfl rfl rfl (by decide +kernel) ⟨Nat.le_of_ble_eq_true rfl, Nat.le_of_ble_eq_true rfl⟩) (my_at my_oX8 h25) rfl rfl rfl rfl (Nat.le_of_ble_eq_true rfl) ⟨Nat.zero_le _, Nat.zero_le _⟩ dX8_digest_136 ?_
      refine mj_i2l X dX8_digest_139 ?_
      refine mj_ladd X dX8_digest_140 ?_
      obtain ⟨x30, ex30, hf⟩ := mm_l hf
      refine mj_topl ex30 ?_
      refine mj_lstore_n (lo' := [(1, .long x30), (0, .ref (ad 0)), (3, .int m3)]) X dX8_digest_141 (by decide) rfl ?_
      refine mj_ldc2 (v := (31 : Int64)) X lnX8_digest_1 dX8_digest_142 ?_
      refine mj_lload_n X dX8_digest_145 0 rfl ?_
      refine mj_lmul X dX8_digest_146 ?_
      refine mj_aload_n X dX8_digest_147 1 rfl ?_
      refine mj_iload_n X dX8_digest_148 2 rfl ?_
      refine mj_bipush (v := (10 : Int32)) X dX8_digest_149 (by decide) ?_
      obtain ⟨h31, r32, q33, hf⟩ := mm_c hf
      refine mj_callVi (As := [.int m3, .int (10 : Int32)]) (rest := [.long ((31 : Int64) * x30)]) X (kX8_downBy l D t1 t2 cI cZ ad N h27 m3 (10 : Int32) h31 r32 q33) (cwV 2 X.2.2.2.2.1 gX8_digest_X8_downBy rfl rfl rfl (by decide +kernel) ⟨Nat.le_of_ble_eq_true rfl, Nat.le_of_ble_eq_true rfl⟩) (my_at my_oX8 h27) rfl rfl rfl rfl (Nat.le_of_ble_eq_true rfl) ⟨Nat.zero_le _, Nat.zero_le _⟩ dX8_digest_151 ?_
      refine mj_i2l X dX8_digest_154 ?_
      refine mj_ladd X dX8_digest_155 ?_
      obtain ⟨x34, ex34, hf⟩ := mm_l hf
      refine mj_topl ex34 ?_
      refine mj_lstore_n (lo' := [(1, .long x34), (0, .ref (ad 0)), (3, .int m3)]) X dX8_digest_156 (by decide) rfl ?_
      refine mj_ldc2 (v := (31 : Int64)) X lnX8_digest_1 dX8_digest_157 ?_
      refine mj_lload_n X dX8_digest_160 0 rfl ?_
      refine mj_lmul X dX8_digest_161 ?_
      refine mj_aload_n X dX8_digest_162 1 rfl ?_
      refine mj_iload_n X dX8_digest_163 2 rfl ?_
      obtain ⟨h35, r36, q37, hf⟩ := mm_c hf
      refine mj_callVi (As := [.int m3]) (rest := [.long ((31 : Int64) * x34)]) X (kX8_hidOf l D t1 t2 cI cZ ad N h31 m3 h35 r36 q37) (cwV 1 X.2.2.2.2.1 gX8_digest_X8_hidOf rfl rfl rfl (by decide +kernel) ⟨Nat.le_of_ble_eq_true rfl, Nat.le_of_ble_eq_true rfl⟩) (my_at my_oX8 h31) rfl rfl rfl rfl (Nat.le_of_ble_eq_true rfl) ⟨Nat.zero_le _, Nat.zero_le _⟩ dX8_digest_164 ?_
      refine mj_i2l X dX8_digest_167 ?_
      refine mj_ladd X dX8_digest_168 ?_
      obtain ⟨x38, ex38, hf⟩ := mm_l hf
      refine mj_topl ex38 ?_
      refine mj_lstore_n (lo' := [(1, .long x38), (0, .ref (ad 0)), (3, .int m3)]) X dX8_digest_169 (by decide) rfl ?_
      refine mj_iinc (k := 2) (v := (m3 + 1)) (lo' := [(3, .int (m3 + 1)), (1, .long x38), (0, .ref (ad 0))]) X dX8_digest_170 rfl rfl (by decide) rfl ?_
      refine mj_goto (tgt := 59) X dX8_digest_173 (by decide) ?_
      exact mj_sub [2, 1, 0] rfl (ih h35 x38 (m3 + 1) hf)
set_option maxHeartbeats 4000000 in
set_option maxRecDepth 100000 in
theorem wX8_digest_L217 (X : mm_X p s m args c cX8_digest RX8 wsX8_digest 5 D (my_ty cI cZ) t1 t2 A) (out : mm_M × Int64) (RET : ∀ (h : mm_M) (pc : Nat) (lo : List (Nat × Value)) (v : Int64), decode cX8_digest pc = .ok (.lreturn, 1) → (h, v) = out → mm_J p l e rmX8_digest s m args below meth c 0 0 Q D (my_w cI cZ ad) A 5 h pc lo [.long v]) (N : Nat)  (p3 : Int32) (k : mm_M → Int64 → Option (mm_M × Int64)) (HK : ∀ (h : mm_M) (m1 : Int64), k h m1 = some out → mm_J p l e rmX8_digest s m args below meth c 0 0 Q D (my_w cI cZ ad) A 5 h 245 [(0, .ref (ad 0)), (1, .long m1), (3, .int p3)] []) : ∀ (n : Nat) (h : mm_M) (m1 : Int64) (m4 : Int32), fX8_digest_L217 N p3 k n h m1 m4 = some out → mm_J p l e rmX8_digest s m args below meth c 0 0 Q D (my_w cI cZ ad) A 5 h 217 [(0, .ref (ad 0)), (1, .long m1), (3, .int p3), (4, .int m4)] [] := by
  intro n
  induction n with
  | zero =>
    intro h m1 m4 hf
    cases hf
  | succ n ih =>
    intro h m1 m4 hf
    rw [fX8_digest_L217] at hf
    refine mj_iload X dX8_digest_217 3 rfl ?_
    refine mj_iconst (v := (3 : Int32)) X dX8_digest_219 (by decide) ?_
    refine mj_icmp_ge (tgt := 245) X dX8_digest_220 (by decide) (fun c50 => ?_) (fun c50 => ?_)
    · have hf := mm_t c50 hf
      exact mj_sub [0, 1, 2] rfl (HK h m1 hf)
    · have hf := mm_f c50 hf
      refine mj_ldc2 (v := (31 : Int64)) X lnX8_digest_1 dX8_digest_223 ?_
      refine mj_lload_n X dX8_digest_226 1 rfl ?_
      refine mj_lmul X dX8_digest_227 ?_
      refine mj_aload_n X dX8_digest_228 0 rfl ?_
      refine mj_iload_n X dX8_digest_229 2 rfl ?_
      refine mj_iconst (v := (0 : Int32)) X dX8_digest_230 (by decide) ?_
      refine mj_iload X dX8_digest_231 3 rfl ?_
      obtain ⟨h51, r52, q53, hf⟩ := mm_c hf
      refine mj_callVi (As := [.int p3, .int (0 : Int32), .int m4]) (rest := [.long ((31 : Int64) * m1)]) X (kX8_best l D t1 t2 cI cZ ad N h p3 (0 : Int32) m4 h51 r52 q53) (cwV 3 X.2.2.2.2.1 gX8_digest_X8_best rfl rfl rfl (by decide +kernel) ⟨Nat.le_of_ble_eq_true rfl, Nat.le_of_ble_eq_true rfl⟩) (my_at my_oX8 h) rfl rfl rfl rfl (Nat.le_of_ble_eq_true rfl) ⟨Nat.zero_le _, Nat.zero_le _⟩ dX8_digest_233 ?_
      refine mj_i2l X dX8_digest_236 ?_
      refine mj_ladd X dX8_digest_237 ?_
      obtain ⟨x54, ex54, hf⟩ := mm_l hf
      refine mj_topl ex54 ?_
      refine mj_lstore_n (lo' := [(1, .long x54), (0, .ref (ad 0)), (3, .int p3), (4, .int m4)]) X dX8_digest_238 (by decide) rfl ?_
      refine mj_iinc (k := 3) (v := (m4 + 1)) (lo' := [(4, .int (m4 + 1)), (1, .long x54), (0, .ref (ad 0)), (3, .int p3)]) X dX8_digest_239 rfl rfl (by decide) rfl ?_
      refine mj_goto (tgt := 217) X dX8_digest_242 (by decide) ?_
      exact mj_sub [2, 1, 3, 0] rfl (ih h51 x54 (m4 + 1) hf)
set_option maxHeartbeats 4000000 in
set_option maxRecDepth 100000 in
theorem wX8_digest_L178 (X : mm_X p s m args c cX8_digest RX8 wsX8_digest 5 D (my_ty cI cZ) t1 t2 A) (out : mm_M × Int64) (RET : ∀ (h : mm_M) (pc : Nat) (lo : List (Nat × Value)) (v : Int64), decode cX8_digest pc = .ok (.lreturn, 1) → (h, v) = out → mm_J p l e rmX8_digest s m args below meth c 0 0 Q D (my_w cI cZ ad) A 5 h pc lo [.long v]) (N : Nat)   (k : mm_M → Int64 → Option (mm_M × Int64)) (HK : ∀ (h : mm_M) (m1 : Int64), k h m1 = some out → mm_J p l e rmX8_digest s m args below meth c 0 0 Q D (my_w cI cZ ad) A 5 h 251 [(0, .ref (ad 0)), (1, .long m1)] []) : ∀ (n : Nat) (h : mm_M) (m1 : Int64) (m3 : Int32), fX8_digest_L178 N k n h m1 m3 = some out → mm_J p l e rmX8_digest s m args below meth c 0 0 Q D (my_w cI cZ ad) A 5 h 178 [(0, .ref (ad 0)), (1, .long m1), (3, .int m3)] [] := by
  intro n
  induction n with
  | zero =>
    intro h m1 m3 hf
    cases hf
  | succ n ih =>
    intro h m1 m3 hf
    rw [fX8_digest_L178] at hf
    refine mj_iload_n X dX8_digest_178 2 rfl ?_
    refine mj_aload_n X dX8_digest_179 0 rfl ?_
    refine mj_get X inwX8_digest_X8 (my_at my_oX8 h) rfl 5 (by decide) rfl lnX8_digest_5 rfl dX8_digest_180 ?_
    refine mj_icmp_ge (tgt := 251) X dX8_digest_183 (by decide) (fun c41 => ?_) (fun c41 => ?_)
    · have hf := mm_t c41 hf
      exact mj_sub [0, 1] rfl (HK h m1 hf)
    · have hf := mm_f c41 hf
      refine mj_ldc2 (v := (31 : Int64)) X lnX8_digest_1 dX8_digest_186 ?_
      refine mj_lload_n X dX8_digest_189 1 rfl ?_
      refine mj_lmul X dX8_digest_190 ?_
      refine mj_aload_n X dX8_digest_191 0 rfl ?_
      refine mj_iload_n X dX8_digest_192 2 rfl ?_
      refine mj_iconst (v := (0 : Int32)) X dX8_digest_193 (by decide) ?_
      obtain ⟨h42, r43, q44, hf⟩ := mm_c hf
      refine mj_callVi (As := [.int m3, .int (0 : Int32)]) (rest := [.long ((31 : Int64) * m1)]) X (kX8_payerOf l D t1 t2 cI cZ ad N h m3 (0 : Int32) h42 r43 q44) (cwV 2 X.2.2.2.2.1 gX8_digest_X8_payerOf rfl rfl rfl (by decide +kernel) ⟨Nat.le_of_ble_eq_true rfl, Nat.le_of_ble_eq_true rfl⟩) (my_at my_oX8 h) rfl rfl rfl rfl (Nat.le_of_ble_eq_true rfl) ⟨Nat.zero_le _, Nat.zero_le _⟩ dX8_digest_194 ?_
      refine mj_i2l X dX8_digest_197 ?_
      refine mj_ladd X dX8_digest_198 ?_
      obtain ⟨x45, ex45, hf⟩ := mm_l hf
      refine mj_topl ex45 ?_
      refine mj_lstore_n (lo' := [(1, .long x45), (0, .ref (ad 0)), (3, .int m3)]) X dX8_digest_199 (by decide) rfl ?_
      refine mj_ldc2 (v := (31 : Int64)) X lnX8_digest_1 dX8_digest_200 ?_
      refine mj_lload_n X dX8_digest_203 0 rfl ?_
      refine mj_lmul X dX8_digest_204 ?_
      refine mj_aload_n X dX8_digest_205 1 rfl ?_
      refine mj_iload_n X dX8_digest_206 2 rfl ?_
      refine mj_iconst (v := (1 : Int32)) X dX8_digest_207 (by decide) ?_
      obtain ⟨h46, r47, q48, hf⟩ := mm_c hf
      refine mj_callVi (As := [.int m3, .int (1 : Int32)]) (rest := [.long ((31 : Int64) * x45)]) X (kX8_payerOf l D t1 t2 cI cZ ad N h42 m3 (1 : Int32) h46 r47 q48) (cwV 2 X.2.2.2.2.1 gX8_digest_X8_payerOf rfl rfl rfl (by decide +kernel) ⟨Nat.le_of_ble_eq_true rfl, Nat.le_of_ble_eq_true rfl⟩) (my_at my_oX8 h42) rfl rfl rfl rfl (Nat.le_of_ble_eq_true rfl) ⟨Nat.zero_le _, Nat.zero_le _⟩ dX8_digest_208 ?_
      refine mj_i2l X dX8_digest_211 ?_
      refine mj_ladd X dX8_digest_212 ?_
      obtain ⟨x49, ex49, hf⟩ := mm_l hf
      refine mj_topl ex49 ?_
      refine mj_lstore_n (lo' := [(1, .long x49), (0, .ref (ad 0)), (3, .int m3)]) X dX8_digest_213 (by decide) rfl ?_
      refine mj_iconst (v := (0 : Int32)) X dX8_digest_214 (by decide) ?_
      refine mj_istore (lo' := [(4, .int (0 : Int32)), (1, .long x49), (0, .ref (ad 0)), (3, .int m3)]) X dX8_digest_215 (by decide) rfl ?_
      refine mj_sub [2, 1, 3, 0] rfl (wX8_digest_L217 X out RET N m3 _ (fun h55 v56 hf => ?_) N h46 x49 (0 : Int32) hf)
      refine mj_iinc (k := 2) (v := (m3 + 1)) (lo' := [(3, .int (m3 + 1)), (0, .ref (ad 0)), (1, .long v56)]) X dX8_digest_245 rfl rfl (by decide) rfl ?_
      refine mj_goto (tgt := 178) X dX8_digest_248 (by decide) ?_
      exact mj_sub [1, 2, 0] rfl (ih h55 v56 (m3 + 1) hf)
set_option maxHeartbeats 4000000 in
set_option maxRecDepth 100000 in
theorem kX8_digest (l : Launch) (D : va_G) (t1 t2 : Nat) (cI : ClassId) (cZ : ClassId) (ad : Nat → Nat)  (N : Nat) (h : mm_M)  (h1 : mm_M) (r : Int64) (hf : fX8_digest N h = some (h1, r)) : mm_Kl l yX8_digest wsX8_digest rmX8_digest D (my_ty cI cZ) t1 t2 (my_w cI cZ ad) [.ref (ad 0)] h r h1 := by
  refine mm_open_l [.ref (ad 0)] h r h1 RX8 (by decide) rfl rfl (Nat.le_of_ble_eq_true rfl) ?_
  intro p e s m below meth c A X hr hlocks
  have RET : ∀ (h : mm_M) (pc : Nat) (lo : List (Nat × Value)) (v : Int64), decode cX8_digest pc = .ok (.lreturn, 1) → (h, v) = (h1, r) → mm_J p l e rmX8_digest s m ([.ref (ad 0)] : List Value).toArray below meth c 0 0 (MQ below (va_Ql (fun (r' : Int64) (u : mm_M) => r' = r ∧ u = h1) (mm_Post D (my_w cI cZ ad) A) A) ([.ref (ad 0)] : List Value).toArray s 0 0 A) D (my_w cI cZ ad) A 5 h pc lo [.long v] := by
    intro h2 pc lo v hd he
    cases he
    exact mj_lret X hr hlocks hd
  generalize hout : (h1, r) = out at hf RET
  unfold fX8_digest at hf
  refine mj_lo (lo' := [(0, .ref (ad 0))]) rfl ?_
  refine mj_ldc2 (v := (17 : Int64)) X lnX8_digest_0 dX8_digest_0 ?_
  refine mj_lstore_n (lo' := [(1, .long (17 : Int64)), (0, .ref (ad 0))]) X dX8_digest_3 (by decide) rfl ?_
  refine mj_iconst (v := (0 : Int32)) X dX8_digest_4 (by decide) ?_
  refine mj_istore_n (lo' := [(3, .int (0 : Int32)), (1, .long (17 : Int64)), (0, .ref (ad 0))]) X dX8_digest_5 (by decide) rfl ?_
  refine mj_sub [2, 1, 0] rfl (wX8_digest_L6 X out RET N _ (fun h6 v7 hf => ?_) N h (17 : Int64) (0 : Int32) hf)
  refine mj_ldc2 (v := (31 : Int64)) X lnX8_digest_1 dX8_digest_31 ?_
  refine mj_lload_n X dX8_digest_34 1 rfl ?_
  refine mj_lmul X dX8_digest_35 ?_
  refine mj_aload_n X dX8_digest_36 0 rfl ?_
  refine mj_iconst (v := (0 : Int32)) X dX8_digest_37 (by decide) ?_
  obtain ⟨h8, r9, q10, hf⟩ := mm_c hf
  refine mj_callVi (As := [.int (0 : Int32)]) (rest := [.long ((31 : Int64) * v7)]) X (kX8_faultOf l D t1 t2 cI cZ ad N h6 (0 : Int32) h8 r9 q10) (cwV 1 X.2.2.2.2.1 gX8_digest_X8_faultOf rfl rfl rfl (by decide +kernel) ⟨Nat.le_of_ble_eq_true rfl, Nat.le_of_ble_eq_true rfl⟩) (my_at my_oX8 h6) rfl rfl rfl rfl (Nat.le_of_ble_eq_true rfl) ⟨Nat.zero_le _, Nat.zero_le _⟩ dX8_digest_38 ?_
  refine mj_i2l X dX8_digest_41 ?_
  refine mj_ladd X dX8_digest_42 ?_
  obtain ⟨x11, ex11, hf⟩ := mm_l hf
  refine mj_topl ex11 ?_
  refine mj_lstore_n (lo' := [(1, .long x11), (0, .ref (ad 0))]) X dX8_digest_43 (by decide) rfl ?_
  refine mj_ldc2 (v := (31 : Int64)) X lnX8_digest_1 dX8_digest_44 ?_
  refine mj_lload_n X dX8_digest_47 0 rfl ?_
  refine mj_lmul X dX8_digest_48 ?_
  refine mj_aload_n X dX8_digest_49 1 rfl ?_
  refine mj_iconst (v := (1 : Int32)) X dX8_digest_50 (by decide) ?_
  obtain ⟨h12, r13, q14, hf⟩ := mm_c hf
  refine mj_callVi (As := [.int (1 : Int32)]) (rest := [.long ((31 : Int64) * x11)]) X (kX8_faultOf l D t1 t2 cI cZ ad N h8 (1 : Int32) h12 r13 q14) (cwV 1 X.2.2.2.2.1 gX8_digest_X8_faultOf rfl rfl rfl (by decide +kernel) ⟨Nat.le_of_ble_eq_true rfl, Nat.le_of_ble_eq_true rfl⟩) (my_at my_oX8 h8) rfl rfl rfl rfl (Nat.le_of_ble_eq_true rfl) ⟨Nat.zero_le _, Nat.zero_le _⟩ dX8_digest_51 ?_
  refine mj_i2l X dX8_digest_54 ?_
  refine mj_ladd X dX8_digest_55 ?_
  obtain ⟨x15, ex15, hf⟩ := mm_l hf
  refine mj_topl ex15 ?_
  refine mj_lstore_n (lo' := [(1, .long x15), (0, .ref (ad 0))]) X dX8_digest_56 (by decide) rfl ?_
  refine mj_iconst (v := (0 : Int32)) X dX8_digest_57 (by decide) ?_
  refine mj_istore_n (lo' := [(3, .int (0 : Int32)), (1, .long x15), (0, .ref (ad 0))]) X dX8_digest_58 (by decide) rfl ?_
  refine mj_sub [2, 1, 0] rfl (wX8_digest_L59 X out RET N _ (fun h39 v40 hf => ?_) N h12 x15 (0 : Int32) hf)
  refine mj_iconst (v := (0 : Int32)) X dX8_digest_176 (by decide) ?_
  refine mj_istore_n (lo' := [(3, .int (0 : Int32)), (0, .ref (ad 0)), (1, .long v40)]) X dX8_digest_177 (by decide) rfl ?_
  refine mj_sub [1, 2, 0] rfl (wX8_digest_L178 X out RET N _ (fun h57 v58 hf => ?_) N h39 v40 (0 : Int32) hf)
  refine mj_ldc2 (v := (31 : Int64)) X lnX8_digest_1 dX8_digest_251 ?_
  refine mj_lload_n X dX8_digest_254 1 rfl ?_
  refine mj_lmul X dX8_digest_255 ?_
  refine mj_aload_n X dX8_digest_256 0 rfl ?_
  obtain ⟨h59, r60, q61, hf⟩ := mm_c hf
  refine mj_callVi (As := []) (rest := [.long ((31 : Int64) * v58)]) X (kX8_beggarsNow l D t1 t2 cI cZ ad N h57 h59 r60 q61) (cwV 0 X.2.2.2.2.1 gX8_digest_X8_beggarsNow rfl rfl rfl (by decide +kernel) ⟨Nat.le_of_ble_eq_true rfl, Nat.le_of_ble_eq_true rfl⟩) (my_at my_oX8 h57) rfl rfl rfl rfl (Nat.le_of_ble_eq_true rfl) ⟨Nat.zero_le _, Nat.zero_le _⟩ dX8_digest_257 ?_
  refine mj_i2l X dX8_digest_260 ?_
  refine mj_ladd X dX8_digest_261 ?_
  obtain ⟨x62, ex62, hf⟩ := mm_l hf
  refine mj_topl ex62 ?_
  refine mj_lstore_n (lo' := [(1, .long x62), (0, .ref (ad 0))]) X dX8_digest_262 (by decide) rfl ?_
  refine mj_ldc2 (v := (31 : Int64)) X lnX8_digest_1 dX8_digest_263 ?_
  refine mj_lload_n X dX8_digest_266 0 rfl ?_
  refine mj_lmul X dX8_digest_267 ?_
  refine mj_aload_n X dX8_digest_268 1 rfl ?_
  refine mj_iconst (v := (-1 : Int32)) X dX8_digest_269 (by decide) ?_
  obtain ⟨h63, r64, q65, hf⟩ := mm_c hf
  refine mj_callVi (As := [.int (-1 : Int32)]) (rest := [.long ((31 : Int64) * x62)]) X (kX8_restOf l D t1 t2 cI cZ ad N h59 (-1 : Int32) h63 r64 q65) (cwV 1 X.2.2.2.2.1 gX8_digest_X8_restOf rfl rfl rfl (by decide +kernel) ⟨Nat.le_of_ble_eq_true rfl, Nat.le_of_ble_eq_true rfl⟩) (my_at my_oX8 h59) rfl rfl rfl rfl (Nat.le_of_ble_eq_true rfl) ⟨Nat.zero_le _, Nat.zero_le _⟩ dX8_digest_270 ?_
  refine mj_i2l X dX8_digest_273 ?_
  refine mj_ladd X dX8_digest_274 ?_
  obtain ⟨x66, ex66, hf⟩ := mm_l hf
  refine mj_topl ex66 ?_
  refine mj_lstore_n (lo' := [(1, .long x66), (0, .ref (ad 0))]) X dX8_digest_275 (by decide) rfl ?_
  refine mj_ldc2 (v := (31 : Int64)) X lnX8_digest_1 dX8_digest_276 ?_
  refine mj_lload_n X dX8_digest_279 0 rfl ?_
  refine mj_lmul X dX8_digest_280 ?_
  refine mj_aload_n X dX8_digest_281 1 rfl ?_
  refine mj_iconst (v := (-1 : Int32)) X dX8_digest_282 (by decide) ?_
  refine mj_iconst (v := (0 : Int32)) X dX8_digest_283 (by decide) ?_
  obtain ⟨h67, r68, q69, hf⟩ := mm_c hf
  refine mj_callVi (As := [.int (-1 : Int32), .int (0 : Int32)]) (rest := [.long ((31 : Int64) * x66)]) X (kX8_downBy l D t1 t2 cI cZ ad N h63 (-1 : Int32) (0 : Int32) h67 r68 q69) (cwV 2 X.2.2.2.2.1 gX8_digest_X8_downBy rfl rfl rfl (by decide +kernel) ⟨Nat.le_of_ble_eq_true rfl, Nat.le_of_ble_eq_true rfl⟩) (my_at my_oX8 h63) rfl rfl rfl rfl (Nat.le_of_ble_eq_true rfl) ⟨Nat.zero_le _, Nat.zero_le _⟩ dX8_digest_284 ?_
  refine mj_i2l X dX8_digest_287 ?_
  refine mj_ladd X dX8_digest_288 ?_
  obtain ⟨x70, ex70, hf⟩ := mm_l hf
  refine mj_topl ex70 ?_
  refine mj_lstore_n (lo' := [(1, .long x70), (0, .ref (ad 0))]) X dX8_digest_289 (by decide) rfl ?_
  refine mj_ldc2 (v := (31 : Int64)) X lnX8_digest_1 dX8_digest_290 ?_
  refine mj_lload_n X dX8_digest_293 0 rfl ?_
  refine mj_lmul X dX8_digest_294 ?_
  refine mj_aload_n X dX8_digest_295 1 rfl ?_
  obtain ⟨h71, r72, q73, hf⟩ := mm_c hf
  refine mj_callVi (As := []) (rest := [.long ((31 : Int64) * x70)]) X (kX8_unlikeNow l D t1 t2 cI cZ ad N h67 h71 r72 q73) (cwV 0 X.2.2.2.2.1 gX8_digest_X8_unlikeNow rfl rfl rfl (by decide +kernel) ⟨Nat.le_of_ble_eq_true rfl, Nat.le_of_ble_eq_true rfl⟩) (my_at my_oX8 h67) rfl rfl rfl rfl (Nat.le_of_ble_eq_true rfl) ⟨Nat.zero_le _, Nat.zero_le _⟩ dX8_digest_296 ?_
  refine mj_i2l X dX8_digest_299 ?_
  refine mj_ladd X dX8_digest_300 ?_
  obtain ⟨x74, ex74, hf⟩ := mm_l hf
  refine mj_topl ex74 ?_
  refine mj_lstore_n (lo' := [(1, .long x74), (0, .ref (ad 0))]) X dX8_digest_301 (by decide) rfl ?_
  refine mj_ldc2 (v := (31 : Int64)) X lnX8_digest_1 dX8_digest_302 ?_
  refine mj_lload_n X dX8_digest_305 0 rfl ?_
  refine mj_lmul X dX8_digest_306 ?_
  refine mj_iconst (v := (2 : Int32)) X dX8_digest_307 (by decide) ?_
  refine mj_bipush (v := (30 : Int32)) X dX8_digest_308 (by decide) ?_
  refine mj_bipush (v := (50 : Int32)) X dX8_digest_310 (by decide) ?_
  refine mj_iconst (v := (0 : Int32)) X dX8_digest_312 (by decide) ?_
  obtain ⟨h75, r76, q77, hf⟩ := mm_c hf
  refine mj_callSl (As := [.int (2 : Int32), .int (30 : Int32), .int (50 : Int32), .int (0 : Int32)]) (rest := [.long ((31 : Int64) * x74)]) X (kX8_luckOf l D t1 t2 cI cZ ad N h71 (2 : Int32) (30 : Int32) (50 : Int32) (0 : Int32) h75 r76 q77) (va_cwS 4 X.2.2.2.2.1 gX8_digest_X8_luckOf rfl rfl rfl (by decide +kernel) ⟨Nat.le_of_ble_eq_true rfl, Nat.le_of_ble_eq_true rfl⟩) rfl rfl (Nat.le_of_ble_eq_true rfl) ⟨Nat.zero_le _, Nat.zero_le _⟩ dX8_digest_313 ?_
  refine mj_ladd X dX8_digest_316 ?_
  obtain ⟨x78, ex78, hf⟩ := mm_l hf
  refine mj_topl ex78 ?_
  refine mj_lstore_n (lo' := [(1, .long x78), (0, .ref (ad 0))]) X dX8_digest_317 (by decide) rfl ?_
  refine mj_ldc2 (v := (31 : Int64)) X lnX8_digest_1 dX8_digest_318 ?_
  refine mj_lload_n X dX8_digest_321 0 rfl ?_
  refine mj_lmul X dX8_digest_322 ?_
  refine mj_iconst (v := (2 : Int32)) X dX8_digest_323 (by decide) ?_
  refine mj_bipush (v := (30 : Int32)) X dX8_digest_324 (by decide) ?_
  refine mj_bipush (v := (50 : Int32)) X dX8_digest_326 (by decide) ?_
  refine mj_iconst (v := (1 : Int32)) X dX8_digest_328 (by decide) ?_
  obtain ⟨h79, r80, q81, hf⟩ := mm_c hf
  refine mj_callSl (As := [.int (2 : Int32), .int (30 : Int32), .int (50 : Int32), .int (1 : Int32)]) (rest := [.long ((31 : Int64) * x78)]) X (kX8_luckOf l D t1 t2 cI cZ ad N h75 (2 : Int32) (30 : Int32) (50 : Int32) (1 : Int32) h79 r80 q81) (va_cwS 4 X.2.2.2.2.1 gX8_digest_X8_luckOf rfl rfl rfl (by decide +kernel) ⟨Nat.le_of_ble_eq_true rfl, Nat.le_of_ble_eq_true rfl⟩) rfl rfl (Nat.le_of_ble_eq_true rfl) ⟨Nat.zero_le _, Nat.zero_le _⟩ dX8_digest_329 ?_
  refine mj_ladd X dX8_digest_332 ?_
  exact RET h79 _ _ _ dX8_digest_333 (Option.some.inj hf)
end
