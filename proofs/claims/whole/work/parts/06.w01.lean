section
variable {p : Program} {l : Launch} {e : Env} {s : State} {m : MethodId} {args : Array Value} {below : List Frame} {meth : Method} {c : Code} {Q : State → Prop} {D : va_G} {A : Nat → Prop} {t1 t2 : Nat} {cI cT cS cZ : ClassId} {ad : Nat → Nat}
abbrev rmX2_charge : Room := { frames := 1, cells := 0, slots := 0, locals := 25 }
theorem inwX2_charge_X2 : ∀ w ∈ wsX20, w ∈ wsX2_charge := by
  intro w hw
  have h9 : wsX20 = (wsX2_charge.drop 11).take 9 := rfl
  rw [h9] at hw
  exact List.mem_of_mem_drop (List.mem_of_mem_take hw)
theorem lnX2_charge_0 : Cond.fieldLink RX2 27 "RichestPays$People" "number" "I" ∈ wsX2_charge := List.mem_of_getElem? (i := 1) rfl
theorem lnX2_charge_1 : Cond.fieldLink RX2 24 "RichestPays$People" "due" "[I" ∈ wsX2_charge := List.mem_of_getElem? (i := 2) rfl
theorem lnX2_charge_2 : Cond.fieldLink RX2 34 "RichestPays$People" "law" "I" ∈ wsX2_charge := List.mem_of_getElem? (i := 3) rfl
theorem lnX2_charge_3 : Cond.fieldLink RX2 15 "RichestPays$People" "appetite" "[I" ∈ wsX2_charge := List.mem_of_getElem? (i := 4) rfl
set_option maxHeartbeats 4000000 in
set_option maxRecDepth 100000 in
theorem wX2_charge_L5 (X : mm_X p s m args c cX2_charge RX2 wsX2_charge 6 D (mx_ty cI cT cS) t1 t2 A) (out : mm_M × Unit) (RET : ∀ (h : mm_M) (pc : Nat) (lo : List (Nat × Value)) (v : Unit), decode cX2_charge pc = .ok (.return_, 1) → (h, v) = out → mm_J p l e rmX2_charge s m args below meth c 0 0 Q D (mx_w cI cT cS ad) A 6 h pc lo []) (N : Nat) (y1 : Nat) (hy1 : mx_arr cI cT cS ad y1 6) (p1 : Int32) (k : mm_M → Int32 → Option (mm_M × Unit)) (HK : ∀ (h : mm_M) (m3 : Int32), k h m3 = some out → mm_J p l e rmX2_charge s m args below meth c 0 0 Q D (mx_w cI cT cS ad) A 6 h 65 [(0, .ref (ad 6)), (1, .int p1), (2, .ref (ad y1)), (3, .int m3)] []) : ∀ (n : Nat) (h : mm_M) (m3 : Int32) (m4 : Int32), fX2_charge_L5 N y1 p1 k n h m3 m4 = some out → mm_J p l e rmX2_charge s m args below meth c 0 0 Q D (mx_w cI cT cS ad) A 6 h 5 [(0, .ref (ad 6)), (1, .int p1), (2, .ref (ad y1)), (3, .int m3), (4, .int m4)] [] := by
  intro n
  induction n with
  | zero =>
    intro h m3 m4 hf
    cases hf
  | succ n ih =>
    intro h m3 m4 hf
    rw [fX2_charge_L5] at hf
    refine mj_iload X dX2_charge_5 4 rfl ?_
    refine mj_aload_n X dX2_charge_7 0 rfl ?_
    refine mj_get X inwX2_charge_X2 (mx_at mx_oX2 h) rfl 5 (by decide) rfl lnX2_charge_0 rfl dX2_charge_8 ?_
    refine mj_icmp_ge (tgt := 65) X dX2_charge_11 (by decide) (fun c1 => ?_) (fun c1 => ?_)
    · have hf := mm_t c1 hf
      exact mj_sub [0, 1, 2, 3] rfl (HK h m3 hf)
    · have hf := mm_f c1 hf
      refine mj_iload_n X dX2_charge_14 1 rfl ?_
      refine mj_iconst (v := (1 : Int32)) X dX2_charge_15 (by decide) ?_
      refine mj_iload X dX2_charge_16 4 rfl ?_
      refine mj_ishl X dX2_charge_18 ?_
      refine mj_iand X dX2_charge_19 ?_
      refine mj_if_eq (tgt := 59) X dX2_charge_20 (by decide) (fun c2 => ?_) (fun c2 => ?_)
      · have hf := mm_t c2 hf
        refine mj_iinc (k := 4) (v := (m4 + 1)) (lo' := [(4, .int (m4 + 1)), (0, .ref (ad 6)), (1, .int p1), (2, .ref (ad y1)), (3, .int m3)]) X dX2_charge_59 rfl rfl (by decide) rfl ?_
        refine mj_goto (tgt := 5) X dX2_charge_62 (by decide) ?_
        exact mj_sub [1, 2, 3, 4, 0] rfl (ih h m3 (m4 + 1) hf)
      · have hf := mm_f c2 hf
        refine mj_aload_n X dX2_charge_23 0 rfl ?_
        refine mj_get X inwX2_charge_X2 (mx_at mx_oX2 h) rfl 4 (by decide) rfl lnX2_charge_1 rfl dX2_charge_24 ?_
        refine mj_iload X dX2_charge_27 4 rfl ?_
        refine mj_aload_n X dX2_charge_29 0 rfl ?_
        refine mj_get X inwX2_charge_X2 (mx_at mx_oX2 h) rfl 7 (by decide) rfl lnX2_charge_2 rfl dX2_charge_30 ?_
        refine mj_iconst (v := (2 : Int32)) X dX2_charge_33 (by decide) ?_
        refine mj_icmp_ne (tgt := 47) X dX2_charge_34 (by decide) (fun c3 => ?_) (fun c3 => ?_)
        · have hf := mm_f c3 hf
          refine mj_iconst (v := (0 : Int32)) X dX2_charge_47 (by decide) ?_
          obtain ⟨g4, hf⟩ := mm_g hf
          obtain ⟨h5, eh5, hf⟩ := mm_l hf
          refine mj_iast X 0 (mx_at mx_a11 h) rfl g4 (mx_ast mx_a11 eh5) dX2_charge_48 ?_
          refine mj_iload_n X dX2_charge_49 3 rfl ?_
          refine mj_aload_n X dX2_charge_50 0 rfl ?_
          refine mj_get X inwX2_charge_X2 (mx_at mx_oX2 h5) rfl 1 (by decide) rfl lnX2_charge_3 rfl dX2_charge_51 ?_
          refine mj_iload X dX2_charge_54 4 rfl ?_
          refine mj_iald X 0 (mx_at mx_a8 h5) rfl g4 dX2_charge_56 ?_
          refine mj_iadd X dX2_charge_57 ?_
          obtain ⟨x6, ex6, hf⟩ := mm_l hf
          refine mj_topi ex6 ?_
          refine mj_istore_n (lo' := [(3, .int x6), (0, .ref (ad 6)), (1, .int p1), (2, .ref (ad y1)), (4, .int m4)]) X dX2_charge_58 (by decide) rfl ?_
          refine mj_iinc (k := 4) (v := (m4 + 1)) (lo' := [(4, .int (m4 + 1)), (3, .int x6), (0, .ref (ad 6)), (1, .int p1), (2, .ref (ad y1))]) X dX2_charge_59 rfl rfl (by decide) rfl ?_
          refine mj_goto (tgt := 5) X dX2_charge_62 (by decide) ?_
          exact mj_sub [2, 3, 4, 1, 0] rfl (ih h5 x6 (m4 + 1) hf)
        · have hf := mm_t c3 hf
          refine mj_aload_n X dX2_charge_37 0 rfl ?_
          refine mj_get X inwX2_charge_X2 (mx_at mx_oX2 h) rfl 1 (by decide) rfl lnX2_charge_3 rfl dX2_charge_38 ?_
          refine mj_iload X dX2_charge_41 4 rfl ?_
          obtain ⟨g7, hf⟩ := mm_g hf
          refine mj_iald X 0 (mx_at mx_a8 h) rfl g7 dX2_charge_43 ?_
          refine mj_goto (tgt := 48) X dX2_charge_44 (by decide) ?_
          obtain ⟨h8, eh8, hf⟩ := mm_l hf
          refine mj_iast X 0 (mx_at mx_a11 h) rfl g7 (mx_ast mx_a11 eh8) dX2_charge_48 ?_
          refine mj_iload_n X dX2_charge_49 3 rfl ?_
          refine mj_aload_n X dX2_charge_50 0 rfl ?_
          refine mj_get X inwX2_charge_X2 (mx_at mx_oX2 h8) rfl 1 (by decide) rfl lnX2_charge_3 rfl dX2_charge_51 ?_
          refine mj_iload X dX2_charge_54 4 rfl ?_
          refine mj_iald X 0 (mx_at mx_a8 h8) rfl g7 dX2_charge_56 ?_
          refine mj_iadd X dX2_charge_57 ?_
          obtain ⟨x9, ex9, hf⟩ := mm_l hf
          refine mj_topi ex9 ?_
          refine mj_istore_n (lo' := [(3, .int x9), (0, .ref (ad 6)), (1, .int p1), (2, .ref (ad y1)), (4, .int m4)]) X dX2_charge_58 (by decide) rfl ?_
          refine mj_iinc (k := 4) (v := (m4 + 1)) (lo' := [(4, .int (m4 + 1)), (3, .int x9), (0, .ref (ad 6)), (1, .int p1), (2, .ref (ad y1))]) X dX2_charge_59 rfl rfl (by decide) rfl ?_
          refine mj_goto (tgt := 5) X dX2_charge_62 (by decide) ?_
          exact mj_sub [2, 3, 4, 1, 0] rfl (ih h8 x9 (m4 + 1) hf)
set_option maxHeartbeats 4000000 in
set_option maxRecDepth 100000 in
theorem kX2_charge (l : Launch) (D : va_G) (t1 t2 : Nat) (cI : ClassId) (cT : ClassId) (cS : ClassId) (ad : Nat → Nat) (y1 : Nat) (hy1 : mx_arr cI cT cS ad y1 6) (N : Nat) (h : mm_M) (a0 : Int32) (h1 : mm_M) (r : Unit) (hf : fX2_charge N y1 h a0 = some (h1, r)) : mm_Kv l yX2_charge wsX2_charge rmX2_charge D (mx_ty cI cT cS) t1 t2 (mx_w cI cT cS ad) [.ref (ad 6), .int a0, .ref (ad y1)] h h1 := by
  refine mm_open_v [.ref (ad 6), .int a0, .ref (ad y1)] h h1 RX2 (by decide) rfl rfl (Nat.le_of_ble_eq_true rfl) ?_
  intro p e s m below meth c A X hr hlocks
  have RET : ∀ (h : mm_M) (pc : Nat) (lo : List (Nat × Value)) (v : Unit), decode cX2_charge pc = .ok (.return_, 1) → (h, v) = (h1, r) → mm_J p l e rmX2_charge s m ([.ref (ad 6), .int a0, .ref (ad y1)] : List Value).toArray below meth c 0 0 (MQ below (va_Qv (fun (u : mm_M) => u = h1) (mm_Post D (mx_w cI cT cS ad) A) A) ([.ref (ad 6), .int a0, .ref (ad y1)] : List Value).toArray s 0 0 A) D (mx_w cI cT cS ad) A 6 h pc lo [] := by
    intro h2 pc lo v hd he
    cases he
    exact mj_vret X hr hlocks hd
  generalize hout : (h1, r) = out at hf RET
  unfold fX2_charge at hf
  refine mj_lo (lo' := [(0, .ref (ad 6)), (1, .int a0), (2, .ref (ad y1))]) rfl ?_
  refine mj_iconst (v := (0 : Int32)) X dX2_charge_0 (by decide) ?_
  refine mj_istore_n (lo' := [(3, .int (0 : Int32)), (0, .ref (ad 6)), (1, .int a0), (2, .ref (ad y1))]) X dX2_charge_1 (by decide) rfl ?_
  refine mj_iconst (v := (0 : Int32)) X dX2_charge_2 (by decide) ?_
  refine mj_istore (lo' := [(4, .int (0 : Int32)), (3, .int (0 : Int32)), (0, .ref (ad 6)), (1, .int a0), (2, .ref (ad y1))]) X dX2_charge_3 (by decide) rfl ?_
  refine mj_sub [2, 3, 4, 1, 0] rfl (wX2_charge_L5 X out RET N y1 hy1 a0 _ (fun h10 v11 hf => ?_) N h (0 : Int32) (0 : Int32) hf)
  refine mj_aload_n X dX2_charge_65 0 rfl ?_
  refine mj_get X inwX2_charge_X2 (mx_at mx_oX2 h10) rfl 7 (by decide) rfl lnX2_charge_2 rfl dX2_charge_66 ?_
  refine mj_iconst (v := (2 : Int32)) X dX2_charge_69 (by decide) ?_
  refine mj_icmp_ne (tgt := 77) X dX2_charge_70 (by decide) (fun c12 => ?_) (fun c12 => ?_)
  · have hf := mm_f c12 hf
    refine mj_aload_n X dX2_charge_77 0 rfl ?_
    refine mj_aload_n X dX2_charge_78 2 rfl ?_
    refine mj_iload_n X dX2_charge_79 1 rfl ?_
    obtain ⟨h13, r14, q15, hf⟩ := mm_c hf
    refine mj_callVi (As := [.ref (ad y1), .int a0]) (rest := []) X (kX2_aheadBy l D t1 t2 cI cT cS ad y1 hy1 N h10 a0 h13 r14 q15) (cwV 2 X.2.2.2.2.1 gX2_charge_X2_aheadBy rfl rfl rfl (by decide +kernel) ⟨Nat.le_of_ble_eq_true rfl, Nat.le_of_ble_eq_true rfl⟩) (mx_at mx_oX2 h10) rfl rfl rfl rfl (Nat.le_of_ble_eq_true rfl) ⟨Nat.zero_le _, Nat.zero_le _⟩ dX2_charge_80 ?_
    refine mj_istore (lo' := [(4, .int r14), (0, .ref (ad 6)), (1, .int a0), (2, .ref (ad y1)), (3, .int v11)]) X dX2_charge_83 (by decide) rfl ?_
    refine mj_iload X dX2_charge_85 0 rfl ?_
    refine mj_iconst (v := (-1 : Int32)) X dX2_charge_87 (by decide) ?_
    refine mj_icmp_ne (tgt := 92) X dX2_charge_88 (by decide) (fun c16 => ?_) (fun c16 => ?_)
    · have hf := mm_f c16 hf
      refine mj_aload_n X dX2_charge_92 1 rfl ?_
      refine mj_get X inwX2_charge_X2 (mx_at mx_oX2 h13) rfl 7 (by decide) rfl lnX2_charge_2 rfl dX2_charge_93 ?_
      refine mj_iconst (v := (1 : Int32)) X dX2_charge_96 (by decide) ?_
      refine mj_icmp_ne (tgt := 116) X dX2_charge_97 (by decide) (fun c17 => ?_) (fun c17 => ?_)
      · have hf := mm_f c17 hf
        refine mj_iconst (v := (-1 : Int32)) X dX2_charge_116 (by decide) ?_
        refine mj_istore (lo' := [(5, .int (-1 : Int32)), (4, .int r14), (0, .ref (ad 6)), (1, .int a0), (2, .ref (ad y1)), (3, .int v11)]) X dX2_charge_117 (by decide) rfl ?_
        refine mj_aload_n X dX2_charge_119 2 rfl ?_
        refine mj_get X inwX2_charge_X2 (mx_at mx_oX2 h13) rfl 4 (by decide) rfl lnX2_charge_1 rfl dX2_charge_120 ?_
        refine mj_iload X dX2_charge_123 1 rfl ?_
        refine mj_iload X dX2_charge_125 0 rfl ?_
        refine mj_iconst (v := (-1 : Int32)) X dX2_charge_127 (by decide) ?_
        refine mj_icmp_ne (tgt := 135) X dX2_charge_128 (by decide) (fun c18 => absurd c18 (by decide)) (fun _ => ?_)
        refine mj_iload_n X dX2_charge_131 5 rfl ?_
        refine mj_goto (tgt := 138) X dX2_charge_132 (by decide) ?_
        obtain ⟨g19, hf⟩ := mm_g hf
        obtain ⟨h20, eh20, hf⟩ := mm_l hf
        refine mj_iast X 0 (mx_at mx_a11 h13) rfl g19 (mx_ast mx_a11 eh20) dX2_charge_138 ?_
        refine mj_iload X dX2_charge_139 0 rfl ?_
        refine mj_iconst (v := (-1 : Int32)) X dX2_charge_141 (by decide) ?_
        refine mj_icmp_eq (tgt := 157) X dX2_charge_142 (by decide) (fun _ => ?_) (fun c21 => absurd c21 (by decide))
        exact RET h20 _ _ _ dX2_charge_157 (Option.some.inj hf)
      · have hf := mm_t c17 hf
        refine mj_aload_n X dX2_charge_100 1 rfl ?_
        refine mj_aload_n X dX2_charge_101 3 rfl ?_
        refine mj_iload_n X dX2_charge_102 2 rfl ?_
        refine mj_iconst (v := (1 : Int32)) X dX2_charge_103 (by decide) ?_
        refine mj_iload X dX2_charge_104 0 rfl ?_
        refine mj_ishl X dX2_charge_106 ?_
        refine mj_iconst (v := (-1 : Int32)) X dX2_charge_107 (by decide) ?_
        refine mj_ixor X dX2_charge_108 ?_
        refine mj_iand X dX2_charge_109 ?_
        obtain ⟨h22, r23, q24, hf⟩ := mm_c hf
        refine mj_callVi (As := [.ref (ad y1), .int (a0 &&& (((1 : Int32) <<< (r14 &&& 31)) ^^^ (-1 : Int32)))]) (rest := []) X (kX2_aheadBy l D t1 t2 cI cT cS ad y1 hy1 N h13 ((a0 &&& (((1 : Int32) <<< (r14 &&& 31)) ^^^ (-1 : Int32)))) h22 r23 q24) (cwV 2 X.2.2.2.2.1 gX2_charge_X2_aheadBy rfl rfl rfl (by decide +kernel) ⟨Nat.le_of_ble_eq_true rfl, Nat.le_of_ble_eq_true rfl⟩) (mx_at mx_oX2 h13) rfl rfl rfl rfl (Nat.le_of_ble_eq_true rfl) ⟨Nat.zero_le _, Nat.zero_le _⟩ dX2_charge_110 ?_
        refine mj_goto (tgt := 117) X dX2_charge_113 (by decide) ?_
        refine mj_istore (lo' := [(5, .int r23), (4, .int r14), (0, .ref (ad 6)), (1, .int a0), (2, .ref (ad y1)), (3, .int v11)]) X dX2_charge_117 (by decide) rfl ?_
        refine mj_aload_n X dX2_charge_119 2 rfl ?_
        refine mj_get X inwX2_charge_X2 (mx_at mx_oX2 h22) rfl 4 (by decide) rfl lnX2_charge_1 rfl dX2_charge_120 ?_
        refine mj_iload X dX2_charge_123 1 rfl ?_
        refine mj_iload X dX2_charge_125 0 rfl ?_
        refine mj_iconst (v := (-1 : Int32)) X dX2_charge_127 (by decide) ?_
        refine mj_icmp_ne (tgt := 135) X dX2_charge_128 (by decide) (fun c25 => ?_) (fun c25 => ?_)
        · have hf := mm_f c25 hf
          refine mj_iload_n X dX2_charge_135 5 rfl ?_
          refine mj_iconst (v := (2 : Int32)) X dX2_charge_136 (by decide) ?_
          refine mj_idiv X dX2_charge_137 (by decide) ?_
          obtain ⟨g26, hf⟩ := mm_g hf
          obtain ⟨h27, eh27, hf⟩ := mm_l hf
          refine mj_iast X 0 (mx_at mx_a11 h22) rfl g26 (mx_ast mx_a11 eh27) dX2_charge_138 ?_
          refine mj_iload X dX2_charge_139 0 rfl ?_
          refine mj_iconst (v := (-1 : Int32)) X dX2_charge_141 (by decide) ?_
          refine mj_icmp_eq (tgt := 157) X dX2_charge_142 (by decide) (fun c28 => absurd c28 c25) (fun _ => ?_)
          refine mj_aload_n X dX2_charge_145 2 rfl ?_
          refine mj_get X inwX2_charge_X2 (mx_at mx_oX2 h27) rfl 4 (by decide) rfl lnX2_charge_1 rfl dX2_charge_146 ?_
          refine mj_iload X dX2_charge_149 0 rfl ?_
          refine mj_iload_n X dX2_charge_151 5 rfl ?_
          refine mj_iload_n X dX2_charge_152 5 rfl ?_
          refine mj_iconst (v := (2 : Int32)) X dX2_charge_153 (by decide) ?_
          refine mj_idiv X dX2_charge_154 (by decide) ?_
          refine mj_isub X dX2_charge_155 ?_
          obtain ⟨g29, hf⟩ := mm_g hf
          obtain ⟨h30, eh30, hf⟩ := mm_l hf
          refine mj_iast X 0 (mx_at mx_a11 h27) rfl g29 (mx_ast mx_a11 eh30) dX2_charge_156 ?_
          exact RET h30 _ _ _ dX2_charge_157 (Option.some.inj hf)
        · have hf := mm_t c25 hf
          refine mj_iload_n X dX2_charge_131 5 rfl ?_
          refine mj_goto (tgt := 138) X dX2_charge_132 (by decide) ?_
          obtain ⟨g31, hf⟩ := mm_g hf
          obtain ⟨h32, eh32, hf⟩ := mm_l hf
          refine mj_iast X 0 (mx_at mx_a11 h22) rfl g31 (mx_ast mx_a11 eh32) dX2_charge_138 ?_
          refine mj_iload X dX2_charge_139 0 rfl ?_
          refine mj_iconst (v := (-1 : Int32)) X dX2_charge_141 (by decide) ?_
          refine mj_icmp_eq (tgt := 157) X dX2_charge_142 (by decide) (fun _ => ?_) (fun c33 => absurd c25 c33)
          exact RET h32 _ _ _ dX2_charge_157 (Option.some.inj hf)
    · have hf := mm_t c16 hf
      exact RET h13 _ _ _ dX2_charge_91 (Option.some.inj hf)
  · have hf := mm_t c12 hf
    refine mj_iconst (v := (-1 : Int32)) X dX2_charge_73 (by decide) ?_
    refine mj_goto (tgt := 83) X dX2_charge_74 (by decide) ?_
    refine mj_istore (lo' := [(4, .int (-1 : Int32)), (0, .ref (ad 6)), (1, .int a0), (2, .ref (ad y1)), (3, .int v11)]) X dX2_charge_83 (by decide) rfl ?_
    refine mj_iload X dX2_charge_85 0 rfl ?_
    refine mj_iconst (v := (-1 : Int32)) X dX2_charge_87 (by decide) ?_
    refine mj_icmp_ne (tgt := 92) X dX2_charge_88 (by decide) (fun c34 => absurd c34 (by decide)) (fun _ => ?_)
    exact RET h10 _ _ _ dX2_charge_91 (Option.some.inj hf)
abbrev rmX0_playRound : Room := { frames := 2, cells := 0, slots := 0, locals := 50 }
theorem inwX0_playRound_X0 : ∀ w ∈ wsX00, w ∈ wsX0_playRound := by
  intro w hw
  have h9 : wsX00 = (wsX0_playRound.drop 40).take 11 := rfl
  rw [h9] at hw
  exact List.mem_of_mem_drop (List.mem_of_mem_take hw)
theorem lnX0_playRound_0 : Cond.fieldLink RX0 43 "RichestPays$Evening" "people" "LRichestPays$People;" ∈ wsX0_playRound := List.mem_of_getElem? (i := 1) rfl
theorem lnX0_playRound_1 : Cond.fieldLink RX0 18 "RichestPays$Evening" "hand" "[I" ∈ wsX0_playRound := List.mem_of_getElem? (i := 2) rfl
theorem inwX0_playRound_X2 : ∀ w ∈ wsX20, w ∈ wsX0_playRound := by
  intro w hw
  have h9 : wsX20 = (wsX0_playRound.drop 51).take 9 := rfl
  rw [h9] at hw
  exact List.mem_of_mem_drop (List.mem_of_mem_take hw)
theorem lnX0_playRound_2 : Cond.fieldLink RX0 47 "RichestPays$People" "number" "I" ∈ wsX0_playRound := List.mem_of_getElem? (i := 3) rfl
theorem lnX0_playRound_3 : Cond.fieldLink RX0 100 "RichestPays$People" "due" "[I" ∈ wsX0_playRound := List.mem_of_getElem? (i := 4) rfl
theorem lnX0_playRound_4 : Cond.methodLink RX0 103 Lib.Math.min.name ∈ wsX0_playRound := List.mem_of_getElem? (i := 5) rfl
theorem lnX0_playRound_5 : Cond.static Lib.Math.min.name ∈ wsX0_playRound := List.mem_of_getElem? (i := 6) rfl
theorem lnX0_playRound_6 : Cond.initialized "java/lang/Math" ∈ wsX0_playRound := List.mem_of_getElem? (i := 7) rfl
theorem lnX0_playRound_7 : Cond.code Lib.Math.min.name Lib.Math.min.code 2 (some .int) ∈ wsX0_playRound := List.mem_of_getElem? (i := 8) rfl
theorem lnX0_playRound_8 : Cond.fieldLink RX0 21 "RichestPays$Evening" "paid" "[I" ∈ wsX0_playRound := List.mem_of_getElem? (i := 9) rfl
theorem lnX0_playRound_9 : Cond.fieldLink RX0 24 "RichestPays$Evening" "eaten" "[I" ∈ wsX0_playRound := List.mem_of_getElem? (i := 10) rfl
theorem lnX0_playRound_10 : Cond.fieldLink RX0 108 "RichestPays$People" "appetite" "[I" ∈ wsX0_playRound := List.mem_of_getElem? (i := 11) rfl
theorem lnX0_playRound_11 : Cond.fieldLink RX0 27 "RichestPays$Evening" "lacked" "[I" ∈ wsX0_playRound := List.mem_of_getElem? (i := 12) rfl
theorem lnX0_playRound_12 : Cond.fieldLink RX0 30 "RichestPays$Evening" "paidNow" "[I" ∈ wsX0_playRound := List.mem_of_getElem? (i := 13) rfl
theorem lnX0_playRound_13 : Cond.fieldLink RX0 33 "RichestPays$Evening" "paidIn" "[I" ∈ wsX0_playRound := List.mem_of_getElem? (i := 14) rfl
set_option maxHeartbeats 4000000 in
set_option maxRecDepth 100000 in
theorem wX0_playRound_L2 (X : mm_X p s m args c cX0_playRound RX0 wsX0_playRound 6 D (mx_ty cI cT cS) t1 t2 A) (out : mm_M × Unit) (RET : ∀ (h : mm_M) (pc : Nat) (lo : List (Nat × Value)) (v : Unit), decode cX0_playRound pc = .ok (.return_, 1) → (h, v) = out → mm_J p l e rmX0_playRound s m args below meth c 0 0 Q D (mx_w cI cT cS ad) A 6 h pc lo []) (N : Nat)  (p1 : Int32) (k : mm_M → Option (mm_M × Unit)) (HK : ∀ (h : mm_M), k h = some out → mm_J p l e rmX0_playRound s m args below meth c 0 0 Q D (mx_w cI cT cS ad) A 6 h 40 [(0, .ref (ad 12)), (1, .int p1)] []) : ∀ (n : Nat) (h : mm_M) (m2 : Int32), fX0_playRound_L2 N p1 k n h m2 = some out → mm_J p l e rmX0_playRound s m args below meth c 0 0 Q D (mx_w cI cT cS ad) A 6 h 2 [(0, .ref (ad 12)), (1, .int p1), (2, .int m2)] [] := by
  intro n
  induction n with
  | zero =>
    intro h m2 hf
    cases hf
  | succ n ih =>
    intro h m2 hf
    rw [fX0_playRound_L2] at hf
    refine mj_iload_n X dX0_playRound_2 2 rfl ?_
    refine mj_bipush (v := (6 : Int32)) X dX0_playRound_3 (by decide) ?_
    refine mj_icmp_ge (tgt := 40) X dX0_playRound_5 (by decide) (fun c1 => ?_) (fun c1 => ?_)
    · have hf := mm_t c1 hf
      exact mj_sub [0, 1] rfl (HK h hf)
    · have hf := mm_f c1 hf
      refine mj_aload_n X dX0_playRound_8 0 rfl ?_
      refine mj_iload_n X dX0_playRound_9 1 rfl ?_
      refine mj_iload_n X dX0_playRound_10 2 rfl ?_
      obtain ⟨h2, r3, q4, hf⟩ := mm_c hf
      refine mj_callVi (As := [.int p1, .int m2]) (rest := []) X (kX0_seatedAt l D t1 t2 cI cT cS ad N h p1 m2 h2 r3 q4) (cwV 2 X.2.2.2.2.1 gX0_playRound_X0_seatedAt rfl rfl rfl (by decide +kernel) ⟨Nat.le_of_ble_eq_true rfl, Nat.le_of_ble_eq_true rfl⟩) (mx_at mx_oX0 h) rfl rfl rfl rfl (Nat.le_of_ble_eq_true rfl) ⟨Nat.zero_le _, Nat.zero_le _⟩ dX0_playRound_11 ?_
      refine mj_if_eq (tgt := 34) X dX0_playRound_14 (by decide) (fun c5 => ?_) (fun c5 => ?_)
      · have hf := mm_t c5 hf
        refine mj_iinc (k := 2) (v := (m2 + 1)) (lo' := [(2, .int (m2 + 1)), (0, .ref (ad 12)), (1, .int p1)]) X dX0_playRound_34 rfl rfl (by decide) rfl ?_
        refine mj_goto (tgt := 2) X dX0_playRound_37 (by decide) ?_
        exact mj_sub [1, 2, 0] rfl (ih h2 (m2 + 1) hf)
      · have hf := mm_f c5 hf
        refine mj_aload_n X dX0_playRound_17 0 rfl ?_
        refine mj_get X inwX0_playRound_X0 (mx_at mx_oX0 h2) rfl 0 (by decide) rfl lnX0_playRound_0 rfl dX0_playRound_18 ?_
        refine mj_aload_n X dX0_playRound_21 0 rfl ?_
        refine mj_iload_n X dX0_playRound_22 1 rfl ?_
        refine mj_iload_n X dX0_playRound_23 2 rfl ?_
        obtain ⟨h6, r7, q8, hf⟩ := mm_c hf
        refine mj_callVi (As := [.int p1, .int m2]) (rest := [.ref (ad 6)]) X (kX0_seatedAt l D t1 t2 cI cT cS ad N h2 p1 m2 h6 r7 q8) (cwV 2 X.2.2.2.2.1 gX0_playRound_X0_seatedAt rfl rfl rfl (by decide +kernel) ⟨Nat.le_of_ble_eq_true rfl, Nat.le_of_ble_eq_true rfl⟩) (mx_at mx_oX0 h2) rfl rfl rfl rfl (Nat.le_of_ble_eq_true rfl) ⟨Nat.zero_le _, Nat.zero_le _⟩ dX0_playRound_24 ?_
        refine mj_aload_n X dX0_playRound_27 0 rfl ?_
        refine mj_get X inwX0_playRound_X0 (mx_at mx_oX0 h6) rfl 3 (by decide) rfl lnX0_playRound_1 rfl dX0_playRound_28 ?_
        obtain ⟨h9, r10, q11, hf⟩ := mm_c hf
        refine mj_callVv (As := [.int r7, .ref (ad 15)]) (rest := []) X (kX2_charge l D t1 t2 cI cT cS ad 15 mx_a15 N h6 r7 h9 r10 q11) (cwV 2 X.2.2.2.2.1 gX0_playRound_X2_charge rfl rfl rfl (by decide +kernel) ⟨Nat.le_of_ble_eq_true rfl, Nat.le_of_ble_eq_true rfl⟩) (mx_at mx_oX2 h6) rfl rfl rfl rfl (Nat.le_of_ble_eq_true rfl) ⟨Nat.zero_le _, Nat.zero_le _⟩ dX0_playRound_31 ?_
        refine mj_iinc (k := 2) (v := (m2 + 1)) (lo' := [(2, .int (m2 + 1)), (0, .ref (ad 12)), (1, .int p1)]) X dX0_playRound_34 rfl rfl (by decide) rfl ?_
        refine mj_goto (tgt := 2) X dX0_playRound_37 (by decide) ?_
        exact mj_sub [1, 2, 0] rfl (ih h9 (m2 + 1) hf)
set_option maxHeartbeats 4000000 in
set_option maxRecDepth 100000 in
theorem wX0_playRound_L42 (X : mm_X p s m args c cX0_playRound RX0 wsX0_playRound 6 D (mx_ty cI cT cS) t1 t2 A) (out : mm_M × Unit) (RET : ∀ (h : mm_M) (pc : Nat) (lo : List (Nat × Value)) (v : Unit), decode cX0_playRound pc = .ok (.return_, 1) → (h, v) = out → mm_J p l e rmX0_playRound s m args below meth c 0 0 Q D (mx_w cI cT cS ad) A 6 h pc lo []) (N : Nat)  (p1 : Int32) (k : mm_M → Option (mm_M × Unit)) (HK : ∀ (h : mm_M), k h = some out → mm_J p l e rmX0_playRound s m args below meth c 0 0 Q D (mx_w cI cT cS ad) A 6 h 190 [] []) : ∀ (n : Nat) (h : mm_M) (m2 : Int32), fX0_playRound_L42 N p1 k n h m2 = some out → mm_J p l e rmX0_playRound s m args below meth c 0 0 Q D (mx_w cI cT cS ad) A 6 h 42 [(0, .ref (ad 12)), (1, .int p1), (2, .int m2)] [] := by
  intro n
  induction n with
  | zero =>
    intro h m2 hf
    cases hf
  | succ n ih =>
    intro h m2 hf
    rw [fX0_playRound_L42] at hf
    refine mj_iload_n X dX0_playRound_42 2 rfl ?_
    refine mj_aload_n X dX0_playRound_43 0 rfl ?_
    refine mj_get X inwX0_playRound_X0 (mx_at mx_oX0 h) rfl 0 (by decide) rfl lnX0_playRound_0 rfl dX0_playRound_44 ?_
    refine mj_get X inwX0_playRound_X2 (mx_at mx_oX2 h) rfl 5 (by decide) rfl lnX0_playRound_2 rfl dX0_playRound_47 ?_
    refine mj_icmp_ge (tgt := 190) X dX0_playRound_50 (by decide) (fun c13 => ?_) (fun c13 => ?_)
    · have hf := mm_t c13 hf
      exact mj_sub [] rfl (HK h hf)
    · have hf := mm_f c13 hf
      refine mj_aload_n X dX0_playRound_53 0 rfl ?_
      refine mj_iload_n X dX0_playRound_54 1 rfl ?_
      refine mj_iload_n X dX0_playRound_55 2 rfl ?_
      obtain ⟨h14, r15, q16, hf⟩ := mm_c hf
      refine mj_callVi (As := [.int p1, .int m2]) (rest := []) X (kX0_tableOf l D t1 t2 cI cT cS ad N h p1 m2 h14 r15 q16) (cwV 2 X.2.2.2.2.1 gX0_playRound_X0_tableOf rfl rfl rfl (by decide +kernel) ⟨Nat.le_of_ble_eq_true rfl, Nat.le_of_ble_eq_true rfl⟩) (mx_at mx_oX0 h) rfl rfl rfl rfl (Nat.le_of_ble_eq_true rfl) ⟨Nat.zero_le _, Nat.zero_le _⟩ dX0_playRound_56 ?_
      refine mj_iconst (v := (-1 : Int32)) X dX0_playRound_59 (by decide) ?_
      refine mj_icmp_ne (tgt := 67) X dX0_playRound_60 (by decide) (fun c17 => ?_) (fun c17 => ?_)
      · have hf := mm_f c17 hf
        refine mj_iconst (v := (0 : Int32)) X dX0_playRound_67 (by decide) ?_
        refine mj_istore_n (lo' := [(3, .int (0 : Int32)), (0, .ref (ad 12)), (1, .int p1), (2, .int m2)]) X dX0_playRound_68 (by decide) rfl ?_
        refine mj_iload_n X dX0_playRound_69 0 rfl ?_
        refine mj_if_eq (tgt := 77) X dX0_playRound_70 (by decide) (fun _ => ?_) (fun c18 => absurd c18 (by decide))
        refine mj_aload_n X dX0_playRound_77 1 rfl ?_
        refine mj_get X inwX0_playRound_X0 (mx_at mx_oX0 h14) rfl 0 (by decide) rfl lnX0_playRound_0 rfl dX0_playRound_78 ?_
        refine mj_get X inwX0_playRound_X2 (mx_at mx_oX2 h14) rfl 4 (by decide) rfl lnX0_playRound_3 rfl dX0_playRound_81 ?_
        refine mj_iload_n X dX0_playRound_84 3 rfl ?_
        obtain ⟨g19, hf⟩ := mm_g hf
        refine mj_iald X 0 (mx_at mx_a11 h14) rfl g19 dX0_playRound_85 ?_
        obtain ⟨x20, ex20, hf⟩ := mm_l hf
        refine mj_topi ex20 ?_
        refine mj_istore (lo' := [(4, .int x20), (3, .int (0 : Int32)), (0, .ref (ad 12)), (1, .int p1), (2, .int m2)]) X dX0_playRound_86 (by decide) rfl ?_
        refine mj_iload X dX0_playRound_88 0 rfl ?_
        refine mj_aload_n X dX0_playRound_90 2 rfl ?_
        refine mj_get X inwX0_playRound_X0 (mx_at mx_oX0 h14) rfl 3 (by decide) rfl lnX0_playRound_1 rfl dX0_playRound_91 ?_
        refine mj_iload_n X dX0_playRound_94 4 rfl ?_
        refine mj_iald X 0 (mx_at mx_a15 h14) rfl g19 dX0_playRound_95 ?_
        refine mj_min X lnX0_playRound_4 lnX0_playRound_5 lnX0_playRound_6 lnX0_playRound_7 (Nat.le_of_ble_eq_true rfl) (Nat.le_of_ble_eq_true rfl) ⟨Nat.zero_le _, Nat.zero_le _⟩ dX0_playRound_96 ?_
        obtain ⟨x21, ex21, hf⟩ := mm_l hf
        refine mj_topi ex21 ?_
        refine mj_istore (lo' := [(5, .int x21), (4, .int x20), (3, .int (0 : Int32)), (0, .ref (ad 12)), (1, .int p1), (2, .int m2)]) X dX0_playRound_99 (by decide) rfl ?_
        refine mj_aload_n X dX0_playRound_101 3 rfl ?_
        refine mj_get X inwX0_playRound_X0 (mx_at mx_oX0 h14) rfl 3 (by decide) rfl lnX0_playRound_1 rfl dX0_playRound_102 ?_
        refine mj_iload_n X dX0_playRound_105 5 rfl ?_
        refine mj_dup2 X dX0_playRound_106 rfl rfl ?_
        refine mj_iald X 0 (mx_at mx_a15 h14) rfl g19 dX0_playRound_107 ?_
        refine mj_iload X dX0_playRound_108 0 rfl ?_
        refine mj_isub X dX0_playRound_110 ?_
        obtain ⟨h22, eh22, hf⟩ := mm_l hf
        refine mj_iast X 0 (mx_at mx_a15 h14) rfl g19 (mx_ast mx_a15 eh22) dX0_playRound_111 ?_
        refine mj_aload_n X dX0_playRound_112 3 rfl ?_
        refine mj_get X inwX0_playRound_X0 (mx_at mx_oX0 h22) rfl 4 (by decide) rfl lnX0_playRound_8 rfl dX0_playRound_113 ?_
        refine mj_iload_n X dX0_playRound_116 5 rfl ?_
        refine mj_dup2 X dX0_playRound_117 rfl rfl ?_
        refine mj_iald X 0 (mx_at mx_a16 h22) rfl g19 dX0_playRound_118 ?_
        refine mj_iload X dX0_playRound_119 0 rfl ?_
        refine mj_iadd X dX0_playRound_121 ?_
        obtain ⟨h23, eh23, hf⟩ := mm_l hf
        refine mj_iast X 0 (mx_at mx_a16 h22) rfl g19 (mx_ast mx_a16 eh23) dX0_playRound_122 ?_
        refine mj_aload_n X dX0_playRound_123 3 rfl ?_
        refine mj_get X inwX0_playRound_X0 (mx_at mx_oX0 h23) rfl 5 (by decide) rfl lnX0_playRound_9 rfl dX0_playRound_124 ?_
        refine mj_iload_n X dX0_playRound_127 5 rfl ?_
        refine mj_dup2 X dX0_playRound_128 rfl rfl ?_
        refine mj_iald X 0 (mx_at mx_a17 h23) rfl g19 dX0_playRound_129 ?_
        refine mj_iload_n X dX0_playRound_130 2 rfl ?_
        refine mj_if_eq (tgt := 138) X dX0_playRound_131 (by decide) (fun _ => ?_) (fun c24 => absurd c24 (by decide))
        refine mj_aload_n X dX0_playRound_138 3 rfl ?_
        refine mj_get X inwX0_playRound_X0 (mx_at mx_oX0 h23) rfl 0 (by decide) rfl lnX0_playRound_0 rfl dX0_playRound_139 ?_
        refine mj_get X inwX0_playRound_X2 (mx_at mx_oX2 h23) rfl 1 (by decide) rfl lnX0_playRound_10 rfl dX0_playRound_142 ?_
        refine mj_iload_n X dX0_playRound_145 5 rfl ?_
        refine mj_iald X 0 (mx_at mx_a8 h23) rfl g19 dX0_playRound_146 ?_
        refine mj_iadd X dX0_playRound_147 ?_
        obtain ⟨h25, eh25, hf⟩ := mm_l hf
        refine mj_iast X 0 (mx_at mx_a17 h23) rfl g19 (mx_ast mx_a17 eh25) dX0_playRound_148 ?_
        refine mj_aload_n X dX0_playRound_149 3 rfl ?_
        refine mj_get X inwX0_playRound_X0 (mx_at mx_oX0 h25) rfl 6 (by decide) rfl lnX0_playRound_11 rfl dX0_playRound_150 ?_
        refine mj_iload_n X dX0_playRound_153 5 rfl ?_
        refine mj_dup2 X dX0_playRound_154 rfl rfl ?_
        refine mj_iald X 0 (mx_at mx_a18 h25) rfl g19 dX0_playRound_155 ?_
        refine mj_iload X dX0_playRound_156 1 rfl ?_
        refine mj_iload X dX0_playRound_158 0 rfl ?_
        refine mj_isub X dX0_playRound_160 ?_
        refine mj_iadd X dX0_playRound_161 ?_
        obtain ⟨h26, eh26, hf⟩ := mm_l hf
        refine mj_iast X 0 (mx_at mx_a18 h25) rfl g19 (mx_ast mx_a18 eh26) dX0_playRound_162 ?_
        refine mj_aload_n X dX0_playRound_163 3 rfl ?_
        refine mj_get X inwX0_playRound_X0 (mx_at mx_oX0 h26) rfl 7 (by decide) rfl lnX0_playRound_12 rfl dX0_playRound_164 ?_
        refine mj_iload_n X dX0_playRound_167 5 rfl ?_
        refine mj_iload X dX0_playRound_168 0 rfl ?_
        obtain ⟨h27, eh27, hf⟩ := mm_l hf
        refine mj_iast X 0 (mx_at mx_a19 h26) rfl g19 (mx_ast mx_a19 eh27) dX0_playRound_170 ?_
        refine mj_aload_n X dX0_playRound_171 3 rfl ?_
        refine mj_get X inwX0_playRound_X0 (mx_at mx_oX0 h27) rfl 8 (by decide) rfl lnX0_playRound_13 rfl dX0_playRound_172 ?_
        refine mj_iload_n X dX0_playRound_175 4 rfl ?_
        refine mj_bipush (v := (6 : Int32)) X dX0_playRound_176 (by decide) ?_
        refine mj_imul X dX0_playRound_178 ?_
        refine mj_iload_n X dX0_playRound_179 5 rfl ?_
        refine mj_iadd X dX0_playRound_180 ?_
        refine mj_iload X dX0_playRound_181 0 rfl ?_
        obtain ⟨g28, hf⟩ := mm_g hf
        obtain ⟨h29, eh29, hf⟩ := mm_l hf
        refine mj_iast X 0 (mx_at mx_a20 h27) rfl g28 (mx_ast mx_a20 eh29) dX0_playRound_183 ?_
        refine mj_iinc (k := 5) (v := (m2 + 1)) (lo' := [(2, .int (m2 + 1)), (5, .int x21), (4, .int x20), (3, .int (0 : Int32)), (0, .ref (ad 12)), (1, .int p1)]) X dX0_playRound_184 rfl rfl (by decide) rfl ?_
        refine mj_goto (tgt := 42) X dX0_playRound_187 (by decide) ?_
        exact mj_sub [4, 5, 0] rfl (ih h29 (m2 + 1) hf)
      · have hf := mm_t c17 hf
        refine mj_iconst (v := (1 : Int32)) X dX0_playRound_63 (by decide) ?_
        refine mj_goto (tgt := 68) X dX0_playRound_64 (by decide) ?_
        refine mj_istore_n (lo' := [(3, .int (1 : Int32)), (0, .ref (ad 12)), (1, .int p1), (2, .int m2)]) X dX0_playRound_68 (by decide) rfl ?_
        refine mj_iload_n X dX0_playRound_69 0 rfl ?_
        refine mj_if_eq (tgt := 77) X dX0_playRound_70 (by decide) (fun c30 => absurd c30 (by decide)) (fun _ => ?_)
        refine mj_iconst (v := (0 : Int32)) X dX0_playRound_73 (by decide) ?_
        refine mj_goto (tgt := 86) X dX0_playRound_74 (by decide) ?_
        refine mj_istore (lo' := [(4, .int (0 : Int32)), (3, .int (1 : Int32)), (0, .ref (ad 12)), (1, .int p1), (2, .int m2)]) X dX0_playRound_86 (by decide) rfl ?_
        refine mj_iload X dX0_playRound_88 0 rfl ?_
        refine mj_aload_n X dX0_playRound_90 2 rfl ?_
        refine mj_get X inwX0_playRound_X0 (mx_at mx_oX0 h14) rfl 3 (by decide) rfl lnX0_playRound_1 rfl dX0_playRound_91 ?_
        refine mj_iload_n X dX0_playRound_94 4 rfl ?_
        obtain ⟨g31, hf⟩ := mm_g hf
        refine mj_iald X 0 (mx_at mx_a15 h14) rfl g31 dX0_playRound_95 ?_
        refine mj_min X lnX0_playRound_4 lnX0_playRound_5 lnX0_playRound_6 lnX0_playRound_7 (Nat.le_of_ble_eq_true rfl) (Nat.le_of_ble_eq_true rfl) ⟨Nat.zero_le _, Nat.zero_le _⟩ dX0_playRound_96 ?_
        obtain ⟨x32, ex32, hf⟩ := mm_l hf
        refine mj_topi ex32 ?_
        refine mj_istore (lo' := [(5, .int x32), (4, .int (0 : Int32)), (3, .int (1 : Int32)), (0, .ref (ad 12)), (1, .int p1), (2, .int m2)]) X dX0_playRound_99 (by decide) rfl ?_
        refine mj_aload_n X dX0_playRound_101 3 rfl ?_
        refine mj_get X inwX0_playRound_X0 (mx_at mx_oX0 h14) rfl 3 (by decide) rfl lnX0_playRound_1 rfl dX0_playRound_102 ?_
        refine mj_iload_n X dX0_playRound_105 5 rfl ?_
        refine mj_dup2 X dX0_playRound_106 rfl rfl ?_
        refine mj_iald X 0 (mx_at mx_a15 h14) rfl g31 dX0_playRound_107 ?_
        refine mj_iload X dX0_playRound_108 0 rfl ?_
        refine mj_isub X dX0_playRound_110 ?_
        obtain ⟨h33, eh33, hf⟩ := mm_l hf
        refine mj_iast X 0 (mx_at mx_a15 h14) rfl g31 (mx_ast mx_a15 eh33) dX0_playRound_111 ?_
        refine mj_aload_n X dX0_playRound_112 3 rfl ?_
        refine mj_get X inwX0_playRound_X0 (mx_at mx_oX0 h33) rfl 4 (by decide) rfl lnX0_playRound_8 rfl dX0_playRound_113 ?_
        refine mj_iload_n X dX0_playRound_116 5 rfl ?_
        refine mj_dup2 X dX0_playRound_117 rfl rfl ?_
        refine mj_iald X 0 (mx_at mx_a16 h33) rfl g31 dX0_playRound_118 ?_
        refine mj_iload X dX0_playRound_119 0 rfl ?_
        refine mj_iadd X dX0_playRound_121 ?_
        obtain ⟨h34, eh34, hf⟩ := mm_l hf
        refine mj_iast X 0 (mx_at mx_a16 h33) rfl g31 (mx_ast mx_a16 eh34) dX0_playRound_122 ?_
        refine mj_aload_n X dX0_playRound_123 3 rfl ?_
        refine mj_get X inwX0_playRound_X0 (mx_at mx_oX0 h34) rfl 5 (by decide) rfl lnX0_playRound_9 rfl dX0_playRound_124 ?_
        refine mj_iload_n X dX0_playRound_127 5 rfl ?_
        refine mj_dup2 X dX0_playRound_128 rfl rfl ?_
        refine mj_iald X 0 (mx_at mx_a17 h34) rfl g31 dX0_playRound_129 ?_
        refine mj_iload_n X dX0_playRound_130 2 rfl ?_
        refine mj_if_eq (tgt := 138) X dX0_playRound_131 (by decide) (fun c35 => absurd c35 (by decide)) (fun _ => ?_)
        refine mj_iconst (v := (0 : Int32)) X dX0_playRound_134 (by decide) ?_
        refine mj_goto (tgt := 147) X dX0_playRound_135 (by decide) ?_
        refine mj_iadd X dX0_playRound_147 ?_
        obtain ⟨h36, eh36, hf⟩ := mm_l hf
        refine mj_iast X 0 (mx_at mx_a17 h34) rfl g31 (mx_ast mx_a17 eh36) dX0_playRound_148 ?_
        refine mj_aload_n X dX0_playRound_149 3 rfl ?_
        refine mj_get X inwX0_playRound_X0 (mx_at mx_oX0 h36) rfl 6 (by decide) rfl lnX0_playRound_11 rfl dX0_playRound_150 ?_
        refine mj_iload_n X dX0_playRound_153 5 rfl ?_
        refine mj_dup2 X dX0_playRound_154 rfl rfl ?_
        refine mj_iald X 0 (mx_at mx_a18 h36) rfl g31 dX0_playRound_155 ?_
        refine mj_iload X dX0_playRound_156 1 rfl ?_
        refine mj_iload X dX0_playRound_158 0 rfl ?_
        refine mj_isub X dX0_playRound_160 ?_
        refine mj_iadd X dX0_playRound_161 ?_
        obtain ⟨h37, eh37, hf⟩ := mm_l hf
        refine mj_iast X 0 (mx_at mx_a18 h36) rfl g31 (mx_ast mx_a18 eh37) dX0_playRound_162 ?_
        refine mj_aload_n X dX0_playRound_163 3 rfl ?_
        refine mj_get X inwX0_playRound_X0 (mx_at mx_oX0 h37) rfl 7 (by decide) rfl lnX0_playRound_12 rfl dX0_playRound_164 ?_
        refine mj_iload_n X dX0_playRound_167 5 rfl ?_
        refine mj_iload X dX0_playRound_168 0 rfl ?_
        obtain ⟨h38, eh38, hf⟩ := mm_l hf
        refine mj_iast X 0 (mx_at mx_a19 h37) rfl g31 (mx_ast mx_a19 eh38) dX0_playRound_170 ?_
        refine mj_aload_n X dX0_playRound_171 3 rfl ?_
        refine mj_get X inwX0_playRound_X0 (mx_at mx_oX0 h38) rfl 8 (by decide) rfl lnX0_playRound_13 rfl dX0_playRound_172 ?_
        refine mj_iload_n X dX0_playRound_175 4 rfl ?_
        refine mj_bipush (v := (6 : Int32)) X dX0_playRound_176 (by decide) ?_
        refine mj_imul X dX0_playRound_178 ?_
        refine mj_iload_n X dX0_playRound_179 5 rfl ?_
        refine mj_iadd X dX0_playRound_180 ?_
        refine mj_iload X dX0_playRound_181 0 rfl ?_
        obtain ⟨g39, hf⟩ := mm_g hf
        obtain ⟨h40, eh40, hf⟩ := mm_l hf
        refine mj_iast X 0 (mx_at mx_a20 h38) rfl g39 (mx_ast mx_a20 eh40) dX0_playRound_183 ?_
        refine mj_iinc (k := 5) (v := (m2 + 1)) (lo' := [(2, .int (m2 + 1)), (5, .int x32), (4, .int (0 : Int32)), (3, .int (1 : Int32)), (0, .ref (ad 12)), (1, .int p1)]) X dX0_playRound_184 rfl rfl (by decide) rfl ?_
        refine mj_goto (tgt := 42) X dX0_playRound_187 (by decide) ?_
        exact mj_sub [4, 5, 0] rfl (ih h40 (m2 + 1) hf)
set_option maxHeartbeats 4000000 in
set_option maxRecDepth 100000 in
theorem kX0_playRound (l : Launch) (D : va_G) (t1 t2 : Nat) (cI : ClassId) (cT : ClassId) (cS : ClassId) (ad : Nat → Nat)  (N : Nat) (h : mm_M) (a0 : Int32) (h1 : mm_M) (r : Unit) (hf : fX0_playRound N h a0 = some (h1, r)) : mm_Kv l yX0_playRound wsX0_playRound rmX0_playRound D (mx_ty cI cT cS) t1 t2 (mx_w cI cT cS ad) [.ref (ad 12), .int a0] h h1 := by
  refine mm_open_v [.ref (ad 12), .int a0] h h1 RX0 (by decide) rfl rfl (Nat.le_of_ble_eq_true rfl) ?_
  intro p e s m below meth c A X hr hlocks
  have RET : ∀ (h : mm_M) (pc : Nat) (lo : List (Nat × Value)) (v : Unit), decode cX0_playRound pc = .ok (.return_, 1) → (h, v) = (h1, r) → mm_J p l e rmX0_playRound s m ([.ref (ad 12), .int a0] : List Value).toArray below meth c 0 0 (MQ below (va_Qv (fun (u : mm_M) => u = h1) (mm_Post D (mx_w cI cT cS ad) A) A) ([.ref (ad 12), .int a0] : List Value).toArray s 0 0 A) D (mx_w cI cT cS ad) A 6 h pc lo [] := by
    intro h2 pc lo v hd he
    cases he
    exact mj_vret X hr hlocks hd
  generalize hout : (h1, r) = out at hf RET
  unfold fX0_playRound at hf
  refine mj_lo (lo' := [(0, .ref (ad 12)), (1, .int a0)]) rfl ?_
  refine mj_iconst (v := (0 : Int32)) X dX0_playRound_0 (by decide) ?_
  refine mj_istore_n (lo' := [(2, .int (0 : Int32)), (0, .ref (ad 12)), (1, .int a0)]) X dX0_playRound_1 (by decide) rfl ?_
  refine mj_sub [1, 2, 0] rfl (wX0_playRound_L2 X out RET N a0 _ (fun h12 hf => ?_) N h (0 : Int32) hf)
  refine mj_iconst (v := (0 : Int32)) X dX0_playRound_40 (by decide) ?_
  refine mj_istore_n (lo' := [(2, .int (0 : Int32)), (0, .ref (ad 12)), (1, .int a0)]) X dX0_playRound_41 (by decide) rfl ?_
  refine mj_sub [1, 2, 0] rfl (wX0_playRound_L42 X out RET N a0 _ (fun h41 hf => ?_) N h12 (0 : Int32) hf)
  exact RET h41 _ _ _ dX0_playRound_190 (Option.some.inj hf)
abbrev rmX0_playFromHands : Room := { frames := 3, cells := 0, slots := 0, locals := 75 }
theorem inwX0_playFromHands_X0 : ∀ w ∈ wsX00, w ∈ wsX0_playFromHands := by
  intro w hw
  have h9 : wsX00 = (wsX0_playFromHands.drop 44).take 11 := rfl
  rw [h9] at hw
  exact List.mem_of_mem_drop (List.mem_of_mem_take hw)
theorem lnX0_playFromHands_0 : Cond.fieldLink RX0 21 "RichestPays$Evening" "paid" "[I" ∈ wsX0_playFromHands := List.mem_of_getElem? (i := 1) rfl
theorem lnX0_playFromHands_1 : Cond.fieldLink RX0 24 "RichestPays$Evening" "eaten" "[I" ∈ wsX0_playFromHands := List.mem_of_getElem? (i := 2) rfl
theorem lnX0_playFromHands_2 : Cond.fieldLink RX0 27 "RichestPays$Evening" "lacked" "[I" ∈ wsX0_playFromHands := List.mem_of_getElem? (i := 3) rfl
set_option maxHeartbeats 4000000 in
set_option maxRecDepth 100000 in
theorem wX0_playFromHands_L2 (X : mm_X p s m args c cX0_playFromHands RX0 wsX0_playFromHands 3 D (mx_ty cI cT cS) t1 t2 A) (out : mm_M × Unit) (RET : ∀ (h : mm_M) (pc : Nat) (lo : List (Nat × Value)) (v : Unit), decode cX0_playFromHands pc = .ok (.return_, 1) → (h, v) = out → mm_J p l e rmX0_playFromHands s m args below meth c 0 0 Q D (mx_w cI cT cS ad) A 3 h pc lo []) (N : Nat)  (p1 : Int32) (k : mm_M → Option (mm_M × Unit)) (HK : ∀ (h : mm_M), k h = some out → mm_J p l e rmX0_playFromHands s m args below meth c 0 0 Q D (mx_w cI cT cS ad) A 3 h 35 [(0, .ref (ad 12)), (1, .int p1)] []) : ∀ (n : Nat) (h : mm_M) (m2 : Int32), fX0_playFromHands_L2 N p1 k n h m2 = some out → mm_J p l e rmX0_playFromHands s m args below meth c 0 0 Q D (mx_w cI cT cS ad) A 3 h 2 [(0, .ref (ad 12)), (1, .int p1), (2, .int m2)] [] := by
  intro n
  induction n with
  | zero =>
    intro h m2 hf
    cases hf
  | succ n ih =>
    intro h m2 hf
    rw [fX0_playFromHands_L2] at hf
    refine mj_iload_n X dX0_playFromHands_2 2 rfl ?_
    refine mj_bipush (v := (6 : Int32)) X dX0_playFromHands_3 (by decide) ?_
    refine mj_icmp_ge (tgt := 35) X dX0_playFromHands_5 (by decide) (fun c1 => ?_) (fun c1 => ?_)
    · have hf := mm_t c1 hf
      exact mj_sub [0, 1] rfl (HK h hf)
    · have hf := mm_f c1 hf
      refine mj_aload_n X dX0_playFromHands_8 0 rfl ?_
      refine mj_get X inwX0_playFromHands_X0 (mx_at mx_oX0 h) rfl 4 (by decide) rfl lnX0_playFromHands_0 rfl dX0_playFromHands_9 ?_
      refine mj_iload_n X dX0_playFromHands_12 2 rfl ?_
      refine mj_iconst (v := (0 : Int32)) X dX0_playFromHands_13 (by decide) ?_
      obtain ⟨g2, hf⟩ := mm_g hf
      obtain ⟨h3, eh3, hf⟩ := mm_l hf
      refine mj_iast X 0 (mx_at mx_a16 h) rfl g2 (mx_ast mx_a16 eh3) dX0_playFromHands_14 ?_
      refine mj_aload_n X dX0_playFromHands_15 0 rfl ?_
      refine mj_get X inwX0_playFromHands_X0 (mx_at mx_oX0 h3) rfl 5 (by decide) rfl lnX0_playFromHands_1 rfl dX0_playFromHands_16 ?_
      refine mj_iload_n X dX0_playFromHands_19 2 rfl ?_
      refine mj_iconst (v := (0 : Int32)) X dX0_playFromHands_20 (by decide) ?_
      obtain ⟨h4, eh4, hf⟩ := mm_l hf
      refine mj_iast X 0 (mx_at mx_a17 h3) rfl g2 (mx_ast mx_a17 eh4) dX0_playFromHands_21 ?_
      refine mj_aload_n X dX0_playFromHands_22 0 rfl ?_
      refine mj_get X inwX0_playFromHands_X0 (mx_at mx_oX0 h4) rfl 6 (by decide) rfl lnX0_playFromHands_2 rfl dX0_playFromHands_23 ?_
      refine mj_iload_n X dX0_playFromHands_26 2 rfl ?_
      refine mj_iconst (v := (0 : Int32)) X dX0_playFromHands_27 (by decide) ?_
      obtain ⟨h5, eh5, hf⟩ := mm_l hf
      refine mj_iast X 0 (mx_at mx_a18 h4) rfl g2 (mx_ast mx_a18 eh5) dX0_playFromHands_28 ?_
      refine mj_iinc (k := 2) (v := (m2 + 1)) (lo' := [(2, .int (m2 + 1)), (0, .ref (ad 12)), (1, .int p1)]) X dX0_playFromHands_29 rfl rfl (by decide) rfl ?_
      refine mj_goto (tgt := 2) X dX0_playFromHands_32 (by decide) ?_
      exact mj_sub [1, 2, 0] rfl (ih h5 (m2 + 1) hf)
set_option maxHeartbeats 4000000 in
set_option maxRecDepth 100000 in
theorem wX0_playFromHands_L37 (X : mm_X p s m args c cX0_playFromHands RX0 wsX0_playFromHands 3 D (mx_ty cI cT cS) t1 t2 A) (out : mm_M × Unit) (RET : ∀ (h : mm_M) (pc : Nat) (lo : List (Nat × Value)) (v : Unit), decode cX0_playFromHands pc = .ok (.return_, 1) → (h, v) = out → mm_J p l e rmX0_playFromHands s m args below meth c 0 0 Q D (mx_w cI cT cS ad) A 3 h pc lo []) (N : Nat)  (p1 : Int32) (k : mm_M → Option (mm_M × Unit)) (HK : ∀ (h : mm_M), k h = some out → mm_J p l e rmX0_playFromHands s m args below meth c 0 0 Q D (mx_w cI cT cS ad) A 3 h 53 [] []) : ∀ (n : Nat) (h : mm_M) (m2 : Int32), fX0_playFromHands_L37 N p1 k n h m2 = some out → mm_J p l e rmX0_playFromHands s m args below meth c 0 0 Q D (mx_w cI cT cS ad) A 3 h 37 [(0, .ref (ad 12)), (1, .int p1), (2, .int m2)] [] := by
  intro n
  induction n with
  | zero =>
    intro h m2 hf
    cases hf
  | succ n ih =>
    intro h m2 hf
    rw [fX0_playFromHands_L37] at hf
    refine mj_iload_n X dX0_playFromHands_37 2 rfl ?_
    refine mj_iload_n X dX0_playFromHands_38 1 rfl ?_
    refine mj_icmp_ge (tgt := 53) X dX0_playFromHands_39 (by decide) (fun c7 => ?_) (fun c7 => ?_)
    · have hf := mm_t c7 hf
      exact mj_sub [] rfl (HK h hf)
    · have hf := mm_f c7 hf
      refine mj_aload_n X dX0_playFromHands_42 0 rfl ?_
      refine mj_iload_n X dX0_playFromHands_43 2 rfl ?_
      obtain ⟨h8, r9, q10, hf⟩ := mm_c hf
      refine mj_callVv (As := [.int m2]) (rest := []) X (kX0_playRound l D t1 t2 cI cT cS ad N h m2 h8 r9 q10) (cwV 1 X.2.2.2.2.1 gX0_playFromHands_X0_playRound rfl rfl rfl (by decide +kernel) ⟨Nat.le_of_ble_eq_true rfl, Nat.le_of_ble_eq_true rfl⟩) (mx_at mx_oX0 h) rfl rfl rfl rfl (Nat.le_of_ble_eq_true rfl) ⟨Nat.zero_le _, Nat.zero_le _⟩ dX0_playFromHands_44 ?_
      refine mj_iinc (k := 2) (v := (m2 + 1)) (lo' := [(2, .int (m2 + 1)), (0, .ref (ad 12)), (1, .int p1)]) X dX0_playFromHands_47 rfl rfl (by decide) rfl ?_
      refine mj_goto (tgt := 37) X dX0_playFromHands_50 (by decide) ?_
      exact mj_sub [1, 2, 0] rfl (ih h8 (m2 + 1) hf)
set_option maxHeartbeats 4000000 in
set_option maxRecDepth 100000 in
theorem kX0_playFromHands (l : Launch) (D : va_G) (t1 t2 : Nat) (cI : ClassId) (cT : ClassId) (cS : ClassId) (ad : Nat → Nat)  (N : Nat) (h : mm_M) (a0 : Int32) (h1 : mm_M) (r : Unit) (hf : fX0_playFromHands N h a0 = some (h1, r)) : mm_Kv l yX0_playFromHands wsX0_playFromHands rmX0_playFromHands D (mx_ty cI cT cS) t1 t2 (mx_w cI cT cS ad) [.ref (ad 12), .int a0] h h1 := by
  refine mm_open_v [.ref (ad 12), .int a0] h h1 RX0 (by decide) rfl rfl (Nat.le_of_ble_eq_true rfl) ?_
  intro p e s m below meth c A X hr hlocks
  have RET : ∀ (h : mm_M) (pc : Nat) (lo : List (Nat × Value)) (v : Unit), decode cX0_playFromHands pc = .ok (.return_, 1) → (h, v) = (h1, r) → mm_J p l e rmX0_playFromHands s m ([.ref (ad 12), .int a0] : List Value).toArray below meth c 0 0 (MQ below (va_Qv (fun (u : mm_M) => u = h1) (mm_Post D (mx_w cI cT cS ad) A) A) ([.ref (ad 12), .int a0] : List Value).toArray s 0 0 A) D (mx_w cI cT cS ad) A 3 h pc lo [] := by
    intro h2 pc lo v hd he
    cases he
    exact mj_vret X hr hlocks hd
  generalize hout : (h1, r) = out at hf RET
  unfold fX0_playFromHands at hf
  refine mj_lo (lo' := [(0, .ref (ad 12)), (1, .int a0)]) rfl ?_
  refine mj_iconst (v := (0 : Int32)) X dX0_playFromHands_0 (by decide) ?_
  refine mj_istore_n (lo' := [(2, .int (0 : Int32)), (0, .ref (ad 12)), (1, .int a0)]) X dX0_playFromHands_1 (by decide) rfl ?_
  refine mj_sub [1, 2, 0] rfl (wX0_playFromHands_L2 X out RET N a0 _ (fun h6 hf => ?_) N h (0 : Int32) hf)
  refine mj_iconst (v := (0 : Int32)) X dX0_playFromHands_35 (by decide) ?_
  refine mj_istore_n (lo' := [(2, .int (0 : Int32)), (0, .ref (ad 12)), (1, .int a0)]) X dX0_playFromHands_36 (by decide) rfl ?_
  refine mj_sub [1, 2, 0] rfl (wX0_playFromHands_L37 X out RET N a0 _ (fun h11 hf => ?_) N h6 (0 : Int32) hf)
  exact RET h11 _ _ _ dX0_playFromHands_53 (Option.some.inj hf)
abbrev rmX0_play : Room := { frames := 4, cells := 0, slots := 0, locals := 97 }
theorem inwX0_play_X0 : ∀ w ∈ wsX00, w ∈ wsX0_play := by
  intro w hw
  have h9 : wsX00 = (wsX0_play.drop 61).take 11 := rfl
  rw [h9] at hw
  exact List.mem_of_mem_drop (List.mem_of_mem_take hw)
theorem lnX0_play_0 : Cond.fieldLink RX0 43 "RichestPays$Evening" "people" "LRichestPays$People;" ∈ wsX0_play := List.mem_of_getElem? (i := 1) rfl
theorem lnX0_play_1 : Cond.fieldLink RX0 18 "RichestPays$Evening" "hand" "[I" ∈ wsX0_play := List.mem_of_getElem? (i := 2) rfl
set_option maxHeartbeats 4000000 in
set_option maxRecDepth 100000 in
theorem kX0_play (l : Launch) (D : va_G) (t1 t2 : Nat) (cI : ClassId) (cT : ClassId) (cS : ClassId) (ad : Nat → Nat)  (N : Nat) (h : mm_M) (a0 : Int32) (h1 : mm_M) (r : Unit) (hf : fX0_play N h a0 = some (h1, r)) : mm_Kv l yX0_play wsX0_play rmX0_play D (mx_ty cI cT cS) t1 t2 (mx_w cI cT cS ad) [.ref (ad 12), .int a0] h h1 := by
  refine mm_open_v [.ref (ad 12), .int a0] h h1 RX0 (by decide) rfl rfl (Nat.le_of_ble_eq_true rfl) ?_
  intro p e s m below meth c A X hr hlocks
  have RET : ∀ (h : mm_M) (pc : Nat) (lo : List (Nat × Value)) (v : Unit), decode cX0_play pc = .ok (.return_, 1) → (h, v) = (h1, r) → mm_J p l e rmX0_play s m ([.ref (ad 12), .int a0] : List Value).toArray below meth c 0 0 (MQ below (va_Qv (fun (u : mm_M) => u = h1) (mm_Post D (mx_w cI cT cS ad) A) A) ([.ref (ad 12), .int a0] : List Value).toArray s 0 0 A) D (mx_w cI cT cS ad) A 2 h pc lo [] := by
    intro h2 pc lo v hd he
    cases he
    exact mj_vret X hr hlocks hd
  generalize hout : (h1, r) = out at hf RET
  unfold fX0_play at hf
  refine mj_lo (lo' := [(0, .ref (ad 12)), (1, .int a0)]) rfl ?_
  refine mj_aload_n X dX0_play_0 0 rfl ?_
  refine mj_get X inwX0_play_X0 (mx_at mx_oX0 h) rfl 0 (by decide) rfl lnX0_play_0 rfl dX0_play_1 ?_
  refine mj_aload_n X dX0_play_4 0 rfl ?_
  refine mj_get X inwX0_play_X0 (mx_at mx_oX0 h) rfl 3 (by decide) rfl lnX0_play_1 rfl dX0_play_5 ?_
  obtain ⟨h1, r2, q3, hf⟩ := mm_c hf
  refine mj_callVv (As := [.ref (ad 15)]) (rest := []) X (kX2_tellHandsAtFirst l D t1 t2 cI cT cS ad 15 mx_a15 N h h1 r2 q3) (cwV 1 X.2.2.2.2.1 gX0_play_X2_tellHandsAtFirst rfl rfl rfl (by decide +kernel) ⟨Nat.le_of_ble_eq_true rfl, Nat.le_of_ble_eq_true rfl⟩) (mx_at mx_oX2 h) rfl rfl rfl rfl (Nat.le_of_ble_eq_true rfl) ⟨Nat.zero_le _, Nat.zero_le _⟩ dX0_play_8 ?_
  refine mj_aload_n X dX0_play_11 0 rfl ?_
  refine mj_iload_n X dX0_play_12 1 rfl ?_
  obtain ⟨h4, r5, q6, hf⟩ := mm_c hf
  refine mj_callVv (As := [.int a0]) (rest := []) X (kX0_playFromHands l D t1 t2 cI cT cS ad N h1 a0 h4 r5 q6) (cwV 1 X.2.2.2.2.1 gX0_play_X0_playFromHands rfl rfl rfl (by decide +kernel) ⟨Nat.le_of_ble_eq_true rfl, Nat.le_of_ble_eq_true rfl⟩) (mx_at mx_oX0 h1) rfl rfl rfl rfl (Nat.le_of_ble_eq_true rfl) ⟨Nat.zero_le _, Nat.zero_le _⟩ dX0_play_13 ?_
  exact RET h4 _ _ _ dX0_play_16 (Option.some.inj hf)
abbrev rmX0_sumsOf : Room := { frames := 0, cells := 0, slots := 0, locals := 0 }
theorem inwX0_sumsOf_X0 : ∀ w ∈ wsX00, w ∈ wsX0_sumsOf := by
  intro w hw
  have h9 : wsX00 = (wsX0_sumsOf.drop 5).take 11 := rfl
  rw [h9] at hw
  exact List.mem_of_mem_drop (List.mem_of_mem_take hw)
theorem lnX0_sumsOf_0 : Cond.fieldLink RX0 18 "RichestPays$Evening" "hand" "[I" ∈ wsX0_sumsOf := List.mem_of_getElem? (i := 1) rfl
theorem lnX0_sumsOf_1 : Cond.fieldLink RX0 21 "RichestPays$Evening" "paid" "[I" ∈ wsX0_sumsOf := List.mem_of_getElem? (i := 2) rfl
theorem lnX0_sumsOf_2 : Cond.fieldLink RX0 24 "RichestPays$Evening" "eaten" "[I" ∈ wsX0_sumsOf := List.mem_of_getElem? (i := 3) rfl
theorem lnX0_sumsOf_3 : Cond.fieldLink RX0 27 "RichestPays$Evening" "lacked" "[I" ∈ wsX0_sumsOf := List.mem_of_getElem? (i := 4) rfl
set_option maxHeartbeats 4000000 in
set_option maxRecDepth 100000 in
theorem kX0_sumsOf (l : Launch) (D : va_G) (t1 t2 : Nat) (cI : ClassId) (cT : ClassId) (cS : ClassId) (ad : Nat → Nat)  (N : Nat) (h : mm_M) (a0 : Int32) (h1 : mm_M) (r : Nat) (hf : fX0_sumsOf N h a0 = some (h1, r)) : mm_Kr l yX0_sumsOf wsX0_sumsOf rmX0_sumsOf D (mx_ty cI cT cS) t1 t2 (mx_w cI cT cS ad) [.ref (ad 12), .int a0] h (ad r) h1 := by
  refine mm_open_r [.ref (ad 12), .int a0] h (ad r) h1 RX0 (by decide) rfl rfl (Nat.le_of_ble_eq_true rfl) ?_
  intro p e s m below meth c A X hr hlocks
  have RET : ∀ (h : mm_M) (pc : Nat) (lo : List (Nat × Value)) (v : Nat), decode cX0_sumsOf pc = .ok (.areturn, 1) → (h, v) = (h1, r) → mm_J p l e rmX0_sumsOf s m ([.ref (ad 12), .int a0] : List Value).toArray below meth c 0 0 (MQ below (va_Qr (fun (u : mm_M) => u = h1) (fun u a t => a = ad r ∧ mm_Post D (mx_w cI cT cS ad) A u t) A) ([.ref (ad 12), .int a0] : List Value).toArray s 0 0 A) D (mx_w cI cT cS ad) A 2 h pc lo [.ref (ad v)] := by
    intro h2 pc lo v hd he
    cases he
    exact mj_aret X hr (Or.inr ⟨_, rfl⟩) hlocks hd
  generalize hout : (h1, r) = out at hf RET
  unfold fX0_sumsOf at hf
  refine mj_lo (lo' := [(0, .ref (ad 12)), (1, .int a0)]) rfl ?_
  refine mj_iload_n X dX0_sumsOf_0 1 rfl ?_
  by_cases c1 : a0 = 0
  · have hf := mm_t c1 hf
    refine mj_tableIn (tgt := 28) (off := 27) X dX0_sumsOf_1 (by rw [c1]; decide) (by rw [c1]; decide) (by rw [c1]; decide) (by decide) ?_
    refine mj_aload_n X dX0_sumsOf_28 0 rfl ?_
    refine mj_get X inwX0_sumsOf_X0 (mx_at mx_oX0 h) rfl 3 (by decide) rfl lnX0_sumsOf_0 rfl dX0_sumsOf_29 ?_
    exact RET h _ _ _ dX0_sumsOf_32 (Option.some.inj hf)
  · have hf := mm_f c1 hf
    by_cases c2 : a0 = 1
    · have hf := mm_t c2 hf
      refine mj_tableIn (tgt := 33) (off := 32) X dX0_sumsOf_1 (by rw [c2]; decide) (by rw [c2]; decide) (by rw [c2]; decide) (by decide) ?_
      refine mj_aload_n X dX0_sumsOf_33 0 rfl ?_
      refine mj_get X inwX0_sumsOf_X0 (mx_at mx_oX0 h) rfl 4 (by decide) rfl lnX0_sumsOf_1 rfl dX0_sumsOf_34 ?_
      exact RET h _ _ _ dX0_sumsOf_37 (Option.some.inj hf)
    · have hf := mm_f c2 hf
      by_cases c3 : a0 = 2
      · have hf := mm_t c3 hf
        refine mj_tableIn (tgt := 38) (off := 37) X dX0_sumsOf_1 (by rw [c3]; decide) (by rw [c3]; decide) (by rw [c3]; decide) (by decide) ?_
        refine mj_aload_n X dX0_sumsOf_38 0 rfl ?_
        refine mj_get X inwX0_sumsOf_X0 (mx_at mx_oX0 h) rfl 5 (by decide) rfl lnX0_sumsOf_2 rfl dX0_sumsOf_39 ?_
        exact RET h _ _ _ dX0_sumsOf_42 (Option.some.inj hf)
      · have hf := mm_f c3 hf
        refine mj_tableOut (tgt := 43) X dX0_sumsOf_1 (mm_tout (by intro j h1 h2; rcases (show j = 0 ∨ j = 1 ∨ j = 2 by omega) with rfl | rfl | rfl; exact lv_neT c1 (by decide); exact lv_neT c2 (by decide); exact lv_neT c3 (by decide))) (by decide) ?_
        refine mj_aload_n X dX0_sumsOf_43 0 rfl ?_
        refine mj_get X inwX0_sumsOf_X0 (mx_at mx_oX0 h) rfl 6 (by decide) rfl lnX0_sumsOf_3 rfl dX0_sumsOf_44 ?_
        exact RET h _ _ _ dX0_sumsOf_47 (Option.some.inj hf)
theorem kX0_sumsOf_a (cI cT cS : ClassId) (ad : Nat → Nat) {N : Nat} {h h1 : mm_M} {a0 : Int32} {r : Nat} (hf : fX0_sumsOf N h a0 = some (h1, r)) : mx_arr cI cT cS ad r 6 := by
  unfold fX0_sumsOf at hf
  repeat' split at hf
  all_goals (cases hf; exact ⟨by decide, fun _ => rfl⟩)
abbrev rmX1_packed : Room := { frames := 0, cells := 0, slots := 0, locals := 0 }
theorem inwX1_packed_X1 : ∀ w ∈ wsX10, w ∈ wsX1_packed := by
  intro w hw
  have h9 : wsX10 = (wsX1_packed.drop 4).take 4 := rfl
  rw [h9] at hw
  exact List.mem_of_mem_drop (List.mem_of_mem_take hw)
theorem lnX1_packed_0 : Cond.fieldLink RX1 18 "RichestPays$Partings" "people" "LRichestPays$People;" ∈ wsX1_packed := List.mem_of_getElem? (i := 1) rfl
theorem inwX1_packed_X2 : ∀ w ∈ wsX20, w ∈ wsX1_packed := by
  intro w hw
  have h9 : wsX20 = (wsX1_packed.drop 8).take 9 := rfl
  rw [h9] at hw
  exact List.mem_of_mem_drop (List.mem_of_mem_take hw)
theorem lnX1_packed_1 : Cond.fieldLink RX1 22 "RichestPays$People" "number" "I" ∈ wsX1_packed := List.mem_of_getElem? (i := 2) rfl
theorem lnX1_packed_2 : Cond.fieldLink RX1 9 "RichestPays$Partings" "hands" "[I" ∈ wsX1_packed := List.mem_of_getElem? (i := 3) rfl
set_option maxHeartbeats 4000000 in
set_option maxRecDepth 100000 in
theorem wX1_packed_L4 (X : mm_X p s m args c cX1_packed RX1 wsX1_packed 3 D (mx_ty cI cT cS) t1 t2 A) (out : mm_M × Int32) (RET : ∀ (h : mm_M) (pc : Nat) (lo : List (Nat × Value)) (v : Int32), decode cX1_packed pc = .ok (.ireturn, 1) → (h, v) = out → mm_J p l e rmX1_packed s m args below meth c 0 0 Q D (mx_w cI cT cS ad) A 3 h pc lo [.int v]) (N : Nat)   (k : mm_M → Int32 → Option (mm_M × Int32)) (HK : ∀ (h : mm_M) (m1 : Int32), k h m1 = some out → mm_J p l e rmX1_packed s m args below meth c 0 0 Q D (mx_w cI cT cS ad) A 3 h 35 [(1, .int m1)] []) : ∀ (n : Nat) (h : mm_M) (m1 : Int32) (m2 : Int32), fX1_packed_L4 N k n h m1 m2 = some out → mm_J p l e rmX1_packed s m args below meth c 0 0 Q D (mx_w cI cT cS ad) A 3 h 4 [(0, .ref (ad 25)), (1, .int m1), (2, .int m2)] [] := by
  intro n
  induction n with
  | zero =>
    intro h m1 m2 hf
    cases hf
  | succ n ih =>
    intro h m1 m2 hf
    rw [fX1_packed_L4] at hf
    refine mj_iload_n X dX1_packed_4 2 rfl ?_
    refine mj_aload_n X dX1_packed_5 0 rfl ?_
    refine mj_get X inwX1_packed_X1 (mx_at mx_oX1 h) rfl 0 (by decide) rfl lnX1_packed_0 rfl dX1_packed_6 ?_
    refine mj_get X inwX1_packed_X2 (mx_at mx_oX2 h) rfl 5 (by decide) rfl lnX1_packed_1 rfl dX1_packed_9 ?_
    refine mj_icmp_ge (tgt := 35) X dX1_packed_12 (by decide) (fun c1 => ?_) (fun c1 => ?_)
    · have hf := mm_t c1 hf
      exact mj_sub [1] rfl (HK h m1 hf)
    · have hf := mm_f c1 hf
      refine mj_iload_n X dX1_packed_15 1 rfl ?_
      refine mj_aload_n X dX1_packed_16 0 rfl ?_
      refine mj_get X inwX1_packed_X1 (mx_at mx_oX1 h) rfl 1 (by decide) rfl lnX1_packed_2 rfl dX1_packed_17 ?_
      refine mj_iload_n X dX1_packed_20 2 rfl ?_
      obtain ⟨g2, hf⟩ := mm_g hf
      refine mj_iald X 0 (mx_at mx_a26 h) rfl g2 dX1_packed_21 ?_
      refine mj_bipush (v := (7 : Int32)) X dX1_packed_22 (by decide) ?_
      refine mj_iload_n X dX1_packed_24 2 rfl ?_
      refine mj_imul X dX1_packed_25 ?_
      refine mj_ishl X dX1_packed_26 ?_
      refine mj_ior X dX1_packed_27 ?_
      obtain ⟨x3, ex3, hf⟩ := mm_l hf
      refine mj_topi ex3 ?_
      refine mj_istore_n (lo' := [(1, .int x3), (0, .ref (ad 25)), (2, .int m2)]) X dX1_packed_28 (by decide) rfl ?_
      refine mj_iinc (k := 2) (v := (m2 + 1)) (lo' := [(2, .int (m2 + 1)), (1, .int x3), (0, .ref (ad 25))]) X dX1_packed_29 rfl rfl (by decide) rfl ?_
      refine mj_goto (tgt := 4) X dX1_packed_32 (by decide) ?_
      exact mj_sub [2, 1, 0] rfl (ih h x3 (m2 + 1) hf)
set_option maxHeartbeats 4000000 in
set_option maxRecDepth 100000 in
theorem kX1_packed (l : Launch) (D : va_G) (t1 t2 : Nat) (cI : ClassId) (cT : ClassId) (cS : ClassId) (ad : Nat → Nat)  (N : Nat) (h : mm_M)  (h1 : mm_M) (r : Int32) (hf : fX1_packed N h = some (h1, r)) : mm_Ki l yX1_packed wsX1_packed rmX1_packed D (mx_ty cI cT cS) t1 t2 (mx_w cI cT cS ad) [.ref (ad 25)] h r h1 := by
  refine mm_open_i [.ref (ad 25)] h r h1 RX1 (by decide) rfl rfl (Nat.le_of_ble_eq_true rfl) ?_
  intro p e s m below meth c A X hr hlocks
  have RET : ∀ (h : mm_M) (pc : Nat) (lo : List (Nat × Value)) (v : Int32), decode cX1_packed pc = .ok (.ireturn, 1) → (h, v) = (h1, r) → mm_J p l e rmX1_packed s m ([.ref (ad 25)] : List Value).toArray below meth c 0 0 (MQ below (va_Qi (fun (r' : Int32) (u : mm_M) => r' = r ∧ u = h1) (mm_Post D (mx_w cI cT cS ad) A) A) ([.ref (ad 25)] : List Value).toArray s 0 0 A) D (mx_w cI cT cS ad) A 3 h pc lo [.int v] := by
    intro h2 pc lo v hd he
    cases he
    exact mj_iret X hr rfl hlocks hd
  generalize hout : (h1, r) = out at hf RET
  unfold fX1_packed at hf
  refine mj_lo (lo' := [(0, .ref (ad 25))]) rfl ?_
  refine mj_iconst (v := (0 : Int32)) X dX1_packed_0 (by decide) ?_
  refine mj_istore_n (lo' := [(1, .int (0 : Int32)), (0, .ref (ad 25))]) X dX1_packed_1 (by decide) rfl ?_
  refine mj_iconst (v := (0 : Int32)) X dX1_packed_2 (by decide) ?_
  refine mj_istore_n (lo' := [(2, .int (0 : Int32)), (1, .int (0 : Int32)), (0, .ref (ad 25))]) X dX1_packed_3 (by decide) rfl ?_
  refine mj_sub [2, 1, 0] rfl (wX1_packed_L4 X out RET N _ (fun h4 v5 hf => ?_) N h (0 : Int32) (0 : Int32) hf)
  refine mj_iload_n X dX1_packed_35 0 rfl ?_
  exact RET h4 _ _ _ dX1_packed_36 (Option.some.inj hf)
abbrev rmX1_handIn : Room := { frames := 0, cells := 0, slots := 0, locals := 0 }
set_option maxHeartbeats 4000000 in
set_option maxRecDepth 100000 in
theorem kX1_handIn (l : Launch) (D : va_G) (t1 t2 : Nat) (cI : ClassId) (cT : ClassId) (cS : ClassId) (ad : Nat → Nat)  (N : Nat) (h : mm_M) (a0 : Int32) (a1 : Int32) (h1 : mm_M) (r : Int32) (hf : fX1_handIn N h a0 a1 = some (h1, r)) : mm_Ki l yX1_handIn wsX1_handIn rmX1_handIn D (mx_ty cI cT cS) t1 t2 (mx_w cI cT cS ad) [.int a0, .int a1] h r h1 := by
  refine mm_open_i [.int a0, .int a1] h r h1 RX1 (by decide) rfl rfl (Nat.le_of_ble_eq_true rfl) ?_
  intro p e s m below meth c A X hr hlocks
  have RET : ∀ (h : mm_M) (pc : Nat) (lo : List (Nat × Value)) (v : Int32), decode cX1_handIn pc = .ok (.ireturn, 1) → (h, v) = (h1, r) → mm_J p l e rmX1_handIn s m ([.int a0, .int a1] : List Value).toArray below meth c 0 0 (MQ below (va_Qi (fun (r' : Int32) (u : mm_M) => r' = r ∧ u = h1) (mm_Post D (mx_w cI cT cS ad) A) A) ([.int a0, .int a1] : List Value).toArray s 0 0 A) D (mx_w cI cT cS ad) A 2 h pc lo [.int v] := by
    intro h2 pc lo v hd he
    cases he
    exact mj_iret X hr rfl hlocks hd
  generalize hout : (h1, r) = out at hf RET
  unfold fX1_handIn at hf
  refine mj_lo (lo' := [(0, .int a0), (1, .int a1)]) rfl ?_
  refine mj_iload_n X dX1_handIn_0 0 rfl ?_
  refine mj_bipush (v := (7 : Int32)) X dX1_handIn_1 (by decide) ?_
  refine mj_iload_n X dX1_handIn_3 1 rfl ?_
  refine mj_imul X dX1_handIn_4 ?_
  refine mj_ishr X dX1_handIn_5 ?_
  refine mj_bipush (v := (127 : Int32)) X dX1_handIn_6 (by decide) ?_
  refine mj_iand X dX1_handIn_8 ?_
  exact RET h _ _ _ dX1_handIn_9 (Option.some.inj hf)
abbrev rmX1_unpack : Room := { frames := 1, cells := 0, slots := 0, locals := 21 }
theorem inwX1_unpack_X1 : ∀ w ∈ wsX10, w ∈ wsX1_unpack := by
  intro w hw
  have h9 : wsX10 = (wsX1_unpack.drop 8).take 4 := rfl
  rw [h9] at hw
  exact List.mem_of_mem_drop (List.mem_of_mem_take hw)
theorem lnX1_unpack_0 : Cond.fieldLink RX1 18 "RichestPays$Partings" "people" "LRichestPays$People;" ∈ wsX1_unpack := List.mem_of_getElem? (i := 1) rfl
theorem inwX1_unpack_X2 : ∀ w ∈ wsX20, w ∈ wsX1_unpack := by
  intro w hw
  have h9 : wsX20 = (wsX1_unpack.drop 12).take 9 := rfl
  rw [h9] at hw
  exact List.mem_of_mem_drop (List.mem_of_mem_take hw)
theorem lnX1_unpack_1 : Cond.fieldLink RX1 22 "RichestPays$People" "number" "I" ∈ wsX1_unpack := List.mem_of_getElem? (i := 2) rfl
theorem lnX1_unpack_2 : Cond.fieldLink RX1 9 "RichestPays$Partings" "hands" "[I" ∈ wsX1_unpack := List.mem_of_getElem? (i := 3) rfl
set_option maxHeartbeats 4000000 in
set_option maxRecDepth 100000 in
theorem wX1_unpack_L2 (X : mm_X p s m args c cX1_unpack RX1 wsX1_unpack 3 D (mx_ty cI cT cS) t1 t2 A) (out : mm_M × Unit) (RET : ∀ (h : mm_M) (pc : Nat) (lo : List (Nat × Value)) (v : Unit), decode cX1_unpack pc = .ok (.return_, 1) → (h, v) = out → mm_J p l e rmX1_unpack s m args below meth c 0 0 Q D (mx_w cI cT cS ad) A 3 h pc lo []) (N : Nat)  (p1 : Int32) (k : mm_M → Option (mm_M × Unit)) (HK : ∀ (h : mm_M), k h = some out → mm_J p l e rmX1_unpack s m args below meth c 0 0 Q D (mx_w cI cT cS ad) A 3 h 30 [] []) : ∀ (n : Nat) (h : mm_M) (m2 : Int32), fX1_unpack_L2 N p1 k n h m2 = some out → mm_J p l e rmX1_unpack s m args below meth c 0 0 Q D (mx_w cI cT cS ad) A 3 h 2 [(0, .ref (ad 25)), (1, .int p1), (2, .int m2)] [] := by
  intro n
  induction n with
  | zero =>
    intro h m2 hf
    cases hf
  | succ n ih =>
    intro h m2 hf
    rw [fX1_unpack_L2] at hf
    refine mj_iload_n X dX1_unpack_2 2 rfl ?_
    refine mj_aload_n X dX1_unpack_3 0 rfl ?_
    refine mj_get X inwX1_unpack_X1 (mx_at mx_oX1 h) rfl 0 (by decide) rfl lnX1_unpack_0 rfl dX1_unpack_4 ?_
    refine mj_get X inwX1_unpack_X2 (mx_at mx_oX2 h) rfl 5 (by decide) rfl lnX1_unpack_1 rfl dX1_unpack_7 ?_
    refine mj_icmp_ge (tgt := 30) X dX1_unpack_10 (by decide) (fun c1 => ?_) (fun c1 => ?_)
    · have hf := mm_t c1 hf
      exact mj_sub [] rfl (HK h hf)
    · have hf := mm_f c1 hf
      refine mj_aload_n X dX1_unpack_13 0 rfl ?_
      refine mj_get X inwX1_unpack_X1 (mx_at mx_oX1 h) rfl 1 (by decide) rfl lnX1_unpack_2 rfl dX1_unpack_14 ?_
      refine mj_iload_n X dX1_unpack_17 2 rfl ?_
      refine mj_iload_n X dX1_unpack_18 1 rfl ?_
      refine mj_iload_n X dX1_unpack_19 2 rfl ?_
      obtain ⟨h2, r3, q4, hf⟩ := mm_c hf
      refine mj_callSi (As := [.int p1, .int m2]) (rest := [.int m2, .ref (ad 26)]) X (kX1_handIn l D t1 t2 cI cT cS ad N h p1 m2 h2 r3 q4) (va_cwS 2 X.2.2.2.2.1 gX1_unpack_X1_handIn rfl rfl rfl (by decide +kernel) ⟨Nat.le_of_ble_eq_true rfl, Nat.le_of_ble_eq_true rfl⟩) rfl rfl (Nat.le_of_ble_eq_true rfl) ⟨Nat.zero_le _, Nat.zero_le _⟩ dX1_unpack_20 ?_
      obtain ⟨g5, hf⟩ := mm_g hf
      obtain ⟨h6, eh6, hf⟩ := mm_l hf
      refine mj_iast X 0 (mx_at mx_a26 h2) rfl g5 (mx_ast mx_a26 eh6) dX1_unpack_23 ?_
      refine mj_iinc (k := 2) (v := (m2 + 1)) (lo' := [(2, .int (m2 + 1)), (0, .ref (ad 25)), (1, .int p1)]) X dX1_unpack_24 rfl rfl (by decide) rfl ?_
      refine mj_goto (tgt := 2) X dX1_unpack_27 (by decide) ?_
      exact mj_sub [1, 2, 0] rfl (ih h6 (m2 + 1) hf)
set_option maxHeartbeats 4000000 in
set_option maxRecDepth 100000 in
theorem kX1_unpack (l : Launch) (D : va_G) (t1 t2 : Nat) (cI : ClassId) (cT : ClassId) (cS : ClassId) (ad : Nat → Nat)  (N : Nat) (h : mm_M) (a0 : Int32) (h1 : mm_M) (r : Unit) (hf : fX1_unpack N h a0 = some (h1, r)) : mm_Kv l yX1_unpack wsX1_unpack rmX1_unpack D (mx_ty cI cT cS) t1 t2 (mx_w cI cT cS ad) [.ref (ad 25), .int a0] h h1 := by
  refine mm_open_v [.ref (ad 25), .int a0] h h1 RX1 (by decide) rfl rfl (Nat.le_of_ble_eq_true rfl) ?_
  intro p e s m below meth c A X hr hlocks
  have RET : ∀ (h : mm_M) (pc : Nat) (lo : List (Nat × Value)) (v : Unit), decode cX1_unpack pc = .ok (.return_, 1) → (h, v) = (h1, r) → mm_J p l e rmX1_unpack s m ([.ref (ad 25), .int a0] : List Value).toArray below meth c 0 0 (MQ below (va_Qv (fun (u : mm_M) => u = h1) (mm_Post D (mx_w cI cT cS ad) A) A) ([.ref (ad 25), .int a0] : List Value).toArray s 0 0 A) D (mx_w cI cT cS ad) A 3 h pc lo [] := by
    intro h2 pc lo v hd he
    cases he
    exact mj_vret X hr hlocks hd
  generalize hout : (h1, r) = out at hf RET
  unfold fX1_unpack at hf
  refine mj_lo (lo' := [(0, .ref (ad 25)), (1, .int a0)]) rfl ?_
  refine mj_iconst (v := (0 : Int32)) X dX1_unpack_0 (by decide) ?_
  refine mj_istore_n (lo' := [(2, .int (0 : Int32)), (0, .ref (ad 25)), (1, .int a0)]) X dX1_unpack_1 (by decide) rfl ?_
  refine mj_sub [1, 2, 0] rfl (wX1_unpack_L2 X out RET N a0 _ (fun h7 hf => ?_) N h (0 : Int32) hf)
  exact RET h7 _ _ _ dX1_unpack_30 (Option.some.inj hf)
abbrev rmX1_pay : Room := { frames := 2, cells := 0, slots := 0, locals := 50 }
theorem inwX1_pay_X1 : ∀ w ∈ wsX10, w ∈ wsX1_pay := by
  intro w hw
  have h9 : wsX10 = (wsX1_pay.drop 24).take 4 := rfl
  rw [h9] at hw
  exact List.mem_of_mem_drop (List.mem_of_mem_take hw)
theorem lnX1_pay_0 : Cond.fieldLink RX1 18 "RichestPays$Partings" "people" "LRichestPays$People;" ∈ wsX1_pay := List.mem_of_getElem? (i := 1) rfl
theorem inwX1_pay_X2 : ∀ w ∈ wsX20, w ∈ wsX1_pay := by
  intro w hw
  have h9 : wsX20 = (wsX1_pay.drop 28).take 9 := rfl
  rw [h9] at hw
  exact List.mem_of_mem_drop (List.mem_of_mem_take hw)
theorem lnX1_pay_1 : Cond.fieldLink RX1 22 "RichestPays$People" "number" "I" ∈ wsX1_pay := List.mem_of_getElem? (i := 2) rfl
theorem lnX1_pay_2 : Cond.fieldLink RX1 60 "RichestPays$Partings" "TABLES_BY_WAY" "[I" ∈ wsX1_pay := List.mem_of_getElem? (i := 3) rfl
theorem lnX1_pay_3 : Cond.fieldLink RX1 9 "RichestPays$Partings" "hands" "[I" ∈ wsX1_pay := List.mem_of_getElem? (i := 4) rfl
theorem lnX1_pay_4 : Cond.fieldLink RX1 67 "RichestPays$People" "due" "[I" ∈ wsX1_pay := List.mem_of_getElem? (i := 5) rfl
theorem lnX1_pay_5 : Cond.methodLink RX1 70 Lib.Math.min.name ∈ wsX1_pay := List.mem_of_getElem? (i := 6) rfl
theorem lnX1_pay_6 : Cond.static Lib.Math.min.name ∈ wsX1_pay := List.mem_of_getElem? (i := 7) rfl
theorem lnX1_pay_7 : Cond.initialized "java/lang/Math" ∈ wsX1_pay := List.mem_of_getElem? (i := 8) rfl
theorem lnX1_pay_8 : Cond.code Lib.Math.min.name Lib.Math.min.code 2 (some .int) ∈ wsX1_pay := List.mem_of_getElem? (i := 9) rfl
set_option maxHeartbeats 4000000 in
set_option maxRecDepth 100000 in
theorem wX1_pay_L12 (X : mm_X p s m args c cX1_pay RX1 wsX1_pay 5 D (mx_ty cI cT cS) t1 t2 A) (out : mm_M × Unit) (RET : ∀ (h : mm_M) (pc : Nat) (lo : List (Nat × Value)) (v : Unit), decode cX1_pay pc = .ok (.return_, 1) → (h, v) = out → mm_J p l e rmX1_pay s m args below meth c 0 0 Q D (mx_w cI cT cS ad) A 5 h pc lo []) (N : Nat)  (p1 : Int32) (p2 : Int32) (k : mm_M → Int32 → Option (mm_M × Unit)) (HK : ∀ (h : mm_M) (m3 : Int32), k h m3 = some out → mm_J p l e rmX1_pay s m args below meth c 0 0 Q D (mx_w cI cT cS ad) A 5 h 51 [(0, .ref (ad 25)), (1, .int p1), (2, .int p2), (3, .int m3)] []) : ∀ (n : Nat) (h : mm_M) (m3 : Int32) (m4 : Int32), fX1_pay_L12 N p1 p2 k n h m3 m4 = some out → mm_J p l e rmX1_pay s m args below meth c 0 0 Q D (mx_w cI cT cS ad) A 5 h 12 [(0, .ref (ad 25)), (1, .int p1), (2, .int p2), (3, .int m3), (4, .int m4)] [] := by
  intro n
  induction n with
  | zero =>
    intro h m3 m4 hf
    cases hf
  | succ n ih =>
    intro h m3 m4 hf
    rw [fX1_pay_L12] at hf
    refine mj_iload X dX1_pay_12 4 rfl ?_
    refine mj_aload_n X dX1_pay_14 0 rfl ?_
    refine mj_get X inwX1_pay_X1 (mx_at mx_oX1 h) rfl 0 (by decide) rfl lnX1_pay_0 rfl dX1_pay_15 ?_
    refine mj_get X inwX1_pay_X2 (mx_at mx_oX2 h) rfl 5 (by decide) rfl lnX1_pay_1 rfl dX1_pay_18 ?_
    refine mj_icmp_ge (tgt := 51) X dX1_pay_21 (by decide) (fun c2 => ?_) (fun c2 => ?_)
    · have hf := mm_t c2 hf
      exact mj_sub [0, 1, 2, 3] rfl (HK h m3 hf)
    · have hf := mm_f c2 hf
      refine mj_gets2 X lnX1_pay_2 dX1_pay_24 ?_
      refine mj_iload_n X dX1_pay_27 1 rfl ?_
      refine mj_iconst (v := (4 : Int32)) X dX1_pay_28 (by decide) ?_
      refine mj_imul X dX1_pay_29 ?_
      refine mj_iload X dX1_pay_30 4 rfl ?_
      refine mj_iadd X dX1_pay_32 ?_
      obtain ⟨g3, hf⟩ := mm_g hf
      refine mj_ti2 X g3 dX1_pay_33 ?_
      refine mj_iload_n X dX1_pay_34 2 rfl ?_
      refine mj_icmp_ne (tgt := 45) X dX1_pay_35 (by decide) (fun c4 => ?_) (fun c4 => ?_)
      · have hf := mm_f c4 hf
        refine mj_iinc (k := 4) (v := (m4 + 1)) (lo' := [(4, .int (m4 + 1)), (0, .ref (ad 25)), (1, .int p1), (2, .int p2), (3, .int m3)]) X dX1_pay_45 rfl rfl (by decide) rfl ?_
        refine mj_goto (tgt := 12) X dX1_pay_48 (by decide) ?_
        exact mj_sub [1, 2, 3, 4, 0] rfl (ih h m3 (m4 + 1) hf)
      · have hf := mm_t c4 hf
        refine mj_iload_n X dX1_pay_38 3 rfl ?_
        refine mj_iconst (v := (1 : Int32)) X dX1_pay_39 (by decide) ?_
        refine mj_iload X dX1_pay_40 4 rfl ?_
        refine mj_ishl X dX1_pay_42 ?_
        refine mj_ior X dX1_pay_43 ?_
        obtain ⟨x5, ex5, hf⟩ := mm_l hf
        refine mj_topi ex5 ?_
        refine mj_istore_n (lo' := [(3, .int x5), (0, .ref (ad 25)), (1, .int p1), (2, .int p2), (4, .int m4)]) X dX1_pay_44 (by decide) rfl ?_
        refine mj_iinc (k := 4) (v := (m4 + 1)) (lo' := [(4, .int (m4 + 1)), (3, .int x5), (0, .ref (ad 25)), (1, .int p1), (2, .int p2)]) X dX1_pay_45 rfl rfl (by decide) rfl ?_
        refine mj_goto (tgt := 12) X dX1_pay_48 (by decide) ?_
        exact mj_sub [2, 3, 4, 1, 0] rfl (ih h x5 (m4 + 1) hf)
set_option maxHeartbeats 4000000 in
set_option maxRecDepth 100000 in
theorem wX1_pay_L2 (X : mm_X p s m args c cX1_pay RX1 wsX1_pay 5 D (mx_ty cI cT cS) t1 t2 A) (out : mm_M × Unit) (RET : ∀ (h : mm_M) (pc : Nat) (lo : List (Nat × Value)) (v : Unit), decode cX1_pay pc = .ok (.return_, 1) → (h, v) = out → mm_J p l e rmX1_pay s m args below meth c 0 0 Q D (mx_w cI cT cS ad) A 5 h pc lo []) (N : Nat)  (p1 : Int32) (k : mm_M → Option (mm_M × Unit)) (HK : ∀ (h : mm_M), k h = some out → mm_J p l e rmX1_pay s m args below meth c 0 0 Q D (mx_w cI cT cS ad) A 5 h 69 [(0, .ref (ad 25))] []) : ∀ (n : Nat) (h : mm_M) (m2 : Int32), fX1_pay_L2 N p1 k n h m2 = some out → mm_J p l e rmX1_pay s m args below meth c 0 0 Q D (mx_w cI cT cS ad) A 5 h 2 [(0, .ref (ad 25)), (1, .int p1), (2, .int m2)] [] := by
  intro n
  induction n with
  | zero =>
    intro h m2 hf
    cases hf
  | succ n ih =>
    intro h m2 hf
    rw [fX1_pay_L2] at hf
    refine mj_iload_n X dX1_pay_2 2 rfl ?_
    refine mj_iconst (v := (4 : Int32)) X dX1_pay_3 (by decide) ?_
    refine mj_icmp_ge (tgt := 69) X dX1_pay_4 (by decide) (fun c1 => ?_) (fun c1 => ?_)
    · have hf := mm_t c1 hf
      exact mj_sub [0] rfl (HK h hf)
    · have hf := mm_f c1 hf
      refine mj_iconst (v := (0 : Int32)) X dX1_pay_7 (by decide) ?_
      refine mj_istore_n (lo' := [(3, .int (0 : Int32)), (0, .ref (ad 25)), (1, .int p1), (2, .int m2)]) X dX1_pay_8 (by decide) rfl ?_
      refine mj_iconst (v := (0 : Int32)) X dX1_pay_9 (by decide) ?_
      refine mj_istore (lo' := [(4, .int (0 : Int32)), (3, .int (0 : Int32)), (0, .ref (ad 25)), (1, .int p1), (2, .int m2)]) X dX1_pay_10 (by decide) rfl ?_
      refine mj_sub [2, 3, 4, 1, 0] rfl (wX1_pay_L12 X out RET N p1 m2 _ (fun h6 v7 hf => ?_) N h (0 : Int32) (0 : Int32) hf)
      refine mj_aload_n X dX1_pay_51 0 rfl ?_
      refine mj_get X inwX1_pay_X1 (mx_at mx_oX1 h6) rfl 0 (by decide) rfl lnX1_pay_0 rfl dX1_pay_52 ?_
      refine mj_iload_n X dX1_pay_55 3 rfl ?_
      refine mj_aload_n X dX1_pay_56 0 rfl ?_
      refine mj_get X inwX1_pay_X1 (mx_at mx_oX1 h6) rfl 1 (by decide) rfl lnX1_pay_3 rfl dX1_pay_57 ?_
      obtain ⟨h8, r9, q10, hf⟩ := mm_c hf
      refine mj_callVv (As := [.int v7, .ref (ad 26)]) (rest := []) X (kX2_charge l D t1 t2 cI cT cS ad 26 mx_a26 N h6 v7 h8 r9 q10) (cwV 2 X.2.2.2.2.1 gX1_pay_X2_charge rfl rfl rfl (by decide +kernel) ⟨Nat.le_of_ble_eq_true rfl, Nat.le_of_ble_eq_true rfl⟩) (mx_at mx_oX2 h6) rfl rfl rfl rfl (Nat.le_of_ble_eq_true rfl) ⟨Nat.zero_le _, Nat.zero_le _⟩ dX1_pay_60 ?_
      refine mj_iinc (k := 2) (v := (m2 + 1)) (lo' := [(2, .int (m2 + 1)), (0, .ref (ad 25)), (1, .int p1), (3, .int v7)]) X dX1_pay_63 rfl rfl (by decide) rfl ?_
      refine mj_goto (tgt := 2) X dX1_pay_66 (by decide) ?_
      exact mj_sub [1, 2, 0] rfl (ih h8 (m2 + 1) hf)
set_option maxHeartbeats 4000000 in
set_option maxRecDepth 100000 in
theorem wX1_pay_L71 (X : mm_X p s m args c cX1_pay RX1 wsX1_pay 5 D (mx_ty cI cT cS) t1 t2 A) (out : mm_M × Unit) (RET : ∀ (h : mm_M) (pc : Nat) (lo : List (Nat × Value)) (v : Unit), decode cX1_pay pc = .ok (.return_, 1) → (h, v) = out → mm_J p l e rmX1_pay s m args below meth c 0 0 Q D (mx_w cI cT cS ad) A 5 h pc lo []) (N : Nat)   (k : mm_M → Option (mm_M × Unit)) (HK : ∀ (h : mm_M), k h = some out → mm_J p l e rmX1_pay s m args below meth c 0 0 Q D (mx_w cI cT cS ad) A 5 h 115 [] []) : ∀ (n : Nat) (h : mm_M) (m2 : Int32), fX1_pay_L71 N k n h m2 = some out → mm_J p l e rmX1_pay s m args below meth c 0 0 Q D (mx_w cI cT cS ad) A 5 h 71 [(0, .ref (ad 25)), (2, .int m2)] [] := by
  intro n
  induction n with
  | zero =>
    intro h m2 hf
    cases hf
  | succ n ih =>
    intro h m2 hf
    rw [fX1_pay_L71] at hf
    refine mj_iload_n X dX1_pay_71 1 rfl ?_
    refine mj_aload_n X dX1_pay_72 0 rfl ?_
    refine mj_get X inwX1_pay_X1 (mx_at mx_oX1 h) rfl 0 (by decide) rfl lnX1_pay_0 rfl dX1_pay_73 ?_
    refine mj_get X inwX1_pay_X2 (mx_at mx_oX2 h) rfl 5 (by decide) rfl lnX1_pay_1 rfl dX1_pay_76 ?_
    refine mj_icmp_ge (tgt := 115) X dX1_pay_79 (by decide) (fun c12 => ?_) (fun c12 => ?_)
    · have hf := mm_t c12 hf
      exact mj_sub [] rfl (HK h hf)
    · have hf := mm_f c12 hf
      refine mj_aload_n X dX1_pay_82 0 rfl ?_
      refine mj_get X inwX1_pay_X1 (mx_at mx_oX1 h) rfl 1 (by decide) rfl lnX1_pay_3 rfl dX1_pay_83 ?_
      refine mj_iload_n X dX1_pay_86 1 rfl ?_
      refine mj_dup2 X dX1_pay_87 rfl rfl ?_
      obtain ⟨g13, hf⟩ := mm_g hf
      refine mj_iald X 0 (mx_at mx_a26 h) rfl g13 dX1_pay_88 ?_
      refine mj_aload_n X dX1_pay_89 0 rfl ?_
      refine mj_get X inwX1_pay_X1 (mx_at mx_oX1 h) rfl 0 (by decide) rfl lnX1_pay_0 rfl dX1_pay_90 ?_
      refine mj_get X inwX1_pay_X2 (mx_at mx_oX2 h) rfl 4 (by decide) rfl lnX1_pay_4 rfl dX1_pay_93 ?_
      refine mj_iload_n X dX1_pay_96 1 rfl ?_
      refine mj_iald X 0 (mx_at mx_a11 h) rfl g13 dX1_pay_97 ?_
      refine mj_aload_n X dX1_pay_98 0 rfl ?_
      refine mj_get X inwX1_pay_X1 (mx_at mx_oX1 h) rfl 1 (by decide) rfl lnX1_pay_3 rfl dX1_pay_99 ?_
      refine mj_iload_n X dX1_pay_102 1 rfl ?_
      refine mj_iald X 0 (mx_at mx_a26 h) rfl g13 dX1_pay_103 ?_
      refine mj_min X lnX1_pay_5 lnX1_pay_6 lnX1_pay_7 lnX1_pay_8 (Nat.le_of_ble_eq_true rfl) (Nat.le_of_ble_eq_true rfl) ⟨Nat.zero_le _, Nat.zero_le _⟩ dX1_pay_104 ?_
      refine mj_isub X dX1_pay_107 ?_
      obtain ⟨h14, eh14, hf⟩ := mm_l hf
      refine mj_iast X 0 (mx_at mx_a26 h) rfl g13 (mx_ast mx_a26 eh14) dX1_pay_108 ?_
      refine mj_iinc (k := 1) (v := (m2 + 1)) (lo' := [(2, .int (m2 + 1)), (0, .ref (ad 25))]) X dX1_pay_109 rfl rfl (by decide) rfl ?_
      refine mj_goto (tgt := 71) X dX1_pay_112 (by decide) ?_
      exact mj_sub [1, 0] rfl (ih h14 (m2 + 1) hf)
set_option maxHeartbeats 4000000 in
set_option maxRecDepth 100000 in
theorem kX1_pay (l : Launch) (D : va_G) (t1 t2 : Nat) (cI : ClassId) (cT : ClassId) (cS : ClassId) (ad : Nat → Nat)  (N : Nat) (h : mm_M) (a0 : Int32) (h1 : mm_M) (r : Unit) (hf : fX1_pay N h a0 = some (h1, r)) : mm_Kv l yX1_pay wsX1_pay rmX1_pay D (mx_ty cI cT cS) t1 t2 (mx_w cI cT cS ad) [.ref (ad 25), .int a0] h h1 := by
  refine mm_open_v [.ref (ad 25), .int a0] h h1 RX1 (by decide) rfl rfl (Nat.le_of_ble_eq_true rfl) ?_
  intro p e s m below meth c A X hr hlocks
  have RET : ∀ (h : mm_M) (pc : Nat) (lo : List (Nat × Value)) (v : Unit), decode cX1_pay pc = .ok (.return_, 1) → (h, v) = (h1, r) → mm_J p l e rmX1_pay s m ([.ref (ad 25), .int a0] : List Value).toArray below meth c 0 0 (MQ below (va_Qv (fun (u : mm_M) => u = h1) (mm_Post D (mx_w cI cT cS ad) A) A) ([.ref (ad 25), .int a0] : List Value).toArray s 0 0 A) D (mx_w cI cT cS ad) A 5 h pc lo [] := by
    intro h2 pc lo v hd he
    cases he
    exact mj_vret X hr hlocks hd
  generalize hout : (h1, r) = out at hf RET
  unfold fX1_pay at hf
  refine mj_lo (lo' := [(0, .ref (ad 25)), (1, .int a0)]) rfl ?_
  refine mj_iconst (v := (0 : Int32)) X dX1_pay_0 (by decide) ?_
  refine mj_istore_n (lo' := [(2, .int (0 : Int32)), (0, .ref (ad 25)), (1, .int a0)]) X dX1_pay_1 (by decide) rfl ?_
  refine mj_sub [1, 2, 0] rfl (wX1_pay_L2 X out RET N a0 _ (fun h11 hf => ?_) N h (0 : Int32) hf)
  refine mj_iconst (v := (0 : Int32)) X dX1_pay_69 (by decide) ?_
  refine mj_istore_n (lo' := [(2, .int (0 : Int32)), (0, .ref (ad 25))]) X dX1_pay_70 (by decide) rfl ?_
  refine mj_sub [1, 0] rfl (wX1_pay_L71 X out RET N _ (fun h15 hf => ?_) N h11 (0 : Int32) hf)
  exact RET h15 _ _ _ dX1_pay_115 (Option.some.inj hf)
end
