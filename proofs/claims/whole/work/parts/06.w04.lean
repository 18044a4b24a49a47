section
variable {p : Program} {l : Launch} {e : Env} {s : State} {m : MethodId} {args : Array Value} {below : List Frame} {meth : Method} {c : Code} {Q : State → Prop} {D : va_G} {A : Nat → Prop} {t1 t2 : Nat} {cI cT cS cZ : ClassId} {ad : Nat → Nat}
abbrev rmX5_findingAt : Room := { frames := 0, cells := 0, slots := 0, locals := 0 }
theorem inwX5_findingAt_X5 : ∀ w ∈ wsX50, w ∈ wsX5_findingAt := by
  intro w hw
  have h9 : wsX50 = (wsX5_findingAt.drop 4).take 4 := rfl
  rw [h9] at hw
  exact List.mem_of_mem_drop (List.mem_of_mem_take hw)
theorem lnX5_findingAt_0 : Cond.fieldLink RX5 22 "RichestPays$Sheet" "isLost" "Z" ∈ wsX5_findingAt := List.mem_of_getElem? (i := 1) rfl
theorem lnX5_findingAt_1 : Cond.fieldLink RX5 15 "RichestPays$Sheet" "form" "I" ∈ wsX5_findingAt := List.mem_of_getElem? (i := 2) rfl
theorem lnX5_findingAt_2 : Cond.fieldLink RX5 19 "RichestPays$Sheet" "size" "I" ∈ wsX5_findingAt := List.mem_of_getElem? (i := 3) rfl
set_option maxHeartbeats 4000000 in
set_option maxRecDepth 100000 in
theorem kX5_findingAt (l : Launch) (D : va_G) (t1 t2 : Nat) (cI : ClassId) (cT : ClassId) (cS : ClassId) (ad : Nat → Nat) (P : Nat) (hP : mx_isX5 P) (N : Nat) (h : mm_M) (a0 : Int32) (a1 : Int32) (h1 : mm_M) (r : Int32) (hf : fX5_findingAt N P h a0 a1 = some (h1, r)) : mm_Ki l yX5_findingAt wsX5_findingAt rmX5_findingAt D (mx_ty cI cT cS) t1 t2 (mx_w cI cT cS ad) [.ref (ad P), .int a0, .int a1] h r h1 := by
  refine mm_open_i [.ref (ad P), .int a0, .int a1] h r h1 RX5 (by decide) rfl rfl (Nat.le_of_ble_eq_true rfl) ?_
  intro p e s m below meth c A X hr hlocks
  have RET : ∀ (h : mm_M) (pc : Nat) (lo : List (Nat × Value)) (v : Int32), decode cX5_findingAt pc = .ok (.ireturn, 1) → (h, v) = (h1, r) → mm_J p l e rmX5_findingAt s m ([.ref (ad P), .int a0, .int a1] : List Value).toArray below meth c 0 0 (MQ below (va_Qi (fun (r' : Int32) (u : mm_M) => r' = r ∧ u = h1) (mm_Post D (mx_w cI cT cS ad) A) A) ([.ref (ad P), .int a0, .int a1] : List Value).toArray s 0 0 A) D (mx_w cI cT cS ad) A 3 h pc lo [.int v] := by
    intro h2 pc lo v hd he
    cases he
    exact mj_iret X hr rfl hlocks hd
  generalize hout : (h1, r) = out at hf RET
  unfold fX5_findingAt at hf
  refine mj_lo (lo' := [(0, .ref (ad P)), (1, .int a0), (2, .int a1)]) rfl ?_
  refine mj_aload_n X dX5_findingAt_0 0 rfl ?_
  refine mj_get X inwX5_findingAt_X5 (mx_at (mx_oX5 hP) h) rfl 3 (by decide) rfl lnX5_findingAt_0 rfl dX5_findingAt_1 ?_
  refine mj_if_eq (tgt := 9) X dX5_findingAt_4 (by decide) (fun c1 => ?_) (fun c1 => ?_)
  · have hf := mm_t c1 hf
    refine mj_aload_n X dX5_findingAt_9 0 rfl ?_
    refine mj_get X inwX5_findingAt_X5 (mx_at (mx_oX5 hP) h) rfl 1 (by decide) rfl lnX5_findingAt_1 rfl dX5_findingAt_10 ?_
    refine mj_iload_n X dX5_findingAt_13 1 rfl ?_
    refine mj_icmp_eq (tgt := 19) X dX5_findingAt_14 (by decide) (fun c2 => ?_) (fun c2 => ?_)
    · have hf := mm_t c2 hf
      refine mj_iload_n X dX5_findingAt_19 2 rfl ?_
      refine mj_if_lt (tgt := 31) X dX5_findingAt_20 (by decide) (fun c3 => ?_) (fun c3 => ?_)
      · have hf := mm_t c3 hf
        refine mj_iconst (v := (2 : Int32)) X dX5_findingAt_31 (by decide) ?_
        refine mj_goto (tgt := 36) X dX5_findingAt_32 (by decide) ?_
        exact RET h _ _ _ dX5_findingAt_36 (Option.some.inj hf)
      · have hf := mm_f c3 hf
        refine mj_iload_n X dX5_findingAt_23 2 rfl ?_
        refine mj_aload_n X dX5_findingAt_24 0 rfl ?_
        refine mj_get X inwX5_findingAt_X5 (mx_at (mx_oX5 hP) h) rfl 2 (by decide) rfl lnX5_findingAt_2 rfl dX5_findingAt_25 ?_
        refine mj_icmp_lt (tgt := 35) X dX5_findingAt_28 (by decide) (fun c4 => ?_) (fun c4 => ?_)
        · have hf := mm_t c4 hf
          refine mj_iconst (v := (0 : Int32)) X dX5_findingAt_35 (by decide) ?_
          exact RET h _ _ _ dX5_findingAt_36 (Option.some.inj hf)
        · have hf := mm_f c4 hf
          refine mj_iconst (v := (2 : Int32)) X dX5_findingAt_31 (by decide) ?_
          refine mj_goto (tgt := 36) X dX5_findingAt_32 (by decide) ?_
          exact RET h _ _ _ dX5_findingAt_36 (Option.some.inj hf)
    · have hf := mm_f c2 hf
      refine mj_iconst (v := (3 : Int32)) X dX5_findingAt_17 (by decide) ?_
      exact RET h _ _ _ dX5_findingAt_18 (Option.some.inj hf)
  · have hf := mm_f c1 hf
    refine mj_iconst (v := (1 : Int32)) X dX5_findingAt_7 (by decide) ?_
    exact RET h _ _ _ dX5_findingAt_8 (Option.some.inj hf)
abbrev rmX5_hasItems : Room := { frames := 0, cells := 0, slots := 0, locals := 0 }
theorem inwX5_hasItems_X5 : ∀ w ∈ wsX50, w ∈ wsX5_hasItems := by
  intro w hw
  have h9 : wsX50 = (wsX5_hasItems.drop 2).take 4 := rfl
  rw [h9] at hw
  exact List.mem_of_mem_drop (List.mem_of_mem_take hw)
theorem lnX5_hasItems_0 : Cond.fieldLink RX5 19 "RichestPays$Sheet" "size" "I" ∈ wsX5_hasItems := List.mem_of_getElem? (i := 1) rfl
set_option maxHeartbeats 4000000 in
set_option maxRecDepth 100000 in
theorem kX5_hasItems (l : Launch) (D : va_G) (t1 t2 : Nat) (cI : ClassId) (cT : ClassId) (cS : ClassId) (ad : Nat → Nat) (P : Nat) (hP : mx_isX5 P) (N : Nat) (h : mm_M) (a0 : Int32) (a1 : Int32) (h1 : mm_M) (r : Int32) (hf : fX5_hasItems N P h a0 a1 = some (h1, r)) : mm_Ki l yX5_hasItems wsX5_hasItems rmX5_hasItems D (mx_ty cI cT cS) t1 t2 (mx_w cI cT cS ad) [.ref (ad P), .int a0, .int a1] h r h1 := by
  refine mm_open_i [.ref (ad P), .int a0, .int a1] h r h1 RX5 (by decide) rfl rfl (Nat.le_of_ble_eq_true rfl) ?_
  intro p e s m below meth c A X hr hlocks
  have RET : ∀ (h : mm_M) (pc : Nat) (lo : List (Nat × Value)) (v : Int32), decode cX5_hasItems pc = .ok (.ireturn, 1) → (v = 0 ∨ v = 1) → (h, v) = (h1, r) → mm_J p l e rmX5_hasItems s m ([.ref (ad P), .int a0, .int a1] : List Value).toArray below meth c 0 0 (MQ below (va_Qi (fun (r' : Int32) (u : mm_M) => r' = r ∧ u = h1) (mm_Post D (mx_w cI cT cS ad) A) A) ([.ref (ad P), .int a0, .int a1] : List Value).toArray s 0 0 A) D (mx_w cI cT cS ad) A 3 h pc lo [.int v] := by
    intro h2 pc lo v hd hz he
    cases he
    exact mj_iret X hr (mm_nz hz) hlocks hd
  generalize hout : (h1, r) = out at hf RET
  unfold fX5_hasItems at hf
  refine mj_lo (lo' := [(0, .ref (ad P)), (1, .int a0), (2, .int a1)]) rfl ?_
  refine mj_iload_n X dX5_hasItems_0 1 rfl ?_
  refine mj_if_lt (tgt := 30) X dX5_hasItems_1 (by decide) (fun c1 => ?_) (fun c1 => ?_)
  · have hf := mm_t c1 hf
    refine mj_iconst (v := (0 : Int32)) X dX5_hasItems_30 (by decide) ?_
    exact RET h _ _ _ dX5_hasItems_31 (by decide) (Option.some.inj hf)
  · have hf := mm_f c1 hf
    refine mj_iload_n X dX5_hasItems_4 2 rfl ?_
    refine mj_if_lt (tgt := 30) X dX5_hasItems_5 (by decide) (fun c2 => ?_) (fun c2 => ?_)
    · have hf := mm_t c2 hf
      refine mj_iconst (v := (0 : Int32)) X dX5_hasItems_30 (by decide) ?_
      exact RET h _ _ _ dX5_hasItems_31 (by decide) (Option.some.inj hf)
    · have hf := mm_f c2 hf
      refine mj_iload_n X dX5_hasItems_8 1 rfl ?_
      refine mj_aload_n X dX5_hasItems_9 0 rfl ?_
      refine mj_get X inwX5_hasItems_X5 (mx_at (mx_oX5 hP) h) rfl 2 (by decide) rfl lnX5_hasItems_0 rfl dX5_hasItems_10 ?_
      refine mj_icmp_gt (tgt := 30) X dX5_hasItems_13 (by decide) (fun c3 => ?_) (fun c3 => ?_)
      · have hf := mm_t c3 hf
        refine mj_iconst (v := (0 : Int32)) X dX5_hasItems_30 (by decide) ?_
        exact RET h _ _ _ dX5_hasItems_31 (by decide) (Option.some.inj hf)
      · have hf := mm_f c3 hf
        refine mj_iload_n X dX5_hasItems_16 2 rfl ?_
        refine mj_aload_n X dX5_hasItems_17 0 rfl ?_
        refine mj_get X inwX5_hasItems_X5 (mx_at (mx_oX5 hP) h) rfl 2 (by decide) rfl lnX5_hasItems_0 rfl dX5_hasItems_18 ?_
        refine mj_iload_n X dX5_hasItems_21 1 rfl ?_
        refine mj_isub X dX5_hasItems_22 ?_
        refine mj_icmp_gt (tgt := 30) X dX5_hasItems_23 (by decide) (fun c4 => ?_) (fun c4 => ?_)
        · have hf := mm_t c4 hf
          refine mj_iconst (v := (0 : Int32)) X dX5_hasItems_30 (by decide) ?_
          exact RET h _ _ _ dX5_hasItems_31 (by decide) (Option.some.inj hf)
        · have hf := mm_f c4 hf
          refine mj_iconst (v := (1 : Int32)) X dX5_hasItems_26 (by decide) ?_
          refine mj_goto (tgt := 31) X dX5_hasItems_27 (by decide) ?_
          exact RET h _ _ _ dX5_hasItems_31 (by decide) (Option.some.inj hf)
abbrev rmX5_store : Room := { frames := 0, cells := 0, slots := 0, locals := 0 }
theorem inwX5_store_X5 : ∀ w ∈ wsX50, w ∈ wsX5_store := by
  intro w hw
  have h9 : wsX50 = (wsX5_store.drop 3).take 4 := rfl
  rw [h9] at hw
  exact List.mem_of_mem_drop (List.mem_of_mem_take hw)
theorem lnX5_store_0 : Cond.fieldLink RX5 9 "RichestPays$Sheet" "items" "[I" ∈ wsX5_store := List.mem_of_getElem? (i := 1) rfl
theorem lnX5_store_1 : Cond.fieldLink RX5 15 "RichestPays$Sheet" "form" "I" ∈ wsX5_store := List.mem_of_getElem? (i := 2) rfl
set_option maxHeartbeats 4000000 in
set_option maxRecDepth 100000 in
theorem kX5_store (l : Launch) (D : va_G) (t1 t2 : Nat) (cI : ClassId) (cT : ClassId) (cS : ClassId) (ad : Nat → Nat) (P : Nat) (hP : mx_isX5 P) (N : Nat) (h : mm_M) (a0 : Int32) (a1 : Int32) (h1 : mm_M) (r : Unit) (hf : fX5_store N P h a0 a1 = some (h1, r)) : mm_Kv l yX5_store wsX5_store rmX5_store D (mx_ty cI cT cS) t1 t2 (mx_w cI cT cS ad) [.ref (ad P), .int a0, .int a1] h h1 := by
  refine mm_open_v [.ref (ad P), .int a0, .int a1] h h1 RX5 (by decide) rfl rfl (Nat.le_of_ble_eq_true rfl) ?_
  intro p e s m below meth c A X hr hlocks
  have RET : ∀ (h : mm_M) (pc : Nat) (lo : List (Nat × Value)) (v : Unit), decode cX5_store pc = .ok (.return_, 1) → (h, v) = (h1, r) → mm_J p l e rmX5_store s m ([.ref (ad P), .int a0, .int a1] : List Value).toArray below meth c 0 0 (MQ below (va_Qv (fun (u : mm_M) => u = h1) (mm_Post D (mx_w cI cT cS ad) A) A) ([.ref (ad P), .int a0, .int a1] : List Value).toArray s 0 0 A) D (mx_w cI cT cS ad) A 3 h pc lo [] := by
    intro h2 pc lo v hd he
    cases he
    exact mj_vret X hr hlocks hd
  generalize hout : (h1, r) = out at hf RET
  unfold fX5_store at hf
  refine mj_lo (lo' := [(0, .ref (ad P)), (1, .int a0), (2, .int a1)]) rfl ?_
  refine mj_aload_n X dX5_store_0 0 rfl ?_
  refine mj_get X inwX5_store_X5 (mx_at (mx_oX5 hP) h) rfl 0 (by decide) rfl lnX5_store_0 rfl dX5_store_1 ?_
  refine mj_iload_n X dX5_store_4 1 rfl ?_
  refine mj_aload_n X dX5_store_5 0 rfl ?_
  refine mj_get X inwX5_store_X5 (mx_at (mx_oX5 hP) h) rfl 1 (by decide) rfl lnX5_store_1 rfl dX5_store_6 ?_
  refine mj_if_ne (tgt := 17) X dX5_store_9 (by decide) (fun c1 => ?_) (fun c1 => ?_)
  · have hf := mm_f c1 hf
    refine mj_aload_n X dX5_store_17 0 rfl ?_
    refine mj_get X inwX5_store_X5 (mx_at (mx_oX5 hP) h) rfl 1 (by decide) rfl lnX5_store_1 rfl dX5_store_18 ?_
    refine mj_iconst (v := (1 : Int32)) X dX5_store_21 (by decide) ?_
    refine mj_icmp_ne (tgt := 30) X dX5_store_22 (by decide) (fun c2 => ?_) (fun c2 => ?_)
    · have hf := mm_f c2 hf
      refine mj_iload_n X dX5_store_30 2 rfl ?_
      obtain ⟨g3, hf⟩ := mm_g hf
      obtain ⟨h4, eh4, hf⟩ := mm_l hf
      refine mj_iast X 0 (mx_at (mx_bX5 hP) h) rfl g3 (mx_ast (mx_bX5 hP) eh4) dX5_store_31 ?_
      exact RET h4 _ _ _ dX5_store_32 (Option.some.inj hf)
    · have hf := mm_t c2 hf
      refine mj_iload_n X dX5_store_25 2 rfl ?_
      refine mj_i2s X dX5_store_26 ?_
      refine mj_goto (tgt := 31) X dX5_store_27 (by decide) ?_
      obtain ⟨g5, hf⟩ := mm_g hf
      obtain ⟨h6, eh6, hf⟩ := mm_l hf
      refine mj_iast X 0 (mx_at (mx_bX5 hP) h) rfl g5 (mx_ast (mx_bX5 hP) eh6) dX5_store_31 ?_
      exact RET h6 _ _ _ dX5_store_32 (Option.some.inj hf)
  · have hf := mm_t c1 hf
    refine mj_iload_n X dX5_store_12 2 rfl ?_
    refine mj_i2b X dX5_store_13 ?_
    refine mj_goto (tgt := 31) X dX5_store_14 (by decide) ?_
    obtain ⟨g7, hf⟩ := mm_g hf
    obtain ⟨h8, eh8, hf⟩ := mm_l hf
    refine mj_iast X 0 (mx_at (mx_bX5 hP) h) rfl g7 (mx_ast (mx_bX5 hP) eh8) dX5_store_31 ?_
    exact RET h8 _ _ _ dX5_store_32 (Option.some.inj hf)
abbrev rmX6_isFull : Room := { frames := 0, cells := 0, slots := 0, locals := 0 }
theorem inwX6_isFull_X6 : ∀ w ∈ wsX60, w ∈ wsX6_isFull := by
  intro w hw
  have h9 : wsX60 = (wsX6_isFull.drop 3).take 2 := rfl
  rw [h9] at hw
  exact List.mem_of_mem_drop (List.mem_of_mem_take hw)
theorem lnX6_isFull_0 : Cond.fieldLink RX6 15 "RichestPays$Text" "length" "I" ∈ wsX6_isFull := List.mem_of_getElem? (i := 1) rfl
theorem lnX6_isFull_1 : Cond.fieldLink RX6 9 "RichestPays$Text" "bytes" "[I" ∈ wsX6_isFull := List.mem_of_getElem? (i := 2) rfl
set_option maxHeartbeats 4000000 in
set_option maxRecDepth 100000 in
theorem kX6_isFull (l : Launch) (D : va_G) (t1 t2 : Nat) (cI : ClassId) (cT : ClassId) (cS : ClassId) (ad : Nat → Nat) (P : Nat) (hP : mx_isX6 P) (N : Nat) (h : mm_M)  (h1 : mm_M) (r : Int32) (hf : fX6_isFull N P h = some (h1, r)) : mm_Ki l yX6_isFull wsX6_isFull rmX6_isFull D (mx_ty cI cT cS) t1 t2 (mx_w cI cT cS ad) [.ref (ad P)] h r h1 := by
  refine mm_open_i [.ref (ad P)] h r h1 RX6 (by decide) rfl rfl (Nat.le_of_ble_eq_true rfl) ?_
  intro p e s m below meth c A X hr hlocks
  have RET : ∀ (h : mm_M) (pc : Nat) (lo : List (Nat × Value)) (v : Int32), decode cX6_isFull pc = .ok (.ireturn, 1) → (v = 0 ∨ v = 1) → (h, v) = (h1, r) → mm_J p l e rmX6_isFull s m ([.ref (ad P)] : List Value).toArray below meth c 0 0 (MQ below (va_Qi (fun (r' : Int32) (u : mm_M) => r' = r ∧ u = h1) (mm_Post D (mx_w cI cT cS ad) A) A) ([.ref (ad P)] : List Value).toArray s 0 0 A) D (mx_w cI cT cS ad) A 1 h pc lo [.int v] := by
    intro h2 pc lo v hd hz he
    cases he
    exact mj_iret X hr (mm_nz hz) hlocks hd
  generalize hout : (h1, r) = out at hf RET
  unfold fX6_isFull at hf
  refine mj_lo (lo' := [(0, .ref (ad P))]) rfl ?_
  refine mj_aload_n X dX6_isFull_0 0 rfl ?_
  refine mj_get X inwX6_isFull_X6 (mx_at (mx_oX6 hP) h) rfl 1 (by decide) rfl lnX6_isFull_0 rfl dX6_isFull_1 ?_
  refine mj_aload_n X dX6_isFull_4 0 rfl ?_
  refine mj_get X inwX6_isFull_X6 (mx_at (mx_oX6 hP) h) rfl 0 (by decide) rfl lnX6_isFull_1 rfl dX6_isFull_5 ?_
  refine mj_alen X 0 (mx_at (mx_bX6 hP) h) rfl rfl dX6_isFull_8 ?_
  refine mj_icmp_lt (tgt := 16) X dX6_isFull_9 (by decide) (fun c1 => ?_) (fun c1 => ?_)
  · have hf := mm_t c1 hf
    refine mj_iconst (v := (0 : Int32)) X dX6_isFull_16 (by decide) ?_
    exact RET h _ _ _ dX6_isFull_17 (by decide) (Option.some.inj hf)
  · have hf := mm_f c1 hf
    refine mj_iconst (v := (1 : Int32)) X dX6_isFull_12 (by decide) ?_
    refine mj_goto (tgt := 17) X dX6_isFull_13 (by decide) ?_
    exact RET h _ _ _ dX6_isFull_17 (by decide) (Option.some.inj hf)
abbrev rmX6_append : Room := { frames := 1, cells := 0, slots := 0, locals := 20 }
theorem inwX6_append_X6 : ∀ w ∈ wsX60, w ∈ wsX6_append := by
  intro w hw
  have h9 : wsX60 = (wsX6_append.drop 8).take 2 := rfl
  rw [h9] at hw
  exact List.mem_of_mem_drop (List.mem_of_mem_take hw)
theorem lnX6_append_0 : Cond.fieldLink RX6 9 "RichestPays$Text" "bytes" "[I" ∈ wsX6_append := List.mem_of_getElem? (i := 1) rfl
theorem lnX6_append_1 : Cond.fieldLink RX6 15 "RichestPays$Text" "length" "I" ∈ wsX6_append := List.mem_of_getElem? (i := 2) rfl
set_option maxHeartbeats 4000000 in
set_option maxRecDepth 100000 in
theorem kX6_append (l : Launch) (D : va_G) (t1 t2 : Nat) (cI : ClassId) (cT : ClassId) (cS : ClassId) (ad : Nat → Nat) (P : Nat) (hP : mx_isX6 P) (N : Nat) (h : mm_M) (a0 : Int32) (h1 : mm_M) (r : Unit) (hf : fX6_append N P h a0 = some (h1, r)) : mm_Kv l yX6_append wsX6_append rmX6_append D (mx_ty cI cT cS) t1 t2 (mx_w cI cT cS ad) [.ref (ad P), .int a0] h h1 := by
  refine mm_open_v [.ref (ad P), .int a0] h h1 RX6 (by decide) rfl rfl (Nat.le_of_ble_eq_true rfl) ?_
  intro p e s m below meth c A X hr hlocks
  have RET : ∀ (h : mm_M) (pc : Nat) (lo : List (Nat × Value)) (v : Unit), decode cX6_append pc = .ok (.return_, 1) → (h, v) = (h1, r) → mm_J p l e rmX6_append s m ([.ref (ad P), .int a0] : List Value).toArray below meth c 0 0 (MQ below (va_Qv (fun (u : mm_M) => u = h1) (mm_Post D (mx_w cI cT cS ad) A) A) ([.ref (ad P), .int a0] : List Value).toArray s 0 0 A) D (mx_w cI cT cS ad) A 2 h pc lo [] := by
    intro h2 pc lo v hd he
    cases he
    exact mj_vret X hr hlocks hd
  generalize hout : (h1, r) = out at hf RET
  unfold fX6_append at hf
  refine mj_lo (lo' := [(0, .ref (ad P)), (1, .int a0)]) rfl ?_
  refine mj_aload_n X dX6_append_0 0 rfl ?_
  obtain ⟨h1, r2, q3, hf⟩ := mm_c hf
  refine mj_callVi (As := []) (rest := []) X (kX6_isFull l D t1 t2 cI cT cS ad P hP N h h1 r2 q3) (cwV 0 X.2.2.2.2.1 gX6_append_X6_isFull rfl rfl rfl (by decide +kernel) ⟨Nat.le_of_ble_eq_true rfl, Nat.le_of_ble_eq_true rfl⟩) (mx_at (mx_oX6 hP) h) rfl rfl rfl rfl (Nat.le_of_ble_eq_true rfl) ⟨Nat.zero_le _, Nat.zero_le _⟩ dX6_append_1 ?_
  refine mj_if_ne (tgt := 27) X dX6_append_4 (by decide) (fun c4 => ?_) (fun c4 => ?_)
  · have hf := mm_f c4 hf
    exact RET h1 _ _ _ dX6_append_27 (Option.some.inj hf)
  · have hf := mm_t c4 hf
    refine mj_aload_n X dX6_append_7 0 rfl ?_
    refine mj_get X inwX6_append_X6 (mx_at (mx_oX6 hP) h1) rfl 0 (by decide) rfl lnX6_append_0 rfl dX6_append_8 ?_
    refine mj_aload_n X dX6_append_11 0 rfl ?_
    refine mj_get X inwX6_append_X6 (mx_at (mx_oX6 hP) h1) rfl 1 (by decide) rfl lnX6_append_1 rfl dX6_append_12 ?_
    refine mj_iload_n X dX6_append_15 1 rfl ?_
    obtain ⟨g5, hf⟩ := mm_g hf
    obtain ⟨h6, eh6, hf⟩ := mm_l hf
    refine mj_iast X 0 (mx_at (mx_bX6 hP) h1) rfl g5 (mx_ast (mx_bX6 hP) eh6) dX6_append_16 ?_
    refine mj_aload_n X dX6_append_17 0 rfl ?_
    refine mj_dup X dX6_append_18 rfl ?_
    refine mj_get X inwX6_append_X6 (mx_at (mx_oX6 hP) h6) rfl 1 (by decide) rfl lnX6_append_1 rfl dX6_append_19 ?_
    refine mj_iconst (v := (1 : Int32)) X dX6_append_22 (by decide) ?_
    refine mj_iadd X dX6_append_23 ?_
    obtain ⟨h7, eh7, hf⟩ := mm_l hf
    refine mj_put X tyX6_ok nmX6 inwX6_append_X6 (mx_at (mx_oX6 hP) h6) rfl 1 (by decide) rfl lnX6_append_1 rfl (tyX6_ok 1 (by decide)) rfl rfl (Nat.le_of_ble_eq_true rfl) (mx_put (mx_oX6 hP) eh7 (by simp [mm_up_at, upd])) dX6_append_24 ?_
    exact RET h7 _ _ _ dX6_append_27 (Option.some.inj hf)
abbrev rmX7_isText : Room := { frames := 1, cells := 0, slots := 0, locals := 22 }
set_option maxHeartbeats 4000000 in
set_option maxRecDepth 100000 in
theorem kX7_isText (l : Launch) (D : va_G) (t1 t2 : Nat) (cI : ClassId) (cT : ClassId) (cS : ClassId) (ad : Nat → Nat)  (N : Nat) (h : mm_M) (a0 : Int32) (h1 : mm_M) (r : Int32) (hf : fX7_isText N h a0 = some (h1, r)) : mm_Ki l yX7_isText wsX7_isText rmX7_isText D (mx_ty cI cT cS) t1 t2 (mx_w cI cT cS ad) [.int a0] h r h1 := by
  refine mm_open_i [.int a0] h r h1 RX7 (by decide) rfl rfl (Nat.le_of_ble_eq_true rfl) ?_
  intro p e s m below meth c A X hr hlocks
  have RET : ∀ (h : mm_M) (pc : Nat) (lo : List (Nat × Value)) (v : Int32), decode cX7_isText pc = .ok (.ireturn, 1) → (v = 0 ∨ v = 1) → (h, v) = (h1, r) → mm_J p l e rmX7_isText s m ([.int a0] : List Value).toArray below meth c 0 0 (MQ below (va_Qi (fun (r' : Int32) (u : mm_M) => r' = r ∧ u = h1) (mm_Post D (mx_w cI cT cS ad) A) A) ([.int a0] : List Value).toArray s 0 0 A) D (mx_w cI cT cS ad) A 1 h pc lo [.int v] := by
    intro h2 pc lo v hd hz he
    cases he
    exact mj_iret X hr (mm_nz hz) hlocks hd
  generalize hout : (h1, r) = out at hf RET
  unfold fX7_isText at hf
  refine mj_lo (lo' := [(0, .int a0)]) rfl ?_
  refine mj_iload_n X dX7_isText_0 0 rfl ?_
  refine mj_iconst (v := (0 : Int32)) X dX7_isText_1 (by decide) ?_
  refine mj_iconst (v := (1 : Int32)) X dX7_isText_2 (by decide) ?_
  obtain ⟨h1, r2, q3, hf⟩ := mm_c hf
  refine mj_callSi (As := [.int a0, .int (0 : Int32), .int (1 : Int32)]) (rest := []) X (kX7_isIn l D t1 t2 cI cT cS ad N h a0 (0 : Int32) (1 : Int32) h1 r2 q3) (va_cwS 3 X.2.2.2.2.1 gX7_isText_X7_isIn rfl rfl rfl (by decide +kernel) ⟨Nat.le_of_ble_eq_true rfl, Nat.le_of_ble_eq_true rfl⟩) rfl rfl (Nat.le_of_ble_eq_true rfl) ⟨Nat.zero_le _, Nat.zero_le _⟩ dX7_isText_3 ?_
  obtain ⟨g4, hf⟩ := mm_g hf
  exact RET h1 _ _ _ dX7_isText_6 g4 (Option.some.inj hf)
abbrev rmX7_understandTexts : Room := { frames := 4, cells := 0, slots := 0, locals := 93 }
theorem inwX7_understandTexts_X7 : ∀ w ∈ wsX70, w ∈ wsX7_understandTexts := by
  intro w hw
  have h9 : wsX70 = (wsX7_understandTexts.drop 49).take 8 := rfl
  rw [h9] at hw
  exact List.mem_of_mem_drop (List.mem_of_mem_take hw)
theorem lnX7_understandTexts_0 : Cond.fieldLink RX7 21 "RichestPays" "people" "LRichestPays$People;" ∈ wsX7_understandTexts := List.mem_of_getElem? (i := 1) rfl
theorem lnX7_understandTexts_1 : Cond.fieldLink RX7 14 "RichestPays" "texts" "[LRichestPays$Text;" ∈ wsX7_understandTexts := List.mem_of_getElem? (i := 2) rfl
theorem lnX7_understandTexts_2 : Cond.fieldLink RX7 30 "RichestPays" "evening" "LRichestPays$Evening;" ∈ wsX7_understandTexts := List.mem_of_getElem? (i := 3) rfl
set_option maxHeartbeats 4000000 in
set_option maxRecDepth 100000 in
theorem kX7_understandTexts (l : Launch) (D : va_G) (t1 t2 : Nat) (cI : ClassId) (cT : ClassId) (cS : ClassId) (ad : Nat → Nat)  (N : Nat) (h : mm_M)  (h1 : mm_M) (r : Unit) (hf : fX7_understandTexts N h = some (h1, r)) : mm_Kv l yX7_understandTexts wsX7_understandTexts rmX7_understandTexts D (mx_ty cI cT cS) t1 t2 (mx_w cI cT cS ad) [.ref (ad 0)] h h1 := by
  refine mm_open_v [.ref (ad 0)] h h1 RX7 (by decide) rfl rfl (Nat.le_of_ble_eq_true rfl) ?_
  intro p e s m below meth c A X hr hlocks
  have RET : ∀ (h : mm_M) (pc : Nat) (lo : List (Nat × Value)) (v : Unit), decode cX7_understandTexts pc = .ok (.return_, 1) → (h, v) = (h1, r) → mm_J p l e rmX7_understandTexts s m ([.ref (ad 0)] : List Value).toArray below meth c 0 0 (MQ below (va_Qv (fun (u : mm_M) => u = h1) (mm_Post D (mx_w cI cT cS ad) A) A) ([.ref (ad 0)] : List Value).toArray s 0 0 A) D (mx_w cI cT cS ad) A 1 h pc lo [] := by
    intro h2 pc lo v hd he
    cases he
    exact mj_vret X hr hlocks hd
  generalize hout : (h1, r) = out at hf RET
  unfold fX7_understandTexts at hf
  refine mj_lo (lo' := [(0, .ref (ad 0))]) rfl ?_
  refine mj_aload_n X dX7_understandTexts_0 0 rfl ?_
  refine mj_get X inwX7_understandTexts_X7 (mx_at mx_oX7 h) rfl 1 (by decide) rfl lnX7_understandTexts_0 rfl dX7_understandTexts_1 ?_
  refine mj_aload_n X dX7_understandTexts_4 0 rfl ?_
  refine mj_get X inwX7_understandTexts_X7 (mx_at mx_oX7 h) rfl 0 (by decide) rfl lnX7_understandTexts_1 rfl dX7_understandTexts_5 ?_
  refine mj_iconst (v := (0 : Int32)) X dX7_understandTexts_8 (by decide) ?_
  refine mj_aald (b := ad 2) X 1 (mx_at mx_q1 h) rfl (by decide) dX7_understandTexts_9 rfl ?_
  obtain ⟨h1, r2, q3, hf⟩ := mm_c hf
  refine mj_callVv (As := [.ref (ad 2)]) (rest := []) X (kX2_understand l D t1 t2 cI cT cS ad 2 (by unfold mx_isX6; decide) N h h1 r2 q3) (cwV 1 X.2.2.2.2.1 gX7_understandTexts_X2_understand rfl rfl rfl (by decide +kernel) ⟨Nat.le_of_ble_eq_true rfl, Nat.le_of_ble_eq_true rfl⟩) (mx_at mx_oX2 h) rfl rfl rfl rfl (Nat.le_of_ble_eq_true rfl) ⟨Nat.zero_le _, Nat.zero_le _⟩ dX7_understandTexts_10 ?_
  refine mj_aload_n X dX7_understandTexts_13 0 rfl ?_
  refine mj_get X inwX7_understandTexts_X7 (mx_at mx_oX7 h1) rfl 2 (by decide) rfl lnX7_understandTexts_2 rfl dX7_understandTexts_14 ?_
  refine mj_aload_n X dX7_understandTexts_17 0 rfl ?_
  refine mj_get X inwX7_understandTexts_X7 (mx_at mx_oX7 h1) rfl 0 (by decide) rfl lnX7_understandTexts_1 rfl dX7_understandTexts_18 ?_
  refine mj_iconst (v := (1 : Int32)) X dX7_understandTexts_21 (by decide) ?_
  refine mj_aald (b := ad 3) X 1 (mx_at mx_q1 h1) rfl (by decide) dX7_understandTexts_22 rfl ?_
  obtain ⟨h4, r5, q6, hf⟩ := mm_c hf
  refine mj_callVv (As := [.ref (ad 3)]) (rest := []) X (kX0_understand l D t1 t2 cI cT cS ad 3 (by unfold mx_isX6; decide) N h1 h4 r5 q6) (cwV 1 X.2.2.2.2.1 gX7_understandTexts_X0_understand rfl rfl rfl (by decide +kernel) ⟨Nat.le_of_ble_eq_true rfl, Nat.le_of_ble_eq_true rfl⟩) (mx_at mx_oX0 h1) rfl rfl rfl rfl (Nat.le_of_ble_eq_true rfl) ⟨Nat.zero_le _, Nat.zero_le _⟩ dX7_understandTexts_23 ?_
  exact RET h4 _ _ _ dX7_understandTexts_26 (Option.some.inj hf)
abbrev rmX7_type : Room := { frames := 5, cells := 0, slots := 0, locals := 113 }
theorem inwX7_type_X7 : ∀ w ∈ wsX70, w ∈ wsX7_type := by
  intro w hw
  have h9 : wsX70 = (wsX7_type.drop 67).take 8 := rfl
  rw [h9] at hw
  exact List.mem_of_mem_drop (List.mem_of_mem_take hw)
theorem lnX7_type_0 : Cond.fieldLink RX7 14 "RichestPays" "texts" "[LRichestPays$Text;" ∈ wsX7_type := List.mem_of_getElem? (i := 1) rfl
theorem inwX7_type_X6 : ∀ w ∈ wsX60, w ∈ wsX7_type := by
  intro w hw
  have h9 : wsX60 = (wsX7_type.drop 75).take 2 := rfl
  rw [h9] at hw
  exact List.mem_of_mem_drop (List.mem_of_mem_take hw)
theorem lnX7_type_1 : Cond.fieldLink RX7 86 "RichestPays$Text" "length" "I" ∈ wsX7_type := List.mem_of_getElem? (i := 2) rfl
set_option maxHeartbeats 4000000 in
set_option maxRecDepth 100000 in
theorem kX7_type (l : Launch) (D : va_G) (t1 t2 : Nat) (cI : ClassId) (cT : ClassId) (cS : ClassId) (ad : Nat → Nat)  (N : Nat) (h : mm_M) (a0 : Int32) (a1 : Int32) (h1 : mm_M) (r : Int32) (hf : fX7_type N h a0 a1 = some (h1, r)) : mm_Ki l yX7_type wsX7_type rmX7_type D (mx_ty cI cT cS) t1 t2 (mx_w cI cT cS ad) [.ref (ad 0), .int a0, .int a1] h r h1 := by
  refine mm_open_i [.ref (ad 0), .int a0, .int a1] h r h1 RX7 (by decide) rfl rfl (Nat.le_of_ble_eq_true rfl) ?_
  intro p e s m below meth c A X hr hlocks
  have RET : ∀ (h : mm_M) (pc : Nat) (lo : List (Nat × Value)) (v : Int32), decode cX7_type pc = .ok (.ireturn, 1) → (h, v) = (h1, r) → mm_J p l e rmX7_type s m ([.ref (ad 0), .int a0, .int a1] : List Value).toArray below meth c 0 0 (MQ below (va_Qi (fun (r' : Int32) (u : mm_M) => r' = r ∧ u = h1) (mm_Post D (mx_w cI cT cS ad) A) A) ([.ref (ad 0), .int a0, .int a1] : List Value).toArray s 0 0 A) D (mx_w cI cT cS ad) A 3 h pc lo [.int v] := by
    intro h2 pc lo v hd he
    cases he
    exact mj_iret X hr rfl hlocks hd
  generalize hout : (h1, r) = out at hf RET
  unfold fX7_type at hf
  refine mj_lo (lo' := [(0, .ref (ad 0)), (1, .int a0), (2, .int a1)]) rfl ?_
  refine mj_iload_n X dX7_type_0 1 rfl ?_
  obtain ⟨h1, r2, q3, hf⟩ := mm_c hf
  refine mj_callSi (As := [.int a0]) (rest := []) X (kX7_isText l D t1 t2 cI cT cS ad N h a0 h1 r2 q3) (va_cwS 1 X.2.2.2.2.1 gX7_type_X7_isText rfl rfl rfl (by decide +kernel) ⟨Nat.le_of_ble_eq_true rfl, Nat.le_of_ble_eq_true rfl⟩) rfl rfl (Nat.le_of_ble_eq_true rfl) ⟨Nat.zero_le _, Nat.zero_le _⟩ dX7_type_1 ?_
  refine mj_if_eq (tgt := 18) X dX7_type_4 (by decide) (fun c4 => ?_) (fun c4 => ?_)
  · have hf := mm_t c4 hf
    refine mj_bipush (v := (-2 : Int32)) X dX7_type_18 (by decide) ?_
    exact RET h1 _ _ _ dX7_type_20 (Option.some.inj hf)
  · have hf := mm_f c4 hf
    refine mj_iload_n X dX7_type_7 2 rfl ?_
    refine mj_iconst (v := (0 : Int32)) X dX7_type_8 (by decide) ?_
    refine mj_sipush (v := (255 : Int32)) X dX7_type_9 (by decide) ?_
    obtain ⟨h5, r6, q7, hf⟩ := mm_c hf
    refine mj_callSi (As := [.int a1, .int (0 : Int32), .int (255 : Int32)]) (rest := []) X (kX7_isIn l D t1 t2 cI cT cS ad N h1 a1 (0 : Int32) (255 : Int32) h5 r6 q7) (va_cwS 3 X.2.2.2.2.1 gX7_type_X7_isIn rfl rfl rfl (by decide +kernel) ⟨Nat.le_of_ble_eq_true rfl, Nat.le_of_ble_eq_true rfl⟩) rfl rfl (Nat.le_of_ble_eq_true rfl) ⟨Nat.zero_le _, Nat.zero_le _⟩ dX7_type_12 ?_
    refine mj_if_ne (tgt := 21) X dX7_type_15 (by decide) (fun c8 => ?_) (fun c8 => ?_)
    · have hf := mm_f c8 hf
      refine mj_aload_n X dX7_type_21 0 rfl ?_
      refine mj_get X inwX7_type_X7 (mx_at mx_oX7 h5) rfl 0 (by decide) rfl lnX7_type_0 rfl dX7_type_22 ?_
      refine mj_iload_n X dX7_type_25 1 rfl ?_
      obtain ⟨g9, hf⟩ := mm_g hf
      refine mj_aald (b := ad (2 + a0.toNatClampNeg)) X 1 (mx_at mx_q1 h5) rfl g9 dX7_type_26 (if_pos (mm_gd_lt g9)) ?_
      obtain ⟨h10, r11, q12, hf⟩ := mm_c hf
      refine mj_callVi (As := []) (rest := []) X (kX6_isFull l D t1 t2 cI cT cS ad (2 + a0.toNatClampNeg) (mx_gX6 g9) N h5 h10 r11 q12) (cwV 0 X.2.2.2.2.1 gX7_type_X6_isFull rfl rfl rfl (by decide +kernel) ⟨Nat.le_of_ble_eq_true rfl, Nat.le_of_ble_eq_true rfl⟩) (mx_at (mx_oX6 (mx_gX6 g9)) h5) rfl rfl rfl rfl (Nat.le_of_ble_eq_true rfl) ⟨Nat.zero_le _, Nat.zero_le _⟩ dX7_type_27 ?_
      refine mj_if_eq (tgt := 36) X dX7_type_30 (by decide) (fun c13 => ?_) (fun c13 => ?_)
      · have hf := mm_t c13 hf
        refine mj_aload_n X dX7_type_36 0 rfl ?_
        refine mj_get X inwX7_type_X7 (mx_at mx_oX7 h10) rfl 0 (by decide) rfl lnX7_type_0 rfl dX7_type_37 ?_
        refine mj_iload_n X dX7_type_40 1 rfl ?_
        refine mj_aald (b := ad (2 + a0.toNatClampNeg)) X 1 (mx_at mx_q1 h10) rfl g9 dX7_type_41 (if_pos (mm_gd_lt g9)) ?_
        refine mj_iload_n X dX7_type_42 2 rfl ?_
        obtain ⟨h14, r15, q16, hf⟩ := mm_c hf
        refine mj_callVv (As := [.int a1]) (rest := []) X (kX6_append l D t1 t2 cI cT cS ad (2 + a0.toNatClampNeg) (mx_gX6 g9) N h10 a1 h14 r15 q16) (cwV 1 X.2.2.2.2.1 gX7_type_X6_append rfl rfl rfl (by decide +kernel) ⟨Nat.le_of_ble_eq_true rfl, Nat.le_of_ble_eq_true rfl⟩) (mx_at (mx_oX6 (mx_gX6 g9)) h10) rfl rfl rfl rfl (Nat.le_of_ble_eq_true rfl) ⟨Nat.zero_le _, Nat.zero_le _⟩ dX7_type_43 ?_
        refine mj_aload_n X dX7_type_46 0 rfl ?_
        obtain ⟨h17, r18, q19, hf⟩ := mm_c hf
        refine mj_callVv (As := []) (rest := []) X (kX7_understandTexts l D t1 t2 cI cT cS ad N h14 h17 r18 q19) (cwV 0 X.2.2.2.2.1 gX7_type_X7_understandTexts rfl rfl rfl (by decide +kernel) ⟨Nat.le_of_ble_eq_true rfl, Nat.le_of_ble_eq_true rfl⟩) (mx_at mx_oX7 h14) rfl rfl rfl rfl (Nat.le_of_ble_eq_true rfl) ⟨Nat.zero_le _, Nat.zero_le _⟩ dX7_type_47 ?_
        refine mj_aload_n X dX7_type_50 0 rfl ?_
        refine mj_get X inwX7_type_X7 (mx_at mx_oX7 h17) rfl 0 (by decide) rfl lnX7_type_0 rfl dX7_type_51 ?_
        refine mj_iload_n X dX7_type_54 1 rfl ?_
        refine mj_aald (b := ad (2 + a0.toNatClampNeg)) X 1 (mx_at mx_q1 h17) rfl g9 dX7_type_55 (if_pos (mm_gd_lt g9)) ?_
        refine mj_get X inwX7_type_X6 (mx_at (mx_oX6 (mx_gX6 g9)) h17) rfl 1 (by decide) rfl lnX7_type_1 rfl dX7_type_56 ?_
        exact RET h17 _ _ _ dX7_type_59 (Option.some.inj hf)
      · have hf := mm_f c13 hf
        refine mj_bipush (v := (-4 : Int32)) X dX7_type_33 (by decide) ?_
        exact RET h10 _ _ _ dX7_type_35 (Option.some.inj hf)
    · have hf := mm_t c8 hf
      refine mj_bipush (v := (-2 : Int32)) X dX7_type_18 (by decide) ?_
      exact RET h5 _ _ _ dX7_type_20 (Option.some.inj hf)
abbrev rmX7_wipe : Room := { frames := 5, cells := 0, slots := 0, locals := 113 }
theorem inwX7_wipe_X7 : ∀ w ∈ wsX70, w ∈ wsX7_wipe := by
  intro w hw
  have h9 : wsX70 = (wsX7_wipe.drop 58).take 8 := rfl
  rw [h9] at hw
  exact List.mem_of_mem_drop (List.mem_of_mem_take hw)
theorem lnX7_wipe_0 : Cond.fieldLink RX7 14 "RichestPays" "texts" "[LRichestPays$Text;" ∈ wsX7_wipe := List.mem_of_getElem? (i := 1) rfl
theorem inwX7_wipe_X6 : ∀ w ∈ wsX60, w ∈ wsX7_wipe := by
  intro w hw
  have h9 : wsX60 = (wsX7_wipe.drop 66).take 2 := rfl
  rw [h9] at hw
  exact List.mem_of_mem_drop (List.mem_of_mem_take hw)
theorem lnX7_wipe_1 : Cond.fieldLink RX7 86 "RichestPays$Text" "length" "I" ∈ wsX7_wipe := List.mem_of_getElem? (i := 2) rfl
set_option maxHeartbeats 4000000 in
set_option maxRecDepth 100000 in
theorem kX7_wipe (l : Launch) (D : va_G) (t1 t2 : Nat) (cI : ClassId) (cT : ClassId) (cS : ClassId) (ad : Nat → Nat)  (N : Nat) (h : mm_M) (a0 : Int32) (h1 : mm_M) (r : Int32) (hf : fX7_wipe N h a0 = some (h1, r)) : mm_Ki l yX7_wipe wsX7_wipe rmX7_wipe D (mx_ty cI cT cS) t1 t2 (mx_w cI cT cS ad) [.ref (ad 0), .int a0] h r h1 := by
  refine mm_open_i [.ref (ad 0), .int a0] h r h1 RX7 (by decide) rfl rfl (Nat.le_of_ble_eq_true rfl) ?_
  intro p e s m below meth c A X hr hlocks
  have RET : ∀ (h : mm_M) (pc : Nat) (lo : List (Nat × Value)) (v : Int32), decode cX7_wipe pc = .ok (.ireturn, 1) → (h, v) = (h1, r) → mm_J p l e rmX7_wipe s m ([.ref (ad 0), .int a0] : List Value).toArray below meth c 0 0 (MQ below (va_Qi (fun (r' : Int32) (u : mm_M) => r' = r ∧ u = h1) (mm_Post D (mx_w cI cT cS ad) A) A) ([.ref (ad 0), .int a0] : List Value).toArray s 0 0 A) D (mx_w cI cT cS ad) A 3 h pc lo [.int v] := by
    intro h2 pc lo v hd he
    cases he
    exact mj_iret X hr rfl hlocks hd
  generalize hout : (h1, r) = out at hf RET
  unfold fX7_wipe at hf
  refine mj_lo (lo' := [(0, .ref (ad 0)), (1, .int a0)]) rfl ?_
  refine mj_iload_n X dX7_wipe_0 1 rfl ?_
  obtain ⟨h1, r2, q3, hf⟩ := mm_c hf
  refine mj_callSi (As := [.int a0]) (rest := []) X (kX7_isText l D t1 t2 cI cT cS ad N h a0 h1 r2 q3) (va_cwS 1 X.2.2.2.2.1 gX7_wipe_X7_isText rfl rfl rfl (by decide +kernel) ⟨Nat.le_of_ble_eq_true rfl, Nat.le_of_ble_eq_true rfl⟩) rfl rfl (Nat.le_of_ble_eq_true rfl) ⟨Nat.zero_le _, Nat.zero_le _⟩ dX7_wipe_1 ?_
  refine mj_if_ne (tgt := 10) X dX7_wipe_4 (by decide) (fun c4 => ?_) (fun c4 => ?_)
  · have hf := mm_f c4 hf
    refine mj_aload_n X dX7_wipe_10 0 rfl ?_
    refine mj_get X inwX7_wipe_X7 (mx_at mx_oX7 h1) rfl 0 (by decide) rfl lnX7_wipe_0 rfl dX7_wipe_11 ?_
    refine mj_iload_n X dX7_wipe_14 1 rfl ?_
    obtain ⟨g5, hf⟩ := mm_g hf
    refine mj_aald (b := ad (2 + a0.toNatClampNeg)) X 1 (mx_at mx_q1 h1) rfl g5 dX7_wipe_15 (if_pos (mm_gd_lt g5)) ?_
    refine mj_get X inwX7_wipe_X6 (mx_at (mx_oX6 (mx_gX6 g5)) h1) rfl 1 (by decide) rfl lnX7_wipe_1 rfl dX7_wipe_16 ?_
    obtain ⟨x6, ex6, hf⟩ := mm_l hf
    refine mj_topi ex6 ?_
    refine mj_istore_n (lo' := [(2, .int x6), (0, .ref (ad 0)), (1, .int a0)]) X dX7_wipe_19 (by decide) rfl ?_
    refine mj_aload_n X dX7_wipe_20 1 rfl ?_
    refine mj_get X inwX7_wipe_X7 (mx_at mx_oX7 h1) rfl 0 (by decide) rfl lnX7_wipe_0 rfl dX7_wipe_21 ?_
    refine mj_iload_n X dX7_wipe_24 2 rfl ?_
    refine mj_aald (b := ad (2 + a0.toNatClampNeg)) X 1 (mx_at mx_q1 h1) rfl g5 dX7_wipe_25 (if_pos (mm_gd_lt g5)) ?_
    refine mj_iconst (v := (0 : Int32)) X dX7_wipe_26 (by decide) ?_
    obtain ⟨h7, eh7, hf⟩ := mm_l hf
    refine mj_put X tyX6_ok nmX6 inwX7_wipe_X6 (mx_at (mx_oX6 (mx_gX6 g5)) h1) rfl 1 (by decide) rfl lnX7_wipe_1 rfl (tyX6_ok 1 (by decide)) rfl rfl (Nat.le_of_ble_eq_true rfl) (mx_put (mx_oX6 (mx_gX6 g5)) eh7 (by simp [mm_up_at, upd])) dX7_wipe_27 ?_
    refine mj_aload_n X dX7_wipe_30 1 rfl ?_
    obtain ⟨h8, r9, q10, hf⟩ := mm_c hf
    refine mj_callVv (As := []) (rest := []) X (kX7_understandTexts l D t1 t2 cI cT cS ad N h7 h8 r9 q10) (cwV 0 X.2.2.2.2.1 gX7_wipe_X7_understandTexts rfl rfl rfl (by decide +kernel) ⟨Nat.le_of_ble_eq_true rfl, Nat.le_of_ble_eq_true rfl⟩) (mx_at mx_oX7 h7) rfl rfl rfl rfl (Nat.le_of_ble_eq_true rfl) ⟨Nat.zero_le _, Nat.zero_le _⟩ dX7_wipe_31 ?_
    refine mj_iload_n X dX7_wipe_34 0 rfl ?_
    exact RET h8 _ _ _ dX7_wipe_35 (Option.some.inj hf)
  · have hf := mm_t c4 hf
    refine mj_bipush (v := (-2 : Int32)) X dX7_wipe_7 (by decide) ?_
    exact RET h1 _ _ _ dX7_wipe_9 (Option.some.inj hf)
abbrev rmX7_fault : Room := { frames := 2, cells := 0, slots := 0, locals := 42 }
theorem inwX7_fault_X7 : ∀ w ∈ wsX70, w ∈ wsX7_fault := by
  intro w hw
  have h9 : wsX70 = (wsX7_fault.drop 12).take 8 := rfl
  rw [h9] at hw
  exact List.mem_of_mem_drop (List.mem_of_mem_take hw)
theorem lnX7_fault_0 : Cond.fieldLink RX7 30 "RichestPays" "evening" "LRichestPays$Evening;" ∈ wsX7_fault := List.mem_of_getElem? (i := 3) rfl
theorem inwX7_fault_X0 : ∀ w ∈ wsX00, w ∈ wsX7_fault := by
  intro w hw
  have h9 : wsX00 = (wsX7_fault.drop 29).take 11 := rfl
  rw [h9] at hw
  exact List.mem_of_mem_drop (List.mem_of_mem_take hw)
theorem lnX7_fault_1 : Cond.fieldLink RX7 92 "RichestPays$Evening" "textFault" "I" ∈ wsX7_fault := List.mem_of_getElem? (i := 4) rfl
theorem lnX7_fault_2 : Cond.fieldLink RX7 21 "RichestPays" "people" "LRichestPays$People;" ∈ wsX7_fault := List.mem_of_getElem? (i := 1) rfl
theorem inwX7_fault_X2 : ∀ w ∈ wsX20, w ∈ wsX7_fault := by
  intro w hw
  have h9 : wsX20 = (wsX7_fault.drop 20).take 9 := rfl
  rw [h9] at hw
  exact List.mem_of_mem_drop (List.mem_of_mem_take hw)
theorem lnX7_fault_3 : Cond.fieldLink RX7 89 "RichestPays$People" "textFault" "I" ∈ wsX7_fault := List.mem_of_getElem? (i := 2) rfl
set_option maxHeartbeats 4000000 in
set_option maxRecDepth 100000 in
theorem kX7_fault (l : Launch) (D : va_G) (t1 t2 : Nat) (cI : ClassId) (cT : ClassId) (cS : ClassId) (ad : Nat → Nat)  (N : Nat) (h : mm_M) (a0 : Int32) (h1 : mm_M) (r : Int32) (hf : fX7_fault N h a0 = some (h1, r)) : mm_Ki l yX7_fault wsX7_fault rmX7_fault D (mx_ty cI cT cS) t1 t2 (mx_w cI cT cS ad) [.ref (ad 0), .int a0] h r h1 := by
  refine mm_open_i [.ref (ad 0), .int a0] h r h1 RX7 (by decide) rfl rfl (Nat.le_of_ble_eq_true rfl) ?_
  intro p e s m below meth c A X hr hlocks
  have RET : ∀ (h : mm_M) (pc : Nat) (lo : List (Nat × Value)) (v : Int32), decode cX7_fault pc = .ok (.ireturn, 1) → (h, v) = (h1, r) → mm_J p l e rmX7_fault s m ([.ref (ad 0), .int a0] : List Value).toArray below meth c 0 0 (MQ below (va_Qi (fun (r' : Int32) (u : mm_M) => r' = r ∧ u = h1) (mm_Post D (mx_w cI cT cS ad) A) A) ([.ref (ad 0), .int a0] : List Value).toArray s 0 0 A) D (mx_w cI cT cS ad) A 2 h pc lo [.int v] := by
    intro h2 pc lo v hd he
    cases he
    exact mj_iret X hr rfl hlocks hd
  generalize hout : (h1, r) = out at hf RET
  unfold fX7_fault at hf
  refine mj_lo (lo' := [(0, .ref (ad 0)), (1, .int a0)]) rfl ?_
  refine mj_iload_n X dX7_fault_0 1 rfl ?_
  obtain ⟨h1, r2, q3, hf⟩ := mm_c hf
  refine mj_callSi (As := [.int a0]) (rest := []) X (kX7_isText l D t1 t2 cI cT cS ad N h a0 h1 r2 q3) (va_cwS 1 X.2.2.2.2.1 gX7_fault_X7_isText rfl rfl rfl (by decide +kernel) ⟨Nat.le_of_ble_eq_true rfl, Nat.le_of_ble_eq_true rfl⟩) rfl rfl (Nat.le_of_ble_eq_true rfl) ⟨Nat.zero_le _, Nat.zero_le _⟩ dX7_fault_1 ?_
  refine mj_if_ne (tgt := 10) X dX7_fault_4 (by decide) (fun c4 => ?_) (fun c4 => ?_)
  · have hf := mm_f c4 hf
    refine mj_iload_n X dX7_fault_10 1 rfl ?_
    refine mj_if_ne (tgt := 24) X dX7_fault_11 (by decide) (fun c5 => ?_) (fun c5 => ?_)
    · have hf := mm_f c5 hf
      refine mj_aload_n X dX7_fault_24 0 rfl ?_
      refine mj_get X inwX7_fault_X7 (mx_at mx_oX7 h1) rfl 2 (by decide) rfl lnX7_fault_0 rfl dX7_fault_25 ?_
      refine mj_get X inwX7_fault_X0 (mx_at mx_oX0 h1) rfl 10 (by decide) rfl lnX7_fault_1 rfl dX7_fault_28 ?_
      exact RET h1 _ _ _ dX7_fault_31 (Option.some.inj hf)
    · have hf := mm_t c5 hf
      refine mj_aload_n X dX7_fault_14 0 rfl ?_
      refine mj_get X inwX7_fault_X7 (mx_at mx_oX7 h1) rfl 1 (by decide) rfl lnX7_fault_2 rfl dX7_fault_15 ?_
      refine mj_get X inwX7_fault_X2 (mx_at mx_oX2 h1) rfl 6 (by decide) rfl lnX7_fault_3 rfl dX7_fault_18 ?_
      refine mj_goto (tgt := 31) X dX7_fault_21 (by decide) ?_
      exact RET h1 _ _ _ dX7_fault_31 (Option.some.inj hf)
  · have hf := mm_t c4 hf
    refine mj_bipush (v := (-2 : Int32)) X dX7_fault_7 (by decide) ?_
    exact RET h1 _ _ _ dX7_fault_9 (Option.some.inj hf)
abbrev rmX7_isPerson : Room := { frames := 1, cells := 0, slots := 0, locals := 22 }
theorem inwX7_isPerson_X7 : ∀ w ∈ wsX70, w ∈ wsX7_isPerson := by
  intro w hw
  have h9 : wsX70 = (wsX7_isPerson.drop 7).take 8 := rfl
  rw [h9] at hw
  exact List.mem_of_mem_drop (List.mem_of_mem_take hw)
theorem lnX7_isPerson_0 : Cond.fieldLink RX7 21 "RichestPays" "people" "LRichestPays$People;" ∈ wsX7_isPerson := List.mem_of_getElem? (i := 1) rfl
theorem inwX7_isPerson_X2 : ∀ w ∈ wsX20, w ∈ wsX7_isPerson := by
  intro w hw
  have h9 : wsX20 = (wsX7_isPerson.drop 15).take 9 := rfl
  rw [h9] at hw
  exact List.mem_of_mem_drop (List.mem_of_mem_take hw)
theorem lnX7_isPerson_1 : Cond.fieldLink RX7 168 "RichestPays$People" "number" "I" ∈ wsX7_isPerson := List.mem_of_getElem? (i := 2) rfl
set_option maxHeartbeats 4000000 in
set_option maxRecDepth 100000 in
theorem kX7_isPerson (l : Launch) (D : va_G) (t1 t2 : Nat) (cI : ClassId) (cT : ClassId) (cS : ClassId) (ad : Nat → Nat)  (N : Nat) (h : mm_M) (a0 : Int32) (h1 : mm_M) (r : Int32) (hf : fX7_isPerson N h a0 = some (h1, r)) : mm_Ki l yX7_isPerson wsX7_isPerson rmX7_isPerson D (mx_ty cI cT cS) t1 t2 (mx_w cI cT cS ad) [.ref (ad 0), .int a0] h r h1 := by
  refine mm_open_i [.ref (ad 0), .int a0] h r h1 RX7 (by decide) rfl rfl (Nat.le_of_ble_eq_true rfl) ?_
  intro p e s m below meth c A X hr hlocks
  have RET : ∀ (h : mm_M) (pc : Nat) (lo : List (Nat × Value)) (v : Int32), decode cX7_isPerson pc = .ok (.ireturn, 1) → (v = 0 ∨ v = 1) → (h, v) = (h1, r) → mm_J p l e rmX7_isPerson s m ([.ref (ad 0), .int a0] : List Value).toArray below meth c 0 0 (MQ below (va_Qi (fun (r' : Int32) (u : mm_M) => r' = r ∧ u = h1) (mm_Post D (mx_w cI cT cS ad) A) A) ([.ref (ad 0), .int a0] : List Value).toArray s 0 0 A) D (mx_w cI cT cS ad) A 2 h pc lo [.int v] := by
    intro h2 pc lo v hd hz he
    cases he
    exact mj_iret X hr (mm_nz hz) hlocks hd
  generalize hout : (h1, r) = out at hf RET
  unfold fX7_isPerson at hf
  refine mj_lo (lo' := [(0, .ref (ad 0)), (1, .int a0)]) rfl ?_
  refine mj_iload_n X dX7_isPerson_0 1 rfl ?_
  refine mj_iconst (v := (0 : Int32)) X dX7_isPerson_1 (by decide) ?_
  refine mj_aload_n X dX7_isPerson_2 0 rfl ?_
  refine mj_get X inwX7_isPerson_X7 (mx_at mx_oX7 h) rfl 1 (by decide) rfl lnX7_isPerson_0 rfl dX7_isPerson_3 ?_
  refine mj_get X inwX7_isPerson_X2 (mx_at mx_oX2 h) rfl 5 (by decide) rfl lnX7_isPerson_1 rfl dX7_isPerson_6 ?_
  refine mj_iconst (v := (1 : Int32)) X dX7_isPerson_9 (by decide) ?_
  refine mj_isub X dX7_isPerson_10 ?_
  obtain ⟨h1, r2, q3, hf⟩ := mm_c hf
  refine mj_callSi (As := [.int a0, .int (0 : Int32), .int ((h 6 5) - (1 : Int32))]) (rest := []) X (kX7_isIn l D t1 t2 cI cT cS ad N h a0 (0 : Int32) (((h 6 5) - (1 : Int32))) h1 r2 q3) (va_cwS 3 X.2.2.2.2.1 gX7_isPerson_X7_isIn rfl rfl rfl (by decide +kernel) ⟨Nat.le_of_ble_eq_true rfl, Nat.le_of_ble_eq_true rfl⟩) rfl rfl (Nat.le_of_ble_eq_true rfl) ⟨Nat.zero_le _, Nat.zero_le _⟩ dX7_isPerson_11 ?_
  obtain ⟨g4, hf⟩ := mm_g hf
  exact RET h1 _ _ _ dX7_isPerson_14 g4 (Option.some.inj hf)
abbrev rmX7_person : Room := { frames := 2, cells := 0, slots := 0, locals := 43 }
theorem inwX7_person_X7 : ∀ w ∈ wsX70, w ∈ wsX7_person := by
  intro w hw
  have h9 : wsX70 = (wsX7_person.drop 13).take 8 := rfl
  rw [h9] at hw
  exact List.mem_of_mem_drop (List.mem_of_mem_take hw)
theorem lnX7_person_0 : Cond.fieldLink RX7 21 "RichestPays" "people" "LRichestPays$People;" ∈ wsX7_person := List.mem_of_getElem? (i := 1) rfl
theorem inwX7_person_X2 : ∀ w ∈ wsX20, w ∈ wsX7_person := by
  intro w hw
  have h9 : wsX20 = (wsX7_person.drop 21).take 9 := rfl
  rw [h9] at hw
  exact List.mem_of_mem_drop (List.mem_of_mem_take hw)
theorem lnX7_person_1 : Cond.fieldLink RX7 100 "RichestPays$People" "appetite" "[I" ∈ wsX7_person := List.mem_of_getElem? (i := 3) rfl
theorem lnX7_person_2 : Cond.fieldLink RX7 96 "RichestPays$People" "purse" "[I" ∈ wsX7_person := List.mem_of_getElem? (i := 2) rfl
set_option maxHeartbeats 4000000 in
set_option maxRecDepth 100000 in
theorem kX7_person (l : Launch) (D : va_G) (t1 t2 : Nat) (cI : ClassId) (cT : ClassId) (cS : ClassId) (ad : Nat → Nat)  (N : Nat) (h : mm_M) (a0 : Int32) (a1 : Int32) (h1 : mm_M) (r : Int32) (hf : fX7_person N h a0 a1 = some (h1, r)) : mm_Ki l yX7_person wsX7_person rmX7_person D (mx_ty cI cT cS) t1 t2 (mx_w cI cT cS ad) [.ref (ad 0), .int a0, .int a1] h r h1 := by
  refine mm_open_i [.ref (ad 0), .int a0, .int a1] h r h1 RX7 (by decide) rfl rfl (Nat.le_of_ble_eq_true rfl) ?_
  intro p e s m below meth c A X hr hlocks
  have RET : ∀ (h : mm_M) (pc : Nat) (lo : List (Nat × Value)) (v : Int32), decode cX7_person pc = .ok (.ireturn, 1) → (h, v) = (h1, r) → mm_J p l e rmX7_person s m ([.ref (ad 0), .int a0, .int a1] : List Value).toArray below meth c 0 0 (MQ below (va_Qi (fun (r' : Int32) (u : mm_M) => r' = r ∧ u = h1) (mm_Post D (mx_w cI cT cS ad) A) A) ([.ref (ad 0), .int a0, .int a1] : List Value).toArray s 0 0 A) D (mx_w cI cT cS ad) A 3 h pc lo [.int v] := by
    intro h2 pc lo v hd he
    cases he
    exact mj_iret X hr rfl hlocks hd
  generalize hout : (h1, r) = out at hf RET
  unfold fX7_person at hf
  refine mj_lo (lo' := [(0, .ref (ad 0)), (1, .int a0), (2, .int a1)]) rfl ?_
  refine mj_aload_n X dX7_person_0 0 rfl ?_
  refine mj_iload_n X dX7_person_1 1 rfl ?_
  obtain ⟨h1, r2, q3, hf⟩ := mm_c hf
  refine mj_callVi (As := [.int a0]) (rest := []) X (kX7_isPerson l D t1 t2 cI cT cS ad N h a0 h1 r2 q3) (cwV 1 X.2.2.2.2.1 gX7_person_X7_isPerson rfl rfl rfl (by decide +kernel) ⟨Nat.le_of_ble_eq_true rfl, Nat.le_of_ble_eq_true rfl⟩) (mx_at mx_oX7 h) rfl rfl rfl rfl (Nat.le_of_ble_eq_true rfl) ⟨Nat.zero_le _, Nat.zero_le _⟩ dX7_person_2 ?_
  refine mj_if_eq (tgt := 17) X dX7_person_5 (by decide) (fun c4 => ?_) (fun c4 => ?_)
  · have hf := mm_t c4 hf
    refine mj_bipush (v := (-2 : Int32)) X dX7_person_17 (by decide) ?_
    exact RET h1 _ _ _ dX7_person_19 (Option.some.inj hf)
  · have hf := mm_f c4 hf
    refine mj_iload_n X dX7_person_8 2 rfl ?_
    refine mj_iconst (v := (0 : Int32)) X dX7_person_9 (by decide) ?_
    refine mj_iconst (v := (1 : Int32)) X dX7_person_10 (by decide) ?_
    obtain ⟨h5, r6, q7, hf⟩ := mm_c hf
    refine mj_callSi (As := [.int a1, .int (0 : Int32), .int (1 : Int32)]) (rest := []) X (kX7_isIn l D t1 t2 cI cT cS ad N h1 a1 (0 : Int32) (1 : Int32) h5 r6 q7) (va_cwS 3 X.2.2.2.2.1 gX7_person_X7_isIn rfl rfl rfl (by decide +kernel) ⟨Nat.le_of_ble_eq_true rfl, Nat.le_of_ble_eq_true rfl⟩) rfl rfl (Nat.le_of_ble_eq_true rfl) ⟨Nat.zero_le _, Nat.zero_le _⟩ dX7_person_11 ?_
    refine mj_if_ne (tgt := 20) X dX7_person_14 (by decide) (fun c8 => ?_) (fun c8 => ?_)
    · have hf := mm_f c8 hf
      refine mj_iload_n X dX7_person_20 2 rfl ?_
      refine mj_if_ne (tgt := 36) X dX7_person_21 (by decide) (fun c9 => ?_) (fun c9 => ?_)
      · have hf := mm_f c9 hf
        refine mj_aload_n X dX7_person_36 0 rfl ?_
        refine mj_get X inwX7_person_X7 (mx_at mx_oX7 h5) rfl 1 (by decide) rfl lnX7_person_0 rfl dX7_person_37 ?_
        refine mj_get X inwX7_person_X2 (mx_at mx_oX2 h5) rfl 1 (by decide) rfl lnX7_person_1 rfl dX7_person_40 ?_
        refine mj_iload_n X dX7_person_43 1 rfl ?_
        obtain ⟨g10, hf⟩ := mm_g hf
        refine mj_iald X 0 (mx_at mx_a8 h5) rfl g10 dX7_person_44 ?_
        exact RET h5 _ _ _ dX7_person_45 (Option.some.inj hf)
      · have hf := mm_t c9 hf
        refine mj_aload_n X dX7_person_24 0 rfl ?_
        refine mj_get X inwX7_person_X7 (mx_at mx_oX7 h5) rfl 1 (by decide) rfl lnX7_person_0 rfl dX7_person_25 ?_
        refine mj_get X inwX7_person_X2 (mx_at mx_oX2 h5) rfl 0 (by decide) rfl lnX7_person_2 rfl dX7_person_28 ?_
        refine mj_iload_n X dX7_person_31 1 rfl ?_
        obtain ⟨g11, hf⟩ := mm_g hf
        refine mj_iald X 0 (mx_at mx_a7 h5) rfl g11 dX7_person_32 ?_
        refine mj_goto (tgt := 45) X dX7_person_33 (by decide) ?_
        exact RET h5 _ _ _ dX7_person_45 (Option.some.inj hf)
    · have hf := mm_t c8 hf
      refine mj_bipush (v := (-2 : Int32)) X dX7_person_17 (by decide) ?_
      exact RET h5 _ _ _ dX7_person_19 (Option.some.inj hf)
abbrev rmX7_isRound : Room := { frames := 1, cells := 0, slots := 0, locals := 22 }
theorem inwX7_isRound_X7 : ∀ w ∈ wsX70, w ∈ wsX7_isRound := by
  intro w hw
  have h9 : wsX70 = (wsX7_isRound.drop 7).take 8 := rfl
  rw [h9] at hw
  exact List.mem_of_mem_drop (List.mem_of_mem_take hw)
theorem lnX7_isRound_0 : Cond.fieldLink RX7 30 "RichestPays" "evening" "LRichestPays$Evening;" ∈ wsX7_isRound := List.mem_of_getElem? (i := 1) rfl
theorem inwX7_isRound_X0 : ∀ w ∈ wsX00, w ∈ wsX7_isRound := by
  intro w hw
  have h9 : wsX00 = (wsX7_isRound.drop 15).take 11 := rfl
  rw [h9] at hw
  exact List.mem_of_mem_drop (List.mem_of_mem_take hw)
theorem lnX7_isRound_1 : Cond.fieldLink RX7 144 "RichestPays$Evening" "rounds" "I" ∈ wsX7_isRound := List.mem_of_getElem? (i := 2) rfl
set_option maxHeartbeats 4000000 in
set_option maxRecDepth 100000 in
theorem kX7_isRound (l : Launch) (D : va_G) (t1 t2 : Nat) (cI : ClassId) (cT : ClassId) (cS : ClassId) (ad : Nat → Nat)  (N : Nat) (h : mm_M) (a0 : Int32) (h1 : mm_M) (r : Int32) (hf : fX7_isRound N h a0 = some (h1, r)) : mm_Ki l yX7_isRound wsX7_isRound rmX7_isRound D (mx_ty cI cT cS) t1 t2 (mx_w cI cT cS ad) [.ref (ad 0), .int a0] h r h1 := by
  refine mm_open_i [.ref (ad 0), .int a0] h r h1 RX7 (by decide) rfl rfl (Nat.le_of_ble_eq_true rfl) ?_
  intro p e s m below meth c A X hr hlocks
  have RET : ∀ (h : mm_M) (pc : Nat) (lo : List (Nat × Value)) (v : Int32), decode cX7_isRound pc = .ok (.ireturn, 1) → (v = 0 ∨ v = 1) → (h, v) = (h1, r) → mm_J p l e rmX7_isRound s m ([.ref (ad 0), .int a0] : List Value).toArray below meth c 0 0 (MQ below (va_Qi (fun (r' : Int32) (u : mm_M) => r' = r ∧ u = h1) (mm_Post D (mx_w cI cT cS ad) A) A) ([.ref (ad 0), .int a0] : List Value).toArray s 0 0 A) D (mx_w cI cT cS ad) A 2 h pc lo [.int v] := by
    intro h2 pc lo v hd hz he
    cases he
    exact mj_iret X hr (mm_nz hz) hlocks hd
  generalize hout : (h1, r) = out at hf RET
  unfold fX7_isRound at hf
  refine mj_lo (lo' := [(0, .ref (ad 0)), (1, .int a0)]) rfl ?_
  refine mj_iload_n X dX7_isRound_0 1 rfl ?_
  refine mj_iconst (v := (0 : Int32)) X dX7_isRound_1 (by decide) ?_
  refine mj_aload_n X dX7_isRound_2 0 rfl ?_
  refine mj_get X inwX7_isRound_X7 (mx_at mx_oX7 h) rfl 2 (by decide) rfl lnX7_isRound_0 rfl dX7_isRound_3 ?_
  refine mj_get X inwX7_isRound_X0 (mx_at mx_oX0 h) rfl 9 (by decide) rfl lnX7_isRound_1 rfl dX7_isRound_6 ?_
  refine mj_iconst (v := (1 : Int32)) X dX7_isRound_9 (by decide) ?_
  refine mj_isub X dX7_isRound_10 ?_
  obtain ⟨h1, r2, q3, hf⟩ := mm_c hf
  refine mj_callSi (As := [.int a0, .int (0 : Int32), .int ((h 12 9) - (1 : Int32))]) (rest := []) X (kX7_isIn l D t1 t2 cI cT cS ad N h a0 (0 : Int32) (((h 12 9) - (1 : Int32))) h1 r2 q3) (va_cwS 3 X.2.2.2.2.1 gX7_isRound_X7_isIn rfl rfl rfl (by decide +kernel) ⟨Nat.le_of_ble_eq_true rfl, Nat.le_of_ble_eq_true rfl⟩) rfl rfl (Nat.le_of_ble_eq_true rfl) ⟨Nat.zero_le _, Nat.zero_le _⟩ dX7_isRound_11 ?_
  obtain ⟨g4, hf⟩ := mm_g hf
  exact RET h1 _ _ _ dX7_isRound_14 g4 (Option.some.inj hf)
abbrev rmX7_sits : Room := { frames := 2, cells := 0, slots := 0, locals := 43 }
theorem inwX7_sits_X7 : ∀ w ∈ wsX70, w ∈ wsX7_sits := by
  intro w hw
  have h9 : wsX70 = (wsX7_sits.drop 23).take 8 := rfl
  rw [h9] at hw
  exact List.mem_of_mem_drop (List.mem_of_mem_take hw)
theorem lnX7_sits_0 : Cond.fieldLink RX7 30 "RichestPays" "evening" "LRichestPays$Evening;" ∈ wsX7_sits := List.mem_of_getElem? (i := 1) rfl
set_option maxHeartbeats 4000000 in
set_option maxRecDepth 100000 in
theorem kX7_sits (l : Launch) (D : va_G) (t1 t2 : Nat) (cI : ClassId) (cT : ClassId) (cS : ClassId) (ad : Nat → Nat)  (N : Nat) (h : mm_M) (a0 : Int32) (a1 : Int32) (h1 : mm_M) (r : Int32) (hf : fX7_sits N h a0 a1 = some (h1, r)) : mm_Ki l yX7_sits wsX7_sits rmX7_sits D (mx_ty cI cT cS) t1 t2 (mx_w cI cT cS ad) [.ref (ad 0), .int a0, .int a1] h r h1 := by
  refine mm_open_i [.ref (ad 0), .int a0, .int a1] h r h1 RX7 (by decide) rfl rfl (Nat.le_of_ble_eq_true rfl) ?_
  intro p e s m below meth c A X hr hlocks
  have RET : ∀ (h : mm_M) (pc : Nat) (lo : List (Nat × Value)) (v : Int32), decode cX7_sits pc = .ok (.ireturn, 1) → (h, v) = (h1, r) → mm_J p l e rmX7_sits s m ([.ref (ad 0), .int a0, .int a1] : List Value).toArray below meth c 0 0 (MQ below (va_Qi (fun (r' : Int32) (u : mm_M) => r' = r ∧ u = h1) (mm_Post D (mx_w cI cT cS ad) A) A) ([.ref (ad 0), .int a0, .int a1] : List Value).toArray s 0 0 A) D (mx_w cI cT cS ad) A 3 h pc lo [.int v] := by
    intro h2 pc lo v hd he
    cases he
    exact mj_iret X hr rfl hlocks hd
  generalize hout : (h1, r) = out at hf RET
  unfold fX7_sits at hf
  refine mj_lo (lo' := [(0, .ref (ad 0)), (1, .int a0), (2, .int a1)]) rfl ?_
  refine mj_aload_n X dX7_sits_0 0 rfl ?_
  refine mj_iload_n X dX7_sits_1 1 rfl ?_
  obtain ⟨h1, r2, q3, hf⟩ := mm_c hf
  refine mj_callVi (As := [.int a0]) (rest := []) X (kX7_isRound l D t1 t2 cI cT cS ad N h a0 h1 r2 q3) (cwV 1 X.2.2.2.2.1 gX7_sits_X7_isRound rfl rfl rfl (by decide +kernel) ⟨Nat.le_of_ble_eq_true rfl, Nat.le_of_ble_eq_true rfl⟩) (mx_at mx_oX7 h) rfl rfl rfl rfl (Nat.le_of_ble_eq_true rfl) ⟨Nat.zero_le _, Nat.zero_le _⟩ dX7_sits_2 ?_
  refine mj_if_eq (tgt := 16) X dX7_sits_5 (by decide) (fun c4 => ?_) (fun c4 => ?_)
  · have hf := mm_t c4 hf
    refine mj_bipush (v := (-2 : Int32)) X dX7_sits_16 (by decide) ?_
    exact RET h1 _ _ _ dX7_sits_18 (Option.some.inj hf)
  · have hf := mm_f c4 hf
    refine mj_aload_n X dX7_sits_8 0 rfl ?_
    refine mj_iload_n X dX7_sits_9 2 rfl ?_
    obtain ⟨h5, r6, q7, hf⟩ := mm_c hf
    refine mj_callVi (As := [.int a1]) (rest := []) X (kX7_isPerson l D t1 t2 cI cT cS ad N h1 a1 h5 r6 q7) (cwV 1 X.2.2.2.2.1 gX7_sits_X7_isPerson rfl rfl rfl (by decide +kernel) ⟨Nat.le_of_ble_eq_true rfl, Nat.le_of_ble_eq_true rfl⟩) (mx_at mx_oX7 h1) rfl rfl rfl rfl (Nat.le_of_ble_eq_true rfl) ⟨Nat.zero_le _, Nat.zero_le _⟩ dX7_sits_10 ?_
    refine mj_if_ne (tgt := 19) X dX7_sits_13 (by decide) (fun c8 => ?_) (fun c8 => ?_)
    · have hf := mm_f c8 hf
      refine mj_aload_n X dX7_sits_19 0 rfl ?_
      refine mj_get X inwX7_sits_X7 (mx_at mx_oX7 h5) rfl 2 (by decide) rfl lnX7_sits_0 rfl dX7_sits_20 ?_
      refine mj_iload_n X dX7_sits_23 1 rfl ?_
      refine mj_iload_n X dX7_sits_24 2 rfl ?_
      obtain ⟨h9, r10, q11, hf⟩ := mm_c hf
      refine mj_callVi (As := [.int a0, .int a1]) (rest := []) X (kX0_tableOf l D t1 t2 cI cT cS ad N h5 a0 a1 h9 r10 q11) (cwV 2 X.2.2.2.2.1 gX7_sits_X0_tableOf rfl rfl rfl (by decide +kernel) ⟨Nat.le_of_ble_eq_true rfl, Nat.le_of_ble_eq_true rfl⟩) (mx_at mx_oX0 h5) rfl rfl rfl rfl (Nat.le_of_ble_eq_true rfl) ⟨Nat.zero_le _, Nat.zero_le _⟩ dX7_sits_25 ?_
      exact RET h9 _ _ _ dX7_sits_28 (Option.some.inj hf)
    · have hf := mm_t c8 hf
      refine mj_bipush (v := (-2 : Int32)) X dX7_sits_16 (by decide) ?_
      exact RET h5 _ _ _ dX7_sits_18 (Option.some.inj hf)
abbrev rmX7_home : Room := { frames := 1, cells := 0, slots := 0, locals := 22 }
theorem inwX7_home_X7 : ∀ w ∈ wsX70, w ∈ wsX7_home := by
  intro w hw
  have h9 : wsX70 = (wsX7_home.drop 7).take 8 := rfl
  rw [h9] at hw
  exact List.mem_of_mem_drop (List.mem_of_mem_take hw)
theorem lnX7_home_0 : Cond.fieldLink RX7 21 "RichestPays" "people" "LRichestPays$People;" ∈ wsX7_home := List.mem_of_getElem? (i := 1) rfl
theorem inwX7_home_X2 : ∀ w ∈ wsX20, w ∈ wsX7_home := by
  intro w hw
  have h9 : wsX20 = (wsX7_home.drop 15).take 9 := rfl
  rw [h9] at hw
  exact List.mem_of_mem_drop (List.mem_of_mem_take hw)
theorem lnX7_home_1 : Cond.fieldLink RX7 110 "RichestPays$People" "atHome" "[I" ∈ wsX7_home := List.mem_of_getElem? (i := 2) rfl
set_option maxHeartbeats 4000000 in
set_option maxRecDepth 100000 in
theorem kX7_home (l : Launch) (D : va_G) (t1 t2 : Nat) (cI : ClassId) (cT : ClassId) (cS : ClassId) (ad : Nat → Nat)  (N : Nat) (h : mm_M) (a0 : Int32) (a1 : Int32) (h1 : mm_M) (r : Int32) (hf : fX7_home N h a0 a1 = some (h1, r)) : mm_Ki l yX7_home wsX7_home rmX7_home D (mx_ty cI cT cS) t1 t2 (mx_w cI cT cS ad) [.ref (ad 0), .int a0, .int a1] h r h1 := by
  refine mm_open_i [.ref (ad 0), .int a0, .int a1] h r h1 RX7 (by decide) rfl rfl (Nat.le_of_ble_eq_true rfl) ?_
  intro p e s m below meth c A X hr hlocks
  have RET : ∀ (h : mm_M) (pc : Nat) (lo : List (Nat × Value)) (v : Int32), decode cX7_home pc = .ok (.ireturn, 1) → (h, v) = (h1, r) → mm_J p l e rmX7_home s m ([.ref (ad 0), .int a0, .int a1] : List Value).toArray below meth c 0 0 (MQ below (va_Qi (fun (r' : Int32) (u : mm_M) => r' = r ∧ u = h1) (mm_Post D (mx_w cI cT cS ad) A) A) ([.ref (ad 0), .int a0, .int a1] : List Value).toArray s 0 0 A) D (mx_w cI cT cS ad) A 4 h pc lo [.int v] := by
    intro h2 pc lo v hd he
    cases he
    exact mj_iret X hr rfl hlocks hd
  generalize hout : (h1, r) = out at hf RET
  unfold fX7_home at hf
  refine mj_lo (lo' := [(0, .ref (ad 0)), (1, .int a0), (2, .int a1)]) rfl ?_
  refine mj_iload_n X dX7_home_0 1 rfl ?_
  refine mj_iconst (v := (0 : Int32)) X dX7_home_1 (by decide) ?_
  refine mj_iconst (v := (5 : Int32)) X dX7_home_2 (by decide) ?_
  obtain ⟨h1, r2, q3, hf⟩ := mm_c hf
  refine mj_callSi (As := [.int a0, .int (0 : Int32), .int (5 : Int32)]) (rest := []) X (kX7_isIn l D t1 t2 cI cT cS ad N h a0 (0 : Int32) (5 : Int32) h1 r2 q3) (va_cwS 3 X.2.2.2.2.1 gX7_home_X7_isIn rfl rfl rfl (by decide +kernel) ⟨Nat.le_of_ble_eq_true rfl, Nat.le_of_ble_eq_true rfl⟩) rfl rfl (Nat.le_of_ble_eq_true rfl) ⟨Nat.zero_le _, Nat.zero_le _⟩ dX7_home_3 ?_
  refine mj_if_eq (tgt := 19) X dX7_home_6 (by decide) (fun c4 => ?_) (fun c4 => ?_)
  · have hf := mm_t c4 hf
    refine mj_bipush (v := (-2 : Int32)) X dX7_home_19 (by decide) ?_
    exact RET h1 _ _ _ dX7_home_21 (Option.some.inj hf)
  · have hf := mm_f c4 hf
    refine mj_iload_n X dX7_home_9 2 rfl ?_
    refine mj_iconst (v := (0 : Int32)) X dX7_home_10 (by decide) ?_
    refine mj_bipush (v := (99 : Int32)) X dX7_home_11 (by decide) ?_
    obtain ⟨h5, r6, q7, hf⟩ := mm_c hf
    refine mj_callSi (As := [.int a1, .int (0 : Int32), .int (99 : Int32)]) (rest := []) X (kX7_isIn l D t1 t2 cI cT cS ad N h1 a1 (0 : Int32) (99 : Int32) h5 r6 q7) (va_cwS 3 X.2.2.2.2.1 gX7_home_X7_isIn rfl rfl rfl (by decide +kernel) ⟨Nat.le_of_ble_eq_true rfl, Nat.le_of_ble_eq_true rfl⟩) rfl rfl (Nat.le_of_ble_eq_true rfl) ⟨Nat.zero_le _, Nat.zero_le _⟩ dX7_home_13 ?_
    refine mj_if_ne (tgt := 22) X dX7_home_16 (by decide) (fun c8 => ?_) (fun c8 => ?_)
    · have hf := mm_f c8 hf
      refine mj_aload_n X dX7_home_22 0 rfl ?_
      refine mj_get X inwX7_home_X7 (mx_at mx_oX7 h5) rfl 1 (by decide) rfl lnX7_home_0 rfl dX7_home_23 ?_
      refine mj_get X inwX7_home_X2 (mx_at mx_oX2 h5) rfl 2 (by decide) rfl lnX7_home_1 rfl dX7_home_26 ?_
      refine mj_iload_n X dX7_home_29 1 rfl ?_
      obtain ⟨g9, hf⟩ := mm_g hf
      refine mj_iald X 0 (mx_at mx_a9 h5) rfl g9 dX7_home_30 ?_
      obtain ⟨x10, ex10, hf⟩ := mm_l hf
      refine mj_topi ex10 ?_
      refine mj_istore_n (lo' := [(3, .int x10), (0, .ref (ad 0)), (1, .int a0), (2, .int a1)]) X dX7_home_31 (by decide) rfl ?_
      refine mj_aload_n X dX7_home_32 1 rfl ?_
      refine mj_get X inwX7_home_X7 (mx_at mx_oX7 h5) rfl 1 (by decide) rfl lnX7_home_0 rfl dX7_home_33 ?_
      refine mj_get X inwX7_home_X2 (mx_at mx_oX2 h5) rfl 2 (by decide) rfl lnX7_home_1 rfl dX7_home_36 ?_
      refine mj_iload_n X dX7_home_39 2 rfl ?_
      refine mj_iload_n X dX7_home_40 3 rfl ?_
      obtain ⟨h11, eh11, hf⟩ := mm_l hf
      refine mj_iast X 0 (mx_at mx_a9 h5) rfl g9 (mx_ast mx_a9 eh11) dX7_home_41 ?_
      refine mj_iload_n X dX7_home_42 0 rfl ?_
      exact RET h11 _ _ _ dX7_home_43 (Option.some.inj hf)
    · have hf := mm_t c8 hf
      refine mj_bipush (v := (-2 : Int32)) X dX7_home_19 (by decide) ?_
      exact RET h5 _ _ _ dX7_home_21 (Option.some.inj hf)
abbrev rmX7_worth : Room := { frames := 1, cells := 0, slots := 0, locals := 22 }
theorem inwX7_worth_X7 : ∀ w ∈ wsX70, w ∈ wsX7_worth := by
  intro w hw
  have h9 : wsX70 = (wsX7_worth.drop 7).take 8 := rfl
  rw [h9] at hw
  exact List.mem_of_mem_drop (List.mem_of_mem_take hw)
theorem lnX7_worth_0 : Cond.fieldLink RX7 21 "RichestPays" "people" "LRichestPays$People;" ∈ wsX7_worth := List.mem_of_getElem? (i := 1) rfl
theorem inwX7_worth_X2 : ∀ w ∈ wsX20, w ∈ wsX7_worth := by
  intro w hw
  have h9 : wsX20 = (wsX7_worth.drop 15).take 9 := rfl
  rw [h9] at hw
  exact List.mem_of_mem_drop (List.mem_of_mem_take hw)
theorem lnX7_worth_1 : Cond.fieldLink RX7 113 "RichestPays$People" "mealWorth" "[I" ∈ wsX7_worth := List.mem_of_getElem? (i := 2) rfl
set_option maxHeartbeats 4000000 in
set_option maxRecDepth 100000 in
theorem kX7_worth (l : Launch) (D : va_G) (t1 t2 : Nat) (cI : ClassId) (cT : ClassId) (cS : ClassId) (ad : Nat → Nat)  (N : Nat) (h : mm_M) (a0 : Int32) (a1 : Int32) (h1 : mm_M) (r : Int32) (hf : fX7_worth N h a0 a1 = some (h1, r)) : mm_Ki l yX7_worth wsX7_worth rmX7_worth D (mx_ty cI cT cS) t1 t2 (mx_w cI cT cS ad) [.ref (ad 0), .int a0, .int a1] h r h1 := by
  refine mm_open_i [.ref (ad 0), .int a0, .int a1] h r h1 RX7 (by decide) rfl rfl (Nat.le_of_ble_eq_true rfl) ?_
  intro p e s m below meth c A X hr hlocks
  have RET : ∀ (h : mm_M) (pc : Nat) (lo : List (Nat × Value)) (v : Int32), decode cX7_worth pc = .ok (.ireturn, 1) → (h, v) = (h1, r) → mm_J p l e rmX7_worth s m ([.ref (ad 0), .int a0, .int a1] : List Value).toArray below meth c 0 0 (MQ below (va_Qi (fun (r' : Int32) (u : mm_M) => r' = r ∧ u = h1) (mm_Post D (mx_w cI cT cS ad) A) A) ([.ref (ad 0), .int a0, .int a1] : List Value).toArray s 0 0 A) D (mx_w cI cT cS ad) A 4 h pc lo [.int v] := by
    intro h2 pc lo v hd he
    cases he
    exact mj_iret X hr rfl hlocks hd
  generalize hout : (h1, r) = out at hf RET
  unfold fX7_worth at hf
  refine mj_lo (lo' := [(0, .ref (ad 0)), (1, .int a0), (2, .int a1)]) rfl ?_
  refine mj_iload_n X dX7_worth_0 1 rfl ?_
  refine mj_iconst (v := (0 : Int32)) X dX7_worth_1 (by decide) ?_
  refine mj_iconst (v := (5 : Int32)) X dX7_worth_2 (by decide) ?_
  obtain ⟨h1, r2, q3, hf⟩ := mm_c hf
  refine mj_callSi (As := [.int a0, .int (0 : Int32), .int (5 : Int32)]) (rest := []) X (kX7_isIn l D t1 t2 cI cT cS ad N h a0 (0 : Int32) (5 : Int32) h1 r2 q3) (va_cwS 3 X.2.2.2.2.1 gX7_worth_X7_isIn rfl rfl rfl (by decide +kernel) ⟨Nat.le_of_ble_eq_true rfl, Nat.le_of_ble_eq_true rfl⟩) rfl rfl (Nat.le_of_ble_eq_true rfl) ⟨Nat.zero_le _, Nat.zero_le _⟩ dX7_worth_3 ?_
  refine mj_if_eq (tgt := 19) X dX7_worth_6 (by decide) (fun c4 => ?_) (fun c4 => ?_)
  · have hf := mm_t c4 hf
    refine mj_bipush (v := (-2 : Int32)) X dX7_worth_19 (by decide) ?_
    exact RET h1 _ _ _ dX7_worth_21 (Option.some.inj hf)
  · have hf := mm_f c4 hf
    refine mj_iload_n X dX7_worth_9 2 rfl ?_
    refine mj_iconst (v := (0 : Int32)) X dX7_worth_10 (by decide) ?_
    refine mj_bipush (v := (99 : Int32)) X dX7_worth_11 (by decide) ?_
    obtain ⟨h5, r6, q7, hf⟩ := mm_c hf
    refine mj_callSi (As := [.int a1, .int (0 : Int32), .int (99 : Int32)]) (rest := []) X (kX7_isIn l D t1 t2 cI cT cS ad N h1 a1 (0 : Int32) (99 : Int32) h5 r6 q7) (va_cwS 3 X.2.2.2.2.1 gX7_worth_X7_isIn rfl rfl rfl (by decide +kernel) ⟨Nat.le_of_ble_eq_true rfl, Nat.le_of_ble_eq_true rfl⟩) rfl rfl (Nat.le_of_ble_eq_true rfl) ⟨Nat.zero_le _, Nat.zero_le _⟩ dX7_worth_13 ?_
    refine mj_if_ne (tgt := 22) X dX7_worth_16 (by decide) (fun c8 => ?_) (fun c8 => ?_)
    · have hf := mm_f c8 hf
      refine mj_aload_n X dX7_worth_22 0 rfl ?_
      refine mj_get X inwX7_worth_X7 (mx_at mx_oX7 h5) rfl 1 (by decide) rfl lnX7_worth_0 rfl dX7_worth_23 ?_
      refine mj_get X inwX7_worth_X2 (mx_at mx_oX2 h5) rfl 3 (by decide) rfl lnX7_worth_1 rfl dX7_worth_26 ?_
      refine mj_iload_n X dX7_worth_29 1 rfl ?_
      obtain ⟨g9, hf⟩ := mm_g hf
      refine mj_iald X 0 (mx_at mx_a10 h5) rfl g9 dX7_worth_30 ?_
      obtain ⟨x10, ex10, hf⟩ := mm_l hf
      refine mj_topi ex10 ?_
      refine mj_istore_n (lo' := [(3, .int x10), (0, .ref (ad 0)), (1, .int a0), (2, .int a1)]) X dX7_worth_31 (by decide) rfl ?_
      refine mj_aload_n X dX7_worth_32 1 rfl ?_
      refine mj_get X inwX7_worth_X7 (mx_at mx_oX7 h5) rfl 1 (by decide) rfl lnX7_worth_0 rfl dX7_worth_33 ?_
      refine mj_get X inwX7_worth_X2 (mx_at mx_oX2 h5) rfl 3 (by decide) rfl lnX7_worth_1 rfl dX7_worth_36 ?_
      refine mj_iload_n X dX7_worth_39 2 rfl ?_
      refine mj_iload_n X dX7_worth_40 3 rfl ?_
      obtain ⟨h11, eh11, hf⟩ := mm_l hf
      refine mj_iast X 0 (mx_at mx_a10 h5) rfl g9 (mx_ast mx_a10 eh11) dX7_worth_41 ?_
      refine mj_iload_n X dX7_worth_42 0 rfl ?_
      exact RET h11 _ _ _ dX7_worth_43 (Option.some.inj hf)
    · have hf := mm_t c8 hf
      refine mj_bipush (v := (-2 : Int32)) X dX7_worth_19 (by decide) ?_
      exact RET h5 _ _ _ dX7_worth_21 (Option.some.inj hf)
abbrev rmX7_isSheet : Room := { frames := 1, cells := 0, slots := 0, locals := 22 }
set_option maxHeartbeats 4000000 in
set_option maxRecDepth 100000 in
theorem kX7_isSheet (l : Launch) (D : va_G) (t1 t2 : Nat) (cI : ClassId) (cT : ClassId) (cS : ClassId) (ad : Nat → Nat)  (N : Nat) (h : mm_M) (a0 : Int32) (h1 : mm_M) (r : Int32) (hf : fX7_isSheet N h a0 = some (h1, r)) : mm_Ki l yX7_isSheet wsX7_isSheet rmX7_isSheet D (mx_ty cI cT cS) t1 t2 (mx_w cI cT cS ad) [.int a0] h r h1 := by
  refine mm_open_i [.int a0] h r h1 RX7 (by decide) rfl rfl (Nat.le_of_ble_eq_true rfl) ?_
  intro p e s m below meth c A X hr hlocks
  have RET : ∀ (h : mm_M) (pc : Nat) (lo : List (Nat × Value)) (v : Int32), decode cX7_isSheet pc = .ok (.ireturn, 1) → (v = 0 ∨ v = 1) → (h, v) = (h1, r) → mm_J p l e rmX7_isSheet s m ([.int a0] : List Value).toArray below meth c 0 0 (MQ below (va_Qi (fun (r' : Int32) (u : mm_M) => r' = r ∧ u = h1) (mm_Post D (mx_w cI cT cS ad) A) A) ([.int a0] : List Value).toArray s 0 0 A) D (mx_w cI cT cS ad) A 1 h pc lo [.int v] := by
    intro h2 pc lo v hd hz he
    cases he
    exact mj_iret X hr (mm_nz hz) hlocks hd
  generalize hout : (h1, r) = out at hf RET
  unfold fX7_isSheet at hf
  refine mj_lo (lo' := [(0, .int a0)]) rfl ?_
  refine mj_iload_n X dX7_isSheet_0 0 rfl ?_
  refine mj_iconst (v := (0 : Int32)) X dX7_isSheet_1 (by decide) ?_
  refine mj_iconst (v := (3 : Int32)) X dX7_isSheet_2 (by decide) ?_
  obtain ⟨h1, r2, q3, hf⟩ := mm_c hf
  refine mj_callSi (As := [.int a0, .int (0 : Int32), .int (3 : Int32)]) (rest := []) X (kX7_isIn l D t1 t2 cI cT cS ad N h a0 (0 : Int32) (3 : Int32) h1 r2 q3) (va_cwS 3 X.2.2.2.2.1 gX7_isSheet_X7_isIn rfl rfl rfl (by decide +kernel) ⟨Nat.le_of_ble_eq_true rfl, Nat.le_of_ble_eq_true rfl⟩) rfl rfl (Nat.le_of_ble_eq_true rfl) ⟨Nat.zero_le _, Nat.zero_le _⟩ dX7_isSheet_3 ?_
  obtain ⟨g4, hf⟩ := mm_g hf
  exact RET h1 _ _ _ dX7_isSheet_6 g4 (Option.some.inj hf)
abbrev rmX7_found : Room := { frames := 0, cells := 0, slots := 0, locals := 0 }
theorem inwX7_found_X7 : ∀ w ∈ wsX70, w ∈ wsX7_found := by
  intro w hw
  have h9 : wsX70 = (wsX7_found.drop 2).take 8 := rfl
  rw [h9] at hw
  exact List.mem_of_mem_drop (List.mem_of_mem_take hw)
theorem lnX7_found_0 : Cond.fieldLink RX7 64 "RichestPays" "latestFinding" "I" ∈ wsX7_found := List.mem_of_getElem? (i := 1) rfl
set_option maxHeartbeats 4000000 in
set_option maxRecDepth 100000 in
theorem kX7_found (l : Launch) (D : va_G) (t1 t2 : Nat) (cI : ClassId) (cT : ClassId) (cS : ClassId) (ad : Nat → Nat)  (N : Nat) (h : mm_M) (a0 : Int32) (h1 : mm_M) (r : Int32) (hf : fX7_found N h a0 = some (h1, r)) : mm_Ki l yX7_found wsX7_found rmX7_found D (mx_ty cI cT cS) t1 t2 (mx_w cI cT cS ad) [.ref (ad 0), .int a0] h r h1 := by
  refine mm_open_i [.ref (ad 0), .int a0] h r h1 RX7 (by decide) rfl rfl (Nat.le_of_ble_eq_true rfl) ?_
  intro p e s m below meth c A X hr hlocks
  have RET : ∀ (h : mm_M) (pc : Nat) (lo : List (Nat × Value)) (v : Int32), decode cX7_found pc = .ok (.ireturn, 1) → (h, v) = (h1, r) → mm_J p l e rmX7_found s m ([.ref (ad 0), .int a0] : List Value).toArray below meth c 0 0 (MQ below (va_Qi (fun (r' : Int32) (u : mm_M) => r' = r ∧ u = h1) (mm_Post D (mx_w cI cT cS ad) A) A) ([.ref (ad 0), .int a0] : List Value).toArray s 0 0 A) D (mx_w cI cT cS ad) A 2 h pc lo [.int v] := by
    intro h2 pc lo v hd he
    cases he
    exact mj_iret X hr rfl hlocks hd
  generalize hout : (h1, r) = out at hf RET
  unfold fX7_found at hf
  refine mj_lo (lo' := [(0, .ref (ad 0)), (1, .int a0)]) rfl ?_
  refine mj_aload_n X dX7_found_0 0 rfl ?_
  refine mj_iload_n X dX7_found_1 1 rfl ?_
  obtain ⟨h1, eh1, hf⟩ := mm_l hf
  refine mj_put X tyX7_ok nmX7 inwX7_found_X7 (mx_at mx_oX7 h) rfl 7 (by decide) rfl lnX7_found_0 rfl (tyX7_ok 7 (by decide)) rfl rfl (Nat.le_of_ble_eq_true rfl) (mx_put mx_oX7 eh1 (by simp [mm_up_at, upd])) dX7_found_2 ?_
  refine mj_bipush (v := (-10 : Int32)) X dX7_found_5 (by decide) ?_
  refine mj_iload_n X dX7_found_7 1 rfl ?_
  refine mj_isub X dX7_found_8 ?_
  exact RET h1 _ _ _ dX7_found_9 (Option.some.inj hf)
abbrev rmX7_read : Room := { frames := 2, cells := 0, slots := 0, locals := 42 }
theorem inwX7_read_X7 : ∀ w ∈ wsX70, w ∈ wsX7_read := by
  intro w hw
  have h9 : wsX70 = (wsX7_read.drop 23).take 8 := rfl
  rw [h9] at hw
  exact List.mem_of_mem_drop (List.mem_of_mem_take hw)
theorem lnX7_read_0 : Cond.fieldLink RX7 59 "RichestPays" "sheets" "[LRichestPays$Sheet;" ∈ wsX7_read := List.mem_of_getElem? (i := 1) rfl
theorem inwX7_read_X5 : ∀ w ∈ wsX50, w ∈ wsX7_read := by
  intro w hw
  have h9 : wsX50 = (wsX7_read.drop 31).take 4 := rfl
  rw [h9] at hw
  exact List.mem_of_mem_drop (List.mem_of_mem_take hw)
theorem lnX7_read_1 : Cond.fieldLink RX7 119 "RichestPays$Sheet" "isLost" "Z" ∈ wsX7_read := List.mem_of_getElem? (i := 2) rfl
theorem lnX7_read_2 : Cond.fieldLink RX7 127 "RichestPays$Sheet" "size" "I" ∈ wsX7_read := List.mem_of_getElem? (i := 3) rfl
theorem lnX7_read_3 : Cond.methodLink RX7 130 Lib.Math.min.name ∈ wsX7_read := List.mem_of_getElem? (i := 4) rfl
theorem lnX7_read_4 : Cond.static Lib.Math.min.name ∈ wsX7_read := List.mem_of_getElem? (i := 5) rfl
theorem lnX7_read_5 : Cond.initialized "java/lang/Math" ∈ wsX7_read := List.mem_of_getElem? (i := 6) rfl
theorem lnX7_read_6 : Cond.code Lib.Math.min.name Lib.Math.min.code 2 (some .int) ∈ wsX7_read := List.mem_of_getElem? (i := 7) rfl
theorem lnX7_read_7 : Cond.fieldLink RX7 135 "RichestPays$Sheet" "items" "[I" ∈ wsX7_read := List.mem_of_getElem? (i := 8) rfl
theorem lnX7_read_8 : Cond.fieldLink RX7 21 "RichestPays" "people" "LRichestPays$People;" ∈ wsX7_read := List.mem_of_getElem? (i := 9) rfl
theorem inwX7_read_X2 : ∀ w ∈ wsX20, w ∈ wsX7_read := by
  intro w hw
  have h9 : wsX20 = (wsX7_read.drop 35).take 9 := rfl
  rw [h9] at hw
  exact List.mem_of_mem_drop (List.mem_of_mem_take hw)
theorem lnX7_read_9 : Cond.fieldLink RX7 110 "RichestPays$People" "atHome" "[I" ∈ wsX7_read := List.mem_of_getElem? (i := 10) rfl
set_option maxHeartbeats 4000000 in
set_option maxRecDepth 100000 in
theorem wX7_read_L45 (X : mm_X p s m args c cX7_read RX7 wsX7_read 5 D (mx_ty cI cT cS) t1 t2 A) (out : mm_M × Int32) (RET : ∀ (h : mm_M) (pc : Nat) (lo : List (Nat × Value)) (v : Int32), decode cX7_read pc = .ok (.ireturn, 1) → (h, v) = out → mm_J p l e rmX7_read s m args below meth c 0 0 Q D (mx_w cI cT cS ad) A 5 h pc lo [.int v]) (N : Nat)  (p1 : Int32) (p2 : Int32) (k : mm_M → Option (mm_M × Int32)) (HK : ∀ (h : mm_M), k h = some out → mm_J p l e rmX7_read s m args below meth c 0 0 Q D (mx_w cI cT cS ad) A 5 h 93 [(2, .int p2)] []) : ∀ (n : Nat) (h : mm_M) (m3 : Int32), fX7_read_L45 N p1 p2 k n h m3 = some out → mm_J p l e rmX7_read s m args below meth c 0 0 Q D (mx_w cI cT cS ad) A 5 h 45 [(0, .ref (ad 0)), (1, .int p1), (2, .int p2), (3, .int m3)] [] := by
  intro n
  induction n with
  | zero =>
    intro h m3 hf
    cases hf
  | succ n ih =>
    intro h m3 hf
    rw [fX7_read_L45] at hf
    refine mj_iload_n X dX7_read_45 3 rfl ?_
    refine mj_iload_n X dX7_read_46 2 rfl ?_
    refine mj_icmp_ge (tgt := 93) X dX7_read_47 (by decide) (fun c8 => ?_) (fun c8 => ?_)
    · have hf := mm_t c8 hf
      exact mj_sub [2] rfl (HK h hf)
    · have hf := mm_f c8 hf
      refine mj_aload_n X dX7_read_50 0 rfl ?_
      refine mj_get X inwX7_read_X7 (mx_at mx_oX7 h) rfl 6 (by decide) rfl lnX7_read_0 rfl dX7_read_51 ?_
      refine mj_iload_n X dX7_read_54 1 rfl ?_
      obtain ⟨g9, hf⟩ := mm_g hf
      refine mj_aald (b := ad (34 + p1.toNatClampNeg)) X 2 (mx_at mx_q33 h) rfl g9 dX7_read_55 (if_pos (mm_gd_lt g9)) ?_
      refine mj_get X inwX7_read_X5 (mx_at (mx_oX5 (mx_gX5 g9)) h) rfl 0 (by decide) rfl lnX7_read_7 rfl dX7_read_56 ?_
      refine mj_iload_n X dX7_read_59 3 rfl ?_
      obtain ⟨g10, hf⟩ := mm_g hf
      refine mj_iald X 0 (mx_at (mx_bX5 (mx_gX5 g9)) h) rfl g10 dX7_read_60 ?_
      obtain ⟨x11, ex11, hf⟩ := mm_l hf
      refine mj_topi ex11 ?_
      refine mj_istore (lo' := [(4, .int x11), (0, .ref (ad 0)), (1, .int p1), (2, .int p2), (3, .int m3)]) X dX7_read_61 (by decide) rfl ?_
      refine mj_iload X dX7_read_63 0 rfl ?_
      refine mj_iconst (v := (0 : Int32)) X dX7_read_65 (by decide) ?_
      refine mj_bipush (v := (99 : Int32)) X dX7_read_66 (by decide) ?_
      obtain ⟨h12, r13, q14, hf⟩ := mm_c hf
      refine mj_callSi (As := [.int x11, .int (0 : Int32), .int (99 : Int32)]) (rest := []) X (kX7_isIn l D t1 t2 cI cT cS ad N h x11 (0 : Int32) (99 : Int32) h12 r13 q14) (va_cwS 3 X.2.2.2.2.1 gX7_read_X7_isIn rfl rfl rfl (by decide +kernel) ⟨Nat.le_of_ble_eq_true rfl, Nat.le_of_ble_eq_true rfl⟩) rfl rfl (Nat.le_of_ble_eq_true rfl) ⟨Nat.zero_le _, Nat.zero_le _⟩ dX7_read_68 ?_
      refine mj_if_ne (tgt := 76) X dX7_read_71 (by decide) (fun c15 => ?_) (fun c15 => ?_)
      · have hf := mm_f c15 hf
        refine mj_aload_n X dX7_read_76 1 rfl ?_
        refine mj_get X inwX7_read_X7 (mx_at mx_oX7 h12) rfl 1 (by decide) rfl lnX7_read_8 rfl dX7_read_77 ?_
        refine mj_get X inwX7_read_X2 (mx_at mx_oX2 h12) rfl 2 (by decide) rfl lnX7_read_9 rfl dX7_read_80 ?_
        refine mj_iload_n X dX7_read_83 4 rfl ?_
        refine mj_iload X dX7_read_84 0 rfl ?_
        obtain ⟨g16, hf⟩ := mm_g hf
        obtain ⟨h17, eh17, hf⟩ := mm_l hf
        refine mj_iast X 0 (mx_at mx_a9 h12) rfl g16 (mx_ast mx_a9 eh17) dX7_read_86 ?_
        refine mj_iinc (k := 4) (v := (m3 + 1)) (lo' := [(3, .int (m3 + 1)), (4, .int x11), (0, .ref (ad 0)), (1, .int p1), (2, .int p2)]) X dX7_read_87 rfl rfl (by decide) rfl ?_
        refine mj_goto (tgt := 45) X dX7_read_90 (by decide) ?_
        exact mj_sub [2, 3, 4, 0] rfl (ih h17 (m3 + 1) hf)
      · have hf := mm_t c15 hf
        refine mj_iload_n X dX7_read_74 4 rfl ?_
        exact RET h12 _ _ _ dX7_read_75 (Option.some.inj hf)
set_option maxHeartbeats 4000000 in
set_option maxRecDepth 100000 in
theorem kX7_read (l : Launch) (D : va_G) (t1 t2 : Nat) (cI : ClassId) (cT : ClassId) (cS : ClassId) (ad : Nat → Nat)  (N : Nat) (h : mm_M) (a0 : Int32) (h1 : mm_M) (r : Int32) (hf : fX7_read N h a0 = some (h1, r)) : mm_Ki l yX7_read wsX7_read rmX7_read D (mx_ty cI cT cS) t1 t2 (mx_w cI cT cS ad) [.ref (ad 0), .int a0] h r h1 := by
  refine mm_open_i [.ref (ad 0), .int a0] h r h1 RX7 (by decide) rfl rfl (Nat.le_of_ble_eq_true rfl) ?_
  intro p e s m below meth c A X hr hlocks
  have RET : ∀ (h : mm_M) (pc : Nat) (lo : List (Nat × Value)) (v : Int32), decode cX7_read pc = .ok (.ireturn, 1) → (h, v) = (h1, r) → mm_J p l e rmX7_read s m ([.ref (ad 0), .int a0] : List Value).toArray below meth c 0 0 (MQ below (va_Qi (fun (r' : Int32) (u : mm_M) => r' = r ∧ u = h1) (mm_Post D (mx_w cI cT cS ad) A) A) ([.ref (ad 0), .int a0] : List Value).toArray s 0 0 A) D (mx_w cI cT cS ad) A 5 h pc lo [.int v] := by
    intro h2 pc lo v hd he
    cases he
    exact mj_iret X hr rfl hlocks hd
  generalize hout : (h1, r) = out at hf RET
  unfold fX7_read at hf
  refine mj_lo (lo' := [(0, .ref (ad 0)), (1, .int a0)]) rfl ?_
  refine mj_iload_n X dX7_read_0 1 rfl ?_
  obtain ⟨h1, r2, q3, hf⟩ := mm_c hf
  refine mj_callSi (As := [.int a0]) (rest := []) X (kX7_isSheet l D t1 t2 cI cT cS ad N h a0 h1 r2 q3) (va_cwS 1 X.2.2.2.2.1 gX7_read_X7_isSheet rfl rfl rfl (by decide +kernel) ⟨Nat.le_of_ble_eq_true rfl, Nat.le_of_ble_eq_true rfl⟩) rfl rfl (Nat.le_of_ble_eq_true rfl) ⟨Nat.zero_le _, Nat.zero_le _⟩ dX7_read_1 ?_
  refine mj_if_ne (tgt := 10) X dX7_read_4 (by decide) (fun c4 => ?_) (fun c4 => ?_)
  · have hf := mm_f c4 hf
    refine mj_aload_n X dX7_read_10 0 rfl ?_
    refine mj_get X inwX7_read_X7 (mx_at mx_oX7 h1) rfl 6 (by decide) rfl lnX7_read_0 rfl dX7_read_11 ?_
    refine mj_iload_n X dX7_read_14 1 rfl ?_
    obtain ⟨g5, hf⟩ := mm_g hf
    refine mj_aald (b := ad (34 + a0.toNatClampNeg)) X 2 (mx_at mx_q33 h1) rfl g5 dX7_read_15 (if_pos (mm_gd_lt g5)) ?_
    refine mj_get X inwX7_read_X5 (mx_at (mx_oX5 (mx_gX5 g5)) h1) rfl 3 (by decide) rfl lnX7_read_1 rfl dX7_read_16 ?_
    refine mj_if_eq (tgt := 28) X dX7_read_19 (by decide) (fun c6 => ?_) (fun c6 => ?_)
    · have hf := mm_t c6 hf
      refine mj_aload_n X dX7_read_28 0 rfl ?_
      refine mj_get X inwX7_read_X7 (mx_at mx_oX7 h1) rfl 6 (by decide) rfl lnX7_read_0 rfl dX7_read_29 ?_
      refine mj_iload_n X dX7_read_32 1 rfl ?_
      refine mj_aald (b := ad (34 + a0.toNatClampNeg)) X 2 (mx_at mx_q33 h1) rfl g5 dX7_read_33 (if_pos (mm_gd_lt g5)) ?_
      refine mj_get X inwX7_read_X5 (mx_at (mx_oX5 (mx_gX5 g5)) h1) rfl 2 (by decide) rfl lnX7_read_2 rfl dX7_read_34 ?_
      refine mj_bipush (v := (6 : Int32)) X dX7_read_37 (by decide) ?_
      refine mj_min X lnX7_read_3 lnX7_read_4 lnX7_read_5 lnX7_read_6 (Nat.le_of_ble_eq_true rfl) (Nat.le_of_ble_eq_true rfl) ⟨Nat.zero_le _, Nat.zero_le _⟩ dX7_read_39 ?_
      obtain ⟨x7, ex7, hf⟩ := mm_l hf
      refine mj_topi ex7 ?_
      refine mj_istore_n (lo' := [(2, .int x7), (0, .ref (ad 0)), (1, .int a0)]) X dX7_read_42 (by decide) rfl ?_
      refine mj_iconst (v := (0 : Int32)) X dX7_read_43 (by decide) ?_
      refine mj_istore_n (lo' := [(3, .int (0 : Int32)), (2, .int x7), (0, .ref (ad 0)), (1, .int a0)]) X dX7_read_44 (by decide) rfl ?_
      refine mj_sub [2, 3, 1, 0] rfl (wX7_read_L45 X out RET N a0 x7 _ (fun h18 hf => ?_) N h1 (0 : Int32) hf)
      refine mj_iload_n X dX7_read_93 0 rfl ?_
      exact RET h18 _ _ _ dX7_read_94 (Option.some.inj hf)
    · have hf := mm_f c6 hf
      refine mj_aload_n X dX7_read_22 0 rfl ?_
      refine mj_iconst (v := (1 : Int32)) X dX7_read_23 (by decide) ?_
      obtain ⟨h19, r20, q21, hf⟩ := mm_c hf
      refine mj_callVi (As := [.int (1 : Int32)]) (rest := []) X (kX7_found l D t1 t2 cI cT cS ad N h1 (1 : Int32) h19 r20 q21) (cwV 1 X.2.2.2.2.1 gX7_read_X7_found rfl rfl rfl (by decide +kernel) ⟨Nat.le_of_ble_eq_true rfl, Nat.le_of_ble_eq_true rfl⟩) (mx_at mx_oX7 h1) rfl rfl rfl rfl (Nat.le_of_ble_eq_true rfl) ⟨Nat.zero_le _, Nat.zero_le _⟩ dX7_read_24 ?_
      exact RET h19 _ _ _ dX7_read_27 (Option.some.inj hf)
  · have hf := mm_t c4 hf
    refine mj_bipush (v := (-2 : Int32)) X dX7_read_7 (by decide) ?_
    exact RET h1 _ _ _ dX7_read_9 (Option.some.inj hf)
abbrev rmX7_set : Room := { frames := 1, cells := 0, slots := 0, locals := 22 }
theorem inwX7_set_X7 : ∀ w ∈ wsX70, w ∈ wsX7_set := by
  intro w hw
  have h9 : wsX70 = (wsX7_set.drop 8).take 8 := rfl
  rw [h9] at hw
  exact List.mem_of_mem_drop (List.mem_of_mem_take hw)
theorem lnX7_set_0 : Cond.fieldLink RX7 21 "RichestPays" "people" "LRichestPays$People;" ∈ wsX7_set := List.mem_of_getElem? (i := 1) rfl
theorem inwX7_set_X2 : ∀ w ∈ wsX20, w ∈ wsX7_set := by
  intro w hw
  have h9 : wsX20 = (wsX7_set.drop 16).take 9 := rfl
  rw [h9] at hw
  exact List.mem_of_mem_drop (List.mem_of_mem_take hw)
theorem lnX7_set_1 : Cond.fieldLink RX7 141 "RichestPays$People" "ties" "I" ∈ wsX7_set := List.mem_of_getElem? (i := 3) rfl
theorem lnX7_set_2 : Cond.fieldLink RX7 138 "RichestPays$People" "law" "I" ∈ wsX7_set := List.mem_of_getElem? (i := 2) rfl
set_option maxHeartbeats 4000000 in
set_option maxRecDepth 100000 in
theorem kX7_set (l : Launch) (D : va_G) (t1 t2 : Nat) (cI : ClassId) (cT : ClassId) (cS : ClassId) (ad : Nat → Nat)  (N : Nat) (h : mm_M) (a0 : Int32) (a1 : Int32) (h1 : mm_M) (r : Int32) (hf : fX7_set N h a0 a1 = some (h1, r)) : mm_Ki l yX7_set wsX7_set rmX7_set D (mx_ty cI cT cS) t1 t2 (mx_w cI cT cS ad) [.ref (ad 0), .int a0, .int a1] h r h1 := by
  refine mm_open_i [.ref (ad 0), .int a0, .int a1] h r h1 RX7 (by decide) rfl rfl (Nat.le_of_ble_eq_true rfl) ?_
  intro p e s m below meth c A X hr hlocks
  have RET : ∀ (h : mm_M) (pc : Nat) (lo : List (Nat × Value)) (v : Int32), decode cX7_set pc = .ok (.ireturn, 1) → (h, v) = (h1, r) → mm_J p l e rmX7_set s m ([.ref (ad 0), .int a0, .int a1] : List Value).toArray below meth c 0 0 (MQ below (va_Qi (fun (r' : Int32) (u : mm_M) => r' = r ∧ u = h1) (mm_Post D (mx_w cI cT cS ad) A) A) ([.ref (ad 0), .int a0, .int a1] : List Value).toArray s 0 0 A) D (mx_w cI cT cS ad) A 4 h pc lo [.int v] := by
    intro h2 pc lo v hd he
    cases he
    exact mj_iret X hr rfl hlocks hd
  generalize hout : (h1, r) = out at hf RET
  unfold fX7_set at hf
  refine mj_lo (lo' := [(0, .ref (ad 0)), (1, .int a0), (2, .int a1)]) rfl ?_
  refine mj_iload_n X dX7_set_0 1 rfl ?_
  refine mj_iconst (v := (0 : Int32)) X dX7_set_1 (by decide) ?_
  refine mj_iconst (v := (1 : Int32)) X dX7_set_2 (by decide) ?_
  obtain ⟨h1, r2, q3, hf⟩ := mm_c hf
  refine mj_callSi (As := [.int a0, .int (0 : Int32), .int (1 : Int32)]) (rest := []) X (kX7_isIn l D t1 t2 cI cT cS ad N h a0 (0 : Int32) (1 : Int32) h1 r2 q3) (va_cwS 3 X.2.2.2.2.1 gX7_set_X7_isIn rfl rfl rfl (by decide +kernel) ⟨Nat.le_of_ble_eq_true rfl, Nat.le_of_ble_eq_true rfl⟩) rfl rfl (Nat.le_of_ble_eq_true rfl) ⟨Nat.zero_le _, Nat.zero_le _⟩ dX7_set_3 ?_
  refine mj_if_eq (tgt := 26) X dX7_set_6 (by decide) (fun c4 => ?_) (fun c4 => ?_)
  · have hf := mm_t c4 hf
    refine mj_bipush (v := (-2 : Int32)) X dX7_set_26 (by decide) ?_
    exact RET h1 _ _ _ dX7_set_28 (Option.some.inj hf)
  · have hf := mm_f c4 hf
    refine mj_iload_n X dX7_set_9 2 rfl ?_
    refine mj_iconst (v := (0 : Int32)) X dX7_set_10 (by decide) ?_
    refine mj_iload_n X dX7_set_11 1 rfl ?_
    refine mj_if_ne (tgt := 19) X dX7_set_12 (by decide) (fun c5 => ?_) (fun c5 => ?_)
    · have hf := mm_f c5 hf
      refine mj_iconst (v := (1 : Int32)) X dX7_set_19 (by decide) ?_
      obtain ⟨h6, r7, q8, hf⟩ := mm_c hf
      refine mj_callSi (As := [.int a1, .int (0 : Int32), .int (1 : Int32)]) (rest := []) X (kX7_isIn l D t1 t2 cI cT cS ad N h1 a1 (0 : Int32) (1 : Int32) h6 r7 q8) (va_cwS 3 X.2.2.2.2.1 gX7_set_X7_isIn rfl rfl rfl (by decide +kernel) ⟨Nat.le_of_ble_eq_true rfl, Nat.le_of_ble_eq_true rfl⟩) rfl rfl (Nat.le_of_ble_eq_true rfl) ⟨Nat.zero_le _, Nat.zero_le _⟩ dX7_set_20 ?_
      refine mj_if_ne (tgt := 29) X dX7_set_23 (by decide) (fun c9 => ?_) (fun c9 => ?_)
      · have hf := mm_f c9 hf
        refine mj_iload_n X dX7_set_29 1 rfl ?_
        refine mj_if_ne (tgt := 43) X dX7_set_30 (by decide) (fun _ => ?_) (fun c10 => absurd c10 c5)
        refine mj_aload_n X dX7_set_43 0 rfl ?_
        refine mj_get X inwX7_set_X7 (mx_at mx_oX7 h6) rfl 1 (by decide) rfl lnX7_set_0 rfl dX7_set_44 ?_
        refine mj_get X inwX7_set_X2 (mx_at mx_oX2 h6) rfl 8 (by decide) rfl lnX7_set_1 rfl dX7_set_47 ?_
        refine mj_istore_n (lo' := [(3, .int (h6 6 8)), (0, .ref (ad 0)), (1, .int a0), (2, .int a1)]) X dX7_set_50 (by decide) rfl ?_
        refine mj_iload_n X dX7_set_51 2 rfl ?_
        refine mj_if_ne (tgt := 66) X dX7_set_52 (by decide) (fun _ => ?_) (fun c11 => absurd c11 c5)
        refine mj_aload_n X dX7_set_66 1 rfl ?_
        refine mj_get X inwX7_set_X7 (mx_at mx_oX7 h6) rfl 1 (by decide) rfl lnX7_set_0 rfl dX7_set_67 ?_
        refine mj_iload_n X dX7_set_70 3 rfl ?_
        obtain ⟨h12, eh12, hf⟩ := mm_l hf
        refine mj_put X tyX2_ok nmX2 inwX7_set_X2 (mx_at mx_oX2 h6) rfl 8 (by decide) rfl lnX7_set_1 rfl (tyX2_ok 8 (by decide)) rfl rfl (Nat.le_of_ble_eq_true rfl) (mx_put mx_oX2 eh12 (by simp [mm_up_at, upd])) dX7_set_71 ?_
        refine mj_iload_n X dX7_set_74 0 rfl ?_
        exact RET h12 _ _ _ dX7_set_75 (Option.some.inj hf)
      · have hf := mm_t c9 hf
        refine mj_bipush (v := (-2 : Int32)) X dX7_set_26 (by decide) ?_
        exact RET h6 _ _ _ dX7_set_28 (Option.some.inj hf)
    · have hf := mm_t c5 hf
      refine mj_iconst (v := (2 : Int32)) X dX7_set_15 (by decide) ?_
      refine mj_goto (tgt := 20) X dX7_set_16 (by decide) ?_
      obtain ⟨h13, r14, q15, hf⟩ := mm_c hf
      refine mj_callSi (As := [.int a1, .int (0 : Int32), .int (2 : Int32)]) (rest := []) X (kX7_isIn l D t1 t2 cI cT cS ad N h1 a1 (0 : Int32) (2 : Int32) h13 r14 q15) (va_cwS 3 X.2.2.2.2.1 gX7_set_X7_isIn rfl rfl rfl (by decide +kernel) ⟨Nat.le_of_ble_eq_true rfl, Nat.le_of_ble_eq_true rfl⟩) rfl rfl (Nat.le_of_ble_eq_true rfl) ⟨Nat.zero_le _, Nat.zero_le _⟩ dX7_set_20 ?_
      refine mj_if_ne (tgt := 29) X dX7_set_23 (by decide) (fun c16 => ?_) (fun c16 => ?_)
      · have hf := mm_f c16 hf
        refine mj_iload_n X dX7_set_29 1 rfl ?_
        refine mj_if_ne (tgt := 43) X dX7_set_30 (by decide) (fun c17 => absurd c5 c17) (fun _ => ?_)
        refine mj_aload_n X dX7_set_33 0 rfl ?_
        refine mj_get X inwX7_set_X7 (mx_at mx_oX7 h13) rfl 1 (by decide) rfl lnX7_set_0 rfl dX7_set_34 ?_
        refine mj_get X inwX7_set_X2 (mx_at mx_oX2 h13) rfl 7 (by decide) rfl lnX7_set_2 rfl dX7_set_37 ?_
        refine mj_goto (tgt := 50) X dX7_set_40 (by decide) ?_
        refine mj_istore_n (lo' := [(3, .int (h13 6 7)), (0, .ref (ad 0)), (1, .int a0), (2, .int a1)]) X dX7_set_50 (by decide) rfl ?_
        refine mj_iload_n X dX7_set_51 2 rfl ?_
        refine mj_if_ne (tgt := 66) X dX7_set_52 (by decide) (fun c18 => absurd c5 c18) (fun _ => ?_)
        refine mj_aload_n X dX7_set_55 1 rfl ?_
        refine mj_get X inwX7_set_X7 (mx_at mx_oX7 h13) rfl 1 (by decide) rfl lnX7_set_0 rfl dX7_set_56 ?_
        refine mj_iload_n X dX7_set_59 3 rfl ?_
        obtain ⟨h19, eh19, hf⟩ := mm_l hf
        refine mj_put X tyX2_ok nmX2 inwX7_set_X2 (mx_at mx_oX2 h13) rfl 7 (by decide) rfl lnX7_set_2 rfl (tyX2_ok 7 (by decide)) rfl rfl (Nat.le_of_ble_eq_true rfl) (mx_put mx_oX2 eh19 (by simp [mm_up_at, upd])) dX7_set_60 ?_
        refine mj_goto (tgt := 74) X dX7_set_63 (by decide) ?_
        refine mj_iload_n X dX7_set_74 0 rfl ?_
        exact RET h19 _ _ _ dX7_set_75 (Option.some.inj hf)
      · have hf := mm_t c16 hf
        refine mj_bipush (v := (-2 : Int32)) X dX7_set_26 (by decide) ?_
        exact RET h13 _ _ _ dX7_set_28 (Option.some.inj hf)
end
