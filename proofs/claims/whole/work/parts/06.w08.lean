section
variable {p : Program} {l : Launch} {e : Env} {s : State} {m : MethodId} {args : Array Value} {below : List Frame} {meth : Method} {c : Code} {Q : State → Prop} {D : va_G} {A : Nat → Prop} {t1 t2 : Nat} {cI cT cS cZ : ClassId} {ad : Nat → Nat}
abbrev rmX8_faultOf : Room := { frames := 2, cells := 0, slots := 0, locals := 46 }
set_option maxHeartbeats 4000000 in
set_option maxRecDepth 100000 in
theorem kX8_faultOf (l : Launch) (D : va_G) (t1 t2 : Nat) (cI : ClassId) (cZ : ClassId) (ad : Nat → Nat)  (N : Nat) (h : mm_M) (a0 : Int32) (h1 : mm_M) (r : Int32) (hf : fX8_faultOf N h a0 = some (h1, r)) : mm_Ki l yX8_faultOf wsX8_faultOf rmX8_faultOf D (my_ty cI cZ) t1 t2 (my_w cI cZ ad) [.ref (ad 0), .int a0] h r h1 := by
  refine mm_open_i [.ref (ad 0), .int a0] h r h1 RX8 (by decide) rfl rfl (Nat.le_of_ble_eq_true rfl) ?_
  intro p e s m below meth c A X hr hlocks
  have RET : ∀ (h : mm_M) (pc : Nat) (lo : List (Nat × Value)) (v : Int32), decode cX8_faultOf pc = .ok (.ireturn, 1) → (h, v) = (h1, r) → mm_J p l e rmX8_faultOf s m ([.ref (ad 0), .int a0] : List Value).toArray below meth c 0 0 (MQ below (va_Qi (fun (r' : Int32) (u : mm_M) => r' = r ∧ u = h1) (mm_Post D (my_w cI cZ ad) A) A) ([.ref (ad 0), .int a0] : List Value).toArray s 0 0 A) D (my_w cI cZ ad) A 4 h pc lo [.int v] := by
    intro h2 pc lo v hd he
    cases he
    exact mj_iret X hr rfl hlocks hd
  generalize hout : (h1, r) = out at hf RET
  unfold fX8_faultOf at hf
  refine mj_lo (lo' := [(0, .ref (ad 0)), (1, .int a0)]) rfl ?_
  refine mj_aload_n X dX8_faultOf_0 0 rfl ?_
  obtain ⟨h1, r2, q3, hf⟩ := mm_c hf
  refine mj_callVi (As := []) (rest := []) X (kX8_readsPeople l D t1 t2 cI cZ ad N h h1 r2 q3) (cwV 0 X.2.2.2.2.1 gX8_faultOf_X8_readsPeople rfl rfl rfl (by decide +kernel) ⟨Nat.le_of_ble_eq_true rfl, Nat.le_of_ble_eq_true rfl⟩) (my_at my_oX8 h) rfl rfl rfl rfl (Nat.le_of_ble_eq_true rfl) ⟨Nat.zero_le _, Nat.zero_le _⟩ dX8_faultOf_1 ?_
  refine mj_istore_n (lo' := [(2, .int r2), (0, .ref (ad 0)), (1, .int a0)]) X dX8_faultOf_4 (by decide) rfl ?_
  refine mj_aload_n X dX8_faultOf_5 1 rfl ?_
  obtain ⟨h4, r5, q6, hf⟩ := mm_c hf
  refine mj_callVi (As := []) (rest := []) X (kX8_readsRounds l D t1 t2 cI cZ ad N h1 h4 r5 q6) (cwV 0 X.2.2.2.2.1 gX8_faultOf_X8_readsRounds rfl rfl rfl (by decide +kernel) ⟨Nat.le_of_ble_eq_true rfl, Nat.le_of_ble_eq_true rfl⟩) (my_at my_oX8 h1) rfl rfl rfl rfl (Nat.le_of_ble_eq_true rfl) ⟨Nat.zero_le _, Nat.zero_le _⟩ dX8_faultOf_6 ?_
  refine mj_istore_n (lo' := [(3, .int r5), (2, .int r2), (0, .ref (ad 0)), (1, .int a0)]) X dX8_faultOf_9 (by decide) rfl ?_
  refine mj_iload_n X dX8_faultOf_10 3 rfl ?_
  refine mj_if_ne (tgt := 18) X dX8_faultOf_11 (by decide) (fun c7 => ?_) (fun c7 => ?_)
  · have hf := mm_f c7 hf
    refine mj_iload_n X dX8_faultOf_18 0 rfl ?_
    exact RET h4 _ _ _ dX8_faultOf_19 (Option.some.inj hf)
  · have hf := mm_t c7 hf
    refine mj_iload_n X dX8_faultOf_14 1 rfl ?_
    refine mj_goto (tgt := 19) X dX8_faultOf_15 (by decide) ?_
    exact RET h4 _ _ _ dX8_faultOf_19 (Option.some.inj hf)
abbrev rmX8_reads : Room := { frames := 3, cells := 0, slots := 0, locals := 69 }
set_option maxHeartbeats 4000000 in
set_option maxRecDepth 100000 in
theorem kX8_reads (l : Launch) (D : va_G) (t1 t2 : Nat) (cI : ClassId) (cZ : ClassId) (ad : Nat → Nat)  (N : Nat) (h : mm_M)  (h1 : mm_M) (r : Unit) (hf : fX8_reads N h = some (h1, r)) : mm_Kv l yX8_reads wsX8_reads rmX8_reads D (my_ty cI cZ) t1 t2 (my_w cI cZ ad) [.ref (ad 0)] h h1 := by
  refine mm_open_v [.ref (ad 0)] h h1 RX8 (by decide) rfl rfl (Nat.le_of_ble_eq_true rfl) ?_
  intro p e s m below meth c A X hr hlocks
  have RET : ∀ (h : mm_M) (pc : Nat) (lo : List (Nat × Value)) (v : Unit), decode cX8_reads pc = .ok (.return_, 1) → (h, v) = (h1, r) → mm_J p l e rmX8_reads s m ([.ref (ad 0)] : List Value).toArray below meth c 0 0 (MQ below (va_Qv (fun (u : mm_M) => u = h1) (mm_Post D (my_w cI cZ ad) A) A) ([.ref (ad 0)] : List Value).toArray s 0 0 A) D (my_w cI cZ ad) A 2 h pc lo [] := by
    intro h2 pc lo v hd he
    cases he
    exact mj_vret X hr hlocks hd
  generalize hout : (h1, r) = out at hf RET
  unfold fX8_reads at hf
  refine mj_lo (lo' := [(0, .ref (ad 0))]) rfl ?_
  refine mj_aload_n X dX8_reads_0 0 rfl ?_
  refine mj_iconst (v := (0 : Int32)) X dX8_reads_1 (by decide) ?_
  obtain ⟨h1, r2, q3, hf⟩ := mm_c hf
  refine mj_callVi (As := [.int (0 : Int32)]) (rest := []) X (kX8_faultOf l D t1 t2 cI cZ ad N h (0 : Int32) h1 r2 q3) (cwV 1 X.2.2.2.2.1 gX8_reads_X8_faultOf rfl rfl rfl (by decide +kernel) ⟨Nat.le_of_ble_eq_true rfl, Nat.le_of_ble_eq_true rfl⟩) (my_at my_oX8 h) rfl rfl rfl rfl (Nat.le_of_ble_eq_true rfl) ⟨Nat.zero_le _, Nat.zero_le _⟩ dX8_reads_2 ?_
  refine mj_istore_n (lo' := [(1, .int r2), (0, .ref (ad 0))]) X dX8_reads_5 (by decide) rfl ?_
  exact RET h1 _ _ _ dX8_reads_6 (Option.some.inj hf)
abbrev rmX8_fault : Room := { frames := 3, cells := 0, slots := 0, locals := 69 }
set_option maxHeartbeats 4000000 in
set_option maxRecDepth 100000 in
theorem kX8_fault (l : Launch) (D : va_G) (t1 t2 : Nat) (cI : ClassId) (cZ : ClassId) (ad : Nat → Nat)  (N : Nat) (h : mm_M) (a0 : Int32) (h1 : mm_M) (r : Int32) (hf : fX8_fault N h a0 = some (h1, r)) : mm_Ki l yX8_fault wsX8_fault rmX8_fault D (my_ty cI cZ) t1 t2 (my_w cI cZ ad) [.ref (ad 0), .int a0] h r h1 := by
  refine mm_open_i [.ref (ad 0), .int a0] h r h1 RX8 (by decide) rfl rfl (Nat.le_of_ble_eq_true rfl) ?_
  intro p e s m below meth c A X hr hlocks
  have RET : ∀ (h : mm_M) (pc : Nat) (lo : List (Nat × Value)) (v : Int32), decode cX8_fault pc = .ok (.ireturn, 1) → (h, v) = (h1, r) → mm_J p l e rmX8_fault s m ([.ref (ad 0), .int a0] : List Value).toArray below meth c 0 0 (MQ below (va_Qi (fun (r' : Int32) (u : mm_M) => r' = r ∧ u = h1) (mm_Post D (my_w cI cZ ad) A) A) ([.ref (ad 0), .int a0] : List Value).toArray s 0 0 A) D (my_w cI cZ ad) A 2 h pc lo [.int v] := by
    intro h2 pc lo v hd he
    cases he
    exact mj_iret X hr rfl hlocks hd
  generalize hout : (h1, r) = out at hf RET
  unfold fX8_fault at hf
  refine mj_lo (lo' := [(0, .ref (ad 0)), (1, .int a0)]) rfl ?_
  refine mj_iload_n X dX8_fault_0 1 rfl ?_
  refine mj_iconst (v := (0 : Int32)) X dX8_fault_1 (by decide) ?_
  refine mj_iconst (v := (1 : Int32)) X dX8_fault_2 (by decide) ?_
  obtain ⟨h1, r2, q3, hf⟩ := mm_c hf
  refine mj_callSi (As := [.int a0, .int (0 : Int32), .int (1 : Int32)]) (rest := []) X (kX8_in l D t1 t2 cI cZ ad N h a0 (0 : Int32) (1 : Int32) h1 r2 q3) (va_cwS 3 X.2.2.2.2.1 gX8_fault_X8_in rfl rfl rfl (by decide +kernel) ⟨Nat.le_of_ble_eq_true rfl, Nat.le_of_ble_eq_true rfl⟩) rfl rfl (Nat.le_of_ble_eq_true rfl) ⟨Nat.zero_le _, Nat.zero_le _⟩ dX8_fault_3 ?_
  refine mj_if_eq (tgt := 17) X dX8_fault_6 (by decide) (fun c4 => ?_) (fun c4 => ?_)
  · have hf := mm_t c4 hf
    refine mj_bipush (v := (-2 : Int32)) X dX8_fault_17 (by decide) ?_
    exact RET h1 _ _ _ dX8_fault_19 (Option.some.inj hf)
  · have hf := mm_f c4 hf
    refine mj_aload_n X dX8_fault_9 0 rfl ?_
    refine mj_iload_n X dX8_fault_10 1 rfl ?_
    obtain ⟨h5, r6, q7, hf⟩ := mm_c hf
    refine mj_callVi (As := [.int a0]) (rest := []) X (kX8_faultOf l D t1 t2 cI cZ ad N h1 a0 h5 r6 q7) (cwV 1 X.2.2.2.2.1 gX8_fault_X8_faultOf rfl rfl rfl (by decide +kernel) ⟨Nat.le_of_ble_eq_true rfl, Nat.le_of_ble_eq_true rfl⟩) (my_at my_oX8 h1) rfl rfl rfl rfl (Nat.le_of_ble_eq_true rfl) ⟨Nat.zero_le _, Nat.zero_le _⟩ dX8_fault_11 ?_
    refine mj_goto (tgt := 19) X dX8_fault_14 (by decide) ?_
    exact RET h5 _ _ _ dX8_fault_19 (Option.some.inj hf)
abbrev rmX8_isPerson : Room := { frames := 4, cells := 0, slots := 0, locals := 90 }
theorem inwX8_isPerson_X8 : ∀ w ∈ wsX80, w ∈ wsX8_isPerson := by
  intro w hw
  have h9 : wsX80 = (wsX8_isPerson.drop 32).take 29 := rfl
  rw [h9] at hw
  exact List.mem_of_mem_drop (List.mem_of_mem_take hw)
theorem lnX8_isPerson_0 : Cond.fieldLink RX8 89 "RichestPaysModel" "people" "I" ∈ wsX8_isPerson := List.mem_of_getElem? (i := 1) rfl
set_option maxHeartbeats 4000000 in
set_option maxRecDepth 100000 in
theorem kX8_isPerson (l : Launch) (D : va_G) (t1 t2 : Nat) (cI : ClassId) (cZ : ClassId) (ad : Nat → Nat)  (N : Nat) (h : mm_M) (a0 : Int32) (h1 : mm_M) (r : Int32) (hf : fX8_isPerson N h a0 = some (h1, r)) : mm_Ki l yX8_isPerson wsX8_isPerson rmX8_isPerson D (my_ty cI cZ) t1 t2 (my_w cI cZ ad) [.ref (ad 0), .int a0] h r h1 := by
  refine mm_open_i [.ref (ad 0), .int a0] h r h1 RX8 (by decide) rfl rfl (Nat.le_of_ble_eq_true rfl) ?_
  intro p e s m below meth c A X hr hlocks
  have RET : ∀ (h : mm_M) (pc : Nat) (lo : List (Nat × Value)) (v : Int32), decode cX8_isPerson pc = .ok (.ireturn, 1) → (v = 0 ∨ v = 1) → (h, v) = (h1, r) → mm_J p l e rmX8_isPerson s m ([.ref (ad 0), .int a0] : List Value).toArray below meth c 0 0 (MQ below (va_Qi (fun (r' : Int32) (u : mm_M) => r' = r ∧ u = h1) (mm_Post D (my_w cI cZ ad) A) A) ([.ref (ad 0), .int a0] : List Value).toArray s 0 0 A) D (my_w cI cZ ad) A 2 h pc lo [.int v] := by
    intro h2 pc lo v hd hz he
    cases he
    exact mj_iret X hr (mm_nz hz) hlocks hd
  generalize hout : (h1, r) = out at hf RET
  unfold fX8_isPerson at hf
  refine mj_lo (lo' := [(0, .ref (ad 0)), (1, .int a0)]) rfl ?_
  refine mj_aload_n X dX8_isPerson_0 0 rfl ?_
  obtain ⟨h1, r2, q3, hf⟩ := mm_c hf
  refine mj_callVv (As := []) (rest := []) X (kX8_reads l D t1 t2 cI cZ ad N h h1 r2 q3) (cwV 0 X.2.2.2.2.1 gX8_isPerson_X8_reads rfl rfl rfl (by decide +kernel) ⟨Nat.le_of_ble_eq_true rfl, Nat.le_of_ble_eq_true rfl⟩) (my_at my_oX8 h) rfl rfl rfl rfl (Nat.le_of_ble_eq_true rfl) ⟨Nat.zero_le _, Nat.zero_le _⟩ dX8_isPerson_1 ?_
  refine mj_iload_n X dX8_isPerson_4 1 rfl ?_
  refine mj_iconst (v := (0 : Int32)) X dX8_isPerson_5 (by decide) ?_
  refine mj_aload_n X dX8_isPerson_6 0 rfl ?_
  refine mj_get X inwX8_isPerson_X8 (my_at my_oX8 h1) rfl 2 (by decide) rfl lnX8_isPerson_0 rfl dX8_isPerson_7 ?_
  refine mj_iconst (v := (1 : Int32)) X dX8_isPerson_10 (by decide) ?_
  refine mj_isub X dX8_isPerson_11 ?_
  obtain ⟨h4, r5, q6, hf⟩ := mm_c hf
  refine mj_callSi (As := [.int a0, .int (0 : Int32), .int ((h1 0 2) - (1 : Int32))]) (rest := []) X (kX8_in l D t1 t2 cI cZ ad N h1 a0 (0 : Int32) (((h1 0 2) - (1 : Int32))) h4 r5 q6) (va_cwS 3 X.2.2.2.2.1 gX8_isPerson_X8_in rfl rfl rfl (by decide +kernel) ⟨Nat.le_of_ble_eq_true rfl, Nat.le_of_ble_eq_true rfl⟩) rfl rfl (Nat.le_of_ble_eq_true rfl) ⟨Nat.zero_le _, Nat.zero_le _⟩ dX8_isPerson_12 ?_
  obtain ⟨g7, hf⟩ := mm_g hf
  exact RET h4 _ _ _ dX8_isPerson_15 g7 (Option.some.inj hf)
abbrev rmX8_isRound : Room := { frames := 4, cells := 0, slots := 0, locals := 90 }
theorem inwX8_isRound_X8 : ∀ w ∈ wsX80, w ∈ wsX8_isRound := by
  intro w hw
  have h9 : wsX80 = (wsX8_isRound.drop 32).take 29 := rfl
  rw [h9] at hw
  exact List.mem_of_mem_drop (List.mem_of_mem_take hw)
theorem lnX8_isRound_0 : Cond.fieldLink RX8 97 "RichestPaysModel" "rounds" "I" ∈ wsX8_isRound := List.mem_of_getElem? (i := 1) rfl
set_option maxHeartbeats 4000000 in
set_option maxRecDepth 100000 in
theorem kX8_isRound (l : Launch) (D : va_G) (t1 t2 : Nat) (cI : ClassId) (cZ : ClassId) (ad : Nat → Nat)  (N : Nat) (h : mm_M) (a0 : Int32) (h1 : mm_M) (r : Int32) (hf : fX8_isRound N h a0 = some (h1, r)) : mm_Ki l yX8_isRound wsX8_isRound rmX8_isRound D (my_ty cI cZ) t1 t2 (my_w cI cZ ad) [.ref (ad 0), .int a0] h r h1 := by
  refine mm_open_i [.ref (ad 0), .int a0] h r h1 RX8 (by decide) rfl rfl (Nat.le_of_ble_eq_true rfl) ?_
  intro p e s m below meth c A X hr hlocks
  have RET : ∀ (h : mm_M) (pc : Nat) (lo : List (Nat × Value)) (v : Int32), decode cX8_isRound pc = .ok (.ireturn, 1) → (v = 0 ∨ v = 1) → (h, v) = (h1, r) → mm_J p l e rmX8_isRound s m ([.ref (ad 0), .int a0] : List Value).toArray below meth c 0 0 (MQ below (va_Qi (fun (r' : Int32) (u : mm_M) => r' = r ∧ u = h1) (mm_Post D (my_w cI cZ ad) A) A) ([.ref (ad 0), .int a0] : List Value).toArray s 0 0 A) D (my_w cI cZ ad) A 2 h pc lo [.int v] := by
    intro h2 pc lo v hd hz he
    cases he
    exact mj_iret X hr (mm_nz hz) hlocks hd
  generalize hout : (h1, r) = out at hf RET
  unfold fX8_isRound at hf
  refine mj_lo (lo' := [(0, .ref (ad 0)), (1, .int a0)]) rfl ?_
  refine mj_aload_n X dX8_isRound_0 0 rfl ?_
  obtain ⟨h1, r2, q3, hf⟩ := mm_c hf
  refine mj_callVv (As := []) (rest := []) X (kX8_reads l D t1 t2 cI cZ ad N h h1 r2 q3) (cwV 0 X.2.2.2.2.1 gX8_isRound_X8_reads rfl rfl rfl (by decide +kernel) ⟨Nat.le_of_ble_eq_true rfl, Nat.le_of_ble_eq_true rfl⟩) (my_at my_oX8 h) rfl rfl rfl rfl (Nat.le_of_ble_eq_true rfl) ⟨Nat.zero_le _, Nat.zero_le _⟩ dX8_isRound_1 ?_
  refine mj_iload_n X dX8_isRound_4 1 rfl ?_
  refine mj_iconst (v := (0 : Int32)) X dX8_isRound_5 (by decide) ?_
  refine mj_aload_n X dX8_isRound_6 0 rfl ?_
  refine mj_get X inwX8_isRound_X8 (my_at my_oX8 h1) rfl 5 (by decide) rfl lnX8_isRound_0 rfl dX8_isRound_7 ?_
  refine mj_iconst (v := (1 : Int32)) X dX8_isRound_10 (by decide) ?_
  refine mj_isub X dX8_isRound_11 ?_
  obtain ⟨h4, r5, q6, hf⟩ := mm_c hf
  refine mj_callSi (As := [.int a0, .int (0 : Int32), .int ((h1 0 5) - (1 : Int32))]) (rest := []) X (kX8_in l D t1 t2 cI cZ ad N h1 a0 (0 : Int32) (((h1 0 5) - (1 : Int32))) h4 r5 q6) (va_cwS 3 X.2.2.2.2.1 gX8_isRound_X8_in rfl rfl rfl (by decide +kernel) ⟨Nat.le_of_ble_eq_true rfl, Nat.le_of_ble_eq_true rfl⟩) rfl rfl (Nat.le_of_ble_eq_true rfl) ⟨Nat.zero_le _, Nat.zero_le _⟩ dX8_isRound_12 ?_
  obtain ⟨g7, hf⟩ := mm_g hf
  exact RET h4 _ _ _ dX8_isRound_15 g7 (Option.some.inj hf)
abbrev rmX8_isSix : Room := { frames := 1, cells := 0, slots := 0, locals := 22 }
set_option maxHeartbeats 4000000 in
set_option maxRecDepth 100000 in
theorem kX8_isSix (l : Launch) (D : va_G) (t1 t2 : Nat) (cI : ClassId) (cZ : ClassId) (ad : Nat → Nat)  (N : Nat) (h : mm_M) (a0 : Int32) (h1 : mm_M) (r : Int32) (hf : fX8_isSix N h a0 = some (h1, r)) : mm_Ki l yX8_isSix wsX8_isSix rmX8_isSix D (my_ty cI cZ) t1 t2 (my_w cI cZ ad) [.int a0] h r h1 := by
  refine mm_open_i [.int a0] h r h1 RX8 (by decide) rfl rfl (Nat.le_of_ble_eq_true rfl) ?_
  intro p e s m below meth c A X hr hlocks
  have RET : ∀ (h : mm_M) (pc : Nat) (lo : List (Nat × Value)) (v : Int32), decode cX8_isSix pc = .ok (.ireturn, 1) → (v = 0 ∨ v = 1) → (h, v) = (h1, r) → mm_J p l e rmX8_isSix s m ([.int a0] : List Value).toArray below meth c 0 0 (MQ below (va_Qi (fun (r' : Int32) (u : mm_M) => r' = r ∧ u = h1) (mm_Post D (my_w cI cZ ad) A) A) ([.int a0] : List Value).toArray s 0 0 A) D (my_w cI cZ ad) A 1 h pc lo [.int v] := by
    intro h2 pc lo v hd hz he
    cases he
    exact mj_iret X hr (mm_nz hz) hlocks hd
  generalize hout : (h1, r) = out at hf RET
  unfold fX8_isSix at hf
  refine mj_lo (lo' := [(0, .int a0)]) rfl ?_
  refine mj_iload_n X dX8_isSix_0 0 rfl ?_
  refine mj_iconst (v := (0 : Int32)) X dX8_isSix_1 (by decide) ?_
  refine mj_iconst (v := (5 : Int32)) X dX8_isSix_2 (by decide) ?_
  obtain ⟨h1, r2, q3, hf⟩ := mm_c hf
  refine mj_callSi (As := [.int a0, .int (0 : Int32), .int (5 : Int32)]) (rest := []) X (kX8_in l D t1 t2 cI cZ ad N h a0 (0 : Int32) (5 : Int32) h1 r2 q3) (va_cwS 3 X.2.2.2.2.1 gX8_isSix_X8_in rfl rfl rfl (by decide +kernel) ⟨Nat.le_of_ble_eq_true rfl, Nat.le_of_ble_eq_true rfl⟩) rfl rfl (Nat.le_of_ble_eq_true rfl) ⟨Nat.zero_le _, Nat.zero_le _⟩ dX8_isSix_3 ?_
  obtain ⟨g4, hf⟩ := mm_g hf
  exact RET h1 _ _ _ dX8_isSix_6 g4 (Option.some.inj hf)
abbrev rmX8_person : Room := { frames := 5, cells := 0, slots := 0, locals := 111 }
theorem inwX8_person_X8 : ∀ w ∈ wsX80, w ∈ wsX8_person := by
  intro w hw
  have h9 : wsX80 = (wsX8_person.drop 36).take 29 := rfl
  rw [h9] at hw
  exact List.mem_of_mem_drop (List.mem_of_mem_take hw)
theorem lnX8_person_0 : Cond.fieldLink RX8 19 "RichestPaysModel" "appetites" "[I" ∈ wsX8_person := List.mem_of_getElem? (i := 2) rfl
theorem lnX8_person_1 : Cond.fieldLink RX8 16 "RichestPaysModel" "purses" "[I" ∈ wsX8_person := List.mem_of_getElem? (i := 1) rfl
set_option maxHeartbeats 4000000 in
set_option maxRecDepth 100000 in
theorem kX8_person (l : Launch) (D : va_G) (t1 t2 : Nat) (cI : ClassId) (cZ : ClassId) (ad : Nat → Nat)  (N : Nat) (h : mm_M) (a0 : Int32) (a1 : Int32) (h1 : mm_M) (r : Int32) (hf : fX8_person N h a0 a1 = some (h1, r)) : mm_Ki l yX8_person wsX8_person rmX8_person D (my_ty cI cZ) t1 t2 (my_w cI cZ ad) [.ref (ad 0), .int a0, .int a1] h r h1 := by
  refine mm_open_i [.ref (ad 0), .int a0, .int a1] h r h1 RX8 (by decide) rfl rfl (Nat.le_of_ble_eq_true rfl) ?_
  intro p e s m below meth c A X hr hlocks
  have RET : ∀ (h : mm_M) (pc : Nat) (lo : List (Nat × Value)) (v : Int32), decode cX8_person pc = .ok (.ireturn, 1) → (h, v) = (h1, r) → mm_J p l e rmX8_person s m ([.ref (ad 0), .int a0, .int a1] : List Value).toArray below meth c 0 0 (MQ below (va_Qi (fun (r' : Int32) (u : mm_M) => r' = r ∧ u = h1) (mm_Post D (my_w cI cZ ad) A) A) ([.ref (ad 0), .int a0, .int a1] : List Value).toArray s 0 0 A) D (my_w cI cZ ad) A 3 h pc lo [.int v] := by
    intro h2 pc lo v hd he
    cases he
    exact mj_iret X hr rfl hlocks hd
  generalize hout : (h1, r) = out at hf RET
  unfold fX8_person at hf
  refine mj_lo (lo' := [(0, .ref (ad 0)), (1, .int a0), (2, .int a1)]) rfl ?_
  refine mj_aload_n X dX8_person_0 0 rfl ?_
  refine mj_iload_n X dX8_person_1 1 rfl ?_
  obtain ⟨h1, r2, q3, hf⟩ := mm_c hf
  refine mj_callVi (As := [.int a0]) (rest := []) X (kX8_isPerson l D t1 t2 cI cZ ad N h a0 h1 r2 q3) (cwV 1 X.2.2.2.2.1 gX8_person_X8_isPerson rfl rfl rfl (by decide +kernel) ⟨Nat.le_of_ble_eq_true rfl, Nat.le_of_ble_eq_true rfl⟩) (my_at my_oX8 h) rfl rfl rfl rfl (Nat.le_of_ble_eq_true rfl) ⟨Nat.zero_le _, Nat.zero_le _⟩ dX8_person_2 ?_
  refine mj_if_eq (tgt := 39) X dX8_person_5 (by decide) (fun c4 => ?_) (fun c4 => ?_)
  · have hf := mm_t c4 hf
    refine mj_bipush (v := (-2 : Int32)) X dX8_person_39 (by decide) ?_
    exact RET h1 _ _ _ dX8_person_41 (Option.some.inj hf)
  · have hf := mm_f c4 hf
    refine mj_iload_n X dX8_person_8 2 rfl ?_
    refine mj_iconst (v := (0 : Int32)) X dX8_person_9 (by decide) ?_
    refine mj_iconst (v := (1 : Int32)) X dX8_person_10 (by decide) ?_
    obtain ⟨h5, r6, q7, hf⟩ := mm_c hf
    refine mj_callSi (As := [.int a1, .int (0 : Int32), .int (1 : Int32)]) (rest := []) X (kX8_in l D t1 t2 cI cZ ad N h1 a1 (0 : Int32) (1 : Int32) h5 r6 q7) (va_cwS 3 X.2.2.2.2.1 gX8_person_X8_in rfl rfl rfl (by decide +kernel) ⟨Nat.le_of_ble_eq_true rfl, Nat.le_of_ble_eq_true rfl⟩) rfl rfl (Nat.le_of_ble_eq_true rfl) ⟨Nat.zero_le _, Nat.zero_le _⟩ dX8_person_11 ?_
    refine mj_if_eq (tgt := 39) X dX8_person_14 (by decide) (fun c8 => ?_) (fun c8 => ?_)
    · have hf := mm_t c8 hf
      refine mj_bipush (v := (-2 : Int32)) X dX8_person_39 (by decide) ?_
      exact RET h5 _ _ _ dX8_person_41 (Option.some.inj hf)
    · have hf := mm_f c8 hf
      refine mj_iload_n X dX8_person_17 2 rfl ?_
      refine mj_if_ne (tgt := 30) X dX8_person_18 (by decide) (fun c9 => ?_) (fun c9 => ?_)
      · have hf := mm_f c9 hf
        refine mj_aload_n X dX8_person_30 0 rfl ?_
        refine mj_get X inwX8_person_X8 (my_at my_oX8 h5) rfl 4 (by decide) rfl lnX8_person_0 rfl dX8_person_31 ?_
        refine mj_iload_n X dX8_person_34 1 rfl ?_
        obtain ⟨g10, hf⟩ := mm_g hf
        refine mj_iald X 0 (my_at my_a4 h5) rfl g10 dX8_person_35 ?_
        refine mj_goto (tgt := 41) X dX8_person_36 (by decide) ?_
        exact RET h5 _ _ _ dX8_person_41 (Option.some.inj hf)
      · have hf := mm_t c9 hf
        refine mj_aload_n X dX8_person_21 0 rfl ?_
        refine mj_get X inwX8_person_X8 (my_at my_oX8 h5) rfl 3 (by decide) rfl lnX8_person_1 rfl dX8_person_22 ?_
        refine mj_iload_n X dX8_person_25 1 rfl ?_
        obtain ⟨g11, hf⟩ := mm_g hf
        refine mj_iald X 0 (my_at my_a3 h5) rfl g11 dX8_person_26 ?_
        refine mj_goto (tgt := 41) X dX8_person_27 (by decide) ?_
        exact RET h5 _ _ _ dX8_person_41 (Option.some.inj hf)
abbrev rmX8_sits : Room := { frames := 5, cells := 0, slots := 0, locals := 111 }
theorem inwX8_sits_X8 : ∀ w ∈ wsX80, w ∈ wsX8_sits := by
  intro w hw
  have h9 : wsX80 = (wsX8_sits.drop 40).take 29 := rfl
  rw [h9] at hw
  exact List.mem_of_mem_drop (List.mem_of_mem_take hw)
theorem lnX8_sits_0 : Cond.fieldLink RX8 22 "RichestPaysModel" "told" "[I" ∈ wsX8_sits := List.mem_of_getElem? (i := 1) rfl
set_option maxHeartbeats 4000000 in
set_option maxRecDepth 100000 in
theorem kX8_sits (l : Launch) (D : va_G) (t1 t2 : Nat) (cI : ClassId) (cZ : ClassId) (ad : Nat → Nat)  (N : Nat) (h : mm_M) (a0 : Int32) (a1 : Int32) (h1 : mm_M) (r : Int32) (hf : fX8_sits N h a0 a1 = some (h1, r)) : mm_Ki l yX8_sits wsX8_sits rmX8_sits D (my_ty cI cZ) t1 t2 (my_w cI cZ ad) [.ref (ad 0), .int a0, .int a1] h r h1 := by
  refine mm_open_i [.ref (ad 0), .int a0, .int a1] h r h1 RX8 (by decide) rfl rfl (Nat.le_of_ble_eq_true rfl) ?_
  intro p e s m below meth c A X hr hlocks
  have RET : ∀ (h : mm_M) (pc : Nat) (lo : List (Nat × Value)) (v : Int32), decode cX8_sits pc = .ok (.ireturn, 1) → (h, v) = (h1, r) → mm_J p l e rmX8_sits s m ([.ref (ad 0), .int a0, .int a1] : List Value).toArray below meth c 0 0 (MQ below (va_Qi (fun (r' : Int32) (u : mm_M) => r' = r ∧ u = h1) (mm_Post D (my_w cI cZ ad) A) A) ([.ref (ad 0), .int a0, .int a1] : List Value).toArray s 0 0 A) D (my_w cI cZ ad) A 3 h pc lo [.int v] := by
    intro h2 pc lo v hd he
    cases he
    exact mj_iret X hr rfl hlocks hd
  generalize hout : (h1, r) = out at hf RET
  unfold fX8_sits at hf
  refine mj_lo (lo' := [(0, .ref (ad 0)), (1, .int a0), (2, .int a1)]) rfl ?_
  refine mj_aload_n X dX8_sits_0 0 rfl ?_
  refine mj_iload_n X dX8_sits_1 1 rfl ?_
  obtain ⟨h1, r2, q3, hf⟩ := mm_c hf
  refine mj_callVi (As := [.int a0]) (rest := []) X (kX8_isRound l D t1 t2 cI cZ ad N h a0 h1 r2 q3) (cwV 1 X.2.2.2.2.1 gX8_sits_X8_isRound rfl rfl rfl (by decide +kernel) ⟨Nat.le_of_ble_eq_true rfl, Nat.le_of_ble_eq_true rfl⟩) (my_at my_oX8 h) rfl rfl rfl rfl (Nat.le_of_ble_eq_true rfl) ⟨Nat.zero_le _, Nat.zero_le _⟩ dX8_sits_2 ?_
  refine mj_if_eq (tgt := 30) X dX8_sits_5 (by decide) (fun c4 => ?_) (fun c4 => ?_)
  · have hf := mm_t c4 hf
    refine mj_bipush (v := (-2 : Int32)) X dX8_sits_30 (by decide) ?_
    exact RET h1 _ _ _ dX8_sits_32 (Option.some.inj hf)
  · have hf := mm_f c4 hf
    refine mj_aload_n X dX8_sits_8 0 rfl ?_
    refine mj_iload_n X dX8_sits_9 2 rfl ?_
    obtain ⟨h5, r6, q7, hf⟩ := mm_c hf
    refine mj_callVi (As := [.int a1]) (rest := []) X (kX8_isPerson l D t1 t2 cI cZ ad N h1 a1 h5 r6 q7) (cwV 1 X.2.2.2.2.1 gX8_sits_X8_isPerson rfl rfl rfl (by decide +kernel) ⟨Nat.le_of_ble_eq_true rfl, Nat.le_of_ble_eq_true rfl⟩) (my_at my_oX8 h1) rfl rfl rfl rfl (Nat.le_of_ble_eq_true rfl) ⟨Nat.zero_le _, Nat.zero_le _⟩ dX8_sits_10 ?_
    refine mj_if_eq (tgt := 30) X dX8_sits_13 (by decide) (fun c8 => ?_) (fun c8 => ?_)
    · have hf := mm_t c8 hf
      refine mj_bipush (v := (-2 : Int32)) X dX8_sits_30 (by decide) ?_
      exact RET h5 _ _ _ dX8_sits_32 (Option.some.inj hf)
    · have hf := mm_f c8 hf
      refine mj_aload_n X dX8_sits_16 0 rfl ?_
      refine mj_get X inwX8_sits_X8 (my_at my_oX8 h5) rfl 6 (by decide) rfl lnX8_sits_0 rfl dX8_sits_17 ?_
      refine mj_bipush (v := (6 : Int32)) X dX8_sits_20 (by decide) ?_
      refine mj_iload_n X dX8_sits_22 1 rfl ?_
      refine mj_imul X dX8_sits_23 ?_
      refine mj_iload_n X dX8_sits_24 2 rfl ?_
      refine mj_iadd X dX8_sits_25 ?_
      obtain ⟨g9, hf⟩ := mm_g hf
      refine mj_iald X 0 (my_at my_a5 h5) rfl g9 dX8_sits_26 ?_
      refine mj_goto (tgt := 32) X dX8_sits_27 (by decide) ?_
      exact RET h5 _ _ _ dX8_sits_32 (Option.some.inj hf)
abbrev rmX8_home : Room := { frames := 2, cells := 0, slots := 0, locals := 42 }
theorem inwX8_home_X8 : ∀ w ∈ wsX80, w ∈ wsX8_home := by
  intro w hw
  have h9 : wsX80 = (wsX8_home.drop 9).take 29 := rfl
  rw [h9] at hw
  exact List.mem_of_mem_drop (List.mem_of_mem_take hw)
theorem lnX8_home_0 : Cond.fieldLink RX8 25 "RichestPaysModel" "homes" "[I" ∈ wsX8_home := List.mem_of_getElem? (i := 1) rfl
set_option maxHeartbeats 4000000 in
set_option maxRecDepth 100000 in
theorem kX8_home (l : Launch) (D : va_G) (t1 t2 : Nat) (cI : ClassId) (cZ : ClassId) (ad : Nat → Nat)  (N : Nat) (h : mm_M) (a0 : Int32) (a1 : Int32) (h1 : mm_M) (r : Int32) (hf : fX8_home N h a0 a1 = some (h1, r)) : mm_Ki l yX8_home wsX8_home rmX8_home D (my_ty cI cZ) t1 t2 (my_w cI cZ ad) [.ref (ad 0), .int a0, .int a1] h r h1 := by
  refine mm_open_i [.ref (ad 0), .int a0, .int a1] h r h1 RX8 (by decide) rfl rfl (Nat.le_of_ble_eq_true rfl) ?_
  intro p e s m below meth c A X hr hlocks
  have RET : ∀ (h : mm_M) (pc : Nat) (lo : List (Nat × Value)) (v : Int32), decode cX8_home pc = .ok (.ireturn, 1) → (h, v) = (h1, r) → mm_J p l e rmX8_home s m ([.ref (ad 0), .int a0, .int a1] : List Value).toArray below meth c 0 0 (MQ below (va_Qi (fun (r' : Int32) (u : mm_M) => r' = r ∧ u = h1) (mm_Post D (my_w cI cZ ad) A) A) ([.ref (ad 0), .int a0, .int a1] : List Value).toArray s 0 0 A) D (my_w cI cZ ad) A 4 h pc lo [.int v] := by
    intro h2 pc lo v hd he
    cases he
    exact mj_iret X hr rfl hlocks hd
  generalize hout : (h1, r) = out at hf RET
  unfold fX8_home at hf
  refine mj_lo (lo' := [(0, .ref (ad 0)), (1, .int a0), (2, .int a1)]) rfl ?_
  refine mj_iload_n X dX8_home_0 1 rfl ?_
  obtain ⟨h1, r2, q3, hf⟩ := mm_c hf
  refine mj_callSi (As := [.int a0]) (rest := []) X (kX8_isSix l D t1 t2 cI cZ ad N h a0 h1 r2 q3) (va_cwS 1 X.2.2.2.2.1 gX8_home_X8_isSix rfl rfl rfl (by decide +kernel) ⟨Nat.le_of_ble_eq_true rfl, Nat.le_of_ble_eq_true rfl⟩) rfl rfl (Nat.le_of_ble_eq_true rfl) ⟨Nat.zero_le _, Nat.zero_le _⟩ dX8_home_1 ?_
  refine mj_if_eq (tgt := 17) X dX8_home_4 (by decide) (fun c4 => ?_) (fun c4 => ?_)
  · have hf := mm_t c4 hf
    refine mj_bipush (v := (-2 : Int32)) X dX8_home_17 (by decide) ?_
    exact RET h1 _ _ _ dX8_home_19 (Option.some.inj hf)
  · have hf := mm_f c4 hf
    refine mj_iload_n X dX8_home_7 2 rfl ?_
    refine mj_iconst (v := (0 : Int32)) X dX8_home_8 (by decide) ?_
    refine mj_bipush (v := (99 : Int32)) X dX8_home_9 (by decide) ?_
    obtain ⟨h5, r6, q7, hf⟩ := mm_c hf
    refine mj_callSi (As := [.int a1, .int (0 : Int32), .int (99 : Int32)]) (rest := []) X (kX8_in l D t1 t2 cI cZ ad N h1 a1 (0 : Int32) (99 : Int32) h5 r6 q7) (va_cwS 3 X.2.2.2.2.1 gX8_home_X8_in rfl rfl rfl (by decide +kernel) ⟨Nat.le_of_ble_eq_true rfl, Nat.le_of_ble_eq_true rfl⟩) rfl rfl (Nat.le_of_ble_eq_true rfl) ⟨Nat.zero_le _, Nat.zero_le _⟩ dX8_home_11 ?_
    refine mj_if_ne (tgt := 20) X dX8_home_14 (by decide) (fun c8 => ?_) (fun c8 => ?_)
    · have hf := mm_f c8 hf
      refine mj_aload_n X dX8_home_20 0 rfl ?_
      refine mj_get X inwX8_home_X8 (my_at my_oX8 h5) rfl 7 (by decide) rfl lnX8_home_0 rfl dX8_home_21 ?_
      refine mj_iload_n X dX8_home_24 1 rfl ?_
      obtain ⟨g9, hf⟩ := mm_g hf
      refine mj_iald X 0 (my_at my_a6 h5) rfl g9 dX8_home_25 ?_
      obtain ⟨x10, ex10, hf⟩ := mm_l hf
      refine mj_topi ex10 ?_
      refine mj_istore_n (lo' := [(3, .int x10), (0, .ref (ad 0)), (1, .int a0), (2, .int a1)]) X dX8_home_26 (by decide) rfl ?_
      refine mj_aload_n X dX8_home_27 1 rfl ?_
      refine mj_get X inwX8_home_X8 (my_at my_oX8 h5) rfl 7 (by decide) rfl lnX8_home_0 rfl dX8_home_28 ?_
      refine mj_iload_n X dX8_home_31 2 rfl ?_
      refine mj_iload_n X dX8_home_32 3 rfl ?_
      obtain ⟨h11, eh11, hf⟩ := mm_l hf
      refine mj_iast X 0 (my_at my_a6 h5) rfl g9 (my_ast my_a6 eh11) dX8_home_33 ?_
      refine mj_iload_n X dX8_home_34 0 rfl ?_
      exact RET h11 _ _ _ dX8_home_35 (Option.some.inj hf)
    · have hf := mm_t c8 hf
      refine mj_bipush (v := (-2 : Int32)) X dX8_home_17 (by decide) ?_
      exact RET h5 _ _ _ dX8_home_19 (Option.some.inj hf)
abbrev rmX8_worth : Room := { frames := 2, cells := 0, slots := 0, locals := 42 }
theorem inwX8_worth_X8 : ∀ w ∈ wsX80, w ∈ wsX8_worth := by
  intro w hw
  have h9 : wsX80 = (wsX8_worth.drop 9).take 29 := rfl
  rw [h9] at hw
  exact List.mem_of_mem_drop (List.mem_of_mem_take hw)
theorem lnX8_worth_0 : Cond.fieldLink RX8 28 "RichestPaysModel" "worths" "[I" ∈ wsX8_worth := List.mem_of_getElem? (i := 1) rfl
set_option maxHeartbeats 4000000 in
set_option maxRecDepth 100000 in
theorem kX8_worth (l : Launch) (D : va_G) (t1 t2 : Nat) (cI : ClassId) (cZ : ClassId) (ad : Nat → Nat)  (N : Nat) (h : mm_M) (a0 : Int32) (a1 : Int32) (h1 : mm_M) (r : Int32) (hf : fX8_worth N h a0 a1 = some (h1, r)) : mm_Ki l yX8_worth wsX8_worth rmX8_worth D (my_ty cI cZ) t1 t2 (my_w cI cZ ad) [.ref (ad 0), .int a0, .int a1] h r h1 := by
  refine mm_open_i [.ref (ad 0), .int a0, .int a1] h r h1 RX8 (by decide) rfl rfl (Nat.le_of_ble_eq_true rfl) ?_
  intro p e s m below meth c A X hr hlocks
  have RET : ∀ (h : mm_M) (pc : Nat) (lo : List (Nat × Value)) (v : Int32), decode cX8_worth pc = .ok (.ireturn, 1) → (h, v) = (h1, r) → mm_J p l e rmX8_worth s m ([.ref (ad 0), .int a0, .int a1] : List Value).toArray below meth c 0 0 (MQ below (va_Qi (fun (r' : Int32) (u : mm_M) => r' = r ∧ u = h1) (mm_Post D (my_w cI cZ ad) A) A) ([.ref (ad 0), .int a0, .int a1] : List Value).toArray s 0 0 A) D (my_w cI cZ ad) A 4 h pc lo [.int v] := by
    intro h2 pc lo v hd he
    cases he
    exact mj_iret X hr rfl hlocks hd
  generalize hout : (h1, r) = out at hf RET
  unfold fX8_worth at hf
  refine mj_lo (lo' := [(0, .ref (ad 0)), (1, .int a0), (2, .int a1)]) rfl ?_
  refine mj_iload_n X dX8_worth_0 1 rfl ?_
  obtain ⟨h1, r2, q3, hf⟩ := mm_c hf
  refine mj_callSi (As := [.int a0]) (rest := []) X (kX8_isSix l D t1 t2 cI cZ ad N h a0 h1 r2 q3) (va_cwS 1 X.2.2.2.2.1 gX8_worth_X8_isSix rfl rfl rfl (by decide +kernel) ⟨Nat.le_of_ble_eq_true rfl, Nat.le_of_ble_eq_true rfl⟩) rfl rfl (Nat.le_of_ble_eq_true rfl) ⟨Nat.zero_le _, Nat.zero_le _⟩ dX8_worth_1 ?_
  refine mj_if_eq (tgt := 17) X dX8_worth_4 (by decide) (fun c4 => ?_) (fun c4 => ?_)
  · have hf := mm_t c4 hf
    refine mj_bipush (v := (-2 : Int32)) X dX8_worth_17 (by decide) ?_
    exact RET h1 _ _ _ dX8_worth_19 (Option.some.inj hf)
  · have hf := mm_f c4 hf
    refine mj_iload_n X dX8_worth_7 2 rfl ?_
    refine mj_iconst (v := (0 : Int32)) X dX8_worth_8 (by decide) ?_
    refine mj_bipush (v := (99 : Int32)) X dX8_worth_9 (by decide) ?_
    obtain ⟨h5, r6, q7, hf⟩ := mm_c hf
    refine mj_callSi (As := [.int a1, .int (0 : Int32), .int (99 : Int32)]) (rest := []) X (kX8_in l D t1 t2 cI cZ ad N h1 a1 (0 : Int32) (99 : Int32) h5 r6 q7) (va_cwS 3 X.2.2.2.2.1 gX8_worth_X8_in rfl rfl rfl (by decide +kernel) ⟨Nat.le_of_ble_eq_true rfl, Nat.le_of_ble_eq_true rfl⟩) rfl rfl (Nat.le_of_ble_eq_true rfl) ⟨Nat.zero_le _, Nat.zero_le _⟩ dX8_worth_11 ?_
    refine mj_if_ne (tgt := 20) X dX8_worth_14 (by decide) (fun c8 => ?_) (fun c8 => ?_)
    · have hf := mm_f c8 hf
      refine mj_aload_n X dX8_worth_20 0 rfl ?_
      refine mj_get X inwX8_worth_X8 (my_at my_oX8 h5) rfl 8 (by decide) rfl lnX8_worth_0 rfl dX8_worth_21 ?_
      refine mj_iload_n X dX8_worth_24 1 rfl ?_
      obtain ⟨g9, hf⟩ := mm_g hf
      refine mj_iald X 0 (my_at my_a7 h5) rfl g9 dX8_worth_25 ?_
      obtain ⟨x10, ex10, hf⟩ := mm_l hf
      refine mj_topi ex10 ?_
      refine mj_istore_n (lo' := [(3, .int x10), (0, .ref (ad 0)), (1, .int a0), (2, .int a1)]) X dX8_worth_26 (by decide) rfl ?_
      refine mj_aload_n X dX8_worth_27 1 rfl ?_
      refine mj_get X inwX8_worth_X8 (my_at my_oX8 h5) rfl 8 (by decide) rfl lnX8_worth_0 rfl dX8_worth_28 ?_
      refine mj_iload_n X dX8_worth_31 2 rfl ?_
      refine mj_iload_n X dX8_worth_32 3 rfl ?_
      obtain ⟨h11, eh11, hf⟩ := mm_l hf
      refine mj_iast X 0 (my_at my_a7 h5) rfl g9 (my_ast my_a7 eh11) dX8_worth_33 ?_
      refine mj_iload_n X dX8_worth_34 0 rfl ?_
      exact RET h11 _ _ _ dX8_worth_35 (Option.some.inj hf)
    · have hf := mm_t c8 hf
      refine mj_bipush (v := (-2 : Int32)) X dX8_worth_17 (by decide) ?_
      exact RET h5 _ _ _ dX8_worth_19 (Option.some.inj hf)
abbrev rmX8_isSheet : Room := { frames := 1, cells := 0, slots := 0, locals := 22 }
set_option maxHeartbeats 4000000 in
set_option maxRecDepth 100000 in
theorem kX8_isSheet (l : Launch) (D : va_G) (t1 t2 : Nat) (cI : ClassId) (cZ : ClassId) (ad : Nat → Nat)  (N : Nat) (h : mm_M) (a0 : Int32) (h1 : mm_M) (r : Int32) (hf : fX8_isSheet N h a0 = some (h1, r)) : mm_Ki l yX8_isSheet wsX8_isSheet rmX8_isSheet D (my_ty cI cZ) t1 t2 (my_w cI cZ ad) [.int a0] h r h1 := by
  refine mm_open_i [.int a0] h r h1 RX8 (by decide) rfl rfl (Nat.le_of_ble_eq_true rfl) ?_
  intro p e s m below meth c A X hr hlocks
  have RET : ∀ (h : mm_M) (pc : Nat) (lo : List (Nat × Value)) (v : Int32), decode cX8_isSheet pc = .ok (.ireturn, 1) → (v = 0 ∨ v = 1) → (h, v) = (h1, r) → mm_J p l e rmX8_isSheet s m ([.int a0] : List Value).toArray below meth c 0 0 (MQ below (va_Qi (fun (r' : Int32) (u : mm_M) => r' = r ∧ u = h1) (mm_Post D (my_w cI cZ ad) A) A) ([.int a0] : List Value).toArray s 0 0 A) D (my_w cI cZ ad) A 1 h pc lo [.int v] := by
    intro h2 pc lo v hd hz he
    cases he
    exact mj_iret X hr (mm_nz hz) hlocks hd
  generalize hout : (h1, r) = out at hf RET
  unfold fX8_isSheet at hf
  refine mj_lo (lo' := [(0, .int a0)]) rfl ?_
  refine mj_iload_n X dX8_isSheet_0 0 rfl ?_
  refine mj_iconst (v := (0 : Int32)) X dX8_isSheet_1 (by decide) ?_
  refine mj_iconst (v := (3 : Int32)) X dX8_isSheet_2 (by decide) ?_
  obtain ⟨h1, r2, q3, hf⟩ := mm_c hf
  refine mj_callSi (As := [.int a0, .int (0 : Int32), .int (3 : Int32)]) (rest := []) X (kX8_in l D t1 t2 cI cZ ad N h a0 (0 : Int32) (3 : Int32) h1 r2 q3) (va_cwS 3 X.2.2.2.2.1 gX8_isSheet_X8_in rfl rfl rfl (by decide +kernel) ⟨Nat.le_of_ble_eq_true rfl, Nat.le_of_ble_eq_true rfl⟩) rfl rfl (Nat.le_of_ble_eq_true rfl) ⟨Nat.zero_le _, Nat.zero_le _⟩ dX8_isSheet_3 ?_
  obtain ⟨g4, hf⟩ := mm_g hf
  exact RET h1 _ _ _ dX8_isSheet_6 g4 (Option.some.inj hf)
abbrev rmX8_meets : Room := { frames := 0, cells := 0, slots := 0, locals := 0 }
theorem inwX8_meets_X8 : ∀ w ∈ wsX80, w ∈ wsX8_meets := by
  intro w hw
  have h9 : wsX80 = (wsX8_meets.drop 2).take 29 := rfl
  rw [h9] at hw
  exact List.mem_of_mem_drop (List.mem_of_mem_take hw)
theorem lnX8_meets_0 : Cond.fieldLink RX8 213 "RichestPaysModel" "finding" "I" ∈ wsX8_meets := List.mem_of_getElem? (i := 1) rfl
set_option maxHeartbeats 4000000 in
set_option maxRecDepth 100000 in
theorem kX8_meets (l : Launch) (D : va_G) (t1 t2 : Nat) (cI : ClassId) (cZ : ClassId) (ad : Nat → Nat)  (N : Nat) (h : mm_M) (a0 : Int32) (h1 : mm_M) (r : Int32) (hf : fX8_meets N h a0 = some (h1, r)) : mm_Ki l yX8_meets wsX8_meets rmX8_meets D (my_ty cI cZ) t1 t2 (my_w cI cZ ad) [.ref (ad 0), .int a0] h r h1 := by
  refine mm_open_i [.ref (ad 0), .int a0] h r h1 RX8 (by decide) rfl rfl (Nat.le_of_ble_eq_true rfl) ?_
  intro p e s m below meth c A X hr hlocks
  have RET : ∀ (h : mm_M) (pc : Nat) (lo : List (Nat × Value)) (v : Int32), decode cX8_meets pc = .ok (.ireturn, 1) → (h, v) = (h1, r) → mm_J p l e rmX8_meets s m ([.ref (ad 0), .int a0] : List Value).toArray below meth c 0 0 (MQ below (va_Qi (fun (r' : Int32) (u : mm_M) => r' = r ∧ u = h1) (mm_Post D (my_w cI cZ ad) A) A) ([.ref (ad 0), .int a0] : List Value).toArray s 0 0 A) D (my_w cI cZ ad) A 2 h pc lo [.int v] := by
    intro h2 pc lo v hd he
    cases he
    exact mj_iret X hr rfl hlocks hd
  generalize hout : (h1, r) = out at hf RET
  unfold fX8_meets at hf
  refine mj_lo (lo' := [(0, .ref (ad 0)), (1, .int a0)]) rfl ?_
  refine mj_aload_n X dX8_meets_0 0 rfl ?_
  refine mj_iload_n X dX8_meets_1 1 rfl ?_
  obtain ⟨h1, eh1, hf⟩ := mm_l hf
  refine mj_put X tyX8_ok nmX8 inwX8_meets_X8 (my_at my_oX8 h) rfl 28 (by decide) rfl lnX8_meets_0 rfl (tyX8_ok 28 (by decide)) rfl rfl (Nat.le_of_ble_eq_true rfl) (my_put my_oX8 eh1 (by simp [mm_up_at, upd])) dX8_meets_2 ?_
  refine mj_bipush (v := (-10 : Int32)) X dX8_meets_5 (by decide) ?_
  refine mj_iload_n X dX8_meets_7 1 rfl ?_
  refine mj_isub X dX8_meets_8 ?_
  exact RET h1 _ _ _ dX8_meets_9 (Option.some.inj hf)
abbrev rmX8_read : Room := { frames := 2, cells := 0, slots := 0, locals := 42 }
theorem inwX8_read_X8 : ∀ w ∈ wsX80, w ∈ wsX8_read := by
  intro w hw
  have h9 : wsX80 = (wsX8_read.drop 17).take 29 := rfl
  rw [h9] at hw
  exact List.mem_of_mem_drop (List.mem_of_mem_take hw)
theorem lnX8_read_0 : Cond.fieldLink RX8 67 "RichestPaysModel" "isThere" "[Z" ∈ wsX8_read := List.mem_of_getElem? (i := 1) rfl
theorem lnX8_read_1 : Cond.fieldLink RX8 74 "RichestPaysModel" "sizes" "[I" ∈ wsX8_read := List.mem_of_getElem? (i := 2) rfl
theorem lnX8_read_2 : Cond.fieldLink RX8 77 "RichestPaysModel" "items" "[I" ∈ wsX8_read := List.mem_of_getElem? (i := 3) rfl
theorem lnX8_read_3 : Cond.fieldLink RX8 25 "RichestPaysModel" "homes" "[I" ∈ wsX8_read := List.mem_of_getElem? (i := 4) rfl
set_option maxHeartbeats 4000000 in
set_option maxRecDepth 100000 in
theorem wX8_read_L27 (X : mm_X p s m args c cX8_read RX8 wsX8_read 3 D (my_ty cI cZ) t1 t2 A) (out : mm_M × Int32) (RET : ∀ (h : mm_M) (pc : Nat) (lo : List (Nat × Value)) (v : Int32), decode cX8_read pc = .ok (.ireturn, 1) → (h, v) = out → mm_J p l e rmX8_read s m args below meth c 0 0 Q D (my_w cI cZ ad) A 3 h pc lo [.int v]) (N : Nat)  (p1 : Int32) (k : mm_M → Int32 → Option (mm_M × Int32)) (HK : ∀ (h : mm_M) (m2 : Int32), k h m2 = some out → mm_J p l e rmX8_read s m args below meth c 0 0 Q D (my_w cI cZ ad) A 3 h 86 [(2, .int m2)] []) : ∀ (n : Nat) (h : mm_M) (m2 : Int32), fX8_read_L27 N p1 k n h m2 = some out → mm_J p l e rmX8_read s m args below meth c 0 0 Q D (my_w cI cZ ad) A 3 h 27 [(0, .ref (ad 0)), (1, .int p1), (2, .int m2)] [] := by
  intro n
  induction n with
  | zero =>
    intro h m2 hf
    cases hf
  | succ n ih =>
    intro h m2 hf
    rw [fX8_read_L27] at hf
    refine mj_iload_n X dX8_read_27 2 rfl ?_
    refine mj_aload_n X dX8_read_28 0 rfl ?_
    refine mj_get X inwX8_read_X8 (my_at my_oX8 h) rfl 25 (by decide) rfl lnX8_read_1 rfl dX8_read_29 ?_
    refine mj_iload_n X dX8_read_32 1 rfl ?_
    obtain ⟨g7, hf⟩ := mm_g hf
    refine mj_iald X 0 (my_at my_a22 h) rfl g7 dX8_read_33 ?_
    refine mj_icmp_ge (tgt := 86) X dX8_read_34 (by decide) (fun c8 => ?_) (fun c8 => ?_)
    · have hf := mm_t c8 hf
      exact mj_sub [2] rfl (HK h m2 hf)
    · have hf := mm_f c8 hf
      refine mj_iload_n X dX8_read_37 2 rfl ?_
      refine mj_bipush (v := (6 : Int32)) X dX8_read_38 (by decide) ?_
      refine mj_icmp_ge (tgt := 86) X dX8_read_40 (by decide) (fun c9 => ?_) (fun c9 => ?_)
      · have hf := mm_t c9 hf
        exact mj_sub [2] rfl (HK h m2 hf)
      · have hf := mm_f c9 hf
        refine mj_aload_n X dX8_read_43 0 rfl ?_
        refine mj_get X inwX8_read_X8 (my_at my_oX8 h) rfl 26 (by decide) rfl lnX8_read_2 rfl dX8_read_44 ?_
        refine mj_bipush (v := (48 : Int32)) X dX8_read_47 (by decide) ?_
        refine mj_iload_n X dX8_read_49 1 rfl ?_
        refine mj_imul X dX8_read_50 ?_
        refine mj_iload_n X dX8_read_51 2 rfl ?_
        refine mj_iadd X dX8_read_52 ?_
        obtain ⟨g10, hf⟩ := mm_g hf
        refine mj_iald X 0 (my_at my_a23 h) rfl g10 dX8_read_53 ?_
        refine mj_iconst (v := (0 : Int32)) X dX8_read_54 (by decide) ?_
        refine mj_bipush (v := (99 : Int32)) X dX8_read_55 (by decide) ?_
        obtain ⟨h11, r12, q13, hf⟩ := mm_c hf
        refine mj_callSi (As := [.int (h 23 (((48 : Int32) * p1) + m2).toNatClampNeg), .int (0 : Int32), .int (99 : Int32)]) (rest := []) X (kX8_in l D t1 t2 cI cZ ad N h ((h 23 (((48 : Int32) * p1) + m2).toNatClampNeg)) (0 : Int32) (99 : Int32) h11 r12 q13) (va_cwS 3 X.2.2.2.2.1 gX8_read_X8_in rfl rfl rfl (by decide +kernel) ⟨Nat.le_of_ble_eq_true rfl, Nat.le_of_ble_eq_true rfl⟩) rfl rfl (Nat.le_of_ble_eq_true rfl) ⟨Nat.zero_le _, Nat.zero_le _⟩ dX8_read_57 ?_
        refine mj_if_eq (tgt := 86) X dX8_read_60 (by decide) (fun c14 => ?_) (fun c14 => ?_)
        · have hf := mm_t c14 hf
          exact mj_sub [2] rfl (HK h11 m2 hf)
        · have hf := mm_f c14 hf
          refine mj_aload_n X dX8_read_63 0 rfl ?_
          refine mj_get X inwX8_read_X8 (my_at my_oX8 h11) rfl 7 (by decide) rfl lnX8_read_3 rfl dX8_read_64 ?_
          refine mj_iload_n X dX8_read_67 2 rfl ?_
          refine mj_aload_n X dX8_read_68 0 rfl ?_
          refine mj_get X inwX8_read_X8 (my_at my_oX8 h11) rfl 26 (by decide) rfl lnX8_read_2 rfl dX8_read_69 ?_
          refine mj_bipush (v := (48 : Int32)) X dX8_read_72 (by decide) ?_
          refine mj_iload_n X dX8_read_74 1 rfl ?_
          refine mj_imul X dX8_read_75 ?_
          refine mj_iload_n X dX8_read_76 2 rfl ?_
          refine mj_iadd X dX8_read_77 ?_
          refine mj_iald X 0 (my_at my_a23 h11) rfl g10 dX8_read_78 ?_
          obtain ⟨g15, hf⟩ := mm_g hf
          obtain ⟨h16, eh16, hf⟩ := mm_l hf
          refine mj_iast X 0 (my_at my_a6 h11) rfl g15 (my_ast my_a6 eh16) dX8_read_79 ?_
          refine mj_iinc (k := 2) (v := (m2 + 1)) (lo' := [(2, .int (m2 + 1)), (0, .ref (ad 0)), (1, .int p1)]) X dX8_read_80 rfl rfl (by decide) rfl ?_
          refine mj_goto (tgt := 27) X dX8_read_83 (by decide) ?_
          exact mj_sub [1, 2, 0] rfl (ih h16 (m2 + 1) hf)
set_option maxHeartbeats 4000000 in
set_option maxRecDepth 100000 in
theorem kX8_read (l : Launch) (D : va_G) (t1 t2 : Nat) (cI : ClassId) (cZ : ClassId) (ad : Nat → Nat)  (N : Nat) (h : mm_M) (a0 : Int32) (h1 : mm_M) (r : Int32) (hf : fX8_read N h a0 = some (h1, r)) : mm_Ki l yX8_read wsX8_read rmX8_read D (my_ty cI cZ) t1 t2 (my_w cI cZ ad) [.ref (ad 0), .int a0] h r h1 := by
  refine mm_open_i [.ref (ad 0), .int a0] h r h1 RX8 (by decide) rfl rfl (Nat.le_of_ble_eq_true rfl) ?_
  intro p e s m below meth c A X hr hlocks
  have RET : ∀ (h : mm_M) (pc : Nat) (lo : List (Nat × Value)) (v : Int32), decode cX8_read pc = .ok (.ireturn, 1) → (h, v) = (h1, r) → mm_J p l e rmX8_read s m ([.ref (ad 0), .int a0] : List Value).toArray below meth c 0 0 (MQ below (va_Qi (fun (r' : Int32) (u : mm_M) => r' = r ∧ u = h1) (mm_Post D (my_w cI cZ ad) A) A) ([.ref (ad 0), .int a0] : List Value).toArray s 0 0 A) D (my_w cI cZ ad) A 3 h pc lo [.int v] := by
    intro h2 pc lo v hd he
    cases he
    exact mj_iret X hr rfl hlocks hd
  generalize hout : (h1, r) = out at hf RET
  unfold fX8_read at hf
  refine mj_lo (lo' := [(0, .ref (ad 0)), (1, .int a0)]) rfl ?_
  refine mj_iload_n X dX8_read_0 1 rfl ?_
  obtain ⟨h1, r2, q3, hf⟩ := mm_c hf
  refine mj_callSi (As := [.int a0]) (rest := []) X (kX8_isSheet l D t1 t2 cI cZ ad N h a0 h1 r2 q3) (va_cwS 1 X.2.2.2.2.1 gX8_read_X8_isSheet rfl rfl rfl (by decide +kernel) ⟨Nat.le_of_ble_eq_true rfl, Nat.le_of_ble_eq_true rfl⟩) rfl rfl (Nat.le_of_ble_eq_true rfl) ⟨Nat.zero_le _, Nat.zero_le _⟩ dX8_read_1 ?_
  refine mj_if_ne (tgt := 10) X dX8_read_4 (by decide) (fun c4 => ?_) (fun c4 => ?_)
  · have hf := mm_f c4 hf
    refine mj_aload_n X dX8_read_10 0 rfl ?_
    refine mj_get X inwX8_read_X8 (my_at my_oX8 h1) rfl 23 (by decide) rfl lnX8_read_0 rfl dX8_read_11 ?_
    refine mj_iload_n X dX8_read_14 1 rfl ?_
    obtain ⟨g5, hf⟩ := mm_g hf
    refine mj_zald X 1 (my_at my_a20 h1) rfl g5 dX8_read_15 ?_
    refine mj_if_ne (tgt := 25) X dX8_read_16 (by decide) (fun c6 => ?_) (fun c6 => ?_)
    · have hf := mm_f c6 hf
      refine mj_iconst (v := (0 : Int32)) X dX8_read_25 (by decide) ?_
      refine mj_istore_n (lo' := [(2, .int (0 : Int32)), (0, .ref (ad 0)), (1, .int a0)]) X dX8_read_26 (by decide) rfl ?_
      refine mj_sub [1, 2, 0] rfl (wX8_read_L27 X out RET N a0 _ (fun h17 v18 hf => ?_) N h1 (0 : Int32) hf)
      refine mj_iload_n X dX8_read_86 0 rfl ?_
      exact RET h17 _ _ _ dX8_read_87 (Option.some.inj hf)
    · have hf := mm_t c6 hf
      refine mj_aload_n X dX8_read_19 0 rfl ?_
      refine mj_iconst (v := (1 : Int32)) X dX8_read_20 (by decide) ?_
      obtain ⟨h19, r20, q21, hf⟩ := mm_c hf
      refine mj_callVi (As := [.int (1 : Int32)]) (rest := []) X (kX8_meets l D t1 t2 cI cZ ad N h1 (1 : Int32) h19 r20 q21) (cwV 1 X.2.2.2.2.1 gX8_read_X8_meets rfl rfl rfl (by decide +kernel) ⟨Nat.le_of_ble_eq_true rfl, Nat.le_of_ble_eq_true rfl⟩) (my_at my_oX8 h1) rfl rfl rfl rfl (Nat.le_of_ble_eq_true rfl) ⟨Nat.zero_le _, Nat.zero_le _⟩ dX8_read_21 ?_
      exact RET h19 _ _ _ dX8_read_24 (Option.some.inj hf)
  · have hf := mm_t c4 hf
    refine mj_bipush (v := (-2 : Int32)) X dX8_read_7 (by decide) ?_
    exact RET h1 _ _ _ dX8_read_9 (Option.some.inj hf)
abbrev rmX8_set : Room := { frames := 1, cells := 0, slots := 0, locals := 22 }
theorem inwX8_set_X8 : ∀ w ∈ wsX80, w ∈ wsX8_set := by
  intro w hw
  have h9 : wsX80 = (wsX8_set.drop 6).take 29 := rfl
  rw [h9] at hw
  exact List.mem_of_mem_drop (List.mem_of_mem_take hw)
theorem lnX8_set_0 : Cond.fieldLink RX8 31 "RichestPaysModel" "setting" "[I" ∈ wsX8_set := List.mem_of_getElem? (i := 1) rfl
set_option maxHeartbeats 4000000 in
set_option maxRecDepth 100000 in
theorem kX8_set (l : Launch) (D : va_G) (t1 t2 : Nat) (cI : ClassId) (cZ : ClassId) (ad : Nat → Nat)  (N : Nat) (h : mm_M) (a0 : Int32) (a1 : Int32) (h1 : mm_M) (r : Int32) (hf : fX8_set N h a0 a1 = some (h1, r)) : mm_Ki l yX8_set wsX8_set rmX8_set D (my_ty cI cZ) t1 t2 (my_w cI cZ ad) [.ref (ad 0), .int a0, .int a1] h r h1 := by
  refine mm_open_i [.ref (ad 0), .int a0, .int a1] h r h1 RX8 (by decide) rfl rfl (Nat.le_of_ble_eq_true rfl) ?_
  intro p e s m below meth c A X hr hlocks
  have RET : ∀ (h : mm_M) (pc : Nat) (lo : List (Nat × Value)) (v : Int32), decode cX8_set pc = .ok (.ireturn, 1) → (h, v) = (h1, r) → mm_J p l e rmX8_set s m ([.ref (ad 0), .int a0, .int a1] : List Value).toArray below meth c 0 0 (MQ below (va_Qi (fun (r' : Int32) (u : mm_M) => r' = r ∧ u = h1) (mm_Post D (my_w cI cZ ad) A) A) ([.ref (ad 0), .int a0, .int a1] : List Value).toArray s 0 0 A) D (my_w cI cZ ad) A 4 h pc lo [.int v] := by
    intro h2 pc lo v hd he
    cases he
    exact mj_iret X hr rfl hlocks hd
  generalize hout : (h1, r) = out at hf RET
  unfold fX8_set at hf
  refine mj_lo (lo' := [(0, .ref (ad 0)), (1, .int a0), (2, .int a1)]) rfl ?_
  refine mj_iload_n X dX8_set_0 1 rfl ?_
  refine mj_iconst (v := (0 : Int32)) X dX8_set_1 (by decide) ?_
  refine mj_iconst (v := (1 : Int32)) X dX8_set_2 (by decide) ?_
  obtain ⟨h1, r2, q3, hf⟩ := mm_c hf
  refine mj_callSi (As := [.int a0, .int (0 : Int32), .int (1 : Int32)]) (rest := []) X (kX8_in l D t1 t2 cI cZ ad N h a0 (0 : Int32) (1 : Int32) h1 r2 q3) (va_cwS 3 X.2.2.2.2.1 gX8_set_X8_in rfl rfl rfl (by decide +kernel) ⟨Nat.le_of_ble_eq_true rfl, Nat.le_of_ble_eq_true rfl⟩) rfl rfl (Nat.le_of_ble_eq_true rfl) ⟨Nat.zero_le _, Nat.zero_le _⟩ dX8_set_3 ?_
  refine mj_if_eq (tgt := 20) X dX8_set_6 (by decide) (fun c4 => ?_) (fun c4 => ?_)
  · have hf := mm_t c4 hf
    refine mj_bipush (v := (-2 : Int32)) X dX8_set_20 (by decide) ?_
    exact RET h1 _ _ _ dX8_set_22 (Option.some.inj hf)
  · have hf := mm_f c4 hf
    refine mj_iload_n X dX8_set_9 2 rfl ?_
    refine mj_iconst (v := (0 : Int32)) X dX8_set_10 (by decide) ?_
    refine mj_iconst (v := (2 : Int32)) X dX8_set_11 (by decide) ?_
    refine mj_iload_n X dX8_set_12 1 rfl ?_
    refine mj_isub X dX8_set_13 ?_
    obtain ⟨h5, r6, q7, hf⟩ := mm_c hf
    refine mj_callSi (As := [.int a1, .int (0 : Int32), .int ((2 : Int32) - a0)]) (rest := []) X (kX8_in l D t1 t2 cI cZ ad N h1 a1 (0 : Int32) (((2 : Int32) - a0)) h5 r6 q7) (va_cwS 3 X.2.2.2.2.1 gX8_set_X8_in rfl rfl rfl (by decide +kernel) ⟨Nat.le_of_ble_eq_true rfl, Nat.le_of_ble_eq_true rfl⟩) rfl rfl (Nat.le_of_ble_eq_true rfl) ⟨Nat.zero_le _, Nat.zero_le _⟩ dX8_set_14 ?_
    refine mj_if_ne (tgt := 23) X dX8_set_17 (by decide) (fun c8 => ?_) (fun c8 => ?_)
    · have hf := mm_f c8 hf
      refine mj_aload_n X dX8_set_23 0 rfl ?_
      refine mj_get X inwX8_set_X8 (my_at my_oX8 h5) rfl 9 (by decide) rfl lnX8_set_0 rfl dX8_set_24 ?_
      refine mj_iload_n X dX8_set_27 1 rfl ?_
      obtain ⟨g9, hf⟩ := mm_g hf
      refine mj_iald X 0 (my_at my_a8 h5) rfl g9 dX8_set_28 ?_
      obtain ⟨x10, ex10, hf⟩ := mm_l hf
      refine mj_topi ex10 ?_
      refine mj_istore_n (lo' := [(3, .int x10), (0, .ref (ad 0)), (1, .int a0), (2, .int a1)]) X dX8_set_29 (by decide) rfl ?_
      refine mj_aload_n X dX8_set_30 1 rfl ?_
      refine mj_get X inwX8_set_X8 (my_at my_oX8 h5) rfl 9 (by decide) rfl lnX8_set_0 rfl dX8_set_31 ?_
      refine mj_iload_n X dX8_set_34 2 rfl ?_
      refine mj_iload_n X dX8_set_35 3 rfl ?_
      obtain ⟨h11, eh11, hf⟩ := mm_l hf
      refine mj_iast X 0 (my_at my_a8 h5) rfl g9 (my_ast my_a8 eh11) dX8_set_36 ?_
      refine mj_iload_n X dX8_set_37 0 rfl ?_
      exact RET h11 _ _ _ dX8_set_38 (Option.some.inj hf)
    · have hf := mm_t c8 hf
      refine mj_bipush (v := (-2 : Int32)) X dX8_set_20 (by decide) ?_
      exact RET h5 _ _ _ dX8_set_22 (Option.some.inj hf)
abbrev rmX8_atFirst : Room := { frames := 0, cells := 0, slots := 0, locals := 0 }
theorem inwX8_atFirst_X8 : ∀ w ∈ wsX80, w ∈ wsX8_atFirst := by
  intro w hw
  have h9 : wsX80 = (wsX8_atFirst.drop 5).take 29 := rfl
  rw [h9] at hw
  exact List.mem_of_mem_drop (List.mem_of_mem_take hw)
theorem lnX8_atFirst_0 : Cond.fieldLink RX8 89 "RichestPaysModel" "people" "I" ∈ wsX8_atFirst := List.mem_of_getElem? (i := 1) rfl
theorem lnX8_atFirst_1 : Cond.fieldLink RX8 34 "RichestPaysModel" "hand" "[I" ∈ wsX8_atFirst := List.mem_of_getElem? (i := 2) rfl
theorem lnX8_atFirst_2 : Cond.fieldLink RX8 16 "RichestPaysModel" "purses" "[I" ∈ wsX8_atFirst := List.mem_of_getElem? (i := 3) rfl
theorem lnX8_atFirst_3 : Cond.fieldLink RX8 25 "RichestPaysModel" "homes" "[I" ∈ wsX8_atFirst := List.mem_of_getElem? (i := 4) rfl
set_option maxHeartbeats 4000000 in
set_option maxRecDepth 100000 in
theorem wX8_atFirst_L2 (X : mm_X p s m args c cX8_atFirst RX8 wsX8_atFirst 2 D (my_ty cI cZ) t1 t2 A) (out : mm_M × Unit) (RET : ∀ (h : mm_M) (pc : Nat) (lo : List (Nat × Value)) (v : Unit), decode cX8_atFirst pc = .ok (.return_, 1) → (h, v) = out → mm_J p l e rmX8_atFirst s m args below meth c 0 0 Q D (my_w cI cZ ad) A 2 h pc lo []) (N : Nat)   (k : mm_M → Option (mm_M × Unit)) (HK : ∀ (h : mm_M), k h = some out → mm_J p l e rmX8_atFirst s m args below meth c 0 0 Q D (my_w cI cZ ad) A 2 h 54 [] []) : ∀ (n : Nat) (h : mm_M) (m1 : Int32), fX8_atFirst_L2 N k n h m1 = some out → mm_J p l e rmX8_atFirst s m args below meth c 0 0 Q D (my_w cI cZ ad) A 2 h 2 [(0, .ref (ad 0)), (1, .int m1)] [] := by
  intro n
  induction n with
  | zero =>
    intro h m1 hf
    cases hf
  | succ n ih =>
    intro h m1 hf
    rw [fX8_atFirst_L2] at hf
    refine mj_iload_n X dX8_atFirst_2 1 rfl ?_
    refine mj_aload_n X dX8_atFirst_3 0 rfl ?_
    refine mj_get X inwX8_atFirst_X8 (my_at my_oX8 h) rfl 2 (by decide) rfl lnX8_atFirst_0 rfl dX8_atFirst_4 ?_
    refine mj_icmp_ge (tgt := 54) X dX8_atFirst_7 (by decide) (fun c1 => ?_) (fun c1 => ?_)
    · have hf := mm_t c1 hf
      exact mj_sub [] rfl (HK h hf)
    · have hf := mm_f c1 hf
      refine mj_aload_n X dX8_atFirst_10 0 rfl ?_
      refine mj_get X inwX8_atFirst_X8 (my_at my_oX8 h) rfl 10 (by decide) rfl lnX8_atFirst_1 rfl dX8_atFirst_11 ?_
      refine mj_iload_n X dX8_atFirst_14 1 rfl ?_
      refine mj_aload_n X dX8_atFirst_15 0 rfl ?_
      refine mj_get X inwX8_atFirst_X8 (my_at my_oX8 h) rfl 3 (by decide) rfl lnX8_atFirst_2 rfl dX8_atFirst_16 ?_
      refine mj_iload_n X dX8_atFirst_19 1 rfl ?_
      obtain ⟨g2, hf⟩ := mm_g hf
      refine mj_iald X 0 (my_at my_a3 h) rfl g2 dX8_atFirst_20 ?_
      refine mj_aload_n X dX8_atFirst_21 0 rfl ?_
      refine mj_get X inwX8_atFirst_X8 (my_at my_oX8 h) rfl 7 (by decide) rfl lnX8_atFirst_3 rfl dX8_atFirst_22 ?_
      refine mj_iload_n X dX8_atFirst_25 1 rfl ?_
      obtain ⟨g3, hf⟩ := mm_g hf
      refine mj_iald X 0 (my_at my_a6 h) rfl g3 dX8_atFirst_26 ?_
      refine mj_icmp_le (tgt := 46) X dX8_atFirst_27 (by decide) (fun c4 => ?_) (fun c4 => ?_)
      · have hf := mm_t c4 hf
        refine mj_iconst (v := (0 : Int32)) X dX8_atFirst_46 (by decide) ?_
        obtain ⟨h5, eh5, hf⟩ := mm_l hf
        refine mj_iast X 0 (my_at my_a9 h) rfl g2 (my_ast my_a9 eh5) dX8_atFirst_47 ?_
        refine mj_iinc (k := 1) (v := (m1 + 1)) (lo' := [(1, .int (m1 + 1)), (0, .ref (ad 0))]) X dX8_atFirst_48 rfl rfl (by decide) rfl ?_
        refine mj_goto (tgt := 2) X dX8_atFirst_51 (by decide) ?_
        exact mj_sub [1, 0] rfl (ih h5 (m1 + 1) hf)
      · have hf := mm_f c4 hf
        refine mj_aload_n X dX8_atFirst_30 0 rfl ?_
        refine mj_get X inwX8_atFirst_X8 (my_at my_oX8 h) rfl 3 (by decide) rfl lnX8_atFirst_2 rfl dX8_atFirst_31 ?_
        refine mj_iload_n X dX8_atFirst_34 1 rfl ?_
        refine mj_iald X 0 (my_at my_a3 h) rfl g2 dX8_atFirst_35 ?_
        refine mj_aload_n X dX8_atFirst_36 0 rfl ?_
        refine mj_get X inwX8_atFirst_X8 (my_at my_oX8 h) rfl 7 (by decide) rfl lnX8_atFirst_3 rfl dX8_atFirst_37 ?_
        refine mj_iload_n X dX8_atFirst_40 1 rfl ?_
        refine mj_iald X 0 (my_at my_a6 h) rfl g3 dX8_atFirst_41 ?_
        refine mj_isub X dX8_atFirst_42 ?_
        refine mj_goto (tgt := 47) X dX8_atFirst_43 (by decide) ?_
        obtain ⟨h6, eh6, hf⟩ := mm_l hf
        refine mj_iast X 0 (my_at my_a9 h) rfl g2 (my_ast my_a9 eh6) dX8_atFirst_47 ?_
        refine mj_iinc (k := 1) (v := (m1 + 1)) (lo' := [(1, .int (m1 + 1)), (0, .ref (ad 0))]) X dX8_atFirst_48 rfl rfl (by decide) rfl ?_
        refine mj_goto (tgt := 2) X dX8_atFirst_51 (by decide) ?_
        exact mj_sub [1, 0] rfl (ih h6 (m1 + 1) hf)
set_option maxHeartbeats 4000000 in
set_option maxRecDepth 100000 in
theorem kX8_atFirst (l : Launch) (D : va_G) (t1 t2 : Nat) (cI : ClassId) (cZ : ClassId) (ad : Nat → Nat)  (N : Nat) (h : mm_M)  (h1 : mm_M) (r : Unit) (hf : fX8_atFirst N h = some (h1, r)) : mm_Kv l yX8_atFirst wsX8_atFirst rmX8_atFirst D (my_ty cI cZ) t1 t2 (my_w cI cZ ad) [.ref (ad 0)] h h1 := by
  refine mm_open_v [.ref (ad 0)] h h1 RX8 (by decide) rfl rfl (Nat.le_of_ble_eq_true rfl) ?_
  intro p e s m below meth c A X hr hlocks
  have RET : ∀ (h : mm_M) (pc : Nat) (lo : List (Nat × Value)) (v : Unit), decode cX8_atFirst pc = .ok (.return_, 1) → (h, v) = (h1, r) → mm_J p l e rmX8_atFirst s m ([.ref (ad 0)] : List Value).toArray below meth c 0 0 (MQ below (va_Qv (fun (u : mm_M) => u = h1) (mm_Post D (my_w cI cZ ad) A) A) ([.ref (ad 0)] : List Value).toArray s 0 0 A) D (my_w cI cZ ad) A 2 h pc lo [] := by
    intro h2 pc lo v hd he
    cases he
    exact mj_vret X hr hlocks hd
  generalize hout : (h1, r) = out at hf RET
  unfold fX8_atFirst at hf
  refine mj_lo (lo' := [(0, .ref (ad 0))]) rfl ?_
  refine mj_iconst (v := (0 : Int32)) X dX8_atFirst_0 (by decide) ?_
  refine mj_istore_n (lo' := [(1, .int (0 : Int32)), (0, .ref (ad 0))]) X dX8_atFirst_1 (by decide) rfl ?_
  refine mj_sub [1, 0] rfl (wX8_atFirst_L2 X out RET N _ (fun h7 hf => ?_) N h (0 : Int32) hf)
  exact RET h7 _ _ _ dX8_atFirst_54 (Option.some.inj hf)
abbrev rmX8_firstAt : Room := { frames := 0, cells := 0, slots := 0, locals := 0 }
theorem inwX8_firstAt_X8 : ∀ w ∈ wsX80, w ∈ wsX8_firstAt := by
  intro w hw
  have h9 : wsX80 = (wsX8_firstAt.drop 5).take 29 := rfl
  rw [h9] at hw
  exact List.mem_of_mem_drop (List.mem_of_mem_take hw)
theorem lnX8_firstAt_0 : Cond.fieldLink RX8 89 "RichestPaysModel" "people" "I" ∈ wsX8_firstAt := List.mem_of_getElem? (i := 1) rfl
theorem lnX8_firstAt_1 : Cond.fieldLink RX8 37 "RichestPaysModel" "seat" "[I" ∈ wsX8_firstAt := List.mem_of_getElem? (i := 4) rfl
theorem lnX8_firstAt_2 : Cond.fieldLink RX8 34 "RichestPaysModel" "hand" "[I" ∈ wsX8_firstAt := List.mem_of_getElem? (i := 2) rfl
theorem lnX8_firstAt_3 : Cond.fieldLink RX8 31 "RichestPaysModel" "setting" "[I" ∈ wsX8_firstAt := List.mem_of_getElem? (i := 3) rfl
set_option maxHeartbeats 4000000 in
set_option maxRecDepth 100000 in
theorem wX8_firstAt_L5 (X : mm_X p s m args c cX8_firstAt RX8 wsX8_firstAt 6 D (my_ty cI cZ) t1 t2 A) (out : mm_M × Int32) (RET : ∀ (h : mm_M) (pc : Nat) (lo : List (Nat × Value)) (v : Int32), decode cX8_firstAt pc = .ok (.ireturn, 1) → (h, v) = out → mm_J p l e rmX8_firstAt s m args below meth c 0 0 Q D (my_w cI cZ ad) A 6 h pc lo [.int v]) (N : Nat)  (p1 : Int32) (p2 : Int32) (k : mm_M → Int32 → Option (mm_M × Int32)) (HK : ∀ (h : mm_M) (m3 : Int32), k h m3 = some out → mm_J p l e rmX8_firstAt s m args below meth c 0 0 Q D (my_w cI cZ ad) A 6 h 103 [(3, .int m3)] []) : ∀ (n : Nat) (h : mm_M) (m3 : Int32) (m4 : Int32), fX8_firstAt_L5 N p1 p2 k n h m3 m4 = some out → mm_J p l e rmX8_firstAt s m args below meth c 0 0 Q D (my_w cI cZ ad) A 6 h 5 [(0, .ref (ad 0)), (1, .int p1), (2, .int p2), (3, .int m3), (4, .int m4)] [] := by
  intro n
  induction n with
  | zero =>
    intro h m3 m4 hf
    cases hf
  | succ n ih =>
    intro h m3 m4 hf
    rw [fX8_firstAt_L5] at hf
    refine mj_iload X dX8_firstAt_5 4 rfl ?_
    refine mj_aload_n X dX8_firstAt_7 0 rfl ?_
    refine mj_get X inwX8_firstAt_X8 (my_at my_oX8 h) rfl 2 (by decide) rfl lnX8_firstAt_0 rfl dX8_firstAt_8 ?_
    refine mj_icmp_ge (tgt := 103) X dX8_firstAt_11 (by decide) (fun c1 => ?_) (fun c1 => ?_)
    · have hf := mm_t c1 hf
      exact mj_sub [3] rfl (HK h m3 hf)
    · have hf := mm_f c1 hf
      refine mj_iload_n X dX8_firstAt_14 3 rfl ?_
      refine mj_iconst (v := (-1 : Int32)) X dX8_firstAt_15 (by decide) ?_
      refine mj_icmp_eq (tgt := 61) X dX8_firstAt_16 (by decide) (fun c2 => ?_) (fun c2 => ?_)
      · have hf := mm_t c2 hf
        refine mj_iconst (v := (1 : Int32)) X dX8_firstAt_61 (by decide) ?_
        refine mj_goto (tgt := 66) X dX8_firstAt_62 (by decide) ?_
        refine mj_istore (lo' := [(5, .int (1 : Int32)), (0, .ref (ad 0)), (1, .int p1), (2, .int p2), (3, .int m3), (4, .int m4)]) X dX8_firstAt_66 (by decide) rfl ?_
        refine mj_aload_n X dX8_firstAt_68 1 rfl ?_
        refine mj_get X inwX8_firstAt_X8 (my_at my_oX8 h) rfl 11 (by decide) rfl lnX8_firstAt_1 rfl dX8_firstAt_69 ?_
        refine mj_iload X dX8_firstAt_72 5 rfl ?_
        obtain ⟨g3, hf⟩ := mm_g hf
        refine mj_iald X 0 (my_at my_a10 h) rfl g3 dX8_firstAt_74 ?_
        refine mj_iload_n X dX8_firstAt_75 2 rfl ?_
        refine mj_icmp_ne (tgt := 95) X dX8_firstAt_76 (by decide) (fun c4 => ?_) (fun c4 => ?_)
        · have hf := mm_f c4 hf
          refine mj_iload_n X dX8_firstAt_95 4 rfl ?_
          refine mj_istore_n (lo' := [(3, .int m3), (5, .int (1 : Int32)), (0, .ref (ad 0)), (1, .int p1), (2, .int p2), (4, .int m4)]) X dX8_firstAt_96 (by decide) rfl ?_
          refine mj_iinc (k := 5) (v := (m4 + 1)) (lo' := [(4, .int (m4 + 1)), (3, .int m3), (5, .int (1 : Int32)), (0, .ref (ad 0)), (1, .int p1), (2, .int p2)]) X dX8_firstAt_97 rfl rfl (by decide) rfl ?_
          refine mj_goto (tgt := 5) X dX8_firstAt_100 (by decide) ?_
          exact mj_sub [3, 4, 5, 1, 0] rfl (ih h m3 (m4 + 1) hf)
        · have hf := mm_t c4 hf
          refine mj_iload X dX8_firstAt_79 5 rfl ?_
          refine mj_iload_n X dX8_firstAt_81 3 rfl ?_
          refine mj_icmp_eq (tgt := 95) X dX8_firstAt_82 (by decide) (fun c5 => ?_) (fun c5 => ?_)
          · have hf := mm_t c5 hf
            refine mj_iload_n X dX8_firstAt_95 4 rfl ?_
            refine mj_istore_n (lo' := [(3, .int m3), (5, .int (1 : Int32)), (0, .ref (ad 0)), (1, .int p1), (2, .int p2), (4, .int m4)]) X dX8_firstAt_96 (by decide) rfl ?_
            refine mj_iinc (k := 5) (v := (m4 + 1)) (lo' := [(4, .int (m4 + 1)), (3, .int m3), (5, .int (1 : Int32)), (0, .ref (ad 0)), (1, .int p1), (2, .int p2)]) X dX8_firstAt_97 rfl rfl (by decide) rfl ?_
            refine mj_goto (tgt := 5) X dX8_firstAt_100 (by decide) ?_
            exact mj_sub [3, 4, 5, 1, 0] rfl (ih h m3 (m4 + 1) hf)
          · have hf := mm_f c5 hf
            refine mj_iload X dX8_firstAt_85 0 rfl ?_
            refine mj_if_eq (tgt := 95) X dX8_firstAt_87 (by decide) (fun c6 => absurd c6 (by decide)) (fun _ => ?_)
            refine mj_iload X dX8_firstAt_90 5 rfl ?_
            refine mj_goto (tgt := 96) X dX8_firstAt_92 (by decide) ?_
            refine mj_istore_n (lo' := [(3, .int m4), (5, .int (1 : Int32)), (0, .ref (ad 0)), (1, .int p1), (2, .int p2), (4, .int m4)]) X dX8_firstAt_96 (by decide) rfl ?_
            refine mj_iinc (k := 5) (v := (m4 + 1)) (lo' := [(4, .int (m4 + 1)), (3, .int m4), (5, .int (1 : Int32)), (0, .ref (ad 0)), (1, .int p1), (2, .int p2)]) X dX8_firstAt_97 rfl rfl (by decide) rfl ?_
            refine mj_goto (tgt := 5) X dX8_firstAt_100 (by decide) ?_
            exact mj_sub [3, 4, 5, 1, 0] rfl (ih h m4 (m4 + 1) hf)
      · have hf := mm_f c2 hf
        refine mj_aload_n X dX8_firstAt_19 0 rfl ?_
        refine mj_get X inwX8_firstAt_X8 (my_at my_oX8 h) rfl 10 (by decide) rfl lnX8_firstAt_2 rfl dX8_firstAt_20 ?_
        refine mj_iload X dX8_firstAt_23 4 rfl ?_
        obtain ⟨g7, hf⟩ := mm_g hf
        refine mj_iald X 0 (my_at my_a9 h) rfl g7 dX8_firstAt_25 ?_
        refine mj_aload_n X dX8_firstAt_26 0 rfl ?_
        refine mj_get X inwX8_firstAt_X8 (my_at my_oX8 h) rfl 10 (by decide) rfl lnX8_firstAt_2 rfl dX8_firstAt_27 ?_
        refine mj_iload_n X dX8_firstAt_30 3 rfl ?_
        obtain ⟨g8, hf⟩ := mm_g hf
        refine mj_iald X 0 (my_at my_a9 h) rfl g8 dX8_firstAt_31 ?_
        refine mj_icmp_gt (tgt := 61) X dX8_firstAt_32 (by decide) (fun c9 => ?_) (fun c9 => ?_)
        · have hf := mm_t c9 hf
          refine mj_iconst (v := (1 : Int32)) X dX8_firstAt_61 (by decide) ?_
          refine mj_goto (tgt := 66) X dX8_firstAt_62 (by decide) ?_
          refine mj_istore (lo' := [(5, .int (1 : Int32)), (0, .ref (ad 0)), (1, .int p1), (2, .int p2), (3, .int m3), (4, .int m4)]) X dX8_firstAt_66 (by decide) rfl ?_
          refine mj_aload_n X dX8_firstAt_68 1 rfl ?_
          refine mj_get X inwX8_firstAt_X8 (my_at my_oX8 h) rfl 11 (by decide) rfl lnX8_firstAt_1 rfl dX8_firstAt_69 ?_
          refine mj_iload X dX8_firstAt_72 5 rfl ?_
          refine mj_iald X 0 (my_at my_a10 h) rfl g7 dX8_firstAt_74 ?_
          refine mj_iload_n X dX8_firstAt_75 2 rfl ?_
          refine mj_icmp_ne (tgt := 95) X dX8_firstAt_76 (by decide) (fun c10 => ?_) (fun c10 => ?_)
          · have hf := mm_f c10 hf
            refine mj_iload_n X dX8_firstAt_95 4 rfl ?_
            refine mj_istore_n (lo' := [(3, .int m3), (5, .int (1 : Int32)), (0, .ref (ad 0)), (1, .int p1), (2, .int p2), (4, .int m4)]) X dX8_firstAt_96 (by decide) rfl ?_
            refine mj_iinc (k := 5) (v := (m4 + 1)) (lo' := [(4, .int (m4 + 1)), (3, .int m3), (5, .int (1 : Int32)), (0, .ref (ad 0)), (1, .int p1), (2, .int p2)]) X dX8_firstAt_97 rfl rfl (by decide) rfl ?_
            refine mj_goto (tgt := 5) X dX8_firstAt_100 (by decide) ?_
            exact mj_sub [3, 4, 5, 1, 0] rfl (ih h m3 (m4 + 1) hf)
          · have hf := mm_t c10 hf
            refine mj_iload X dX8_firstAt_79 5 rfl ?_
            refine mj_iload_n X dX8_firstAt_81 3 rfl ?_
            refine mj_icmp_eq (tgt := 95) X dX8_firstAt_82 (by decide) (fun c11 => ?_) (fun c11 => ?_)
            · have hf := mm_t c11 hf
              refine mj_iload_n X dX8_firstAt_95 4 rfl ?_
              refine mj_istore_n (lo' := [(3, .int m3), (5, .int (1 : Int32)), (0, .ref (ad 0)), (1, .int p1), (2, .int p2), (4, .int m4)]) X dX8_firstAt_96 (by decide) rfl ?_
              refine mj_iinc (k := 5) (v := (m4 + 1)) (lo' := [(4, .int (m4 + 1)), (3, .int m3), (5, .int (1 : Int32)), (0, .ref (ad 0)), (1, .int p1), (2, .int p2)]) X dX8_firstAt_97 rfl rfl (by decide) rfl ?_
              refine mj_goto (tgt := 5) X dX8_firstAt_100 (by decide) ?_
              exact mj_sub [3, 4, 5, 1, 0] rfl (ih h m3 (m4 + 1) hf)
            · have hf := mm_f c11 hf
              refine mj_iload X dX8_firstAt_85 0 rfl ?_
              refine mj_if_eq (tgt := 95) X dX8_firstAt_87 (by decide) (fun c12 => absurd c12 (by decide)) (fun _ => ?_)
              refine mj_iload X dX8_firstAt_90 5 rfl ?_
              refine mj_goto (tgt := 96) X dX8_firstAt_92 (by decide) ?_
              refine mj_istore_n (lo' := [(3, .int m4), (5, .int (1 : Int32)), (0, .ref (ad 0)), (1, .int p1), (2, .int p2), (4, .int m4)]) X dX8_firstAt_96 (by decide) rfl ?_
              refine mj_iinc (k := 5) (v := (m4 + 1)) (lo' := [(4, .int (m4 + 1)), (3, .int m4), (5, .int (1 : Int32)), (0, .ref (ad 0)), (1, .int p1), (2, .int p2)]) X dX8_firstAt_97 rfl rfl (by decide) rfl ?_
              refine mj_goto (tgt := 5) X dX8_firstAt_100 (by decide) ?_
              exact mj_sub [3, 4, 5, 1, 0] rfl (ih h m4 (m4 + 1) hf)
        · have hf := mm_f c9 hf
          refine mj_aload_n X dX8_firstAt_35 0 rfl ?_
          refine mj_get X inwX8_firstAt_X8 (my_at my_oX8 h) rfl 10 (by decide) rfl lnX8_firstAt_2 rfl dX8_firstAt_36 ?_
          refine mj_iload X dX8_firstAt_39 4 rfl ?_
          refine mj_iald X 0 (my_at my_a9 h) rfl g7 dX8_firstAt_41 ?_
          refine mj_aload_n X dX8_firstAt_42 0 rfl ?_
          refine mj_get X inwX8_firstAt_X8 (my_at my_oX8 h) rfl 10 (by decide) rfl lnX8_firstAt_2 rfl dX8_firstAt_43 ?_
          refine mj_iload_n X dX8_firstAt_46 3 rfl ?_
          refine mj_iald X 0 (my_at my_a9 h) rfl g8 dX8_firstAt_47 ?_
          refine mj_icmp_ne (tgt := 65) X dX8_firstAt_48 (by decide) (fun c13 => ?_) (fun c13 => ?_)
          · have hf := mm_f c13 hf
            refine mj_iconst (v := (0 : Int32)) X dX8_firstAt_65 (by decide) ?_
            refine mj_istore (lo' := [(5, .int (0 : Int32)), (0, .ref (ad 0)), (1, .int p1), (2, .int p2), (3, .int m3), (4, .int m4)]) X dX8_firstAt_66 (by decide) rfl ?_
            refine mj_aload_n X dX8_firstAt_68 1 rfl ?_
            refine mj_get X inwX8_firstAt_X8 (my_at my_oX8 h) rfl 11 (by decide) rfl lnX8_firstAt_1 rfl dX8_firstAt_69 ?_
            refine mj_iload X dX8_firstAt_72 5 rfl ?_
            refine mj_iald X 0 (my_at my_a10 h) rfl g7 dX8_firstAt_74 ?_
            refine mj_iload_n X dX8_firstAt_75 2 rfl ?_
            refine mj_icmp_ne (tgt := 95) X dX8_firstAt_76 (by decide) (fun c14 => ?_) (fun c14 => ?_)
            · have hf := mm_f c14 hf
              refine mj_iload_n X dX8_firstAt_95 4 rfl ?_
              refine mj_istore_n (lo' := [(3, .int m3), (5, .int (0 : Int32)), (0, .ref (ad 0)), (1, .int p1), (2, .int p2), (4, .int m4)]) X dX8_firstAt_96 (by decide) rfl ?_
              refine mj_iinc (k := 5) (v := (m4 + 1)) (lo' := [(4, .int (m4 + 1)), (3, .int m3), (5, .int (0 : Int32)), (0, .ref (ad 0)), (1, .int p1), (2, .int p2)]) X dX8_firstAt_97 rfl rfl (by decide) rfl ?_
              refine mj_goto (tgt := 5) X dX8_firstAt_100 (by decide) ?_
              exact mj_sub [3, 4, 5, 1, 0] rfl (ih h m3 (m4 + 1) hf)
            · have hf := mm_t c14 hf
              refine mj_iload X dX8_firstAt_79 5 rfl ?_
              refine mj_iload_n X dX8_firstAt_81 3 rfl ?_
              refine mj_icmp_eq (tgt := 95) X dX8_firstAt_82 (by decide) (fun c15 => ?_) (fun c15 => ?_)
              · have hf := mm_t c15 hf
                refine mj_iload_n X dX8_firstAt_95 4 rfl ?_
                refine mj_istore_n (lo' := [(3, .int m3), (5, .int (0 : Int32)), (0, .ref (ad 0)), (1, .int p1), (2, .int p2), (4, .int m4)]) X dX8_firstAt_96 (by decide) rfl ?_
                refine mj_iinc (k := 5) (v := (m4 + 1)) (lo' := [(4, .int (m4 + 1)), (3, .int m3), (5, .int (0 : Int32)), (0, .ref (ad 0)), (1, .int p1), (2, .int p2)]) X dX8_firstAt_97 rfl rfl (by decide) rfl ?_
                refine mj_goto (tgt := 5) X dX8_firstAt_100 (by decide) ?_
                exact mj_sub [3, 4, 5, 1, 0] rfl (ih h m3 (m4 + 1) hf)
              · have hf := mm_f c15 hf
                refine mj_iload X dX8_firstAt_85 0 rfl ?_
                refine mj_if_eq (tgt := 95) X dX8_firstAt_87 (by decide) (fun _ => ?_) (fun c16 => absurd c16 (by decide))
                refine mj_iload_n X dX8_firstAt_95 4 rfl ?_
                refine mj_istore_n (lo' := [(3, .int m3), (5, .int (0 : Int32)), (0, .ref (ad 0)), (1, .int p1), (2, .int p2), (4, .int m4)]) X dX8_firstAt_96 (by decide) rfl ?_
                refine mj_iinc (k := 5) (v := (m4 + 1)) (lo' := [(4, .int (m4 + 1)), (3, .int m3), (5, .int (0 : Int32)), (0, .ref (ad 0)), (1, .int p1), (2, .int p2)]) X dX8_firstAt_97 rfl rfl (by decide) rfl ?_
                refine mj_goto (tgt := 5) X dX8_firstAt_100 (by decide) ?_
                exact mj_sub [3, 4, 5, 1, 0] rfl (ih h m3 (m4 + 1) hf)
          · have hf := mm_t c13 hf
            refine mj_aload_n X dX8_firstAt_51 0 rfl ?_
            refine mj_get X inwX8_firstAt_X8 (my_at my_oX8 h) rfl 9 (by decide) rfl lnX8_firstAt_3 rfl dX8_firstAt_52 ?_
            refine mj_iconst (v := (1 : Int32)) X dX8_firstAt_55 (by decide) ?_
            refine mj_iald X 0 (my_at my_a8 h) rfl (by decide) dX8_firstAt_56 ?_
            refine mj_iconst (v := (1 : Int32)) X dX8_firstAt_57 (by decide) ?_
            refine mj_icmp_ne (tgt := 65) X dX8_firstAt_58 (by decide) (fun c17 => ?_) (fun c17 => ?_)
            · have hf := mm_f c17 hf
              refine mj_iconst (v := (0 : Int32)) X dX8_firstAt_65 (by decide) ?_
              refine mj_istore (lo' := [(5, .int (0 : Int32)), (0, .ref (ad 0)), (1, .int p1), (2, .int p2), (3, .int m3), (4, .int m4)]) X dX8_firstAt_66 (by decide) rfl ?_
              refine mj_aload_n X dX8_firstAt_68 1 rfl ?_
              refine mj_get X inwX8_firstAt_X8 (my_at my_oX8 h) rfl 11 (by decide) rfl lnX8_firstAt_1 rfl dX8_firstAt_69 ?_
              refine mj_iload X dX8_firstAt_72 5 rfl ?_
              refine mj_iald X 0 (my_at my_a10 h) rfl g7 dX8_firstAt_74 ?_
              refine mj_iload_n X dX8_firstAt_75 2 rfl ?_
              refine mj_icmp_ne (tgt := 95) X dX8_firstAt_76 (by decide) (fun c18 => ?_) (fun c18 => ?_)
              · have hf := mm_f c18 hf
                refine mj_iload_n X dX8_firstAt_95 4 rfl ?_
                refine mj_istore_n (lo' := [(3, .int m3), (5, .int (0 : Int32)), (0, .ref (ad 0)), (1, .int p1), (2, .int p2), (4, .int m4)]) X dX8_firstAt_96 (by decide) rfl ?_
                refine mj_iinc (k := 5) (v := (m4 + 1)) (lo' := [(4, .int (m4 + 1)), (3, .int m3), (5, .int (0 : Int32)), (0, .ref (ad 0)), (1, .int p1), (2, .int p2)]) X dX8_firstAt_97 rfl rfl (by decide) rfl ?_
                refine mj_goto (tgt := 5) X dX8_firstAt_100 (by decide) ?_
                exact mj_sub [3, 4, 5, 1, 0] rfl (ih h m3 (m4 + 1) hf)
              · have hf := mm_t c18 hf
                refine mj_iload X dX8_firstAt_79 5 rfl ?_
                refine mj_iload_n X dX8_firstAt_81 3 rfl ?_
                refine mj_icmp_eq (tgt := 95) X dX8_firstAt_82 (by decide) (fun c19 => ?_) (fun c19 => ?_)
                · have hf := mm_t c19 hf
                  refine mj_iload_n X dX8_firstAt_95 4 rfl ?_
                  refine mj_istore_n (lo' := [(3, .int m3), (5, .int (0 : Int32)), (0, .ref (ad 0)), (1, .int p1), (2, .int p2), (4, .int m4)]) X dX8_firstAt_96 (by decide) rfl ?_
                  refine mj_iinc (k := 5) (v := (m4 + 1)) (lo' := [(4, .int (m4 + 1)), (3, .int m3), (5, .int (0 : Int32)), (0, .ref (ad 0)), (1, .int p1), (2, .int p2)]) X dX8_firstAt_97 rfl rfl (by decide) rfl ?_
                  refine mj_goto (tgt := 5) X dX8_firstAt_100 (by decide) ?_
                  exact mj_sub [3, 4, 5, 1, 0] rfl (ih h m3 (m4 + 1) hf)
                · have hf := mm_f c19 hf
                  refine mj_iload X dX8_firstAt_85 0 rfl ?_
                  refine mj_if_eq (tgt := 95) X dX8_firstAt_87 (by decide) (fun _ => ?_) (fun c20 => absurd c20 (by decide))
                  refine mj_iload_n X dX8_firstAt_95 4 rfl ?_
                  refine mj_istore_n (lo' := [(3, .int m3), (5, .int (0 : Int32)), (0, .ref (ad 0)), (1, .int p1), (2, .int p2), (4, .int m4)]) X dX8_firstAt_96 (by decide) rfl ?_
                  refine mj_iinc (k := 5) (v := (m4 + 1)) (lo' := [(4, .int (m4 + 1)), (3, .int m3), (5, .int (0 : Int32)), (0, .ref (ad 0)), (1, .int p1), (2, .int p2)]) X dX8_firstAt_97 rfl rfl (by decide) rfl ?_
                  refine mj_goto (tgt := 5) X dX8_firstAt_100 (by decide) ?_
                  exact mj_sub [3, 4, 5, 1, 0] rfl (ih h m3 (m4 + 1) hf)
            · have hf := mm_t c17 hf
              refine mj_iconst (v := (1 : Int32)) X dX8_firstAt_61 (by decide) ?_
              refine mj_goto (tgt := 66) X dX8_firstAt_62 (by decide) ?_
              refine mj_istore (lo' := [(5, .int (1 : Int32)), (0, .ref (ad 0)), (1, .int p1), (2, .int p2), (3, .int m3), (4, .int m4)]) X dX8_firstAt_66 (by decide) rfl ?_
              refine mj_aload_n X dX8_firstAt_68 1 rfl ?_
              refine mj_get X inwX8_firstAt_X8 (my_at my_oX8 h) rfl 11 (by decide) rfl lnX8_firstAt_1 rfl dX8_firstAt_69 ?_
              refine mj_iload X dX8_firstAt_72 5 rfl ?_
              refine mj_iald X 0 (my_at my_a10 h) rfl g7 dX8_firstAt_74 ?_
              refine mj_iload_n X dX8_firstAt_75 2 rfl ?_
              refine mj_icmp_ne (tgt := 95) X dX8_firstAt_76 (by decide) (fun c21 => ?_) (fun c21 => ?_)
              · have hf := mm_f c21 hf
                refine mj_iload_n X dX8_firstAt_95 4 rfl ?_
                refine mj_istore_n (lo' := [(3, .int m3), (5, .int (1 : Int32)), (0, .ref (ad 0)), (1, .int p1), (2, .int p2), (4, .int m4)]) X dX8_firstAt_96 (by decide) rfl ?_
                refine mj_iinc (k := 5) (v := (m4 + 1)) (lo' := [(4, .int (m4 + 1)), (3, .int m3), (5, .int (1 : Int32)), (0, .ref (ad 0)), (1, .int p1), (2, .int p2)]) X dX8_firstAt_97 rfl rfl (by decide) rfl ?_
                refine mj_goto (tgt := 5) X dX8_firstAt_100 (by decide) ?_
                exact mj_sub [3, 4, 5, 1, 0] rfl (ih h m3 (m4 + 1) hf)
              · have hf := mm_t c21 hf
                refine mj_iload X dX8_firstAt_79 5 rfl ?_
                refine mj_iload_n X dX8_firstAt_81 3 rfl ?_
                refine mj_icmp_eq (tgt := 95) X dX8_firstAt_82 (by decide) (fun c22 => ?_) (fun c22 => ?_)
                · have hf := mm_t c22 hf
                  refine mj_iload_n X dX8_firstAt_95 4 rfl ?_
                  refine mj_istore_n (lo' := [(3, .int m3), (5, .int (1 : Int32)), (0, .ref (ad 0)), (1, .int p1), (2, .int p2), (4, .int m4)]) X dX8_firstAt_96 (by decide) rfl ?_
                  refine mj_iinc (k := 5) (v := (m4 + 1)) (lo' := [(4, .int (m4 + 1)), (3, .int m3), (5, .int (1 : Int32)), (0, .ref (ad 0)), (1, .int p1), (2, .int p2)]) X dX8_firstAt_97 rfl rfl (by decide) rfl ?_
                  refine mj_goto (tgt := 5) X dX8_firstAt_100 (by decide) ?_
                  exact mj_sub [3, 4, 5, 1, 0] rfl (ih h m3 (m4 + 1) hf)
                · have hf := mm_f c22 hf
                  refine mj_iload X dX8_firstAt_85 0 rfl ?_
                  refine mj_if_eq (tgt := 95) X dX8_firstAt_87 (by decide) (fun c23 => absurd c23 (by decide)) (fun _ => ?_)
                  refine mj_iload X dX8_firstAt_90 5 rfl ?_
                  refine mj_goto (tgt := 96) X dX8_firstAt_92 (by decide) ?_
                  refine mj_istore_n (lo' := [(3, .int m4), (5, .int (1 : Int32)), (0, .ref (ad 0)), (1, .int p1), (2, .int p2), (4, .int m4)]) X dX8_firstAt_96 (by decide) rfl ?_
                  refine mj_iinc (k := 5) (v := (m4 + 1)) (lo' := [(4, .int (m4 + 1)), (3, .int m4), (5, .int (1 : Int32)), (0, .ref (ad 0)), (1, .int p1), (2, .int p2)]) X dX8_firstAt_97 rfl rfl (by decide) rfl ?_
                  refine mj_goto (tgt := 5) X dX8_firstAt_100 (by decide) ?_
                  exact mj_sub [3, 4, 5, 1, 0] rfl (ih h m4 (m4 + 1) hf)
set_option maxHeartbeats 4000000 in
set_option maxRecDepth 100000 in
theorem kX8_firstAt (l : Launch) (D : va_G) (t1 t2 : Nat) (cI : ClassId) (cZ : ClassId) (ad : Nat → Nat)  (N : Nat) (h : mm_M) (a0 : Int32) (a1 : Int32) (h1 : mm_M) (r : Int32) (hf : fX8_firstAt N h a0 a1 = some (h1, r)) : mm_Ki l yX8_firstAt wsX8_firstAt rmX8_firstAt D (my_ty cI cZ) t1 t2 (my_w cI cZ ad) [.ref (ad 0), .int a0, .int a1] h r h1 := by
  refine mm_open_i [.ref (ad 0), .int a0, .int a1] h r h1 RX8 (by decide) rfl rfl (Nat.le_of_ble_eq_true rfl) ?_
  intro p e s m below meth c A X hr hlocks
  have RET : ∀ (h : mm_M) (pc : Nat) (lo : List (Nat × Value)) (v : Int32), decode cX8_firstAt pc = .ok (.ireturn, 1) → (h, v) = (h1, r) → mm_J p l e rmX8_firstAt s m ([.ref (ad 0), .int a0, .int a1] : List Value).toArray below meth c 0 0 (MQ below (va_Qi (fun (r' : Int32) (u : mm_M) => r' = r ∧ u = h1) (mm_Post D (my_w cI cZ ad) A) A) ([.ref (ad 0), .int a0, .int a1] : List Value).toArray s 0 0 A) D (my_w cI cZ ad) A 6 h pc lo [.int v] := by
    intro h2 pc lo v hd he
    cases he
    exact mj_iret X hr rfl hlocks hd
  generalize hout : (h1, r) = out at hf RET
  unfold fX8_firstAt at hf
  refine mj_lo (lo' := [(0, .ref (ad 0)), (1, .int a0), (2, .int a1)]) rfl ?_
  refine mj_iconst (v := (-1 : Int32)) X dX8_firstAt_0 (by decide) ?_
  refine mj_istore_n (lo' := [(3, .int (-1 : Int32)), (0, .ref (ad 0)), (1, .int a0), (2, .int a1)]) X dX8_firstAt_1 (by decide) rfl ?_
  refine mj_iconst (v := (0 : Int32)) X dX8_firstAt_2 (by decide) ?_
  refine mj_istore (lo' := [(4, .int (0 : Int32)), (3, .int (-1 : Int32)), (0, .ref (ad 0)), (1, .int a0), (2, .int a1)]) X dX8_firstAt_3 (by decide) rfl ?_
  refine mj_sub [2, 3, 4, 1, 0] rfl (wX8_firstAt_L5 X out RET N a0 a1 _ (fun h24 v25 hf => ?_) N h (-1 : Int32) (0 : Int32) hf)
  refine mj_iload_n X dX8_firstAt_103 0 rfl ?_
  exact RET h24 _ _ _ dX8_firstAt_104 (Option.some.inj hf)
end
