/-! THE CONSTRUCTORS (laid by wip/whole/ctor.py) -/
abbrev k_z : Nat → Int32 := fun _ => 0
def k_20 : Nat → Int32 := fun j => if j < 6 then 20 else 0
theorem k_20_eq : (upd (upd (upd (upd (upd (upd k_z (Int32.toNatClampNeg 0) 20) (Int32.toNatClampNeg 1) 20) (Int32.toNatClampNeg 2) 20) (Int32.toNatClampNeg 3) 20) (Int32.toNatClampNeg 4) 20) (Int32.toNatClampNeg 5) 20) = k_20 := by
  rw [show Int32.toNatClampNeg 0 = 0 from by decide, show Int32.toNatClampNeg 1 = 1 from by decide, show Int32.toNatClampNeg 2 = 2 from by decide, show Int32.toNatClampNeg 3 = 3 from by decide, show Int32.toNatClampNeg 4 = 4 from by decide, show Int32.toNatClampNeg 5 = 5 from by decide]
  funext j
  unfold upd k_20
  by_cases h0 : j = 0
  · subst h0; rfl
  by_cases h1 : j = 1
  · subst h1; rfl
  by_cases h2 : j = 2
  · subst h2; rfl
  by_cases h3 : j = 3
  · subst h3; rfl
  by_cases h4 : j = 4
  · subst h4; rfl
  by_cases h5 : j = 5
  · subst h5; rfl
  rw [if_neg h5, if_neg h4, if_neg h3, if_neg h2, if_neg h1, if_neg h0, if_neg (show ¬ j < 6 by omega)]
theorem k_q2 (u : Nat → Nat) : (va_up (va_up (fun _ => none) (Int32.toNatClampNeg 0) (some (u 2))) (Int32.toNatClampNeg 1) (some (u 3))) = (fun k => if k < 2 then some (u (2 + k)) else none) := by
  rw [show Int32.toNatClampNeg 0 = 0 from by decide, show Int32.toNatClampNeg 1 = 1 from by decide]
  funext j
  unfold va_up
  by_cases h0 : j = 0
  · subst h0; rfl
  by_cases h1 : j = 1
  · subst h1; rfl
  rw [if_neg h1, if_neg h0, if_neg (show ¬ j < 2 by omega)]
theorem k_q4 (u : Nat → Nat) : (va_up (va_up (va_up (va_up (fun _ => none) (Int32.toNatClampNeg 0) (some (u 34))) (Int32.toNatClampNeg 1) (some (u 35))) (Int32.toNatClampNeg 2) (some (u 36))) (Int32.toNatClampNeg 3) (some (u 37))) = (fun k => if k < 4 then some (u (34 + k)) else none) := by
  rw [show Int32.toNatClampNeg 0 = 0 from by decide, show Int32.toNatClampNeg 1 = 1 from by decide, show Int32.toNatClampNeg 2 = 2 from by decide, show Int32.toNatClampNeg 3 = 3 from by decide]
  funext j
  unfold va_up
  by_cases h0 : j = 0
  · subst h0; rfl
  by_cases h1 : j = 1
  · subst h1; rfl
  by_cases h2 : j = 2
  · subst h2; rfl
  by_cases h3 : j = 3
  · subst h3; rfl
  rw [if_neg h3, if_neg h2, if_neg h1, if_neg h0, if_neg (show ¬ j < 4 by omega)]
/-- the memory of a new class, and of a new reference -/
def mx_0 : mm_M := fun c => match c with
  | 6 => fun j => match j with
    | 6 => -1
    | _ => 0
  | 10 => k_20
  | 12 => fun j => match j with
    | 10 => -1
    | _ => 0
  | 34 => fun j => match j with
    | 3 => 1
    | _ => 0
  | 35 => fun j => match j with
    | 3 => 1
    | _ => 0
  | 36 => fun j => match j with
    | 3 => 1
    | _ => 0
  | 37 => fun j => match j with
    | 3 => 1
    | _ => 0
  | _ => k_z
def my_0 : mm_M := fun c => match c with
  | 7 => k_20
  | _ => k_z
theorem k_find {U : State} {c : ClassId} {ty : FieldType} (h : va_RA U c ty) : U.vm.findClass ("[" ++ ty.toString) = some c := by
  cases ty with
  | object C =>
    obtain ⟨kA, comp, -, -, -, h4⟩ := h
    exact h4
  | _ => exact h
theorem k_same {D : va_G} {cl : List vw_C} {tys : List (ClassId × FieldType)} {ty : FieldType} {c cA : ClassId} {s : State} (h : va_K D cl (tys ++ [(cA, ty)]) s) (i : Nat) (hi : tys[i]? = some (c, ty)) : c = cA := by
  have hl : i < tys.length := (List.getElem?_eq_some_iff.mp hi).1
  have h1 := k_find (h.2 i (c, ty) (by rw [List.getElem?_append_left hl]; exact hi)).2
  have h2 := k_find (h.2 tys.length (cA, ty) (by rw [List.getElem?_append_right (Nat.le_refl _), Nat.sub_self]; rfl)).2
  exact Option.some.inj (h1.symm.trans h2)

theorem lnX6_init_0 : Cond.methodLink RX6 3 objectInit ∈ wsX6_init := List.mem_of_getElem? (i := 1) rfl
theorem lnX6_init_1 : Cond.instanceMethod objectInit ∈ wsX6_init := List.mem_of_getElem? (i := 2) rfl
theorem lnX6_init_2 : Cond.code objectInit ⟨#[0xb1]⟩ 1 none ∈ wsX6_init := List.mem_of_getElem? (i := 3) rfl
theorem lnX6_init_3 : Cond.arrayClass .int ∈ wsX6_init := List.mem_of_getElem? (i := 4) rfl
theorem inwX6_init_X6 : ∀ w ∈ wsX60, w ∈ wsX6_init := by
  intro w hw
  have h9 : wsX60 = (wsX6_init.drop 7).take 2 := rfl
  rw [h9] at hw
  exact List.mem_of_mem_drop (List.mem_of_mem_take hw)
theorem lnX6_init_4 : Cond.fieldLink RX6 9 "RichestPays$Text" "bytes" "[I" ∈ wsX6_init := List.mem_of_getElem? (i := 5) rfl
theorem lnX6_init_5 : Cond.fieldLink RX6 15 "RichestPays$Text" "length" "I" ∈ wsX6_init := List.mem_of_getElem? (i := 6) rfl
abbrev rmX6_init_30 : Room := { frames := 1, cells := 1, slots := 30, locals := 40 }
set_option maxHeartbeats 8000000 in
set_option maxRecDepth 100000 in
theorem c_X6_init_30 (l : Launch) (D : va_G) (cI : ClassId) (h0 : Nat) (sz : Nat) : Met l yX6_init wsX6_init rmX6_init_30 (va_Pc [.ref h0, .int (30 : Int32)] (fun U => U.heap.size = sz ∧ va_P D vwCl [(h0, .inr (6, [.null, .int 0]))] U.heap ∧ va_K D vwCl [(cI, .int)] U ∧ va_D (fun _ => True) [(h0, .inr (6, [.null, .int 0]))])) (va_Qv (fun _ : Unit => True) (fun _ t => ∃ q1 : Nat, va_P D vwCl [(h0, .inr (6, [.ref q1, .int (0 : Int32)])), (q1, .inl (cI, 30, .inl k_z))] t.heap ∧ va_D (va_A [(h0, .inr (6, [.null, .int 0]))] sz) [(h0, .inr (6, [.ref q1, .int (0 : Int32)])), (q1, .inl (cI, 30, .inl k_z))]) (va_A [(h0, .inr (6, [.null, .int 0]))] sz)) 1 30 (va_A [(h0, .inr (6, [.null, .int 0]))] sz) := by
  refine Met.ofW (cc := cX6_init) (maxL := 2) (ret := none) (by decide) rfl ?_
  intro p e s m args below meth c s₁ B hml hv
  obtain ⟨rfl, hsz, hP, hK, hD0⟩ := hv
  have hx := B.exec
  have hb := B.bytes
  have hr := B.returns
  have hts := atoms_spec (ws := wsX6_init) B.pre
  have hown : s.vm.findClass RX6 = some m.cls := findClass_of_methodNamed B.named
  have hlocks := B.notSynchronized
  have hin : meth.name = "<init>" := (name_of_methodNamed B.named B.method).1
  subst hsz
  have hD := hD0.self (sz := s.heap.size)
  generalize hAe : va_A [(h0, .inr (6, [.null, .int 0]))] s.heap.size = A at hD ⊢
  have hA : ∀ q : Nat, s.heap.size ≤ q → A q := fun q h => by rw [← hAe]; exact Or.inr h
  clear hAe
  have hS : va_S A s.heap s.heap [] := va_S.rf
  have hP : va_P D vwCl [(h0, .inr (6, [.null, .int 0]))] s.heap := hP
  have hl := lv_entry ([.ref h0, .int (30 : Int32)]) (n := 2) (Nat.le_of_ble_eq_true rfl)
  rw [lg_entry_eq]
  generalize (lg_sl ([.ref h0, .int (30 : Int32)]) ++ List.replicate (2 - (lg_sl ([.ref h0, .int (30 : Int32)])).length) Slot.unset).toArray = ls at hl ⊢
  have hl : lv_has ls 2 [(0, .ref h0), (1, .int (30 : Int32))] := hl
  have hH : s.heap = s.heap := rfl
  refine lv_aload_n hx hb dX6_init_0 rfl (lv_at hl 0 rfl) ?_
  refine W.objInit hx hb hown (hts _ lnX6_init_0) (hts _ lnX6_init_1) (hts _ lnX6_init_2) rfl (by rw [hml]; exact hl.1) rfl dX6_init_1 (Nat.le_of_ble_eq_true rfl) (Nat.le_of_ble_eq_true rfl) ?_
  refine W.eq (g2 := F0 m 4 ls []) rfl ?_
  refine lv_aload_n hx hb dX6_init_4 rfl (lv_at hl 0 rfl) ?_
  refine lv_iload_n hx hb dX6_init_5 rfl (lv_at hl 1 rfl) ?_
  refine va_newa (atype := .int) (a0 := (30, .inl k_z)) (N' := 30) hx hb (hts _ lnX6_init_3) rfl hK hP hD hS hA (fun _ => rfl) (by decide) (by decide) (Nat.le_of_ble_eq_true rfl) (Nat.le_of_ble_eq_true rfl) (Nat.le_of_ble_eq_true rfl) dX6_init_6 (fun q1 cA9 H hK9 hP hD hS => ?_)
  have e9 := k_same hK9 0 rfl
  subst e9
  clear hK9
  have hP : va_P D vwCl [(h0, .inr (6, [.null, .int 0])), (q1, .inl (cI, 30, .inl k_z))] H := hP
  have hD : va_D A [(h0, .inr (6, [.null, .int 0])), (q1, .inl (cI, 30, .inl k_z))] := hD
  refine W.widen (k := 1) (n := 30) (Nat.le_of_ble_eq_true rfl) (Nat.le_of_ble_eq_true rfl) ?_
  refine va_putF (D := D) (ci := 6) (v := .ref q1) (ty := .array .int) (C := RX6) (T := TX6) (N := 2) hx hb hts inwX6_init_X6 tyX6 tyX6_ok nmX6 hown hK hP hD hS 0 rfl rfl 0 (by decide) (hts _ lnX6_init_4) (fun _ h9 => h9) rfl hin rfl (by decide +kernel) rfl rfl (Nat.le_of_ble_eq_true rfl) dX6_init_8 (fun H locs hP hD hS => ?_)
  have hP : va_P D vwCl [(h0, .inr (6, [.ref q1, .int 0])), (q1, .inl (cI, 30, .inl k_z))] H := hP
  have hD : va_D A [(h0, .inr (6, [.ref q1, .int 0])), (q1, .inl (cI, 30, .inl k_z))] := hD
  refine lv_aload_n hx hb dX6_init_11 rfl (lv_at hl 0 rfl) ?_
  refine lv_iconst (v := (0 : Int32)) hx hb dX6_init_12 (by decide) ?_
  refine va_put (D := D) (ci := 6) (v := .int (0 : Int32)) (ty := .int) (C := RX6) (T := TX6) (N := 2) hx hb hts inwX6_init_X6 tyX6 tyX6_ok nmX6 hown hK hP hD hS 0 rfl rfl 1 (by decide) (hts _ lnX6_init_5) (fun _ h9 => h9) rfl (by decide +kernel) rfl rfl (Nat.le_of_ble_eq_true rfl) dX6_init_13 (fun H locs hP hD hS => ?_)
  have hP : va_P D vwCl [(h0, .inr (6, [.ref q1, .int (0 : Int32)])), (q1, .inl (cI, 30, .inl k_z))] H := hP
  have hD : va_D A [(h0, .inr (6, [.ref q1, .int (0 : Int32)])), (q1, .inl (cI, 30, .inl k_z))] := hD
  have hP9 := hP.sub (ws' := [(h0, .inr (6, [.ref q1, .int (0 : Int32)])), (q1, .inl (cI, 30, .inl k_z))]) [0, 1] rfl
  have hD9 := hD.sub (ws' := [(h0, .inr (6, [.ref q1, .int (0 : Int32)])), (q1, .inl (cI, 30, .inl k_z))]) [0, 1] (by decide) rfl
  exact W.vret hx hb hr (fun t ht hW => ⟨⟨(), rfl, trivial, q1, by rw [ht]; exact hP9, hD9⟩, hS.F ht⟩) hS.2.2 dX6_init_16
abbrev rmX6_init_60 : Room := { frames := 1, cells := 1, slots := 60, locals := 40 }
set_option maxHeartbeats 8000000 in
set_option maxRecDepth 100000 in
theorem c_X6_init_60 (l : Launch) (D : va_G) (cI : ClassId) (h0 : Nat) (sz : Nat) : Met l yX6_init wsX6_init rmX6_init_60 (va_Pc [.ref h0, .int (60 : Int32)] (fun U => U.heap.size = sz ∧ va_P D vwCl [(h0, .inr (6, [.null, .int 0]))] U.heap ∧ va_K D vwCl [(cI, .int)] U ∧ va_D (fun _ => True) [(h0, .inr (6, [.null, .int 0]))])) (va_Qv (fun _ : Unit => True) (fun _ t => ∃ q1 : Nat, va_P D vwCl [(h0, .inr (6, [.ref q1, .int (0 : Int32)])), (q1, .inl (cI, 60, .inl k_z))] t.heap ∧ va_D (va_A [(h0, .inr (6, [.null, .int 0]))] sz) [(h0, .inr (6, [.ref q1, .int (0 : Int32)])), (q1, .inl (cI, 60, .inl k_z))]) (va_A [(h0, .inr (6, [.null, .int 0]))] sz)) 1 60 (va_A [(h0, .inr (6, [.null, .int 0]))] sz) := by
  refine Met.ofW (cc := cX6_init) (maxL := 2) (ret := none) (by decide) rfl ?_
  intro p e s m args below meth c s₁ B hml hv
  obtain ⟨rfl, hsz, hP, hK, hD0⟩ := hv
  have hx := B.exec
  have hb := B.bytes
  have hr := B.returns
  have hts := atoms_spec (ws := wsX6_init) B.pre
  have hown : s.vm.findClass RX6 = some m.cls := findClass_of_methodNamed B.named
  have hlocks := B.notSynchronized
  have hin : meth.name = "<init>" := (name_of_methodNamed B.named B.method).1
  subst hsz
  have hD := hD0.self (sz := s.heap.size)
  generalize hAe : va_A [(h0, .inr (6, [.null, .int 0]))] s.heap.size = A at hD ⊢
  have hA : ∀ q : Nat, s.heap.size ≤ q → A q := fun q h => by rw [← hAe]; exact Or.inr h
  clear hAe
  have hS : va_S A s.heap s.heap [] := va_S.rf
  have hP : va_P D vwCl [(h0, .inr (6, [.null, .int 0]))] s.heap := hP
  have hl := lv_entry ([.ref h0, .int (60 : Int32)]) (n := 2) (Nat.le_of_ble_eq_true rfl)
  rw [lg_entry_eq]
  generalize (lg_sl ([.ref h0, .int (60 : Int32)]) ++ List.replicate (2 - (lg_sl ([.ref h0, .int (60 : Int32)])).length) Slot.unset).toArray = ls at hl ⊢
  have hl : lv_has ls 2 [(0, .ref h0), (1, .int (60 : Int32))] := hl
  have hH : s.heap = s.heap := rfl
  refine lv_aload_n hx hb dX6_init_0 rfl (lv_at hl 0 rfl) ?_
  refine W.objInit hx hb hown (hts _ lnX6_init_0) (hts _ lnX6_init_1) (hts _ lnX6_init_2) rfl (by rw [hml]; exact hl.1) rfl dX6_init_1 (Nat.le_of_ble_eq_true rfl) (Nat.le_of_ble_eq_true rfl) ?_
  refine W.eq (g2 := F0 m 4 ls []) rfl ?_
  refine lv_aload_n hx hb dX6_init_4 rfl (lv_at hl 0 rfl) ?_
  refine lv_iload_n hx hb dX6_init_5 rfl (lv_at hl 1 rfl) ?_
  refine va_newa (atype := .int) (a0 := (60, .inl k_z)) (N' := 60) hx hb (hts _ lnX6_init_3) rfl hK hP hD hS hA (fun _ => rfl) (by decide) (by decide) (Nat.le_of_ble_eq_true rfl) (Nat.le_of_ble_eq_true rfl) (Nat.le_of_ble_eq_true rfl) dX6_init_6 (fun q1 cA9 H hK9 hP hD hS => ?_)
  have e9 := k_same hK9 0 rfl
  subst e9
  clear hK9
  have hP : va_P D vwCl [(h0, .inr (6, [.null, .int 0])), (q1, .inl (cI, 60, .inl k_z))] H := hP
  have hD : va_D A [(h0, .inr (6, [.null, .int 0])), (q1, .inl (cI, 60, .inl k_z))] := hD
  refine W.widen (k := 1) (n := 60) (Nat.le_of_ble_eq_true rfl) (Nat.le_of_ble_eq_true rfl) ?_
  refine va_putF (D := D) (ci := 6) (v := .ref q1) (ty := .array .int) (C := RX6) (T := TX6) (N := 2) hx hb hts inwX6_init_X6 tyX6 tyX6_ok nmX6 hown hK hP hD hS 0 rfl rfl 0 (by decide) (hts _ lnX6_init_4) (fun _ h9 => h9) rfl hin rfl (by decide +kernel) rfl rfl (Nat.le_of_ble_eq_true rfl) dX6_init_8 (fun H locs hP hD hS => ?_)
  have hP : va_P D vwCl [(h0, .inr (6, [.ref q1, .int 0])), (q1, .inl (cI, 60, .inl k_z))] H := hP
  have hD : va_D A [(h0, .inr (6, [.ref q1, .int 0])), (q1, .inl (cI, 60, .inl k_z))] := hD
  refine lv_aload_n hx hb dX6_init_11 rfl (lv_at hl 0 rfl) ?_
  refine lv_iconst (v := (0 : Int32)) hx hb dX6_init_12 (by decide) ?_
  refine va_put (D := D) (ci := 6) (v := .int (0 : Int32)) (ty := .int) (C := RX6) (T := TX6) (N := 2) hx hb hts inwX6_init_X6 tyX6 tyX6_ok nmX6 hown hK hP hD hS 0 rfl rfl 1 (by decide) (hts _ lnX6_init_5) (fun _ h9 => h9) rfl (by decide +kernel) rfl rfl (Nat.le_of_ble_eq_true rfl) dX6_init_13 (fun H locs hP hD hS => ?_)
  have hP : va_P D vwCl [(h0, .inr (6, [.ref q1, .int (0 : Int32)])), (q1, .inl (cI, 60, .inl k_z))] H := hP
  have hD : va_D A [(h0, .inr (6, [.ref q1, .int (0 : Int32)])), (q1, .inl (cI, 60, .inl k_z))] := hD
  have hP9 := hP.sub (ws' := [(h0, .inr (6, [.ref q1, .int (0 : Int32)])), (q1, .inl (cI, 60, .inl k_z))]) [0, 1] rfl
  have hD9 := hD.sub (ws' := [(h0, .inr (6, [.ref q1, .int (0 : Int32)])), (q1, .inl (cI, 60, .inl k_z))]) [0, 1] (by decide) rfl
  exact W.vret hx hb hr (fun t ht hW => ⟨⟨(), rfl, trivial, q1, by rw [ht]; exact hP9, hD9⟩, hS.F ht⟩) hS.2.2 dX6_init_16
theorem lnX2_init_0 : Cond.methodLink RX2 3 objectInit ∈ wsX2_init := List.mem_of_getElem? (i := 1) rfl
theorem lnX2_init_1 : Cond.instanceMethod objectInit ∈ wsX2_init := List.mem_of_getElem? (i := 2) rfl
theorem lnX2_init_2 : Cond.code objectInit ⟨#[0xb1]⟩ 1 none ∈ wsX2_init := List.mem_of_getElem? (i := 3) rfl
theorem lnX2_init_3 : Cond.arrayClass .int ∈ wsX2_init := List.mem_of_getElem? (i := 4) rfl
theorem inwX2_init_X2 : ∀ w ∈ wsX20, w ∈ wsX2_init := by
  intro w hw
  have h9 : wsX20 = (wsX2_init.drop 14).take 9 := rfl
  rw [h9] at hw
  exact List.mem_of_mem_drop (List.mem_of_mem_take hw)
theorem lnX2_init_4 : Cond.fieldLink RX2 9 "RichestPays$People" "purse" "[I" ∈ wsX2_init := List.mem_of_getElem? (i := 5) rfl
theorem lnX2_init_5 : Cond.fieldLink RX2 15 "RichestPays$People" "appetite" "[I" ∈ wsX2_init := List.mem_of_getElem? (i := 6) rfl
theorem lnX2_init_6 : Cond.fieldLink RX2 18 "RichestPays$People" "atHome" "[I" ∈ wsX2_init := List.mem_of_getElem? (i := 7) rfl
theorem lnX2_init_7 : Cond.fieldLink RX2 21 "RichestPays$People" "mealWorth" "[I" ∈ wsX2_init := List.mem_of_getElem? (i := 8) rfl
theorem lnX2_init_8 : Cond.fieldLink RX2 24 "RichestPays$People" "due" "[I" ∈ wsX2_init := List.mem_of_getElem? (i := 9) rfl
theorem lnX2_init_9 : Cond.fieldLink RX2 27 "RichestPays$People" "number" "I" ∈ wsX2_init := List.mem_of_getElem? (i := 10) rfl
theorem lnX2_init_10 : Cond.fieldLink RX2 31 "RichestPays$People" "textFault" "I" ∈ wsX2_init := List.mem_of_getElem? (i := 11) rfl
theorem lnX2_init_11 : Cond.fieldLink RX2 34 "RichestPays$People" "law" "I" ∈ wsX2_init := List.mem_of_getElem? (i := 12) rfl
theorem lnX2_init_12 : Cond.fieldLink RX2 37 "RichestPays$People" "ties" "I" ∈ wsX2_init := List.mem_of_getElem? (i := 13) rfl
abbrev rmX2_init : Room := { frames := 1, cells := 5, slots := 30, locals := 40 }
set_option maxHeartbeats 8000000 in
set_option maxRecDepth 100000 in
theorem c_X2_init (l : Launch) (D : va_G) (cI : ClassId) (h0 : Nat) (sz : Nat) : Met l yX2_init wsX2_init rmX2_init (va_Pc [.ref h0] (fun U => U.heap.size = sz ∧ va_P D vwCl [(h0, .inr (2, [.null, .null, .null, .null, .null, .int 0, .int 0, .int 0, .int 0]))] U.heap ∧ va_K D vwCl [(cI, .int)] U ∧ va_D (fun _ => True) [(h0, .inr (2, [.null, .null, .null, .null, .null, .int 0, .int 0, .int 0, .int 0]))])) (va_Qv (fun _ : Unit => True) (fun _ t => ∃ q1 q2 q3 q4 q5 : Nat, va_P D vwCl [(h0, .inr (2, [.ref q1, .ref q2, .ref q3, .ref q4, .ref q5, .int (0 : Int32), .int (-1 : Int32), .int (0 : Int32), .int (0 : Int32)])), (q1, .inl (cI, 6, .inl k_z)), (q2, .inl (cI, 6, .inl k_z)), (q3, .inl (cI, 6, .inl k_z)), (q4, .inl (cI, 6, .inl k_20)), (q5, .inl (cI, 6, .inl k_z))] t.heap ∧ va_D (va_A [(h0, .inr (2, [.null, .null, .null, .null, .null, .int 0, .int 0, .int 0, .int 0]))] sz) [(h0, .inr (2, [.ref q1, .ref q2, .ref q3, .ref q4, .ref q5, .int (0 : Int32), .int (-1 : Int32), .int (0 : Int32), .int (0 : Int32)])), (q1, .inl (cI, 6, .inl k_z)), (q2, .inl (cI, 6, .inl k_z)), (q3, .inl (cI, 6, .inl k_z)), (q4, .inl (cI, 6, .inl k_20)), (q5, .inl (cI, 6, .inl k_z))]) (va_A [(h0, .inr (2, [.null, .null, .null, .null, .null, .int 0, .int 0, .int 0, .int 0]))] sz)) 5 30 (va_A [(h0, .inr (2, [.null, .null, .null, .null, .null, .int 0, .int 0, .int 0, .int 0]))] sz) := by
  refine Met.ofW (cc := cX2_init) (maxL := 2) (ret := none) (by decide) rfl ?_
  intro p e s m args below meth c s₁ B hml hv
  obtain ⟨rfl, hsz, hP, hK, hD0⟩ := hv
  have hx := B.exec
  have hb := B.bytes
  have hr := B.returns
  have hts := atoms_spec (ws := wsX2_init) B.pre
  have hown : s.vm.findClass RX2 = some m.cls := findClass_of_methodNamed B.named
  have hlocks := B.notSynchronized
  have hin : meth.name = "<init>" := (name_of_methodNamed B.named B.method).1
  subst hsz
  have hD := hD0.self (sz := s.heap.size)
  generalize hAe : va_A [(h0, .inr (2, [.null, .null, .null, .null, .null, .int 0, .int 0, .int 0, .int 0]))] s.heap.size = A at hD ⊢
  have hA : ∀ q : Nat, s.heap.size ≤ q → A q := fun q h => by rw [← hAe]; exact Or.inr h
  clear hAe
  have hS : va_S A s.heap s.heap [] := va_S.rf
  have hP : va_P D vwCl [(h0, .inr (2, [.null, .null, .null, .null, .null, .int 0, .int 0, .int 0, .int 0]))] s.heap := hP
  have hl := lv_entry ([.ref h0]) (n := 2) (Nat.le_of_ble_eq_true rfl)
  rw [lg_entry_eq]
  generalize (lg_sl ([.ref h0]) ++ List.replicate (2 - (lg_sl ([.ref h0])).length) Slot.unset).toArray = ls at hl ⊢
  have hl : lv_has ls 2 [(0, .ref h0)] := hl
  have hH : s.heap = s.heap := rfl
  refine lv_aload_n hx hb dX2_init_0 rfl (lv_at hl 0 rfl) ?_
  refine W.objInit hx hb hown (hts _ lnX2_init_0) (hts _ lnX2_init_1) (hts _ lnX2_init_2) rfl (by rw [hml]; exact hl.1) rfl dX2_init_1 (Nat.le_of_ble_eq_true rfl) (Nat.le_of_ble_eq_true rfl) ?_
  refine W.eq (g2 := F0 m 4 ls []) rfl ?_
  refine lv_aload_n hx hb dX2_init_4 rfl (lv_at hl 0 rfl) ?_
  refine lv_bipush (v := (6 : Int32)) hx hb dX2_init_5 (by decide) ?_
  refine va_newa (atype := .int) (a0 := (6, .inl k_z)) (N' := 6) hx hb (hts _ lnX2_init_3) rfl hK hP hD hS hA (fun _ => rfl) (by decide) (by decide) (Nat.le_of_ble_eq_true rfl) (Nat.le_of_ble_eq_true rfl) (Nat.le_of_ble_eq_true rfl) dX2_init_7 (fun q1 cA9 H hK9 hP hD hS => ?_)
  have e9 := k_same hK9 0 rfl
  subst e9
  clear hK9
  have hP : va_P D vwCl [(h0, .inr (2, [.null, .null, .null, .null, .null, .int 0, .int 0, .int 0, .int 0])), (q1, .inl (cI, 6, .inl k_z))] H := hP
  have hD : va_D A [(h0, .inr (2, [.null, .null, .null, .null, .null, .int 0, .int 0, .int 0, .int 0])), (q1, .inl (cI, 6, .inl k_z))] := hD
  refine W.widen (k := 1) (n := 6) (Nat.le_of_ble_eq_true rfl) (Nat.le_of_ble_eq_true rfl) ?_
  refine va_putF (D := D) (ci := 2) (v := .ref q1) (ty := .array .int) (C := RX2) (T := TX2) (N := 9) hx hb hts inwX2_init_X2 tyX2 tyX2_ok nmX2 hown hK hP hD hS 0 rfl rfl 0 (by decide) (hts _ lnX2_init_4) (fun _ h9 => h9) rfl hin rfl (by decide +kernel) rfl rfl (Nat.le_of_ble_eq_true rfl) dX2_init_9 (fun H locs hP hD hS => ?_)
  have hP : va_P D vwCl [(h0, .inr (2, [.ref q1, .null, .null, .null, .null, .int 0, .int 0, .int 0, .int 0])), (q1, .inl (cI, 6, .inl k_z))] H := hP
  have hD : va_D A [(h0, .inr (2, [.ref q1, .null, .null, .null, .null, .int 0, .int 0, .int 0, .int 0])), (q1, .inl (cI, 6, .inl k_z))] := hD
  refine lv_aload_n hx hb dX2_init_12 rfl (lv_at hl 0 rfl) ?_
  refine lv_bipush (v := (6 : Int32)) hx hb dX2_init_13 (by decide) ?_
  refine va_newa (atype := .int) (a0 := (6, .inl k_z)) (N' := 6) hx hb (hts _ lnX2_init_3) rfl hK hP hD hS hA (fun _ => rfl) (by decide) (by decide) (Nat.le_of_ble_eq_true rfl) (Nat.le_of_ble_eq_true rfl) (Nat.le_of_ble_eq_true rfl) dX2_init_15 (fun q2 cA9 H hK9 hP hD hS => ?_)
  have e9 := k_same hK9 0 rfl
  subst e9
  clear hK9
  have hP : va_P D vwCl [(h0, .inr (2, [.ref q1, .null, .null, .null, .null, .int 0, .int 0, .int 0, .int 0])), (q1, .inl (cI, 6, .inl k_z)), (q2, .inl (cI, 6, .inl k_z))] H := hP
  have hD : va_D A [(h0, .inr (2, [.ref q1, .null, .null, .null, .null, .int 0, .int 0, .int 0, .int 0])), (q1, .inl (cI, 6, .inl k_z)), (q2, .inl (cI, 6, .inl k_z))] := hD
  refine W.widen (k := 2) (n := 12) (Nat.le_of_ble_eq_true rfl) (Nat.le_of_ble_eq_true rfl) ?_
  refine va_putF (D := D) (ci := 2) (v := .ref q2) (ty := .array .int) (C := RX2) (T := TX2) (N := 9) hx hb hts inwX2_init_X2 tyX2 tyX2_ok nmX2 hown hK hP hD hS 0 rfl rfl 1 (by decide) (hts _ lnX2_init_5) (fun _ h9 => h9) rfl hin rfl (by decide +kernel) rfl rfl (Nat.le_of_ble_eq_true rfl) dX2_init_17 (fun H locs hP hD hS => ?_)
  have hP : va_P D vwCl [(h0, .inr (2, [.ref q1, .ref q2, .null, .null, .null, .int 0, .int 0, .int 0, .int 0])), (q1, .inl (cI, 6, .inl k_z)), (q2, .inl (cI, 6, .inl k_z))] H := hP
  have hD : va_D A [(h0, .inr (2, [.ref q1, .ref q2, .null, .null, .null, .int 0, .int 0, .int 0, .int 0])), (q1, .inl (cI, 6, .inl k_z)), (q2, .inl (cI, 6, .inl k_z))] := hD
  refine lv_aload_n hx hb dX2_init_20 rfl (lv_at hl 0 rfl) ?_
  refine lv_bipush (v := (6 : Int32)) hx hb dX2_init_21 (by decide) ?_
  refine va_newa (atype := .int) (a0 := (6, .inl k_z)) (N' := 6) hx hb (hts _ lnX2_init_3) rfl hK hP hD hS hA (fun _ => rfl) (by decide) (by decide) (Nat.le_of_ble_eq_true rfl) (Nat.le_of_ble_eq_true rfl) (Nat.le_of_ble_eq_true rfl) dX2_init_23 (fun q3 cA9 H hK9 hP hD hS => ?_)
  have e9 := k_same hK9 0 rfl
  subst e9
  clear hK9
  have hP : va_P D vwCl [(h0, .inr (2, [.ref q1, .ref q2, .null, .null, .null, .int 0, .int 0, .int 0, .int 0])), (q1, .inl (cI, 6, .inl k_z)), (q2, .inl (cI, 6, .inl k_z)), (q3, .inl (cI, 6, .inl k_z))] H := hP
  have hD : va_D A [(h0, .inr (2, [.ref q1, .ref q2, .null, .null, .null, .int 0, .int 0, .int 0, .int 0])), (q1, .inl (cI, 6, .inl k_z)), (q2, .inl (cI, 6, .inl k_z)), (q3, .inl (cI, 6, .inl k_z))] := hD
  refine W.widen (k := 3) (n := 18) (Nat.le_of_ble_eq_true rfl) (Nat.le_of_ble_eq_true rfl) ?_
  refine va_putF (D := D) (ci := 2) (v := .ref q3) (ty := .array .int) (C := RX2) (T := TX2) (N := 9) hx hb hts inwX2_init_X2 tyX2 tyX2_ok nmX2 hown hK hP hD hS 0 rfl rfl 2 (by decide) (hts _ lnX2_init_6) (fun _ h9 => h9) rfl hin rfl (by decide +kernel) rfl rfl (Nat.le_of_ble_eq_true rfl) dX2_init_25 (fun H locs hP hD hS => ?_)
  have hP : va_P D vwCl [(h0, .inr (2, [.ref q1, .ref q2, .ref q3, .null, .null, .int 0, .int 0, .int 0, .int 0])), (q1, .inl (cI, 6, .inl k_z)), (q2, .inl (cI, 6, .inl k_z)), (q3, .inl (cI, 6, .inl k_z))] H := hP
  have hD : va_D A [(h0, .inr (2, [.ref q1, .ref q2, .ref q3, .null, .null, .int 0, .int 0, .int 0, .int 0])), (q1, .inl (cI, 6, .inl k_z)), (q2, .inl (cI, 6, .inl k_z)), (q3, .inl (cI, 6, .inl k_z))] := hD
  refine lv_aload_n hx hb dX2_init_28 rfl (lv_at hl 0 rfl) ?_
  refine lv_bipush (v := (6 : Int32)) hx hb dX2_init_29 (by decide) ?_
  refine va_newa (atype := .int) (a0 := (6, .inl k_z)) (N' := 6) hx hb (hts _ lnX2_init_3) rfl hK hP hD hS hA (fun _ => rfl) (by decide) (by decide) (Nat.le_of_ble_eq_true rfl) (Nat.le_of_ble_eq_true rfl) (Nat.le_of_ble_eq_true rfl) dX2_init_31 (fun q4 cA9 H hK9 hP hD hS => ?_)
  have e9 := k_same hK9 0 rfl
  subst e9
  clear hK9
  have hP : va_P D vwCl [(h0, .inr (2, [.ref q1, .ref q2, .ref q3, .null, .null, .int 0, .int 0, .int 0, .int 0])), (q1, .inl (cI, 6, .inl k_z)), (q2, .inl (cI, 6, .inl k_z)), (q3, .inl (cI, 6, .inl k_z)), (q4, .inl (cI, 6, .inl k_z))] H := hP
  have hD : va_D A [(h0, .inr (2, [.ref q1, .ref q2, .ref q3, .null, .null, .int 0, .int 0, .int 0, .int 0])), (q1, .inl (cI, 6, .inl k_z)), (q2, .inl (cI, 6, .inl k_z)), (q3, .inl (cI, 6, .inl k_z)), (q4, .inl (cI, 6, .inl k_z))] := hD
  refine W.widen (k := 4) (n := 24) (Nat.le_of_ble_eq_true rfl) (Nat.le_of_ble_eq_true rfl) ?_
  refine va_putF (D := D) (ci := 2) (v := .ref q4) (ty := .array .int) (C := RX2) (T := TX2) (N := 9) hx hb hts inwX2_init_X2 tyX2 tyX2_ok nmX2 hown hK hP hD hS 0 rfl rfl 3 (by decide) (hts _ lnX2_init_7) (fun _ h9 => h9) rfl hin rfl (by decide +kernel) rfl rfl (Nat.le_of_ble_eq_true rfl) dX2_init_33 (fun H locs hP hD hS => ?_)
  have hP : va_P D vwCl [(h0, .inr (2, [.ref q1, .ref q2, .ref q3, .ref q4, .null, .int 0, .int 0, .int 0, .int 0])), (q1, .inl (cI, 6, .inl k_z)), (q2, .inl (cI, 6, .inl k_z)), (q3, .inl (cI, 6, .inl k_z)), (q4, .inl (cI, 6, .inl k_z))] H := hP
  have hD : va_D A [(h0, .inr (2, [.ref q1, .ref q2, .ref q3, .ref q4, .null, .int 0, .int 0, .int 0, .int 0])), (q1, .inl (cI, 6, .inl k_z)), (q2, .inl (cI, 6, .inl k_z)), (q3, .inl (cI, 6, .inl k_z)), (q4, .inl (cI, 6, .inl k_z))] := hD
  refine lv_aload_n hx hb dX2_init_36 rfl (lv_at hl 0 rfl) ?_
  refine lv_bipush (v := (6 : Int32)) hx hb dX2_init_37 (by decide) ?_
  refine va_newa (atype := .int) (a0 := (6, .inl k_z)) (N' := 6) hx hb (hts _ lnX2_init_3) rfl hK hP hD hS hA (fun _ => rfl) (by decide) (by decide) (Nat.le_of_ble_eq_true rfl) (Nat.le_of_ble_eq_true rfl) (Nat.le_of_ble_eq_true rfl) dX2_init_39 (fun q5 cA9 H hK9 hP hD hS => ?_)
  have e9 := k_same hK9 0 rfl
  subst e9
  clear hK9
  have hP : va_P D vwCl [(h0, .inr (2, [.ref q1, .ref q2, .ref q3, .ref q4, .null, .int 0, .int 0, .int 0, .int 0])), (q1, .inl (cI, 6, .inl k_z)), (q2, .inl (cI, 6, .inl k_z)), (q3, .inl (cI, 6, .inl k_z)), (q4, .inl (cI, 6, .inl k_z)), (q5, .inl (cI, 6, .inl k_z))] H := hP
  have hD : va_D A [(h0, .inr (2, [.ref q1, .ref q2, .ref q3, .ref q4, .null, .int 0, .int 0, .int 0, .int 0])), (q1, .inl (cI, 6, .inl k_z)), (q2, .inl (cI, 6, .inl k_z)), (q3, .inl (cI, 6, .inl k_z)), (q4, .inl (cI, 6, .inl k_z)), (q5, .inl (cI, 6, .inl k_z))] := hD
  refine W.widen (k := 5) (n := 30) (Nat.le_of_ble_eq_true rfl) (Nat.le_of_ble_eq_true rfl) ?_
  refine va_putF (D := D) (ci := 2) (v := .ref q5) (ty := .array .int) (C := RX2) (T := TX2) (N := 9) hx hb hts inwX2_init_X2 tyX2 tyX2_ok nmX2 hown hK hP hD hS 0 rfl rfl 4 (by decide) (hts _ lnX2_init_8) (fun _ h9 => h9) rfl hin rfl (by decide +kernel) rfl rfl (Nat.le_of_ble_eq_true rfl) dX2_init_41 (fun H locs hP hD hS => ?_)
  have hP : va_P D vwCl [(h0, .inr (2, [.ref q1, .ref q2, .ref q3, .ref q4, .ref q5, .int 0, .int 0, .int 0, .int 0])), (q1, .inl (cI, 6, .inl k_z)), (q2, .inl (cI, 6, .inl k_z)), (q3, .inl (cI, 6, .inl k_z)), (q4, .inl (cI, 6, .inl k_z)), (q5, .inl (cI, 6, .inl k_z))] H := hP
  have hD : va_D A [(h0, .inr (2, [.ref q1, .ref q2, .ref q3, .ref q4, .ref q5, .int 0, .int 0, .int 0, .int 0])), (q1, .inl (cI, 6, .inl k_z)), (q2, .inl (cI, 6, .inl k_z)), (q3, .inl (cI, 6, .inl k_z)), (q4, .inl (cI, 6, .inl k_z)), (q5, .inl (cI, 6, .inl k_z))] := hD
  refine lv_aload_n hx hb dX2_init_44 rfl (lv_at hl 0 rfl) ?_
  refine lv_iconst (v := (0 : Int32)) hx hb dX2_init_45 (by decide) ?_
  refine va_put (D := D) (ci := 2) (v := .int (0 : Int32)) (ty := .int) (C := RX2) (T := TX2) (N := 9) hx hb hts inwX2_init_X2 tyX2 tyX2_ok nmX2 hown hK hP hD hS 0 rfl rfl 5 (by decide) (hts _ lnX2_init_9) (fun _ h9 => h9) rfl (by decide +kernel) rfl rfl (Nat.le_of_ble_eq_true rfl) dX2_init_46 (fun H locs hP hD hS => ?_)
  have hP : va_P D vwCl [(h0, .inr (2, [.ref q1, .ref q2, .ref q3, .ref q4, .ref q5, .int (0 : Int32), .int 0, .int 0, .int 0])), (q1, .inl (cI, 6, .inl k_z)), (q2, .inl (cI, 6, .inl k_z)), (q3, .inl (cI, 6, .inl k_z)), (q4, .inl (cI, 6, .inl k_z)), (q5, .inl (cI, 6, .inl k_z))] H := hP
  have hD : va_D A [(h0, .inr (2, [.ref q1, .ref q2, .ref q3, .ref q4, .ref q5, .int (0 : Int32), .int 0, .int 0, .int 0])), (q1, .inl (cI, 6, .inl k_z)), (q2, .inl (cI, 6, .inl k_z)), (q3, .inl (cI, 6, .inl k_z)), (q4, .inl (cI, 6, .inl k_z)), (q5, .inl (cI, 6, .inl k_z))] := hD
  refine lv_aload_n hx hb dX2_init_49 rfl (lv_at hl 0 rfl) ?_
  refine lv_iconst (v := (-1 : Int32)) hx hb dX2_init_50 (by decide) ?_
  refine va_put (D := D) (ci := 2) (v := .int (-1 : Int32)) (ty := .int) (C := RX2) (T := TX2) (N := 9) hx hb hts inwX2_init_X2 tyX2 tyX2_ok nmX2 hown hK hP hD hS 0 rfl rfl 6 (by decide) (hts _ lnX2_init_10) (fun _ h9 => h9) rfl (by decide +kernel) rfl rfl (Nat.le_of_ble_eq_true rfl) dX2_init_51 (fun H locs hP hD hS => ?_)
  have hP : va_P D vwCl [(h0, .inr (2, [.ref q1, .ref q2, .ref q3, .ref q4, .ref q5, .int (0 : Int32), .int (-1 : Int32), .int 0, .int 0])), (q1, .inl (cI, 6, .inl k_z)), (q2, .inl (cI, 6, .inl k_z)), (q3, .inl (cI, 6, .inl k_z)), (q4, .inl (cI, 6, .inl k_z)), (q5, .inl (cI, 6, .inl k_z))] H := hP
  have hD : va_D A [(h0, .inr (2, [.ref q1, .ref q2, .ref q3, .ref q4, .ref q5, .int (0 : Int32), .int (-1 : Int32), .int 0, .int 0])), (q1, .inl (cI, 6, .inl k_z)), (q2, .inl (cI, 6, .inl k_z)), (q3, .inl (cI, 6, .inl k_z)), (q4, .inl (cI, 6, .inl k_z)), (q5, .inl (cI, 6, .inl k_z))] := hD
  refine lv_aload_n hx hb dX2_init_54 rfl (lv_at hl 0 rfl) ?_
  refine lv_iconst (v := (0 : Int32)) hx hb dX2_init_55 (by decide) ?_
  refine va_put (D := D) (ci := 2) (v := .int (0 : Int32)) (ty := .int) (C := RX2) (T := TX2) (N := 9) hx hb hts inwX2_init_X2 tyX2 tyX2_ok nmX2 hown hK hP hD hS 0 rfl rfl 7 (by decide) (hts _ lnX2_init_11) (fun _ h9 => h9) rfl (by decide +kernel) rfl rfl (Nat.le_of_ble_eq_true rfl) dX2_init_56 (fun H locs hP hD hS => ?_)
  have hP : va_P D vwCl [(h0, .inr (2, [.ref q1, .ref q2, .ref q3, .ref q4, .ref q5, .int (0 : Int32), .int (-1 : Int32), .int (0 : Int32), .int 0])), (q1, .inl (cI, 6, .inl k_z)), (q2, .inl (cI, 6, .inl k_z)), (q3, .inl (cI, 6, .inl k_z)), (q4, .inl (cI, 6, .inl k_z)), (q5, .inl (cI, 6, .inl k_z))] H := hP
  have hD : va_D A [(h0, .inr (2, [.ref q1, .ref q2, .ref q3, .ref q4, .ref q5, .int (0 : Int32), .int (-1 : Int32), .int (0 : Int32), .int 0])), (q1, .inl (cI, 6, .inl k_z)), (q2, .inl (cI, 6, .inl k_z)), (q3, .inl (cI, 6, .inl k_z)), (q4, .inl (cI, 6, .inl k_z)), (q5, .inl (cI, 6, .inl k_z))] := hD
  refine lv_aload_n hx hb dX2_init_59 rfl (lv_at hl 0 rfl) ?_
  refine lv_iconst (v := (0 : Int32)) hx hb dX2_init_60 (by decide) ?_
  refine va_put (D := D) (ci := 2) (v := .int (0 : Int32)) (ty := .int) (C := RX2) (T := TX2) (N := 9) hx hb hts inwX2_init_X2 tyX2 tyX2_ok nmX2 hown hK hP hD hS 0 rfl rfl 8 (by decide) (hts _ lnX2_init_12) (fun _ h9 => h9) rfl (by decide +kernel) rfl rfl (Nat.le_of_ble_eq_true rfl) dX2_init_61 (fun H locs hP hD hS => ?_)
  have hP : va_P D vwCl [(h0, .inr (2, [.ref q1, .ref q2, .ref q3, .ref q4, .ref q5, .int (0 : Int32), .int (-1 : Int32), .int (0 : Int32), .int (0 : Int32)])), (q1, .inl (cI, 6, .inl k_z)), (q2, .inl (cI, 6, .inl k_z)), (q3, .inl (cI, 6, .inl k_z)), (q4, .inl (cI, 6, .inl k_z)), (q5, .inl (cI, 6, .inl k_z))] H := hP
  have hD : va_D A [(h0, .inr (2, [.ref q1, .ref q2, .ref q3, .ref q4, .ref q5, .int (0 : Int32), .int (-1 : Int32), .int (0 : Int32), .int (0 : Int32)])), (q1, .inl (cI, 6, .inl k_z)), (q2, .inl (cI, 6, .inl k_z)), (q3, .inl (cI, 6, .inl k_z)), (q4, .inl (cI, 6, .inl k_z)), (q5, .inl (cI, 6, .inl k_z))] := hD
  refine lv_iconst (v := (0 : Int32)) hx hb dX2_init_64 (by decide) ?_
  refine lv_istore_n (lv' := [(1, .int (0 : Int32)), (0, .ref h0)]) hx hb dX2_init_65 rfl hl (by decide) rfl (fun ls hl => ?_)
  refine lv_iload_n hx hb dX2_init_66 rfl (lv_at hl 0 rfl) ?_
  refine lv_bipush (v := (6 : Int32)) hx hb dX2_init_67 (by decide) ?_
  refine lv_icmp_ge (tgt := 86) hx hb dX2_init_69 (by decide) (fun c9 => absurd c9 (by decide)) (fun _ => ?_)
  refine lv_aload_n hx hb dX2_init_72 rfl (lv_at hl 1 rfl) ?_
  refine va_get (D := D) (ci := 2) (v := .ref q4) (C := RX2) (T := TX2) (N := 9) hx hb hts inwX2_init_X2 hown hK hP 0 rfl rfl 3 (by decide) (hts _ lnX2_init_7) (fun _ h9 => h9) rfl dX2_init_73 ?_
  refine lv_iload_n hx hb dX2_init_76 rfl (lv_at hl 0 rfl) ?_
  refine lv_bipush (v := (20 : Int32)) hx hb dX2_init_77 (by decide) ?_
  refine va_iast hx hb hK hP hD hS 4 0 rfl rfl (mm_gd_in (by decide)) dX2_init_79 (fun H locs hP hD hS => ?_)
  have hP : va_P D vwCl [(h0, .inr (2, [.ref q1, .ref q2, .ref q3, .ref q4, .ref q5, .int (0 : Int32), .int (-1 : Int32), .int (0 : Int32), .int (0 : Int32)])), (q1, .inl (cI, 6, .inl k_z)), (q2, .inl (cI, 6, .inl k_z)), (q3, .inl (cI, 6, .inl k_z)), (q4, .inl (cI, 6, .inl (upd k_z (Int32.toNatClampNeg 0) 20))), (q5, .inl (cI, 6, .inl k_z))] H := hP
  have hD : va_D A [(h0, .inr (2, [.ref q1, .ref q2, .ref q3, .ref q4, .ref q5, .int (0 : Int32), .int (-1 : Int32), .int (0 : Int32), .int (0 : Int32)])), (q1, .inl (cI, 6, .inl k_z)), (q2, .inl (cI, 6, .inl k_z)), (q3, .inl (cI, 6, .inl k_z)), (q4, .inl (cI, 6, .inl (upd k_z (Int32.toNatClampNeg 0) 20))), (q5, .inl (cI, 6, .inl k_z))] := hD
  refine lv_iinc (v := (1 : Int32)) (lv' := [(1, .int (1 : Int32)), (0, .ref h0)]) hx hb dX2_init_80 hl (k := 0) rfl (by decide) (by decide) rfl (fun ls hl => ?_)
  refine lv_goto (tgt := 66) hx hb dX2_init_83 (by decide) ?_
  refine lv_iload_n hx hb dX2_init_66 rfl (lv_at hl 0 rfl) ?_
  refine lv_bipush (v := (6 : Int32)) hx hb dX2_init_67 (by decide) ?_
  refine lv_icmp_ge (tgt := 86) hx hb dX2_init_69 (by decide) (fun c9 => absurd c9 (by decide)) (fun _ => ?_)
  refine lv_aload_n hx hb dX2_init_72 rfl (lv_at hl 1 rfl) ?_
  refine va_get (D := D) (ci := 2) (v := .ref q4) (C := RX2) (T := TX2) (N := 9) hx hb hts inwX2_init_X2 hown hK hP 0 rfl rfl 3 (by decide) (hts _ lnX2_init_7) (fun _ h9 => h9) rfl dX2_init_73 ?_
  refine lv_iload_n hx hb dX2_init_76 rfl (lv_at hl 0 rfl) ?_
  refine lv_bipush (v := (20 : Int32)) hx hb dX2_init_77 (by decide) ?_
  refine va_iast hx hb hK hP hD hS 4 0 rfl rfl (mm_gd_in (by decide)) dX2_init_79 (fun H locs hP hD hS => ?_)
  have hP : va_P D vwCl [(h0, .inr (2, [.ref q1, .ref q2, .ref q3, .ref q4, .ref q5, .int (0 : Int32), .int (-1 : Int32), .int (0 : Int32), .int (0 : Int32)])), (q1, .inl (cI, 6, .inl k_z)), (q2, .inl (cI, 6, .inl k_z)), (q3, .inl (cI, 6, .inl k_z)), (q4, .inl (cI, 6, .inl (upd (upd k_z (Int32.toNatClampNeg 0) 20) (Int32.toNatClampNeg 1) 20))), (q5, .inl (cI, 6, .inl k_z))] H := hP
  have hD : va_D A [(h0, .inr (2, [.ref q1, .ref q2, .ref q3, .ref q4, .ref q5, .int (0 : Int32), .int (-1 : Int32), .int (0 : Int32), .int (0 : Int32)])), (q1, .inl (cI, 6, .inl k_z)), (q2, .inl (cI, 6, .inl k_z)), (q3, .inl (cI, 6, .inl k_z)), (q4, .inl (cI, 6, .inl (upd (upd k_z (Int32.toNatClampNeg 0) 20) (Int32.toNatClampNeg 1) 20))), (q5, .inl (cI, 6, .inl k_z))] := hD
  refine lv_iinc (v := (2 : Int32)) (lv' := [(1, .int (2 : Int32)), (0, .ref h0)]) hx hb dX2_init_80 hl (k := 0) rfl (by decide) (by decide) rfl (fun ls hl => ?_)
  refine lv_goto (tgt := 66) hx hb dX2_init_83 (by decide) ?_
  refine lv_iload_n hx hb dX2_init_66 rfl (lv_at hl 0 rfl) ?_
  refine lv_bipush (v := (6 : Int32)) hx hb dX2_init_67 (by decide) ?_
  refine lv_icmp_ge (tgt := 86) hx hb dX2_init_69 (by decide) (fun c9 => absurd c9 (by decide)) (fun _ => ?_)
  refine lv_aload_n hx hb dX2_init_72 rfl (lv_at hl 1 rfl) ?_
  refine va_get (D := D) (ci := 2) (v := .ref q4) (C := RX2) (T := TX2) (N := 9) hx hb hts inwX2_init_X2 hown hK hP 0 rfl rfl 3 (by decide) (hts _ lnX2_init_7) (fun _ h9 => h9) rfl dX2_init_73 ?_
  refine lv_iload_n hx hb dX2_init_76 rfl (lv_at hl 0 rfl) ?_
  refine lv_bipush (v := (20 : Int32)) hx hb dX2_init_77 (by decide) ?_
  refine va_iast hx hb hK hP hD hS 4 0 rfl rfl (mm_gd_in (by decide)) dX2_init_79 (fun H locs hP hD hS => ?_)
  have hP : va_P D vwCl [(h0, .inr (2, [.ref q1, .ref q2, .ref q3, .ref q4, .ref q5, .int (0 : Int32), .int (-1 : Int32), .int (0 : Int32), .int (0 : Int32)])), (q1, .inl (cI, 6, .inl k_z)), (q2, .inl (cI, 6, .inl k_z)), (q3, .inl (cI, 6, .inl k_z)), (q4, .inl (cI, 6, .inl (upd (upd (upd k_z (Int32.toNatClampNeg 0) 20) (Int32.toNatClampNeg 1) 20) (Int32.toNatClampNeg 2) 20))), (q5, .inl (cI, 6, .inl k_z))] H := hP
  have hD : va_D A [(h0, .inr (2, [.ref q1, .ref q2, .ref q3, .ref q4, .ref q5, .int (0 : Int32), .int (-1 : Int32), .int (0 : Int32), .int (0 : Int32)])), (q1, .inl (cI, 6, .inl k_z)), (q2, .inl (cI, 6, .inl k_z)), (q3, .inl (cI, 6, .inl k_z)), (q4, .inl (cI, 6, .inl (upd (upd (upd k_z (Int32.toNatClampNeg 0) 20) (Int32.toNatClampNeg 1) 20) (Int32.toNatClampNeg 2) 20))), (q5, .inl (cI, 6, .inl k_z))] := hD
  refine lv_iinc (v := (3 : Int32)) (lv' := [(1, .int (3 : Int32)), (0, .ref h0)]) hx hb dX2_init_80 hl (k := 0) rfl (by decide) (by decide) rfl (fun ls hl => ?_)
  refine lv_goto (tgt := 66) hx hb dX2_init_83 (by decide) ?_
  refine lv_iload_n hx hb dX2_init_66 rfl (lv_at hl 0 rfl) ?_
  refine lv_bipush (v := (6 : Int32)) hx hb dX2_init_67 (by decide) ?_
  refine lv_icmp_ge (tgt := 86) hx hb dX2_init_69 (by decide) (fun c9 => absurd c9 (by decide)) (fun _ => ?_)
  refine lv_aload_n hx hb dX2_init_72 rfl (lv_at hl 1 rfl) ?_
  refine va_get (D := D) (ci := 2) (v := .ref q4) (C := RX2) (T := TX2) (N := 9) hx hb hts inwX2_init_X2 hown hK hP 0 rfl rfl 3 (by decide) (hts _ lnX2_init_7) (fun _ h9 => h9) rfl dX2_init_73 ?_
  refine lv_iload_n hx hb dX2_init_76 rfl (lv_at hl 0 rfl) ?_
  refine lv_bipush (v := (20 : Int32)) hx hb dX2_init_77 (by decide) ?_
  refine va_iast hx hb hK hP hD hS 4 0 rfl rfl (mm_gd_in (by decide)) dX2_init_79 (fun H locs hP hD hS => ?_)
  have hP : va_P D vwCl [(h0, .inr (2, [.ref q1, .ref q2, .ref q3, .ref q4, .ref q5, .int (0 : Int32), .int (-1 : Int32), .int (0 : Int32), .int (0 : Int32)])), (q1, .inl (cI, 6, .inl k_z)), (q2, .inl (cI, 6, .inl k_z)), (q3, .inl (cI, 6, .inl k_z)), (q4, .inl (cI, 6, .inl (upd (upd (upd (upd k_z (Int32.toNatClampNeg 0) 20) (Int32.toNatClampNeg 1) 20) (Int32.toNatClampNeg 2) 20) (Int32.toNatClampNeg 3) 20))), (q5, .inl (cI, 6, .inl k_z))] H := hP
  have hD : va_D A [(h0, .inr (2, [.ref q1, .ref q2, .ref q3, .ref q4, .ref q5, .int (0 : Int32), .int (-1 : Int32), .int (0 : Int32), .int (0 : Int32)])), (q1, .inl (cI, 6, .inl k_z)), (q2, .inl (cI, 6, .inl k_z)), (q3, .inl (cI, 6, .inl k_z)), (q4, .inl (cI, 6, .inl (upd (upd (upd (upd k_z (Int32.toNatClampNeg 0) 20) (Int32.toNatClampNeg 1) 20) (Int32.toNatClampNeg 2) 20) (Int32.toNatClampNeg 3) 20))), (q5, .inl (cI, 6, .inl k_z))] := hD
  refine lv_iinc (v := (4 : Int32)) (lv' := [(1, .int (4 : Int32)), (0, .ref h0)]) hx hb dX2_init_80 hl (k := 0) rfl (by decide) (by decide) rfl (fun ls hl => ?_)
  refine lv_goto (tgt := 66) hx hb dX2_init_83 (by decide) ?_
  refine lv_iload_n hx hb dX2_init_66 rfl (lv_at hl 0 rfl) ?_
  refine lv_bipush (v := (6 : Int32)) hx hb dX2_init_67 (by decide) ?_
  refine lv_icmp_ge (tgt := 86) hx hb dX2_init_69 (by decide) (fun c9 => absurd c9 (by decide)) (fun _ => ?_)
  refine lv_aload_n hx hb dX2_init_72 rfl (lv_at hl 1 rfl) ?_
  refine va_get (D := D) (ci := 2) (v := .ref q4) (C := RX2) (T := TX2) (N := 9) hx hb hts inwX2_init_X2 hown hK hP 0 rfl rfl 3 (by decide) (hts _ lnX2_init_7) (fun _ h9 => h9) rfl dX2_init_73 ?_
  refine lv_iload_n hx hb dX2_init_76 rfl (lv_at hl 0 rfl) ?_
  refine lv_bipush (v := (20 : Int32)) hx hb dX2_init_77 (by decide) ?_
  refine va_iast hx hb hK hP hD hS 4 0 rfl rfl (mm_gd_in (by decide)) dX2_init_79 (fun H locs hP hD hS => ?_)
  have hP : va_P D vwCl [(h0, .inr (2, [.ref q1, .ref q2, .ref q3, .ref q4, .ref q5, .int (0 : Int32), .int (-1 : Int32), .int (0 : Int32), .int (0 : Int32)])), (q1, .inl (cI, 6, .inl k_z)), (q2, .inl (cI, 6, .inl k_z)), (q3, .inl (cI, 6, .inl k_z)), (q4, .inl (cI, 6, .inl (upd (upd (upd (upd (upd k_z (Int32.toNatClampNeg 0) 20) (Int32.toNatClampNeg 1) 20) (Int32.toNatClampNeg 2) 20) (Int32.toNatClampNeg 3) 20) (Int32.toNatClampNeg 4) 20))), (q5, .inl (cI, 6, .inl k_z))] H := hP
  have hD : va_D A [(h0, .inr (2, [.ref q1, .ref q2, .ref q3, .ref q4, .ref q5, .int (0 : Int32), .int (-1 : Int32), .int (0 : Int32), .int (0 : Int32)])), (q1, .inl (cI, 6, .inl k_z)), (q2, .inl (cI, 6, .inl k_z)), (q3, .inl (cI, 6, .inl k_z)), (q4, .inl (cI, 6, .inl (upd (upd (upd (upd (upd k_z (Int32.toNatClampNeg 0) 20) (Int32.toNatClampNeg 1) 20) (Int32.toNatClampNeg 2) 20) (Int32.toNatClampNeg 3) 20) (Int32.toNatClampNeg 4) 20))), (q5, .inl (cI, 6, .inl k_z))] := hD
  refine lv_iinc (v := (5 : Int32)) (lv' := [(1, .int (5 : Int32)), (0, .ref h0)]) hx hb dX2_init_80 hl (k := 0) rfl (by decide) (by decide) rfl (fun ls hl => ?_)
  refine lv_goto (tgt := 66) hx hb dX2_init_83 (by decide) ?_
  refine lv_iload_n hx hb dX2_init_66 rfl (lv_at hl 0 rfl) ?_
  refine lv_bipush (v := (6 : Int32)) hx hb dX2_init_67 (by decide) ?_
  refine lv_icmp_ge (tgt := 86) hx hb dX2_init_69 (by decide) (fun c9 => absurd c9 (by decide)) (fun _ => ?_)
  refine lv_aload_n hx hb dX2_init_72 rfl (lv_at hl 1 rfl) ?_
  refine va_get (D := D) (ci := 2) (v := .ref q4) (C := RX2) (T := TX2) (N := 9) hx hb hts inwX2_init_X2 hown hK hP 0 rfl rfl 3 (by decide) (hts _ lnX2_init_7) (fun _ h9 => h9) rfl dX2_init_73 ?_
  refine lv_iload_n hx hb dX2_init_76 rfl (lv_at hl 0 rfl) ?_
  refine lv_bipush (v := (20 : Int32)) hx hb dX2_init_77 (by decide) ?_
  refine va_iast hx hb hK hP hD hS 4 0 rfl rfl (mm_gd_in (by decide)) dX2_init_79 (fun H locs hP hD hS => ?_)
  have hP : va_P D vwCl [(h0, .inr (2, [.ref q1, .ref q2, .ref q3, .ref q4, .ref q5, .int (0 : Int32), .int (-1 : Int32), .int (0 : Int32), .int (0 : Int32)])), (q1, .inl (cI, 6, .inl k_z)), (q2, .inl (cI, 6, .inl k_z)), (q3, .inl (cI, 6, .inl k_z)), (q4, .inl (cI, 6, .inl (upd (upd (upd (upd (upd (upd k_z (Int32.toNatClampNeg 0) 20) (Int32.toNatClampNeg 1) 20) (Int32.toNatClampNeg 2) 20) (Int32.toNatClampNeg 3) 20) (Int32.toNatClampNeg 4) 20) (Int32.toNatClampNeg 5) 20))), (q5, .inl (cI, 6, .inl k_z))] H := hP
  have hD : va_D A [(h0, .inr (2, [.ref q1, .ref q2, .ref q3, .ref q4, .ref q5, .int (0 : Int32), .int (-1 : Int32), .int (0 : Int32), .int (0 : Int32)])), (q1, .inl (cI, 6, .inl k_z)), (q2, .inl (cI, 6, .inl k_z)), (q3, .inl (cI, 6, .inl k_z)), (q4, .inl (cI, 6, .inl (upd (upd (upd (upd (upd (upd k_z (Int32.toNatClampNeg 0) 20) (Int32.toNatClampNeg 1) 20) (Int32.toNatClampNeg 2) 20) (Int32.toNatClampNeg 3) 20) (Int32.toNatClampNeg 4) 20) (Int32.toNatClampNeg 5) 20))), (q5, .inl (cI, 6, .inl k_z))] := hD
  refine lv_iinc (v := (6 : Int32)) (lv' := [(1, .int (6 : Int32)), (0, .ref h0)]) hx hb dX2_init_80 hl (k := 0) rfl (by decide) (by decide) rfl (fun ls hl => ?_)
  refine lv_goto (tgt := 66) hx hb dX2_init_83 (by decide) ?_
  refine lv_iload_n hx hb dX2_init_66 rfl (lv_at hl 0 rfl) ?_
  refine lv_bipush (v := (6 : Int32)) hx hb dX2_init_67 (by decide) ?_
  refine lv_icmp_ge (tgt := 86) hx hb dX2_init_69 (by decide) (fun _ => ?_) (fun c9 => absurd (by decide) c9)
  rw [k_20_eq] at hP hD
  have hP : va_P D vwCl [(h0, .inr (2, [.ref q1, .ref q2, .ref q3, .ref q4, .ref q5, .int (0 : Int32), .int (-1 : Int32), .int (0 : Int32), .int (0 : Int32)])), (q1, .inl (cI, 6, .inl k_z)), (q2, .inl (cI, 6, .inl k_z)), (q3, .inl (cI, 6, .inl k_z)), (q4, .inl (cI, 6, .inl k_20)), (q5, .inl (cI, 6, .inl k_z))] H := hP
  have hD : va_D A [(h0, .inr (2, [.ref q1, .ref q2, .ref q3, .ref q4, .ref q5, .int (0 : Int32), .int (-1 : Int32), .int (0 : Int32), .int (0 : Int32)])), (q1, .inl (cI, 6, .inl k_z)), (q2, .inl (cI, 6, .inl k_z)), (q3, .inl (cI, 6, .inl k_z)), (q4, .inl (cI, 6, .inl k_20)), (q5, .inl (cI, 6, .inl k_z))] := hD
  have hP9 := hP.sub (ws' := [(h0, .inr (2, [.ref q1, .ref q2, .ref q3, .ref q4, .ref q5, .int (0 : Int32), .int (-1 : Int32), .int (0 : Int32), .int (0 : Int32)])), (q1, .inl (cI, 6, .inl k_z)), (q2, .inl (cI, 6, .inl k_z)), (q3, .inl (cI, 6, .inl k_z)), (q4, .inl (cI, 6, .inl k_20)), (q5, .inl (cI, 6, .inl k_z))]) [0, 1, 2, 3, 4, 5] rfl
  have hD9 := hD.sub (ws' := [(h0, .inr (2, [.ref q1, .ref q2, .ref q3, .ref q4, .ref q5, .int (0 : Int32), .int (-1 : Int32), .int (0 : Int32), .int (0 : Int32)])), (q1, .inl (cI, 6, .inl k_z)), (q2, .inl (cI, 6, .inl k_z)), (q3, .inl (cI, 6, .inl k_z)), (q4, .inl (cI, 6, .inl k_20)), (q5, .inl (cI, 6, .inl k_z))]) [0, 1, 2, 3, 4, 5] (by decide) rfl
  exact W.vret hx hb hr (fun t ht hW => ⟨⟨(), rfl, trivial, q1, q2, q3, q4, q5, by rw [ht]; exact hP9, hD9⟩, hS.F ht⟩) hS.2.2 dX2_init_86
theorem lnX0_init_0 : Cond.methodLink RX0 3 objectInit ∈ wsX0_init := List.mem_of_getElem? (i := 1) rfl
theorem lnX0_init_1 : Cond.instanceMethod objectInit ∈ wsX0_init := List.mem_of_getElem? (i := 2) rfl
theorem lnX0_init_2 : Cond.code objectInit ⟨#[0xb1]⟩ 1 none ∈ wsX0_init := List.mem_of_getElem? (i := 3) rfl
theorem lnX0_init_3 : Cond.arrayClass .int ∈ wsX0_init := List.mem_of_getElem? (i := 4) rfl
theorem inwX0_init_X0 : ∀ w ∈ wsX00, w ∈ wsX0_init := by
  intro w hw
  have h9 : wsX00 = (wsX0_init.drop 16).take 11 := rfl
  rw [h9] at hw
  exact List.mem_of_mem_drop (List.mem_of_mem_take hw)
theorem lnX0_init_4 : Cond.fieldLink RX0 9 "RichestPays$Evening" "tables" "[I" ∈ wsX0_init := List.mem_of_getElem? (i := 5) rfl
theorem lnX0_init_5 : Cond.fieldLink RX0 15 "RichestPays$Evening" "groups" "[I" ∈ wsX0_init := List.mem_of_getElem? (i := 6) rfl
theorem lnX0_init_6 : Cond.fieldLink RX0 18 "RichestPays$Evening" "hand" "[I" ∈ wsX0_init := List.mem_of_getElem? (i := 7) rfl
theorem lnX0_init_7 : Cond.fieldLink RX0 21 "RichestPays$Evening" "paid" "[I" ∈ wsX0_init := List.mem_of_getElem? (i := 8) rfl
theorem lnX0_init_8 : Cond.fieldLink RX0 24 "RichestPays$Evening" "eaten" "[I" ∈ wsX0_init := List.mem_of_getElem? (i := 9) rfl
theorem lnX0_init_9 : Cond.fieldLink RX0 27 "RichestPays$Evening" "lacked" "[I" ∈ wsX0_init := List.mem_of_getElem? (i := 10) rfl
theorem lnX0_init_10 : Cond.fieldLink RX0 30 "RichestPays$Evening" "paidNow" "[I" ∈ wsX0_init := List.mem_of_getElem? (i := 11) rfl
theorem lnX0_init_11 : Cond.fieldLink RX0 33 "RichestPays$Evening" "paidIn" "[I" ∈ wsX0_init := List.mem_of_getElem? (i := 12) rfl
theorem lnX0_init_12 : Cond.fieldLink RX0 36 "RichestPays$Evening" "rounds" "I" ∈ wsX0_init := List.mem_of_getElem? (i := 13) rfl
theorem lnX0_init_13 : Cond.fieldLink RX0 40 "RichestPays$Evening" "textFault" "I" ∈ wsX0_init := List.mem_of_getElem? (i := 14) rfl
theorem lnX0_init_14 : Cond.fieldLink RX0 43 "RichestPays$Evening" "people" "LRichestPays$People;" ∈ wsX0_init := List.mem_of_getElem? (i := 15) rfl
abbrev rmX0_init : Room := { frames := 1, cells := 8, slots := 174, locals := 40 }
set_option maxHeartbeats 8000000 in
set_option maxRecDepth 100000 in
theorem c_X0_init (l : Launch) (D : va_G) (cI : ClassId) (h0 : Nat) (a1 : Nat) (sz : Nat) : Met l yX0_init wsX0_init rmX0_init (va_Pc [.ref h0, .ref a1] (fun U => U.heap.size = sz ∧ va_P D vwCl [(h0, .inr (0, [.null, .null, .null, .null, .null, .null, .null, .null, .null, .int 0, .int 0]))] U.heap ∧ va_K D vwCl [(cI, .int)] U ∧ va_D (fun _ => True) [(h0, .inr (0, [.null, .null, .null, .null, .null, .null, .null, .null, .null, .int 0, .int 0]))])) (va_Qv (fun _ : Unit => True) (fun _ t => ∃ q1 q2 q3 q4 q5 q6 q7 q8 : Nat, va_P D vwCl [(h0, .inr (0, [.ref a1, .ref q1, .ref q2, .ref q3, .ref q4, .ref q5, .ref q6, .ref q7, .ref q8, .int (0 : Int32), .int (-1 : Int32)])), (q1, .inl (cI, 48, .inl k_z)), (q2, .inl (cI, 48, .inl k_z)), (q3, .inl (cI, 6, .inl k_z)), (q4, .inl (cI, 6, .inl k_z)), (q5, .inl (cI, 6, .inl k_z)), (q6, .inl (cI, 6, .inl k_z)), (q7, .inl (cI, 6, .inl k_z)), (q8, .inl (cI, 48, .inl k_z))] t.heap ∧ va_D (va_A [(h0, .inr (0, [.null, .null, .null, .null, .null, .null, .null, .null, .null, .int 0, .int 0]))] sz) [(h0, .inr (0, [.ref a1, .ref q1, .ref q2, .ref q3, .ref q4, .ref q5, .ref q6, .ref q7, .ref q8, .int (0 : Int32), .int (-1 : Int32)])), (q1, .inl (cI, 48, .inl k_z)), (q2, .inl (cI, 48, .inl k_z)), (q3, .inl (cI, 6, .inl k_z)), (q4, .inl (cI, 6, .inl k_z)), (q5, .inl (cI, 6, .inl k_z)), (q6, .inl (cI, 6, .inl k_z)), (q7, .inl (cI, 6, .inl k_z)), (q8, .inl (cI, 48, .inl k_z))]) (va_A [(h0, .inr (0, [.null, .null, .null, .null, .null, .null, .null, .null, .null, .int 0, .int 0]))] sz)) 8 174 (va_A [(h0, .inr (0, [.null, .null, .null, .null, .null, .null, .null, .null, .null, .int 0, .int 0]))] sz) := by
  refine Met.ofW (cc := cX0_init) (maxL := 2) (ret := none) (by decide) rfl ?_
  intro p e s m args below meth c s₁ B hml hv
  obtain ⟨rfl, hsz, hP, hK, hD0⟩ := hv
  have hx := B.exec
  have hb := B.bytes
  have hr := B.returns
  have hts := atoms_spec (ws := wsX0_init) B.pre
  have hown : s.vm.findClass RX0 = some m.cls := findClass_of_methodNamed B.named
  have hlocks := B.notSynchronized
  have hin : meth.name = "<init>" := (name_of_methodNamed B.named B.method).1
  subst hsz
  have hD := hD0.self (sz := s.heap.size)
  generalize hAe : va_A [(h0, .inr (0, [.null, .null, .null, .null, .null, .null, .null, .null, .null, .int 0, .int 0]))] s.heap.size = A at hD ⊢
  have hA : ∀ q : Nat, s.heap.size ≤ q → A q := fun q h => by rw [← hAe]; exact Or.inr h
  clear hAe
  have hS : va_S A s.heap s.heap [] := va_S.rf
  have hP : va_P D vwCl [(h0, .inr (0, [.null, .null, .null, .null, .null, .null, .null, .null, .null, .int 0, .int 0]))] s.heap := hP
  have hl := lv_entry ([.ref h0, .ref a1]) (n := 2) (Nat.le_of_ble_eq_true rfl)
  rw [lg_entry_eq]
  generalize (lg_sl ([.ref h0, .ref a1]) ++ List.replicate (2 - (lg_sl ([.ref h0, .ref a1])).length) Slot.unset).toArray = ls at hl ⊢
  have hl : lv_has ls 2 [(0, .ref h0), (1, .ref a1)] := hl
  have hH : s.heap = s.heap := rfl
  refine lv_aload_n hx hb dX0_init_0 rfl (lv_at hl 0 rfl) ?_
  refine W.objInit hx hb hown (hts _ lnX0_init_0) (hts _ lnX0_init_1) (hts _ lnX0_init_2) rfl (by rw [hml]; exact hl.1) rfl dX0_init_1 (Nat.le_of_ble_eq_true rfl) (Nat.le_of_ble_eq_true rfl) ?_
  refine W.eq (g2 := F0 m 4 ls []) rfl ?_
  refine lv_aload_n hx hb dX0_init_4 rfl (lv_at hl 0 rfl) ?_
  refine lv_bipush (v := (48 : Int32)) hx hb dX0_init_5 (by decide) ?_
  refine va_newa (atype := .int) (a0 := (48, .inl k_z)) (N' := 48) hx hb (hts _ lnX0_init_3) rfl hK hP hD hS hA (fun _ => rfl) (by decide) (by decide) (Nat.le_of_ble_eq_true rfl) (Nat.le_of_ble_eq_true rfl) (Nat.le_of_ble_eq_true rfl) dX0_init_7 (fun q1 cA9 H hK9 hP hD hS => ?_)
  have e9 := k_same hK9 0 rfl
  subst e9
  clear hK9
  have hP : va_P D vwCl [(h0, .inr (0, [.null, .null, .null, .null, .null, .null, .null, .null, .null, .int 0, .int 0])), (q1, .inl (cI, 48, .inl k_z))] H := hP
  have hD : va_D A [(h0, .inr (0, [.null, .null, .null, .null, .null, .null, .null, .null, .null, .int 0, .int 0])), (q1, .inl (cI, 48, .inl k_z))] := hD
  refine W.widen (k := 1) (n := 48) (Nat.le_of_ble_eq_true rfl) (Nat.le_of_ble_eq_true rfl) ?_
  refine va_putF (D := D) (ci := 0) (v := .ref q1) (ty := .array .int) (C := RX0) (T := TX0) (N := 11) hx hb hts inwX0_init_X0 tyX0 tyX0_ok nmX0 hown hK hP hD hS 0 rfl rfl 1 (by decide) (hts _ lnX0_init_4) (fun _ h9 => h9) rfl hin rfl (by decide +kernel) rfl rfl (Nat.le_of_ble_eq_true rfl) dX0_init_9 (fun H locs hP hD hS => ?_)
  have hP : va_P D vwCl [(h0, .inr (0, [.null, .ref q1, .null, .null, .null, .null, .null, .null, .null, .int 0, .int 0])), (q1, .inl (cI, 48, .inl k_z))] H := hP
  have hD : va_D A [(h0, .inr (0, [.null, .ref q1, .null, .null, .null, .null, .null, .null, .null, .int 0, .int 0])), (q1, .inl (cI, 48, .inl k_z))] := hD
  refine lv_aload_n hx hb dX0_init_12 rfl (lv_at hl 0 rfl) ?_
  refine lv_bipush (v := (48 : Int32)) hx hb dX0_init_13 (by decide) ?_
  refine va_newa (atype := .int) (a0 := (48, .inl k_z)) (N' := 48) hx hb (hts _ lnX0_init_3) rfl hK hP hD hS hA (fun _ => rfl) (by decide) (by decide) (Nat.le_of_ble_eq_true rfl) (Nat.le_of_ble_eq_true rfl) (Nat.le_of_ble_eq_true rfl) dX0_init_15 (fun q2 cA9 H hK9 hP hD hS => ?_)
  have e9 := k_same hK9 0 rfl
  subst e9
  clear hK9
  have hP : va_P D vwCl [(h0, .inr (0, [.null, .ref q1, .null, .null, .null, .null, .null, .null, .null, .int 0, .int 0])), (q1, .inl (cI, 48, .inl k_z)), (q2, .inl (cI, 48, .inl k_z))] H := hP
  have hD : va_D A [(h0, .inr (0, [.null, .ref q1, .null, .null, .null, .null, .null, .null, .null, .int 0, .int 0])), (q1, .inl (cI, 48, .inl k_z)), (q2, .inl (cI, 48, .inl k_z))] := hD
  refine W.widen (k := 2) (n := 96) (Nat.le_of_ble_eq_true rfl) (Nat.le_of_ble_eq_true rfl) ?_
  refine va_putF (D := D) (ci := 0) (v := .ref q2) (ty := .array .int) (C := RX0) (T := TX0) (N := 11) hx hb hts inwX0_init_X0 tyX0 tyX0_ok nmX0 hown hK hP hD hS 0 rfl rfl 2 (by decide) (hts _ lnX0_init_5) (fun _ h9 => h9) rfl hin rfl (by decide +kernel) rfl rfl (Nat.le_of_ble_eq_true rfl) dX0_init_17 (fun H locs hP hD hS => ?_)
  have hP : va_P D vwCl [(h0, .inr (0, [.null, .ref q1, .ref q2, .null, .null, .null, .null, .null, .null, .int 0, .int 0])), (q1, .inl (cI, 48, .inl k_z)), (q2, .inl (cI, 48, .inl k_z))] H := hP
  have hD : va_D A [(h0, .inr (0, [.null, .ref q1, .ref q2, .null, .null, .null, .null, .null, .null, .int 0, .int 0])), (q1, .inl (cI, 48, .inl k_z)), (q2, .inl (cI, 48, .inl k_z))] := hD
  refine lv_aload_n hx hb dX0_init_20 rfl (lv_at hl 0 rfl) ?_
  refine lv_bipush (v := (6 : Int32)) hx hb dX0_init_21 (by decide) ?_
  refine va_newa (atype := .int) (a0 := (6, .inl k_z)) (N' := 6) hx hb (hts _ lnX0_init_3) rfl hK hP hD hS hA (fun _ => rfl) (by decide) (by decide) (Nat.le_of_ble_eq_true rfl) (Nat.le_of_ble_eq_true rfl) (Nat.le_of_ble_eq_true rfl) dX0_init_23 (fun q3 cA9 H hK9 hP hD hS => ?_)
  have e9 := k_same hK9 0 rfl
  subst e9
  clear hK9
  have hP : va_P D vwCl [(h0, .inr (0, [.null, .ref q1, .ref q2, .null, .null, .null, .null, .null, .null, .int 0, .int 0])), (q1, .inl (cI, 48, .inl k_z)), (q2, .inl (cI, 48, .inl k_z)), (q3, .inl (cI, 6, .inl k_z))] H := hP
  have hD : va_D A [(h0, .inr (0, [.null, .ref q1, .ref q2, .null, .null, .null, .null, .null, .null, .int 0, .int 0])), (q1, .inl (cI, 48, .inl k_z)), (q2, .inl (cI, 48, .inl k_z)), (q3, .inl (cI, 6, .inl k_z))] := hD
  refine W.widen (k := 3) (n := 102) (Nat.le_of_ble_eq_true rfl) (Nat.le_of_ble_eq_true rfl) ?_
  refine va_putF (D := D) (ci := 0) (v := .ref q3) (ty := .array .int) (C := RX0) (T := TX0) (N := 11) hx hb hts inwX0_init_X0 tyX0 tyX0_ok nmX0 hown hK hP hD hS 0 rfl rfl 3 (by decide) (hts _ lnX0_init_6) (fun _ h9 => h9) rfl hin rfl (by decide +kernel) rfl rfl (Nat.le_of_ble_eq_true rfl) dX0_init_25 (fun H locs hP hD hS => ?_)
  have hP : va_P D vwCl [(h0, .inr (0, [.null, .ref q1, .ref q2, .ref q3, .null, .null, .null, .null, .null, .int 0, .int 0])), (q1, .inl (cI, 48, .inl k_z)), (q2, .inl (cI, 48, .inl k_z)), (q3, .inl (cI, 6, .inl k_z))] H := hP
  have hD : va_D A [(h0, .inr (0, [.null, .ref q1, .ref q2, .ref q3, .null, .null, .null, .null, .null, .int 0, .int 0])), (q1, .inl (cI, 48, .inl k_z)), (q2, .inl (cI, 48, .inl k_z)), (q3, .inl (cI, 6, .inl k_z))] := hD
  refine lv_aload_n hx hb dX0_init_28 rfl (lv_at hl 0 rfl) ?_
  refine lv_bipush (v := (6 : Int32)) hx hb dX0_init_29 (by decide) ?_
  refine va_newa (atype := .int) (a0 := (6, .inl k_z)) (N' := 6) hx hb (hts _ lnX0_init_3) rfl hK hP hD hS hA (fun _ => rfl) (by decide) (by decide) (Nat.le_of_ble_eq_true rfl) (Nat.le_of_ble_eq_true rfl) (Nat.le_of_ble_eq_true rfl) dX0_init_31 (fun q4 cA9 H hK9 hP hD hS => ?_)
  have e9 := k_same hK9 0 rfl
  subst e9
  clear hK9
  have hP : va_P D vwCl [(h0, .inr (0, [.null, .ref q1, .ref q2, .ref q3, .null, .null, .null, .null, .null, .int 0, .int 0])), (q1, .inl (cI, 48, .inl k_z)), (q2, .inl (cI, 48, .inl k_z)), (q3, .inl (cI, 6, .inl k_z)), (q4, .inl (cI, 6, .inl k_z))] H := hP
  have hD : va_D A [(h0, .inr (0, [.null, .ref q1, .ref q2, .ref q3, .null, .null, .null, .null, .null, .int 0, .int 0])), (q1, .inl (cI, 48, .inl k_z)), (q2, .inl (cI, 48, .inl k_z)), (q3, .inl (cI, 6, .inl k_z)), (q4, .inl (cI, 6, .inl k_z))] := hD
  refine W.widen (k := 4) (n := 108) (Nat.le_of_ble_eq_true rfl) (Nat.le_of_ble_eq_true rfl) ?_
  refine va_putF (D := D) (ci := 0) (v := .ref q4) (ty := .array .int) (C := RX0) (T := TX0) (N := 11) hx hb hts inwX0_init_X0 tyX0 tyX0_ok nmX0 hown hK hP hD hS 0 rfl rfl 4 (by decide) (hts _ lnX0_init_7) (fun _ h9 => h9) rfl hin rfl (by decide +kernel) rfl rfl (Nat.le_of_ble_eq_true rfl) dX0_init_33 (fun H locs hP hD hS => ?_)
  have hP : va_P D vwCl [(h0, .inr (0, [.null, .ref q1, .ref q2, .ref q3, .ref q4, .null, .null, .null, .null, .int 0, .int 0])), (q1, .inl (cI, 48, .inl k_z)), (q2, .inl (cI, 48, .inl k_z)), (q3, .inl (cI, 6, .inl k_z)), (q4, .inl (cI, 6, .inl k_z))] H := hP
  have hD : va_D A [(h0, .inr (0, [.null, .ref q1, .ref q2, .ref q3, .ref q4, .null, .null, .null, .null, .int 0, .int 0])), (q1, .inl (cI, 48, .inl k_z)), (q2, .inl (cI, 48, .inl k_z)), (q3, .inl (cI, 6, .inl k_z)), (q4, .inl (cI, 6, .inl k_z))] := hD
  refine lv_aload_n hx hb dX0_init_36 rfl (lv_at hl 0 rfl) ?_
  refine lv_bipush (v := (6 : Int32)) hx hb dX0_init_37 (by decide) ?_
  refine va_newa (atype := .int) (a0 := (6, .inl k_z)) (N' := 6) hx hb (hts _ lnX0_init_3) rfl hK hP hD hS hA (fun _ => rfl) (by decide) (by decide) (Nat.le_of_ble_eq_true rfl) (Nat.le_of_ble_eq_true rfl) (Nat.le_of_ble_eq_true rfl) dX0_init_39 (fun q5 cA9 H hK9 hP hD hS => ?_)
  have e9 := k_same hK9 0 rfl
  subst e9
  clear hK9
  have hP : va_P D vwCl [(h0, .inr (0, [.null, .ref q1, .ref q2, .ref q3, .ref q4, .null, .null, .null, .null, .int 0, .int 0])), (q1, .inl (cI, 48, .inl k_z)), (q2, .inl (cI, 48, .inl k_z)), (q3, .inl (cI, 6, .inl k_z)), (q4, .inl (cI, 6, .inl k_z)), (q5, .inl (cI, 6, .inl k_z))] H := hP
  have hD : va_D A [(h0, .inr (0, [.null, .ref q1, .ref q2, .ref q3, .ref q4, .null, .null, .null, .null, .int 0, .int 0])), (q1, .inl (cI, 48, .inl k_z)), (q2, .inl (cI, 48, .inl k_z)), (q3, .inl (cI, 6, .inl k_z)), (q4, .inl (cI, 6, .inl k_z)), (q5, .inl (cI, 6, .inl k_z))] := hD
  refine W.widen (k := 5) (n := 114) (Nat.le_of_ble_eq_true rfl) (Nat.le_of_ble_eq_true rfl) ?_
  refine va_putF (D := D) (ci := 0) (v := .ref q5) (ty := .array .int) (C := RX0) (T := TX0) (N := 11) hx hb hts inwX0_init_X0 tyX0 tyX0_ok nmX0 hown hK hP hD hS 0 rfl rfl 5 (by decide) (hts _ lnX0_init_8) (fun _ h9 => h9) rfl hin rfl (by decide +kernel) rfl rfl (Nat.le_of_ble_eq_true rfl) dX0_init_41 (fun H locs hP hD hS => ?_)
  have hP : va_P D vwCl [(h0, .inr (0, [.null, .ref q1, .ref q2, .ref q3, .ref q4, .ref q5, .null, .null, .null, .int 0, .int 0])), (q1, .inl (cI, 48, .inl k_z)), (q2, .inl (cI, 48, .inl k_z)), (q3, .inl (cI, 6, .inl k_z)), (q4, .inl (cI, 6, .inl k_z)), (q5, .inl (cI, 6, .inl k_z))] H := hP
  have hD : va_D A [(h0, .inr (0, [.null, .ref q1, .ref q2, .ref q3, .ref q4, .ref q5, .null, .null, .null, .int 0, .int 0])), (q1, .inl (cI, 48, .inl k_z)), (q2, .inl (cI, 48, .inl k_z)), (q3, .inl (cI, 6, .inl k_z)), (q4, .inl (cI, 6, .inl k_z)), (q5, .inl (cI, 6, .inl k_z))] := hD
  refine lv_aload_n hx hb dX0_init_44 rfl (lv_at hl 0 rfl) ?_
  refine lv_bipush (v := (6 : Int32)) hx hb dX0_init_45 (by decide) ?_
  refine va_newa (atype := .int) (a0 := (6, .inl k_z)) (N' := 6) hx hb (hts _ lnX0_init_3) rfl hK hP hD hS hA (fun _ => rfl) (by decide) (by decide) (Nat.le_of_ble_eq_true rfl) (Nat.le_of_ble_eq_true rfl) (Nat.le_of_ble_eq_true rfl) dX0_init_47 (fun q6 cA9 H hK9 hP hD hS => ?_)
  have e9 := k_same hK9 0 rfl
  subst e9
  clear hK9
  have hP : va_P D vwCl [(h0, .inr (0, [.null, .ref q1, .ref q2, .ref q3, .ref q4, .ref q5, .null, .null, .null, .int 0, .int 0])), (q1, .inl (cI, 48, .inl k_z)), (q2, .inl (cI, 48, .inl k_z)), (q3, .inl (cI, 6, .inl k_z)), (q4, .inl (cI, 6, .inl k_z)), (q5, .inl (cI, 6, .inl k_z)), (q6, .inl (cI, 6, .inl k_z))] H := hP
  have hD : va_D A [(h0, .inr (0, [.null, .ref q1, .ref q2, .ref q3, .ref q4, .ref q5, .null, .null, .null, .int 0, .int 0])), (q1, .inl (cI, 48, .inl k_z)), (q2, .inl (cI, 48, .inl k_z)), (q3, .inl (cI, 6, .inl k_z)), (q4, .inl (cI, 6, .inl k_z)), (q5, .inl (cI, 6, .inl k_z)), (q6, .inl (cI, 6, .inl k_z))] := hD
  refine W.widen (k := 6) (n := 120) (Nat.le_of_ble_eq_true rfl) (Nat.le_of_ble_eq_true rfl) ?_
  refine va_putF (D := D) (ci := 0) (v := .ref q6) (ty := .array .int) (C := RX0) (T := TX0) (N := 11) hx hb hts inwX0_init_X0 tyX0 tyX0_ok nmX0 hown hK hP hD hS 0 rfl rfl 6 (by decide) (hts _ lnX0_init_9) (fun _ h9 => h9) rfl hin rfl (by decide +kernel) rfl rfl (Nat.le_of_ble_eq_true rfl) dX0_init_49 (fun H locs hP hD hS => ?_)
  have hP : va_P D vwCl [(h0, .inr (0, [.null, .ref q1, .ref q2, .ref q3, .ref q4, .ref q5, .ref q6, .null, .null, .int 0, .int 0])), (q1, .inl (cI, 48, .inl k_z)), (q2, .inl (cI, 48, .inl k_z)), (q3, .inl (cI, 6, .inl k_z)), (q4, .inl (cI, 6, .inl k_z)), (q5, .inl (cI, 6, .inl k_z)), (q6, .inl (cI, 6, .inl k_z))] H := hP
  have hD : va_D A [(h0, .inr (0, [.null, .ref q1, .ref q2, .ref q3, .ref q4, .ref q5, .ref q6, .null, .null, .int 0, .int 0])), (q1, .inl (cI, 48, .inl k_z)), (q2, .inl (cI, 48, .inl k_z)), (q3, .inl (cI, 6, .inl k_z)), (q4, .inl (cI, 6, .inl k_z)), (q5, .inl (cI, 6, .inl k_z)), (q6, .inl (cI, 6, .inl k_z))] := hD
  refine lv_aload_n hx hb dX0_init_52 rfl (lv_at hl 0 rfl) ?_
  refine lv_bipush (v := (6 : Int32)) hx hb dX0_init_53 (by decide) ?_
  refine va_newa (atype := .int) (a0 := (6, .inl k_z)) (N' := 6) hx hb (hts _ lnX0_init_3) rfl hK hP hD hS hA (fun _ => rfl) (by decide) (by decide) (Nat.le_of_ble_eq_true rfl) (Nat.le_of_ble_eq_true rfl) (Nat.le_of_ble_eq_true rfl) dX0_init_55 (fun q7 cA9 H hK9 hP hD hS => ?_)
  have e9 := k_same hK9 0 rfl
  subst e9
  clear hK9
  have hP : va_P D vwCl [(h0, .inr (0, [.null, .ref q1, .ref q2, .ref q3, .ref q4, .ref q5, .ref q6, .null, .null, .int 0, .int 0])), (q1, .inl (cI, 48, .inl k_z)), (q2, .inl (cI, 48, .inl k_z)), (q3, .inl (cI, 6, .inl k_z)), (q4, .inl (cI, 6, .inl k_z)), (q5, .inl (cI, 6, .inl k_z)), (q6, .inl (cI, 6, .inl k_z)), (q7, .inl (cI, 6, .inl k_z))] H := hP
  have hD : va_D A [(h0, .inr (0, [.null, .ref q1, .ref q2, .ref q3, .ref q4, .ref q5, .ref q6, .null, .null, .int 0, .int 0])), (q1, .inl (cI, 48, .inl k_z)), (q2, .inl (cI, 48, .inl k_z)), (q3, .inl (cI, 6, .inl k_z)), (q4, .inl (cI, 6, .inl k_z)), (q5, .inl (cI, 6, .inl k_z)), (q6, .inl (cI, 6, .inl k_z)), (q7, .inl (cI, 6, .inl k_z))] := hD
  refine W.widen (k := 7) (n := 126) (Nat.le_of_ble_eq_true rfl) (Nat.le_of_ble_eq_true rfl) ?_
  refine va_putF (D := D) (ci := 0) (v := .ref q7) (ty := .array .int) (C := RX0) (T := TX0) (N := 11) hx hb hts inwX0_init_X0 tyX0 tyX0_ok nmX0 hown hK hP hD hS 0 rfl rfl 7 (by decide) (hts _ lnX0_init_10) (fun _ h9 => h9) rfl hin rfl (by decide +kernel) rfl rfl (Nat.le_of_ble_eq_true rfl) dX0_init_57 (fun H locs hP hD hS => ?_)
  have hP : va_P D vwCl [(h0, .inr (0, [.null, .ref q1, .ref q2, .ref q3, .ref q4, .ref q5, .ref q6, .ref q7, .null, .int 0, .int 0])), (q1, .inl (cI, 48, .inl k_z)), (q2, .inl (cI, 48, .inl k_z)), (q3, .inl (cI, 6, .inl k_z)), (q4, .inl (cI, 6, .inl k_z)), (q5, .inl (cI, 6, .inl k_z)), (q6, .inl (cI, 6, .inl k_z)), (q7, .inl (cI, 6, .inl k_z))] H := hP
  have hD : va_D A [(h0, .inr (0, [.null, .ref q1, .ref q2, .ref q3, .ref q4, .ref q5, .ref q6, .ref q7, .null, .int 0, .int 0])), (q1, .inl (cI, 48, .inl k_z)), (q2, .inl (cI, 48, .inl k_z)), (q3, .inl (cI, 6, .inl k_z)), (q4, .inl (cI, 6, .inl k_z)), (q5, .inl (cI, 6, .inl k_z)), (q6, .inl (cI, 6, .inl k_z)), (q7, .inl (cI, 6, .inl k_z))] := hD
  refine lv_aload_n hx hb dX0_init_60 rfl (lv_at hl 0 rfl) ?_
  refine lv_bipush (v := (48 : Int32)) hx hb dX0_init_61 (by decide) ?_
  refine va_newa (atype := .int) (a0 := (48, .inl k_z)) (N' := 48) hx hb (hts _ lnX0_init_3) rfl hK hP hD hS hA (fun _ => rfl) (by decide) (by decide) (Nat.le_of_ble_eq_true rfl) (Nat.le_of_ble_eq_true rfl) (Nat.le_of_ble_eq_true rfl) dX0_init_63 (fun q8 cA9 H hK9 hP hD hS => ?_)
  have e9 := k_same hK9 0 rfl
  subst e9
  clear hK9
  have hP : va_P D vwCl [(h0, .inr (0, [.null, .ref q1, .ref q2, .ref q3, .ref q4, .ref q5, .ref q6, .ref q7, .null, .int 0, .int 0])), (q1, .inl (cI, 48, .inl k_z)), (q2, .inl (cI, 48, .inl k_z)), (q3, .inl (cI, 6, .inl k_z)), (q4, .inl (cI, 6, .inl k_z)), (q5, .inl (cI, 6, .inl k_z)), (q6, .inl (cI, 6, .inl k_z)), (q7, .inl (cI, 6, .inl k_z)), (q8, .inl (cI, 48, .inl k_z))] H := hP
  have hD : va_D A [(h0, .inr (0, [.null, .ref q1, .ref q2, .ref q3, .ref q4, .ref q5, .ref q6, .ref q7, .null, .int 0, .int 0])), (q1, .inl (cI, 48, .inl k_z)), (q2, .inl (cI, 48, .inl k_z)), (q3, .inl (cI, 6, .inl k_z)), (q4, .inl (cI, 6, .inl k_z)), (q5, .inl (cI, 6, .inl k_z)), (q6, .inl (cI, 6, .inl k_z)), (q7, .inl (cI, 6, .inl k_z)), (q8, .inl (cI, 48, .inl k_z))] := hD
  refine W.widen (k := 8) (n := 174) (Nat.le_of_ble_eq_true rfl) (Nat.le_of_ble_eq_true rfl) ?_
  refine va_putF (D := D) (ci := 0) (v := .ref q8) (ty := .array .int) (C := RX0) (T := TX0) (N := 11) hx hb hts inwX0_init_X0 tyX0 tyX0_ok nmX0 hown hK hP hD hS 0 rfl rfl 8 (by decide) (hts _ lnX0_init_11) (fun _ h9 => h9) rfl hin rfl (by decide +kernel) rfl rfl (Nat.le_of_ble_eq_true rfl) dX0_init_65 (fun H locs hP hD hS => ?_)
  have hP : va_P D vwCl [(h0, .inr (0, [.null, .ref q1, .ref q2, .ref q3, .ref q4, .ref q5, .ref q6, .ref q7, .ref q8, .int 0, .int 0])), (q1, .inl (cI, 48, .inl k_z)), (q2, .inl (cI, 48, .inl k_z)), (q3, .inl (cI, 6, .inl k_z)), (q4, .inl (cI, 6, .inl k_z)), (q5, .inl (cI, 6, .inl k_z)), (q6, .inl (cI, 6, .inl k_z)), (q7, .inl (cI, 6, .inl k_z)), (q8, .inl (cI, 48, .inl k_z))] H := hP
  have hD : va_D A [(h0, .inr (0, [.null, .ref q1, .ref q2, .ref q3, .ref q4, .ref q5, .ref q6, .ref q7, .ref q8, .int 0, .int 0])), (q1, .inl (cI, 48, .inl k_z)), (q2, .inl (cI, 48, .inl k_z)), (q3, .inl (cI, 6, .inl k_z)), (q4, .inl (cI, 6, .inl k_z)), (q5, .inl (cI, 6, .inl k_z)), (q6, .inl (cI, 6, .inl k_z)), (q7, .inl (cI, 6, .inl k_z)), (q8, .inl (cI, 48, .inl k_z))] := hD
  refine lv_aload_n hx hb dX0_init_68 rfl (lv_at hl 0 rfl) ?_
  refine lv_iconst (v := (0 : Int32)) hx hb dX0_init_69 (by decide) ?_
  refine va_put (D := D) (ci := 0) (v := .int (0 : Int32)) (ty := .int) (C := RX0) (T := TX0) (N := 11) hx hb hts inwX0_init_X0 tyX0 tyX0_ok nmX0 hown hK hP hD hS 0 rfl rfl 9 (by decide) (hts _ lnX0_init_12) (fun _ h9 => h9) rfl (by decide +kernel) rfl rfl (Nat.le_of_ble_eq_true rfl) dX0_init_70 (fun H locs hP hD hS => ?_)
  have hP : va_P D vwCl [(h0, .inr (0, [.null, .ref q1, .ref q2, .ref q3, .ref q4, .ref q5, .ref q6, .ref q7, .ref q8, .int (0 : Int32), .int 0])), (q1, .inl (cI, 48, .inl k_z)), (q2, .inl (cI, 48, .inl k_z)), (q3, .inl (cI, 6, .inl k_z)), (q4, .inl (cI, 6, .inl k_z)), (q5, .inl (cI, 6, .inl k_z)), (q6, .inl (cI, 6, .inl k_z)), (q7, .inl (cI, 6, .inl k_z)), (q8, .inl (cI, 48, .inl k_z))] H := hP
  have hD : va_D A [(h0, .inr (0, [.null, .ref q1, .ref q2, .ref q3, .ref q4, .ref q5, .ref q6, .ref q7, .ref q8, .int (0 : Int32), .int 0])), (q1, .inl (cI, 48, .inl k_z)), (q2, .inl (cI, 48, .inl k_z)), (q3, .inl (cI, 6, .inl k_z)), (q4, .inl (cI, 6, .inl k_z)), (q5, .inl (cI, 6, .inl k_z)), (q6, .inl (cI, 6, .inl k_z)), (q7, .inl (cI, 6, .inl k_z)), (q8, .inl (cI, 48, .inl k_z))] := hD
  refine lv_aload_n hx hb dX0_init_73 rfl (lv_at hl 0 rfl) ?_
  refine lv_iconst (v := (-1 : Int32)) hx hb dX0_init_74 (by decide) ?_
  refine va_put (D := D) (ci := 0) (v := .int (-1 : Int32)) (ty := .int) (C := RX0) (T := TX0) (N := 11) hx hb hts inwX0_init_X0 tyX0 tyX0_ok nmX0 hown hK hP hD hS 0 rfl rfl 10 (by decide) (hts _ lnX0_init_13) (fun _ h9 => h9) rfl (by decide +kernel) rfl rfl (Nat.le_of_ble_eq_true rfl) dX0_init_75 (fun H locs hP hD hS => ?_)
  have hP : va_P D vwCl [(h0, .inr (0, [.null, .ref q1, .ref q2, .ref q3, .ref q4, .ref q5, .ref q6, .ref q7, .ref q8, .int (0 : Int32), .int (-1 : Int32)])), (q1, .inl (cI, 48, .inl k_z)), (q2, .inl (cI, 48, .inl k_z)), (q3, .inl (cI, 6, .inl k_z)), (q4, .inl (cI, 6, .inl k_z)), (q5, .inl (cI, 6, .inl k_z)), (q6, .inl (cI, 6, .inl k_z)), (q7, .inl (cI, 6, .inl k_z)), (q8, .inl (cI, 48, .inl k_z))] H := hP
  have hD : va_D A [(h0, .inr (0, [.null, .ref q1, .ref q2, .ref q3, .ref q4, .ref q5, .ref q6, .ref q7, .ref q8, .int (0 : Int32), .int (-1 : Int32)])), (q1, .inl (cI, 48, .inl k_z)), (q2, .inl (cI, 48, .inl k_z)), (q3, .inl (cI, 6, .inl k_z)), (q4, .inl (cI, 6, .inl k_z)), (q5, .inl (cI, 6, .inl k_z)), (q6, .inl (cI, 6, .inl k_z)), (q7, .inl (cI, 6, .inl k_z)), (q8, .inl (cI, 48, .inl k_z))] := hD
  refine lv_aload_n hx hb dX0_init_78 rfl (lv_at hl 0 rfl) ?_
  refine lv_aload_n hx hb dX0_init_79 rfl (lv_at hl 1 rfl) ?_
  refine va_putF (D := D) (ci := 0) (v := .ref a1) (ty := .object "RichestPays$People") (C := RX0) (T := TX0) (N := 11) hx hb hts inwX0_init_X0 tyX0 tyX0_ok nmX0 hown hK hP hD hS 0 rfl rfl 0 (by decide) (hts _ lnX0_init_14) (fun _ h9 => h9) rfl hin rfl (by decide +kernel) rfl rfl (Nat.le_of_ble_eq_true rfl) dX0_init_80 (fun H locs hP hD hS => ?_)
  have hP : va_P D vwCl [(h0, .inr (0, [.ref a1, .ref q1, .ref q2, .ref q3, .ref q4, .ref q5, .ref q6, .ref q7, .ref q8, .int (0 : Int32), .int (-1 : Int32)])), (q1, .inl (cI, 48, .inl k_z)), (q2, .inl (cI, 48, .inl k_z)), (q3, .inl (cI, 6, .inl k_z)), (q4, .inl (cI, 6, .inl k_z)), (q5, .inl (cI, 6, .inl k_z)), (q6, .inl (cI, 6, .inl k_z)), (q7, .inl (cI, 6, .inl k_z)), (q8, .inl (cI, 48, .inl k_z))] H := hP
  have hD : va_D A [(h0, .inr (0, [.ref a1, .ref q1, .ref q2, .ref q3, .ref q4, .ref q5, .ref q6, .ref q7, .ref q8, .int (0 : Int32), .int (-1 : Int32)])), (q1, .inl (cI, 48, .inl k_z)), (q2, .inl (cI, 48, .inl k_z)), (q3, .inl (cI, 6, .inl k_z)), (q4, .inl (cI, 6, .inl k_z)), (q5, .inl (cI, 6, .inl k_z)), (q6, .inl (cI, 6, .inl k_z)), (q7, .inl (cI, 6, .inl k_z)), (q8, .inl (cI, 48, .inl k_z))] := hD
  have hP9 := hP.sub (ws' := [(h0, .inr (0, [.ref a1, .ref q1, .ref q2, .ref q3, .ref q4, .ref q5, .ref q6, .ref q7, .ref q8, .int (0 : Int32), .int (-1 : Int32)])), (q1, .inl (cI, 48, .inl k_z)), (q2, .inl (cI, 48, .inl k_z)), (q3, .inl (cI, 6, .inl k_z)), (q4, .inl (cI, 6, .inl k_z)), (q5, .inl (cI, 6, .inl k_z)), (q6, .inl (cI, 6, .inl k_z)), (q7, .inl (cI, 6, .inl k_z)), (q8, .inl (cI, 48, .inl k_z))]) [0, 1, 2, 3, 4, 5, 6, 7, 8] rfl
  have hD9 := hD.sub (ws' := [(h0, .inr (0, [.ref a1, .ref q1, .ref q2, .ref q3, .ref q4, .ref q5, .ref q6, .ref q7, .ref q8, .int (0 : Int32), .int (-1 : Int32)])), (q1, .inl (cI, 48, .inl k_z)), (q2, .inl (cI, 48, .inl k_z)), (q3, .inl (cI, 6, .inl k_z)), (q4, .inl (cI, 6, .inl k_z)), (q5, .inl (cI, 6, .inl k_z)), (q6, .inl (cI, 6, .inl k_z)), (q7, .inl (cI, 6, .inl k_z)), (q8, .inl (cI, 48, .inl k_z))]) [0, 1, 2, 3, 4, 5, 6, 7, 8] (by decide) rfl
  exact W.vret hx hb hr (fun t ht hW => ⟨⟨(), rfl, trivial, q1, q2, q3, q4, q5, q6, q7, q8, by rw [ht]; exact hP9, hD9⟩, hS.F ht⟩) hS.2.2 dX0_init_83
theorem lnX3_init_0 : Cond.methodLink RX3 3 objectInit ∈ wsX3_init := List.mem_of_getElem? (i := 1) rfl
theorem lnX3_init_1 : Cond.instanceMethod objectInit ∈ wsX3_init := List.mem_of_getElem? (i := 2) rfl
theorem lnX3_init_2 : Cond.code objectInit ⟨#[0xb1]⟩ 1 none ∈ wsX3_init := List.mem_of_getElem? (i := 3) rfl
theorem lnX3_init_3 : Cond.arrayClass .int ∈ wsX3_init := List.mem_of_getElem? (i := 4) rfl
theorem inwX3_init_X3 : ∀ w ∈ wsX30, w ∈ wsX3_init := by
  intro w hw
  have h9 : wsX30 = (wsX3_init.drop 10).take 10 := rfl
  rw [h9] at hw
  exact List.mem_of_mem_drop (List.mem_of_mem_take hw)
theorem lnX3_init_4 : Cond.fieldLink RX3 9 "RichestPays$Seating" "hands" "[I" ∈ wsX3_init := List.mem_of_getElem? (i := 5) rfl
theorem lnX3_init_5 : Cond.fieldLink RX3 15 "RichestPays$Seating" "gains" "[I" ∈ wsX3_init := List.mem_of_getElem? (i := 6) rfl
theorem lnX3_init_6 : Cond.fieldLink RX3 18 "RichestPays$Seating" "choosers" "[I" ∈ wsX3_init := List.mem_of_getElem? (i := 7) rfl
theorem lnX3_init_7 : Cond.fieldLink RX3 21 "RichestPays$Seating" "people" "LRichestPays$People;" ∈ wsX3_init := List.mem_of_getElem? (i := 8) rfl
theorem lnX3_init_8 : Cond.fieldLink RX3 25 "RichestPays$Seating" "evening" "LRichestPays$Evening;" ∈ wsX3_init := List.mem_of_getElem? (i := 9) rfl
abbrev rmX3_init : Room := { frames := 1, cells := 3, slots := 394, locals := 40 }
set_option maxHeartbeats 8000000 in
set_option maxRecDepth 100000 in
theorem c_X3_init (l : Launch) (D : va_G) (cI : ClassId) (h0 : Nat) (a1 : Nat) (a2 : Nat) (sz : Nat) : Met l yX3_init wsX3_init rmX3_init (va_Pc [.ref h0, .ref a1, .ref a2] (fun U => U.heap.size = sz ∧ va_P D vwCl [(h0, .inr (3, [.null, .null, .null, .null, .null, .int 0, .int 0, .int 0, .int 0, .int 0]))] U.heap ∧ va_K D vwCl [(cI, .int)] U ∧ va_D (fun _ => True) [(h0, .inr (3, [.null, .null, .null, .null, .null, .int 0, .int 0, .int 0, .int 0, .int 0]))])) (va_Qv (fun _ : Unit => True) (fun _ t => ∃ q1 q2 q3 : Nat, va_P D vwCl [(h0, .inr (3, [.ref a1, .ref a2, .ref q1, .ref q2, .ref q3, .int 0, .int 0, .int 0, .int 0, .int 0])), (q1, .inl (cI, 6, .inl k_z)), (q2, .inl (cI, 384, .inl k_z)), (q3, .inl (cI, 4, .inl k_z))] t.heap ∧ va_D (va_A [(h0, .inr (3, [.null, .null, .null, .null, .null, .int 0, .int 0, .int 0, .int 0, .int 0]))] sz) [(h0, .inr (3, [.ref a1, .ref a2, .ref q1, .ref q2, .ref q3, .int 0, .int 0, .int 0, .int 0, .int 0])), (q1, .inl (cI, 6, .inl k_z)), (q2, .inl (cI, 384, .inl k_z)), (q3, .inl (cI, 4, .inl k_z))]) (va_A [(h0, .inr (3, [.null, .null, .null, .null, .null, .int 0, .int 0, .int 0, .int 0, .int 0]))] sz)) 3 394 (va_A [(h0, .inr (3, [.null, .null, .null, .null, .null, .int 0, .int 0, .int 0, .int 0, .int 0]))] sz) := by
  refine Met.ofW (cc := cX3_init) (maxL := 3) (ret := none) (by decide) rfl ?_
  intro p e s m args below meth c s₁ B hml hv
  obtain ⟨rfl, hsz, hP, hK, hD0⟩ := hv
  have hx := B.exec
  have hb := B.bytes
  have hr := B.returns
  have hts := atoms_spec (ws := wsX3_init) B.pre
  have hown : s.vm.findClass RX3 = some m.cls := findClass_of_methodNamed B.named
  have hlocks := B.notSynchronized
  have hin : meth.name = "<init>" := (name_of_methodNamed B.named B.method).1
  subst hsz
  have hD := hD0.self (sz := s.heap.size)
  generalize hAe : va_A [(h0, .inr (3, [.null, .null, .null, .null, .null, .int 0, .int 0, .int 0, .int 0, .int 0]))] s.heap.size = A at hD ⊢
  have hA : ∀ q : Nat, s.heap.size ≤ q → A q := fun q h => by rw [← hAe]; exact Or.inr h
  clear hAe
  have hS : va_S A s.heap s.heap [] := va_S.rf
  have hP : va_P D vwCl [(h0, .inr (3, [.null, .null, .null, .null, .null, .int 0, .int 0, .int 0, .int 0, .int 0]))] s.heap := hP
  have hl := lv_entry ([.ref h0, .ref a1, .ref a2]) (n := 3) (Nat.le_of_ble_eq_true rfl)
  rw [lg_entry_eq]
  generalize (lg_sl ([.ref h0, .ref a1, .ref a2]) ++ List.replicate (3 - (lg_sl ([.ref h0, .ref a1, .ref a2])).length) Slot.unset).toArray = ls at hl ⊢
  have hl : lv_has ls 3 [(0, .ref h0), (1, .ref a1), (2, .ref a2)] := hl
  have hH : s.heap = s.heap := rfl
  refine lv_aload_n hx hb dX3_init_0 rfl (lv_at hl 0 rfl) ?_
  refine W.objInit hx hb hown (hts _ lnX3_init_0) (hts _ lnX3_init_1) (hts _ lnX3_init_2) rfl (by rw [hml]; exact hl.1) rfl dX3_init_1 (Nat.le_of_ble_eq_true rfl) (Nat.le_of_ble_eq_true rfl) ?_
  refine W.eq (g2 := F0 m 4 ls []) rfl ?_
  refine lv_aload_n hx hb dX3_init_4 rfl (lv_at hl 0 rfl) ?_
  refine lv_bipush (v := (6 : Int32)) hx hb dX3_init_5 (by decide) ?_
  refine va_newa (atype := .int) (a0 := (6, .inl k_z)) (N' := 6) hx hb (hts _ lnX3_init_3) rfl hK hP hD hS hA (fun _ => rfl) (by decide) (by decide) (Nat.le_of_ble_eq_true rfl) (Nat.le_of_ble_eq_true rfl) (Nat.le_of_ble_eq_true rfl) dX3_init_7 (fun q1 cA9 H hK9 hP hD hS => ?_)
  have e9 := k_same hK9 0 rfl
  subst e9
  clear hK9
  have hP : va_P D vwCl [(h0, .inr (3, [.null, .null, .null, .null, .null, .int 0, .int 0, .int 0, .int 0, .int 0])), (q1, .inl (cI, 6, .inl k_z))] H := hP
  have hD : va_D A [(h0, .inr (3, [.null, .null, .null, .null, .null, .int 0, .int 0, .int 0, .int 0, .int 0])), (q1, .inl (cI, 6, .inl k_z))] := hD
  refine W.widen (k := 1) (n := 6) (Nat.le_of_ble_eq_true rfl) (Nat.le_of_ble_eq_true rfl) ?_
  refine va_putF (D := D) (ci := 3) (v := .ref q1) (ty := .array .int) (C := RX3) (T := TX3) (N := 10) hx hb hts inwX3_init_X3 tyX3 tyX3_ok nmX3 hown hK hP hD hS 0 rfl rfl 2 (by decide) (hts _ lnX3_init_4) (fun _ h9 => h9) rfl hin rfl (by decide +kernel) rfl rfl (Nat.le_of_ble_eq_true rfl) dX3_init_9 (fun H locs hP hD hS => ?_)
  have hP : va_P D vwCl [(h0, .inr (3, [.null, .null, .ref q1, .null, .null, .int 0, .int 0, .int 0, .int 0, .int 0])), (q1, .inl (cI, 6, .inl k_z))] H := hP
  have hD : va_D A [(h0, .inr (3, [.null, .null, .ref q1, .null, .null, .int 0, .int 0, .int 0, .int 0, .int 0])), (q1, .inl (cI, 6, .inl k_z))] := hD
  refine lv_aload_n hx hb dX3_init_12 rfl (lv_at hl 0 rfl) ?_
  refine lv_sipush (v := (384 : Int32)) hx hb dX3_init_13 (by decide) ?_
  refine va_newa (atype := .int) (a0 := (384, .inl k_z)) (N' := 384) hx hb (hts _ lnX3_init_3) rfl hK hP hD hS hA (fun _ => rfl) (by decide) (by decide) (Nat.le_of_ble_eq_true rfl) (Nat.le_of_ble_eq_true rfl) (Nat.le_of_ble_eq_true rfl) dX3_init_16 (fun q2 cA9 H hK9 hP hD hS => ?_)
  have e9 := k_same hK9 0 rfl
  subst e9
  clear hK9
  have hP : va_P D vwCl [(h0, .inr (3, [.null, .null, .ref q1, .null, .null, .int 0, .int 0, .int 0, .int 0, .int 0])), (q1, .inl (cI, 6, .inl k_z)), (q2, .inl (cI, 384, .inl k_z))] H := hP
  have hD : va_D A [(h0, .inr (3, [.null, .null, .ref q1, .null, .null, .int 0, .int 0, .int 0, .int 0, .int 0])), (q1, .inl (cI, 6, .inl k_z)), (q2, .inl (cI, 384, .inl k_z))] := hD
  refine W.widen (k := 2) (n := 390) (Nat.le_of_ble_eq_true rfl) (Nat.le_of_ble_eq_true rfl) ?_
  refine va_putF (D := D) (ci := 3) (v := .ref q2) (ty := .array .int) (C := RX3) (T := TX3) (N := 10) hx hb hts inwX3_init_X3 tyX3 tyX3_ok nmX3 hown hK hP hD hS 0 rfl rfl 3 (by decide) (hts _ lnX3_init_5) (fun _ h9 => h9) rfl hin rfl (by decide +kernel) rfl rfl (Nat.le_of_ble_eq_true rfl) dX3_init_18 (fun H locs hP hD hS => ?_)
  have hP : va_P D vwCl [(h0, .inr (3, [.null, .null, .ref q1, .ref q2, .null, .int 0, .int 0, .int 0, .int 0, .int 0])), (q1, .inl (cI, 6, .inl k_z)), (q2, .inl (cI, 384, .inl k_z))] H := hP
  have hD : va_D A [(h0, .inr (3, [.null, .null, .ref q1, .ref q2, .null, .int 0, .int 0, .int 0, .int 0, .int 0])), (q1, .inl (cI, 6, .inl k_z)), (q2, .inl (cI, 384, .inl k_z))] := hD
  refine lv_aload_n hx hb dX3_init_21 rfl (lv_at hl 0 rfl) ?_
  refine lv_iconst (v := (4 : Int32)) hx hb dX3_init_22 (by decide) ?_
  refine va_newa (atype := .int) (a0 := (4, .inl k_z)) (N' := 4) hx hb (hts _ lnX3_init_3) rfl hK hP hD hS hA (fun _ => rfl) (by decide) (by decide) (Nat.le_of_ble_eq_true rfl) (Nat.le_of_ble_eq_true rfl) (Nat.le_of_ble_eq_true rfl) dX3_init_23 (fun q3 cA9 H hK9 hP hD hS => ?_)
  have e9 := k_same hK9 0 rfl
  subst e9
  clear hK9
  have hP : va_P D vwCl [(h0, .inr (3, [.null, .null, .ref q1, .ref q2, .null, .int 0, .int 0, .int 0, .int 0, .int 0])), (q1, .inl (cI, 6, .inl k_z)), (q2, .inl (cI, 384, .inl k_z)), (q3, .inl (cI, 4, .inl k_z))] H := hP
  have hD : va_D A [(h0, .inr (3, [.null, .null, .ref q1, .ref q2, .null, .int 0, .int 0, .int 0, .int 0, .int 0])), (q1, .inl (cI, 6, .inl k_z)), (q2, .inl (cI, 384, .inl k_z)), (q3, .inl (cI, 4, .inl k_z))] := hD
  refine W.widen (k := 3) (n := 394) (Nat.le_of_ble_eq_true rfl) (Nat.le_of_ble_eq_true rfl) ?_
  refine va_putF (D := D) (ci := 3) (v := .ref q3) (ty := .array .int) (C := RX3) (T := TX3) (N := 10) hx hb hts inwX3_init_X3 tyX3 tyX3_ok nmX3 hown hK hP hD hS 0 rfl rfl 4 (by decide) (hts _ lnX3_init_6) (fun _ h9 => h9) rfl hin rfl (by decide +kernel) rfl rfl (Nat.le_of_ble_eq_true rfl) dX3_init_25 (fun H locs hP hD hS => ?_)
  have hP : va_P D vwCl [(h0, .inr (3, [.null, .null, .ref q1, .ref q2, .ref q3, .int 0, .int 0, .int 0, .int 0, .int 0])), (q1, .inl (cI, 6, .inl k_z)), (q2, .inl (cI, 384, .inl k_z)), (q3, .inl (cI, 4, .inl k_z))] H := hP
  have hD : va_D A [(h0, .inr (3, [.null, .null, .ref q1, .ref q2, .ref q3, .int 0, .int 0, .int 0, .int 0, .int 0])), (q1, .inl (cI, 6, .inl k_z)), (q2, .inl (cI, 384, .inl k_z)), (q3, .inl (cI, 4, .inl k_z))] := hD
  refine lv_aload_n hx hb dX3_init_28 rfl (lv_at hl 0 rfl) ?_
  refine lv_aload_n hx hb dX3_init_29 rfl (lv_at hl 1 rfl) ?_
  refine va_putF (D := D) (ci := 3) (v := .ref a1) (ty := .object "RichestPays$People") (C := RX3) (T := TX3) (N := 10) hx hb hts inwX3_init_X3 tyX3 tyX3_ok nmX3 hown hK hP hD hS 0 rfl rfl 0 (by decide) (hts _ lnX3_init_7) (fun _ h9 => h9) rfl hin rfl (by decide +kernel) rfl rfl (Nat.le_of_ble_eq_true rfl) dX3_init_30 (fun H locs hP hD hS => ?_)
  have hP : va_P D vwCl [(h0, .inr (3, [.ref a1, .null, .ref q1, .ref q2, .ref q3, .int 0, .int 0, .int 0, .int 0, .int 0])), (q1, .inl (cI, 6, .inl k_z)), (q2, .inl (cI, 384, .inl k_z)), (q3, .inl (cI, 4, .inl k_z))] H := hP
  have hD : va_D A [(h0, .inr (3, [.ref a1, .null, .ref q1, .ref q2, .ref q3, .int 0, .int 0, .int 0, .int 0, .int 0])), (q1, .inl (cI, 6, .inl k_z)), (q2, .inl (cI, 384, .inl k_z)), (q3, .inl (cI, 4, .inl k_z))] := hD
  refine lv_aload_n hx hb dX3_init_33 rfl (lv_at hl 0 rfl) ?_
  refine lv_aload_n hx hb dX3_init_34 rfl (lv_at hl 2 rfl) ?_
  refine va_putF (D := D) (ci := 3) (v := .ref a2) (ty := .object "RichestPays$Evening") (C := RX3) (T := TX3) (N := 10) hx hb hts inwX3_init_X3 tyX3 tyX3_ok nmX3 hown hK hP hD hS 0 rfl rfl 1 (by decide) (hts _ lnX3_init_8) (fun _ h9 => h9) rfl hin rfl (by decide +kernel) rfl rfl (Nat.le_of_ble_eq_true rfl) dX3_init_35 (fun H locs hP hD hS => ?_)
  have hP : va_P D vwCl [(h0, .inr (3, [.ref a1, .ref a2, .ref q1, .ref q2, .ref q3, .int 0, .int 0, .int 0, .int 0, .int 0])), (q1, .inl (cI, 6, .inl k_z)), (q2, .inl (cI, 384, .inl k_z)), (q3, .inl (cI, 4, .inl k_z))] H := hP
  have hD : va_D A [(h0, .inr (3, [.ref a1, .ref a2, .ref q1, .ref q2, .ref q3, .int 0, .int 0, .int 0, .int 0, .int 0])), (q1, .inl (cI, 6, .inl k_z)), (q2, .inl (cI, 384, .inl k_z)), (q3, .inl (cI, 4, .inl k_z))] := hD
  have hP9 := hP.sub (ws' := [(h0, .inr (3, [.ref a1, .ref a2, .ref q1, .ref q2, .ref q3, .int 0, .int 0, .int 0, .int 0, .int 0])), (q1, .inl (cI, 6, .inl k_z)), (q2, .inl (cI, 384, .inl k_z)), (q3, .inl (cI, 4, .inl k_z))]) [0, 1, 2, 3] rfl
  have hD9 := hD.sub (ws' := [(h0, .inr (3, [.ref a1, .ref a2, .ref q1, .ref q2, .ref q3, .int 0, .int 0, .int 0, .int 0, .int 0])), (q1, .inl (cI, 6, .inl k_z)), (q2, .inl (cI, 384, .inl k_z)), (q3, .inl (cI, 4, .inl k_z))]) [0, 1, 2, 3] (by decide) rfl
  exact W.vret hx hb hr (fun t ht hW => ⟨⟨(), rfl, trivial, q1, q2, q3, by rw [ht]; exact hP9, hD9⟩, hS.F ht⟩) hS.2.2 dX3_init_38
theorem lnX1_init_0 : Cond.methodLink RX1 3 objectInit ∈ wsX1_init := List.mem_of_getElem? (i := 1) rfl
theorem lnX1_init_1 : Cond.instanceMethod objectInit ∈ wsX1_init := List.mem_of_getElem? (i := 2) rfl
theorem lnX1_init_2 : Cond.code objectInit ⟨#[0xb1]⟩ 1 none ∈ wsX1_init := List.mem_of_getElem? (i := 3) rfl
theorem lnX1_init_3 : Cond.arrayClass .int ∈ wsX1_init := List.mem_of_getElem? (i := 4) rfl
theorem inwX1_init_X1 : ∀ w ∈ wsX10, w ∈ wsX1_init := by
  intro w hw
  have h9 : wsX10 = (wsX1_init.drop 8).take 4 := rfl
  rw [h9] at hw
  exact List.mem_of_mem_drop (List.mem_of_mem_take hw)
theorem lnX1_init_4 : Cond.fieldLink RX1 9 "RichestPays$Partings" "hands" "[I" ∈ wsX1_init := List.mem_of_getElem? (i := 5) rfl
theorem lnX1_init_5 : Cond.fieldLink RX1 15 "RichestPays$Partings" "states" "[I" ∈ wsX1_init := List.mem_of_getElem? (i := 6) rfl
theorem lnX1_init_6 : Cond.fieldLink RX1 18 "RichestPays$Partings" "people" "LRichestPays$People;" ∈ wsX1_init := List.mem_of_getElem? (i := 7) rfl
abbrev rmX1_init : Room := { frames := 1, cells := 2, slots := 3622, locals := 40 }
set_option maxHeartbeats 8000000 in
set_option maxRecDepth 100000 in
theorem c_X1_init (l : Launch) (D : va_G) (cI : ClassId) (h0 : Nat) (a1 : Nat) (sz : Nat) : Met l yX1_init wsX1_init rmX1_init (va_Pc [.ref h0, .ref a1] (fun U => U.heap.size = sz ∧ va_P D vwCl [(h0, .inr (1, [.null, .null, .null, .int 0]))] U.heap ∧ va_K D vwCl [(cI, .int)] U ∧ va_D (fun _ => True) [(h0, .inr (1, [.null, .null, .null, .int 0]))])) (va_Qv (fun _ : Unit => True) (fun _ t => ∃ q1 q2 : Nat, va_P D vwCl [(h0, .inr (1, [.ref a1, .ref q1, .ref q2, .int 0])), (q1, .inl (cI, 6, .inl k_z)), (q2, .inl (cI, 3616, .inl k_z))] t.heap ∧ va_D (va_A [(h0, .inr (1, [.null, .null, .null, .int 0]))] sz) [(h0, .inr (1, [.ref a1, .ref q1, .ref q2, .int 0])), (q1, .inl (cI, 6, .inl k_z)), (q2, .inl (cI, 3616, .inl k_z))]) (va_A [(h0, .inr (1, [.null, .null, .null, .int 0]))] sz)) 2 3622 (va_A [(h0, .inr (1, [.null, .null, .null, .int 0]))] sz) := by
  refine Met.ofW (cc := cX1_init) (maxL := 2) (ret := none) (by decide) rfl ?_
  intro p e s m args below meth c s₁ B hml hv
  obtain ⟨rfl, hsz, hP, hK, hD0⟩ := hv
  have hx := B.exec
  have hb := B.bytes
  have hr := B.returns
  have hts := atoms_spec (ws := wsX1_init) B.pre
  have hown : s.vm.findClass RX1 = some m.cls := findClass_of_methodNamed B.named
  have hlocks := B.notSynchronized
  have hin : meth.name = "<init>" := (name_of_methodNamed B.named B.method).1
  subst hsz
  have hD := hD0.self (sz := s.heap.size)
  generalize hAe : va_A [(h0, .inr (1, [.null, .null, .null, .int 0]))] s.heap.size = A at hD ⊢
  have hA : ∀ q : Nat, s.heap.size ≤ q → A q := fun q h => by rw [← hAe]; exact Or.inr h
  clear hAe
  have hS : va_S A s.heap s.heap [] := va_S.rf
  have hP : va_P D vwCl [(h0, .inr (1, [.null, .null, .null, .int 0]))] s.heap := hP
  have hl := lv_entry ([.ref h0, .ref a1]) (n := 2) (Nat.le_of_ble_eq_true rfl)
  rw [lg_entry_eq]
  generalize (lg_sl ([.ref h0, .ref a1]) ++ List.replicate (2 - (lg_sl ([.ref h0, .ref a1])).length) Slot.unset).toArray = ls at hl ⊢
  have hl : lv_has ls 2 [(0, .ref h0), (1, .ref a1)] := hl
  have hH : s.heap = s.heap := rfl
  refine lv_aload_n hx hb dX1_init_0 rfl (lv_at hl 0 rfl) ?_
  refine W.objInit hx hb hown (hts _ lnX1_init_0) (hts _ lnX1_init_1) (hts _ lnX1_init_2) rfl (by rw [hml]; exact hl.1) rfl dX1_init_1 (Nat.le_of_ble_eq_true rfl) (Nat.le_of_ble_eq_true rfl) ?_
  refine W.eq (g2 := F0 m 4 ls []) rfl ?_
  refine lv_aload_n hx hb dX1_init_4 rfl (lv_at hl 0 rfl) ?_
  refine lv_bipush (v := (6 : Int32)) hx hb dX1_init_5 (by decide) ?_
  refine va_newa (atype := .int) (a0 := (6, .inl k_z)) (N' := 6) hx hb (hts _ lnX1_init_3) rfl hK hP hD hS hA (fun _ => rfl) (by decide) (by decide) (Nat.le_of_ble_eq_true rfl) (Nat.le_of_ble_eq_true rfl) (Nat.le_of_ble_eq_true rfl) dX1_init_7 (fun q1 cA9 H hK9 hP hD hS => ?_)
  have e9 := k_same hK9 0 rfl
  subst e9
  clear hK9
  have hP : va_P D vwCl [(h0, .inr (1, [.null, .null, .null, .int 0])), (q1, .inl (cI, 6, .inl k_z))] H := hP
  have hD : va_D A [(h0, .inr (1, [.null, .null, .null, .int 0])), (q1, .inl (cI, 6, .inl k_z))] := hD
  refine W.widen (k := 1) (n := 6) (Nat.le_of_ble_eq_true rfl) (Nat.le_of_ble_eq_true rfl) ?_
  refine va_putF (D := D) (ci := 1) (v := .ref q1) (ty := .array .int) (C := RX1) (T := TX1) (N := 4) hx hb hts inwX1_init_X1 tyX1 tyX1_ok nmX1 hown hK hP hD hS 0 rfl rfl 1 (by decide) (hts _ lnX1_init_4) (fun _ h9 => h9) rfl hin rfl (by decide +kernel) rfl rfl (Nat.le_of_ble_eq_true rfl) dX1_init_9 (fun H locs hP hD hS => ?_)
  have hP : va_P D vwCl [(h0, .inr (1, [.null, .ref q1, .null, .int 0])), (q1, .inl (cI, 6, .inl k_z))] H := hP
  have hD : va_D A [(h0, .inr (1, [.null, .ref q1, .null, .int 0])), (q1, .inl (cI, 6, .inl k_z))] := hD
  refine lv_aload_n hx hb dX1_init_12 rfl (lv_at hl 0 rfl) ?_
  refine lv_sipush (v := (3616 : Int32)) hx hb dX1_init_13 (by decide) ?_
  refine va_newa (atype := .int) (a0 := (3616, .inl k_z)) (N' := 3616) hx hb (hts _ lnX1_init_3) rfl hK hP hD hS hA (fun _ => rfl) (by decide) (by decide) (Nat.le_of_ble_eq_true rfl) (Nat.le_of_ble_eq_true rfl) (Nat.le_of_ble_eq_true rfl) dX1_init_16 (fun q2 cA9 H hK9 hP hD hS => ?_)
  have e9 := k_same hK9 0 rfl
  subst e9
  clear hK9
  have hP : va_P D vwCl [(h0, .inr (1, [.null, .ref q1, .null, .int 0])), (q1, .inl (cI, 6, .inl k_z)), (q2, .inl (cI, 3616, .inl k_z))] H := hP
  have hD : va_D A [(h0, .inr (1, [.null, .ref q1, .null, .int 0])), (q1, .inl (cI, 6, .inl k_z)), (q2, .inl (cI, 3616, .inl k_z))] := hD
  refine W.widen (k := 2) (n := 3622) (Nat.le_of_ble_eq_true rfl) (Nat.le_of_ble_eq_true rfl) ?_
  refine va_putF (D := D) (ci := 1) (v := .ref q2) (ty := .array .int) (C := RX1) (T := TX1) (N := 4) hx hb hts inwX1_init_X1 tyX1 tyX1_ok nmX1 hown hK hP hD hS 0 rfl rfl 2 (by decide) (hts _ lnX1_init_5) (fun _ h9 => h9) rfl hin rfl (by decide +kernel) rfl rfl (Nat.le_of_ble_eq_true rfl) dX1_init_18 (fun H locs hP hD hS => ?_)
  have hP : va_P D vwCl [(h0, .inr (1, [.null, .ref q1, .ref q2, .int 0])), (q1, .inl (cI, 6, .inl k_z)), (q2, .inl (cI, 3616, .inl k_z))] H := hP
  have hD : va_D A [(h0, .inr (1, [.null, .ref q1, .ref q2, .int 0])), (q1, .inl (cI, 6, .inl k_z)), (q2, .inl (cI, 3616, .inl k_z))] := hD
  refine lv_aload_n hx hb dX1_init_21 rfl (lv_at hl 0 rfl) ?_
  refine lv_aload_n hx hb dX1_init_22 rfl (lv_at hl 1 rfl) ?_
  refine va_putF (D := D) (ci := 1) (v := .ref a1) (ty := .object "RichestPays$People") (C := RX1) (T := TX1) (N := 4) hx hb hts inwX1_init_X1 tyX1 tyX1_ok nmX1 hown hK hP hD hS 0 rfl rfl 0 (by decide) (hts _ lnX1_init_6) (fun _ h9 => h9) rfl hin rfl (by decide +kernel) rfl rfl (Nat.le_of_ble_eq_true rfl) dX1_init_23 (fun H locs hP hD hS => ?_)
  have hP : va_P D vwCl [(h0, .inr (1, [.ref a1, .ref q1, .ref q2, .int 0])), (q1, .inl (cI, 6, .inl k_z)), (q2, .inl (cI, 3616, .inl k_z))] H := hP
  have hD : va_D A [(h0, .inr (1, [.ref a1, .ref q1, .ref q2, .int 0])), (q1, .inl (cI, 6, .inl k_z)), (q2, .inl (cI, 3616, .inl k_z))] := hD
  have hP9 := hP.sub (ws' := [(h0, .inr (1, [.ref a1, .ref q1, .ref q2, .int 0])), (q1, .inl (cI, 6, .inl k_z)), (q2, .inl (cI, 3616, .inl k_z))]) [0, 1, 2] rfl
  have hD9 := hD.sub (ws' := [(h0, .inr (1, [.ref a1, .ref q1, .ref q2, .int 0])), (q1, .inl (cI, 6, .inl k_z)), (q2, .inl (cI, 3616, .inl k_z))]) [0, 1, 2] (by decide) rfl
  exact W.vret hx hb hr (fun t ht hW => ⟨⟨(), rfl, trivial, q1, q2, by rw [ht]; exact hP9, hD9⟩, hS.F ht⟩) hS.2.2 dX1_init_26
theorem lnX4_init_0 : Cond.methodLink RX4 3 objectInit ∈ wsX4_init := List.mem_of_getElem? (i := 1) rfl
theorem lnX4_init_1 : Cond.instanceMethod objectInit ∈ wsX4_init := List.mem_of_getElem? (i := 2) rfl
theorem lnX4_init_2 : Cond.code objectInit ⟨#[0xb1]⟩ 1 none ∈ wsX4_init := List.mem_of_getElem? (i := 3) rfl
theorem lnX4_init_3 : Cond.arrayClass .int ∈ wsX4_init := List.mem_of_getElem? (i := 4) rfl
theorem inwX4_init_X4 : ∀ w ∈ wsX40, w ∈ wsX4_init := by
  intro w hw
  have h9 : wsX40 = (wsX4_init.drop 12).take 7 := rfl
  rw [h9] at hw
  exact List.mem_of_mem_drop (List.mem_of_mem_take hw)
theorem lnX4_init_4 : Cond.fieldLink RX4 9 "RichestPays$Secrets" "hands" "[I" ∈ wsX4_init := List.mem_of_getElem? (i := 5) rfl
theorem lnX4_init_5 : Cond.fieldLink RX4 15 "RichestPays$Secrets" "seenRound" "[I" ∈ wsX4_init := List.mem_of_getElem? (i := 6) rfl
theorem lnX4_init_6 : Cond.fieldLink RX4 18 "RichestPays$Secrets" "seenPerson" "[I" ∈ wsX4_init := List.mem_of_getElem? (i := 7) rfl
theorem lnX4_init_7 : Cond.fieldLink RX4 21 "RichestPays$Secrets" "seenPaid" "[I" ∈ wsX4_init := List.mem_of_getElem? (i := 8) rfl
theorem lnX4_init_8 : Cond.fieldLink RX4 24 "RichestPays$Secrets" "seenNumber" "I" ∈ wsX4_init := List.mem_of_getElem? (i := 9) rfl
theorem lnX4_init_9 : Cond.fieldLink RX4 28 "RichestPays$Secrets" "people" "LRichestPays$People;" ∈ wsX4_init := List.mem_of_getElem? (i := 10) rfl
theorem lnX4_init_10 : Cond.fieldLink RX4 32 "RichestPays$Secrets" "evening" "LRichestPays$Evening;" ∈ wsX4_init := List.mem_of_getElem? (i := 11) rfl
abbrev rmX4_init : Room := { frames := 1, cells := 4, slots := 30, locals := 40 }
set_option maxHeartbeats 8000000 in
set_option maxRecDepth 100000 in
theorem c_X4_init (l : Launch) (D : va_G) (cI : ClassId) (h0 : Nat) (a1 : Nat) (a2 : Nat) (sz : Nat) : Met l yX4_init wsX4_init rmX4_init (va_Pc [.ref h0, .ref a1, .ref a2] (fun U => U.heap.size = sz ∧ va_P D vwCl [(h0, .inr (4, [.null, .null, .null, .null, .null, .null, .int 0]))] U.heap ∧ va_K D vwCl [(cI, .int)] U ∧ va_D (fun _ => True) [(h0, .inr (4, [.null, .null, .null, .null, .null, .null, .int 0]))])) (va_Qv (fun _ : Unit => True) (fun _ t => ∃ q1 q2 q3 q4 : Nat, va_P D vwCl [(h0, .inr (4, [.ref a1, .ref a2, .ref q1, .ref q2, .ref q3, .ref q4, .int (0 : Int32)])), (q1, .inl (cI, 6, .inl k_z)), (q2, .inl (cI, 8, .inl k_z)), (q3, .inl (cI, 8, .inl k_z)), (q4, .inl (cI, 8, .inl k_z))] t.heap ∧ va_D (va_A [(h0, .inr (4, [.null, .null, .null, .null, .null, .null, .int 0]))] sz) [(h0, .inr (4, [.ref a1, .ref a2, .ref q1, .ref q2, .ref q3, .ref q4, .int (0 : Int32)])), (q1, .inl (cI, 6, .inl k_z)), (q2, .inl (cI, 8, .inl k_z)), (q3, .inl (cI, 8, .inl k_z)), (q4, .inl (cI, 8, .inl k_z))]) (va_A [(h0, .inr (4, [.null, .null, .null, .null, .null, .null, .int 0]))] sz)) 4 30 (va_A [(h0, .inr (4, [.null, .null, .null, .null, .null, .null, .int 0]))] sz) := by
  refine Met.ofW (cc := cX4_init) (maxL := 3) (ret := none) (by decide) rfl ?_
  intro p e s m args below meth c s₁ B hml hv
  obtain ⟨rfl, hsz, hP, hK, hD0⟩ := hv
  have hx := B.exec
  have hb := B.bytes
  have hr := B.returns
  have hts := atoms_spec (ws := wsX4_init) B.pre
  have hown : s.vm.findClass RX4 = some m.cls := findClass_of_methodNamed B.named
  have hlocks := B.notSynchronized
  have hin : meth.name = "<init>" := (name_of_methodNamed B.named B.method).1
  subst hsz
  have hD := hD0.self (sz := s.heap.size)
  generalize hAe : va_A [(h0, .inr (4, [.null, .null, .null, .null, .null, .null, .int 0]))] s.heap.size = A at hD ⊢
  have hA : ∀ q : Nat, s.heap.size ≤ q → A q := fun q h => by rw [← hAe]; exact Or.inr h
  clear hAe
  have hS : va_S A s.heap s.heap [] := va_S.rf
  have hP : va_P D vwCl [(h0, .inr (4, [.null, .null, .null, .null, .null, .null, .int 0]))] s.heap := hP
  have hl := lv_entry ([.ref h0, .ref a1, .ref a2]) (n := 3) (Nat.le_of_ble_eq_true rfl)
  rw [lg_entry_eq]
  generalize (lg_sl ([.ref h0, .ref a1, .ref a2]) ++ List.replicate (3 - (lg_sl ([.ref h0, .ref a1, .ref a2])).length) Slot.unset).toArray = ls at hl ⊢
  have hl : lv_has ls 3 [(0, .ref h0), (1, .ref a1), (2, .ref a2)] := hl
  have hH : s.heap = s.heap := rfl
  refine lv_aload_n hx hb dX4_init_0 rfl (lv_at hl 0 rfl) ?_
  refine W.objInit hx hb hown (hts _ lnX4_init_0) (hts _ lnX4_init_1) (hts _ lnX4_init_2) rfl (by rw [hml]; exact hl.1) rfl dX4_init_1 (Nat.le_of_ble_eq_true rfl) (Nat.le_of_ble_eq_true rfl) ?_
  refine W.eq (g2 := F0 m 4 ls []) rfl ?_
  refine lv_aload_n hx hb dX4_init_4 rfl (lv_at hl 0 rfl) ?_
  refine lv_bipush (v := (6 : Int32)) hx hb dX4_init_5 (by decide) ?_
  refine va_newa (atype := .int) (a0 := (6, .inl k_z)) (N' := 6) hx hb (hts _ lnX4_init_3) rfl hK hP hD hS hA (fun _ => rfl) (by decide) (by decide) (Nat.le_of_ble_eq_true rfl) (Nat.le_of_ble_eq_true rfl) (Nat.le_of_ble_eq_true rfl) dX4_init_7 (fun q1 cA9 H hK9 hP hD hS => ?_)
  have e9 := k_same hK9 0 rfl
  subst e9
  clear hK9
  have hP : va_P D vwCl [(h0, .inr (4, [.null, .null, .null, .null, .null, .null, .int 0])), (q1, .inl (cI, 6, .inl k_z))] H := hP
  have hD : va_D A [(h0, .inr (4, [.null, .null, .null, .null, .null, .null, .int 0])), (q1, .inl (cI, 6, .inl k_z))] := hD
  refine W.widen (k := 1) (n := 6) (Nat.le_of_ble_eq_true rfl) (Nat.le_of_ble_eq_true rfl) ?_
  refine va_putF (D := D) (ci := 4) (v := .ref q1) (ty := .array .int) (C := RX4) (T := TX4) (N := 7) hx hb hts inwX4_init_X4 tyX4 tyX4_ok nmX4 hown hK hP hD hS 0 rfl rfl 2 (by decide) (hts _ lnX4_init_4) (fun _ h9 => h9) rfl hin rfl (by decide +kernel) rfl rfl (Nat.le_of_ble_eq_true rfl) dX4_init_9 (fun H locs hP hD hS => ?_)
  have hP : va_P D vwCl [(h0, .inr (4, [.null, .null, .ref q1, .null, .null, .null, .int 0])), (q1, .inl (cI, 6, .inl k_z))] H := hP
  have hD : va_D A [(h0, .inr (4, [.null, .null, .ref q1, .null, .null, .null, .int 0])), (q1, .inl (cI, 6, .inl k_z))] := hD
  refine lv_aload_n hx hb dX4_init_12 rfl (lv_at hl 0 rfl) ?_
  refine lv_bipush (v := (8 : Int32)) hx hb dX4_init_13 (by decide) ?_
  refine va_newa (atype := .int) (a0 := (8, .inl k_z)) (N' := 8) hx hb (hts _ lnX4_init_3) rfl hK hP hD hS hA (fun _ => rfl) (by decide) (by decide) (Nat.le_of_ble_eq_true rfl) (Nat.le_of_ble_eq_true rfl) (Nat.le_of_ble_eq_true rfl) dX4_init_15 (fun q2 cA9 H hK9 hP hD hS => ?_)
  have e9 := k_same hK9 0 rfl
  subst e9
  clear hK9
  have hP : va_P D vwCl [(h0, .inr (4, [.null, .null, .ref q1, .null, .null, .null, .int 0])), (q1, .inl (cI, 6, .inl k_z)), (q2, .inl (cI, 8, .inl k_z))] H := hP
  have hD : va_D A [(h0, .inr (4, [.null, .null, .ref q1, .null, .null, .null, .int 0])), (q1, .inl (cI, 6, .inl k_z)), (q2, .inl (cI, 8, .inl k_z))] := hD
  refine W.widen (k := 2) (n := 14) (Nat.le_of_ble_eq_true rfl) (Nat.le_of_ble_eq_true rfl) ?_
  refine va_putF (D := D) (ci := 4) (v := .ref q2) (ty := .array .int) (C := RX4) (T := TX4) (N := 7) hx hb hts inwX4_init_X4 tyX4 tyX4_ok nmX4 hown hK hP hD hS 0 rfl rfl 3 (by decide) (hts _ lnX4_init_5) (fun _ h9 => h9) rfl hin rfl (by decide +kernel) rfl rfl (Nat.le_of_ble_eq_true rfl) dX4_init_17 (fun H locs hP hD hS => ?_)
  have hP : va_P D vwCl [(h0, .inr (4, [.null, .null, .ref q1, .ref q2, .null, .null, .int 0])), (q1, .inl (cI, 6, .inl k_z)), (q2, .inl (cI, 8, .inl k_z))] H := hP
  have hD : va_D A [(h0, .inr (4, [.null, .null, .ref q1, .ref q2, .null, .null, .int 0])), (q1, .inl (cI, 6, .inl k_z)), (q2, .inl (cI, 8, .inl k_z))] := hD
  refine lv_aload_n hx hb dX4_init_20 rfl (lv_at hl 0 rfl) ?_
  refine lv_bipush (v := (8 : Int32)) hx hb dX4_init_21 (by decide) ?_
  refine va_newa (atype := .int) (a0 := (8, .inl k_z)) (N' := 8) hx hb (hts _ lnX4_init_3) rfl hK hP hD hS hA (fun _ => rfl) (by decide) (by decide) (Nat.le_of_ble_eq_true rfl) (Nat.le_of_ble_eq_true rfl) (Nat.le_of_ble_eq_true rfl) dX4_init_23 (fun q3 cA9 H hK9 hP hD hS => ?_)
  have e9 := k_same hK9 0 rfl
  subst e9
  clear hK9
  have hP : va_P D vwCl [(h0, .inr (4, [.null, .null, .ref q1, .ref q2, .null, .null, .int 0])), (q1, .inl (cI, 6, .inl k_z)), (q2, .inl (cI, 8, .inl k_z)), (q3, .inl (cI, 8, .inl k_z))] H := hP
  have hD : va_D A [(h0, .inr (4, [.null, .null, .ref q1, .ref q2, .null, .null, .int 0])), (q1, .inl (cI, 6, .inl k_z)), (q2, .inl (cI, 8, .inl k_z)), (q3, .inl (cI, 8, .inl k_z))] := hD
  refine W.widen (k := 3) (n := 22) (Nat.le_of_ble_eq_true rfl) (Nat.le_of_ble_eq_true rfl) ?_
  refine va_putF (D := D) (ci := 4) (v := .ref q3) (ty := .array .int) (C := RX4) (T := TX4) (N := 7) hx hb hts inwX4_init_X4 tyX4 tyX4_ok nmX4 hown hK hP hD hS 0 rfl rfl 4 (by decide) (hts _ lnX4_init_6) (fun _ h9 => h9) rfl hin rfl (by decide +kernel) rfl rfl (Nat.le_of_ble_eq_true rfl) dX4_init_25 (fun H locs hP hD hS => ?_)
  have hP : va_P D vwCl [(h0, .inr (4, [.null, .null, .ref q1, .ref q2, .ref q3, .null, .int 0])), (q1, .inl (cI, 6, .inl k_z)), (q2, .inl (cI, 8, .inl k_z)), (q3, .inl (cI, 8, .inl k_z))] H := hP
  have hD : va_D A [(h0, .inr (4, [.null, .null, .ref q1, .ref q2, .ref q3, .null, .int 0])), (q1, .inl (cI, 6, .inl k_z)), (q2, .inl (cI, 8, .inl k_z)), (q3, .inl (cI, 8, .inl k_z))] := hD
  refine lv_aload_n hx hb dX4_init_28 rfl (lv_at hl 0 rfl) ?_
  refine lv_bipush (v := (8 : Int32)) hx hb dX4_init_29 (by decide) ?_
  refine va_newa (atype := .int) (a0 := (8, .inl k_z)) (N' := 8) hx hb (hts _ lnX4_init_3) rfl hK hP hD hS hA (fun _ => rfl) (by decide) (by decide) (Nat.le_of_ble_eq_true rfl) (Nat.le_of_ble_eq_true rfl) (Nat.le_of_ble_eq_true rfl) dX4_init_31 (fun q4 cA9 H hK9 hP hD hS => ?_)
  have e9 := k_same hK9 0 rfl
  subst e9
  clear hK9
  have hP : va_P D vwCl [(h0, .inr (4, [.null, .null, .ref q1, .ref q2, .ref q3, .null, .int 0])), (q1, .inl (cI, 6, .inl k_z)), (q2, .inl (cI, 8, .inl k_z)), (q3, .inl (cI, 8, .inl k_z)), (q4, .inl (cI, 8, .inl k_z))] H := hP
  have hD : va_D A [(h0, .inr (4, [.null, .null, .ref q1, .ref q2, .ref q3, .null, .int 0])), (q1, .inl (cI, 6, .inl k_z)), (q2, .inl (cI, 8, .inl k_z)), (q3, .inl (cI, 8, .inl k_z)), (q4, .inl (cI, 8, .inl k_z))] := hD
  refine W.widen (k := 4) (n := 30) (Nat.le_of_ble_eq_true rfl) (Nat.le_of_ble_eq_true rfl) ?_
  refine va_putF (D := D) (ci := 4) (v := .ref q4) (ty := .array .int) (C := RX4) (T := TX4) (N := 7) hx hb hts inwX4_init_X4 tyX4 tyX4_ok nmX4 hown hK hP hD hS 0 rfl rfl 5 (by decide) (hts _ lnX4_init_7) (fun _ h9 => h9) rfl hin rfl (by decide +kernel) rfl rfl (Nat.le_of_ble_eq_true rfl) dX4_init_33 (fun H locs hP hD hS => ?_)
  have hP : va_P D vwCl [(h0, .inr (4, [.null, .null, .ref q1, .ref q2, .ref q3, .ref q4, .int 0])), (q1, .inl (cI, 6, .inl k_z)), (q2, .inl (cI, 8, .inl k_z)), (q3, .inl (cI, 8, .inl k_z)), (q4, .inl (cI, 8, .inl k_z))] H := hP
  have hD : va_D A [(h0, .inr (4, [.null, .null, .ref q1, .ref q2, .ref q3, .ref q4, .int 0])), (q1, .inl (cI, 6, .inl k_z)), (q2, .inl (cI, 8, .inl k_z)), (q3, .inl (cI, 8, .inl k_z)), (q4, .inl (cI, 8, .inl k_z))] := hD
  refine lv_aload_n hx hb dX4_init_36 rfl (lv_at hl 0 rfl) ?_
  refine lv_iconst (v := (0 : Int32)) hx hb dX4_init_37 (by decide) ?_
  refine va_put (D := D) (ci := 4) (v := .int (0 : Int32)) (ty := .int) (C := RX4) (T := TX4) (N := 7) hx hb hts inwX4_init_X4 tyX4 tyX4_ok nmX4 hown hK hP hD hS 0 rfl rfl 6 (by decide) (hts _ lnX4_init_8) (fun _ h9 => h9) rfl (by decide +kernel) rfl rfl (Nat.le_of_ble_eq_true rfl) dX4_init_38 (fun H locs hP hD hS => ?_)
  have hP : va_P D vwCl [(h0, .inr (4, [.null, .null, .ref q1, .ref q2, .ref q3, .ref q4, .int (0 : Int32)])), (q1, .inl (cI, 6, .inl k_z)), (q2, .inl (cI, 8, .inl k_z)), (q3, .inl (cI, 8, .inl k_z)), (q4, .inl (cI, 8, .inl k_z))] H := hP
  have hD : va_D A [(h0, .inr (4, [.null, .null, .ref q1, .ref q2, .ref q3, .ref q4, .int (0 : Int32)])), (q1, .inl (cI, 6, .inl k_z)), (q2, .inl (cI, 8, .inl k_z)), (q3, .inl (cI, 8, .inl k_z)), (q4, .inl (cI, 8, .inl k_z))] := hD
  refine lv_aload_n hx hb dX4_init_41 rfl (lv_at hl 0 rfl) ?_
  refine lv_aload_n hx hb dX4_init_42 rfl (lv_at hl 1 rfl) ?_
  refine va_putF (D := D) (ci := 4) (v := .ref a1) (ty := .object "RichestPays$People") (C := RX4) (T := TX4) (N := 7) hx hb hts inwX4_init_X4 tyX4 tyX4_ok nmX4 hown hK hP hD hS 0 rfl rfl 0 (by decide) (hts _ lnX4_init_9) (fun _ h9 => h9) rfl hin rfl (by decide +kernel) rfl rfl (Nat.le_of_ble_eq_true rfl) dX4_init_43 (fun H locs hP hD hS => ?_)
  have hP : va_P D vwCl [(h0, .inr (4, [.ref a1, .null, .ref q1, .ref q2, .ref q3, .ref q4, .int (0 : Int32)])), (q1, .inl (cI, 6, .inl k_z)), (q2, .inl (cI, 8, .inl k_z)), (q3, .inl (cI, 8, .inl k_z)), (q4, .inl (cI, 8, .inl k_z))] H := hP
  have hD : va_D A [(h0, .inr (4, [.ref a1, .null, .ref q1, .ref q2, .ref q3, .ref q4, .int (0 : Int32)])), (q1, .inl (cI, 6, .inl k_z)), (q2, .inl (cI, 8, .inl k_z)), (q3, .inl (cI, 8, .inl k_z)), (q4, .inl (cI, 8, .inl k_z))] := hD
  refine lv_aload_n hx hb dX4_init_46 rfl (lv_at hl 0 rfl) ?_
  refine lv_aload_n hx hb dX4_init_47 rfl (lv_at hl 2 rfl) ?_
  refine va_putF (D := D) (ci := 4) (v := .ref a2) (ty := .object "RichestPays$Evening") (C := RX4) (T := TX4) (N := 7) hx hb hts inwX4_init_X4 tyX4 tyX4_ok nmX4 hown hK hP hD hS 0 rfl rfl 1 (by decide) (hts _ lnX4_init_10) (fun _ h9 => h9) rfl hin rfl (by decide +kernel) rfl rfl (Nat.le_of_ble_eq_true rfl) dX4_init_48 (fun H locs hP hD hS => ?_)
  have hP : va_P D vwCl [(h0, .inr (4, [.ref a1, .ref a2, .ref q1, .ref q2, .ref q3, .ref q4, .int (0 : Int32)])), (q1, .inl (cI, 6, .inl k_z)), (q2, .inl (cI, 8, .inl k_z)), (q3, .inl (cI, 8, .inl k_z)), (q4, .inl (cI, 8, .inl k_z))] H := hP
  have hD : va_D A [(h0, .inr (4, [.ref a1, .ref a2, .ref q1, .ref q2, .ref q3, .ref q4, .int (0 : Int32)])), (q1, .inl (cI, 6, .inl k_z)), (q2, .inl (cI, 8, .inl k_z)), (q3, .inl (cI, 8, .inl k_z)), (q4, .inl (cI, 8, .inl k_z))] := hD
  have hP9 := hP.sub (ws' := [(h0, .inr (4, [.ref a1, .ref a2, .ref q1, .ref q2, .ref q3, .ref q4, .int (0 : Int32)])), (q1, .inl (cI, 6, .inl k_z)), (q2, .inl (cI, 8, .inl k_z)), (q3, .inl (cI, 8, .inl k_z)), (q4, .inl (cI, 8, .inl k_z))]) [0, 1, 2, 3, 4] rfl
  have hD9 := hD.sub (ws' := [(h0, .inr (4, [.ref a1, .ref a2, .ref q1, .ref q2, .ref q3, .ref q4, .int (0 : Int32)])), (q1, .inl (cI, 6, .inl k_z)), (q2, .inl (cI, 8, .inl k_z)), (q3, .inl (cI, 8, .inl k_z)), (q4, .inl (cI, 8, .inl k_z))]) [0, 1, 2, 3, 4] (by decide) rfl
  exact W.vret hx hb hr (fun t ht hW => ⟨⟨(), rfl, trivial, q1, q2, q3, q4, by rw [ht]; exact hP9, hD9⟩, hS.F ht⟩) hS.2.2 dX4_init_51
theorem lnX5_init_0 : Cond.methodLink RX5 3 objectInit ∈ wsX5_init := List.mem_of_getElem? (i := 1) rfl
theorem lnX5_init_1 : Cond.instanceMethod objectInit ∈ wsX5_init := List.mem_of_getElem? (i := 2) rfl
theorem lnX5_init_2 : Cond.code objectInit ⟨#[0xb1]⟩ 1 none ∈ wsX5_init := List.mem_of_getElem? (i := 3) rfl
theorem lnX5_init_3 : Cond.arrayClass .int ∈ wsX5_init := List.mem_of_getElem? (i := 4) rfl
theorem inwX5_init_X5 : ∀ w ∈ wsX50, w ∈ wsX5_init := by
  intro w hw
  have h9 : wsX50 = (wsX5_init.drop 9).take 4 := rfl
  rw [h9] at hw
  exact List.mem_of_mem_drop (List.mem_of_mem_take hw)
theorem lnX5_init_4 : Cond.fieldLink RX5 9 "RichestPays$Sheet" "items" "[I" ∈ wsX5_init := List.mem_of_getElem? (i := 5) rfl
theorem lnX5_init_5 : Cond.fieldLink RX5 15 "RichestPays$Sheet" "form" "I" ∈ wsX5_init := List.mem_of_getElem? (i := 6) rfl
theorem lnX5_init_6 : Cond.fieldLink RX5 19 "RichestPays$Sheet" "size" "I" ∈ wsX5_init := List.mem_of_getElem? (i := 7) rfl
theorem lnX5_init_7 : Cond.fieldLink RX5 22 "RichestPays$Sheet" "isLost" "Z" ∈ wsX5_init := List.mem_of_getElem? (i := 8) rfl
abbrev rmX5_init : Room := { frames := 1, cells := 1, slots := 48, locals := 40 }
set_option maxHeartbeats 8000000 in
set_option maxRecDepth 100000 in
theorem c_X5_init (l : Launch) (D : va_G) (cI : ClassId) (h0 : Nat) (sz : Nat) : Met l yX5_init wsX5_init rmX5_init (va_Pc [.ref h0] (fun U => U.heap.size = sz ∧ va_P D vwCl [(h0, .inr (5, [.null, .int 0, .int 0, .int 0]))] U.heap ∧ va_K D vwCl [(cI, .int)] U ∧ va_D (fun _ => True) [(h0, .inr (5, [.null, .int 0, .int 0, .int 0]))])) (va_Qv (fun _ : Unit => True) (fun _ t => ∃ q1 : Nat, va_P D vwCl [(h0, .inr (5, [.ref q1, .int (0 : Int32), .int (0 : Int32), .int (1 : Int32)])), (q1, .inl (cI, 48, .inl k_z))] t.heap ∧ va_D (va_A [(h0, .inr (5, [.null, .int 0, .int 0, .int 0]))] sz) [(h0, .inr (5, [.ref q1, .int (0 : Int32), .int (0 : Int32), .int (1 : Int32)])), (q1, .inl (cI, 48, .inl k_z))]) (va_A [(h0, .inr (5, [.null, .int 0, .int 0, .int 0]))] sz)) 1 48 (va_A [(h0, .inr (5, [.null, .int 0, .int 0, .int 0]))] sz) := by
  refine Met.ofW (cc := cX5_init) (maxL := 1) (ret := none) (by decide) rfl ?_
  intro p e s m args below meth c s₁ B hml hv
  obtain ⟨rfl, hsz, hP, hK, hD0⟩ := hv
  have hx := B.exec
  have hb := B.bytes
  have hr := B.returns
  have hts := atoms_spec (ws := wsX5_init) B.pre
  have hown : s.vm.findClass RX5 = some m.cls := findClass_of_methodNamed B.named
  have hlocks := B.notSynchronized
  have hin : meth.name = "<init>" := (name_of_methodNamed B.named B.method).1
  subst hsz
  have hD := hD0.self (sz := s.heap.size)
  generalize hAe : va_A [(h0, .inr (5, [.null, .int 0, .int 0, .int 0]))] s.heap.size = A at hD ⊢
  have hA : ∀ q : Nat, s.heap.size ≤ q → A q := fun q h => by rw [← hAe]; exact Or.inr h
  clear hAe
  have hS : va_S A s.heap s.heap [] := va_S.rf
  have hP : va_P D vwCl [(h0, .inr (5, [.null, .int 0, .int 0, .int 0]))] s.heap := hP
  have hl := lv_entry ([.ref h0]) (n := 1) (Nat.le_of_ble_eq_true rfl)
  rw [lg_entry_eq]
  generalize (lg_sl ([.ref h0]) ++ List.replicate (1 - (lg_sl ([.ref h0])).length) Slot.unset).toArray = ls at hl ⊢
  have hl : lv_has ls 1 [(0, .ref h0)] := hl
  have hH : s.heap = s.heap := rfl
  refine lv_aload_n hx hb dX5_init_0 rfl (lv_at hl 0 rfl) ?_
  refine W.objInit hx hb hown (hts _ lnX5_init_0) (hts _ lnX5_init_1) (hts _ lnX5_init_2) rfl (by rw [hml]; exact hl.1) rfl dX5_init_1 (Nat.le_of_ble_eq_true rfl) (Nat.le_of_ble_eq_true rfl) ?_
  refine W.eq (g2 := F0 m 4 ls []) rfl ?_
  refine lv_aload_n hx hb dX5_init_4 rfl (lv_at hl 0 rfl) ?_
  refine lv_bipush (v := (48 : Int32)) hx hb dX5_init_5 (by decide) ?_
  refine va_newa (atype := .int) (a0 := (48, .inl k_z)) (N' := 48) hx hb (hts _ lnX5_init_3) rfl hK hP hD hS hA (fun _ => rfl) (by decide) (by decide) (Nat.le_of_ble_eq_true rfl) (Nat.le_of_ble_eq_true rfl) (Nat.le_of_ble_eq_true rfl) dX5_init_7 (fun q1 cA9 H hK9 hP hD hS => ?_)
  have e9 := k_same hK9 0 rfl
  subst e9
  clear hK9
  have hP : va_P D vwCl [(h0, .inr (5, [.null, .int 0, .int 0, .int 0])), (q1, .inl (cI, 48, .inl k_z))] H := hP
  have hD : va_D A [(h0, .inr (5, [.null, .int 0, .int 0, .int 0])), (q1, .inl (cI, 48, .inl k_z))] := hD
  refine W.widen (k := 1) (n := 48) (Nat.le_of_ble_eq_true rfl) (Nat.le_of_ble_eq_true rfl) ?_
  refine va_putF (D := D) (ci := 5) (v := .ref q1) (ty := .array .int) (C := RX5) (T := TX5) (N := 4) hx hb hts inwX5_init_X5 tyX5 tyX5_ok nmX5 hown hK hP hD hS 0 rfl rfl 0 (by decide) (hts _ lnX5_init_4) (fun _ h9 => h9) rfl hin rfl (by decide +kernel) rfl rfl (Nat.le_of_ble_eq_true rfl) dX5_init_9 (fun H locs hP hD hS => ?_)
  have hP : va_P D vwCl [(h0, .inr (5, [.ref q1, .int 0, .int 0, .int 0])), (q1, .inl (cI, 48, .inl k_z))] H := hP
  have hD : va_D A [(h0, .inr (5, [.ref q1, .int 0, .int 0, .int 0])), (q1, .inl (cI, 48, .inl k_z))] := hD
  refine lv_aload_n hx hb dX5_init_12 rfl (lv_at hl 0 rfl) ?_
  refine lv_iconst (v := (0 : Int32)) hx hb dX5_init_13 (by decide) ?_
  refine va_put (D := D) (ci := 5) (v := .int (0 : Int32)) (ty := .int) (C := RX5) (T := TX5) (N := 4) hx hb hts inwX5_init_X5 tyX5 tyX5_ok nmX5 hown hK hP hD hS 0 rfl rfl 1 (by decide) (hts _ lnX5_init_5) (fun _ h9 => h9) rfl (by decide +kernel) rfl rfl (Nat.le_of_ble_eq_true rfl) dX5_init_14 (fun H locs hP hD hS => ?_)
  have hP : va_P D vwCl [(h0, .inr (5, [.ref q1, .int (0 : Int32), .int 0, .int 0])), (q1, .inl (cI, 48, .inl k_z))] H := hP
  have hD : va_D A [(h0, .inr (5, [.ref q1, .int (0 : Int32), .int 0, .int 0])), (q1, .inl (cI, 48, .inl k_z))] := hD
  refine lv_aload_n hx hb dX5_init_17 rfl (lv_at hl 0 rfl) ?_
  refine lv_iconst (v := (0 : Int32)) hx hb dX5_init_18 (by decide) ?_
  refine va_put (D := D) (ci := 5) (v := .int (0 : Int32)) (ty := .int) (C := RX5) (T := TX5) (N := 4) hx hb hts inwX5_init_X5 tyX5 tyX5_ok nmX5 hown hK hP hD hS 0 rfl rfl 2 (by decide) (hts _ lnX5_init_6) (fun _ h9 => h9) rfl (by decide +kernel) rfl rfl (Nat.le_of_ble_eq_true rfl) dX5_init_19 (fun H locs hP hD hS => ?_)
  have hP : va_P D vwCl [(h0, .inr (5, [.ref q1, .int (0 : Int32), .int (0 : Int32), .int 0])), (q1, .inl (cI, 48, .inl k_z))] H := hP
  have hD : va_D A [(h0, .inr (5, [.ref q1, .int (0 : Int32), .int (0 : Int32), .int 0])), (q1, .inl (cI, 48, .inl k_z))] := hD
  refine lv_aload_n hx hb dX5_init_22 rfl (lv_at hl 0 rfl) ?_
  refine lv_iconst (v := (1 : Int32)) hx hb dX5_init_23 (by decide) ?_
  refine va_put (D := D) (ci := 5) (v := .int (1 : Int32)) (ty := .boolean) (C := RX5) (T := TX5) (N := 4) hx hb hts inwX5_init_X5 tyX5 tyX5_ok nmX5 hown hK hP hD hS 0 rfl rfl 3 (by decide) (hts _ lnX5_init_7) (fun _ h9 => h9) rfl (by decide +kernel) rfl rfl (Nat.le_of_ble_eq_true rfl) dX5_init_24 (fun H locs hP hD hS => ?_)
  have hP : va_P D vwCl [(h0, .inr (5, [.ref q1, .int (0 : Int32), .int (0 : Int32), .int (1 : Int32)])), (q1, .inl (cI, 48, .inl k_z))] H := hP
  have hD : va_D A [(h0, .inr (5, [.ref q1, .int (0 : Int32), .int (0 : Int32), .int (1 : Int32)])), (q1, .inl (cI, 48, .inl k_z))] := hD
  have hP9 := hP.sub (ws' := [(h0, .inr (5, [.ref q1, .int (0 : Int32), .int (0 : Int32), .int (1 : Int32)])), (q1, .inl (cI, 48, .inl k_z))]) [0, 1] rfl
  have hD9 := hD.sub (ws' := [(h0, .inr (5, [.ref q1, .int (0 : Int32), .int (0 : Int32), .int (1 : Int32)])), (q1, .inl (cI, 48, .inl k_z))]) [0, 1] (by decide) rfl
  exact W.vret hx hb hr (fun t ht hW => ⟨⟨(), rfl, trivial, q1, by rw [ht]; exact hP9, hD9⟩, hS.F ht⟩) hS.2.2 dX5_init_27
