/-! THE CLAIM OUT OF ONE WALK OF THE LAW'S BODY. Your part is whole_start (and what it stands on); all else here is the same for every law, but numbers. -/
def R_law : String := "RichestPaysLaw"
def lw_P (b : Addr) (xs : List Int32) (args : Array Value) (s : State) : Prop := args = #[.ref b] ∧ s.IntsAt b xs ∧ xs.length ≤ 3072 ∧ (Jvm.Cond.and given_1 narrow_1).before args s = true
def lw_Q (_ : Array Value) (s : State) (o : Outcome) (t : State) : Prop := o = .returned (some (.int 1)) ∧ Framed s o t [] 600000 7302250
def lw_Z (below : List Frame) (a : Array Value) (s : State) : State → Prop := fun t => ∃ o, t.status = .running ∧ Ended t below o ∧ lw_Q a s o t
/-- the law's own end, with 1 on the stack, nothing written that was there before, its room as the claim has it -/
theorem lw_ret {p : Program} {l : Launch} {e : Env} {s : State} {m : MethodId} {below : List Frame} {meth : Method} {c : Code} {b : Nat} (hx : p.tables.exec = Jvm.exec) (hb : c.code = code) (hr : meth.sig.returnType = ret) (hlocks : meth.locks = false) {pc : Nat} {H : Heap} {ls : Array Slot} (hdg : decode code pc = .ok (.ireturn, 1)) : W p l e room_1 s m #[Value.ref b] below meth c H [] 600000 7302250 (lw_Z below #[Value.ref b] s) (F0 m pc ls [.int 1]) := by
  intro T hT X
  obtain ⟨fs, hret, hrun, hended, hW, hframe⟩ := X.leave (v := some (.int 1)) (hlocks := hlocks) (fun h => by rw [hr] at h; cases h)
  have hmeth' : T.vm.method? m = some meth := X.method'
  refine ⟨T.setFrames fs, ?_, .returned (some (.int 1)), hrun, hended, rfl, ⟨_, rfl⟩, hW, hframe⟩
  jvm_step X.here [X.here.top, hx, hb, hdg, hmeth', hr, ret, narrow_b1]
  (try refine ⟨rfl, ?_⟩); (try refine ⟨rfl, ?_⟩)
  first | (intro acts; rw [hret _ acts rfl rfl rfl]) | rw [hret _ _ rfl rfl rfl]
  exact Steps.refl _
/-- what holds at the law's entry: the machine, the code, the tables' words (any of lw_tbl by 'hts w (by decide +kernel)'), the script of L ints xs at the cell b, what the Statement gives of the start (any of its parts by flat_of_before) -/
def lw_At (p : Program) (s : State) (m : MethodId) (meth : Method) (c : Code) (b L : Nat) (xs : Nat → Int32) : Prop :=
  p.tables.exec = Jvm.exec ∧ c.code = code ∧ meth.sig.returnType = ret ∧ c.maxLocals = 4 ∧ s.vm.findClass R_law = some m.cls ∧ (∀ w ∈ lw_tbl, w.before #[Value.ref b] s = true) ∧ va_X b L xs s s.heap ∧ b < s.heap.size ∧ meth.locks = false ∧ (Jvm.Cond.and given_1 narrow_1).before #[Value.ref b] s = true
/-! THE FIRST MEMORIES -/
theorem l_R0 : q_R mx_0 my_0 := by
  have tf : ∀ (w m : Nat) (t : Bool) (b : Nat → Nat), t_fault w m t b 0 = 0 := fun w m t b => if_pos rfl
  have tn : ∀ b : Nat → Nat, t_n 0 b = 0 := fun b => by unfold t_n; rw [tf]; rfl
  have tp : ∀ (b : Nat → Nat) (p : Nat), t_pu 0 b p = 0 := fun b p => by unfold t_pu; rw [tn]; exact if_neg (Nat.not_lt_zero p)
  have ta : ∀ (b : Nat → Nat) (p : Nat), t_ap 0 b p = 0 := fun b p => by unfold t_ap; rw [tn]; exact if_neg (Nat.not_lt_zero p)
  have z : (0 : Int32) = nI 0 := by decide
  have w20 : ∀ p, p < 6 → k_20 p = nI 20 ∧ 20 ≤ 99 := fun p hp => ⟨(if_pos hp).trans (by decide), by omega⟩
  refine ⟨0, 0, fun _ => 0, fun _ => 0, 0, 0, fun _ => 0, fun _ => 20, 0, fun _ => 0, fun _ => 0, fun _ => 0, ?_, ?_, ?_, ?_, ?_, ?_⟩
  · refine ⟨⟨by omega, by omega, z, z, fun i hi => absurd hi (Nat.not_lt_zero i), fun i hi => absurd hi (Nat.not_lt_zero i)⟩, ⟨by rw [tn]; omega, by omega, by omega, by rw [tn]; exact z, z, z, fun p hp => ⟨by rw [tp]; exact z, by rw [tp]; omega⟩, fun p hp => ⟨by rw [ta]; exact z, by rw [ta]; omega⟩, fun p hp => ⟨z, Nat.zero_le _⟩, w20⟩, by rw [tf]; rfl, ?_, by rw [tf]; rfl⟩
    rw [tn]
    have tr : ∀ (l : Nat) (b : Nat → Nat), t_R 0 l b = 0 := fun l b => if_pos rfl
    rw [tr]
    exact ⟨by omega, z, fun r hr => absurd hr (Nat.not_lt_zero r), fun r hr => absurd hr (Nat.not_lt_zero r)⟩
  · exact ⟨by omega, z, fun i hi => absurd hi (Nat.not_lt_zero i)⟩
  · exact ⟨by omega, by omega, z, z, fun i hi => absurd hi (Nat.not_lt_zero i), fun i hi => absurd hi (Nat.not_lt_zero i)⟩
  · exact ⟨rfl, rfl, by omega, by omega, z, z, fun p hp => ⟨z, Nat.zero_le _⟩, w20⟩
  · exact ⟨by omega, z, fun i hi => absurd hi (Nat.not_lt_zero i)⟩
  · refine ⟨rfl, fun s hs => ?_⟩
    rcases (show s = 0 ∨ s = 1 ∨ s = 2 ∨ s = 3 by omega) with rfl | rfl | rfl | rfl <;> exact ⟨rfl, rfl, Or.inr ⟨rfl, rfl⟩, ⟨0, by omega, z⟩, fun i _ => rfl⟩
/-! THE CLASSES, THE ARRAYS' CLASSES, THE STATICS -/
section LST
variable {s : State} {args : Array Value}
theorem l_classes (hts : ∀ w ∈ wsL_law, w.before args s = true) : ∃ D : va_G, ∀ (k : Nat) (q : vw_C), vwCl[k]? = some q → u_Kn s q.1 q.2.1 q.2.2 (D.1 k) (D.2 k) := by
  have i7 : ∀ w ∈ wsX7_init, w.before args s = true := fun w h => hts w (gL_law_X7_init w h).1
  have i8 : ∀ w ∈ wsX8_init, w.before args s = true := fun w h => hts w (gL_law_X8_init w h).1
  obtain ⟨cX0, dX0, kX0⟩ := u_known (C := RX0) (T := TX0) (N := 11) (n := 11) i7 inwX7_init_X0 (i7 (.instantiable RX0 11) (List.mem_of_getElem? (i := 13) rfl))
  obtain ⟨cX1, dX1, kX1⟩ := u_known (C := RX1) (T := TX1) (N := 4) (n := 4) i7 inwX7_init_X1 (i7 (.instantiable RX1 4) (List.mem_of_getElem? (i := 21) rfl))
  obtain ⟨cX2, dX2, kX2⟩ := u_known (C := RX2) (T := TX2) (N := 9) (n := 9) i7 inwX7_init_X2 (i7 (.instantiable RX2 9) (List.mem_of_getElem? (i := 9) rfl))
  obtain ⟨cX3, dX3, kX3⟩ := u_known (C := RX3) (T := TX3) (N := 10) (n := 10) i7 inwX7_init_X3 (i7 (.instantiable RX3 10) (List.mem_of_getElem? (i := 17) rfl))
  obtain ⟨cX4, dX4, kX4⟩ := u_known (C := RX4) (T := TX4) (N := 7) (n := 7) i7 inwX7_init_X4 (i7 (.instantiable RX4 7) (List.mem_of_getElem? (i := 25) rfl))
  obtain ⟨cX5, dX5, kX5⟩ := u_known (C := RX5) (T := TX5) (N := 4) (n := 4) i7 inwX7_init_X5 (i7 (.instantiable RX5 4) (List.mem_of_getElem? (i := 30) rfl))
  obtain ⟨cX6, dX6, kX6⟩ := u_known (C := RX6) (T := TX6) (N := 2) (n := 2) i7 inwX7_init_X6 (i7 (.instantiable RX6 2) (List.mem_of_getElem? (i := 5) rfl))
  obtain ⟨cX7, dX7, kX7⟩ := u_known (C := RX7) (T := TX7) (N := 8) (n := 8) i7 inwX7_init_X7 (hts (.instantiable RX7 8) (List.mem_of_getElem? (i := 1) rfl))
  obtain ⟨cX8, dX8, kX8⟩ := u_known (C := RX8) (T := TX8) (N := 29) (n := 29) i8 inwX8_init_X8 (hts (.instantiable RX8 29) (List.mem_of_getElem? (i := 4) rfl))
  refine ⟨(fun k => match k with | 0 => cX0 | 1 => cX1 | 2 => cX2 | 3 => cX3 | 4 => cX4 | 5 => cX5 | 6 => cX6 | 7 => cX7 | _ => cX8, fun k => match k with | 0 => dX0 | 1 => dX1 | 2 => dX2 | 3 => dX3 | 4 => dX4 | 5 => dX5 | 6 => dX6 | 7 => dX7 | _ => dX8), ?_⟩
  intro k q hq
  match k, hq with
  | 0, hq => cases hq; exact kX0
  | 1, hq => cases hq; exact kX1
  | 2, hq => cases hq; exact kX2
  | 3, hq => cases hq; exact kX3
  | 4, hq => cases hq; exact kX4
  | 5, hq => cases hq; exact kX5
  | 6, hq => cases hq; exact kX6
  | 7, hq => cases hq; exact kX7
  | 8, hq => cases hq; exact kX8
  | k + 9, hq => exact absurd hq (by simp [vwCl])
theorem l_arrI (h : (Cond.arrayClass .int).before args s = true) : ∃ c : ClassId, ArrOfT s c .int ∧ va_RA s c .int := by
  obtain ⟨cA, kA, comp, h1, h2, h3⟩ := Cond.arrayClass_spec h
  exact ⟨cA, fun n z => ⟨fun k h => (by cases h), kA, h2, comp, h3⟩, h1⟩
theorem l_arrZ (h : (Cond.arrayClass .boolean).before args s = true) : ∃ c : ClassId, ArrOfT s c .boolean ∧ va_RA s c .boolean := by
  obtain ⟨cA, kA, comp, h1, h2, h3⟩ := Cond.arrayClass_spec h
  exact ⟨cA, fun n z => ⟨fun k h => (by cases h), kA, h2, comp, h3⟩, h1⟩
theorem l_arrO {C : String} (h : (Cond.arrayOver (.object C)).before args s = true) : ∃ c : ClassId, ArrOfT s c (.object C) ∧ va_RA s c (.object C) := by
  obtain ⟨comp, cA, kA, h1, h2, h3, h4, h5⟩ := Cond.arrayOver_spec h
  exact ⟨cA, fun n z => ⟨fun k h => (by cases h), kA, h3, comp, h4⟩, kA, comp, h3, h4, h1, h5⟩
set_option maxRecDepth 100000 in
theorem l_wm : ∀ j, j < 5 → Cond.eq (.elem (.static "RichestPays$Partings" "WAYS" "[I") (.int (Int32.ofNat j))) (.int (mm_ways j)) ∈ flatC (Jvm.Cond.and given_1 narrow_1) := by decide +kernel
set_option maxRecDepth 100000 in
theorem l_tm : ∀ j, j < 60 → Cond.eq (.elem (.static "RichestPays$Partings" "TABLES_BY_WAY" "[I") (.int (Int32.ofNat j))) (.int (mm_tbw j)) ∈ flatC (Jvm.Cond.and given_1 narrow_1) := by decide +kernel
set_option maxRecDepth 100000 in
theorem l_stat {A : Nat → Prop} (hts : ∀ w ∈ lw_tbl, w.before args s = true) (hg : (Jvm.Cond.and given_1 narrow_1).before args s = true) (hA : ∀ a : Nat, a < s.heap.size → ¬ A a) : ∃ t1 t2 : Nat, mm_Z t1 t2 A s s.heap := by
  have hs := flat_of_before _ hg
  have htb : ∀ (i : Nat) (w : Cond), tables_1[i]? = some w → w.before args s = true := fun i w h => hts w (List.mem_append_right _ (List.mem_of_getElem? h))
  have hini : (Cond.initialized "RichestPays$Partings").before args s = true := hts _ (wsL_law_in (.initialized RX1) (List.mem_of_getElem? (i := 30) rfl))
  obtain ⟨t1, a1, b1⟩ := va_Tof (args := args) (s := s) (tm := .static "RichestPays$Partings" "WAYS" "[I") (ty := .int) (N := 5) (f := fun j => .int (mm_ways j)) (A := A) (by decide) (hs _ (by decide +kernel)) (va_eqt (hs (.eq (.length (.static "RichestPays$Partings" "WAYS" "[I")) (.int (Int32.ofNat 5))) (by decide +kernel))) (fun j hj => va_eqt (hs _ (l_wm j hj))) hA
  obtain ⟨t2, a2, b2⟩ := va_Tof (args := args) (s := s) (tm := .static "RichestPays$Partings" "TABLES_BY_WAY" "[I") (ty := .int) (N := 60) (f := fun j => .int (mm_tbw j)) (A := A) (by decide) (hs _ (by decide +kernel)) (va_eqt (hs (.eq (.length (.static "RichestPays$Partings" "TABLES_BY_WAY" "[I")) (.int (Int32.ofNat 60))) (by decide +kernel))) (fun j hj => va_eqt (hs _ (l_tm j hj))) hA
  have z1 := va_Zref (A := A) (htb 503 (.laysStatic "RichestPays$Partings" "WAYS" "[I") (by decide +kernel)) hini a1 hA
  have z2 := va_Zref (A := A) (htb 521 (.laysStatic "RichestPays$Partings" "TABLES_BY_WAY" "[I") (by decide +kernel)) hini a2 hA
  have n1 : va_Nw (.methodLinkNest RX0 68 yX7_isIn "RichestPays") s := va_Nw.of rfl (htb 325 (.methodLinkNest RX0 68 yX7_isIn "RichestPays") (by decide +kernel))
  have n2 : va_Nw (.methodLinkNest RX6 27 yX7_isIn "RichestPays") s := va_Nw.of rfl (htb 311 (.methodLinkNest RX6 27 yX7_isIn "RichestPays") (by decide +kernel))
  exact ⟨t1, t2, ⟨z1, b1⟩, ⟨z2, b2⟩, n1, n2⟩
end LST
