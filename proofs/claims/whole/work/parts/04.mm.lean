/-! A MEMORY LAYER: the cells of the system as one function (place, slot) -> int; a judgement mm_J over it whose rows name no heap -/
abbrev mm_M : Type := Nat → Nat → Int32
def mm_up (h : mm_M) (c j : Nat) (v : Int32) : mm_M := fun c' => if c' = c then upd (h c) j v else h c'
def mm_w (n : Nat) (ad : Nat → Nat) (cf : mm_M → Nat → va_E) (h : mm_M) : va_W := (List.range n).map (fun c => (ad c, cf h c))
theorem mm_up_at (h : mm_M) (c j : Nat) (v : Int32) : mm_up h c j v c = upd (h c) j v := if_pos rfl
theorem mm_up_ne (h : mm_M) {c c' : Nat} (j : Nat) (v : Int32) (hc : c' ≠ c) : mm_up h c j v c' = h c' := if_neg hc
theorem mm_w_get {n : Nat} {ad : Nat → Nat} {cf : mm_M → Nat → va_E} (h : mm_M) {c : Nat} (hc : c < n) {e : va_E} (he : cf h c = e) : (mm_w n ad cf h)[c]? = some (ad c, e) := by
  subst he
  simp [mm_w, hc]
theorem mm_w_set {n : Nat} {ad : Nat → Nat} {cf : mm_M → Nat → va_E} {h h2 : mm_M} {c : Nat} {e : va_E} (he : cf h2 c = e) (hs : ∀ j, j ≠ c → cf h2 j = cf h j) : (mm_w n ad cf h).set c (ad c, e) = mm_w n ad cf h2 := by
  subst he
  apply List.ext_getElem?
  intro j
  rw [List.getElem?_set]
  by_cases hj : c = j
  · subst hj
    by_cases hn : c < n <;> simp [mm_w, hn]
  · rw [if_neg hj]
    by_cases hn : j < n
    · simp [mm_w, hn, hs j (fun q => hj q.symm)]
    · simp [mm_w, hn]
def mm_gd (i : Int32) (n : Nat) : Bool := !(decide (i < 0)) && decide (i.toNatClampNeg < n)
theorem mm_gd_in {i : Int32} {n : Nat} (h : mm_gd i n = true) : vp_in i n := by
  simp only [mm_gd, Bool.and_eq_true, Bool.not_eq_true', decide_eq_false_iff_not, decide_eq_true_eq] at h
  intro q
  rcases q with q | q
  · exact h.1 q
  · omega
theorem mm_gd_lt {i : Int32} {n : Nat} (h : mm_gd i n = true) : i.toNatClampNeg < n := by
  simp only [mm_gd, Bool.and_eq_true, Bool.not_eq_true', decide_eq_false_iff_not, decide_eq_true_eq] at h
  exact h.2
theorem mm_t {α : Type} {c : Prop} [Decidable c] {a b r : α} (hc : c) (h : (if c then a else b) = r) : a = r := by rw [if_pos hc] at h; exact h
theorem mm_f {α : Type} {c : Prop} [Decidable c] {a b r : α} (hc : ¬ c) (h : (if c then a else b) = r) : b = r := by rw [if_neg hc] at h; exact h
theorem mm_g {α : Type} {c : Prop} [Decidable c] {a : Option α} {v : α} (h : (if c then a else none) = some v) : c ∧ a = some v := by
  by_cases hc : c
  · rw [if_pos hc] at h; exact ⟨hc, h⟩
  · rw [if_neg hc] at h; cases h
def mm_call {M α β : Type} (x : Option (M × α)) (k : M → α → Option β) : Option β := match x with
  | some (h, r) => k h r
  | none => none
theorem mm_call_some {M α β : Type} (h : M) (r : α) (k : M → α → Option β) : mm_call (some (h, r)) k = k h r := rfl
theorem mm_c {M α β : Type} {x : Option (M × α)} {k : M → α → Option β} {v : β} (h : mm_call x k = some v) : ∃ (h1 : M) (r1 : α), x = some (h1, r1) ∧ k h1 r1 = some v := by
  cases x with
  | none => exact absurd h (by simp [mm_call])
  | some q => exact ⟨q.1, q.2, rfl, h⟩
def mm_let {α β : Type} (x : α) (k : α → β) : β := k x
theorem mm_l {α β : Type} {x : α} {k : α → β} {r : β} (h : mm_let x k = r) : ∃ y, y = x ∧ k y = r := ⟨x, rfl, h⟩
theorem mm_nz {r : Int32} (h : r = 0 ∨ r = 1) : narrow .boolean (.int r) = .int r := by rcases h with rfl | rfl <;> rfl
theorem mm_tout {x : Int32} {lo hi : Int} (H : ∀ j : Int, lo ≤ j → j ≤ hi → ¬ x.toInt = j) : x.toInt < lo ∨ hi < x.toInt := by
  by_cases h1 : x.toInt < lo
  · exact Or.inl h1
  · by_cases h2 : hi < x.toInt
    · exact Or.inr h2
    · exact absurd rfl (H x.toInt (by omega) (by omega))
abbrev mm_gcp (sp dp n : Int32) (n0 n1 : Nat) : Prop := ¬ sp < 0 ∧ ¬ dp < 0 ∧ ¬ n < 0 ∧ sp.toNatClampNeg + n.toNatClampNeg ≤ n0 ∧ dp.toNatClampNeg + n.toNatClampNeg ≤ n1
def mm_cp (h : mm_M) (a b sp dp n : Nat) : mm_M := fun c' => if c' = b then va_cpy (h a) (h b) sp dp n else h c'
/-- the two arrays of Partings -/
def mm_ways : Nat → Int32 := fun j => ([1, 1, 2, 5, 15] : List Int32).getD j 0
def mm_tbw : Nat → Int32 := fun j => ([0, 0, 0, 0, 0, 1, 0, 0, 0, 0, 1, 0, 0, 1, 1, 0, 0, 1, 2, 0, 0, 0, 0, 1, 0, 0, 1, 1, 0, 0, 1, 2, 0, 1, 0, 1, 0, 1, 0, 2, 0, 1, 1, 1, 0, 1, 1, 2, 0, 1, 2, 1, 0, 1, 2, 2, 0, 1, 2, 3] : List Int32).getD j 0
def mm_Z (t1 t2 : Nat) (A : Nat → Prop) (U : State) (H : Heap) : Prop :=
  (va_Z "RichestPays$Partings" "WAYS" "[I" (.ref t1) A U H ∧ va_T .int t1 5 (fun j => .int (mm_ways j)) A U H) ∧
  (va_Z "RichestPays$Partings" "TABLES_BY_WAY" "[I" (.ref t2) A U H ∧ va_T .int t2 60 (fun j => .int (mm_tbw j)) A U H) ∧
  va_Nw (.methodLinkNest RX0 68 yX7_isIn "RichestPays") U ∧ va_Nw (.methodLinkNest RX6 27 yX7_isIn "RichestPays") U
theorem mm_Z.warm {t1 t2 : Nat} {A : Nat → Prop} {u U : State} {H : Heap} (hW : u.WarmedH U.vm) (h : mm_Z t1 t2 A u H) : mm_Z t1 t2 A U H := ⟨⟨h.1.1.moved hW.alike, h.1.2.moved hW.alike⟩, ⟨h.2.1.1.moved hW.alike, h.2.1.2.moved hW.alike⟩, h.2.2.1.warmM hW, h.2.2.2.warmM hW⟩
theorem mm_Z.same {t1 t2 : Nat} {A : Nat → Prop} {u U : State} {H : Heap} (hv : u.vm = U.vm) (ha : u.vm.Alike U.vm) (h : mm_Z t1 t2 A u H) : mm_Z t1 t2 A U H := ⟨⟨h.1.1.moved ha, h.1.2.moved ha⟩, ⟨h.2.1.1.moved ha, h.2.1.2.moved ha⟩, h.2.2.1.same rfl hv, h.2.2.2.same rfl hv⟩
theorem mm_Z.kept {t1 t2 : Nat} {A : Nat → Prop} {U : State} {H H1 : Heap} (h : mm_Z t1 t2 A U H) (hq : ∀ a : Nat, a < H.size → ¬ A a → H1[a]? = H[a]?) : mm_Z t1 t2 A U H1 := ⟨⟨h.1.1.kept hq, h.1.2.kept hq⟩, ⟨h.2.1.1.kept hq, h.2.1.2.kept hq⟩, h.2.2⟩
theorem mm_Z.narrow {t1 t2 : Nat} {A B : Nat → Prop} {U : State} {H : Heap} (h : mm_Z t1 t2 A U H) (hAB : ∀ q, B q → A q) : mm_Z t1 t2 B U H := ⟨⟨h.1.1.narrow hAB, h.1.2.narrow hAB⟩, ⟨h.2.1.1.narrow hAB, h.2.1.2.narrow hAB⟩, h.2.2⟩
/-- what stands around a walk: the machine, the code, the words, the classes, the statics -/
def mm_X (p : Program) (s : State) (m : MethodId) (args : Array Value) (c : Code) (cc : ByteArray) (own : String) (Ts : List Cond) (nL : Nat) (D : va_G) (tys : List (ClassId × FieldType)) (t1 t2 : Nat) (A : Nat → Prop) : Prop :=
  p.tables.exec = Jvm.exec ∧ c.code = cc ∧ c.maxLocals = nL ∧ s.vm.findClass own = some m.cls ∧ (∀ w ∈ Ts, w.before args s = true) ∧ va_K D vwCl tys s ∧ mm_Z t1 t2 A s s.heap ∧ (∀ q, s.heap.size ≤ q → A q)
/-- the judgement: from memory h, at pc with the locals lo and the stack st, a state with Q is reached -/
def mm_J {M : Type} (p : Program) (l : Launch) (e : Env) (R : Room) (s : State) (m : MethodId) (args : Array Value) (below : List Frame) (meth : Method) (c : Code) (cells slots : Nat) (Q : State → Prop) (D : va_G) (w : M → va_W) (A : Nat → Prop) (nL : Nat) (h : M) (pc : Nat) (lo : List (Nat × Value)) (st : List Value) : Prop :=
  ∀ (H : Heap) (locs : List Loc) (ls : Array Slot), va_P D vwCl (w h) H → va_D A (w h) → va_S A s.heap H locs → lv_has ls nL lo → W p l e R s m args below meth c H locs cells slots Q (F0 m pc ls st)
section MMRows
variable {M : Type} {p : Program} {l : Launch} {e : Env} {R : Room} {s : State} {m : MethodId} {args : Array Value} {below : List Frame} {meth : Method} {c : Code} {cells slots : Nat} {Q : State → Prop} {D : va_G} {w : M → va_W} {A : Nat → Prop} {nL : Nat} {h : M} {pc : Nat} {lo lo' : List (Nat × Value)} {st : List Value}
  {cc : ByteArray} {own : String} {Ts : List Cond} {tys : List (ClassId × FieldType)} {t1 t2 : Nat}
theorem mj_sub (ks : List Nat) (hl : lv_pick lo ks = lo') (K : mm_J p l e R s m args below meth c cells slots Q D w A nL h pc lo' st) : mm_J p l e R s m args below meth c cells slots Q D w A nL h pc lo st :=
  fun H locs ls a b d f => K H locs ls a b d (lv_sub f ks hl)
theorem mj_lo (hl : lo = lo') (K : mm_J p l e R s m args below meth c cells slots Q D w A nL h pc lo' st) : mm_J p l e R s m args below meth c cells slots Q D w A nL h pc lo st := by
  subst hl
  exact K
theorem mj_topi {x y : Int32} (e1 : y = x) (K : mm_J p l e R s m args below meth c cells slots Q D w A nL h pc lo (.int y :: st)) : mm_J p l e R s m args below meth c cells slots Q D w A nL h pc lo (.int x :: st) := by
  subst e1
  exact K
theorem mj_topl {x y : Int64} (e1 : y = x) (K : mm_J p l e R s m args below meth c cells slots Q D w A nL h pc lo (.long y :: st)) : mm_J p l e R s m args below meth c cells slots Q D w A nL h pc lo (.long x :: st) := by
  subst e1
  exact K
theorem mj_iload_n (X : mm_X p s m args c cc own Ts nL D tys t1 t2 A) {k : Fin 4} {x : Int32} (hdg : decode cc pc = .ok (.iload_n k, 1)) (j : Nat) (hl : lo[j]? = some ((k : Nat), .int x)) (K : mm_J p l e R s m args below meth c cells slots Q D w A nL h (pc + 1) lo (.int x :: st)) : mm_J p l e R s m args below meth c cells slots Q D w A nL h pc lo st :=
  fun H locs ls a b d f => lv_iload_n X.1 X.2.1 hdg rfl (lv_at f j hl) (K H locs ls a b d f)
theorem mj_iload (X : mm_X p s m args c cc own Ts nL D tys t1 t2 A) {i : Nat} {x : Int32} (hdg : decode cc pc = .ok (.iload i, 2)) (j : Nat) (hl : lo[j]? = some (i, .int x)) (K : mm_J p l e R s m args below meth c cells slots Q D w A nL h (pc + 2) lo (.int x :: st)) : mm_J p l e R s m args below meth c cells slots Q D w A nL h pc lo st :=
  fun H locs ls a b d f => lv_iload X.1 X.2.1 hdg (lv_at f j hl) (K H locs ls a b d f)
theorem mj_lload_n (X : mm_X p s m args c cc own Ts nL D tys t1 t2 A) {k : Fin 4} {x : Int64} (hdg : decode cc pc = .ok (.lload_n k, 1)) (j : Nat) (hl : lo[j]? = some ((k : Nat), .long x)) (K : mm_J p l e R s m args below meth c cells slots Q D w A nL h (pc + 1) lo (.long x :: st)) : mm_J p l e R s m args below meth c cells slots Q D w A nL h pc lo st :=
  fun H locs ls a b d f => lv_lload_n X.1 X.2.1 hdg rfl (lv_at f j hl) (K H locs ls a b d f)
theorem mj_lload (X : mm_X p s m args c cc own Ts nL D tys t1 t2 A) {i : Nat} {x : Int64} (hdg : decode cc pc = .ok (.lload i, 2)) (j : Nat) (hl : lo[j]? = some (i, .long x)) (K : mm_J p l e R s m args below meth c cells slots Q D w A nL h (pc + 2) lo (.long x :: st)) : mm_J p l e R s m args below meth c cells slots Q D w A nL h pc lo st :=
  fun H locs ls a b d f => lv_lload X.1 X.2.1 hdg (lv_at f j hl) (K H locs ls a b d f)
theorem mj_aload_n (X : mm_X p s m args c cc own Ts nL D tys t1 t2 A) {k : Fin 4} {x : Nat} (hdg : decode cc pc = .ok (.aload_n k, 1)) (j : Nat) (hl : lo[j]? = some ((k : Nat), .ref x)) (K : mm_J p l e R s m args below meth c cells slots Q D w A nL h (pc + 1) lo (.ref x :: st)) : mm_J p l e R s m args below meth c cells slots Q D w A nL h pc lo st :=
  fun H locs ls a b d f => lv_aload_n X.1 X.2.1 hdg rfl (lv_at f j hl) (K H locs ls a b d f)
theorem mj_aload (X : mm_X p s m args c cc own Ts nL D tys t1 t2 A) {i : Nat} {x : Nat} (hdg : decode cc pc = .ok (.aload i, 2)) (j : Nat) (hl : lo[j]? = some (i, .ref x)) (K : mm_J p l e R s m args below meth c cells slots Q D w A nL h (pc + 2) lo (.ref x :: st)) : mm_J p l e R s m args below meth c cells slots Q D w A nL h pc lo st :=
  fun H locs ls a b d f => lv_aload X.1 X.2.1 hdg (lv_at f j hl) (K H locs ls a b d f)
theorem mj_istore_n (X : mm_X p s m args c cc own Ts nL D tys t1 t2 A) {k : Fin 4} {x : Int32} (hdg : decode cc pc = .ok (.istore_n k, 1)) (hn : (k : Nat) < nL) (hl : ((k : Nat), Value.int x) :: lo.filter (fun q => !(q.1 == (k : Nat)) && !(q.1 + 1 == (k : Nat) && q.2.category == 2)) = lo') (K : mm_J p l e R s m args below meth c cells slots Q D w A nL h (pc + 1) lo' st) : mm_J p l e R s m args below meth c cells slots Q D w A nL h pc lo (.int x :: st) :=
  fun H locs ls a b d f => lv_istore_n X.1 X.2.1 hdg rfl f hn hl (fun ls g => K H locs ls a b d g)
theorem mj_istore (X : mm_X p s m args c cc own Ts nL D tys t1 t2 A) {i : Nat} {x : Int32} (hdg : decode cc pc = .ok (.istore i, 2)) (hn : i < nL) (hl : (i, Value.int x) :: lo.filter (fun q => !(q.1 == i) && !(q.1 + 1 == i && q.2.category == 2)) = lo') (K : mm_J p l e R s m args below meth c cells slots Q D w A nL h (pc + 2) lo' st) : mm_J p l e R s m args below meth c cells slots Q D w A nL h pc lo (.int x :: st) :=
  fun H locs ls a b d f => lv_istore X.1 X.2.1 hdg f hn hl (fun ls g => K H locs ls a b d g)
theorem mj_astore_n (X : mm_X p s m args c cc own Ts nL D tys t1 t2 A) {k : Fin 4} {x : Nat} (hdg : decode cc pc = .ok (.astore_n k, 1)) (hn : (k : Nat) < nL) (hl : ((k : Nat), Value.ref x) :: lo.filter (fun q => !(q.1 == (k : Nat)) && !(q.1 + 1 == (k : Nat) && q.2.category == 2)) = lo') (K : mm_J p l e R s m args below meth c cells slots Q D w A nL h (pc + 1) lo' st) : mm_J p l e R s m args below meth c cells slots Q D w A nL h pc lo (.ref x :: st) :=
  fun H locs ls a b d f => lv_astore_n X.1 X.2.1 hdg rfl f hn hl (fun ls g => K H locs ls a b d g)
theorem mj_astore (X : mm_X p s m args c cc own Ts nL D tys t1 t2 A) {i : Nat} {x : Nat} (hdg : decode cc pc = .ok (.astore i, 2)) (hn : i < nL) (hl : (i, Value.ref x) :: lo.filter (fun q => !(q.1 == i) && !(q.1 + 1 == i && q.2.category == 2)) = lo') (K : mm_J p l e R s m args below meth c cells slots Q D w A nL h (pc + 2) lo' st) : mm_J p l e R s m args below meth c cells slots Q D w A nL h pc lo (.ref x :: st) :=
  fun H locs ls a b d f => lv_astore X.1 X.2.1 hdg f hn hl (fun ls g => K H locs ls a b d g)
theorem mj_lstore_n (X : mm_X p s m args c cc own Ts nL D tys t1 t2 A) {k : Fin 4} {x : Int64} (hdg : decode cc pc = .ok (.lstore_n k, 1)) (hn : (k : Nat) + 1 < nL) (hl : ((k : Nat), Value.long x) :: lo.filter (fun q => !(q.1 == (k : Nat)) && (!(q.1 == (k : Nat) + 1) && !(q.1 + 1 == (k : Nat) && q.2.category == 2))) = lo') (K : mm_J p l e R s m args below meth c cells slots Q D w A nL h (pc + 1) lo' st) : mm_J p l e R s m args below meth c cells slots Q D w A nL h pc lo (.long x :: st) :=
  fun H locs ls a b d f => lv_lstore_n X.1 X.2.1 hdg rfl f hn hl (fun ls g => K H locs ls a b d g)
theorem mj_lstore (X : mm_X p s m args c cc own Ts nL D tys t1 t2 A) {i : Nat} {x : Int64} (hdg : decode cc pc = .ok (.lstore i, 2)) (hn : i + 1 < nL) (hl : (i, Value.long x) :: lo.filter (fun q => !(q.1 == i) && (!(q.1 == i + 1) && !(q.1 + 1 == i && q.2.category == 2))) = lo') (K : mm_J p l e R s m args below meth c cells slots Q D w A nL h (pc + 2) lo' st) : mm_J p l e R s m args below meth c cells slots Q D w A nL h pc lo (.long x :: st) :=
  fun H locs ls a b d f => lv_lstore X.1 X.2.1 hdg f hn hl (fun ls g => K H locs ls a b d g)
theorem mj_iinc (X : mm_X p s m args c cc own Ts nL D tys t1 t2 A) {i k : Nat} {n : Int} {x v : Int32} (hdg : decode cc pc = .ok (.iinc i n, 3)) (hk : lo[k]? = some (i, .int x)) (hv : x + Int32.ofInt n = v) (hn : i < nL) (hl : (i, Value.int v) :: lo.filter (fun q => !(q.1 == i) && !(q.1 + 1 == i && q.2.category == 2)) = lo') (K : mm_J p l e R s m args below meth c cells slots Q D w A nL h (pc + 3) lo' st) : mm_J p l e R s m args below meth c cells slots Q D w A nL h pc lo st :=
  fun H locs ls a b d f => lv_iinc X.1 X.2.1 hdg f hk hv hn hl (fun ls g => K H locs ls a b d g)
theorem mj_iconst (X : mm_X p s m args c cc own Ts nL D tys t1 t2 A) {n : Int} {v : Int32} (hdg : decode cc pc = .ok (.iconst n, 1)) (hv : Int32.ofInt n = v) (K : mm_J p l e R s m args below meth c cells slots Q D w A nL h (pc + 1) lo (.int v :: st)) : mm_J p l e R s m args below meth c cells slots Q D w A nL h pc lo st :=
  fun H locs ls a b d f => lv_iconst X.1 X.2.1 hdg hv (K H locs ls a b d f)
theorem mj_bipush (X : mm_X p s m args c cc own Ts nL D tys t1 t2 A) {n : Int} {v : Int32} (hdg : decode cc pc = .ok (.bipush n, 2)) (hv : (Int8.ofInt n).toInt32 = v) (K : mm_J p l e R s m args below meth c cells slots Q D w A nL h (pc + 2) lo (.int v :: st)) : mm_J p l e R s m args below meth c cells slots Q D w A nL h pc lo st :=
  fun H locs ls a b d f => lv_bipush X.1 X.2.1 hdg hv (K H locs ls a b d f)
theorem mj_sipush (X : mm_X p s m args c cc own Ts nL D tys t1 t2 A) {n : Int} {v : Int32} (hdg : decode cc pc = .ok (.sipush n, 3)) (hv : (Int16.ofInt n).toInt32 = v) (K : mm_J p l e R s m args below meth c cells slots Q D w A nL h (pc + 3) lo (.int v :: st)) : mm_J p l e R s m args below meth c cells slots Q D w A nL h pc lo st :=
  fun H locs ls a b d f => lv_sipush X.1 X.2.1 hdg hv (K H locs ls a b d f)
theorem mj_lconst (X : mm_X p s m args c cc own Ts nL D tys t1 t2 A) {n : Fin 2} {v : Int64} (hdg : decode cc pc = .ok (.lconst n, 1)) (hv : Int64.ofNat (n : Nat) = v) (K : mm_J p l e R s m args below meth c cells slots Q D w A nL h (pc + 1) lo (.long v :: st)) : mm_J p l e R s m args below meth c cells slots Q D w A nL h pc lo st :=
  fun H locs ls a b d f => lv_lconst X.1 X.2.1 hdg hv (K H locs ls a b d f)
theorem mj_ldc (X : mm_X p s m args c cc own Ts nL D tys t1 t2 A) {index : Nat} {v : Int32} (hc : Jvm.Cond.constant own index v ∈ Ts) (hdg : decode cc pc = .ok (.ldc index, 2)) (K : mm_J p l e R s m args below meth c cells slots Q D w A nL h (pc + 2) lo (.int v :: st)) : mm_J p l e R s m args below meth c cells slots Q D w A nL h pc lo st :=
  fun H locs ls a b d f => lv_ldc X.1 X.2.1 X.2.2.2.1 (X.2.2.2.2.1 _ hc) hdg (K H locs ls a b d f)
theorem mj_ldcw (X : mm_X p s m args c cc own Ts nL D tys t1 t2 A) {index : Nat} {v : Int32} (hc : Jvm.Cond.constant own index v ∈ Ts) (hdg : decode cc pc = .ok (.ldc_w index, 3)) (K : mm_J p l e R s m args below meth c cells slots Q D w A nL h (pc + 3) lo (.int v :: st)) : mm_J p l e R s m args below meth c cells slots Q D w A nL h pc lo st :=
  fun H locs ls a b d f => lv_ldcw X.1 X.2.1 X.2.2.2.1 (X.2.2.2.2.1 _ hc) hdg (K H locs ls a b d f)
theorem mj_iushr (X : mm_X p s m args c cc own Ts nL D tys t1 t2 A) {x y : Int32} (hdg : decode cc pc = .ok (.iushr, 1)) (K : mm_J p l e R s m args below meth c cells slots Q D w A nL h (pc + 1) lo (.int ((x.toUInt32 >>> (y.toUInt32 &&& Int32.toUInt32 31)).toInt32) :: st)) : mm_J p l e R s m args below meth c cells slots Q D w A nL h pc lo (.int y :: .int x :: st) :=
  fun H locs ls a b d f => lv_iushr X.1 X.2.1 hdg rfl (K H locs ls a b d f)
theorem mj_ldc2 (X : mm_X p s m args c cc own Ts nL D tys t1 t2 A) {index : Nat} {v : Int64} (hc : Jvm.Cond.constantLong own index v ∈ Ts) (hdg : decode cc pc = .ok (.ldc2_w index, 3)) (K : mm_J p l e R s m args below meth c cells slots Q D w A nL h (pc + 3) lo (.long v :: st)) : mm_J p l e R s m args below meth c cells slots Q D w A nL h pc lo st :=
  fun H locs ls a b d f => lv_ldc2 X.1 X.2.1 X.2.2.2.1 (X.2.2.2.2.1 _ hc) hdg (K H locs ls a b d f)
theorem mj_iadd (X : mm_X p s m args c cc own Ts nL D tys t1 t2 A) {x y : Int32} (hdg : decode cc pc = .ok (.iadd, 1))  (K : mm_J p l e R s m args below meth c cells slots Q D w A nL h (pc + 1) lo (.int (x + y) :: st)) : mm_J p l e R s m args below meth c cells slots Q D w A nL h pc lo (.int y :: .int x :: st) :=
  fun H locs ls a b d f => lv_iadd X.1 X.2.1 hdg  (K H locs ls a b d f)
theorem mj_isub (X : mm_X p s m args c cc own Ts nL D tys t1 t2 A) {x y : Int32} (hdg : decode cc pc = .ok (.isub, 1))  (K : mm_J p l e R s m args below meth c cells slots Q D w A nL h (pc + 1) lo (.int (x - y) :: st)) : mm_J p l e R s m args below meth c cells slots Q D w A nL h pc lo (.int y :: .int x :: st) :=
  fun H locs ls a b d f => lv_isub X.1 X.2.1 hdg  (K H locs ls a b d f)
theorem mj_imul (X : mm_X p s m args c cc own Ts nL D tys t1 t2 A) {x y : Int32} (hdg : decode cc pc = .ok (.imul, 1))  (K : mm_J p l e R s m args below meth c cells slots Q D w A nL h (pc + 1) lo (.int (x * y) :: st)) : mm_J p l e R s m args below meth c cells slots Q D w A nL h pc lo (.int y :: .int x :: st) :=
  fun H locs ls a b d f => lv_imul X.1 X.2.1 hdg  (K H locs ls a b d f)
theorem mj_iand (X : mm_X p s m args c cc own Ts nL D tys t1 t2 A) {x y : Int32} (hdg : decode cc pc = .ok (.iand, 1))  (K : mm_J p l e R s m args below meth c cells slots Q D w A nL h (pc + 1) lo (.int (x &&& y) :: st)) : mm_J p l e R s m args below meth c cells slots Q D w A nL h pc lo (.int y :: .int x :: st) :=
  fun H locs ls a b d f => lv_iand X.1 X.2.1 hdg  (K H locs ls a b d f)
theorem mj_ior (X : mm_X p s m args c cc own Ts nL D tys t1 t2 A) {x y : Int32} (hdg : decode cc pc = .ok (.ior, 1))  (K : mm_J p l e R s m args below meth c cells slots Q D w A nL h (pc + 1) lo (.int (x ||| y) :: st)) : mm_J p l e R s m args below meth c cells slots Q D w A nL h pc lo (.int y :: .int x :: st) :=
  fun H locs ls a b d f => lv_ior X.1 X.2.1 hdg  (K H locs ls a b d f)
theorem mj_ixor (X : mm_X p s m args c cc own Ts nL D tys t1 t2 A) {x y : Int32} (hdg : decode cc pc = .ok (.ixor, 1))  (K : mm_J p l e R s m args below meth c cells slots Q D w A nL h (pc + 1) lo (.int (x ^^^ y) :: st)) : mm_J p l e R s m args below meth c cells slots Q D w A nL h pc lo (.int y :: .int x :: st) :=
  fun H locs ls a b d f => lv_ixor X.1 X.2.1 hdg  (K H locs ls a b d f)
theorem mj_ishl (X : mm_X p s m args c cc own Ts nL D tys t1 t2 A) {x y : Int32} (hdg : decode cc pc = .ok (.ishl, 1))  (K : mm_J p l e R s m args below meth c cells slots Q D w A nL h (pc + 1) lo (.int (x <<< (y &&& 31)) :: st)) : mm_J p l e R s m args below meth c cells slots Q D w A nL h pc lo (.int y :: .int x :: st) :=
  fun H locs ls a b d f => lv_ishl X.1 X.2.1 hdg  (K H locs ls a b d f)
theorem mj_ishr (X : mm_X p s m args c cc own Ts nL D tys t1 t2 A) {x y : Int32} (hdg : decode cc pc = .ok (.ishr, 1))  (K : mm_J p l e R s m args below meth c cells slots Q D w A nL h (pc + 1) lo (.int (x >>> (y &&& 31)) :: st)) : mm_J p l e R s m args below meth c cells slots Q D w A nL h pc lo (.int y :: .int x :: st) :=
  fun H locs ls a b d f => lv_ishr X.1 X.2.1 hdg  (K H locs ls a b d f)
theorem mj_ladd (X : mm_X p s m args c cc own Ts nL D tys t1 t2 A) {x y : Int64} (hdg : decode cc pc = .ok (.ladd, 1))  (K : mm_J p l e R s m args below meth c cells slots Q D w A nL h (pc + 1) lo (.long (x + y) :: st)) : mm_J p l e R s m args below meth c cells slots Q D w A nL h pc lo (.long y :: .long x :: st) :=
  fun H locs ls a b d f => lv_ladd X.1 X.2.1 hdg  (K H locs ls a b d f)
theorem mj_lsub (X : mm_X p s m args c cc own Ts nL D tys t1 t2 A) {x y : Int64} (hdg : decode cc pc = .ok (.lsub, 1))  (K : mm_J p l e R s m args below meth c cells slots Q D w A nL h (pc + 1) lo (.long (x - y) :: st)) : mm_J p l e R s m args below meth c cells slots Q D w A nL h pc lo (.long y :: .long x :: st) :=
  fun H locs ls a b d f => lv_lsub X.1 X.2.1 hdg  (K H locs ls a b d f)
theorem mj_lmul (X : mm_X p s m args c cc own Ts nL D tys t1 t2 A) {x y : Int64} (hdg : decode cc pc = .ok (.lmul, 1))  (K : mm_J p l e R s m args below meth c cells slots Q D w A nL h (pc + 1) lo (.long (x * y) :: st)) : mm_J p l e R s m args below meth c cells slots Q D w A nL h pc lo (.long y :: .long x :: st) :=
  fun H locs ls a b d f => lv_lmul X.1 X.2.1 hdg  (K H locs ls a b d f)
theorem mj_idiv (X : mm_X p s m args c cc own Ts nL D tys t1 t2 A) {x y : Int32} (hdg : decode cc pc = .ok (.idiv, 1)) (hne : ¬ y = 0) (K : mm_J p l e R s m args below meth c cells slots Q D w A nL h (pc + 1) lo (.int (x / y) :: st)) : mm_J p l e R s m args below meth c cells slots Q D w A nL h pc lo (.int y :: .int x :: st) :=
  fun H locs ls a b d f => lv_idiv X.1 X.2.1 hdg hne (K H locs ls a b d f)
theorem mj_irem (X : mm_X p s m args c cc own Ts nL D tys t1 t2 A) {x y : Int32} (hdg : decode cc pc = .ok (.irem, 1)) (hne : ¬ y = 0) (K : mm_J p l e R s m args below meth c cells slots Q D w A nL h (pc + 1) lo (.int (x - x / y * y) :: st)) : mm_J p l e R s m args below meth c cells slots Q D w A nL h pc lo (.int y :: .int x :: st) :=
  fun H locs ls a b d f => lv_irem X.1 X.2.1 hdg hne (K H locs ls a b d f)
theorem mj_ldiv (X : mm_X p s m args c cc own Ts nL D tys t1 t2 A) {x y : Int64} (hdg : decode cc pc = .ok (.ldiv, 1)) (hne : ¬ y = 0) (K : mm_J p l e R s m args below meth c cells slots Q D w A nL h (pc + 1) lo (.long (x / y) :: st)) : mm_J p l e R s m args below meth c cells slots Q D w A nL h pc lo (.long y :: .long x :: st) :=
  fun H locs ls a b d f => lv_ldiv X.1 X.2.1 hdg hne (K H locs ls a b d f)
theorem mj_lrem (X : mm_X p s m args c cc own Ts nL D tys t1 t2 A) {x y : Int64} (hdg : decode cc pc = .ok (.lrem, 1)) (hne : ¬ y = 0) (K : mm_J p l e R s m args below meth c cells slots Q D w A nL h (pc + 1) lo (.long (x - x / y * y) :: st)) : mm_J p l e R s m args below meth c cells slots Q D w A nL h pc lo (.long y :: .long x :: st) :=
  fun H locs ls a b d f => lv_lrem X.1 X.2.1 hdg hne (K H locs ls a b d f)
theorem mj_lcmp (X : mm_X p s m args c cc own Ts nL D tys t1 t2 A) {x y : Int64} (hdg : decode cc pc = .ok (.lcmp, 1))  (K : mm_J p l e R s m args below meth c cells slots Q D w A nL h (pc + 1) lo (.int (lg_cmp x y) :: st)) : mm_J p l e R s m args below meth c cells slots Q D w A nL h pc lo (.long y :: .long x :: st) :=
  fun H locs ls a b d f => W.lcmp X.1 X.2.1 hdg  (K H locs ls a b d f)
theorem mj_i2l (X : mm_X p s m args c cc own Ts nL D tys t1 t2 A) {x : Int32} (hdg : decode cc pc = .ok (.i2l, 1))  (K : mm_J p l e R s m args below meth c cells slots Q D w A nL h (pc + 1) lo (.long x.toInt64 :: st)) : mm_J p l e R s m args below meth c cells slots Q D w A nL h pc lo (.int x :: st) :=
  fun H locs ls a b d f => lv_i2l X.1 X.2.1 hdg rfl (K H locs ls a b d f)
theorem mj_i2b (X : mm_X p s m args c cc own Ts nL D tys t1 t2 A) {x : Int32} (hdg : decode cc pc = .ok (.i2b, 1))  (K : mm_J p l e R s m args below meth c cells slots Q D w A nL h (pc + 1) lo (.int x.toInt8.toInt32 :: st)) : mm_J p l e R s m args below meth c cells slots Q D w A nL h pc lo (.int x :: st) :=
  fun H locs ls a b d f => lv_i2b X.1 X.2.1 hdg rfl (K H locs ls a b d f)
theorem mj_i2s (X : mm_X p s m args c cc own Ts nL D tys t1 t2 A) {x : Int32} (hdg : decode cc pc = .ok (.i2s, 1))  (K : mm_J p l e R s m args below meth c cells slots Q D w A nL h (pc + 1) lo (.int x.toInt16.toInt32 :: st)) : mm_J p l e R s m args below meth c cells slots Q D w A nL h pc lo (.int x :: st) :=
  fun H locs ls a b d f => lv_i2s X.1 X.2.1 hdg rfl (K H locs ls a b d f)
theorem mj_dup (X : mm_X p s m args c cc own Ts nL D tys t1 t2 A) {va : Value} (hdg : decode cc pc = .ok (.dup, 1)) (hva : va.category = 1) (K : mm_J p l e R s m args below meth c cells slots Q D w A nL h (pc + 1) lo (va :: va :: st)) : mm_J p l e R s m args below meth c cells slots Q D w A nL h pc lo (va :: st) :=
  fun H locs ls a b d f => lv_dup X.1 X.2.1 hdg hva (K H locs ls a b d f)
theorem mj_dup2 (X : mm_X p s m args c cc own Ts nL D tys t1 t2 A) {va vb : Value} (hdg : decode cc pc = .ok (.dup2, 1)) (hva : va.category = 1) (hvb : vb.category = 1) (K : mm_J p l e R s m args below meth c cells slots Q D w A nL h (pc + 1) lo (va :: vb :: va :: vb :: st)) : mm_J p l e R s m args below meth c cells slots Q D w A nL h pc lo (va :: vb :: st) :=
  fun H locs ls a b d f => lv_dup2_11 X.1 X.2.1 hdg hva hvb (K H locs ls a b d f)
theorem mj_pop (X : mm_X p s m args c cc own Ts nL D tys t1 t2 A) {va : Value} (hdg : decode cc pc = .ok (.pop, 1)) (hva : va.category = 1) (K : mm_J p l e R s m args below meth c cells slots Q D w A nL h (pc + 1) lo (st)) : mm_J p l e R s m args below meth c cells slots Q D w A nL h pc lo (va :: st) :=
  fun H locs ls a b d f => lv_pop X.1 X.2.1 hdg hva (K H locs ls a b d f)
theorem mj_if_eq (X : mm_X p s m args c cc own Ts nL D tys t1 t2 A) {x : Int32} {off : Int} {tgt : Nat} (hdg : decode cc pc = .ok (.ifCond .eq off, 3)) (ht : (pc : Int) + off = (tgt : Int)) (kt : x = 0 → mm_J p l e R s m args below meth c cells slots Q D w A nL h tgt lo st) (kf : ¬ x = 0 → mm_J p l e R s m args below meth c cells slots Q D w A nL h (pc + 3) lo st) : mm_J p l e R s m args below meth c cells slots Q D w A nL h pc lo (.int x :: st) :=
  fun H locs ls a b d f => lv_if_eq X.1 X.2.1 hdg ht (fun q => kt q H locs ls a b d f) (fun q => kf q H locs ls a b d f)
theorem mj_if_ne (X : mm_X p s m args c cc own Ts nL D tys t1 t2 A) {x : Int32} {off : Int} {tgt : Nat} (hdg : decode cc pc = .ok (.ifCond .ne off, 3)) (ht : (pc : Int) + off = (tgt : Int)) (kt : ¬ x = 0 → mm_J p l e R s m args below meth c cells slots Q D w A nL h tgt lo st) (kf : x = 0 → mm_J p l e R s m args below meth c cells slots Q D w A nL h (pc + 3) lo st) : mm_J p l e R s m args below meth c cells slots Q D w A nL h pc lo (.int x :: st) :=
  fun H locs ls a b d f => lv_if_ne X.1 X.2.1 hdg ht (fun q => kt q H locs ls a b d f) (fun q => kf q H locs ls a b d f)
theorem mj_if_lt (X : mm_X p s m args c cc own Ts nL D tys t1 t2 A) {x : Int32} {off : Int} {tgt : Nat} (hdg : decode cc pc = .ok (.ifCond .lt off, 3)) (ht : (pc : Int) + off = (tgt : Int)) (kt : x < 0 → mm_J p l e R s m args below meth c cells slots Q D w A nL h tgt lo st) (kf : ¬ x < 0 → mm_J p l e R s m args below meth c cells slots Q D w A nL h (pc + 3) lo st) : mm_J p l e R s m args below meth c cells slots Q D w A nL h pc lo (.int x :: st) :=
  fun H locs ls a b d f => lv_if_lt X.1 X.2.1 hdg ht (fun q => kt q H locs ls a b d f) (fun q => kf q H locs ls a b d f)
theorem mj_if_ge (X : mm_X p s m args c cc own Ts nL D tys t1 t2 A) {x : Int32} {off : Int} {tgt : Nat} (hdg : decode cc pc = .ok (.ifCond .ge off, 3)) (ht : (pc : Int) + off = (tgt : Int)) (kt : 0 ≤ x → mm_J p l e R s m args below meth c cells slots Q D w A nL h tgt lo st) (kf : ¬ 0 ≤ x → mm_J p l e R s m args below meth c cells slots Q D w A nL h (pc + 3) lo st) : mm_J p l e R s m args below meth c cells slots Q D w A nL h pc lo (.int x :: st) :=
  fun H locs ls a b d f => lv_if_ge X.1 X.2.1 hdg ht (fun q => kt q H locs ls a b d f) (fun q => kf q H locs ls a b d f)
theorem mj_if_gt (X : mm_X p s m args c cc own Ts nL D tys t1 t2 A) {x : Int32} {off : Int} {tgt : Nat} (hdg : decode cc pc = .ok (.ifCond .gt off, 3)) (ht : (pc : Int) + off = (tgt : Int)) (kt : 0 < x → mm_J p l e R s m args below meth c cells slots Q D w A nL h tgt lo st) (kf : ¬ 0 < x → mm_J p l e R s m args below meth c cells slots Q D w A nL h (pc + 3) lo st) : mm_J p l e R s m args below meth c cells slots Q D w A nL h pc lo (.int x :: st) :=
  fun H locs ls a b d f => lv_if_gt X.1 X.2.1 hdg ht (fun q => kt q H locs ls a b d f) (fun q => kf q H locs ls a b d f)
theorem mj_if_le (X : mm_X p s m args c cc own Ts nL D tys t1 t2 A) {x : Int32} {off : Int} {tgt : Nat} (hdg : decode cc pc = .ok (.ifCond .le off, 3)) (ht : (pc : Int) + off = (tgt : Int)) (kt : x ≤ 0 → mm_J p l e R s m args below meth c cells slots Q D w A nL h tgt lo st) (kf : ¬ x ≤ 0 → mm_J p l e R s m args below meth c cells slots Q D w A nL h (pc + 3) lo st) : mm_J p l e R s m args below meth c cells slots Q D w A nL h pc lo (.int x :: st) :=
  fun H locs ls a b d f => lv_if_le X.1 X.2.1 hdg ht (fun q => kt q H locs ls a b d f) (fun q => kf q H locs ls a b d f)
theorem mj_icmp_eq (X : mm_X p s m args c cc own Ts nL D tys t1 t2 A) {x y : Int32} {off : Int} {tgt : Nat} (hdg : decode cc pc = .ok (.if_icmp .eq off, 3)) (ht : (pc : Int) + off = (tgt : Int)) (kt : x = y → mm_J p l e R s m args below meth c cells slots Q D w A nL h tgt lo st) (kf : ¬ x = y → mm_J p l e R s m args below meth c cells slots Q D w A nL h (pc + 3) lo st) : mm_J p l e R s m args below meth c cells slots Q D w A nL h pc lo (.int y :: .int x :: st) :=
  fun H locs ls a b d f => lv_icmp_eq X.1 X.2.1 hdg ht (fun q => kt q H locs ls a b d f) (fun q => kf q H locs ls a b d f)
theorem mj_icmp_ne (X : mm_X p s m args c cc own Ts nL D tys t1 t2 A) {x y : Int32} {off : Int} {tgt : Nat} (hdg : decode cc pc = .ok (.if_icmp .ne off, 3)) (ht : (pc : Int) + off = (tgt : Int)) (kt : ¬ x = y → mm_J p l e R s m args below meth c cells slots Q D w A nL h tgt lo st) (kf : x = y → mm_J p l e R s m args below meth c cells slots Q D w A nL h (pc + 3) lo st) : mm_J p l e R s m args below meth c cells slots Q D w A nL h pc lo (.int y :: .int x :: st) :=
  fun H locs ls a b d f => lv_icmp_ne X.1 X.2.1 hdg ht (fun q => kt q H locs ls a b d f) (fun q => kf q H locs ls a b d f)
theorem mj_icmp_lt (X : mm_X p s m args c cc own Ts nL D tys t1 t2 A) {x y : Int32} {off : Int} {tgt : Nat} (hdg : decode cc pc = .ok (.if_icmp .lt off, 3)) (ht : (pc : Int) + off = (tgt : Int)) (kt : x < y → mm_J p l e R s m args below meth c cells slots Q D w A nL h tgt lo st) (kf : ¬ x < y → mm_J p l e R s m args below meth c cells slots Q D w A nL h (pc + 3) lo st) : mm_J p l e R s m args below meth c cells slots Q D w A nL h pc lo (.int y :: .int x :: st) :=
  fun H locs ls a b d f => lv_icmp_lt X.1 X.2.1 hdg ht (fun q => kt q H locs ls a b d f) (fun q => kf q H locs ls a b d f)
theorem mj_icmp_ge (X : mm_X p s m args c cc own Ts nL D tys t1 t2 A) {x y : Int32} {off : Int} {tgt : Nat} (hdg : decode cc pc = .ok (.if_icmp .ge off, 3)) (ht : (pc : Int) + off = (tgt : Int)) (kt : y ≤ x → mm_J p l e R s m args below meth c cells slots Q D w A nL h tgt lo st) (kf : ¬ y ≤ x → mm_J p l e R s m args below meth c cells slots Q D w A nL h (pc + 3) lo st) : mm_J p l e R s m args below meth c cells slots Q D w A nL h pc lo (.int y :: .int x :: st) :=
  fun H locs ls a b d f => lv_icmp_ge X.1 X.2.1 hdg ht (fun q => kt q H locs ls a b d f) (fun q => kf q H locs ls a b d f)
theorem mj_icmp_gt (X : mm_X p s m args c cc own Ts nL D tys t1 t2 A) {x y : Int32} {off : Int} {tgt : Nat} (hdg : decode cc pc = .ok (.if_icmp .gt off, 3)) (ht : (pc : Int) + off = (tgt : Int)) (kt : y < x → mm_J p l e R s m args below meth c cells slots Q D w A nL h tgt lo st) (kf : ¬ y < x → mm_J p l e R s m args below meth c cells slots Q D w A nL h (pc + 3) lo st) : mm_J p l e R s m args below meth c cells slots Q D w A nL h pc lo (.int y :: .int x :: st) :=
  fun H locs ls a b d f => lv_icmp_gt X.1 X.2.1 hdg ht (fun q => kt q H locs ls a b d f) (fun q => kf q H locs ls a b d f)
theorem mj_icmp_le (X : mm_X p s m args c cc own Ts nL D tys t1 t2 A) {x y : Int32} {off : Int} {tgt : Nat} (hdg : decode cc pc = .ok (.if_icmp .le off, 3)) (ht : (pc : Int) + off = (tgt : Int)) (kt : x ≤ y → mm_J p l e R s m args below meth c cells slots Q D w A nL h tgt lo st) (kf : ¬ x ≤ y → mm_J p l e R s m args below meth c cells slots Q D w A nL h (pc + 3) lo st) : mm_J p l e R s m args below meth c cells slots Q D w A nL h pc lo (.int y :: .int x :: st) :=
  fun H locs ls a b d f => lv_icmp_le X.1 X.2.1 hdg ht (fun q => kt q H locs ls a b d f) (fun q => kf q H locs ls a b d f)
theorem mj_goto (X : mm_X p s m args c cc own Ts nL D tys t1 t2 A) {off : Int} {tgt : Nat} (hdg : decode cc pc = .ok (.goto off, 3)) (ht : (pc : Int) + off = (tgt : Int)) (K : mm_J p l e R s m args below meth c cells slots Q D w A nL h tgt lo st) : mm_J p l e R s m args below meth c cells slots Q D w A nL h pc lo st :=
  fun H locs ls a b d f => lv_goto X.1 X.2.1 hdg ht (K H locs ls a b d f)
theorem mj_tableIn (X : mm_X p s m args c cc own Ts nL D tys t1 t2 A) {dflt lo0 hi : Int} {offs : Array Int} {len : Nat} {x : Int32} {off : Int} {tgt : Nat} (hdg : decode cc pc = .ok (.tableswitch dflt lo0 hi offs, len)) (h1 : ¬ x.toInt < lo0) (h2 : ¬ hi < x.toInt) (ho : offs[(x.toInt - lo0).toNat]? = some off) (ht : (pc : Int) + off = (tgt : Int)) (K : mm_J p l e R s m args below meth c cells slots Q D w A nL h tgt lo st) : mm_J p l e R s m args below meth c cells slots Q D w A nL h pc lo (.int x :: st) :=
  fun H locs ls a b d f => lv_tableIn X.1 X.2.1 hdg h1 h2 ho ht (K H locs ls a b d f)
theorem mj_tableOut (X : mm_X p s m args c cc own Ts nL D tys t1 t2 A) {dflt lo0 hi : Int} {offs : Array Int} {len : Nat} {x : Int32} {tgt : Nat} (hdg : decode cc pc = .ok (.tableswitch dflt lo0 hi offs, len)) (h1 : x.toInt < lo0 ∨ hi < x.toInt) (ht : (pc : Int) + dflt = (tgt : Int)) (K : mm_J p l e R s m args below meth c cells slots Q D w A nL h tgt lo st) : mm_J p l e R s m args below meth c cells slots Q D w A nL h pc lo (.int x :: st) :=
  fun H locs ls a b d f => lv_tableOut X.1 X.2.1 hdg h1 ht (K H locs ls a b d f)
theorem mj_get (X : mm_X p s m args c cc own Ts nL D tys t1 t2 A) {ref C : String} {T : u_T} {N ci index : Nat} {fs : List Value} {a q0 : Nat} {v : Value} (hin : ∀ w ∈ u_ws C T N, w ∈ Ts) (he : (w h)[q0]? = some (a, .inr (ci, fs))) (hc : vwCl[ci]? = some (C, T, N)) (k : Nat) (hk : k < N) (href : (T k).1 = ref) (hlink : Cond.fieldLink own index ref (T k).2.1 (T k).2.2.1 ∈ Ts) (hv : fs[k]? = some v) (hdg : decode cc pc = .ok (.getfield index, 3)) (K : mm_J p l e R s m args below meth c cells slots Q D w A nL h (pc + 3) lo (v :: st)) : mm_J p l e R s m args below meth c cells slots Q D w A nL h pc lo (.ref a :: st) := by
  subst href
  exact fun H locs ls aa b d f => va_get X.1 X.2.1 X.2.2.2.2.1 hin X.2.2.2.1 X.2.2.2.2.2.1 aa q0 he hc k hk (X.2.2.2.2.1 _ hlink) (fun _ h9 => h9) hv hdg (K H locs ls aa b d f)
theorem mj_put (X : mm_X p s m args c cc own Ts nL D tys t1 t2 A) {ref C : String} {T : u_T} {N ci index : Nat} {fs : List Value} {a q0 : Nat} {v : Value} {ty0 : Nat → FieldType} (hty : ∀ k, k < N → parseFieldDescriptor (T k).2.2.1 = some (ty0 k)) (hnm : ∀ a, a < N → ∀ b, b < N → a ≠ b → (T a).2.1 ≠ (T b).2.1) (hin : ∀ w ∈ u_ws C T N, w ∈ Ts) (he : (w h)[q0]? = some (a, .inr (ci, fs))) (hc : vwCl[ci]? = some (C, T, N)) (k : Nat) (hk : k < N) (href : (T k).1 = ref) (hlink : Cond.fieldLink own index ref (T k).2.1 (T k).2.2.1 ∈ Ts) (hfin : (T k).2.2.2 = false) {ty : FieldType} (hd : parseFieldDescriptor (T k).2.2.1 = some ty) (hn : narrow ty v = v) (hfit : fits ty v = true) (hl : k < fs.length) {h2 : M} (hset : (w h).set q0 (a, .inr (ci, fs.set k v)) = w h2) (hdg : decode cc pc = .ok (.putfield index, 3)) (K : mm_J p l e R s m args below meth c cells slots Q D w A nL h2 (pc + 3) lo st) : mm_J p l e R s m args below meth c cells slots Q D w A nL h pc lo (v :: .ref a :: st) := by
  subst href
  exact fun H locs ls aa b d f => va_put X.1 X.2.1 X.2.2.2.2.1 hin ty0 hty hnm X.2.2.2.1 X.2.2.2.2.2.1 aa b d q0 he hc k hk (X.2.2.2.2.1 _ hlink) (fun _ h9 => h9) hfin hd hn hfit hl hdg (fun H1 locs1 p1 d1 s1 => K H1 locs1 ls (hset ▸ p1) (hset ▸ d1) s1 f)
theorem mj_iald (X : mm_X p s m args c cc own Ts nL D tys t1 t2 A) {a q0 : Nat} (t0 : Nat) {cA : ClassId} {n : Nat} {g : Nat → Int32} (he : (w h)[q0]? = some (a, .inl (cA, n, .inl g))) (ht : tys[t0]? = some (cA, .int)) {i : Int32} (hin : mm_gd i n = true) (hdg : decode cc pc = .ok (.iaload, 1)) (K : mm_J p l e R s m args below meth c cells slots Q D w A nL h (pc + 1) lo (.int (g i.toNatClampNeg) :: st)) : mm_J p l e R s m args below meth c cells slots Q D w A nL h pc lo (.int i :: .ref a :: st) :=
  fun H locs ls aa b d f => va_iald X.1 X.2.1 X.2.2.2.2.2.1 aa q0 t0 he ht (mm_gd_in hin) hdg (K H locs ls aa b d f)
theorem mj_zald (X : mm_X p s m args c cc own Ts nL D tys t1 t2 A) {a q0 : Nat} (t0 : Nat) {cA : ClassId} {n : Nat} {g : Nat → Int32} (he : (w h)[q0]? = some (a, .inl (cA, n, .inl g))) (ht : tys[t0]? = some (cA, .boolean)) {i : Int32} (hin : mm_gd i n = true) (hdg : decode cc pc = .ok (.baload, 1)) (K : mm_J p l e R s m args below meth c cells slots Q D w A nL h (pc + 1) lo (.int (g i.toNatClampNeg) :: st)) : mm_J p l e R s m args below meth c cells slots Q D w A nL h pc lo (.int i :: .ref a :: st) :=
  fun H locs ls aa b d f => va_zald X.1 X.2.1 X.2.2.2.2.2.1 aa q0 t0 he ht (mm_gd_in hin) hdg (K H locs ls aa b d f)
theorem mj_aald (X : mm_X p s m args c cc own Ts nL D tys t1 t2 A) {a q0 : Nat} (t0 : Nat) {cA : ClassId} {C : String} {n : Nat} {g : Nat → Option Nat} (he : (w h)[q0]? = some (a, .inl (cA, n, .inr (.inr (.inr (.inr g)))))) (ht : tys[t0]? = some (cA, .object C)) {i : Int32} (hin : mm_gd i n = true) (hdg : decode cc pc = .ok (.aaload, 1)) {b : Nat} (hg : g i.toNatClampNeg = some b) (K : mm_J p l e R s m args below meth c cells slots Q D w A nL h (pc + 1) lo (.ref b :: st)) : mm_J p l e R s m args below meth c cells slots Q D w A nL h pc lo (.int i :: .ref a :: st) :=
  fun H locs ls aa b d f => va_aldq X.1 X.2.1 X.2.2.2.2.2.1 aa q0 t0 he ht (mm_gd_in hin) hdg (by rw [hg]; exact K H locs ls aa b d f)
theorem mj_iast (X : mm_X p s m args c cc own Ts nL D tys t1 t2 A) {a q0 : Nat} (t0 : Nat) {cA : ClassId} {n : Nat} {g : Nat → Int32} (he : (w h)[q0]? = some (a, .inl (cA, n, .inl g))) (ht : tys[t0]? = some (cA, .int)) {i x : Int32} (hin : mm_gd i n = true) {h2 : M} (hset : (w h).set q0 (a, .inl (cA, n, .inl (upd g i.toNatClampNeg x))) = w h2) (hdg : decode cc pc = .ok (.iastore, 1)) (K : mm_J p l e R s m args below meth c cells slots Q D w A nL h2 (pc + 1) lo st) : mm_J p l e R s m args below meth c cells slots Q D w A nL h pc lo (.int x :: .int i :: .ref a :: st) :=
  fun H locs ls aa b d f => va_iast X.1 X.2.1 X.2.2.2.2.2.1 aa b d q0 t0 he ht (mm_gd_in hin) hdg (fun H1 locs1 p1 d1 s1 => K H1 locs1 ls (hset ▸ p1) (hset ▸ d1) s1 f)
theorem mj_zast (X : mm_X p s m args c cc own Ts nL D tys t1 t2 A) {a q0 : Nat} (t0 : Nat) {cA : ClassId} {n : Nat} {g : Nat → Int32} (he : (w h)[q0]? = some (a, .inl (cA, n, .inl g))) (ht : tys[t0]? = some (cA, .boolean)) {i x : Int32} (hin : mm_gd i n = true) {h2 : M} (hx : vp_nar .boolean x = x) (hset : (w h).set q0 (a, .inl (cA, n, .inl (upd g i.toNatClampNeg x))) = w h2) (hdg : decode cc pc = .ok (.bastore, 1)) (K : mm_J p l e R s m args below meth c cells slots Q D w A nL h2 (pc + 1) lo st) : mm_J p l e R s m args below meth c cells slots Q D w A nL h pc lo (.int x :: .int i :: .ref a :: st) :=
  fun H locs ls aa b d f => va_zast X.1 X.2.1 X.2.2.2.2.2.1 aa b d q0 t0 he ht (mm_gd_in hin) hdg (fun H1 locs1 p1 d1 s1 => K H1 locs1 ls (hset ▸ (hx ▸ p1)) (hset ▸ (hx ▸ d1)) s1 f)
theorem mj_alen (X : mm_X p s m args c cc own Ts nL D tys t1 t2 A) {a q0 : Nat} (t0 : Nat) {cA : ClassId} {x : vp_A} {ty : FieldType} (he : (w h)[q0]? = some (a, .inl (cA, x))) (ht : tys[t0]? = some (cA, ty)) {v : Int32} (hv : Int32.ofNat x.1 = v) (hdg : decode cc pc = .ok (.arraylength, 1)) (K : mm_J p l e R s m args below meth c cells slots Q D w A nL h (pc + 1) lo (.int v :: st)) : mm_J p l e R s m args below meth c cells slots Q D w A nL h pc lo (.ref a :: st) :=
  fun H locs ls aa b d f => va_alen X.1 X.2.1 X.2.2.2.2.2.1 aa q0 t0 he ht hv hdg (K H locs ls aa b d f)
theorem mj_gets1 (X : mm_X p s m args c cc own Ts nL D tys t1 t2 A) {index : Nat} (hlink : Cond.fieldLink own index "RichestPays$Partings" "WAYS" "[I" ∈ Ts) (hdg : decode cc pc = .ok (.getstatic index, 3)) (K : mm_J p l e R s m args below meth c cells slots Q D w A nL h (pc + 3) lo (.ref t1 :: st)) : mm_J p l e R s m args below meth c cells slots Q D w A nL h pc lo st :=
  fun H locs ls aa b d f => va_gets X.1 X.2.1 X.2.2.2.2.2.2.1.1.1 d X.2.2.2.1 (X.2.2.2.2.1 _ hlink) (fun _ h9 => h9) hdg (K H locs ls aa b d f)
theorem mj_gets2 (X : mm_X p s m args c cc own Ts nL D tys t1 t2 A) {index : Nat} (hlink : Cond.fieldLink own index "RichestPays$Partings" "TABLES_BY_WAY" "[I" ∈ Ts) (hdg : decode cc pc = .ok (.getstatic index, 3)) (K : mm_J p l e R s m args below meth c cells slots Q D w A nL h (pc + 3) lo (.ref t2 :: st)) : mm_J p l e R s m args below meth c cells slots Q D w A nL h pc lo st :=
  fun H locs ls aa b d f => va_gets X.1 X.2.1 X.2.2.2.2.2.2.1.2.1.1 d X.2.2.2.1 (X.2.2.2.2.1 _ hlink) (fun _ h9 => h9) hdg (K H locs ls aa b d f)
theorem mj_ti1 (X : mm_X p s m args c cc own Ts nL D tys t1 t2 A) {i : Int32} (hin : mm_gd i 5 = true) (hdg : decode cc pc = .ok (.iaload, 1)) (K : mm_J p l e R s m args below meth c cells slots Q D w A nL h (pc + 1) lo (.int (mm_ways i.toNatClampNeg) :: st)) : mm_J p l e R s m args below meth c cells slots Q D w A nL h pc lo (.int i :: .ref t1 :: st) :=
  fun H locs ls aa b d f => va_ti X.1 X.2.1 X.2.2.2.2.2.2.1.1.2 d (mm_gd_in hin) rfl hdg (K H locs ls aa b d f)
theorem mj_ti2 (X : mm_X p s m args c cc own Ts nL D tys t1 t2 A) {i : Int32} (hin : mm_gd i 60 = true) (hdg : decode cc pc = .ok (.iaload, 1)) (K : mm_J p l e R s m args below meth c cells slots Q D w A nL h (pc + 1) lo (.int (mm_tbw i.toNatClampNeg) :: st)) : mm_J p l e R s m args below meth c cells slots Q D w A nL h pc lo (.int i :: .ref t2 :: st) :=
  fun H locs ls aa b d f => va_ti X.1 X.2.1 X.2.2.2.2.2.2.1.2.1.2 d (mm_gd_in hin) rfl hdg (K H locs ls aa b d f)
theorem mj_min (X : mm_X p s m args c cc own Ts nL D tys t1 t2 A) {index : Nat} (hlink : Cond.methodLink own index Lib.Math.min.name ∈ Ts) (hstat : Cond.static Lib.Math.min.name ∈ Ts) (hini : Cond.initialized "java/lang/Math" ∈ Ts) (hcode : Cond.code Lib.Math.min.name Lib.Math.min.code 2 (some .int) ∈ Ts) (hframes : 1 ≤ R.frames) (hlocals : (st.map fun v => v.category).sum + 13 ≤ R.locals) (hf : cells ≤ R.cells ∧ slots ≤ R.slots) {x y : Int32} (hdg : decode cc pc = .ok (.invokestatic index, 3)) (K : mm_J p l e R s m args below meth c cells slots Q D w A nL h (pc + 3) lo (.int (if y < x then y else x) :: st)) : mm_J p l e R s m args below meth c cells slots Q D w A nL h pc lo (.int y :: .int x :: st) :=
  fun H locs ls aa b d f => va_mmin X.1 X.2.1 (X.2.2.1.trans f.1.symm) X.2.2.2.1 (X.2.2.2.2.1 _ hlink) (X.2.2.2.2.1 _ hstat) (X.2.2.2.2.1 _ hini) (X.2.2.2.2.1 _ hcode) hframes hlocals hf.1 hf.2 hdg (K H locs ls aa b d f)
theorem mj_max (X : mm_X p s m args c cc own Ts nL D tys t1 t2 A) {index : Nat} (hlink : Cond.methodLink own index Lib.Math.max.name ∈ Ts) (hstat : Cond.static Lib.Math.max.name ∈ Ts) (hini : Cond.initialized "java/lang/Math" ∈ Ts) (hcode : Cond.code Lib.Math.max.name Lib.Math.max.code 2 (some .int) ∈ Ts) (hframes : 1 ≤ R.frames) (hlocals : (st.map fun v => v.category).sum + 13 ≤ R.locals) (hf : cells ≤ R.cells ∧ slots ≤ R.slots) {x y : Int32} (hdg : decode cc pc = .ok (.invokestatic index, 3)) (K : mm_J p l e R s m args below meth c cells slots Q D w A nL h (pc + 3) lo (.int (if x < y then y else x) :: st)) : mm_J p l e R s m args below meth c cells slots Q D w A nL h pc lo (.int y :: .int x :: st) :=
  fun H locs ls aa b d f => va_mmax X.1 X.2.1 (X.2.2.1.trans f.1.symm) X.2.2.2.1 (X.2.2.2.2.1 _ hlink) (X.2.2.2.2.1 _ hstat) (X.2.2.2.2.1 _ hini) (X.2.2.2.2.1 _ hcode) hframes hlocals hf.1 hf.2 hdg (K H locs ls aa b d f)
theorem mj_copy (X : mm_X p s m args c cc own Ts nL D tys t1 t2 A) {index : Nat} (hlink : Cond.methodLink own index arraycopyName ∈ Ts) (hnat : Cond.native arraycopyName ∈ Ts) (hstat : Cond.static arraycopyName ∈ Ts) (hini : Cond.initialized "java/lang/System" ∈ Ts) {q0 q1 a0 a1 : Nat} (t0 : Nat) {cA : ClassId} {n0 n1 : Nat} {f g : Nat → Int32} (he0 : (w h)[q0]? = some (a0, .inl (cA, n0, .inl f))) (he1 : (w h)[q1]? = some (a1, .inl (cA, n1, .inl g))) (ht : tys[t0]? = some (cA, .int)) {sp dp n : Int32} (h1 : ¬ sp < 0) (h2 : ¬ dp < 0) (h3 : ¬ n < 0) (h4 : sp.toNatClampNeg + n.toNatClampNeg ≤ n0) (h5 : dp.toNatClampNeg + n.toNatClampNeg ≤ n1) (hframes : 1 ≤ R.frames) (hlocals : (st.map fun v => v.category).sum + (nativeFrameWords "java/lang/System" "arraycopy" 5 + 11) ≤ R.locals) {hh : M} (hset : (w h).set q1 (a1, .inl (cA, n1, .inl (va_cpy f g sp.toNatClampNeg dp.toNatClampNeg n.toNatClampNeg))) = w hh) (hdg : decode cc pc = .ok (.invokestatic index, 3)) (K : mm_J p l e R s m args below meth c cells slots Q D w A nL hh (pc + 3) lo st) : mm_J p l e R s m args below meth c cells slots Q D w A nL h pc lo (.int n :: .int dp :: .ref a1 :: .int sp :: .ref a0 :: st) :=
  fun H locs ls aa b d fl => va_copyi X.1 X.2.1 (X.2.2.1.trans fl.1.symm) X.2.2.2.1 (X.2.2.2.2.1 _ hlink) (X.2.2.2.2.1 _ hnat) (X.2.2.2.2.1 _ hstat) (X.2.2.2.2.1 _ hini) X.2.2.2.2.2.1 aa b d q0 q1 t0 t0 he0 he1 ht ht rfl h1 h2 h3 h4 h5 (fun _ _ => rfl) hframes hlocals hdg (fun H1 locs1 p1 d1 s1 => K H1 locs1 ls (hset ▸ p1) (hset ▸ d1) s1 fl)
end MMRows
/-! contracts over the memory -/
def mm_Pre {M : Type} (D : va_G) (tys : List (ClassId × FieldType)) (t1 t2 : Nat) (w : M → va_W) (h : M) (sz : Nat) (U : State) : Prop :=
  U.heap.size = sz ∧ va_P D vwCl (w h) U.heap ∧ va_K D vwCl tys U ∧ va_D (fun _ => True) (w h) ∧ mm_Z t1 t2 (va_A (w h) sz) U U.heap
def mm_Post {M : Type} (D : va_G) (w : M → va_W) (A : Nat → Prop) (u : M) (t : State) : Prop := va_P D vwCl (w u) t.heap ∧ va_D A (w u)
def mm_Ki {M : Type} (l : Launch) (y : MethodName) (ws : List Cond) (rm : Room) (D : va_G) (tys : List (ClassId × FieldType)) (t1 t2 : Nat) (w : M → va_W) (as : List Value) (h : M) (r : Int32) (h1 : M) : Prop :=
  ∀ sz : Nat, Met l y ws rm (va_Pc as (mm_Pre D tys t1 t2 w h sz)) (va_Qi (fun (r' : Int32) (u : M) => r' = r ∧ u = h1) (mm_Post D w (va_A (w h) sz)) (va_A (w h) sz)) 0 0 (va_A (w h) sz)
def mm_Kl {M : Type} (l : Launch) (y : MethodName) (ws : List Cond) (rm : Room) (D : va_G) (tys : List (ClassId × FieldType)) (t1 t2 : Nat) (w : M → va_W) (as : List Value) (h : M) (r : Int64) (h1 : M) : Prop :=
  ∀ sz : Nat, Met l y ws rm (va_Pc as (mm_Pre D tys t1 t2 w h sz)) (va_Ql (fun (r' : Int64) (u : M) => r' = r ∧ u = h1) (mm_Post D w (va_A (w h) sz)) (va_A (w h) sz)) 0 0 (va_A (w h) sz)
def mm_Kv {M : Type} (l : Launch) (y : MethodName) (ws : List Cond) (rm : Room) (D : va_G) (tys : List (ClassId × FieldType)) (t1 t2 : Nat) (w : M → va_W) (as : List Value) (h : M) (h1 : M) : Prop :=
  ∀ sz : Nat, Met l y ws rm (va_Pc as (mm_Pre D tys t1 t2 w h sz)) (va_Qv (fun (u : M) => u = h1) (mm_Post D w (va_A (w h) sz)) (va_A (w h) sz)) 0 0 (va_A (w h) sz)
def mm_Kr {M : Type} (l : Launch) (y : MethodName) (ws : List Cond) (rm : Room) (D : va_G) (tys : List (ClassId × FieldType)) (t1 t2 : Nat) (w : M → va_W) (as : List Value) (h : M) (r : Nat) (h1 : M) : Prop :=
  ∀ sz : Nat, Met l y ws rm (va_Pc as (mm_Pre D tys t1 t2 w h sz)) (va_Qr (fun (u : M) => u = h1) (fun u a t => a = r ∧ mm_Post D w (va_A (w h) sz) u t) (va_A (w h) sz)) 0 0 (va_A (w h) sz)
theorem mm_blind {M : Type} {D : va_G} {tys : List (ClassId × FieldType)} {t1 t2 : Nat} {w : M → va_W} {as : List Value} {h : M} {sz : Nat} : FrameBlind (va_Pc as (mm_Pre D tys t1 t2 w h sz)) := by
  intro a U g mk q
  obtain ⟨q0, q1, qP, qK, qD, qZ⟩ := q
  exact ⟨q0, q1, qP, va_K.moved (u := U) (U := U.calling g mk a) (Vm.Alike.refl U.vm) qK, qD, mm_Z.same (u := U) (U := U.calling g mk a) rfl (Vm.Alike.refl U.vm) qZ⟩
section MMCalls
variable {M : Type} {p : Program} {l : Launch} {e : Env} {R : Room} {s : State} {m : MethodId} {args : Array Value} {below : List Frame} {meth : Method} {c : Code} {cells slots : Nat} {Q : State → Prop} {D : va_G} {w : M → va_W} {A : Nat → Prop} {nL : Nat} {h : M} {pc : Nat} {lo lo' : List (Nat × Value)} {st : List Value}
  {cc : ByteArray} {own : String} {Ts : List Cond} {tys : List (ClassId × FieldType)} {t1 t2 : Nat}
  {H : Heap} {locs : List Loc} {ls : Array Slot} {as : List Value}
theorem mm_sub (X : mm_X p s m args c cc own Ts nL D tys t1 t2 A) (b : va_D A (w h)) (d : va_S A s.heap H locs) : ∀ q, va_A (w h) H.size q → A q := by
  intro q hq
  rcases hq with ⟨k, e, hk⟩ | hq
  · exact b.2 k (q, e) hk
  · exact X.2.2.2.2.2.2.2 q (Nat.le_trans d.1 hq)
theorem mm_pre (X : mm_X p s m args c cc own Ts nL D tys t1 t2 A) (a : va_P D vwCl (w h) H) (b : va_D A (w h)) (d : va_S A s.heap H locs) : ∀ U : State, U.heap = H → s.WarmedH U.vm → va_Pc as (mm_Pre D tys t1 t2 w h H.size) as.toArray U := by
  intro U hU hW
  refine ⟨rfl, by rw [hU], by rw [hU]; exact a, va_K.moved hW.alike X.2.2.2.2.2.1, b.weaken (fun _ _ _ _ => trivial), ?_⟩
  rw [hU]
  exact ((X.2.2.2.2.2.2.1.kept (H1 := H) (fun q h1 h2 => d.2.1 q h1 h2)).narrow (mm_sub X b d)).warm hW
theorem mj_callVi (X : mm_X p s m args c cc own Ts nL D tys t1 t2 A) {y : MethodName} {ws : List Cond} {rm : Room} {b : Nat} {As rest : List Value} {r : Int32} {h1 : M} {C : String} {index maxL n : Nat} {bytes : ByteArray} {ret : Option FieldType} (hM : mm_Ki l y ws rm D tys t1 t2 w (.ref b :: As) h r h1) (cw : CallW R s args own C index y bytes maxL ret ws rm 0 0 n) {q0 ci : Nat} {q : vw_C} {fs : List Value} (he : (w h)[q0]? = some (b, .inr (ci, fs))) (hc : vwCl[ci]? = some q) (hC : q.1 = C) (hn : As.length = n) (hstack : st = As.reverse ++ .ref b :: rest) (hW : (rest.map fun v => v.category).sum ≤ 8) (hf : cells ≤ R.cells ∧ slots ≤ R.slots) (hdg : decode cc pc = .ok (.invokevirtual index, 3)) (K : mm_J p l e R s m args below meth c cells slots Q D w A nL h1 (pc + 3) lo (.int r :: rest)) : mm_J p l e R s m args below meth c cells slots Q D w A nL h pc lo st := by
  subst hC
  subst hstack
  intro H locs ls a bb d f
  refine va_calli (va_runV (As := As) (rest := rest) ⟨X.1, X.2.1, X.2.2.1, X.2.2.2.1, X.2.2.2.2.1⟩ (hM H.size) cw ⟨mm_blind, va_recv X.2.2.2.2.2.1 a hc he, mm_pre X a bb d⟩ rfl hn f.1 rfl (lv_room hW) hdg hf) d (fun q _ hq => mm_sub X bb d q hq) (mm_sub X bb d) (fun r' u t H1 locs1 ht hvm hp hB hz hk hS => ?_)
  obtain ⟨rfl, rfl⟩ := hp
  obtain ⟨hP1, hD1⟩ := hB
  rw [ht] at hP1
  exact K H1 locs1 ls hP1 (hD1.weaken (fun _ _ _ hq => mm_sub X bb d _ hq)) hS f
theorem mj_callVl (X : mm_X p s m args c cc own Ts nL D tys t1 t2 A) {y : MethodName} {ws : List Cond} {rm : Room} {b : Nat} {As rest : List Value} {r : Int64} {h1 : M} {C : String} {index maxL n : Nat} {bytes : ByteArray} {ret : Option FieldType} (hM : mm_Kl l y ws rm D tys t1 t2 w (.ref b :: As) h r h1) (cw : CallW R s args own C index y bytes maxL ret ws rm 0 0 n) {q0 ci : Nat} {q : vw_C} {fs : List Value} (he : (w h)[q0]? = some (b, .inr (ci, fs))) (hc : vwCl[ci]? = some q) (hC : q.1 = C) (hn : As.length = n) (hstack : st = As.reverse ++ .ref b :: rest) (hW : (rest.map fun v => v.category).sum ≤ 8) (hf : cells ≤ R.cells ∧ slots ≤ R.slots) (hdg : decode cc pc = .ok (.invokevirtual index, 3)) (K : mm_J p l e R s m args below meth c cells slots Q D w A nL h1 (pc + 3) lo (.long r :: rest)) : mm_J p l e R s m args below meth c cells slots Q D w A nL h pc lo st := by
  subst hC
  subst hstack
  intro H locs ls a bb d f
  refine va_calll (va_runV (As := As) (rest := rest) ⟨X.1, X.2.1, X.2.2.1, X.2.2.2.1, X.2.2.2.2.1⟩ (hM H.size) cw ⟨mm_blind, va_recv X.2.2.2.2.2.1 a hc he, mm_pre X a bb d⟩ rfl hn f.1 rfl (lv_room hW) hdg hf) d (fun q _ hq => mm_sub X bb d q hq) (mm_sub X bb d) (fun r' u t H1 locs1 ht hvm hp hB hz hk hS => ?_)
  obtain ⟨rfl, rfl⟩ := hp
  obtain ⟨hP1, hD1⟩ := hB
  rw [ht] at hP1
  exact K H1 locs1 ls hP1 (hD1.weaken (fun _ _ _ hq => mm_sub X bb d _ hq)) hS f
theorem mj_callVv (X : mm_X p s m args c cc own Ts nL D tys t1 t2 A) {y : MethodName} {ws : List Cond} {rm : Room} {b : Nat} {As rest : List Value} {h1 : M} {C : String} {index maxL n : Nat} {bytes : ByteArray} {ret : Option FieldType} (hM : mm_Kv l y ws rm D tys t1 t2 w (.ref b :: As) h h1) (cw : CallW R s args own C index y bytes maxL ret ws rm 0 0 n) {q0 ci : Nat} {q : vw_C} {fs : List Value} (he : (w h)[q0]? = some (b, .inr (ci, fs))) (hc : vwCl[ci]? = some q) (hC : q.1 = C) (hn : As.length = n) (hstack : st = As.reverse ++ .ref b :: rest) (hW : (rest.map fun v => v.category).sum ≤ 8) (hf : cells ≤ R.cells ∧ slots ≤ R.slots) (hdg : decode cc pc = .ok (.invokevirtual index, 3)) (K : mm_J p l e R s m args below meth c cells slots Q D w A nL h1 (pc + 3) lo rest) : mm_J p l e R s m args below meth c cells slots Q D w A nL h pc lo st := by
  subst hC
  subst hstack
  intro H locs ls a bb d f
  refine va_callv (va_runV (As := As) (rest := rest) ⟨X.1, X.2.1, X.2.2.1, X.2.2.2.1, X.2.2.2.2.1⟩ (hM H.size) cw ⟨mm_blind, va_recv X.2.2.2.2.2.1 a hc he, mm_pre X a bb d⟩ rfl hn f.1 rfl (lv_room hW) hdg hf) d (fun q _ hq => mm_sub X bb d q hq) (mm_sub X bb d) (fun u t H1 locs1 ht hvm hp hB hz hk hS => ?_)
  subst hp
  obtain ⟨hP1, hD1⟩ := hB
  rw [ht] at hP1
  exact K H1 locs1 ls hP1 (hD1.weaken (fun _ _ _ hq => mm_sub X bb d _ hq)) hS f
theorem mj_callSi (X : mm_X p s m args c cc own Ts nL D tys t1 t2 A) {y : MethodName} {ws : List Cond} {rm : Room} {As rest : List Value} {r : Int32} {h1 : M} {index maxL n : Nat} {bytes : ByteArray} {ret : Option FieldType} (hM : mm_Ki l y ws rm D tys t1 t2 w As h r h1) (cw : CallB R s args own index y bytes maxL ret ws rm 0 0 n ∧ (Cond.static y).before args s = true) (hn : As.length = n) (hstack : st = As.reverse ++ rest) (hW : (rest.map fun v => v.category).sum ≤ 8) (hf : cells ≤ R.cells ∧ slots ≤ R.slots) (hdg : decode cc pc = .ok (.invokestatic index, 3)) (K : mm_J p l e R s m args below meth c cells slots Q D w A nL h1 (pc + 3) lo (.int r :: rest)) : mm_J p l e R s m args below meth c cells slots Q D w A nL h pc lo st := by
  subst hstack
  intro H locs ls a bb d f
  refine va_calli (va_runS (As := As) (rest := rest) ⟨X.1, X.2.1, X.2.2.1, X.2.2.2.1, X.2.2.2.2.1⟩ (hM H.size) cw ⟨mm_blind, mm_pre X a bb d⟩ rfl hn f.1 rfl (lv_room hW) hdg hf) d (fun q _ hq => mm_sub X bb d q hq) (mm_sub X bb d) (fun r' u t H1 locs1 ht hvm hp hB hz hk hS => ?_)
  obtain ⟨rfl, rfl⟩ := hp
  obtain ⟨hP1, hD1⟩ := hB
  rw [ht] at hP1
  exact K H1 locs1 ls hP1 (hD1.weaken (fun _ _ _ hq => mm_sub X bb d _ hq)) hS f
theorem mj_callSl (X : mm_X p s m args c cc own Ts nL D tys t1 t2 A) {y : MethodName} {ws : List Cond} {rm : Room} {As rest : List Value} {r : Int64} {h1 : M} {index maxL n : Nat} {bytes : ByteArray} {ret : Option FieldType} (hM : mm_Kl l y ws rm D tys t1 t2 w As h r h1) (cw : CallB R s args own index y bytes maxL ret ws rm 0 0 n ∧ (Cond.static y).before args s = true) (hn : As.length = n) (hstack : st = As.reverse ++ rest) (hW : (rest.map fun v => v.category).sum ≤ 8) (hf : cells ≤ R.cells ∧ slots ≤ R.slots) (hdg : decode cc pc = .ok (.invokestatic index, 3)) (K : mm_J p l e R s m args below meth c cells slots Q D w A nL h1 (pc + 3) lo (.long r :: rest)) : mm_J p l e R s m args below meth c cells slots Q D w A nL h pc lo st := by
  subst hstack
  intro H locs ls a bb d f
  refine va_calll (va_runS (As := As) (rest := rest) ⟨X.1, X.2.1, X.2.2.1, X.2.2.2.1, X.2.2.2.2.1⟩ (hM H.size) cw ⟨mm_blind, mm_pre X a bb d⟩ rfl hn f.1 rfl (lv_room hW) hdg hf) d (fun q _ hq => mm_sub X bb d q hq) (mm_sub X bb d) (fun r' u t H1 locs1 ht hvm hp hB hz hk hS => ?_)
  obtain ⟨rfl, rfl⟩ := hp
  obtain ⟨hP1, hD1⟩ := hB
  rw [ht] at hP1
  exact K H1 locs1 ls hP1 (hD1.weaken (fun _ _ _ hq => mm_sub X bb d _ hq)) hS f
theorem mj_callSv (X : mm_X p s m args c cc own Ts nL D tys t1 t2 A) {y : MethodName} {ws : List Cond} {rm : Room} {As rest : List Value} {h1 : M} {index maxL n : Nat} {bytes : ByteArray} {ret : Option FieldType} (hM : mm_Kv l y ws rm D tys t1 t2 w As h h1) (cw : CallB R s args own index y bytes maxL ret ws rm 0 0 n ∧ (Cond.static y).before args s = true) (hn : As.length = n) (hstack : st = As.reverse ++ rest) (hW : (rest.map fun v => v.category).sum ≤ 8) (hf : cells ≤ R.cells ∧ slots ≤ R.slots) (hdg : decode cc pc = .ok (.invokestatic index, 3)) (K : mm_J p l e R s m args below meth c cells slots Q D w A nL h1 (pc + 3) lo rest) : mm_J p l e R s m args below meth c cells slots Q D w A nL h pc lo st := by
  subst hstack
  intro H locs ls a bb d f
  refine va_callv (va_runS (As := As) (rest := rest) ⟨X.1, X.2.1, X.2.2.1, X.2.2.2.1, X.2.2.2.2.1⟩ (hM H.size) cw ⟨mm_blind, mm_pre X a bb d⟩ rfl hn f.1 rfl (lv_room hW) hdg hf) d (fun q _ hq => mm_sub X bb d q hq) (mm_sub X bb d) (fun u t H1 locs1 ht hvm hp hB hz hk hS => ?_)
  subst hp
  obtain ⟨hP1, hD1⟩ := hB
  rw [ht] at hP1
  exact K H1 locs1 ls hP1 (hD1.weaken (fun _ _ _ hq => mm_sub X bb d _ hq)) hS f
theorem mj_callVr (X : mm_X p s m args c cc own Ts nL D tys t1 t2 A) {y : MethodName} {ws : List Cond} {rm : Room} {b : Nat} {As rest : List Value} {r : Nat} {h1 : M} {C : String} {index maxL n : Nat} {bytes : ByteArray} {ret : Option FieldType} (hM : mm_Kr l y ws rm D tys t1 t2 w (.ref b :: As) h r h1) (cw : CallW R s args own C index y bytes maxL ret ws rm 0 0 n) {q0 ci : Nat} {q : vw_C} {fs : List Value} (he : (w h)[q0]? = some (b, .inr (ci, fs))) (hc : vwCl[ci]? = some q) (hC : q.1 = C) (hn : As.length = n) (hstack : st = As.reverse ++ .ref b :: rest) (hW : (rest.map fun v => v.category).sum ≤ 8) (hf : cells ≤ R.cells ∧ slots ≤ R.slots) (hdg : decode cc pc = .ok (.invokevirtual index, 3)) (K : mm_J p l e R s m args below meth c cells slots Q D w A nL h1 (pc + 3) lo (.ref r :: rest)) : mm_J p l e R s m args below meth c cells slots Q D w A nL h pc lo st := by
  subst hC
  subst hstack
  intro H locs ls a bb d f
  refine va_callr (va_runV (As := As) (rest := rest) ⟨X.1, X.2.1, X.2.2.1, X.2.2.2.1, X.2.2.2.2.1⟩ (hM H.size) cw ⟨mm_blind, va_recv X.2.2.2.2.2.1 a hc he, mm_pre X a bb d⟩ rfl hn f.1 rfl (lv_room hW) hdg hf) d (fun q _ hq => mm_sub X bb d q hq) (mm_sub X bb d) (fun u ra t H1 locs1 ht hvm hp hB hz hk hS => ?_)
  subst hp
  obtain ⟨rfl, hP1, hD1⟩ := hB
  rw [ht] at hP1
  exact K H1 locs1 ls hP1 (hD1.weaken (fun _ _ _ hq => mm_sub X bb d _ hq)) hS f
theorem mj_callNi (X : mm_X p s m args c cc own Ts nL D tys t1 t2 A) {y : MethodName} {ws : List Cond} {rm : Room} {As rest : List Value} {r : Int32} {h1 : M} {index maxL n : Nat} {bytes : ByteArray} {ret : Option FieldType} (hM : mm_Ki l y ws rm D tys t1 t2 w As h r h1) {host : String} (cw : va_CN R s args own index y host bytes maxL ret ws rm 0 0 n ∧ (Cond.static y).before args s = true ∧ True) (hn : As.length = n) (hstack : st = As.reverse ++ rest) (hW : (rest.map fun v => v.category).sum ≤ 8) (hf : cells ≤ R.cells ∧ slots ≤ R.slots) (hdg : decode cc pc = .ok (.invokestatic index, 3)) (K : mm_J p l e R s m args below meth c cells slots Q D w A nL h1 (pc + 3) lo (.int r :: rest)) : mm_J p l e R s m args below meth c cells slots Q D w A nL h pc lo st := by
  subst hstack
  intro H locs ls a bb d f
  refine va_calli (va_runSN (As := As) (rest := rest) ⟨X.1, X.2.1, X.2.2.1, X.2.2.2.1, X.2.2.2.2.1⟩ (hM H.size) cw ⟨mm_blind, mm_pre X a bb d⟩ rfl hn f.1 rfl (lv_room hW) hdg hf) d (fun q _ hq => mm_sub X bb d q hq) (mm_sub X bb d) (fun r' u t H1 locs1 ht hvm hp hB hz hk hS => ?_)
  obtain ⟨rfl, rfl⟩ := hp
  obtain ⟨hP1, hD1⟩ := hB
  rw [ht] at hP1
  exact K H1 locs1 ls hP1 (hD1.weaken (fun _ _ _ hq => mm_sub X bb d _ hq)) hS f

theorem mj_iret {R : Room} {r : Int32} {h1 : M} (X : mm_X p s m args c cc own Ts nL D tys t1 t2 A) {ty : FieldType} (hr : meth.sig.returnType = some ty) (hn : narrow ty (.int r) = .int r) (hlocks : meth.locks = false) (hdg : decode cc pc = .ok (.ireturn, 1)) : mm_J p l e R s m args below meth c 0 0 (MQ below (va_Qi (fun (r' : Int32) (u : M) => r' = r ∧ u = h1) (mm_Post D w A) A) args s 0 0 A) D w A nL h1 pc lo [.int r] :=
  fun H locs ls a b d f => W.zret X.1 X.2.1 hr hn (fun t ht hW => ⟨⟨r, h1, rfl, ⟨rfl, rfl⟩, by rw [ht]; exact a, b⟩, d.F ht⟩) d.2.2 hdg hlocks
theorem mj_lret {R : Room} {r : Int64} {h1 : M} (X : mm_X p s m args c cc own Ts nL D tys t1 t2 A) (hr : meth.sig.returnType = some .long) (hlocks : meth.locks = false) (hdg : decode cc pc = .ok (.lreturn, 1)) : mm_J p l e R s m args below meth c 0 0 (MQ below (va_Ql (fun (r' : Int64) (u : M) => r' = r ∧ u = h1) (mm_Post D w A) A) args s 0 0 A) D w A nL h1 pc lo [.long r] :=
  fun H locs ls a b d f => W.lret X.1 X.2.1 hr (fun t ht hW => ⟨⟨r, h1, rfl, ⟨rfl, rfl⟩, by rw [ht]; exact a, b⟩, d.F ht⟩) d.2.2 hdg hlocks
theorem mj_vret {R : Room} {h1 : M} (X : mm_X p s m args c cc own Ts nL D tys t1 t2 A) (hr : meth.sig.returnType = none) (hlocks : meth.locks = false) (hdg : decode cc pc = .ok (.return_, 1)) : mm_J p l e R s m args below meth c 0 0 (MQ below (va_Qv (fun (u : M) => u = h1) (mm_Post D w A) A) args s 0 0 A) D w A nL h1 pc lo [] :=
  fun H locs ls a b d f => W.vret X.1 X.2.1 hr (fun t ht hW => ⟨⟨h1, rfl, rfl, by rw [ht]; exact a, b⟩, d.F ht⟩) d.2.2 hdg hlocks
theorem mj_aret {R : Room} {r : Nat} {h1 : M} (X : mm_X p s m args c cc own Ts nL D tys t1 t2 A) {rt : FieldType} (hr : meth.sig.returnType = some rt) (hrt : (∃ n, rt = .object n) ∨ ∃ t, rt = .array t) (hlocks : meth.locks = false) (hdg : decode cc pc = .ok (.areturn, 1)) : mm_J p l e R s m args below meth c 0 0 (MQ below (va_Qr (fun (u : M) => u = h1) (fun u a t => a = r ∧ mm_Post D w A u t) A) args s 0 0 A) D w A nL h1 pc lo [.ref r] :=
  fun H locs ls a b d f => W.aret X.1 X.2.1 hr hrt (Or.inr ⟨r, rfl⟩) (fun t ht hW => ⟨⟨h1, r, rfl, rfl, rfl, by rw [ht]; exact a, b⟩, d.F ht⟩) d.2.2 hdg hlocks
end MMCalls
theorem mm_open_i {M : Type} {l : Launch} {y : MethodName} {ws ws' : List Cond} {rm : Room} {cc : ByteArray} {maxL : Nat} {ret : Option FieldType} {D : va_G} {tys : List (ClassId × FieldType)} {t1 t2 : Nat} {w : M → va_W} (as : List Value) (h : M) (r : Int32) (h1 : M) (own : String) (hy : plainName y.cls = true) (ho : y.cls = own) (hw : ws = Cond.code y cc maxL ret :: ws') (hla : (lg_sl as).length ≤ maxL)
    (walk : ∀ (p : Program) (e : Env) (s : State) (m : MethodId) (below : List Frame) (meth : Method) (c : Code) (A : Nat → Prop), mm_X p s m as.toArray c cc own ws maxL D tys t1 t2 A → meth.sig.returnType = ret → meth.locks = false →
      mm_J p l e rm s m as.toArray below meth c 0 0 (MQ below (va_Qi (fun (r' : Int32) (u : M) => r' = r ∧ u = h1) (mm_Post D w A) A) as.toArray s 0 0 A) D w A maxL h 0 (lv_args 0 as) []) : mm_Ki l y ws rm D tys t1 t2 w as h r h1 := by
  intro sz
  refine Met.ofW (cc := cc) (maxL := maxL) (ret := ret) hy hw ?_
  intro p e s m args below meth c s₁ B hml hv
  obtain ⟨rfl, hsz, hP, hK, hD0, hZ⟩ := hv
  have hts := atoms_spec (ws := ws) B.pre
  have hown : s.vm.findClass y.cls = some m.cls := findClass_of_methodNamed B.named
  subst hsz
  subst ho
  have hD := hD0.self (sz := s.heap.size)
  have hA : ∀ q : Nat, s.heap.size ≤ q → va_A (w h) s.heap.size q := fun q h => Or.inr h
  have hS : va_S (va_A (w h) s.heap.size) s.heap s.heap [] := va_S.rf
  have hl := lv_entry as hla
  rw [lg_entry_eq]
  exact walk p e s m below meth c _ ⟨B.exec, B.bytes, hml, hown, hts, hK, hZ, hA⟩ B.returns B.notSynchronized s.heap [] _ hP hD hS hl
theorem mm_open_l {M : Type} {l : Launch} {y : MethodName} {ws ws' : List Cond} {rm : Room} {cc : ByteArray} {maxL : Nat} {ret : Option FieldType} {D : va_G} {tys : List (ClassId × FieldType)} {t1 t2 : Nat} {w : M → va_W} (as : List Value) (h : M) (r : Int64) (h1 : M) (own : String) (hy : plainName y.cls = true) (ho : y.cls = own) (hw : ws = Cond.code y cc maxL ret :: ws') (hla : (lg_sl as).length ≤ maxL)
    (walk : ∀ (p : Program) (e : Env) (s : State) (m : MethodId) (below : List Frame) (meth : Method) (c : Code) (A : Nat → Prop), mm_X p s m as.toArray c cc own ws maxL D tys t1 t2 A → meth.sig.returnType = ret → meth.locks = false →
      mm_J p l e rm s m as.toArray below meth c 0 0 (MQ below (va_Ql (fun (r' : Int64) (u : M) => r' = r ∧ u = h1) (mm_Post D w A) A) as.toArray s 0 0 A) D w A maxL h 0 (lv_args 0 as) []) : mm_Kl l y ws rm D tys t1 t2 w as h r h1 := by
  intro sz
  refine Met.ofW (cc := cc) (maxL := maxL) (ret := ret) hy hw ?_
  intro p e s m args below meth c s₁ B hml hv
  obtain ⟨rfl, hsz, hP, hK, hD0, hZ⟩ := hv
  have hts := atoms_spec (ws := ws) B.pre
  have hown : s.vm.findClass y.cls = some m.cls := findClass_of_methodNamed B.named
  subst hsz
  subst ho
  have hD := hD0.self (sz := s.heap.size)
  have hA : ∀ q : Nat, s.heap.size ≤ q → va_A (w h) s.heap.size q := fun q h => Or.inr h
  have hS : va_S (va_A (w h) s.heap.size) s.heap s.heap [] := va_S.rf
  have hl := lv_entry as hla
  rw [lg_entry_eq]
  exact walk p e s m below meth c _ ⟨B.exec, B.bytes, hml, hown, hts, hK, hZ, hA⟩ B.returns B.notSynchronized s.heap [] _ hP hD hS hl
theorem mm_open_v {M : Type} {l : Launch} {y : MethodName} {ws ws' : List Cond} {rm : Room} {cc : ByteArray} {maxL : Nat} {ret : Option FieldType} {D : va_G} {tys : List (ClassId × FieldType)} {t1 t2 : Nat} {w : M → va_W} (as : List Value) (h : M)  (h1 : M) (own : String) (hy : plainName y.cls = true) (ho : y.cls = own) (hw : ws = Cond.code y cc maxL ret :: ws') (hla : (lg_sl as).length ≤ maxL)
    (walk : ∀ (p : Program) (e : Env) (s : State) (m : MethodId) (below : List Frame) (meth : Method) (c : Code) (A : Nat → Prop), mm_X p s m as.toArray c cc own ws maxL D tys t1 t2 A → meth.sig.returnType = ret → meth.locks = false →
      mm_J p l e rm s m as.toArray below meth c 0 0 (MQ below (va_Qv (fun (u : M) => u = h1) (mm_Post D w A) A) as.toArray s 0 0 A) D w A maxL h 0 (lv_args 0 as) []) : mm_Kv l y ws rm D tys t1 t2 w as h h1 := by
  intro sz
  refine Met.ofW (cc := cc) (maxL := maxL) (ret := ret) hy hw ?_
  intro p e s m args below meth c s₁ B hml hv
  obtain ⟨rfl, hsz, hP, hK, hD0, hZ⟩ := hv
  have hts := atoms_spec (ws := ws) B.pre
  have hown : s.vm.findClass y.cls = some m.cls := findClass_of_methodNamed B.named
  subst hsz
  subst ho
  have hD := hD0.self (sz := s.heap.size)
  have hA : ∀ q : Nat, s.heap.size ≤ q → va_A (w h) s.heap.size q := fun q h => Or.inr h
  have hS : va_S (va_A (w h) s.heap.size) s.heap s.heap [] := va_S.rf
  have hl := lv_entry as hla
  rw [lg_entry_eq]
  exact walk p e s m below meth c _ ⟨B.exec, B.bytes, hml, hown, hts, hK, hZ, hA⟩ B.returns B.notSynchronized s.heap [] _ hP hD hS hl
theorem mm_open_r {M : Type} {l : Launch} {y : MethodName} {ws ws' : List Cond} {rm : Room} {cc : ByteArray} {maxL : Nat} {ret : Option FieldType} {D : va_G} {tys : List (ClassId × FieldType)} {t1 t2 : Nat} {w : M → va_W} (as : List Value) (h : M) (r : Nat) (h1 : M) (own : String) (hy : plainName y.cls = true) (ho : y.cls = own) (hw : ws = Cond.code y cc maxL ret :: ws') (hla : (lg_sl as).length ≤ maxL)
    (walk : ∀ (p : Program) (e : Env) (s : State) (m : MethodId) (below : List Frame) (meth : Method) (c : Code) (A : Nat → Prop), mm_X p s m as.toArray c cc own ws maxL D tys t1 t2 A → meth.sig.returnType = ret → meth.locks = false →
      mm_J p l e rm s m as.toArray below meth c 0 0 (MQ below (va_Qr (fun (u : M) => u = h1) (fun u a t => a = r ∧ mm_Post D w A u t) A) as.toArray s 0 0 A) D w A maxL h 0 (lv_args 0 as) []) : mm_Kr l y ws rm D tys t1 t2 w as h r h1 := by
  intro sz
  refine Met.ofW (cc := cc) (maxL := maxL) (ret := ret) hy hw ?_
  intro p e s m args below meth c s₁ B hml hv
  obtain ⟨rfl, hsz, hP, hK, hD0, hZ⟩ := hv
  have hts := atoms_spec (ws := ws) B.pre
  have hown : s.vm.findClass y.cls = some m.cls := findClass_of_methodNamed B.named
  subst hsz
  subst ho
  have hD := hD0.self (sz := s.heap.size)
  have hA : ∀ q : Nat, s.heap.size ≤ q → va_A (w h) s.heap.size q := fun q h => Or.inr h
  have hS : va_S (va_A (w h) s.heap.size) s.heap s.heap [] := va_S.rf
  have hl := lv_entry as hla
  rw [lg_entry_eq]
  exact walk p e s m below meth c _ ⟨B.exec, B.bytes, hml, hown, hts, hK, hZ, hA⟩ B.returns B.notSynchronized s.heap [] _ hP hD hS hl
