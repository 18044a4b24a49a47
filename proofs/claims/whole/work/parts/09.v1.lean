/-! THE LAW: the class's world and the reference's, side by side (laid by wip/whole/law.py) -/
theorem pj_P {D : va_G} {cl : List vw_C} {w1 w2 : va_W} {H : Heap} (h : va_P D cl (w1 ++ w2) H) : va_P D cl w1 H ∧ va_P D cl w2 H :=
  ⟨fun k q hk => h k q (by rw [List.getElem?_append_left (List.getElem?_eq_some_iff.mp hk).1]; exact hk), fun k q hk => h (w1.length + k) q (by rw [List.getElem?_append_right (Nat.le_add_right _ _), Nat.add_sub_cancel_left]; exact hk)⟩
theorem pj_D {A : Nat → Prop} {w1 w2 : va_W} (h : va_D A (w1 ++ w2)) : va_D A w1 ∧ va_D A w2 ∧ ∀ (i j : Nat) (p q : Nat × va_E), w1[i]? = some p → w2[j]? = some q → p.1 ≠ q.1 := by
  have l : ∀ (k : Nat) (q : Nat × va_E), w1[k]? = some q → (w1 ++ w2)[k]? = some q := fun k q hk => by rw [List.getElem?_append_left (List.getElem?_eq_some_iff.mp hk).1]; exact hk
  have r : ∀ (k : Nat) (q : Nat × va_E), w2[k]? = some q → (w1 ++ w2)[w1.length + k]? = some q := fun k q hk => by rw [List.getElem?_append_right (Nat.le_add_right _ _), Nat.add_sub_cancel_left]; exact hk
  refine ⟨⟨fun i j p q hi hj e => h.1 i j p q (l i p hi) (l j q hj) e, fun k q hk => h.2 k q (l k q hk)⟩, ⟨fun i j p q hi hj e => ?_, fun k q hk => h.2 _ q (r k q hk)⟩, fun i j p q hi hj e => ?_⟩
  · have := h.1 _ _ p q (r i p hi) (r j q hj) e
    omega
  · have h1 := h.1 _ _ p q (l i p hi) (r j q hj) e
    have h2 := (List.getElem?_eq_some_iff.mp hi).1
    omega
theorem pj_l {A : Nat → Prop} {D : va_G} {cl : List vw_C} {w1 w2 w3 : va_W} {H H1 : Heap} (hP : va_P D cl (w1 ++ w2) H) (hD : va_D A (w1 ++ w2)) (hk : ∀ q : Nat, q < H.size → ¬ va_A w1 H.size q → H1[q]? = H[q]?) (hF : ∀ q, va_A w1 H.size q → A q) (hP1 : va_P D cl w3 H1) (hD1 : va_D (va_A w1 H.size) w3) : va_P D cl (w3 ++ w2) H1 ∧ va_D A (w3 ++ w2) := by
  obtain ⟨pl, pr⟩ := pj_P hP
  obtain ⟨dl, dr, dx⟩ := pj_D hD
  have out : ∀ (j : Nat) (q : Nat × va_E), w2[j]? = some q → q.1 < H.size ∧ ¬ va_A w1 H.size q.1 := by
    intro j q hq
    have hl := (pr j q hq).lt
    refine ⟨hl, fun h => ?_⟩
    rcases h with ⟨k, e, h⟩ | h
    · exact dx k j (q.1, e) q h hq rfl
    · exact absurd hl (Nat.not_lt.mpr h)
  exact ⟨va_P.app hP1 (pr.kept fun j q hq => hk q.1 (out j q hq).1 (out j q hq).2), va_D.app (hD1.weaken fun _ q _ h => hF q.1 h) dr (fun i j p q hi hj e => (out j q hj).2 (e ▸ hD1.2 i p hi))⟩
theorem pj_r {A : Nat → Prop} {D : va_G} {cl : List vw_C} {w1 w2 w3 : va_W} {H H1 : Heap} (hP : va_P D cl (w1 ++ w2) H) (hD : va_D A (w1 ++ w2)) (hk : ∀ q : Nat, q < H.size → ¬ va_A w2 H.size q → H1[q]? = H[q]?) (hF : ∀ q, va_A w2 H.size q → A q) (hP1 : va_P D cl w3 H1) (hD1 : va_D (va_A w2 H.size) w3) : va_P D cl (w1 ++ w3) H1 ∧ va_D A (w1 ++ w3) := by
  obtain ⟨pl, pr⟩ := pj_P hP
  obtain ⟨dl, dr, dx⟩ := pj_D hD
  have out : ∀ (j : Nat) (q : Nat × va_E), w1[j]? = some q → q.1 < H.size ∧ ¬ va_A w2 H.size q.1 := by
    intro j q hq
    have hl := (pl j q hq).lt
    refine ⟨hl, fun h => ?_⟩
    rcases h with ⟨k, e, h⟩ | h
    · exact dx j k q (q.1, e) hq h rfl
    · exact absurd hl (Nat.not_lt.mpr h)
  exact ⟨va_P.app (pl.kept fun j q hq => hk q.1 (out j q hq).1 (out j q hq).2) hP1, va_D.app dl (hD1.weaken fun _ q _ h => hF q.1 h) (fun i j p q hi hj e => (out i p hi).2 (by rw [e]; exact hD1.2 j q hj))⟩
section LJ
variable {M1 M2 : Type} {p : Program} {l : Launch} {e : Env} {R : Room} {s : State} {m : MethodId} {args : Array Value} {below : List Frame} {meth : Method} {c : Code} {cells slots : Nat} {Q : State → Prop} {D : va_G} {wl : M1 → va_W} {wr : M2 → va_W} {A : Nat → Prop} {nL : Nat} {ml m1 : M1} {mr m2 : M2} {pc : Nat} {lo : List (Nat × Value)} {st : List Value}
  {cc : ByteArray} {own : String} {Ts : List Cond} {tys tyl : List (ClassId × FieldType)} {t1 t2 : Nat}
theorem lj_X (X : mm_X p s m args c cc own Ts nL D tys t1 t2 A) (is : List Nat) (hs : is.filterMap (fun i => tys[i]?) = tyl) : mm_X p s m args c cc own Ts nL D tyl t1 t2 A := ⟨X.1, X.2.1, X.2.2.1, X.2.2.2.1, X.2.2.2.2.1, X.2.2.2.2.2.1.sub is hs, X.2.2.2.2.2.2.1, X.2.2.2.2.2.2.2⟩
theorem lj_li (X : mm_X p s m args c cc own Ts nL D tys t1 t2 A) (is : List Nat) (hty : is.filterMap (fun i => tys[i]?) = tyl) {y : MethodName} {ws : List Cond} {rm : Room} {b : Nat} {As rest : List Value} {r : Int32} {C : String} {index maxL n : Nat} {bytes : ByteArray} {ret : Option FieldType} (hM : mm_Ki l y ws rm D tyl t1 t2 wl (.ref b :: As) ml r m1) (cw : CallW R s args own C index y bytes maxL ret ws rm 0 0 n) {q0 ci : Nat} {q : vw_C} {fs : List Value} (he : (wl ml)[q0]? = some (b, .inr (ci, fs))) (hc : vwCl[ci]? = some q) (hC : q.1 = C) (hn : As.length = n) (hstack : st = As.reverse ++ .ref b :: rest) (hW : (rest.map fun v => v.category).sum ≤ 8) (hf : cells ≤ R.cells ∧ slots ≤ R.slots) (hdg : decode cc pc = .ok (.invokevirtual index, 3)) (K : mm_J p l e R s m args below meth c cells slots Q D (fun u : M1 × M2 => wl u.1 ++ wr u.2) A nL (m1, mr) (pc + 3) lo (.int r :: rest)) : mm_J p l e R s m args below meth c cells slots Q D (fun u : M1 × M2 => wl u.1 ++ wr u.2) A nL (ml, mr) pc lo st := by
  subst hC
  subst hstack
  intro H locs ls a bb d f
  have X1 := lj_X X is hty
  have aP := (pj_P a).1
  have aD := (pj_D bb).1
  refine va_calli (va_runV (As := As) (rest := rest) ⟨X.1, X.2.1, X.2.2.1, X.2.2.2.1, X.2.2.2.2.1⟩ (hM H.size) cw ⟨mm_blind, va_recv X.2.2.2.2.2.1 aP hc he, mm_pre X1 aP aD d⟩ rfl hn f.1 rfl (lv_room hW) hdg hf) d (fun q _ hq => mm_sub X1 aD d q hq) (mm_sub X1 aD d) (fun r' u t H1 locs1 ht hvm hp hB hz hk hS => ?_)
  obtain ⟨rfl, rfl⟩ := hp
  obtain ⟨hP1, hD1⟩ := hB
  rw [ht] at hP1
  obtain ⟨z1, z2⟩ := pj_l a bb hk (mm_sub X1 aD d) hP1 hD1
  exact K H1 locs1 ls z1 z2 hS f
theorem lj_ll (X : mm_X p s m args c cc own Ts nL D tys t1 t2 A) (is : List Nat) (hty : is.filterMap (fun i => tys[i]?) = tyl) {y : MethodName} {ws : List Cond} {rm : Room} {b : Nat} {As rest : List Value} {r : Int64} {C : String} {index maxL n : Nat} {bytes : ByteArray} {ret : Option FieldType} (hM : mm_Kl l y ws rm D tyl t1 t2 wl (.ref b :: As) ml r m1) (cw : CallW R s args own C index y bytes maxL ret ws rm 0 0 n) {q0 ci : Nat} {q : vw_C} {fs : List Value} (he : (wl ml)[q0]? = some (b, .inr (ci, fs))) (hc : vwCl[ci]? = some q) (hC : q.1 = C) (hn : As.length = n) (hstack : st = As.reverse ++ .ref b :: rest) (hW : (rest.map fun v => v.category).sum ≤ 8) (hf : cells ≤ R.cells ∧ slots ≤ R.slots) (hdg : decode cc pc = .ok (.invokevirtual index, 3)) (K : mm_J p l e R s m args below meth c cells slots Q D (fun u : M1 × M2 => wl u.1 ++ wr u.2) A nL (m1, mr) (pc + 3) lo (.long r :: rest)) : mm_J p l e R s m args below meth c cells slots Q D (fun u : M1 × M2 => wl u.1 ++ wr u.2) A nL (ml, mr) pc lo st := by
  subst hC
  subst hstack
  intro H locs ls a bb d f
  have X1 := lj_X X is hty
  have aP := (pj_P a).1
  have aD := (pj_D bb).1
  refine va_calll (va_runV (As := As) (rest := rest) ⟨X.1, X.2.1, X.2.2.1, X.2.2.2.1, X.2.2.2.2.1⟩ (hM H.size) cw ⟨mm_blind, va_recv X.2.2.2.2.2.1 aP hc he, mm_pre X1 aP aD d⟩ rfl hn f.1 rfl (lv_room hW) hdg hf) d (fun q _ hq => mm_sub X1 aD d q hq) (mm_sub X1 aD d) (fun r' u t H1 locs1 ht hvm hp hB hz hk hS => ?_)
  obtain ⟨rfl, rfl⟩ := hp
  obtain ⟨hP1, hD1⟩ := hB
  rw [ht] at hP1
  obtain ⟨z1, z2⟩ := pj_l a bb hk (mm_sub X1 aD d) hP1 hD1
  exact K H1 locs1 ls z1 z2 hS f
theorem lj_ri (X : mm_X p s m args c cc own Ts nL D tys t1 t2 A) (is : List Nat) (hty : is.filterMap (fun i => tys[i]?) = tyl) {y : MethodName} {ws : List Cond} {rm : Room} {b : Nat} {As rest : List Value} {r : Int32} {C : String} {index maxL n : Nat} {bytes : ByteArray} {ret : Option FieldType} (hM : mm_Ki l y ws rm D tyl t1 t2 wr (.ref b :: As) mr r m2) (cw : CallW R s args own C index y bytes maxL ret ws rm 0 0 n) {q0 ci : Nat} {q : vw_C} {fs : List Value} (he : (wr mr)[q0]? = some (b, .inr (ci, fs))) (hc : vwCl[ci]? = some q) (hC : q.1 = C) (hn : As.length = n) (hstack : st = As.reverse ++ .ref b :: rest) (hW : (rest.map fun v => v.category).sum ≤ 8) (hf : cells ≤ R.cells ∧ slots ≤ R.slots) (hdg : decode cc pc = .ok (.invokevirtual index, 3)) (K : mm_J p l e R s m args below meth c cells slots Q D (fun u : M1 × M2 => wl u.1 ++ wr u.2) A nL (ml, m2) (pc + 3) lo (.int r :: rest)) : mm_J p l e R s m args below meth c cells slots Q D (fun u : M1 × M2 => wl u.1 ++ wr u.2) A nL (ml, mr) pc lo st := by
  subst hC
  subst hstack
  intro H locs ls a bb d f
  have X1 := lj_X X is hty
  have aP := (pj_P a).2
  have aD := (pj_D bb).2.1
  refine va_calli (va_runV (As := As) (rest := rest) ⟨X.1, X.2.1, X.2.2.1, X.2.2.2.1, X.2.2.2.2.1⟩ (hM H.size) cw ⟨mm_blind, va_recv X.2.2.2.2.2.1 aP hc he, mm_pre X1 aP aD d⟩ rfl hn f.1 rfl (lv_room hW) hdg hf) d (fun q _ hq => mm_sub X1 aD d q hq) (mm_sub X1 aD d) (fun r' u t H1 locs1 ht hvm hp hB hz hk hS => ?_)
  obtain ⟨rfl, rfl⟩ := hp
  obtain ⟨hP1, hD1⟩ := hB
  rw [ht] at hP1
  obtain ⟨z1, z2⟩ := pj_r a bb hk (mm_sub X1 aD d) hP1 hD1
  exact K H1 locs1 ls z1 z2 hS f
theorem lj_rl (X : mm_X p s m args c cc own Ts nL D tys t1 t2 A) (is : List Nat) (hty : is.filterMap (fun i => tys[i]?) = tyl) {y : MethodName} {ws : List Cond} {rm : Room} {b : Nat} {As rest : List Value} {r : Int64} {C : String} {index maxL n : Nat} {bytes : ByteArray} {ret : Option FieldType} (hM : mm_Kl l y ws rm D tyl t1 t2 wr (.ref b :: As) mr r m2) (cw : CallW R s args own C index y bytes maxL ret ws rm 0 0 n) {q0 ci : Nat} {q : vw_C} {fs : List Value} (he : (wr mr)[q0]? = some (b, .inr (ci, fs))) (hc : vwCl[ci]? = some q) (hC : q.1 = C) (hn : As.length = n) (hstack : st = As.reverse ++ .ref b :: rest) (hW : (rest.map fun v => v.category).sum ≤ 8) (hf : cells ≤ R.cells ∧ slots ≤ R.slots) (hdg : decode cc pc = .ok (.invokevirtual index, 3)) (K : mm_J p l e R s m args below meth c cells slots Q D (fun u : M1 × M2 => wl u.1 ++ wr u.2) A nL (ml, m2) (pc + 3) lo (.long r :: rest)) : mm_J p l e R s m args below meth c cells slots Q D (fun u : M1 × M2 => wl u.1 ++ wr u.2) A nL (ml, mr) pc lo st := by
  subst hC
  subst hstack
  intro H locs ls a bb d f
  have X1 := lj_X X is hty
  have aP := (pj_P a).2
  have aD := (pj_D bb).2.1
  refine va_calll (va_runV (As := As) (rest := rest) ⟨X.1, X.2.1, X.2.2.1, X.2.2.2.1, X.2.2.2.2.1⟩ (hM H.size) cw ⟨mm_blind, va_recv X.2.2.2.2.2.1 aP hc he, mm_pre X1 aP aD d⟩ rfl hn f.1 rfl (lv_room hW) hdg hf) d (fun q _ hq => mm_sub X1 aD d q hq) (mm_sub X1 aD d) (fun r' u t H1 locs1 ht hvm hp hB hz hk hS => ?_)
  obtain ⟨rfl, rfl⟩ := hp
  obtain ⟨hP1, hD1⟩ := hB
  rw [ht] at hP1
  obtain ⟨z1, z2⟩ := pj_r a bb hk (mm_sub X1 aD d) hP1 hD1
  exact K H1 locs1 ls z1 z2 hS f
theorem lj_sld {M : Type} {w : M → va_W} {u : M} (X : mm_X p s m args c cc own Ts nL D tys t1 t2 A) {b L : Nat} {xs : Nat → Int32} (hX : va_X b L xs s s.heap) (hbl : b < s.heap.size) (hbA : ¬ A b) {i : Int32} (hin : vp_in i L) (hdg : decode cc pc = .ok (.iaload, 1)) (K : mm_J p l e R s m args below meth c cells slots Q D w A nL u (pc + 1) lo (.int (xs i.toNatClampNeg) :: st)) : mm_J p l e R s m args below meth c cells slots Q D w A nL u pc lo (.int i :: .ref b :: st) :=
  fun H locs ls a bb d f => va_sld X.1 X.2.1 hX hbl hbA d hin hdg (K H locs ls a bb d f)
theorem lj_slen {M : Type} {w : M → va_W} {u : M} (X : mm_X p s m args c cc own Ts nL D tys t1 t2 A) {b L : Nat} {xs : Nat → Int32} (hX : va_X b L xs s s.heap) (hbl : b < s.heap.size) (hbA : ¬ A b) (hdg : decode cc pc = .ok (.arraylength, 1)) (K : mm_J p l e R s m args below meth c cells slots Q D w A nL u (pc + 1) lo (.int (nI L) :: st)) : mm_J p l e R s m args below meth c cells slots Q D w A nL u pc lo (.ref b :: st) :=
  fun H locs ls a bb d f => va_slen X.1 X.2.1 hX hbl hbA d hdg (K H locs ls a bb d f)
end LJ
abbrev l_w (cI cT cS cZ : ClassId) (ax ay : Nat → Nat) : mm_M × mm_M → va_W := fun u => mx_w cI cT cS ax u.1 ++ my_w cI cZ ay u.2
abbrev l_ty (cI cT cS cZ : ClassId) : List (ClassId × FieldType) := [(cI, .int), (cT, .object "RichestPays$Text"), (cS, .object "RichestPays$Sheet"), (cZ, .boolean)]
abbrev l_A (s : State) : Nat → Prop := fun q => s.heap.size ≤ q
abbrev l_J (p : Program) (l : Launch) (e : Env) (s : State) (m : MethodId) (b : Nat) (below : List Frame) (meth : Method) (c : Code) (C0 S0 : Nat) (Q : State → Prop) (D : va_G) (cI cT cS cZ : ClassId) (ax ay : Nat → Nat) (u : mm_M × mm_M) (pc : Nat) (k : Int32) : Prop :=
  mm_J p l e room_1 s m #[Value.ref b] below meth c C0 S0 Q D (l_w cI cT cS cZ ax ay) (l_A s) 4 u pc [(0, .ref b), (1, .ref (ax 0)), (2, .ref (ay 0)), (3, .int k)] []
theorem l_add (n k : Nat) : nI (k + n) = nI k + nI n := (nI_add k n).symm
theorem l_cmp (r : Int64) : lg_cmp r r = 0 := by
  unfold lg_cmp
  simp
