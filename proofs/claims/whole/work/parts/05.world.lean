def mx_cf (cI : ClassId) (cT : ClassId) (cS : ClassId) (ad : Nat → Nat) (h : mm_M) : Nat → va_E := fun c => match c with
  | 0 => .inr (7, [.ref (ad 1), .ref (ad 6), .ref (ad 12), .ref (ad 21), .ref (ad 25), .ref (ad 28), .ref (ad 33), .int (h 0 7)])
  | 1 => .inl (cT, 2, .inr (.inr (.inr (.inr (fun k => if k < 2 then some (ad (2 + k)) else none)))))
  | 2 => .inr (6, [.ref (ad 4), .int (h 2 1)])
  | 3 => .inr (6, [.ref (ad 5), .int (h 3 1)])
  | 4 => .inl (cI, 30, .inl (h 4))
  | 5 => .inl (cI, 60, .inl (h 5))
  | 6 => .inr (2, [.ref (ad 7), .ref (ad 8), .ref (ad 9), .ref (ad 10), .ref (ad 11), .int (h 6 5), .int (h 6 6), .int (h 6 7), .int (h 6 8)])
  | 7 => .inl (cI, 6, .inl (h 7))
  | 8 => .inl (cI, 6, .inl (h 8))
  | 9 => .inl (cI, 6, .inl (h 9))
  | 10 => .inl (cI, 6, .inl (h 10))
  | 11 => .inl (cI, 6, .inl (h 11))
  | 12 => .inr (0, [.ref (ad 6), .ref (ad 13), .ref (ad 14), .ref (ad 15), .ref (ad 16), .ref (ad 17), .ref (ad 18), .ref (ad 19), .ref (ad 20), .int (h 12 9), .int (h 12 10)])
  | 13 => .inl (cI, 48, .inl (h 13))
  | 14 => .inl (cI, 48, .inl (h 14))
  | 15 => .inl (cI, 6, .inl (h 15))
  | 16 => .inl (cI, 6, .inl (h 16))
  | 17 => .inl (cI, 6, .inl (h 17))
  | 18 => .inl (cI, 6, .inl (h 18))
  | 19 => .inl (cI, 6, .inl (h 19))
  | 20 => .inl (cI, 48, .inl (h 20))
  | 21 => .inr (3, [.ref (ad 6), .ref (ad 12), .ref (ad 22), .ref (ad 23), .ref (ad 24), .int (h 21 5), .int (h 21 6), .int (h 21 7), .int (h 21 8), .int (h 21 9)])
  | 22 => .inl (cI, 6, .inl (h 22))
  | 23 => .inl (cI, 384, .inl (h 23))
  | 24 => .inl (cI, 4, .inl (h 24))
  | 25 => .inr (1, [.ref (ad 6), .ref (ad 26), .ref (ad 27), .int (h 25 3)])
  | 26 => .inl (cI, 6, .inl (h 26))
  | 27 => .inl (cI, 3616, .inl (h 27))
  | 28 => .inr (4, [.ref (ad 6), .ref (ad 12), .ref (ad 29), .ref (ad 30), .ref (ad 31), .ref (ad 32), .int (h 28 6)])
  | 29 => .inl (cI, 6, .inl (h 29))
  | 30 => .inl (cI, 8, .inl (h 30))
  | 31 => .inl (cI, 8, .inl (h 31))
  | 32 => .inl (cI, 8, .inl (h 32))
  | 33 => .inl (cS, 4, .inr (.inr (.inr (.inr (fun k => if k < 4 then some (ad (34 + k)) else none)))))
  | 34 => .inr (5, [.ref (ad 38), .int (h 34 1), .int (h 34 2), .int (h 34 3)])
  | 35 => .inr (5, [.ref (ad 39), .int (h 35 1), .int (h 35 2), .int (h 35 3)])
  | 36 => .inr (5, [.ref (ad 40), .int (h 36 1), .int (h 36 2), .int (h 36 3)])
  | 37 => .inr (5, [.ref (ad 41), .int (h 37 1), .int (h 37 2), .int (h 37 3)])
  | 38 => .inl (cI, 48, .inl (h 38))
  | 39 => .inl (cI, 48, .inl (h 39))
  | 40 => .inl (cI, 48, .inl (h 40))
  | _ => .inl (cI, 48, .inl (h c))
abbrev mx_w (cI : ClassId) (cT : ClassId) (cS : ClassId) (ad : Nat → Nat) : mm_M → va_W := mm_w 42 ad (mx_cf cI cT cS ad)
abbrev mx_ty (cI : ClassId) (cT : ClassId) (cS : ClassId) : List (ClassId × FieldType) := [(cI, .int), (cT, .object "RichestPays$Text"), (cS, .object "RichestPays$Sheet")]
theorem mx_loc (cI : ClassId) (cT : ClassId) (cS : ClassId) (ad : Nat → Nat) (h h2 : mm_M) (c : Nat) (e : h c = h2 c) : mx_cf cI cT cS ad h c = mx_cf cI cT cS ad h2 c := by
  unfold mx_cf
  split <;> simp [e]
def mx_cell (cI : ClassId) (cT : ClassId) (cS : ClassId) (ad : Nat → Nat) (c : Nat) (f : mm_M → va_E) : Prop := c < 42 ∧ ∀ h, mx_cf cI cT cS ad h c = f h
abbrev mx_arr (cI : ClassId) (cT : ClassId) (cS : ClassId) (ad : Nat → Nat) (c n : Nat) : Prop := mx_cell cI cT cS ad c (fun h => .inl (cI, n, .inl (h c)))
section
variable {cI cT cS : ClassId} {ad : Nat → Nat}
theorem mx_at {c : Nat} {f : mm_M → va_E} (hc : mx_cell cI cT cS ad c f) (h : mm_M) : (mx_w cI cT cS ad h)[c]? = some (ad c, f h) := mm_w_get h hc.1 (hc.2 h)
theorem mx_put {c k : Nat} {f : mm_M → va_E} {v : Int32} {h h2 : mm_M} (hc : mx_cell cI cT cS ad c f) (e : h2 = mm_up h c k v) {g : va_E} (hg : f (mm_up h c k v) = g) : (mx_w cI cT cS ad h).set c (ad c, g) = mx_w cI cT cS ad h2 := by
  subst e
  subst hg
  exact mm_w_set (hc.2 _) (fun j hj => mx_loc cI cT cS ad _ _ j (mm_up_ne h k v hj))
theorem mx_ast {c n k : Nat} {cA : ClassId} {v : Int32} {h h2 : mm_M} (hc : mx_cell cI cT cS ad c (fun h => .inl (cA, n, .inl (h c)))) (e : h2 = mm_up h c k v) : (mx_w cI cT cS ad h).set c (ad c, .inl (cA, n, .inl (upd (h c) k v))) = mx_w cI cT cS ad h2 :=
  mx_put hc e (by rw [mm_up_at])
theorem mx_cp {a b n sp dp k : Nat} {cA : ClassId} {h h2 : mm_M} (hc : mx_cell cI cT cS ad b (fun h => .inl (cA, n, .inl (h b)))) (e : h2 = mm_cp h a b sp dp k) : (mx_w cI cT cS ad h).set b (ad b, .inl (cA, n, .inl (va_cpy (h a) (h b) sp dp k))) = mx_w cI cT cS ad h2 := by
  subst e
  exact mm_w_set ((hc.2 _).trans (by simp [mm_cp])) (fun j hj => mx_loc cI cT cS ad _ _ j (by simp [mm_cp, hj]))
theorem mx_oX7 : mx_cell cI cT cS ad 0 (fun h => .inr (7, [.ref (ad 1), .ref (ad 6), .ref (ad 12), .ref (ad 21), .ref (ad 25), .ref (ad 28), .ref (ad 33), .int (h 0 7)])) := ⟨by decide, fun _ => rfl⟩
theorem mx_q1 : mx_cell cI cT cS ad 1 (fun _ => .inl (cT, 2, .inr (.inr (.inr (.inr (fun k => if k < 2 then some (ad (2 + k)) else none)))))) := ⟨by decide, fun _ => rfl⟩
theorem mx_a4 : mx_cell cI cT cS ad 4 (fun h => .inl (cI, 30, .inl (h 4))) := ⟨by decide, fun _ => rfl⟩
theorem mx_a5 : mx_cell cI cT cS ad 5 (fun h => .inl (cI, 60, .inl (h 5))) := ⟨by decide, fun _ => rfl⟩
theorem mx_oX2 : mx_cell cI cT cS ad 6 (fun h => .inr (2, [.ref (ad 7), .ref (ad 8), .ref (ad 9), .ref (ad 10), .ref (ad 11), .int (h 6 5), .int (h 6 6), .int (h 6 7), .int (h 6 8)])) := ⟨by decide, fun _ => rfl⟩
theorem mx_a7 : mx_cell cI cT cS ad 7 (fun h => .inl (cI, 6, .inl (h 7))) := ⟨by decide, fun _ => rfl⟩
theorem mx_a8 : mx_cell cI cT cS ad 8 (fun h => .inl (cI, 6, .inl (h 8))) := ⟨by decide, fun _ => rfl⟩
theorem mx_a9 : mx_cell cI cT cS ad 9 (fun h => .inl (cI, 6, .inl (h 9))) := ⟨by decide, fun _ => rfl⟩
theorem mx_a10 : mx_cell cI cT cS ad 10 (fun h => .inl (cI, 6, .inl (h 10))) := ⟨by decide, fun _ => rfl⟩
theorem mx_a11 : mx_cell cI cT cS ad 11 (fun h => .inl (cI, 6, .inl (h 11))) := ⟨by decide, fun _ => rfl⟩
theorem mx_oX0 : mx_cell cI cT cS ad 12 (fun h => .inr (0, [.ref (ad 6), .ref (ad 13), .ref (ad 14), .ref (ad 15), .ref (ad 16), .ref (ad 17), .ref (ad 18), .ref (ad 19), .ref (ad 20), .int (h 12 9), .int (h 12 10)])) := ⟨by decide, fun _ => rfl⟩
theorem mx_a13 : mx_cell cI cT cS ad 13 (fun h => .inl (cI, 48, .inl (h 13))) := ⟨by decide, fun _ => rfl⟩
theorem mx_a14 : mx_cell cI cT cS ad 14 (fun h => .inl (cI, 48, .inl (h 14))) := ⟨by decide, fun _ => rfl⟩
theorem mx_a15 : mx_cell cI cT cS ad 15 (fun h => .inl (cI, 6, .inl (h 15))) := ⟨by decide, fun _ => rfl⟩
theorem mx_a16 : mx_cell cI cT cS ad 16 (fun h => .inl (cI, 6, .inl (h 16))) := ⟨by decide, fun _ => rfl⟩
theorem mx_a17 : mx_cell cI cT cS ad 17 (fun h => .inl (cI, 6, .inl (h 17))) := ⟨by decide, fun _ => rfl⟩
theorem mx_a18 : mx_cell cI cT cS ad 18 (fun h => .inl (cI, 6, .inl (h 18))) := ⟨by decide, fun _ => rfl⟩
theorem mx_a19 : mx_cell cI cT cS ad 19 (fun h => .inl (cI, 6, .inl (h 19))) := ⟨by decide, fun _ => rfl⟩
theorem mx_a20 : mx_cell cI cT cS ad 20 (fun h => .inl (cI, 48, .inl (h 20))) := ⟨by decide, fun _ => rfl⟩
theorem mx_oX3 : mx_cell cI cT cS ad 21 (fun h => .inr (3, [.ref (ad 6), .ref (ad 12), .ref (ad 22), .ref (ad 23), .ref (ad 24), .int (h 21 5), .int (h 21 6), .int (h 21 7), .int (h 21 8), .int (h 21 9)])) := ⟨by decide, fun _ => rfl⟩
theorem mx_a22 : mx_cell cI cT cS ad 22 (fun h => .inl (cI, 6, .inl (h 22))) := ⟨by decide, fun _ => rfl⟩
theorem mx_a23 : mx_cell cI cT cS ad 23 (fun h => .inl (cI, 384, .inl (h 23))) := ⟨by decide, fun _ => rfl⟩
theorem mx_a24 : mx_cell cI cT cS ad 24 (fun h => .inl (cI, 4, .inl (h 24))) := ⟨by decide, fun _ => rfl⟩
theorem mx_oX1 : mx_cell cI cT cS ad 25 (fun h => .inr (1, [.ref (ad 6), .ref (ad 26), .ref (ad 27), .int (h 25 3)])) := ⟨by decide, fun _ => rfl⟩
theorem mx_a26 : mx_cell cI cT cS ad 26 (fun h => .inl (cI, 6, .inl (h 26))) := ⟨by decide, fun _ => rfl⟩
theorem mx_a27 : mx_cell cI cT cS ad 27 (fun h => .inl (cI, 3616, .inl (h 27))) := ⟨by decide, fun _ => rfl⟩
theorem mx_oX4 : mx_cell cI cT cS ad 28 (fun h => .inr (4, [.ref (ad 6), .ref (ad 12), .ref (ad 29), .ref (ad 30), .ref (ad 31), .ref (ad 32), .int (h 28 6)])) := ⟨by decide, fun _ => rfl⟩
theorem mx_a29 : mx_cell cI cT cS ad 29 (fun h => .inl (cI, 6, .inl (h 29))) := ⟨by decide, fun _ => rfl⟩
theorem mx_a30 : mx_cell cI cT cS ad 30 (fun h => .inl (cI, 8, .inl (h 30))) := ⟨by decide, fun _ => rfl⟩
theorem mx_a31 : mx_cell cI cT cS ad 31 (fun h => .inl (cI, 8, .inl (h 31))) := ⟨by decide, fun _ => rfl⟩
theorem mx_a32 : mx_cell cI cT cS ad 32 (fun h => .inl (cI, 8, .inl (h 32))) := ⟨by decide, fun _ => rfl⟩
theorem mx_q33 : mx_cell cI cT cS ad 33 (fun _ => .inl (cS, 4, .inr (.inr (.inr (.inr (fun k => if k < 4 then some (ad (34 + k)) else none)))))) := ⟨by decide, fun _ => rfl⟩
theorem mx_a38 : mx_cell cI cT cS ad 38 (fun h => .inl (cI, 48, .inl (h 38))) := ⟨by decide, fun _ => rfl⟩
theorem mx_a39 : mx_cell cI cT cS ad 39 (fun h => .inl (cI, 48, .inl (h 39))) := ⟨by decide, fun _ => rfl⟩
theorem mx_a40 : mx_cell cI cT cS ad 40 (fun h => .inl (cI, 48, .inl (h 40))) := ⟨by decide, fun _ => rfl⟩
theorem mx_a41 : mx_cell cI cT cS ad 41 (fun h => .inl (cI, 48, .inl (h 41))) := ⟨by decide, fun _ => rfl⟩
def mx_tl (P : Nat) : Nat := if P = 2 then 30 else 60
def mx_isX6 (P : Nat) : Prop := P = 2 ∨ P = 3
theorem mx_oX6 {P : Nat} (hP : mx_isX6 P) : mx_cell cI cT cS ad P (fun h => .inr (6, [.ref (ad (P + 2)), .int (h P 1)])) := by
  rcases hP with rfl | rfl <;> exact ⟨by decide, fun _ => rfl⟩
theorem mx_bX6 {P : Nat} (hP : mx_isX6 P) : mx_cell cI cT cS ad (P + 2) (fun h => .inl (cI, (mx_tl P), .inl (h (P + 2)))) := by
  rcases hP with rfl | rfl <;> exact ⟨by decide, fun _ => rfl⟩
theorem mx_gX6 {i : Int32} (g : mm_gd i 2 = true) : mx_isX6 (2 + i.toNatClampNeg) := by
  have := mm_gd_lt g
  unfold mx_isX6
  omega
def mx_isX5 (P : Nat) : Prop := P = 34 ∨ P = 35 ∨ P = 36 ∨ P = 37
theorem mx_oX5 {P : Nat} (hP : mx_isX5 P) : mx_cell cI cT cS ad P (fun h => .inr (5, [.ref (ad (P + 4)), .int (h P 1), .int (h P 2), .int (h P 3)])) := by
  rcases hP with rfl | rfl | rfl | rfl <;> exact ⟨by decide, fun _ => rfl⟩
theorem mx_bX5 {P : Nat} (hP : mx_isX5 P) : mx_cell cI cT cS ad (P + 4) (fun h => .inl (cI, 48, .inl (h (P + 4)))) := by
  rcases hP with rfl | rfl | rfl | rfl <;> exact ⟨by decide, fun _ => rfl⟩
theorem mx_gX5 {i : Int32} (g : mm_gd i 4 = true) : mx_isX5 (34 + i.toNatClampNeg) := by
  have := mm_gd_lt g
  unfold mx_isX5
  omega
end
def my_cf (cI : ClassId) (cZ : ClassId) (ad : Nat → Nat) (h : mm_M) : Nat → va_E := fun c => match c with
  | 0 => .inr (8, [.ref (ad 1), .ref (ad 2), .int (h 0 2), .ref (ad 3), .ref (ad 4), .int (h 0 5), .ref (ad 5), .ref (ad 6), .ref (ad 7), .ref (ad 8), .ref (ad 9), .ref (ad 10), .ref (ad 11), .ref (ad 12), .ref (ad 13), .ref (ad 14), .ref (ad 15), .int (h 0 17), .ref (ad 16), .int (h 0 19), .ref (ad 17), .ref (ad 18), .ref (ad 19), .ref (ad 20), .ref (ad 21), .ref (ad 22), .ref (ad 23), .ref (ad 24), .int (h 0 28)])
  | 1 => .inl (cI, 2, .inl (h 1))
  | 2 => .inl (cI, 120, .inl (h 2))
  | 3 => .inl (cI, 7, .inl (h 3))
  | 4 => .inl (cI, 7, .inl (h 4))
  | 5 => .inl (cI, 54, .inl (h 5))
  | 6 => .inl (cI, 6, .inl (h 6))
  | 7 => .inl (cI, 6, .inl (h 7))
  | 8 => .inl (cI, 2, .inl (h 8))
  | 9 => .inl (cI, 7, .inl (h 9))
  | 10 => .inl (cI, 7, .inl (h 10))
  | 11 => .inl (cI, 7, .inl (h 11))
  | 12 => .inl (cI, 7, .inl (h 12))
  | 13 => .inl (cI, 7, .inl (h 13))
  | 14 => .inl (cI, 7, .inl (h 14))
  | 15 => .inl (cI, 7, .inl (h 15))
  | 16 => .inl (cI, 24576, .inl (h 16))
  | 17 => .inl (cI, 8, .inl (h 17))
  | 18 => .inl (cI, 8, .inl (h 18))
  | 19 => .inl (cI, 8, .inl (h 19))
  | 20 => .inl (cZ, 4, .inl (h 20))
  | 21 => .inl (cI, 4, .inl (h 21))
  | 22 => .inl (cI, 4, .inl (h 22))
  | 23 => .inl (cI, 192, .inl (h 23))
  | _ => .inl (cI, 48, .inl (h c))
abbrev my_w (cI : ClassId) (cZ : ClassId) (ad : Nat → Nat) : mm_M → va_W := mm_w 25 ad (my_cf cI cZ ad)
abbrev my_ty (cI : ClassId) (cZ : ClassId) : List (ClassId × FieldType) := [(cI, .int), (cZ, .boolean)]
theorem my_loc (cI : ClassId) (cZ : ClassId) (ad : Nat → Nat) (h h2 : mm_M) (c : Nat) (e : h c = h2 c) : my_cf cI cZ ad h c = my_cf cI cZ ad h2 c := by
  unfold my_cf
  split <;> simp [e]
def my_cell (cI : ClassId) (cZ : ClassId) (ad : Nat → Nat) (c : Nat) (f : mm_M → va_E) : Prop := c < 25 ∧ ∀ h, my_cf cI cZ ad h c = f h
abbrev my_arr (cI : ClassId) (cZ : ClassId) (ad : Nat → Nat) (c n : Nat) : Prop := my_cell cI cZ ad c (fun h => .inl (cI, n, .inl (h c)))
section
variable {cI cZ : ClassId} {ad : Nat → Nat}
theorem my_at {c : Nat} {f : mm_M → va_E} (hc : my_cell cI cZ ad c f) (h : mm_M) : (my_w cI cZ ad h)[c]? = some (ad c, f h) := mm_w_get h hc.1 (hc.2 h)
theorem my_put {c k : Nat} {f : mm_M → va_E} {v : Int32} {h h2 : mm_M} (hc : my_cell cI cZ ad c f) (e : h2 = mm_up h c k v) {g : va_E} (hg : f (mm_up h c k v) = g) : (my_w cI cZ ad h).set c (ad c, g) = my_w cI cZ ad h2 := by
  subst e
  subst hg
  exact mm_w_set (hc.2 _) (fun j hj => my_loc cI cZ ad _ _ j (mm_up_ne h k v hj))
theorem my_ast {c n k : Nat} {cA : ClassId} {v : Int32} {h h2 : mm_M} (hc : my_cell cI cZ ad c (fun h => .inl (cA, n, .inl (h c)))) (e : h2 = mm_up h c k v) : (my_w cI cZ ad h).set c (ad c, .inl (cA, n, .inl (upd (h c) k v))) = my_w cI cZ ad h2 :=
  my_put hc e (by rw [mm_up_at])
theorem my_cp {a b n sp dp k : Nat} {cA : ClassId} {h h2 : mm_M} (hc : my_cell cI cZ ad b (fun h => .inl (cA, n, .inl (h b)))) (e : h2 = mm_cp h a b sp dp k) : (my_w cI cZ ad h).set b (ad b, .inl (cA, n, .inl (va_cpy (h a) (h b) sp dp k))) = my_w cI cZ ad h2 := by
  subst e
  exact mm_w_set ((hc.2 _).trans (by simp [mm_cp])) (fun j hj => my_loc cI cZ ad _ _ j (by simp [mm_cp, hj]))
theorem my_oX8 : my_cell cI cZ ad 0 (fun h => .inr (8, [.ref (ad 1), .ref (ad 2), .int (h 0 2), .ref (ad 3), .ref (ad 4), .int (h 0 5), .ref (ad 5), .ref (ad 6), .ref (ad 7), .ref (ad 8), .ref (ad 9), .ref (ad 10), .ref (ad 11), .ref (ad 12), .ref (ad 13), .ref (ad 14), .ref (ad 15), .int (h 0 17), .ref (ad 16), .int (h 0 19), .ref (ad 17), .ref (ad 18), .ref (ad 19), .ref (ad 20), .ref (ad 21), .ref (ad 22), .ref (ad 23), .ref (ad 24), .int (h 0 28)])) := ⟨by decide, fun _ => rfl⟩
theorem my_a1 : my_cell cI cZ ad 1 (fun h => .inl (cI, 2, .inl (h 1))) := ⟨by decide, fun _ => rfl⟩
theorem my_a2 : my_cell cI cZ ad 2 (fun h => .inl (cI, 120, .inl (h 2))) := ⟨by decide, fun _ => rfl⟩
theorem my_a3 : my_cell cI cZ ad 3 (fun h => .inl (cI, 7, .inl (h 3))) := ⟨by decide, fun _ => rfl⟩
theorem my_a4 : my_cell cI cZ ad 4 (fun h => .inl (cI, 7, .inl (h 4))) := ⟨by decide, fun _ => rfl⟩
theorem my_a5 : my_cell cI cZ ad 5 (fun h => .inl (cI, 54, .inl (h 5))) := ⟨by decide, fun _ => rfl⟩
theorem my_a6 : my_cell cI cZ ad 6 (fun h => .inl (cI, 6, .inl (h 6))) := ⟨by decide, fun _ => rfl⟩
theorem my_a7 : my_cell cI cZ ad 7 (fun h => .inl (cI, 6, .inl (h 7))) := ⟨by decide, fun _ => rfl⟩
theorem my_a8 : my_cell cI cZ ad 8 (fun h => .inl (cI, 2, .inl (h 8))) := ⟨by decide, fun _ => rfl⟩
theorem my_a9 : my_cell cI cZ ad 9 (fun h => .inl (cI, 7, .inl (h 9))) := ⟨by decide, fun _ => rfl⟩
theorem my_a10 : my_cell cI cZ ad 10 (fun h => .inl (cI, 7, .inl (h 10))) := ⟨by decide, fun _ => rfl⟩
theorem my_a11 : my_cell cI cZ ad 11 (fun h => .inl (cI, 7, .inl (h 11))) := ⟨by decide, fun _ => rfl⟩
theorem my_a12 : my_cell cI cZ ad 12 (fun h => .inl (cI, 7, .inl (h 12))) := ⟨by decide, fun _ => rfl⟩
theorem my_a13 : my_cell cI cZ ad 13 (fun h => .inl (cI, 7, .inl (h 13))) := ⟨by decide, fun _ => rfl⟩
theorem my_a14 : my_cell cI cZ ad 14 (fun h => .inl (cI, 7, .inl (h 14))) := ⟨by decide, fun _ => rfl⟩
theorem my_a15 : my_cell cI cZ ad 15 (fun h => .inl (cI, 7, .inl (h 15))) := ⟨by decide, fun _ => rfl⟩
theorem my_a16 : my_cell cI cZ ad 16 (fun h => .inl (cI, 24576, .inl (h 16))) := ⟨by decide, fun _ => rfl⟩
theorem my_a17 : my_cell cI cZ ad 17 (fun h => .inl (cI, 8, .inl (h 17))) := ⟨by decide, fun _ => rfl⟩
theorem my_a18 : my_cell cI cZ ad 18 (fun h => .inl (cI, 8, .inl (h 18))) := ⟨by decide, fun _ => rfl⟩
theorem my_a19 : my_cell cI cZ ad 19 (fun h => .inl (cI, 8, .inl (h 19))) := ⟨by decide, fun _ => rfl⟩
theorem my_a20 : my_cell cI cZ ad 20 (fun h => .inl (cZ, 4, .inl (h 20))) := ⟨by decide, fun _ => rfl⟩
theorem my_a21 : my_cell cI cZ ad 21 (fun h => .inl (cI, 4, .inl (h 21))) := ⟨by decide, fun _ => rfl⟩
theorem my_a22 : my_cell cI cZ ad 22 (fun h => .inl (cI, 4, .inl (h 22))) := ⟨by decide, fun _ => rfl⟩
theorem my_a23 : my_cell cI cZ ad 23 (fun h => .inl (cI, 192, .inl (h 23))) := ⟨by decide, fun _ => rfl⟩
theorem my_a24 : my_cell cI cZ ad 24 (fun h => .inl (cI, 48, .inl (h 24))) := ⟨by decide, fun _ => rfl⟩
end
