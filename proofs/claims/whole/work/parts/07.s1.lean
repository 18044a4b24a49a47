/-! PURE 12a: both at once; the questions -/
def q_Sh (hx hy : mm_M) : Prop := hx 0 7 = hy 0 28 ∧ ∀ s, s < 4 → hx (34 + s) 1 = hy 21 s ∧ hx (34 + s) 2 = hy 22 s ∧ ((hx (34 + s) 3 = 0 ∧ hy 20 s = 1) ∨ (hx (34 + s) 3 = 1 ∧ hy 20 s = 0)) ∧ (∃ m, m ≤ 48 ∧ hy 22 s = nI m) ∧ ∀ i, i < 48 → hx (38 + s) i = hy 23 (48 * s + i)
/-- class and reference stand alike -/
def q_R (hx hy : mm_M) : Prop := ∃ (l0 l1 : Nat) (b0 b1 : Nat → Nat) (law ti : Nat) (ho wo : Nat → Nat) (ns : Nat) (sr sp sv : Nat → Nat), q_UX l0 l1 b0 b1 law ti ho wo hx ∧ q_SeX ns sr sp sv hx ∧ q_TY l0 l1 b0 b1 hy ∧ q_QY (hy 1) (hy 2) law ti ho wo hy ∧ q_SeY ns sr sp sv hy ∧ q_Sh hx hy
/-- both answer alike and stand alike again -/
def q_J {α : Type} (X Y : Option (mm_M × α)) : Prop := ∃ hx hy r, X = some (hx, r) ∧ Y = some (hy, r) ∧ q_R hx hy
section Q12a
variable {N : Nat} {hx hy : mm_M}
theorem q_UX.fr {l0 l1 law ti : Nat} {b0 b1 ho wo : Nat → Nat} {h h' : mm_M} {S : List Nat} (a : q_UX l0 l1 b0 b1 law ti ho wo h) (f : q_fr S h h') (hS : ∀ c, c ∈ [2, 3, 4, 5, 6, 7, 8, 9, 10, 12, 13, 14] → c ∉ S) : q_UX l0 l1 b0 b1 law ti ho wo h' := by
  obtain ⟨a1, a2, a3, a4, a5⟩ := a
  refine ⟨a1.fr f (hS 2 (by simp)) (hS 3 (by simp)) (hS 4 (by simp)) (hS 5 (by simp)), a2.fr f (hS 6 (by simp)) (hS 7 (by simp)) (hS 8 (by simp)) (hS 9 (by simp)) (hS 10 (by simp)), ?_, a4.fr f (hS 12 (by simp)) (hS 13 (by simp)) (hS 14 (by simp)), ?_⟩
  · rw [f 6 (hS 6 (by simp)), a3]
  · rw [f 12 (hS 12 (by simp)), a5]
theorem q_SeX.fr2 {ns : Nat} {sr sp sv : Nat → Nat} {h h' : mm_M} {S : List Nat} (a : q_SeX ns sr sp sv h) (f : q_fr S h h') (hS : ∀ c, c ∈ [28, 30, 31, 32] → c ∉ S) : q_SeX ns sr sp sv h' := by
  unfold q_SeX at *
  rw [f 28 (hS 28 (by simp)), f 30 (hS 30 (by simp)), f 31 (hS 31 (by simp)), f 32 (hS 32 (by simp))]
  exact a
theorem q_Sh.fr {hx' hy' : mm_M} (a : q_Sh hx hy) (f : ∀ c, c ∈ [0, 34, 35, 36, 37, 38, 39, 40, 41] → hx' c = hx c) (g : ∀ c, c ∈ [20, 21, 22, 23] → hy' c = hy c) (g0 : hy' 0 28 = hy 0 28) : q_Sh hx' hy' := by
  obtain ⟨a0, a1⟩ := a
  refine ⟨by rw [f 0 (by simp), g0, a0], ?_⟩
  intro s hs
  have m1 : 34 + s ∈ [0, 34, 35, 36, 37, 38, 39, 40, 41] := by
    have : s = 0 ∨ s = 1 ∨ s = 2 ∨ s = 3 := by omega
    rcases this with rfl | rfl | rfl | rfl <;> simp
  have m2 : 38 + s ∈ [0, 34, 35, 36, 37, 38, 39, 40, 41] := by
    have : s = 0 ∨ s = 1 ∨ s = 2 ∨ s = 3 := by omega
    rcases this with rfl | rfl | rfl | rfl <;> simp
  rw [f _ m1, f _ m2, g 20 (by simp), g 21 (by simp), g 22 (by simp), g 23 (by simp)]
  exact a1 s hs
theorem q_R.fr {hx' hy' : mm_M} (R : q_R hx hy) (fx : q_fr q_SX hx hx') (fy : q_fy hy hy') : q_R hx' hy' := by
  obtain ⟨l0, l1, b0, b1, law, ti, ho, wo, ns, sr, sp, sv, u1, u2, u3, u4, u5, u6⟩ := R
  refine ⟨l0, l1, b0, b1, law, ti, ho, wo, ns, sr, sp, sv, u1.fr fx (by decide), u2.fr2 fx (by decide), u3.eq (fy.1 1 (by simp)) (fy.1 2 (by simp)), ?_, u5.fy fy, u6.fr (fun c hc => fx c (by revert c hc; decide)) (fun c hc => fy.1 c (by revert c hc; decide)) fy.2.2⟩
  rw [fy.1 1 (by simp), fy.1 2 (by simp)]
  exact u4.fy fy
theorem q_R.all (hN : 100 ≤ N) (R : q_R hx hy) : ∃ (n R : Nat) (law ti : Nat) (pu ap ho wo : Nat → Nat) (se : Nat → Nat → Nat) (ns : Nat) (sr sp sv : Nat → Nat) (f0 f1 : Nat), q_PX n law ti pu ap ho wo hx ∧ q_EX n R se hx ∧ hx 6 6 = q_ix f0 ∧ hx 12 10 = q_ix f1 ∧ q_RD N (hy 1) (hy 2) n R f0 f1 pu ap se ∧ q_QY (hy 1) (hy 2) law ti ho wo hy ∧ q_SeX ns sr sp sv hx ∧ q_SeY ns sr sp sv hy := by
  obtain ⟨l0, l1, b0, b1, law, ti, ho, wo, ns, sr, sp, sv, u1, u2, u3, u4, u5, u6⟩ := R
  obtain ⟨a1, a2, a3, a4, a5⟩ := u1
  exact ⟨_, _, law, ti, _, _, ho, wo, _, ns, sr, sp, sv, _, _, a2, a4, a3, a5, q8_RD hN u3, u4, u2, u5⟩
theorem j_q {α : Type} {X Y : Option (mm_M × α)} {r : α} (R : q_R hx hy) (x : ∃ h', X = some (h', r) ∧ q_fr q_SX hx h') (y : ∃ h', Y = some (h', r) ∧ q_fy hy h') : q_J X Y := by
  obtain ⟨h1, x1, x2⟩ := x
  obtain ⟨h2, y1, y2⟩ := y
  exact ⟨h1, h2, r, x1, y1, R.fr x2 y2⟩
theorem j_fault (hN : 5000 ≤ N) (R : q_R hx hy) (a : Int32) : q_J (fX7_fault N hx a) (fX8_fault N hy a) := by
  obtain ⟨n, r, law, ti, pu, ap, ho, wo, se, ns, sr, sp, sv, f0, f1, P, E, e0, e1, D, Y, SX, SY⟩ := R.all (N := N) (by omega)
  exact j_q R ⟨hx, q7_fault e0 e1 a, q_fr.rf⟩ (q8_faultm D Y a)
theorem j_person (hN : 5000 ≤ N) (R : q_R hx hy) (a b : Int32) : q_J (fX7_person N hx a b) (fX8_person N hy a b) := by
  obtain ⟨n, r, law, ti, pu, ap, ho, wo, se, ns, sr, sp, sv, f0, f1, P, E, e0, e1, D, Y, SX, SY⟩ := R.all (N := N) (by omega)
  exact j_q R ⟨hx, q7_person P a b, q_fr.rf⟩ (q8_person D Y a b)
theorem j_sits (hN : 5000 ≤ N) (R : q_R hx hy) (a b : Int32) : q_J (fX7_sits N hx a b) (fX8_sits N hy a b) := by
  obtain ⟨n, r, law, ti, pu, ap, ho, wo, se, ns, sr, sp, sv, f0, f1, P, E, e0, e1, D, Y, SX, SY⟩ := R.all (N := N) (by omega)
  exact j_q R ⟨hx, q7_sits P E a b, q_fr.rf⟩ (q8_sits D Y a b)
theorem j_state (hN : 5000 ≤ N) (R : q_R hx hy) (a b c : Int32) : q_J (fX7_state N hx a b c) (fX8_state N hy a b c) := by
  obtain ⟨n, r, law, ti, pu, ap, ho, wo, se, ns, sr, sp, sv, f0, f1, P, E, e0, e1, D, Y, SX, SY⟩ := R.all (N := N) (by omega)
  exact j_q R (q7_state (by omega) P E a b c) (q8_state (by omega) D Y a b c)
theorem j_all (hN : 5000 ≤ N) (R : q_R hx hy) (a b : Int32) : q_J (fX7_all N hx a b) (fX8_all N hy a b) := by
  obtain ⟨n, r, law, ti, pu, ap, ho, wo, se, ns, sr, sp, sv, f0, f1, P, E, e0, e1, D, Y, SX, SY⟩ := R.all (N := N) (by omega)
  exact j_q R (q7_all (by omega) P E a b) (q8_all (by omega) D Y a b)
theorem j_payer (hN : 5000 ≤ N) (R : q_R hx hy) (a b : Int32) : q_J (fX7_payer N hx a b) (fX8_payer N hy a b) := by
  obtain ⟨n, r, law, ti, pu, ap, ho, wo, se, ns, sr, sp, sv, f0, f1, P, E, e0, e1, D, Y, SX, SY⟩ := R.all (N := N) (by omega)
  exact j_q R (q7_payer (by omega) P E a b) (q8_payer (by omega) D Y a b)
theorem j_beggars (hN : 5000 ≤ N) (R : q_R hx hy) : q_J (fX7_beggars N hx) (fX8_beggars N hy) := by
  obtain ⟨n, r, law, ti, pu, ap, ho, wo, se, ns, sr, sp, sv, f0, f1, P, E, e0, e1, D, Y, SX, SY⟩ := R.all (N := N) (by omega)
  refine j_q R (q7_beggars (by omega) P E) ?_
  obtain ⟨h', y1, y2⟩ := q8_beggars (N := N) (by omega) D Y
  refine ⟨h', ?_, y2⟩
  unfold fX8_beggars
  rw [y1, mm_call_some]
theorem j_best (hN : 5000 ≤ N) (R : q_R hx hy) (a b c : Int32) : q_J (fX7_best N hx a b c) (fX8_best N hy a b c) := by
  obtain ⟨n, r, law, ti, pu, ap, ho, wo, se, ns, sr, sp, sv, f0, f1, P, E, e0, e1, D, Y, SX, SY⟩ := R.all (N := N) (by omega)
  obtain ⟨h', y1, y2, -⟩ := q8_best (N := N) (by omega) D Y a b c
  exact j_q R (q7_best (by omega) P E a b c) ⟨h', y1, y2⟩
theorem j_rest (hN : 5000 ≤ N) (R : q_R hx hy) (a : Int32) : q_J (fX7_rest N hx a) (fX8_rest N hy a) := by
  obtain ⟨n, r, law, ti, pu, ap, ho, wo, se, ns, sr, sp, sv, f0, f1, P, E, e0, e1, D, Y, SX, SY⟩ := R.all (N := N) (by omega)
  exact j_q R (q7_rest (by omega) P a) (q8_rest (by omega) D Y a)
theorem j_down (hN : 5000 ≤ N) (R : q_R hx hy) (a b : Int32) : q_J (fX7_down N hx a b) (fX8_down N hy a b) := by
  obtain ⟨n, r, law, ti, pu, ap, ho, wo, se, ns, sr, sp, sv, f0, f1, P, E, e0, e1, D, Y, SX, SY⟩ := R.all (N := N) (by omega)
  exact j_q R (q7_down (by omega) P a b) (q8_down (by omega) D Y a b)
theorem j_alike (hN : 5000 ≤ N) (R : q_R hx hy) : q_J (fX7_alike N hx) (fX8_alike N hy) := by
  obtain ⟨n, r, law, ti, pu, ap, ho, wo, se, ns, sr, sp, sv, f0, f1, P, E, e0, e1, D, Y, SX, SY⟩ := R.all (N := N) (by omega)
  exact j_q R (q7_alike (by omega) P) (q8_alike (by omega) D Y)
theorem j_dark (hN : 5000 ≤ N) (R : q_R hx hy) (a b c : Int32) : q_J (fX7_dark N hx a b c) (fX8_dark N hy a b c) := by
  obtain ⟨n, r, law, ti, pu, ap, ho, wo, se, ns, sr, sp, sv, f0, f1, P, E, e0, e1, D, Y, SX, SY⟩ := R.all (N := N) (by omega)
  exact j_q R (q7_dark (by omega) P E a b c) (q8_dark (by omega) D Y a b c)
theorem j_unlike (hN : 5000 ≤ N) (R : q_R hx hy) : q_J (fX7_unlike N hx) (fX8_unlike N hy) := by
  obtain ⟨n, r, law, ti, pu, ap, ho, wo, se, ns, sr, sp, sv, f0, f1, P, E, e0, e1, D, Y, SX, SY⟩ := R.all (N := N) (by omega)
  refine j_q R (q7_unlike (by omega) P E SX) ?_
  obtain ⟨h', y1, y2, -⟩ := q8_unlike (N := N) (by omega) D Y SY
  refine ⟨h', ?_, y2⟩
  unfold fX8_unlike
  rw [y1, mm_call_some]
theorem j_hid (hN : 5000 ≤ N) (R : q_R hx hy) (a : Int32) : q_J (fX7_hid N hx a) (fX8_hid N hy a) := by
  obtain ⟨n, r, law, ti, pu, ap, ho, wo, se, ns, sr, sp, sv, f0, f1, P, E, e0, e1, D, Y, SX, SY⟩ := R.all (N := N) (by omega)
  exact j_q R (q7_hid (by omega) P E SX a) (q8_hid (by omega) D Y SY a)
end Q12a
