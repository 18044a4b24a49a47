/-! PURE 12g: count -/
def s_bc (m : Nat) : Nat → Nat
  | 0 => 0
  | p + 1 => s_bc m p + if m.testBit p = true then 1 else 0
def s_tc (sc : Nat → Nat) (n t : Nat) : Nat → Nat
  | 0 => 0
  | p + 1 => s_tc sc n t p + if (p < n ∧ sc p = t + 1) then 1 else 0
theorem s_bc_tc {m n t : Nat} {sc : Nat → Nat} (h : ∀ p, p < 6 → m.testBit p = decide (p < n ∧ sc p = t + 1)) : ∀ j, j ≤ 6 → s_bc m j = s_tc sc n t j := by
  intro j
  induction j with
  | zero => intro _; rfl
  | succ j ih =>
    intro hj
    rw [s_bc, s_tc, ih (by omega), h j (by omega)]
    by_cases q : j < n ∧ sc j = t + 1
    · rw [if_pos q, if_pos (decide_eq_true q)]
    · rw [if_neg q, if_neg (by rw [decide_eq_false q]; decide)]
theorem s_tc_mr {n : Nat} {sc : Nat → Nat} (hs : ∀ p, p < n → sc p ≤ 6) : ∀ j, s_sum (fun t => s_tc sc n t j) 6 = s_mr sc (min j n) := by
  intro j
  induction j with
  | zero => rw [Nat.zero_min]; rfl
  | succ j ih =>
    simp only [s_sum, s_tc] at ih ⊢
    by_cases q : j < n
    · have e : min (j + 1) n = min j n + 1 := by omega
      have e2 : min j n = j := by omega
      rw [e, s_mr, ← ih, e2]
      have h6 := hs j q
      have : sc j = 0 ∨ sc j = 1 ∨ sc j = 2 ∨ sc j = 3 ∨ sc j = 4 ∨ sc j = 5 ∨ sc j = 6 := by omega
      rcases this with e | e | e | e | e | e | e <;> simp [e, q] <;> omega
    · have e : min (j + 1) n = min j n := by omega
      rw [e, ← ih]
      simp [q]
section Q12g
variable {N n R law ti : Nat} {pu ap ho wo : Nat → Nat} {se : Nat → Nat → Nat} {hx hy : mm_M} {c1 c2 : Nat → Int32} {f0 f1 : Nat}
def q_bx (a0 : Int32) : Int32 :=
  let x1 := (a0 - (((a0.toUInt32 >>> ((1 : Int32).toUInt32 &&& Int32.toUInt32 31)).toInt32) &&& (1431655765 : Int32)))
  let x2 := ((x1 &&& (858993459 : Int32)) + (((x1.toUInt32 >>> ((2 : Int32).toUInt32 &&& Int32.toUInt32 31)).toInt32) &&& (858993459 : Int32)))
  let x3 := (((x2 + ((x2.toUInt32 >>> ((4 : Int32).toUInt32 &&& Int32.toUInt32 31)).toInt32)) &&& (252645135 : Int32)))
  let x4 := ((x3 + ((x3.toUInt32 >>> ((8 : Int32).toUInt32 &&& Int32.toUInt32 31)).toInt32)))
  let x5 := ((x4 + ((x4.toUInt32 >>> ((16 : Int32).toUInt32 &&& Int32.toUInt32 31)).toInt32)))
  (x5 &&& (63 : Int32))
theorem q_bx_ok : ∀ m, m < 64 → q_bx (nI m) = nI (s_bc m 6) := by decide +kernel
theorem q6_bc {m : Nat} (hm : m < 64) : fJ6_bitCount_0f7a4 N hx (nI m) = some (hx, nI (s_bc m 6)) := by
  rw [← q_bx_ok m hm]
  rfl
theorem q0_ml14 {r : Nat} (E : q_EX n R se hx) (hr : r < R) (k : mm_M → Int32 → Option (mm_M × Int32)) (m0 : Nat) :
    ∀ j t fuel, t + j = 6 → j < fuel → fX0_meals_L14 N (nI r) k fuel hx (nI (m0 + s_sum (fun t => s_tc (se r) n t 6) t)) (nI t) = k hx (nI (m0 + s_sum (fun t => s_tc (se r) n t 6) 6)) := by
  intro j
  induction j with
  | zero =>
    intro t fuel ht hfu
    obtain ⟨f, rfl⟩ : ∃ f, fuel = f + 1 := ⟨fuel - 1, by omega⟩
    have d : (6 : Int32) ≤ nI t := (qn_le (a := 6) (by omega) (by omega)).mpr (by omega)
    rw [fX0_meals_L14, if_pos d, show t = 6 by omega]
  | succ j ih =>
    intro t fuel ht hfu
    obtain ⟨f, rfl⟩ : ∃ f, fuel = f + 1 := ⟨fuel - 1, by omega⟩
    have d : ¬ (6 : Int32) ≤ nI t := fun q => absurd ((qn_le (a := 6) (by omega) (by omega)).mp q) (by omega)
    obtain ⟨m, m1, m2, m3, m4⟩ := q0_seated (N := N) E hr (show t < 6 by omega)
    have r' := ih (t + 1) f (by omega) (by omega)
    rw [fX0_meals_L14, if_neg d, m2, mm_call_some, q6_bc m1, mm_call_some, mm_let, nI_add, nI_1, s_bc_tc m4 6 (Nat.le_refl _), Nat.add_assoc]
    exact r'
theorem q0_ml4 (hN : 100 ≤ N) (hn : n ≤ 6) (E : q_EX n R se hx) (k : mm_M → Int32 → Option (mm_M × Int32)) :
    ∀ j i fuel, i + j = R → j < fuel → fX0_meals_L4 N k fuel hx (nI (s_me n se i)) (nI i) = k hx (nI (s_me n se R)) := by
  have hR := E.1
  intro j
  induction j with
  | zero =>
    intro i fuel hi hfu
    obtain ⟨f, rfl⟩ : ∃ f, fuel = f + 1 := ⟨fuel - 1, by omega⟩
    have d : nI R ≤ nI i := (qn_le (by omega) (by omega)).mpr (by omega)
    rw [fX0_meals_L4, E.2.1, if_pos d, show i = R by omega]
  | succ j ih =>
    intro i fuel hi hfu
    obtain ⟨f, rfl⟩ : ∃ f, fuel = f + 1 := ⟨fuel - 1, by omega⟩
    have d : ¬ nI R ≤ nI i := fun q => absurd ((qn_le (by omega) (by omega)).mp q) (by omega)
    have r' := ih (i + 1) f (by omega) (by omega)
    have e := q0_ml14 (N := N) E (show i < R by omega) (fun h10 v11 => fX0_meals_L4 N k f h10 v11 (nI i + 1)) (s_me n se i) 6 0 N rfl (by omega)
    rw [show s_sum (fun t => s_tc (se i) n t 6) 0 = 0 from rfl, Nat.add_zero, s_tc_mr (fun p hp => (E.2.2.1 i (by omega) p hp).2), show min 6 n = n by omega, show nI 0 = (0 : Int32) from rfl] at e
    rw [fX0_meals_L4, E.2.1, if_neg d, e, nI_1]
    exact r'
theorem q0_meals (hN : 100 ≤ N) (hn : n ≤ 6) (E : q_EX n R se hx) : fX0_meals N hx = some (hx, nI (s_me n se R)) := by
  have hR := E.1
  unfold fX0_meals
  exact q0_ml4 hN hn E (fun h12 v13 => some (h12, v13)) R 0 N (by omega) (by omega)
theorem q8_sm_L {w : Int32} {f : Nat → Nat} (hn : n ≤ 6) (h2 : hy 0 2 = nI n) (hf : ∀ p, p < n → (if w = 5 then hy 3 p else hy 9 p) = nI (f p)) (k : mm_M → Int32 → Option (mm_M × Int32)) :
    ∀ j i fuel, i + j = n → j < fuel → fX8_sumOf_L26 N w k fuel hy (nI (s_sum f i)) (nI i) = k hy (nI (s_sum f n)) := by
  intro j
  induction j with
  | zero =>
    intro i fuel hi hfu
    obtain ⟨fu, rfl⟩ : ∃ f, fuel = f + 1 := ⟨fuel - 1, by omega⟩
    have d : nI n ≤ nI i := (qn_le (by omega) (by omega)).mpr (by omega)
    rw [fX8_sumOf_L26, h2, if_pos d, show i = n by omega]
  | succ j ih =>
    intro i fuel hi hfu
    obtain ⟨fu, rfl⟩ : ∃ f, fuel = f + 1 := ⟨fuel - 1, by omega⟩
    have d : ¬ nI n ≤ nI i := fun q => absurd ((qn_le (by omega) (by omega)).mp q) (by omega)
    have g7 : mm_gd (nI i) 7 = true := qn_gd (by omega) (by omega)
    have r' := ih (i + 1) fu (by omega) (by omega)
    have hi' := hf i (by omega)
    rw [fX8_sumOf_L26, h2, if_neg d, qn_c (show i < 100000 by omega)]
    by_cases z : w = 5
    · rw [if_pos z] at hi'
      rw [if_pos z, if_pos g7, hi', mm_let, nI_add, nI_1]
      exact r'
    · rw [if_neg z] at hi'
      rw [if_neg z, if_pos g7, hi', mm_let, nI_add, nI_1]
      exact r'
theorem q8_sumOf (hN : 100 ≤ N) (D : q_RD N c1 c2 n R f0 f1 pu ap se) (Y : q_QY c1 c2 law ti ho wo hy) (w : Int32) :
    ∃ h', fX8_sumOf N hy w = some (h', if w = 0 then nI n else if w = 1 then nI R else if w = 7 then nI (s_me n se R) else nI (s_sum (fun p => if w = 5 then pu p else s_hd n law ti ap se (fun p => pu p - ho p) 0 p) n)) ∧ q_fy hy h' := by
  obtain ⟨h1, y1, y2, P, E⟩ := q8_reads (N := N) D Y
  have hn := P.1
  have hR := E.1
  unfold fX8_sumOf
  rw [y1, mm_call_some]
  by_cases z : w = 7
  · obtain ⟨h2, t1, t2, t3, t4, -⟩ := q8_runs (N := N) (k0 := R) hN P E (by omega)
    have P2 := P.fr t2 t3 (by simp) (by simp) (by simp) (by simp) (by simp)
    refine ⟨h2, ?_, y2.tr (q_fy.of t2 t3 (by decide))⟩
    subst z
    have l := q8_sm_L (N := N) (w := 7) (f := fun p => s_hd n law ti ap se (fun p => pu p - ho p) R p) hn P2.2.2.2.1 (fun p hp => by rw [if_neg (by decide)]; exact t4.1 p hp) (fun h22 v23 => if (7 : Int32) = 0 then (some (h22, (h22 0 2))) else (if (7 : Int32) = (1 : Int32) then (some (h22, (h22 0 5))) else (some (h22, (h22 0 17))))) n 0 N (by omega) (by omega)
    rw [if_pos rfl, E.2.1, t1, mm_call_some]
    refine Eq.trans l ?_
    rw [if_neg (by decide), if_neg (by decide), if_neg (by decide), if_neg (by decide), if_pos rfl, t4.2.2.2.2.1]
  · obtain ⟨h2, t1, t2, t3, t4, -⟩ := q8_runs (N := N) (k0 := 0) hN P E (by omega)
    have P2 := P.fr t2 t3 (by simp) (by simp) (by simp) (by simp) (by simp)
    have E2 := E.fr t2 t3 (by simp)
    refine ⟨h2, ?_, y2.tr (q_fy.of t2 t3 (by decide))⟩
    have l := q8_sm_L (N := N) (w := w) (f := fun p => if w = 5 then pu p else s_hd n law ti ap se (fun p => pu p - ho p) 0 p) hn P2.2.2.2.1 (fun p hp => by
      by_cases q : w = 5
      · rw [if_pos q, if_pos q]; exact (P2.2.2.2.2.2.2.1 p hp).1
      · rw [if_neg q, if_neg q]; exact t4.1 p hp) (fun h14 v15 => if w = 0 then (some (h14, (h14 0 2))) else (if w = (1 : Int32) then (some (h14, (h14 0 5))) else (some (h14, v15)))) n 0 N (by omega) (by omega)
    rw [if_neg z, show (0 : Int32) = nI 0 from rfl, t1, mm_call_some]
    refine Eq.trans l ?_
    rw [P2.2.2.2.1, E2.2.1, if_neg z]
    by_cases q : w = 0
    · rw [if_pos q]; exact (if_pos q).symm ▸ rfl
    · rw [if_neg q]
      by_cases q1 : w = 1
      · rw [if_pos q1]; rw [if_neg (show ¬ w = nI 0 from q), if_pos q1]
      · rw [if_neg q1]; rw [if_neg (show ¬ w = nI 0 from q), if_neg q1]
end Q12g
section Q12g2
variable {N : Nat} {hx hy : mm_M}
theorem j_count (hN : 5000 ≤ N) (R : q_R hx hy) (w : Int32) : q_J (fX7_count N hx w) (fX8_count N hy w) := by
  obtain ⟨n, r, law, ti, pu, ap, ho, wo, se, ns, sr, sp, sv, f0, f1, P, E, e0, e1, D, Y, SX, SY⟩ := R.all (N := N) (by omega)
  obtain ⟨l0, l1, b0, b1, TX, TY⟩ := R.tx
  obtain ⟨h1, y1, y2⟩ := q8_sumOf (N := N) (by omega) D Y w
  have hn := P.1
  have R1 : q_R hx h1 := R.fr q_fr.rf y2
  unfold fX7_count fX8_count
  by_cases w0 : w = 0
  · rw [if_pos w0] at y1
    rw [if_pos w0, if_pos w0, y1, mm_call_some, P.2.2.2.1]
    exact ⟨_, _, _, rfl, rfl, R1⟩
  · rw [if_neg w0] at y1
    rw [if_neg w0, if_neg w0]
    by_cases w1 : w = 1
    · rw [if_pos w1] at y1
      rw [if_pos w1, if_pos w1, y1, mm_call_some, E.2.1]
      exact ⟨_, _, _, rfl, rfl, R1⟩
    · rw [if_neg w1] at y1
      rw [if_neg w1, if_neg w1]
      by_cases w2 : w = 2
      · rw [if_pos w2, if_pos w2, TX.2.2.1, w2, if_pos (by decide), show ((2 : Int32) - 2).toNatClampNeg = 0 by decide, TY.2.2.1]
        exact ⟨_, _, _, rfl, rfl, R⟩
      · rw [if_neg w2, if_neg w2]
        by_cases w3 : w = 3
        · rw [if_pos w3, if_pos w3, TX.2.2.2.1, w3, if_pos (by decide), show ((3 : Int32) - 2).toNatClampNeg = 1 by decide, TY.2.2.2.1]
          exact ⟨_, _, _, rfl, rfl, R⟩
        · rw [if_neg w3, if_neg w3]
          by_cases w4 : w = 4
          · rw [if_pos w4, if_pos w4, SX.2.1, SY.2.1]
            exact ⟨_, _, _, rfl, rfl, R⟩
          · rw [if_neg w4, if_neg w4]
            by_cases w5 : w = 5
            · rw [if_neg (by rw [w5]; decide)] at y1
              simp only [if_pos w5] at y1
              rw [if_pos w5, if_pos w5, y1, mm_call_some, q2_tog (f := pu) (by omega) hn P.2.2.2.1 (fun p hp => (P.2.2.2.2.2.2.1 p (by omega)).1), mm_call_some]
              exact ⟨_, _, _, rfl, rfl, R1⟩
            · rw [if_neg w5, if_neg w5]
              by_cases w6 : w = 6
              · rw [if_neg (by rw [w6]; decide)] at y1
                simp only [if_neg w5] at y1
                obtain ⟨h2, x1, x2⟩ := q7_all (N := N) (by omega) P E 0 0
                rw [if_pos (show mm_gd (0 : Int32) (r + 1) = true from qn_gd (k := 0) (by omega) (by have := E.1; omega)), if_pos (by decide)] at x1
                rw [if_pos w6, if_pos w6, y1, mm_call_some, x1, mm_call_some]
                exact ⟨_, _, _, rfl, rfl, R1.fr x2 q_fy.rf⟩
              · rw [if_neg w6, if_neg w6]
                by_cases w7 : w = 7
                · rw [if_pos w7] at y1
                  rw [if_pos w7, if_pos w7, y1, mm_call_some, q0_meals (by omega) hn E, mm_call_some]
                  exact ⟨_, _, _, rfl, rfl, R1⟩
                · rw [if_neg w7, if_neg w7]
                  by_cases w8 : w = 8
                  · rw [if_pos w8, if_pos w8, R.sheets.1]
                    exact ⟨_, _, _, rfl, rfl, R⟩
                  · rw [if_neg w8, if_neg w8]
                    exact ⟨_, _, _, rfl, rfl, R⟩
end Q12g2
