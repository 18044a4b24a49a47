/-! PURE 12f: luck -/
abbrev nL (k : Nat) : Int64 := Int64.ofNat k
/-- LUCK: m others, h on one, to u on them -/
def s_lk (m h u : Nat) (w : Int32) : Nat := if w = 0 then (min h (u + 1) / Nat.gcd (min h (u + 1)) (u + 1)) ^ m else ((u + 1) / Nat.gcd (min h (u + 1)) (u + 1)) ^ m
section Q12f
variable {N : Nat} {hx hy : mm_M}
theorem qn_div {a b : Nat} (ha : a < 100000) (hb : b < 100000) : nI a / nI b = nI (a / b) := (Int32.ofNat_div (by omega) (by omega)).symm
theorem q_dm (a b : Nat) : a / b * b ≤ a ∧ a - a / b * b = a % b := by
  have h := Nat.div_add_mod a b
  rw [Nat.mul_comm] at h
  omega
theorem qn_mod {a b : Nat} (ha : a < 100000) (hb : b < 100000) : nI a - nI a / nI b * nI b = nI (a % b) := by
  have h := q_dm a b
  rw [qn_div ha hb, qn_mul, qn_sub h.1, h.2]
theorem nL_eq0 {a : Nat} (ha : a < 2 ^ 63) : nL a = 0 ↔ a = 0 := by
  constructor
  · intro h
    have h2 := congrArg Int64.toInt h
    rw [Int64.toInt_ofNat_of_lt ha, show (0 : Int64).toInt = 0 by decide] at h2
    omega
  · rintro rfl; rfl
theorem nL_div {a b : Nat} (ha : a < 2 ^ 63) (hb : b < 2 ^ 63) : nL a / nL b = nL (a / b) := (Int64.ofNat_div ha hb).symm
theorem nL_mul (a b : Nat) : nL a * nL b = nL (a * b) := (Int64.ofNat_mul a b).symm
theorem nL_mod {a b : Nat} (ha : a < 2 ^ 63) (hb : b < 2 ^ 63) : nL a - nL a / nL b * nL b = nL (a % b) := by
  have h := q_dm a b
  rw [nL_div ha hb, nL_mul, ← h.2]
  exact (Int64.ofNat_sub _ _ h.1).symm
theorem nI_64 {a : Nat} (ha : a < 100000) : (nI a).toInt64 = nL a := Int32.toInt64_ofNat' (by rw [show Int32.maxValue.toInt = 2147483647 by decide]; omega)
theorem nI_dec {m : Nat} (h : 1 ≤ m) : nI m + (-1) = nI (m - 1) := by
  rw [← Int32.sub_eq_add_neg]
  exact qn_sub (b := 1) h
theorem q7_gd_L {a b : Nat} (ha : a ≤ 100) (hb : b ≤ 100) (hb0 : 0 < b) : ∀ m, m ≤ b → (∀ d, m < d → ¬ (d ∣ a ∧ d ∣ b)) → ∀ fuel, m < fuel → fX7_greatestDivisor_L2 N (nI a) (nI b) (fun h5 => some (h5, (1 : Int32))) fuel hx (nI m) = some (hx, nI (Nat.gcd a b)) := by
  intro m
  have g0 : 0 < Nat.gcd a b := Nat.gcd_pos_of_pos_right _ hb0
  induction m with
  | zero =>
    intro _ hd
    exact absurd ⟨Nat.gcd_dvd_left a b, Nat.gcd_dvd_right a b⟩ (hd _ g0)
  | succ m ih =>
    intro hm hd fuel hfu
    obtain ⟨f, rfl⟩ : ∃ f, fuel = f + 1 := ⟨fuel - 1, by omega⟩
    have gm : Nat.gcd a b ≤ m + 1 := by
      by_cases q : Nat.gcd a b ≤ m + 1
      · exact q
      · exact absurd ⟨Nat.gcd_dvd_left a b, Nat.gcd_dvd_right a b⟩ (hd _ (by omega))
    by_cases h1 : m = 0
    · subst h1
      have d : nI (0 + 1) ≤ (1 : Int32) := by decide
      rw [fX7_greatestDivisor_L2, if_pos d, show Nat.gcd a b = 1 by omega]
      rfl
    · have d : ¬ nI (m + 1) ≤ (1 : Int32) := fun q => absurd ((qn_le (b := 1) (by omega) (by omega)).mp q) (by omega)
      have d0 : ¬ nI (m + 1) = (0 : Int32) := fun q => absurd ((qn_eq (b := 0) (by omega) (by omega)).mp q) (by omega)
      have rc : (¬ (m + 1 ∣ a ∧ m + 1 ∣ b)) → fX7_greatestDivisor_L2 N (nI a) (nI b) (fun h5 => some (h5, (1 : Int32))) f hx (nI m) = some (hx, nI (Nat.gcd a b)) := by
        intro q
        refine ih (by omega) ?_ f (by omega)
        intro e he
        by_cases q2 : e = m + 1
        · rw [q2]; exact q
        · exact hd e (by omega)
      have e1 : (nI (a % (m + 1)) = 0) ↔ a % (m + 1) = 0 := qn_e0 (by have := Nat.mod_lt a (show 0 < m + 1 by omega); omega)
      have e2 : (nI (b % (m + 1)) = 0) ↔ b % (m + 1) = 0 := qn_e0 (by have := Nat.mod_lt b (show 0 < m + 1 by omega); omega)
      rw [fX7_greatestDivisor_L2, if_neg d, if_pos d0, qn_mod (by omega) (by omega), qn_mod (by omega) (by omega), nI_dec (by omega), Nat.add_sub_cancel]
      by_cases z : a % (m + 1) = 0
      · rw [if_pos (e1.mpr z)]
        by_cases y : b % (m + 1) = 0
        · have hg := Nat.le_of_dvd g0 (Nat.dvd_gcd (Nat.dvd_of_mod_eq_zero z) (Nat.dvd_of_mod_eq_zero y))
          rw [if_pos (e2.mpr y), show Nat.gcd a b = m + 1 by omega]
        · rw [if_neg (fun q => y (e2.mp q))]
          exact rc (fun q => y (Nat.mod_eq_zero_of_dvd q.2))
      · rw [if_neg (fun q => z (e1.mp q))]
        exact rc (fun q => z (Nat.mod_eq_zero_of_dvd q.1))
theorem q7_gd {a b : Nat} (hN : 5000 ≤ N) (ha : a ≤ 100) (hb : b ≤ 100) (hb0 : 0 < b) : fX7_greatestDivisor N hx (nI a) (nI b) = some (hx, nI (Nat.gcd a b)) := by
  unfold fX7_greatestDivisor
  exact q7_gd_L ha hb hb0 b (Nat.le_refl _) (fun d hd q => absurd (Nat.le_of_dvd hb0 q.2) (by omega)) N (by omega)
theorem q7_pw_L {b m : Nat} (hm : m ≤ 5) (k : mm_M → Int64 → Option (mm_M × Int64)) : ∀ j i fuel, i + j = m → j < fuel → fX7_power_L5 N (nL b) (nI m) k fuel hx (nL (b ^ i)) (nI i) = k hx (nL (b ^ m)) := by
  intro j
  induction j with
  | zero =>
    intro i fuel hi hfu
    obtain ⟨f, rfl⟩ : ∃ f, fuel = f + 1 := ⟨fuel - 1, by omega⟩
    have d : nI m ≤ nI i := (qn_le (by omega) (by omega)).mpr (by omega)
    rw [fX7_power_L5, if_pos d, show i = m by omega]
  | succ j ih =>
    intro i fuel hi hfu
    obtain ⟨f, rfl⟩ : ∃ f, fuel = f + 1 := ⟨fuel - 1, by omega⟩
    have d : ¬ nI m ≤ nI i := fun q => absurd ((qn_le (by omega) (by omega)).mp q) (by omega)
    rw [fX7_power_L5, if_neg d, mm_let, nL_mul, ← Nat.pow_succ, nI_1]
    exact ih (i + 1) f (by omega) (by omega)
theorem q7_pw {b m : Nat} (hN : 5000 ≤ N) (hm : m ≤ 5) : fX7_power N hx (nL b) (nI m) = some (hx, nL (b ^ m)) := by
  unfold fX7_power
  have := q7_pw_L (N := N) (hx := hx) (b := b) hm (fun h3 v4 => some (h3, v4)) m 0 N (by omega) (by omega)
  rw [Nat.pow_zero] at this
  exact this
theorem q7_in1 {a : Int32} : fX7_isIn N hx a 1 99 = some (hx, if (mm_gd a 100 = true ∧ ¬ a = 0) then 1 else 0) := by
  unfold fX7_isIn
  have z0 : a = 0 ↔ a.toInt = 0 := by rw [← Int32.toInt_inj, show (0 : Int32).toInt = 0 by decide]
  have ky : (mm_gd a 100 = true ∧ ¬ a = 0) ↔ ((0 ≤ a.toInt ∧ a.toInt < 100) ∧ ¬ a.toInt = 0) := by
    rw [qg_toInt, z0]
    exact Iff.rfl
  have e1 : a < 1 ↔ a.toInt < 1 := by rw [Int32.lt_iff_toInt_lt, show (1 : Int32).toInt = 1 by decide]
  have e2 : 99 < a ↔ 99 < a.toInt := by rw [Int32.lt_iff_toInt_lt, show (99 : Int32).toInt = 99 by decide]
  by_cases h1 : a < 1
  · rw [if_pos h1, if_neg (fun q => absurd (e1.mp h1) (by have := ky.mp q; omega))]
  · rw [if_neg h1]
    by_cases h2 : 99 < a
    · rw [if_pos h2, if_neg (fun q => absurd (e2.mp h2) (by have := ky.mp q; omega))]
    · rw [e1] at h1
      rw [if_neg h2]
      rw [e2] at h2
      rw [if_pos (ky.mpr (by omega))]
theorem q8_in1 {a : Int32} : fX8_in N hx a 1 99 = some (hx, if (mm_gd a 100 = true ∧ ¬ a = 0) then 1 else 0) := by
  unfold fX8_in
  have z0 : a = 0 ↔ a.toInt = 0 := by rw [← Int32.toInt_inj, show (0 : Int32).toInt = 0 by decide]
  have ky : (mm_gd a 100 = true ∧ ¬ a = 0) ↔ ((0 ≤ a.toInt ∧ a.toInt < 100) ∧ ¬ a.toInt = 0) := by
    rw [qg_toInt, z0]
    exact Iff.rfl
  have e1 : a < 1 ↔ a.toInt < 1 := by rw [Int32.lt_iff_toInt_lt, show (1 : Int32).toInt = 1 by decide]
  have e2 : 99 < a ↔ 99 < a.toInt := by rw [Int32.lt_iff_toInt_lt, show (99 : Int32).toInt = 99 by decide]
  by_cases h1 : a < 1
  · rw [if_pos h1, if_neg (fun q => absurd (e1.mp h1) (by have := ky.mp q; omega))]
  · rw [if_neg h1]
    by_cases h2 : 99 < a
    · rw [if_pos h2, if_neg (fun q => absurd (e2.mp h2) (by have := ky.mp q; omega))]
    · rw [e1] at h1
      rw [if_neg h2]
      rw [e2] at h2
      rw [if_pos (ky.mpr (by omega))]
theorem q7_luckN {m h u : Nat} {w : Int32} (hN : 5000 ≤ N) (hm : m ≤ 5) (hh : h ≤ 99) (hu : u ≤ 99) (hu0 : 0 < u) (hw : mm_gd w 2 = true) : fX7_luck N hx (nI m) (nI h) (nI u) w = some (hx, nL (s_lk m h u w)) := by
  have g1 : mm_gd (nI m) 6 = true := qn_gd (by omega) (by omega)
  have g2 : mm_gd (nI h) 100 = true := qn_gd (by omega) (by omega)
  have g3 : mm_gd (nI u) 100 = true := qn_gd (by omega) (by omega)
  have u0 : ¬ nI u = 0 := fun q => absurd ((qn_eq (b := 0) (by omega) (by omega)).mp q) (by omega)
  have em : (if nI (u + 1) < nI h then nI (u + 1) else nI h) = nI (min h (u + 1)) := by
    by_cases q : u + 1 < h
    · rw [if_pos ((qn_lt (by omega) (by omega)).mpr q), show min h (u + 1) = u + 1 by omega]
    · rw [if_neg (fun w => q ((qn_lt (by omega) (by omega)).mp w)), show min h (u + 1) = h by omega]
  have hg0 : 0 < Nat.gcd (min h (u + 1)) (u + 1) := Nat.gcd_pos_of_pos_right _ (by omega)
  have hg1 : Nat.gcd (min h (u + 1)) (u + 1) ≤ u + 1 := Nat.gcd_le_right _ (by omega)
  have gz : ¬ nI (Nat.gcd (min h (u + 1)) (u + 1)) = 0 := fun q => absurd ((qn_eq (b := 0) (by omega) (by omega)).mp q) (by omega)
  have d1 : min h (u + 1) / Nat.gcd (min h (u + 1)) (u + 1) ≤ 100 := Nat.le_trans (Nat.div_le_self _ _) (by omega)
  have d2 : (u + 1) / Nat.gcd (min h (u + 1)) (u + 1) ≤ 100 := Nat.le_trans (Nat.div_le_self _ _) (by omega)
  unfold fX7_luck
  rw [q7_in (n := 6) (by decide), mm_call_some, q_b0, if_pos g1, q7_in (n := 100) (by decide), mm_call_some, q_b0, if_pos g2, q7_in1, mm_call_some, q_b0, if_pos ⟨g3, u0⟩, q7_in (n := 2) (by decide), mm_call_some, q_b0, if_pos hw, nI_1, mm_let, em, mm_let, q7_gd hN (by omega) (by omega) (by omega), mm_call_some, if_pos gz, if_pos gz, qn_div (by omega) (by omega), qn_div (by omega) (by omega), nI_64 (by omega), nI_64 (by omega), q7_pw hN hm, q7_pw hN hm, mm_call_some, mm_call_some]
  unfold s_lk
  by_cases z : w = 0
  · rw [if_pos z, if_pos z]
  · rw [if_neg z, if_neg z]
theorem q8_low_L {k : mm_M → Int64 → Option (mm_M × Int64)} {p0 p2 : Int64} {p4 : Int32} : ∀ y x fuel, y < fuel → y < 2 ^ 60 → x < 2 ^ 60 → fX8_lowest_L6 N p0 p2 p4 k fuel hy (nL x) (nL y) = k hy (nL (Nat.gcd x y)) := by
  intro y
  induction y using Nat.strongRecOn with
  | _ y ih =>
    intro x fuel hfu hy1 hx1
    obtain ⟨f, rfl⟩ : ∃ f, fuel = f + 1 := ⟨fuel - 1, by omega⟩
    rw [fX8_lowest_L6]
    by_cases z : y = 0
    · subst z
      have d : lg_cmp (nL 0) 0 = 0 := (lg_cmp_eq _ _).mpr rfl
      rw [if_pos d, Nat.gcd_zero_right]
    · have z1 : ¬ nL y = 0 := fun q => z ((nL_eq0 (by omega)).mp q)
      have hl := Nat.mod_lt x (show 0 < y by omega)
      rw [if_neg (fun q => z1 ((lg_cmp_eq _ _).mp q)), if_pos z1, mm_let, nL_mod (by omega) (by omega), ih (x % y) hl y f (by omega) (by omega) (by omega), Nat.gcd_comm x y, Nat.gcd_rec y x, Nat.gcd_comm]
theorem q8_low {x y : Nat} {w : Int32} (hN : 20000000000 ≤ N) (h1 : x ≤ 10000000000) (h2 : y ≤ 10000000000) (h3 : 0 < y) : fX8_lowest N hy (nL x) (nL y) w = some (hy, nL (if w = 0 then x / Nat.gcd x y else y / Nat.gcd x y)) := by
  have g0 : 0 < Nat.gcd x y := Nat.gcd_pos_of_pos_right _ h3
  have g1 : Nat.gcd x y ≤ y := Nat.gcd_le_right _ h3
  have gz : ¬ nL (Nat.gcd x y) = 0 := fun q => absurd ((nL_eq0 (by omega)).mp q) (by omega)
  unfold fX8_lowest
  rw [q8_low_L y x N (by omega) (by omega) (by omega)]
  simp only [gz, not_false_eq_true, if_true]
  rw [nL_div (by omega) (by omega), nL_div (by omega) (by omega)]
  by_cases z : w = 0
  · rw [if_pos z, if_pos z]
  · rw [if_neg z, if_neg z]
theorem q8_lk_L {m h u : Nat} {p3 : Int32} (hm : m ≤ 5) (hh : h ≤ 100) (hu : u ≤ 99) (k : mm_M → Int64 → Int64 → Option (mm_M × Int64)) : ∀ j i fuel, i + j = m → j < fuel → fX8_luckOf_L25 N (nI m) (nI u) p3 (nI h) k fuel hy (nL (h ^ i)) (nL ((u + 1) ^ i)) (nI i) = k hy (nL (h ^ m)) (nL ((u + 1) ^ m)) := by
  intro j
  induction j with
  | zero =>
    intro i fuel hi hfu
    obtain ⟨f, rfl⟩ : ∃ f, fuel = f + 1 := ⟨fuel - 1, by omega⟩
    have d : nI m ≤ nI i := (qn_le (by omega) (by omega)).mpr (by omega)
    rw [fX8_luckOf_L25, if_pos d, show i = m by omega]
  | succ j ih =>
    intro i fuel hi hfu
    obtain ⟨f, rfl⟩ : ∃ f, fuel = f + 1 := ⟨fuel - 1, by omega⟩
    have d : ¬ nI m ≤ nI i := fun q => absurd ((qn_le (by omega) (by omega)).mp q) (by omega)
    have r := ih (i + 1) f (by omega) (by omega)
    rw [fX8_luckOf_L25, if_neg d, nI_1, nI_64 (by omega), nI_64 (by omega), mm_let, nL_mul, ← Nat.pow_succ, mm_let, nL_mul, ← Nat.pow_succ, nI_1]
    exact r
theorem q_p100 {a m : Nat} (ha : a ≤ 100) (hm : m ≤ 5) : a ^ m ≤ 10000000000 := by
  refine Nat.le_trans (Nat.pow_le_pow_left ha m) (Nat.le_trans (Nat.pow_le_pow_right (by decide) hm) (by decide))
theorem q8_luckOf {m h u : Nat} {w : Int32} (hN : 20000000000 ≤ N) (hm : m ≤ 5) (hh : h ≤ 99) (hu : u ≤ 99) (hu0 : 0 < u) : fX8_luckOf N hy (nI m) (nI h) (nI u) w = some (hy, nL (s_lk m h u w)) := by
  have key : ∀ x, x = min h (u + 1) → fX8_luckOf_L25 N (nI m) (nI u) w (nI x) (fun h6 v7 v8 => mm_call (fX8_lowest N h6 v7 v8 w) (fun h9 r10 => some (h9, r10))) N hy (1 : Int64) (1 : Int64) (0 : Int32) = some (hy, nL (s_lk m h u w)) := by
    intro x hx
    have r := q8_lk_L (N := N) (hy := hy) (m := m) (h := x) (u := u) (p3 := w) hm (by omega) hu (fun h6 v7 v8 => mm_call (fX8_lowest N h6 v7 v8 w) (fun h9 r10 => some (h9, r10))) m 0 N (by omega) (by omega)
    rw [Nat.pow_zero, Nat.pow_zero] at r
    refine Eq.trans r ?_
    have hp : 0 < (u + 1) ^ m := Nat.pow_pos (by omega)
    rw [q8_low hN (q_p100 (by omega) hm) (q_p100 (by omega) hm) hp, mm_call_some, Nat.pow_gcd_pow]
    unfold s_lk
    rw [← hx, Nat.div_pow (Nat.gcd_dvd_left _ _), Nat.div_pow (Nat.gcd_dvd_right _ _)]
  unfold fX8_luckOf
  rw [nI_1, mm_let]
  by_cases q : u + 1 ≤ h
  · have d : nI (u + 1) ≤ nI h := (qn_le (by omega) (by omega)).mpr q
    rw [if_pos d]
    exact key (u + 1) (by omega)
  · have d : ¬ nI (u + 1) ≤ nI h := fun w => q ((qn_le (by omega) (by omega)).mp w)
    rw [if_neg d]
    exact key h (by omega)
theorem j_luck (hN : 20000000000 ≤ N) (R : q_R hx hy) (a b c d : Int32) : q_J (fX7_luck N hx a b c d) (fX8_luck N hy a b c d) := by
  have no : ∀ h : mm_M, fX8_no N h (-2) = some (h, -9223372036854775806) := by
    intro h
    unfold fX8_no
    rw [show (-9223372036854775808 : Int64) - (-2 : Int32).toInt64 = -9223372036854775806 by decide]
  unfold fX8_luck
  simp only [no, mm_call_some]
  rw [q8_in (n := 6) (by decide), mm_call_some, q_b0]
  by_cases z : mm_gd a 6 = true
  · obtain ⟨m, hm, rfl⟩ := qg_ex z (by omega)
    rw [if_pos z, q8_in (n := 100) (by decide), mm_call_some, q_b0]
    by_cases y : mm_gd b 100 = true
    · obtain ⟨h, hh, rfl⟩ := qg_ex y (by omega)
      rw [if_pos y, q8_in1, mm_call_some, q_b0]
      by_cases x : mm_gd c 100 = true ∧ ¬ c = 0
      · obtain ⟨u, hu, rfl⟩ := qg_ex x.1 (by omega)
        have u0 : 0 < u := by
          by_cases q : u = 0
          · exact absurd (by rw [q]; rfl) x.2
          · omega
        rw [if_pos x, q8_in (n := 2) (by decide), mm_call_some, q_b0]
        by_cases w : mm_gd d 2 = true
        · rw [if_pos w, q8_luckOf hN (by omega) (by omega) (by omega) u0, mm_call_some, q7_luckN (by omega) (by omega) (by omega) (by omega) u0 w]
          exact ⟨hx, hy, _, rfl, rfl, R⟩
        · rw [if_neg w]
          unfold fX7_luck
          rw [q7_in (n := 6) (by decide), mm_call_some, q_b0, if_pos z, q7_in (n := 100) (by decide), mm_call_some, q_b0, if_pos y, q7_in1, mm_call_some, q_b0, if_pos x, q7_in (n := 2) (by decide), mm_call_some, q_b0, if_neg w]
          exact ⟨hx, hy, _, rfl, rfl, R⟩
      · rw [if_neg x]
        unfold fX7_luck
        rw [q7_in (n := 6) (by decide), mm_call_some, q_b0, if_pos z, q7_in (n := 100) (by decide), mm_call_some, q_b0, if_pos y, q7_in1, mm_call_some, q_b0, if_neg x]
        exact ⟨hx, hy, _, rfl, rfl, R⟩
    · rw [if_neg y]
      unfold fX7_luck
      rw [q7_in (n := 6) (by decide), mm_call_some, q_b0, if_pos z, q7_in (n := 100) (by decide), mm_call_some, q_b0, if_neg y]
      exact ⟨hx, hy, _, rfl, rfl, R⟩
  · rw [if_neg z]
    unfold fX7_luck
    rw [q7_in (n := 6) (by decide), mm_call_some, q_b0, if_neg z]
    exact ⟨hx, hy, _, rfl, rfl, R⟩
end Q12f
