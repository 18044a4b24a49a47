/-! PURE 12e: both at once; copy, read, write -/
section Q12e
variable {N : Nat} {hx hy : mm_M}
theorem j_read_L {s m m' : Nat} (hs : s < 4) (hm : m ≤ 48) (hm' : m' = if 6 < m then 6 else m) : ∀ j i hx hy, i + j = m' → q_R hx hy → hy 22 s = nI m → ∃ hx' hy' c, (∀ fuel, j < fuel → fX7_read_L45 N (nI s) (nI m') (fun h18 => some (h18, nI m')) fuel hx (nI i) = some (hx', c)) ∧ (∀ fuel, j < fuel → fX8_read_L27 N (nI s) (fun h17 v18 => some (h17, v18)) fuel hy (nI i) = some (hy', c)) ∧ q_R hx' hy' := by
  have g4 : mm_gd (nI s) 4 = true := qn_gd (by omega) (by omega)
  have c4 : (nI s).toNatClampNeg = s := qn_c (by omega)
  have hmm : m' ≤ 6 ∧ m' ≤ m ∧ (m' = 6 ∨ m' = m) := by rw [hm']; split <;> omega
  clear hm'
  intro j
  induction j with
  | zero =>
    intro i hx hy hi R h22
    refine ⟨hx, hy, nI m', ?_, ?_, R⟩
    · intro fuel hfu
      obtain ⟨f, rfl⟩ : ∃ f, fuel = f + 1 := ⟨fuel - 1, by omega⟩
      have d : nI m' ≤ nI i := (qn_le (by omega) (by omega)).mpr (by omega)
      rw [fX7_read_L45, if_pos d]
    · intro fuel hfu
      obtain ⟨f, rfl⟩ : ∃ f, fuel = f + 1 := ⟨fuel - 1, by omega⟩
      rw [fX8_read_L27, if_pos g4, c4, h22]
      have hi' : i = m' := by omega
      subst hi'
      by_cases d : nI m ≤ nI i
      · rw [if_pos d]
      · have d2 : ¬ m ≤ i := fun q => d ((qn_le (by omega) (by omega)).mpr q)
        have d3 : (6 : Int32) ≤ nI i := (qn_le (a := 6) (by omega) (by omega)).mpr (by omega)
        rw [if_neg d, if_pos d3]
  | succ j ih =>
    intro i hx hy hi R h22
    have i6 : i < 6 := by omega
    have im : i < m := by omega
    have g6 : mm_gd (nI i) 6 = true := qn_gd (by omega) (by omega)
    have g48 : mm_gd (nI i) 48 = true := qn_gd (by omega) (by omega)
    have g192 : mm_gd (nI (48 * s + i)) 192 = true := qn_gd (by omega) (by omega)
    have d1 : ¬ nI m' ≤ nI i := fun q => absurd ((qn_le (by omega) (by omega)).mp q) (by omega)
    have d2 : ¬ nI m ≤ nI i := fun q => absurd ((qn_le (by omega) (by omega)).mp q) (by omega)
    have d3 : ¬ (6 : Int32) ≤ nI i := fun q => absurd ((qn_le (a := 6) (by omega) (by omega)).mp q) (by omega)
    have ev := (R.sheets.2 s hs).2.2.2.2 i (by omega)
    have s1 : ∀ f, fX7_read_L45 N (nI s) (nI m') (fun h18 => some (h18, nI m')) (f + 1) hx (nI i) = if mm_gd (hy 23 (48 * s + i)) 100 = true then fX7_read_L45 N (nI s) (nI m') (fun h18 => some (h18, nI m')) f (mm_up hx 9 i (hy 23 (48 * s + i))) (nI (i + 1)) else some (hx, nI i) := by
      intro f
      rw [fX7_read_L45, if_neg d1, if_pos g4, if_pos g48, mm_let, c4, qn_c (show i < 100000 by omega), show 34 + s + 4 = 38 + s by omega, ev, q7_in (n := 100) (by decide), mm_call_some, q_b0, if_pos g6, mm_let, nI_1]
    have s2 : ∀ f, fX8_read_L27 N (nI s) (fun h17 v18 => some (h17, v18)) (f + 1) hy (nI i) = if mm_gd (hy 23 (48 * s + i)) 100 = true then fX8_read_L27 N (nI s) (fun h17 v18 => some (h17, v18)) f (mm_up hy 6 i (hy 23 (48 * s + i))) (nI (i + 1)) else some (hy, nI i) := by
      intro f
      rw [fX8_read_L27, if_pos g4, c4, h22, if_neg d2, if_neg d3, q_48, if_pos g192, qn_c (show 48 * s + i < 100000 by omega), q8_in (n := 100) (by decide), mm_call_some, q_b0, if_pos g6, qn_c (show i < 100000 by omega), mm_let, nI_1]
    by_cases x : mm_gd (hy 23 (48 * s + i)) 100 = true
    · obtain ⟨v, hv, e⟩ := qg_ex x (by omega)
      obtain ⟨hx', hy', c, r1, r2, r3⟩ := ih (i + 1) (mm_up hx 9 i (hy 23 (48 * s + i))) (mm_up hy 6 i (hy 23 (48 * s + i))) (by omega) (by rw [e]; exact R.home i6 (by omega)) (by rw [mm_up_ne _ _ _ (by decide), h22])
      refine ⟨hx', hy', c, ?_, ?_, r3⟩
      · intro fuel hfu
        obtain ⟨f, rfl⟩ : ∃ f, fuel = f + 1 := ⟨fuel - 1, by omega⟩
        rw [s1, if_pos x]
        exact r1 f (by omega)
      · intro fuel hfu
        obtain ⟨f, rfl⟩ : ∃ f, fuel = f + 1 := ⟨fuel - 1, by omega⟩
        rw [s2, if_pos x]
        exact r2 f (by omega)
    · refine ⟨hx, hy, nI i, ?_, ?_, R⟩
      · intro fuel hfu
        obtain ⟨f, rfl⟩ : ∃ f, fuel = f + 1 := ⟨fuel - 1, by omega⟩
        rw [s1, if_neg x]
      · intro fuel hfu
        obtain ⟨f, rfl⟩ : ∃ f, fuel = f + 1 := ⟨fuel - 1, by omega⟩
        rw [s2, if_neg x]
theorem j_read (hN : 5000 ≤ N) (R : q_R hx hy) (a : Int32) : q_J (fX7_read N hx a) (fX8_read N hy a) := by
  unfold fX7_read fX8_read
  rw [q7_isSheet, mm_call_some, q_b0, q8_isSheet, mm_call_some, q_b0]
  by_cases z : mm_gd a 4 = true
  · obtain ⟨s, hs, rfl⟩ := qg_ex z (by omega)
    have o := R.sheets.2 s hs
    have n10 : ¬ (1 : Int32) = 0 := by decide
    rw [if_pos z, if_pos z, if_pos z, if_pos z, qn_c (show s < 100000 by omega)]
    rcases o.2.2.1 with ⟨z1, z2⟩ | ⟨z1, z2⟩
    · obtain ⟨m, m1, m2⟩ := o.2.2.2.1
      have e6 : (if (6 : Int32) < nI m then (6 : Int32) else nI m) = nI (if 6 < m then 6 else m) := by
        by_cases q : 6 < m
        · have d : (6 : Int32) < nI m := (qn_lt (a := 6) (by omega) (by omega)).mpr q
          rw [if_pos q, if_pos d]; rfl
        · have d : ¬ (6 : Int32) < nI m := fun w => q ((qn_lt (a := 6) (by omega) (by omega)).mp w)
          rw [if_neg q, if_neg d]
      rw [z1, z2, if_pos rfl, if_neg n10, o.2.1, m2, e6, mm_let]
      obtain ⟨hx', hy', c, r1, r2, r3⟩ := j_read_L (N := N) (s := s) (m := m) (m' := if 6 < m then 6 else m) hs m1 rfl (if 6 < m then 6 else m) 0 hx hy (by omega) R m2
      have l6 : (if 6 < m then 6 else m) < N := by split <;> omega
      exact ⟨hx', hy', c, r1 N l6, r2 N l6, r3⟩
    · rw [z1, z2, if_neg n10, if_pos rfl]
      exact j_found R _
  · rw [if_neg z, if_neg z]
    exact ⟨hx, hy, -2, rfl, rfl, R⟩
/-! copy -/
abbrev q_hi (m : Nat) (a b : Int32) : Prop := 0 ≤ a.toInt ∧ 0 ≤ b.toInt ∧ a.toInt + b.toInt ≤ m
theorem q_neg (a : Int32) : a < 0 ↔ a.toInt < 0 := by
  rw [Int32.lt_iff_toInt_lt, show (0 : Int32).toInt = 0 by decide]
theorem q5_has {P m : Nat} {a b : Int32} (hm : m ≤ 48) (h2 : hx P 2 = nI m) : fX5_hasItems N P hx a b = some (hx, if q_hi m a b then 1 else 0) := by
  unfold fX5_hasItems
  rw [h2]
  by_cases z : a < 0
  · rw [if_pos z, if_neg (fun q => absurd ((q_neg a).mp z) (by have := q.1; omega))]
  · rw [if_neg z]
    by_cases y : b < 0
    · rw [if_pos y, if_neg (fun q => absurd ((q_neg b).mp y) (by have := q.2.1; omega))]
    · rw [if_neg y]
      rw [q_neg] at z y
      by_cases x : nI m < a
      · rw [if_pos x]
        rw [Int32.lt_iff_toInt_lt, nI_toInt (by omega)] at x
        rw [if_neg (fun q => absurd q.2.2 (by omega))]
      · rw [if_neg x]
        rw [Int32.lt_iff_toInt_lt, nI_toInt (by omega)] at x
        have g : mm_gd a (m + 1) = true := by rw [qg_toInt]; omega
        obtain ⟨i, hi, rfl⟩ := qg_ex g (by omega)
        have ia : (nI i).toInt = i := nI_toInt (by omega)
        rw [qn_sub (by omega)]
        have e : nI (m - i) < b ↔ ((m - i : Nat) : Int) < b.toInt := by rw [Int32.lt_iff_toInt_lt, nI_toInt (by omega)]
        by_cases w : nI (m - i) < b
        · rw [if_pos w]
          rw [e] at w
          rw [if_neg (fun q => absurd q.2.2 (by omega))]
        · rw [if_neg w]
          rw [e] at w
          rw [if_pos ⟨by omega, by omega, by omega⟩]
theorem q_l64 (a b : Int32) : (a.toInt64 + b.toInt64).toInt = a.toInt + b.toInt := by
  have h1 := a.toInt_lt
  have h2 := a.le_toInt
  have h3 := b.toInt_lt
  have h4 := b.le_toInt
  rw [Int64.toInt_add, Int32.toInt_toInt64, Int32.toInt_toInt64]
  exact Int.bmod_eq_of_le (by omega) (by omega)
theorem q_cmp {a b : Int32} {m : Nat} (hm : m ≤ 48) : (0 < lg_cmp (a.toInt64 + b.toInt64) (nI m).toInt64) ↔ (m : Int) < a.toInt + b.toInt := by
  rw [lg_cmp_gt, Int64.lt_iff_toInt_lt, q_l64, Int32.toInt_toInt64, nI_toInt (by omega)]
theorem q_cmp' {a b : Int32} {m : Nat} (hm : m ≤ 48) : (lg_cmp (a.toInt64 + b.toInt64) (nI m).toInt64 ≤ 0) ↔ a.toInt + b.toInt ≤ (m : Int) := by
  rw [lg_cmp_le, Int64.le_iff_toInt_le, q_l64, Int32.toInt_toInt64, nI_toInt (by omega)]
theorem q8_copy1 {s a c : Nat} {p3 p4 : Int32} (hs : s < 4) (hac : a + c ≤ 48) (k : mm_M → Option (mm_M × Int32)) : ∀ j i h, i + j = c → ∃ h', (∀ fuel, j < fuel → fX8_copy_L120 N (nI s) (nI a) p3 p4 (nI c) k fuel h (nI i) = k h') ∧ q_fr [24] h h' ∧ ∀ x, h' 24 x = if i ≤ x ∧ x < c then h 23 (48 * s + a + x) else h 24 x := by
  intro j
  induction j with
  | zero =>
    intro i h hi
    refine ⟨h, ?_, q_fr.rf, fun x => by rw [if_neg (by omega)]⟩
    intro fuel hfu
    obtain ⟨f, rfl⟩ : ∃ f, fuel = f + 1 := ⟨fuel - 1, by omega⟩
    have d : nI c ≤ nI i := (qn_le (by omega) (by omega)).mpr (by omega)
    rw [fX8_copy_L120, if_pos d]
  | succ j ih =>
    intro i h hi
    obtain ⟨h', e1, e2, e3⟩ := ih (i + 1) (mm_up h 24 i (h 23 (48 * s + a + i))) (by omega)
    refine ⟨h', ?_, (q_fr.up (by simp)).tr e2 (fun _ q => q) (fun _ q => q), ?_⟩
    · intro fuel hfu
      obtain ⟨f, rfl⟩ : ∃ f, fuel = f + 1 := ⟨fuel - 1, by omega⟩
      have d : ¬ nI c ≤ nI i := fun q => absurd ((qn_le (by omega) (by omega)).mp q) (by omega)
      have g1 : mm_gd (nI (48 * s + a + i)) 192 = true := qn_gd (by omega) (by omega)
      have g2 : mm_gd (nI i) 48 = true := qn_gd (by omega) (by omega)
      rw [fX8_copy_L120, if_neg d, q_48, nI_add, if_pos g1, if_pos g2, qn_c (by omega), qn_c (by omega), mm_let, nI_1]
      exact e1 f (by omega)
    · intro x
      rw [e3 x, mm_up_ne _ _ _ (show 23 ≠ 24 by decide), q_up, if_pos rfl]
      by_cases y : i + 1 ≤ x ∧ x < c
      · rw [if_pos y, if_pos (by omega)]
      · rw [if_neg y]
        by_cases w : x = i
        · rw [if_pos w, if_pos (by omega), w]
        · rw [if_neg w, if_neg (by omega)]
theorem q8_copy2 {s a c : Nat} (hs : s < 4) (hac : a + c ≤ 48) (k : mm_M → Option (mm_M × Int32)) : ∀ j i h, i + j = c → ∃ h', (∀ fuel, j < fuel → fX8_copy_L157 N (nI s) (nI a) (nI c) k fuel h (nI i) = k h') ∧ q_fr [23] h h' ∧ ∀ x, h' 23 x = if 48 * s + a + i ≤ x ∧ x < 48 * s + a + c then h 24 (x - (48 * s + a)) else h 23 x := by
  intro j
  induction j with
  | zero =>
    intro i h hi
    refine ⟨h, ?_, q_fr.rf, fun x => by rw [if_neg (by omega)]⟩
    intro fuel hfu
    obtain ⟨f, rfl⟩ : ∃ f, fuel = f + 1 := ⟨fuel - 1, by omega⟩
    have d : nI c ≤ nI i := (qn_le (by omega) (by omega)).mpr (by omega)
    rw [fX8_copy_L157, if_pos d]
  | succ j ih =>
    intro i h hi
    obtain ⟨h', e1, e2, e3⟩ := ih (i + 1) (mm_up h 23 (48 * s + a + i) (h 24 i)) (by omega)
    refine ⟨h', ?_, (q_fr.up (by simp)).tr e2 (fun _ q => q) (fun _ q => q), ?_⟩
    · intro fuel hfu
      obtain ⟨f, rfl⟩ : ∃ f, fuel = f + 1 := ⟨fuel - 1, by omega⟩
      have d : ¬ nI c ≤ nI i := fun q => absurd ((qn_le (by omega) (by omega)).mp q) (by omega)
      have g1 : mm_gd (nI (48 * s + a + i)) 192 = true := qn_gd (by omega) (by omega)
      have g2 : mm_gd (nI i) 48 = true := qn_gd (by omega) (by omega)
      rw [fX8_copy_L157, if_neg d, if_pos g2, q_48, nI_add, if_pos g1, qn_c (by omega), qn_c (by omega), mm_let, nI_1]
      exact e1 f (by omega)
    · intro x
      rw [e3 x, mm_up_ne _ _ _ (show 24 ≠ 23 by decide), q_up, if_pos rfl]
      by_cases y : 48 * s + a + (i + 1) ≤ x ∧ x < 48 * s + a + c
      · rw [if_pos y, if_pos (by omega)]
      · rw [if_neg y]
        by_cases w : x = 48 * s + a + i
        · rw [if_pos w, if_pos (by omega), w, show 48 * s + a + i - (48 * s + a) = i by omega]
        · rw [if_neg w, if_neg (by omega)]
theorem j_copy (hN : 5000 ≤ N) (R : q_R hx hy) (a i b k c : Int32) : q_J (fX7_copy N hx a i b k c) (fX8_copy N hy a i b k c) := by
  unfold fX7_copy fX8_copy
  rw [q7_isSheet, mm_call_some, q_b0, q8_isSheet, mm_call_some, q_b0]
  by_cases z : mm_gd a 4 = true
  · obtain ⟨s, hs, rfl⟩ := qg_ex z (by omega)
    rw [if_pos z, if_pos z, q7_isSheet, mm_call_some, q_b0, q8_isSheet, mm_call_some, q_b0]
    by_cases y : mm_gd b 4 = true
    · obtain ⟨t, ht, rfl⟩ := qg_ex y (by omega)
      have o := R.sheets.2 s hs
      have o' := R.sheets.2 t ht
      have n10 : ¬ (1 : Int32) = 0 := by decide
      rw [if_pos y, if_pos y, if_pos z, if_pos z, if_pos y, if_pos y, qn_c (show s < 100000 by omega), qn_c (show t < 100000 by omega)]
      rcases o.2.2.1 with ⟨z1, z2⟩ | ⟨z1, z2⟩
      · rw [z1, z2, if_pos rfl, if_neg n10]
        rcases o'.2.2.1 with ⟨y1, y2⟩ | ⟨y1, y2⟩
        · rw [y1, y2, if_pos rfl, if_neg n10, o.1, o'.1]
          by_cases x : hy 21 s = hy 21 t
          · obtain ⟨m, m1, m2⟩ := o.2.2.2.1
            obtain ⟨m', m1', m2'⟩ := o'.2.2.2.1
            rw [if_pos x, if_pos x, q5_has (m := m) m1 (by rw [o.2.1, m2]), mm_call_some, q_b0, q5_has (m := m') m1' (by rw [o'.2.1, m2']), mm_call_some, q_b0, m2, m2']
            by_cases w : q_hi m i c
            · rw [if_pos w]
              by_cases v : q_hi m' k c
              · rw [if_pos v]
                have gi : mm_gd i (m + 1) = true := by rw [qg_toInt]; have := w.1; have := w.2.2; have := w.2.1; omega
                have gc : mm_gd c (m + 1) = true := by rw [qg_toInt]; have := w.1; have := w.2.2; have := w.2.1; omega
                have gk : mm_gd k (m' + 1) = true := by rw [qg_toInt]; have := v.1; have := v.2.2; have := v.2.1; omega
                obtain ⟨i, hi, rfl⟩ := qg_ex gi (by omega)
                obtain ⟨c, hc, rfl⟩ := qg_ex gc (by omega)
                obtain ⟨k, hk, rfl⟩ := qg_ex gk (by omega)
                have ti : (nI i).toInt = i := nI_toInt (by omega)
                have tc : (nI c).toInt = c := nI_toInt (by omega)
                have tk : (nI k).toInt = k := nI_toInt (by omega)
                have w1 : i + c ≤ m := by have := w.2.2; omega
                have v1 : k + c ≤ m' := by have := v.2.2; omega
                have ni : ¬ nI i < 0 := by rw [q_neg]; omega
                have nc : ¬ nI c < 0 := by rw [q_neg]; omega
                have nk : ¬ nI k < 0 := by rw [q_neg]; omega
                have cm1 : ¬ 0 < lg_cmp ((nI i).toInt64 + (nI c).toInt64) (nI m).toInt64 := by rw [q_cmp m1]; omega
                have cm2 : lg_cmp ((nI k).toInt64 + (nI c).toInt64) (nI m').toInt64 ≤ 0 := by rw [q_cmp' m1']; omega
                have ci : (nI i).toNatClampNeg = i := qn_c (by omega)
                have cc : (nI c).toNatClampNeg = c := qn_c (by omega)
                have ck : (nI k).toNatClampNeg = k := qn_c (by omega)
                have gg : mm_gcp (nI i) (nI k) (nI c) 48 48 := ⟨ni, nk, nc, by rw [ci, cc]; omega, by rw [ck, cc]; omega⟩
                rw [if_pos gg, mm_let, ci, cc, ck, if_neg ni, if_neg nk, if_neg nc, if_neg cm1, if_pos cm2]
                obtain ⟨h2, u1, u2, u3⟩ := q8_copy1 (N := N) (s := s) (a := i) (c := c) (p3 := nI t) (p4 := nI k) hs (by omega) (fun h38 => fX8_copy_L157 N (nI t) (nI k) (nI c) (fun h43 => some (h43, (1 : Int32))) N h38 (0 : Int32)) c 0 hy (by omega)
                obtain ⟨h3, r1, r2, r3⟩ := q8_copy2 (N := N) (s := t) (a := k) (c := c) ht (by omega) (fun h43 => some (h43, (1 : Int32))) c 0 h2 (by omega)
                refine ⟨_, h3, 1, rfl, ?_, ?_⟩
                · rw [show (0 : Int32) = nI 0 from rfl] at u1 ⊢
                  rw [u1 N (by omega)]
                  exact r1 N (by omega)
                · have gy : q_fr [23, 24] hy h3 := u2.tr r2 (by decide) (by decide)
                  have e23 : h2 23 = hy 23 := u2 23 (by decide)
                  have nm : ∀ x, x ≠ 34 + t + 4 → mm_cp hx (34 + s + 4) (34 + t + 4) i k c x = hx x := fun x hx' => if_neg hx'
                  have nM : mm_cp hx (34 + s + 4) (34 + t + 4) i k c (34 + t + 4) = va_cpy (hx (34 + s + 4)) (hx (34 + t + 4)) i k c := if_pos rfl
                  refine R.sh ?_ (gy.wk (by decide)) (by rw [gy 0 (by decide)]) ?_
                  · intro x hx'
                    refine nm x (fun q => hx' ?_)
                    rw [q, show 34 + t + 4 = 38 + t by omega]
                    exact (q_m34 ht).2
                  · refine R.sheets.one (s := t) ?_ ?_ ?_ ?_ ht
                    · rw [nm 0 (by omega), gy 0 (by decide)]
                      exact R.sheets.1
                    · intro x h1 h2 h3
                      exact nm x (by omega)
                    · intro t' ht' hne
                      rw [gy 20 (by decide), gy 21 (by decide), gy 22 (by decide)]
                      refine ⟨rfl, rfl, rfl, fun x hx' => ?_⟩
                      rw [r3, if_neg (by omega), e23]
                    · rw [nm (34 + t) (by omega), gy 20 (by decide), gy 21 (by decide), gy 22 (by decide), show 38 + t = 34 + t + 4 by omega, nM]
                      refine ⟨o'.1, o'.2.1, o'.2.2.1, o'.2.2.2.1, fun x hx' => ?_⟩
                      unfold va_cpy
                      rw [r3]
                      by_cases q : k ≤ x ∧ x < k + c
                      · rw [if_pos q, if_pos (by omega), u3, if_pos (by omega), show 48 * s + i + (48 * t + x - (48 * t + k)) = 48 * s + (i + (x - k)) by omega, ← o.2.2.2.2 _ (by omega), show 34 + s + 4 = 38 + s by omega]
                      · rw [if_neg q, if_neg (by omega), e23, ← o'.2.2.2.2 x hx', show 34 + t + 4 = 38 + t by omega]
              · rw [if_neg v]
                have key : ∀ (A B C : Option (mm_M × Int32)), A = B → q_J C B → q_J C A := fun A B C e J => by rw [e]; exact J
                refine key _ (mm_call (fX8_meets N hy 2) (fun h r => some (h, r))) _ ?_ (j_found R 2)
                by_cases p1 : i < 0
                · rw [if_pos p1]
                · rw [if_neg p1]
                  by_cases p2 : k < 0
                  · rw [if_pos p2]
                  · rw [if_neg p2]
                    by_cases p3 : c < 0
                    · rw [if_pos p3]
                    · rw [if_neg p3]
                      by_cases p4 : 0 < lg_cmp (i.toInt64 + c.toInt64) (nI m).toInt64
                      · rw [if_pos p4]
                      · rw [if_neg p4, if_neg]
                        rw [q_cmp' m1']
                        rw [q_neg] at p2 p3
                        intro q
                        exact v ⟨by omega, by omega, q⟩
            · rw [if_neg w]
              have key : ∀ (A B C : Option (mm_M × Int32)), A = B → q_J C B → q_J C A := fun A B C e J => by rw [e]; exact J
              refine key _ (mm_call (fX8_meets N hy 2) (fun h r => some (h, r))) _ ?_ (j_found R 2)
              by_cases p1 : i < 0
              · rw [if_pos p1]
              · rw [if_neg p1]
                by_cases p2 : k < 0
                · rw [if_pos p2]
                · rw [if_neg p2]
                  by_cases p3 : c < 0
                  · rw [if_pos p3]
                  · rw [if_neg p3, if_pos]
                    rw [q_cmp m1]
                    rw [q_neg] at p1 p3
                    by_cases q : i.toInt + c.toInt ≤ m
                    · exact absurd ⟨by omega, by omega, q⟩ w
                    · omega
          · rw [if_neg x, if_neg x]
            exact j_found R _
        · rw [y1, y2, if_neg n10, if_pos rfl]
          exact j_found R _
      · rw [z1, z2, if_neg n10, if_pos rfl]
        exact j_found R _
    · rw [if_neg y, if_neg y]
      exact ⟨hx, hy, -2, rfl, rfl, R⟩
  · rw [if_neg z, if_neg z]
    exact ⟨hx, hy, -2, rfl, rfl, R⟩
/-! write -/
theorem j_write_L {s m n m' : Nat} {g : Nat → Nat} (hs : s < 4) (hm : m ≤ 48) (hn : n ≤ 6) (hm' : m' = if n < m then n else m) : ∀ j i hx hy, i + j = m' → q_R hx hy → hy 22 s = nI m → hy 0 2 = nI n → (∀ p, p < n → hx 15 p = nI (g p)) → (∀ p, p < n → hy 9 p = nI (g p)) → ∃ hx' hy', (∀ fuel, j < fuel → fX7_write_L74 N (nI s) (nI m') (fun h21 => some (h21, nI m')) fuel hx (nI i) = some (hx', nI m')) ∧ (∀ fuel, j < fuel → fX8_write_L40 N (nI s) (fun h21 v22 => some (h21, v22)) fuel hy (nI i) = some (hy', nI m')) ∧ q_R hx' hy' := by
  have g4 : mm_gd (nI s) 4 = true := qn_gd (by omega) (by omega)
  have c4 : (nI s).toNatClampNeg = s := qn_c (by omega)
  have hmb : m' ≤ 48 := by
    rw [hm']; split <;> omega
  intro j
  induction j with
  | zero =>
    intro i hx hy hi R h22 h2 hh hg
    refine ⟨hx, hy, ?_, ?_, R⟩
    · intro fuel hfu
      obtain ⟨f, rfl⟩ : ∃ f, fuel = f + 1 := ⟨fuel - 1, by omega⟩
      have d : nI m' ≤ nI i := (qn_le (by omega) (by omega)).mpr (by omega)
      rw [fX7_write_L74, if_pos d]
    · intro fuel hfu
      obtain ⟨f, rfl⟩ : ∃ f, fuel = f + 1 := ⟨fuel - 1, by omega⟩
      rw [fX8_write_L40, if_pos g4, c4, h22, h2]
      have hi' : i = m' := by omega
      subst hi'
      by_cases d : nI m ≤ nI i
      · rw [if_pos d]
      · have d2 : ¬ m ≤ i := fun q => d ((qn_le (by omega) (by omega)).mpr q)
        have d3 : nI n ≤ nI i := (qn_le (by omega) (by omega)).mpr (by
          by_cases q : n < m
          · rw [if_pos q] at hm'; omega
          · rw [if_neg q] at hm'; omega)
        rw [if_neg d, if_pos d3]
  | succ j ih =>
    intro i hx hy hi R h22 h2 hh hg
    have im : i < m ∧ i < n := by
      by_cases q : n < m
      · rw [if_pos q] at hm'; omega
      · rw [if_neg q] at hm'; omega
    have g6 : mm_gd (nI i) 6 = true := qn_gd (by omega) (by omega)
    have g7 : mm_gd (nI i) 7 = true := qn_gd (by omega) (by omega)
    have d1 : ¬ nI m' ≤ nI i := fun q => absurd ((qn_le (by omega) (by omega)).mp q) (by omega)
    have d2 : ¬ nI m ≤ nI i := fun q => absurd ((qn_le (by omega) (by omega)).mp q) (by omega)
    have d3 : ¬ nI n ≤ nI i := fun q => absurd ((qn_le (by omega) (by omega)).mp q) (by omega)
    obtain ⟨v', s1, s2⟩ := j_store (N := N) R hs (show i < 48 by omega) (nI (g i))
    obtain ⟨hx', hy', r1, r2, r3⟩ := ih (i + 1) _ _ (by omega) (R.item hs (show i < 48 by omega) v') (by rw [mm_up_ne _ _ _ (by decide), h22]) (by rw [mm_up_ne _ _ _ (by decide), h2]) (fun p hp => by rw [mm_up_ne _ _ _ (show 15 ≠ 38 + s by omega)]; exact hh p hp) (fun p hp => by rw [mm_up_ne _ _ _ (by decide)]; exact hg p hp)
    refine ⟨hx', hy', ?_, ?_, r3⟩
    · intro fuel hfu
      obtain ⟨f, rfl⟩ : ∃ f, fuel = f + 1 := ⟨fuel - 1, by omega⟩
      rw [fX7_write_L74, if_neg d1, if_pos g4, if_pos g6, c4, qn_c (show i < 100000 by omega), hh i im.2, s1, mm_call_some, nI_1]
      exact r1 f (by omega)
    · intro fuel hfu
      obtain ⟨f, rfl⟩ : ∃ f, fuel = f + 1 := ⟨fuel - 1, by omega⟩
      rw [fX8_write_L40, if_pos g4, c4, h22, if_neg d2, h2, if_neg d3, if_pos g7, qn_c (show i < 100000 by omega), hg i im.2, s2, mm_call_some, nI_1]
      exact r2 f (by omega)
theorem j_write (hN : 5000 ≤ N) (R : q_R hx hy) (k a : Int32) : q_J (fX7_write N hx k a) (fX8_write N hy k a) := by
  obtain ⟨n, r, law, ti, pu, ap, ho, wo, se, ns, sr, sp, sv, f0, f1, P, E, e0, e1, D, Y, SX, SY⟩ := R.all (N := N) (by omega)
  obtain ⟨h1, y1, y2, P1, E1⟩ := q8_isBehind (N := N) D Y k
  have R1 : q_R hx h1 := R.fr q_fr.rf y2
  have hn := P.1
  have hR := E.1
  unfold fX7_write fX8_write
  rw [q7_isBehind E, mm_call_some, q_b0, y1, mm_call_some, q_b0]
  by_cases z : mm_gd k (r + 1) = true
  · obtain ⟨k, hk, rfl⟩ := qg_ex z (by omega)
    rw [if_pos z, if_pos z, q7_isSheet, mm_call_some, q_b0, q8_isSheet, mm_call_some, q_b0]
    by_cases y : mm_gd a 4 = true
    · obtain ⟨s, hs, rfl⟩ := qg_ex y (by omega)
      have o := R1.sheets.2 s hs
      have n10 : ¬ (1 : Int32) = 0 := by decide
      rw [if_pos y, if_pos y, if_pos y, if_pos y, qn_c (show s < 100000 by omega)]
      rcases o.2.2.1 with ⟨z1, z2⟩ | ⟨z1, z2⟩
      · obtain ⟨m, m1, m2⟩ := o.2.2.2.1
        obtain ⟨x1, p1, p2, p3⟩ := q0_play (N := N) (k0 := k) (by omega) P E (by omega)
        obtain ⟨w1, t1, t2, t3, t4, -⟩ := q8_runs (N := N) (k0 := k) (by omega) P1 E1 (by omega)
        have R2 : q_R x1 w1 := R1.fr (p2.wk (by decide)) (q_fy.of t2 t3 (by decide))
        have h5 : x1 6 5 = nI n := by rw [p2 6 (by decide), P.2.2.2.1]
        have h22 : w1 22 s = nI m := by rw [t2 22 (by decide), m2]
        have hz : x1 (34 + s) 2 = nI m := by rw [(R2.sheets.2 s hs).2.1, h22]
        have e6 : (if nI n < nI m then nI n else nI m) = nI (if n < m then n else m) := by
          by_cases q : n < m
          · rw [if_pos q, if_pos ((qn_lt (by omega) (by omega)).mpr q)]
          · rw [if_neg q, if_neg (fun w => q ((qn_lt (by omega) (by omega)).mp w))]
        rw [z1, z2, if_pos rfl, if_neg n10, p1, mm_call_some, t1, mm_call_some, h5, hz, e6, mm_let]
        obtain ⟨hx', hy', r1, r2, r3⟩ := j_write_L (N := N) (s := s) (m := m) (n := n) (m' := if n < m then n else m) (g := s_hd n law ti ap se (fun p => pu p - ho p) k) hs m1 hn rfl (if n < m then n else m) 0 x1 w1 (by omega) R2 h22 (by rw [t3 2 (by decide), P1.2.2.2.1]) p3.1 t4.1
        have l6 : (if n < m then n else m) < N := by split <;> omega
        exact ⟨hx', hy', _, r1 N l6, r2 N l6, r3⟩
      · rw [z1, z2, if_neg n10, if_pos rfl]
        exact j_found R1 _
    · rw [if_neg y, if_neg y]
      exact ⟨hx, h1, -2, rfl, rfl, R1⟩
  · rw [if_neg z, if_neg z]
    exact ⟨hx, h1, -2, rfl, rfl, R1⟩
end Q12e
