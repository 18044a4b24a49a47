/-! PURE 3: the tables of the reference -/
def s_at (sc : Nat → Nat) (t : Nat) : Nat → Bool := fun q => decide (sc q = t)
theorem q_ix_m1 {b : Nat} (hb : b < 100000) : q_ix b = -1 ↔ b = 0 := by
  cases b with
  | zero => simp [q_ix0]
  | succ b => rw [q_ixs]; simp [qn_m1 (show b < 100000 by omega)]
theorem q_ix_nI {b i : Nat} (hb : b < 100000) (hi : i < 100000) : nI i = q_ix b ↔ b = i + 1 := by
  cases b with
  | zero => rw [q_ix0]; simp [qn_m1 hi]
  | succ b =>
    rw [q_ixs, qn_eq hi (by omega)]
    omega
theorem q_ix_eq {a b : Nat} (ha : a < 100000) (hb : b < 100000) : q_ix a = q_ix b ↔ a = b := by
  cases a with
  | zero =>
    rw [q_ix0, eq_comm, q_ix_m1 hb]
    omega
  | succ a =>
    rw [q_ixs, q_ix_nI hb (by omega)]
    omega
theorem q8_fa_L {N n ti t b : Nat} {g sc : Nat → Nat} {hy : mm_M} (h2 : hy 0 2 = nI n) (h8 : hy 8 1 = nI ti) (hn : n ≤ 6) (hti : ti ≤ 1) (hg : ∀ p, p < n → hy 9 p = nI (g p)) (hgb : ∀ p, p < n → g p < 100000) (hsc : ∀ p, p < n → hy 10 p = q_ix (sc p)) (hscb : ∀ p, p < n → sc p ≤ 6) (ht : t < 6) (hb : b ≤ 6) (k : mm_M → Int32 → Option (mm_M × Int32)) :
    ∀ j fuel i, i + j = n → j < fuel → fX8_firstAt_L5 N (nI t) (q_ix b) k fuel hy (q_ix (s_ah ti g (fun q => s_at sc (t + 1) q && !decide (b = q + 1)) i)) (nI i) = k hy (q_ix (s_ah ti g (fun q => s_at sc (t + 1) q && !decide (b = q + 1)) n)) := by
  intro j
  induction j with
  | zero =>
    intro fuel i hi hfu
    obtain ⟨f, rfl⟩ : ∃ f, fuel = f + 1 := ⟨fuel - 1, by omega⟩
    rw [fX8_firstAt_L5, h2, if_pos ((qn_le (by omega) (by omega)).mpr (by omega)), show i = n by omega]
  | succ j ih =>
    intro fuel i hi hfu
    obtain ⟨f, rfl⟩ : ∃ f, fuel = f + 1 := ⟨fuel - 1, by omega⟩
    have hr := ih f (i + 1) (by omega) (by omega)
    rw [s_ah] at hr
    have hle := s_ah_le ti g (fun q => s_at sc (t + 1) q && !decide (b = q + 1)) i
    generalize hae : s_ah ti g (fun q => s_at sc (t + 1) q && !decide (b = q + 1)) i = a at hr hle ⊢
    have c1 : (nI i = q_ix b) ↔ b = i + 1 := q_ix_nI (by omega) (by omega)
    have c2 : (q_ix (sc i) = nI t) ↔ sc i = t + 1 := by
      rw [eq_comm]
      exact q_ix_nI (by have := hscb i (by omega); omega) (by omega)
    have c3 : (hy 8 (Int32.toNatClampNeg 1) = 1) ↔ ti = 1 := by
      rw [show Int32.toNatClampNeg 1 = 1 from rfl, h8]
      exact qn_eq (a := ti) (b := 1) (by omega) (by omega)
    have d1 : ¬ nI n ≤ nI i := fun q => absurd ((qn_le (by omega) (by omega)).mp q) (by omega)
    have gi : mm_gd (nI i) 7 = true := qn_gd (by omega) (by omega)
    have ci : (nI i).toNatClampNeg = i := qn_c (by omega)
    rw [fX8_firstAt_L5]
    simp only [h2, d1, if_false, gi, if_true, ci, hsc i (by omega), c1, c2, c3, nI_1]
    simp only [s_at] at hr ⊢
    cases a with
    | zero =>
      rw [q_ix0]
      simp only [if_true]
      by_cases e1 : sc i = t + 1
      · by_cases e2 : b = i + 1
        · simpa [e1, e2, q_ix0] using hr
        · simpa [e1, e2, q_ixs] using hr
      · simpa [e1, q_ix0] using hr
    | succ a =>
      have ga : mm_gd (nI a) 7 = true := qn_gd (by omega) (by omega)
      have ca : (nI a).toNatClampNeg = a := qn_c (by omega)
      have e0 : ¬ nI a = -1 := qn_m1 (by omega)
      have g1 := hgb a (by omega)
      have g2 := hgb i (by omega)
      simp only [q_ixs, e0, if_false, ga, if_true, ca, hg a (by omega), hg i (by omega), qn_lt g1 g2, qn_eq g2 g1] at hr ⊢
      by_cases e1 : sc i = t + 1 <;> by_cases e2 : b = i + 1 <;> by_cases e3 : g a < g i <;> by_cases e4 : g i = g a <;> by_cases e5 : ti = 1 <;> simp [e1, e2, e3, e4, e5, q_ixs] at hr ⊢ <;> first | exact hr | (exfalso; omega)
theorem q8_fa {N n ti t b : Nat} {g sc : Nat → Nat} {hy : mm_M} (hN : 100 ≤ N) (h2 : hy 0 2 = nI n) (h8 : hy 8 1 = nI ti) (hn : n ≤ 6) (hti : ti ≤ 1) (hg : ∀ p, p < n → hy 9 p = nI (g p)) (hgb : ∀ p, p < n → g p < 100000) (hsc : ∀ p, p < n → hy 10 p = q_ix (sc p)) (hscb : ∀ p, p < n → sc p ≤ 6) (ht : t < 6) (hb : b ≤ 6) :
    fX8_firstAt N hy (nI t) (q_ix b) = some (hy, q_ix (s_ah ti g (fun q => s_at sc (t + 1) q && !decide (b = q + 1)) n)) :=
  q8_fa_L h2 h8 hn hti hg hgb hsc hscb ht hb (fun h v => some (h, v)) n N 0 (by omega) (by omega)
theorem q8_b2_L {N n law : Nat} {ap sc : Nat → Nat} {hy : mm_M} (h2 : hy 0 2 = nI n) (h8 : hy 8 0 = nI law) (hn : n ≤ 6) (hl : law ≤ 2) (hap : ∀ p, p < n → hy 4 p = nI (ap p)) (hsc : ∀ p, p < n → hy 10 p = q_ix (sc p)) (hscb : ∀ p, p < n → sc p ≤ 6) :
    ∀ j i h, i + j = n → q_fr [12] hy h → (∀ p, p < i → h 12 p = nI (if law = 2 ∧ sc p ≠ 0 then ap p else 0)) →
      ∃ h', (∀ k fuel, j < fuel → fX8_bills_L2 N k fuel h (nI i) = k h') ∧ q_fr [12] hy h' ∧ ∀ p, p < n → h' 12 p = nI (if law = 2 ∧ sc p ≠ 0 then ap p else 0) := by
  intro j
  induction j with
  | zero =>
    intro i h hi hf hv
    refine ⟨h, ?_, hf, fun p hp => hv p (by omega)⟩
    intro k fuel hfu
    obtain ⟨f, rfl⟩ : ∃ f, fuel = f + 1 := ⟨fuel - 1, by omega⟩
    rw [fX8_bills_L2, hf 0 (by simp), h2, if_pos ((qn_le (by omega) (by omega)).mpr (by omega))]
  | succ j ih =>
    intro i h hi hf hv
    obtain ⟨h', e1, e2⟩ := ih (i + 1) (mm_up h 12 i (nI (if law = 2 ∧ sc i ≠ 0 then ap i else 0))) (by omega) (hf.tr (q_fr.up (S := [12]) (by simp)) (fun _ q => q) (fun _ q => q)) (by
      intro p hp
      rw [q_up]
      by_cases hpi : p = i
      · simp [hpi]
      · simp [hpi, hv p (by omega)])
    refine ⟨h', ?_, e2⟩
    intro k fuel hfu
    obtain ⟨f, rfl⟩ : ∃ f, fuel = f + 1 := ⟨fuel - 1, by omega⟩
    have r1 := e1 k f (by omega)
    have hl2 : (h 8 (Int32.toNatClampNeg 0) = 2) ↔ law = 2 := by
      rw [show Int32.toNatClampNeg 0 = 0 from rfl, hf 8 (by simp), h8]
      exact qn_eq (a := law) (b := 2) (by omega) (by omega)
    have d1 : ¬ nI n ≤ nI i := fun q => absurd ((qn_le (by omega) (by omega)).mp q) (by omega)
    have gi : mm_gd (nI i) 7 = true := qn_gd (by omega) (by omega)
    have ci : (nI i).toNatClampNeg = i := qn_c (by omega)
    have c2 : (h 10 i = -1) ↔ sc i = 0 := by
      rw [hf 10 (by simp), hsc i (by omega)]
      exact q_ix_m1 (by have := hscb i (by omega); omega)
    rw [fX8_bills_L2]
    simp only [hf 0 (by simp), h2, d1, if_false, gi, if_true, ci, c2, hl2, mm_let, nI_1, hf 4 (by simp), hap i (by omega)]
    by_cases a1 : law = 2 <;> by_cases a2 : sc i = 0 <;> simp [a1, a2] at r1 ⊢ <;> exact r1
theorem q8_tot_L {N n t : Nat} {ap sc : Nat → Nat} {hy : mm_M} (h2 : hy 0 2 = nI n) (hn : n ≤ 6) (hap : ∀ p, p < n → hy 4 p = nI (ap p)) (hsc : ∀ p, p < n → hy 10 p = q_ix (sc p)) (hscb : ∀ p, p < n → sc p ≤ 6) (ht : t < 6) (k : mm_M → Int32 → Option (mm_M × Unit)) :
    ∀ j fuel i, i + j = n → j < fuel → fX8_bills_L74 N (nI t) k fuel hy (nI (s_tot ap (s_at sc (t + 1)) i)) (nI i) = k hy (nI (s_tot ap (s_at sc (t + 1)) n)) := by
  intro j
  induction j with
  | zero =>
    intro fuel i hi hfu
    obtain ⟨f, rfl⟩ : ∃ f, fuel = f + 1 := ⟨fuel - 1, by omega⟩
    rw [fX8_bills_L74, h2, if_pos ((qn_le (by omega) (by omega)).mpr (by omega)), show i = n by omega]
  | succ j ih =>
    intro fuel i hi hfu
    obtain ⟨f, rfl⟩ : ∃ f, fuel = f + 1 := ⟨fuel - 1, by omega⟩
    have hr := ih f (i + 1) (by omega) (by omega)
    rw [s_tot] at hr
    have d1 : ¬ nI n ≤ nI i := fun q => absurd ((qn_le (by omega) (by omega)).mp q) (by omega)
    have gi : mm_gd (nI i) 7 = true := qn_gd (by omega) (by omega)
    have ci : (nI i).toNatClampNeg = i := qn_c (by omega)
    have c2 : (q_ix (sc i) = nI t) ↔ sc i = t + 1 := by
      rw [eq_comm]
      exact q_ix_nI (by have := hscb i (by omega); omega) (by omega)
    rw [fX8_bills_L74]
    simp only [h2, d1, if_false, gi, if_true, ci, hsc i (by omega), c2, mm_let, nI_1, hap i (by omega)]
    by_cases a2 : sc i = t + 1
    · simp [s_at, a2, nI_add] at hr ⊢
      exact hr
    · simp [s_at, a2] at hr ⊢
      exact hr
theorem q8_b54_L {N n law ti : Nat} {ap g sc : Nat → Nat} {hy : mm_M} (hN : 100 ≤ N) (h2 : hy 0 2 = nI n) (h80 : hy 8 0 = nI law) (h81 : hy 8 1 = nI ti) (hn : n ≤ 6) (hl : law ≤ 1) (hti : ti ≤ 1) (hap : ∀ p, p < n → hy 4 p = nI (ap p) ∧ ap p ≤ 99) (hg : ∀ p, p < n → hy 9 p = nI (g p)) (hgb : ∀ p, p < n → g p < 100000) (hsc : ∀ p, p < n → hy 10 p = q_ix (sc p)) (hscb : ∀ p, p < n → sc p ≤ 6) :
    ∀ j t h, t + j = 6 → q_fr [12] hy h → (∀ p, p < n → h 12 p = nI (if sc p ≠ 0 ∧ sc p ≤ t then s_due n law ti ap g (s_at sc (sc p)) p else 0)) →
      ∃ h', (∀ k fuel, j < fuel → fX8_bills_L54 N k fuel h (nI t) = k h') ∧ q_fr [12] hy h' ∧ ∀ p, p < n → h' 12 p = nI (if sc p ≠ 0 then s_due n law ti ap g (s_at sc (sc p)) p else 0) := by
  intro j
  induction j with
  | zero =>
    intro t h hi hf hv
    have hi : t = 6 := by omega
    subst hi
    refine ⟨h, ?_, hf, ?_⟩
    · intro k fuel hfu
      obtain ⟨f, rfl⟩ : ∃ f, fuel = f + 1 := ⟨fuel - 1, by omega⟩
      rw [fX8_bills_L54, if_pos (by decide)]
    · intro p hp
      rw [hv p hp]
      have := hscb p hp
      by_cases a : sc p = 0 <;> simp [a, this]
  | succ j ih =>
    intro t h hi hf hv
    have s2 : h 0 2 = nI n := by rw [hf 0 (by simp), h2]
    have s80 : h 8 0 = nI law := by rw [hf 8 (by simp), h80]
    have s81 : h 8 1 = nI ti := by rw [hf 8 (by simp), h81]
    have sap : ∀ p, p < n → h 4 p = nI (ap p) := fun p hp => by rw [hf 4 (by simp), (hap p hp).1]
    have sg : ∀ p, p < n → h 9 p = nI (g p) := fun p hp => by rw [hf 9 (by simp), hg p hp]
    have ssc : ∀ p, p < n → h 10 p = q_ix (sc p) := fun p hp => by rw [hf 10 (by simp), hsc p hp]
    have htot : s_tot ap (s_at sc (t + 1)) n < 100000 := by
      have := s_tot_le (ap := ap) (sel := s_at sc (t + 1)) n (fun q hq => (hap q (by omega)).2)
      omega
    have d1 : ¬ (6 : Int32) ≤ nI t := fun q => absurd ((qn_le (a := 6) (by omega) (by omega)).mp q) (by omega)
    have d2 : ¬ (2 : Int32) ≤ h 8 (Int32.toNatClampNeg 0) := fun q => by
      rw [show Int32.toNatClampNeg 0 = 0 from rfl, s80] at q
      exact absurd ((qn_le (a := 2) (by omega) (by omega)).mp q) (by omega)
    have st : ∀ k f, j < f → fX8_bills_L54 N k (f + 1) h (nI t) = mm_call (fX8_firstAt N h (nI t) (-1 : Int32)) (fun h19 r20 => if r20 = (-1 : Int32) then (fX8_bills_L54 N k f h19 (nI t + 1)) else (mm_call (fX8_firstAt N h19 (nI t) r20) (fun h23 r24 => if (h23 8 (0 : Int32).toNatClampNeg) = (1 : Int32) then (if r24 = (-1 : Int32) then (if mm_gd r20 7 = true then (mm_let (mm_up h23 12 r20.toNatClampNeg (nI (s_tot ap (s_at sc (t + 1)) n))) (fun h34 => fX8_bills_L54 N k f h34 (nI t + 1))) else none) else (mm_let (((nI (s_tot ap (s_at sc (t + 1)) n)) / (2 : Int32))) (fun x36 => if mm_gd r20 7 = true then (mm_let (mm_up h23 12 r20.toNatClampNeg x36) (fun h38 => if mm_gd r24 7 = true then (mm_let (mm_up h38 12 r24.toNatClampNeg ((nI (s_tot ap (s_at sc (t + 1)) n)) - x36)) (fun h41 => fX8_bills_L54 N k f h41 (nI t + 1))) else none)) else none))) else (if mm_gd r20 7 = true then (mm_let (mm_up h23 12 r20.toNatClampNeg (nI (s_tot ap (s_at sc (t + 1)) n))) (fun h28 => if r24 = (-1 : Int32) then (fX8_bills_L54 N k f h28 (nI t + 1)) else (if mm_gd r24 7 = true then (mm_let (mm_up h28 12 r24.toNatClampNeg ((nI (s_tot ap (s_at sc (t + 1)) n)) - (nI (s_tot ap (s_at sc (t + 1)) n)))) (fun h31 => fX8_bills_L54 N k f h31 (nI t + 1))) else none))) else none)))) := by
      intro k f hfu
      rw [fX8_bills_L54, if_neg d1, if_neg d2]
      exact q8_tot_L s2 hn sap ssc hscb (by omega) _ n N 0 (by omega) (by omega)
    have f0 : s_ah ti g (fun q => s_at sc (t + 1) q && !decide (0 = q + 1)) n = s_ah ti g (s_at sc (t + 1)) n := s_ah_congr ti n (fun q hq => by simp) (fun _ _ => rfl)
    have st0 : fX8_firstAt N h (nI t) (-1 : Int32) = some (h, q_ix (s_ah ti g (s_at sc (t + 1)) n)) := by
      rw [← f0]
      exact q8_fa hN s2 s81 hn hti sg hgb ssc hscb (by omega) (b := 0) (by omega)
    have a1 := s_ah_le ti g (s_at sc (t + 1)) n
    have a2 := s_ah_sel ti g (s_at sc (t + 1)) n
    rcases hr : s_ah ti g (s_at sc (t + 1)) n with _ | r
    · obtain ⟨h', e1, e2⟩ := ih (t + 1) h (by omega) hf (by
        intro p hp
        rw [hv p hp]
        have hne : sc p ≠ t + 1 := fun q => s_ah_any ti g (s_at sc (t + 1)) n p hp (by simp [s_at, q]) hr
        by_cases q1 : sc p ≤ t
        · simp [q1, show sc p ≤ t + 1 by omega]
        · simp [q1, show ¬ sc p ≤ t + 1 by omega])
      refine ⟨h', ?_, e2⟩
      intro k fuel hfu
      obtain ⟨f, rfl⟩ : ∃ f, fuel = f + 1 := ⟨fuel - 1, by omega⟩
      rw [st k f (by omega), st0, mm_call_some, hr, q_ix0, if_pos rfl, nI_1]
      exact e1 k f (by omega)
    · rw [hr] at a1 a2
      simp only [Nat.add_sub_cancel, s_at, decide_eq_true_eq] at a2
      have hrs : sc r = t + 1 := a2 (by omega)
      have st1 : fX8_firstAt N h (nI t) (nI r) = some (h, q_ix (s_ah ti g (fun q => s_at sc (t + 1) q && !decide (q = r)) n)) := by
        have f1 : s_ah ti g (fun q => s_at sc (t + 1) q && !decide (r + 1 = q + 1)) n = s_ah ti g (fun q => s_at sc (t + 1) q && !decide (q = r)) n := s_ah_congr ti n (fun q hq => by
          by_cases q1 : q = r
          · simp [q1]
          · simp [q1, show ¬ r = q from fun z => q1 z.symm]) (fun _ _ => rfl)
        rw [← f1]
        exact q8_fa hN s2 s81 hn hti sg hgb ssc hscb (by omega) (b := r + 1) (by omega)
      have b3 : s_ah ti g (fun q => s_at sc (t + 1) q && !decide (q + 1 = r + 1)) n = s_ah ti g (fun q => s_at sc (t + 1) q && !decide (q = r)) n := s_ah_congr ti n (fun q hq => by simp) (fun _ _ => rfl)
      have b1 := s_ah_le ti g (fun q => s_at sc (t + 1) q && !decide (q = r)) n
      have b2 := s_ah_sel ti g (fun q => s_at sc (t + 1) q && !decide (q = r)) n
      have key : ∃ h1, (∀ k f, j < f → fX8_bills_L54 N k (f + 1) h (nI t) = fX8_bills_L54 N k f h1 (nI (t + 1))) ∧ q_fr [12] h h1 ∧ ∀ p, p < n → h1 12 p = if sc p = t + 1 then nI (s_due n law ti ap g (s_at sc (t + 1)) p) else h 12 p := by
        generalize htt : s_tot ap (s_at sc (t + 1)) n = tot at htot st
        have z0 : ∀ p, p < n → sc p = t + 1 → h 12 p = nI 0 := by
          intro p hp hs
          rw [hv p hp]
          simp [hs, show ¬ t + 1 ≤ t by omega]
        have l1 : (h 8 (Int32.toNatClampNeg 0) = 1) ↔ law = 1 := by
          rw [show Int32.toNatClampNeg 0 = 0 from rfl, s80]
          exact qn_eq (a := law) (b := 1) (by omega) (by omega)
        have gr : mm_gd (nI r) 7 = true := qn_gd (by omega) (by omega)
        have cr : (nI r).toNatClampNeg = r := qn_c (by omega)
        have er : ¬ nI r = -1 := qn_m1 (by omega)
        rcases hr2 : s_ah ti g (fun q => s_at sc (t + 1) q && !decide (q = r)) n with _ | s
        · refine ⟨mm_up h 12 r (nI tot), ?_, q_fr.up (by simp), ?_⟩
          · intro k f hfu
            rw [st k f hfu, st0, mm_call_some, hr, q_ixs, if_neg er, st1, mm_call_some, hr2, q_ix0]
            simp only [l1, if_true, gr, cr, mm_let, nI_1]
            by_cases hl1 : law = 1 <;> simp [hl1]
          · intro p hp
            rw [q_up]
            by_cases hpr : p = r
            · subst hpr
              by_cases hl1 : law = 1 <;> simp [hrs, s_due, hr, hr2, htt, hl1, show ¬ law = 2 by omega]
            · have hpr' : ¬ r = p := fun q => hpr q.symm
              by_cases hs : sc p = t + 1
              · simp [hpr, hs, z0 p hp hs, s_due, hr, b3, hr2, hpr', show ¬ law = 2 by omega]
              · simp [hpr, hs]
        · rw [hr2] at b1 b2
          simp only [Nat.add_sub_cancel, Bool.and_eq_true, Bool.not_eq_true', decide_eq_false_iff_not, s_at, decide_eq_true_eq] at b2
          obtain ⟨b4, b5⟩ := b2 (by omega)
          have gs : mm_gd (nI s) 7 = true := qn_gd (by omega) (by omega)
          have cs : (nI s).toNatClampNeg = s := qn_c (by omega)
          have es : ¬ nI s = -1 := qn_m1 (by omega)
          refine ⟨mm_up (mm_up h 12 r (nI (if law = 1 then tot / 2 else tot))) 12 s (nI (if law = 1 then tot - tot / 2 else 0)), ?_, (q_fr.up (S := [12]) (by simp)).tr (q_fr.up (S := [12]) (by simp)) (fun _ q => q) (fun _ q => q), ?_⟩
          · intro k f hfu
            rw [st k f hfu, st0, mm_call_some, hr, q_ixs, if_neg er, st1, mm_call_some, hr2, q_ixs]
            simp only [l1, if_true, gr, cr, gs, cs, es, if_false, mm_let, nI_1, q_half htot, qn_sub (Nat.div_le_self tot 2), qn_sub (Nat.le_refl tot), Nat.sub_self]
            by_cases hl1 : law = 1 <;> simp [hl1]
          · intro p hp
            rw [q_up, q_up]
            by_cases hps : p = s
            · subst hps
              have b5' : ¬ r = p := fun q => b5 q.symm
              by_cases hl1 : law = 1 <;> simp [b4, s_due, hr, b3, hr2, htt, b5', hl1, show ¬ law = 2 by omega]
            · by_cases hpr : p = r
              · subst hpr
                by_cases hl1 : law = 1 <;> simp [hps, hrs, s_due, hr, hr2, htt, hl1, show ¬ law = 2 by omega]
              · have hpr' : ¬ r = p := fun q => hpr q.symm
                have hps' : ¬ s = p := fun q => hps q.symm
                by_cases hs : sc p = t + 1
                · simp [hpr, hps, hs, z0 p hp hs, s_due, hr, b3, hr2, hpr', hps', show ¬ law = 2 by omega]
                · simp [hpr, hps, hs]
      obtain ⟨h1, k1, k2, k3⟩ := key
      obtain ⟨h', e1, e2⟩ := ih (t + 1) h1 (by omega) (hf.tr k2 (fun _ q => q) (fun _ q => q)) (by
        intro p hp
        rw [k3 p hp]
        by_cases hs : sc p = t + 1
        · simp [hs]
        · rw [if_neg hs, hv p hp]
          by_cases q1 : sc p ≤ t
          · simp [q1, show sc p ≤ t + 1 by omega]
          · simp [q1, show ¬ sc p ≤ t + 1 by omega])
      refine ⟨h', ?_, e2⟩
      intro k fuel hfu
      obtain ⟨f, rfl⟩ : ∃ f, fuel = f + 1 := ⟨fuel - 1, by omega⟩
      rw [k1 k f (by omega)]
      exact e1 k f (by omega)
theorem q8_b189_L {N n : Nat} {g ow : Nat → Nat} {hy : mm_M} (h2 : hy 0 2 = nI n) (hn : n ≤ 6) (hg : ∀ p, p < n → hy 9 p = nI (g p)) (hgb : ∀ p, p < n → g p < 100000) (how : ∀ p, p < n → hy 12 p = nI (ow p)) (hob : ∀ p, p < n → ow p < 100000) :
    ∀ j i h, i + j = n → q_fr [11] hy h → (∀ p, p < i → h 11 p = nI (min (ow p) (g p))) →
      ∃ h', (∀ k fuel, j < fuel → fX8_bills_L189 N k fuel h (nI i) = k h') ∧ q_fr [11] hy h' ∧ ∀ p, p < n → h' 11 p = nI (min (ow p) (g p)) := by
  intro j
  induction j with
  | zero =>
    intro i h hi hf hv
    refine ⟨h, ?_, hf, fun p hp => hv p (by omega)⟩
    intro k fuel hfu
    obtain ⟨f, rfl⟩ : ∃ f, fuel = f + 1 := ⟨fuel - 1, by omega⟩
    rw [fX8_bills_L189, hf 0 (by simp), h2, if_pos ((qn_le (by omega) (by omega)).mpr (by omega))]
  | succ j ih =>
    intro i h hi hf hv
    obtain ⟨h', e1, e2⟩ := ih (i + 1) (mm_up h 11 i (nI (min (ow i) (g i)))) (by omega) (hf.tr (q_fr.up (S := [11]) (by simp)) (fun _ q => q) (fun _ q => q)) (by
      intro p hp
      rw [q_up]
      by_cases hpi : p = i
      · simp [hpi]
      · simp [hpi, hv p (by omega)])
    refine ⟨h', ?_, e2⟩
    intro k fuel hfu
    obtain ⟨f, rfl⟩ : ∃ f, fuel = f + 1 := ⟨fuel - 1, by omega⟩
    have r1 := e1 k f (by omega)
    have d1 : ¬ nI n ≤ nI i := fun q => absurd ((qn_le (by omega) (by omega)).mp q) (by omega)
    have gi : mm_gd (nI i) 7 = true := qn_gd (by omega) (by omega)
    have ci : (nI i).toNatClampNeg = i := qn_c (by omega)
    have g1 := hgb i (by omega)
    have g2 := hob i (by omega)
    rw [fX8_bills_L189]
    simp only [hf 0 (by simp), h2, d1, if_false, gi, if_true, ci, mm_let, nI_1, hf 9 (by simp), hg i (by omega), hf 12 (by simp), how i (by omega), qn_le g1 g2]
    by_cases a1 : g i ≤ ow i
    · rw [Nat.min_eq_right a1] at r1
      simpa [a1] using r1
    · rw [Nat.min_eq_left (by omega)] at r1
      simpa [a1] using r1
theorem s_due_le {n law ti : Nat} {ap g : Nat → Nat} {sel : Nat → Bool} {p : Nat} (hp : p < n) (hap : ∀ q, q < n → ap q ≤ 99) : s_due n law ti ap g sel p ≤ 99 * n := by
  have h1 := s_tot_le (ap := ap) (sel := sel) n hap
  have h2 := hap p hp
  have h3 : 99 ≤ 99 * n := by omega
  have h4 := Nat.div_le_self (s_tot ap sel n) 2
  unfold s_due
  split
  · omega
  · split
    · split <;> omega
    · split <;> omega
/-- what bills() leaves: owes and pays of all -/
theorem q8_bills {N n law ti : Nat} {ap g sc : Nat → Nat} {hy : mm_M} (hN : 100 ≤ N) (h2 : hy 0 2 = nI n) (h80 : hy 8 0 = nI law) (h81 : hy 8 1 = nI ti) (hn : n ≤ 6) (hl : law ≤ 2) (hti : ti ≤ 1) (hap : ∀ p, p < n → hy 4 p = nI (ap p) ∧ ap p ≤ 99) (hg : ∀ p, p < n → hy 9 p = nI (g p)) (hgb : ∀ p, p < n → g p < 100000) (hsc : ∀ p, p < n → hy 10 p = q_ix (sc p)) (hscb : ∀ p, p < n → sc p ≤ 6) :
    ∃ h', fX8_bills N hy = some (h', ()) ∧ q_fr [11, 12] hy h' ∧ (∀ p, p < n → h' 12 p = nI (if sc p ≠ 0 then s_due n law ti ap g (s_at sc (sc p)) p else 0)) ∧ ∀ p, p < n → h' 11 p = nI (if sc p ≠ 0 then s_pay n law ti ap g (s_at sc (sc p)) p else 0) := by
  obtain ⟨h1, a1, a2, a3⟩ := q8_b2_L (N := N) h2 h80 hn hl (fun p hp => (hap p hp).1) hsc hscb n 0 hy (by omega) q_fr.rf (fun p hp => absurd hp (Nat.not_lt_zero p))
  have s2 : h1 0 2 = nI n := by rw [a2 0 (by simp), h2]
  have s80 : h1 8 0 = nI law := by rw [a2 8 (by simp), h80]
  have s81 : h1 8 1 = nI ti := by rw [a2 8 (by simp), h81]
  have sap : ∀ p, p < n → h1 4 p = nI (ap p) ∧ ap p ≤ 99 := fun p hp => by rw [a2 4 (by simp)]; exact hap p hp
  have sg : ∀ p, p < n → h1 9 p = nI (g p) := fun p hp => by rw [a2 9 (by simp), hg p hp]
  have ssc : ∀ p, p < n → h1 10 p = q_ix (sc p) := fun p hp => by rw [a2 10 (by simp), hsc p hp]
  have key : ∃ h3, (∀ k, fX8_bills_L54 N k N h1 (nI 0) = k h3) ∧ q_fr [12] h1 h3 ∧ ∀ p, p < n → h3 12 p = nI (if sc p ≠ 0 then s_due n law ti ap g (s_at sc (sc p)) p else 0) := by
    by_cases hl2 : law = 2
    · subst hl2
      refine ⟨h1, ?_, q_fr.rf, ?_⟩
      · intro k
        obtain ⟨f, rfl⟩ : ∃ f, N = f + 1 := ⟨N - 1, by omega⟩
        rw [fX8_bills_L54, if_neg (by decide), if_pos]
        rw [show Int32.toNatClampNeg 0 = 0 from rfl, s80]
        decide
      · intro p hp
        rw [a3 p hp]
        by_cases q : sc p = 0 <;> simp [q, s_due]
    · obtain ⟨h3, b1, b2, b3⟩ := q8_b54_L (N := N) hN s2 s80 s81 hn (by omega) hti sap sg hgb ssc hscb 6 0 h1 (by omega) q_fr.rf (by
        intro p hp
        rw [a3 p hp]
        by_cases q : sc p = 0 <;> simp [q, hl2])
      exact ⟨h3, fun k => b1 k N (by omega), b2, b3⟩
  obtain ⟨h3, b1, b2, b3⟩ := key
  obtain ⟨h4, c1, c2, c3⟩ := q8_b189_L (N := N) (n := n) (g := g) (ow := fun p => if sc p ≠ 0 then s_due n law ti ap g (s_at sc (sc p)) p else 0) (hy := h3) (by rw [b2 0 (by simp), s2]) hn (fun p hp => by rw [b2 9 (by simp), sg p hp]) hgb b3 (by
    intro p hp
    have := s_due_le (n := n) (law := law) (ti := ti) (g := g) (sel := s_at sc (sc p)) hp (fun q hq => (hap q hq).2)
    split <;> omega) n 0 h3 (by omega) q_fr.rf (fun p hp => absurd hp (Nat.not_lt_zero p))
  refine ⟨h4, ?_, (a2.tr b2 (U := [11, 12]) (by simp) (by simp)).tr c2 (fun _ q => q) (by simp), ?_, ?_⟩
  · unfold fX8_bills
    rw [show (0 : Int32) = nI 0 from rfl, a1 _ N (by omega), b1, c1 _ N (by omega)]
  · intro p hp
    rw [c2 12 (by simp), b3 p hp]
  · intro p hp
    rw [c3 p hp]
    by_cases q : sc p = 0 <;> simp [q, s_pay]
