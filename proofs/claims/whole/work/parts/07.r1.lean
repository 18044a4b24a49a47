/-! PURE 11a: texts, as the class understands them -/
def t_fit (tab : Bool) (x : Nat) : Bool := if tab = true then decide (x = 45 ∨ (48 ≤ x ∧ x ≤ 53)) else decide (48 ≤ x ∧ x ≤ 57)
def t_good (w : Nat) (tab : Bool) (b : Nat → Nat) (i : Nat) : Bool := if i % (w + 1) = w then decide (b i = 59) else t_fit tab (b i)
def t_bad (w most : Nat) (tab : Bool) (b : Nat → Nat) (i : Nat) : Bool := !(t_good w tab b i) || decide (most ≤ i / (w + 1))
/-- the FAULT of a text and 1; 0: none -/
def t_fault (w most : Nat) (tab : Bool) (b : Nat → Nat) (l : Nat) : Nat :=
  if l = 0 then 0 else if w = 0 then 1 else if s_fi (t_bad w most tab b) l 0 ≠ 0 then s_fi (t_bad w most tab b) l 0 else if l % (w + 1) = w then 0 else l + 1
theorem s_fi_0 (f : Nat → Bool) : ∀ j i, s_fi f j i = 0 → ∀ x, i ≤ x → x < i + j → f x = false := by
  intro j
  induction j with
  | zero => intro i _ x h1 h2; omega
  | succ j ih =>
    intro i h x h1 h2
    rw [s_fi] at h
    by_cases z : f i = true
    · rw [if_pos z] at h; omega
    · rw [if_neg z] at h
      by_cases e : x = i
      · subst e; simpa using z
      · exact ih (i + 1) h x (by omega) (by omega)
theorem t_fault_le {w most : Nat} {tab : Bool} {b : Nat → Nat} {l : Nat} : t_fault w most tab b l ≤ l + 1 := by
  have := s_fi_le (t_bad w most tab b) l 0
  unfold t_fault
  split
  · omega
  · split
    · omega
    · split
      · omega
      · split <;> omega
/-- of a text without a FAULT -/
theorem t_fault_0 {w most : Nat} {tab : Bool} {b : Nat → Nat} {l : Nat} (h : t_fault w most tab b l = 0) (hw : 0 < w) : l = 0 ∨ (l % (w + 1) = w ∧ (∀ i, i < l → t_good w tab b i = true) ∧ (l + 1) / (w + 1) ≤ most ∧ (l + 1) / (w + 1) * (w + 1) = l + 1) := by
  unfold t_fault at h
  by_cases h0 : l = 0
  · exact Or.inl h0
  · rw [if_neg h0, if_neg (by omega)] at h
    by_cases h1 : s_fi (t_bad w most tab b) l 0 ≠ 0
    · rw [if_pos h1] at h; exact absurd h h1
    · rw [if_neg h1] at h
      have h1 : s_fi (t_bad w most tab b) l 0 = 0 := by omega
      by_cases h2 : l % (w + 1) = w
      · refine Or.inr ⟨h2, ?_, ?_, ?_⟩
        · intro i hi
          have := s_fi_0 _ l 0 h1 i (Nat.zero_le _) (by omega)
          simp only [t_bad, Bool.or_eq_false_iff, Bool.not_eq_false'] at this
          exact this.1
        · have := s_fi_0 _ l 0 h1 (l - 1) (Nat.zero_le _) (by omega)
          simp only [t_bad, Bool.or_eq_false_iff, decide_eq_false_iff_not] at this
          have h3 := this.2
          have h4 : (l + 1) / (w + 1) = l / (w + 1) + 1 := by
            have e := Nat.div_add_mod l (w + 1)
            rw [h2] at e
            rw [show l + 1 = (w + 1) * (l / (w + 1) + 1) by rw [Nat.mul_add, Nat.mul_one]; omega, Nat.mul_div_cancel_left _ (by omega)]
          by_cases h5 : 1 ≤ w
          · have h6 : (l - 1) / (w + 1) = l / (w + 1) := by
              have e := Nat.div_add_mod l (w + 1)
              rw [h2] at e
              rw [show l - 1 = (w - 1) + (w + 1) * (l / (w + 1)) by omega, Nat.add_mul_div_left _ _ (by omega), Nat.div_eq_of_lt (by omega), Nat.zero_add]
            omega
          · omega
        · have e := Nat.div_add_mod l (w + 1)
          rw [h2] at e
          rw [show l + 1 = (w + 1) * (l / (w + 1) + 1) by rw [Nat.mul_add, Nat.mul_one]; omega, Nat.mul_div_cancel_left _ (by omega), Nat.mul_comm]
      · rw [if_neg h2] at h; omega
/-- PEOPLE and ROUNDS, by the bytes -/
def t_n (l : Nat) (b : Nat → Nat) : Nat := if t_fault 4 6 false b l = 0 then (l + 1) / 5 else 0
def t_pu (l : Nat) (b : Nat → Nat) (p : Nat) : Nat := if p < t_n l b then 10 * (b (5 * p) - 48) + (b (5 * p + 1) - 48) else 0
def t_ap (l : Nat) (b : Nat → Nat) (p : Nat) : Nat := if p < t_n l b then 10 * (b (5 * p + 2) - 48) + (b (5 * p + 3) - 48) else 0
def t_R (n l : Nat) (b : Nat → Nat) : Nat := if n = 0 then 0 else if t_fault n 8 true b l = 0 then (l + 1) / (n + 1) else 0
def t_se (n : Nat) (b : Nat → Nat) (r p : Nat) : Nat := if b (r * (n + 1) + p) = 45 then 0 else b (r * (n + 1) + p) - 47
theorem t_n_spec {l : Nat} {b : Nat → Nat} (hl : l ≤ 30) : t_n l b ≤ 6 ∧ (∀ p, p < t_n l b → 5 * p + 4 ≤ l) ∧ ∀ i, i < l → t_n l b ≠ 0 → t_good 4 false b i = true := by
  unfold t_n
  by_cases h : t_fault 4 6 false b l = 0
  · rw [if_pos h]
    rcases t_fault_0 h (by decide) with h0 | ⟨h1, h2, h3, h4⟩
    · subst h0
      exact ⟨by decide, fun p hp => absurd hp (by simp), fun i hi => absurd hi (Nat.not_lt_zero i)⟩
    · exact ⟨h3, fun p hp => by omega, fun i hi _ => h2 i hi⟩
  · rw [if_neg h]
    exact ⟨by decide, fun p hp => absurd hp (Nat.not_lt_zero p), fun i _ h => absurd rfl h⟩
theorem t_dig {l : Nat} {b : Nat → Nat} (hl : l ≤ 30) {p d : Nat} (hp : p < t_n l b) (hd : d < 4) : 48 ≤ b (5 * p + d) ∧ b (5 * p + d) ≤ 57 := by
  obtain ⟨h1, h2, h3⟩ := t_n_spec (b := b) hl
  have h4 := h2 p hp
  have h5 := h3 (5 * p + d) (by omega) (by omega)
  unfold t_good at h5
  rw [if_neg (by omega)] at h5
  simpa [t_fit] using h5
theorem t_pu_le {l : Nat} {b : Nat → Nat} (hl : l ≤ 30) (p : Nat) : t_pu l b p ≤ 99 ∧ t_ap l b p ≤ 99 := by
  unfold t_pu t_ap
  by_cases hp : p < t_n l b
  · rw [if_pos hp, if_pos hp]
    have d0 := t_dig (b := b) hl hp (show 0 < 4 by decide)
    have d1 := t_dig (b := b) hl hp (show 1 < 4 by decide)
    have d2 := t_dig (b := b) hl hp (show 2 < 4 by decide)
    have d3 := t_dig (b := b) hl hp (show 3 < 4 by decide)
    rw [Nat.add_zero] at d0
    omega
  · rw [if_neg hp, if_neg hp]; omega
theorem t_R_spec {n l : Nat} {b : Nat → Nat} : t_R n l b ≤ 8 ∧ (∀ r, r < t_R n l b → ∀ p, p < n → r * (n + 1) + p < l) ∧ (∀ r, r < t_R n l b → ∀ p, p < n → (b (r * (n + 1) + p) = 45 ∨ (48 ≤ b (r * (n + 1) + p) ∧ b (r * (n + 1) + p) ≤ 53))) := by
  unfold t_R
  by_cases hn : n = 0
  · rw [if_pos hn]
    exact ⟨by decide, fun r hr => absurd hr (Nat.not_lt_zero r), fun r hr => absurd hr (Nat.not_lt_zero r)⟩
  · rw [if_neg hn]
    by_cases h : t_fault n 8 true b l = 0
    · rw [if_pos h]
      rcases t_fault_0 h (by omega) with h0 | ⟨h1, h2, h3, h4⟩
      · subst h0
        have : (0 + 1) / (n + 1) = 0 := Nat.div_eq_of_lt (by omega)
        rw [this]
        exact ⟨by decide, fun r hr => absurd hr (Nat.not_lt_zero r), fun r hr => absurd hr (Nat.not_lt_zero r)⟩
      · have key : ∀ r, r < (l + 1) / (n + 1) → ∀ p, p < n → r * (n + 1) + p < l := by
          intro r hr p hp
          have : (r + 1) * (n + 1) ≤ (l + 1) / (n + 1) * (n + 1) := Nat.mul_le_mul_right _ hr
          rw [h4, Nat.add_mul] at this
          omega
        refine ⟨h3, key, ?_⟩
        intro r hr p hp
        have h5 := h2 _ (key r hr p hp)
        unfold t_good at h5
        have e : (r * (n + 1) + p) % (n + 1) = p := by rw [Nat.mul_comm, Nat.mul_add_mod, Nat.mod_eq_of_lt (by omega)]
        rw [e, if_neg (by omega)] at h5
        simpa [t_fit] using h5
    · rw [if_neg h]
      exact ⟨by decide, fun r hr => absurd hr (Nat.not_lt_zero r), fun r hr => absurd hr (Nat.not_lt_zero r)⟩
section Q11a
variable {N n R law ti : Nat} {pu ap ho wo : Nat → Nat} {se : Nat → Nat → Nat} {hx hy : mm_M}
theorem q7_inN {h : mm_M} {x l m : Nat} (hx : x < 100000) (hl : l < 100000) (hm : m < 100000) : fX7_isIn N h (nI x) (nI l) (nI m) = some (h, if l ≤ x ∧ x ≤ m then 1 else 0) := by
  unfold fX7_isIn
  simp only [qn_lt hx hl, qn_lt hm hx]
  by_cases a : x < l
  · rw [if_pos a, if_neg (by omega)]
  · rw [if_neg a]
    by_cases b : m < x
    · rw [if_pos b, if_neg (by omega)]
    · rw [if_neg b, if_pos (by omega)]
theorem q6_sign {x : Nat} {tab : Bool} (hb : x < 256) : fX6_isSign N hx (nI x) (if tab = true then 1 else 0) = some (hx, if t_fit tab x = true then 1 else 0) := by
  unfold fX6_isSign t_fit
  cases tab with
  | false =>
    simp only [Bool.false_eq_true, if_false, if_true]
    rw [show (48 : Int32) = nI 48 from rfl, show (57 : Int32) = nI 57 from rfl, q7_inN (by omega) (by omega) (by omega), mm_call_some, q_b01]
    simp
  | true =>
    simp only [if_true]
    rw [if_neg (by decide), show (48 : Int32) = nI 48 from rfl, show (53 : Int32) = nI 53 from rfl, show (45 : Int32) = nI 45 from rfl, q7_inN (by omega) (by omega) (by omega), mm_call_some, q_b0]
    simp only [qn_eq (show x < 100000 by omega) (show 45 < 100000 by omega)]
    by_cases a : x = 45
    · simp [a]
    · by_cases c : 48 ≤ x ∧ x ≤ 53
      · simp [a, c]
      · simp [a, c]
theorem q6_f18_L {P w most l : Nat} {tab : Bool} {b : Nat → Nat} (hw : w ≤ 6) (hm : most ≤ 8) (hl : l ≤ mx_tl P) (hl1 : hx P 1 = nI l) (hb : ∀ i, i < l → hx (P + 2) i = nI (b i) ∧ b i < 256) (k : mm_M → Option (mm_M × Int32)) :
    ∀ j fuel i, i + j = l → j < fuel → fX6_faultInRows_L18 N P (nI w) (nI most) (if tab = true then 1 else 0) k fuel hx (nI i) = if s_fi (t_bad w most tab b) j i = 0 then k hx else some (hx, nI (s_fi (t_bad w most tab b) j i - 1)) := by
  have h60 : mx_tl P ≤ 60 := by unfold mx_tl; split <;> omega
  intro j
  induction j with
  | zero =>
    intro fuel i hi hfu
    obtain ⟨f, rfl⟩ : ∃ f, fuel = f + 1 := ⟨fuel - 1, by omega⟩
    rw [fX6_faultInRows_L18, hl1, if_pos ((qn_le (by omega) (by omega)).mpr (by omega)), s_fi, if_pos rfl]
  | succ j ih =>
    intro fuel i hi hfu
    obtain ⟨f, rfl⟩ : ∃ f, fuel = f + 1 := ⟨fuel - 1, by omega⟩
    have bi := hb i (by omega)
    have r1 := ih f (i + 1) (by omega) (by omega)
    have hmod : i % (w + 1) < w + 1 := Nat.mod_lt _ (by omega)
    have hdiv : i / (w + 1) ≤ i := Nat.div_le_self _ _
    have z2 : ¬ i + 1 = 0 := by omega
    rw [fX6_faultInRows_L18, hl1, if_neg (fun q => absurd ((qn_le (by omega) (by omega)).mp q) (by omega)), nI_1, nI_1, if_pos (fun q => absurd ((qn_e0 (by omega)).mp q) (by omega)), pk_rem (by omega) (by omega) (by omega), pk_div (by omega) (by omega) (by omega), mm_let, qn_c (by omega), bi.1, q6_sign bi.2, mm_call_some, q_b0, s_fi]
    have gi : mm_gd (nI i) (mx_tl P) = true := qn_gd (by omega) (by omega)
    simp only [gi, if_true, qn_eq (show i % (w + 1) < 100000 by omega) (show w < 100000 by omega), qn_lt (show i / (w + 1) < 100000 by omega) (show most < 100000 by omega), show (59 : Int32) = nI 59 from rfl, qn_eq (show b i < 100000 by omega) (show 59 < 100000 by omega), r1]
    unfold t_bad t_good
    by_cases c1 : i % (w + 1) = w
    · by_cases c2 : b i = 59
      · by_cases c3 : i / (w + 1) < most
        · simp [c1, c2, c3, Nat.not_le.mpr c3]
        · simp [c1, c2, c3, Nat.not_lt.mp c3]
      · simp [c1, c2]
    · by_cases c2 : t_fit tab (b i) = true
      · by_cases c3 : i / (w + 1) < most
        · simp [c1, c2, c3, Nat.not_le.mpr c3]
        · simp [c1, c2, c3, Nat.not_lt.mp c3]
      · simp [c1, c2]
theorem q6_fault {P w most l : Nat} {tab : Bool} {b : Nat → Nat} (hN : 100 ≤ N) (hw : w ≤ 6) (hm : most ≤ 8) (hl : l ≤ mx_tl P) (hl1 : hx P 1 = nI l) (hb : ∀ i, i < l → hx (P + 2) i = nI (b i) ∧ b i < 256) :
    fX6_faultInRows N P hx (nI w) (nI most) (if tab = true then 1 else 0) = some (hx, q_ix (t_fault w most tab b l)) := by
  have h60 : mx_tl P ≤ 60 := by unfold mx_tl; split <;> omega
  have hle := s_fi_le (t_bad w most tab b) l 0
  unfold fX6_faultInRows t_fault
  rw [hl1]
  simp only [qn_e0 (show l < 100000 by omega)]
  by_cases h0 : l = 0
  · rw [if_pos h0, if_pos h0]
    rfl
  · rw [if_neg h0, if_neg h0]
    by_cases h1 : w = 0
    · subst h1
      rw [if_neg (by decide), if_pos rfl]
      rfl
    · have d : (0 : Int32) < nI w := (qn_lt (a := 0) (by omega) (by omega)).mpr (by omega)
      have r0 := q6_f18_L (N := N) (tab := tab) hw hm hl hl1 hb (fun h18 => if ¬ (nI w + (1 : Int32)) = 0 then (if ((h18 P 1) - (h18 P 1) / (nI w + (1 : Int32)) * (nI w + (1 : Int32))) = nI w then (some (h18, (-1 : Int32))) else (some (h18, (h18 P 1)))) else none) l N 0 (by omega) (by omega)
      rw [if_pos d, if_neg h1]
      refine Eq.trans r0 ?_
      have hmod : l % (w + 1) < w + 1 := Nat.mod_lt _ (by omega)
      rw [hl1, nI_1, if_pos (fun q => absurd ((qn_e0 (by omega)).mp q) (by omega)), pk_rem (by omega) (by omega) (by omega)]
      simp only [qn_eq (show l % (w + 1) < 100000 by omega) (show w < 100000 by omega)]
      by_cases h2 : s_fi (t_bad w most tab b) l 0 = 0
      · rw [if_pos h2, if_neg (show ¬ s_fi (t_bad w most tab b) l 0 ≠ 0 from fun q => q h2)]
        by_cases h3 : l % (w + 1) = w
        · rw [if_pos h3, if_pos h3]
          rfl
        · rw [if_neg h3, if_neg h3, q_ixs]
      · rw [if_neg h2, if_pos h2]
        unfold q_ix
        rw [if_neg h2]
/-- what the class holds of its texts -/
def q_TX (l0 l1 : Nat) (b0 b1 : Nat → Nat) (h : mm_M) : Prop := l0 ≤ 30 ∧ l1 ≤ 60 ∧ h 2 1 = nI l0 ∧ h 3 1 = nI l1 ∧ (∀ i, i < l0 → h 4 i = nI (b0 i) ∧ b0 i < 256) ∧ (∀ i, i < l1 → h 5 i = nI (b1 i) ∧ b1 i < 256)
theorem q_TX.fr {l0 l1 : Nat} {b0 b1 : Nat → Nat} {h h' : mm_M} {S : List Nat} (a : q_TX l0 l1 b0 b1 h) (f : q_fr S h h') (h2 : 2 ∉ S) (h3 : 3 ∉ S) (h4 : 4 ∉ S) (h5 : 5 ∉ S) : q_TX l0 l1 b0 b1 h' := by
  unfold q_TX at *
  rw [f 2 h2, f 3 h3, f 4 h4, f 5 h5]
  exact a
theorem q6_two {P l i : Nat} {b : Nat → Nat} (hl : l ≤ mx_tl P) (hl1 : hx P 1 = nI l) (hb : ∀ i, i < l → hx (P + 2) i = nI (b i) ∧ b i < 256) (hi : i + 1 < l) (d0 : 48 ≤ b i) (d1 : 48 ≤ b (i + 1)) :
    fX6_twoFigures N P hx (nI i) = some (hx, nI (10 * (b i - 48) + (b (i + 1) - 48))) := by
  have h60 : mx_tl P ≤ 60 := by unfold mx_tl; split <;> omega
  have e0 := hb i (by omega)
  have e1 := hb (i + 1) hi
  unfold fX6_twoFigures
  rw [if_neg (nI_pos (by omega)), nI_1, hl1, if_pos ((qn_lt (by omega) (by omega)).mpr hi), if_pos (qn_gd (by omega) (by omega)), if_pos (qn_gd (by omega) (by omega)), qn_c (by omega), qn_c (by omega), e0.1, e1.1, show (48 : Int32) = nI 48 from rfl, show (10 : Int32) = nI 10 from rfl, qn_sub d0, qn_mul, nI_add, qn_sub (by omega)]
  congr 3
  omega
theorem q2_und_L {l : Nat} {b : Nat → Nat} (hl : l ≤ 30) (hn5 : hx 6 5 = nI (t_n l b)) (hl1 : hx 2 1 = nI l) (hb : ∀ i, i < l → hx 4 i = nI (b i) ∧ b i < 256) :
    ∀ j i h, i + j = 6 → q_fr [7, 8] hx h → (∀ p, p < i → h 7 p = nI (t_pu l b p) ∧ h 8 p = nI (t_ap l b p)) →
      ∃ h', (∀ k fuel, j < fuel → fX2_understand_L38 N 2 k fuel h (nI i) = k h') ∧ q_fr [7, 8] hx h' ∧ ∀ p, p < 6 → h' 7 p = nI (t_pu l b p) ∧ h' 8 p = nI (t_ap l b p) := by
  obtain ⟨sn, sl, -⟩ := t_n_spec (b := b) hl
  intro j
  induction j with
  | zero =>
    intro i h hi hf hv
    refine ⟨h, ?_, hf, fun p hp => hv p (by omega)⟩
    intro k fuel hfu
    obtain ⟨f, rfl⟩ : ∃ f, fuel = f + 1 := ⟨fuel - 1, by omega⟩
    rw [fX2_understand_L38, if_pos ((qn_l6 (by omega)).mpr (by omega))]
  | succ j ih =>
    intro i h hi hf hv
    obtain ⟨h', e1, e2⟩ := ih (i + 1) (mm_up (mm_up h 7 i (nI (t_pu l b i))) 8 i (nI (t_ap l b i))) (by omega) (by
      intro x hx'
      have z := hf x hx'
      simp only [List.mem_cons, List.not_mem_nil, or_false, not_or] at hx'
      rw [mm_up_ne _ _ _ hx'.2, mm_up_ne _ _ _ hx'.1, z]) (by
      intro p hp
      by_cases e : p = i
      · subst e; simp [q_up]
      · have := hv p (by omega)
        simp [q_up, e, this])
    refine ⟨h', ?_, e2⟩
    intro k fuel hfu
    obtain ⟨f, rfl⟩ : ∃ f, fuel = f + 1 := ⟨fuel - 1, by omega⟩
    have r1 := e1 k f (by omega)
    rw [fX2_understand_L38, if_neg (fun q => absurd ((qn_l6 (by omega)).mp q) (by omega)), hf 6 (by decide), hn5]
    simp only [qn_le (show t_n l b < 100000 by omega) (show i < 100000 by omega)]
    have gi : mm_gd (nI i) 6 = true := qn_gd (by omega) (by omega)
    by_cases z : t_n l b ≤ i
    · rw [if_pos z, if_pos gi, mm_let, mm_let, qn_c (by omega), nI_1]
      have p0 : t_pu l b i = 0 := if_neg (by omega)
      have a0 : t_ap l b i = 0 := if_neg (by omega)
      rw [p0, a0] at r1
      exact r1
    · have hp : i < t_n l b := by omega
      have hs := sl i hp
      have d0 := t_dig (b := b) hl hp (show 0 < 4 by decide)
      have d1 := t_dig (b := b) hl hp (show 1 < 4 by decide)
      have d2 := t_dig (b := b) hl hp (show 2 < 4 by decide)
      have d3 := t_dig (b := b) hl hp (show 3 < 4 by decide)
      have l1 : h 2 1 = nI l := by rw [hf 2 (by decide), hl1]
      have w1 := q6_two (N := N) (hx := h) (P := 2) (l := l) (i := 5 * i) (b := b) (by simpa [mx_tl] using hl) l1 (fun q hq => by rw [hf 4 (by decide)]; exact hb q hq) (by omega) d0.1 d1.1
      have l2 : mm_up h 7 i (nI (t_pu l b i)) 2 1 = nI l := by rw [mm_up_ne _ _ _ (by decide), l1]
      have w2 := q6_two (N := N) (hx := mm_up h 7 i (nI (t_pu l b i))) (P := 2) (l := l) (i := 5 * i + 2) (b := b) (by simpa [mx_tl] using hl) l2 (fun q hq => by rw [mm_up_ne _ _ _ (by decide), hf 4 (by decide)]; exact hb q hq) (by omega) d2.1 d3.1
      have p0 : t_pu l b i = 10 * (b (5 * i) - 48) + (b (5 * i + 1) - 48) := if_pos hp
      have a0 : t_ap l b i = 10 * (b (5 * i + 2) - 48) + (b (5 * i + 3) - 48) := if_pos hp
      rw [← p0] at w1
      rw [show 5 * i + 2 + 1 = 5 * i + 3 from rfl, ← a0] at w2
      have m5 : nI i * 5 = nI (5 * i) := by rw [show (5 : Int32) = nI 5 from rfl, qn_mul, Nat.mul_comm]
      have m52 : nI (5 * i) + 2 = nI (5 * i + 2) := nI_add _ 2
      rw [if_neg z, m5, w1, mm_call_some, if_pos gi, mm_let, qn_c (by omega), m52, w2, mm_call_some, mm_let, nI_1]
      exact r1
/-- behind understand() of PEOPLE -/
theorem q2_und {l : Nat} {b : Nat → Nat} (hN : 100 ≤ N) (hl : l ≤ 30) (hl1 : hx 2 1 = nI l) (hb : ∀ i, i < l → hx 4 i = nI (b i) ∧ b i < 256) :
    ∃ h', fX2_understand N 2 hx = some (h', ()) ∧ q_fr [6, 7, 8] hx h' ∧ h' 6 5 = nI (t_n l b) ∧ h' 6 6 = q_ix (t_fault 4 6 false b l) ∧ h' 6 7 = hx 6 7 ∧ h' 6 8 = hx 6 8 ∧ ∀ p, p < 6 → h' 7 p = nI (t_pu l b p) ∧ h' 8 p = nI (t_ap l b p) := by
  have e0 := q6_fault (N := N) (P := 2) (w := 4) (most := 6) (tab := false) (l := l) (b := b) (hx := hx) hN (by decide) (by decide) (by simpa [mx_tl] using hl) hl1 hb
  have hfl := t_fault_le (w := 4) (most := 6) (tab := false) (b := b) (l := l)
  have f1 : q_fr [6] hx (mm_up (mm_up hx 6 6 (q_ix (t_fault 4 6 false b l))) 6 5 (nI (t_n l b))) := (q_fr.up (S := [6]) (by simp)).tr (q_fr.up (S := [6]) (by simp)) (fun _ q => q) (fun _ q => q)
  have v5 : mm_up (mm_up hx 6 6 (q_ix (t_fault 4 6 false b l))) 6 5 (nI (t_n l b)) 6 5 = nI (t_n l b) := by simp [q_up]
  obtain ⟨h', e1, e2, e3⟩ := q2_und_L (N := N) (l := l) (b := b) hl v5 (by rw [f1 2 (by decide), hl1]) (fun i hi => by rw [f1 4 (by decide)]; exact hb i hi) 6 0 _ rfl q_fr.rf (fun p hp => absurd hp (Nat.not_lt_zero p))
  refine ⟨h', ?_, f1.tr e2 (by decide) (by decide), by rw [e2 6 (by decide), v5], by rw [e2 6 (by decide)]; simp [q_up], by rw [e2 6 (by decide)]; simp [q_up], by rw [e2 6 (by decide)]; simp [q_up], e3⟩
  unfold fX2_understand
  rw [show (4 : Int32) = nI 4 from rfl, show (6 : Int32) = nI 6 from rfl, show (0 : Int32) = (if false = true then 1 else 0) from rfl, e0, mm_call_some, mm_let]
  have v66 : mm_up hx 6 6 (q_ix (t_fault 4 6 false b l)) 6 6 = q_ix (t_fault 4 6 false b l) := by simp [q_up]
  rw [v66]
  simp only [q_ix_m1 (show t_fault 4 6 false b l < 100000 by omega)]
  unfold t_n at e1
  by_cases z : t_fault 4 6 false b l = 0
  · rw [if_pos z] at e1 ⊢
    rw [mm_let, mm_up_ne _ _ _ (by decide), hl1, nI_1, show (5 : Int32) = nI 5 from rfl, pk_div (by omega) (by omega) (by omega)]
    exact e1 _ N (by omega)
  · rw [if_neg z] at e1 ⊢
    rw [mm_let]
    exact e1 _ N (by omega)
end Q11a
