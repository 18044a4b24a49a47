section Q9
variable {N n R law ti : Nat} {pu ap ho wo : Nat → Nat} {se : Nat → Nat → Nat} {hx hy : mm_M} {c1 c2 : Nat → Int32} {f0 f1 : Nat}
/-! the class -/
theorem qr_ix64 {p s : Nat} : nI p * 64 + nI s = nI (64 * p + s) := by
  rw [show (64 : Int32) = nI 64 from rfl, qn_mul, nI_add, Nat.mul_comm]
theorem q3_g42_L {s : Nat} {p1 : Int32} {g : Nat → Nat} (P : q_PX n law ti pu ap ho wo hx) (hs : s < 64) (hg : ∀ p, p < n → hx 22 p = nI (g p)) (hgb : ∀ p, p < n → g p < 100000) (hd : ∀ p, p < n → s.testBit p = true → hx 11 p = nI (s_due n law ti ap g (fun q => s.testBit q) p)) :
    ∀ j i h, i + j = n → q_fr [23] hx h → (∀ p, p < i → s.testBit p = true → h 23 (64 * p + s) = nI (wo p) - nI (s_pay n law ti ap g (fun q => s.testBit q) p)) → (∀ p s', s' < 64 → s' ≠ s → h 23 (64 * p + s') = hx 23 (64 * p + s')) →
      ∃ h', (∀ k fuel, j < fuel → fX3_findGains_L42 N p1 (nI s) k fuel h (nI i) = k h') ∧ q_fr [23] hx h' ∧ (∀ p, p < n → s.testBit p = true → h' 23 (64 * p + s) = nI (wo p) - nI (s_pay n law ti ap g (fun q => s.testBit q) p)) ∧ (∀ p s', s' < 64 → s' ≠ s → h' 23 (64 * p + s') = hx 23 (64 * p + s')) := by
  have hn := P.1
  intro j
  induction j with
  | zero =>
    intro i h hi hf hv hw
    refine ⟨h, ?_, hf, fun p hp => hv p (by omega), hw⟩
    intro k fuel hfu
    obtain ⟨fu, rfl⟩ : ∃ f, fuel = f + 1 := ⟨fuel - 1, by omega⟩
    rw [fX3_findGains_L42, hf 6 (by decide), P.2.2.2.1, if_pos ((qn_le (by omega) (by omega)).mpr (by omega))]
  | succ j ih =>
    intro i h hi hf hv hw
    obtain ⟨x, hx0⟩ : ∃ x, x = (h 10 i - (if h 22 i < h 11 i then h 22 i else h 11 i)) := ⟨_, rfl⟩
    have hxv : s.testBit i = true → x = nI (wo i) - nI (s_pay n law ti ap g (fun q => s.testBit q) i) := by
      intro hb
      have w := s_due_le (n := n) (law := law) (ti := ti) (ap := ap) (g := g) (sel := fun q => s.testBit q) (p := i) (by omega) (fun q hq => (P.2.2.2.2.2.2.2.1 q (by omega)).2)
      have w2 := hgb i (by omega)
      rw [hx0, hf 10 (by decide), hf 22 (by decide), hf 11 (by decide), (P.2.2.2.2.2.2.2.2.2 i (by omega)).1, hg i (by omega), hd i (by omega) hb]
      simp only [qn_lt w2 (show s_due n law ti ap g (fun q => s.testBit q) i < 100000 by omega), s_pay]
      by_cases z : g i < s_due n law ti ap g (fun q => s.testBit q) i
      · rw [if_pos z, Nat.min_eq_right (by omega)]
      · rw [if_neg z, Nat.min_eq_left (by omega)]
    obtain ⟨h', e1, e2⟩ := ih (i + 1) (mm_up h 23 (64 * i + s) x) (by omega) (hf.tr (q_fr.up (S := [23]) (by simp)) (fun _ q => q) (fun _ q => q)) (by
      intro p hp hb
      rw [q_up]
      by_cases e : p = i
      · subst e; simp [hxv hb]
      · rw [if_pos rfl, if_neg (by omega)]
        exact hv p (by omega) hb) (by
      intro p s' h1 h2
      rw [q_up, if_pos rfl, if_neg (by omega)]
      exact hw p s' h1 h2)
    refine ⟨h', ?_, e2⟩
    intro k fuel hfu
    obtain ⟨fu, rfl⟩ : ∃ f, fuel = f + 1 := ⟨fuel - 1, by omega⟩
    rw [fX3_findGains_L42, hf 6 (by decide), P.2.2.2.1, if_neg (fun q => absurd ((qn_le (by omega) (by omega)).mp q) (by omega)), if_pos (qn_gd (by omega) (by omega)), qr_ix64, if_pos (qn_gd (by omega) (by omega)), mm_let, qn_c (by omega), qn_c (by omega), nI_1, ← hx0]
    exact e1 k fu (by omega)
theorem q3_g23_L {M : Nat} (hN : 200 ≤ N) (P : q_PX n law ti pu ap ho wo hx) (hM : M ≤ 64) (hg : ∀ p, p < n → hx 22 p = nI (pu p - ho p)) :
    ∀ j s h, s + j = M → q_fr [11, 23] hx h → (∀ s', 0 < s' → s' < s → ∀ p, p < n → s'.testBit p = true → h 23 (64 * p + s') = nI (wo p) - nI (s_pay n law ti ap (fun p => pu p - ho p) (fun q => s'.testBit q) p)) →
      ∃ h', (∀ k fuel, j < fuel → fX3_findGains_L23 N (nI M) k fuel h (nI s) = k h') ∧ q_fr [11, 23] hx h' ∧ (∀ s', 0 < s' → s' < M → ∀ p, p < n → s'.testBit p = true → h' 23 (64 * p + s') = nI (wo p) - nI (s_pay n law ti ap (fun p => pu p - ho p) (fun q => s'.testBit q) p)) := by
  have hn := P.1
  intro j
  induction j with
  | zero =>
    intro s h hi hf hv
    refine ⟨h, ?_, hf, fun s' h1 h2 => hv s' h1 (by omega)⟩
    intro k fuel hfu
    obtain ⟨fu, rfl⟩ : ∃ f, fuel = f + 1 := ⟨fuel - 1, by omega⟩
    rw [fX3_findGains_L23, if_pos ((qn_le (by omega) (by omega)).mpr (by omega))]
  | succ j ih =>
    intro s h hi hf hv
    have P1 := P.fr hf (by decide) (by decide) (by decide) (by decide) (by decide)
    have sg : ∀ p, p < n → h 22 p = nI (pu p - ho p) := fun p hp => by rw [hf 22 (by decide), hg p hp]
    have gb : ∀ p, p < n → pu p - ho p < 100000 := fun p hp => by
      have := (P.2.2.2.2.2.2.1 p (by omega)).2
      omega
    obtain ⟨h1, a1, a2, a3, a4⟩ := q2_charge (N := N) (c1 := 22) (m := s) (g := fun p => pu p - ho p) (by omega) (by decide) P1.2.2.2.1 P1.2.2.2.2.1 P1.2.2.2.2.2.1 hn P.2.1 P.2.2.1 (fun p hp => P1.2.2.2.2.2.2.2.1 p (by omega)) sg gb (by omega)
    have P2 := P1.fr a2 (by decide) (by decide) (by decide) (by decide) (by decide)
    obtain ⟨h2, b1, b2, b3, b4⟩ := q3_g42_L (N := N) (s := s) (p1 := nI M) (g := fun p => pu p - ho p) P2 (by omega) (fun p hp => by rw [a2 22 (by decide), sg p hp]) gb a3 n 0 h1 (by omega) q_fr.rf (fun p hp => absurd hp (Nat.not_lt_zero p)) (fun _ _ _ _ => rfl)
    obtain ⟨h', e1, e2⟩ := ih (s + 1) h2 (by omega) ((hf.tr a2 (U := [11, 23]) (fun _ q => q) (by decide)).tr b2 (fun _ q => q) (by decide)) (by
      intro s' h0 h1 p hp hb
      by_cases e : s' = s
      · subst e; exact b3 p hp hb
      · rw [b4 p s' (by omega) e, a2 23 (by decide)]
        exact hv s' h0 (by omega) p hp hb)
    refine ⟨h', ?_, e2⟩
    intro k fuel hfu
    obtain ⟨fu, rfl⟩ : ∃ f, fuel = f + 1 := ⟨fuel - 1, by omega⟩
    rw [fX3_findGains_L23, if_neg (fun q => absurd ((qn_le (by omega) (by omega)).mp q) (by omega)), a1, mm_call_some, show (0 : Int32) = nI 0 from rfl, b1 _ N (by omega), nI_1]
    exact e1 k fu (by omega)
/-- the gains by groups -/
def q_ga (n law ti : Nat) (pu ap ho wo : Nat → Nat) (h : mm_M) : Prop :=
  ∀ s, 0 < s → s < 2 ^ n → ∀ p, p < n → s.testBit p = true → h 23 (64 * p + s) = nI (wo p) - nI (s_pay n law ti ap (fun p => pu p - ho p) (fun q => s.testBit q) p)
theorem q3_gains (hN : 200 ≤ N) (P : q_PX n law ti pu ap ho wo hx) :
    ∃ h', fX3_findGains N hx = some (h', ()) ∧ q_fr [11, 22, 23] hx h' ∧ q_ga n law ti pu ap ho wo h' := by
  have hn := P.1
  obtain ⟨h1, a1, a2, a3⟩ := q2_tell (N := N) (c0 := 22) (by omega) (by decide) (by decide) P.2.2.2.2.2.2.1 P.2.2.2.2.2.2.2.2.1
  have P1 := P.fr a2 (by decide) (by decide) (by decide) (by decide) (by decide)
  obtain ⟨h2, b1, b2, b3⟩ := q3_g23_L (N := N) (M := 2 ^ n) hN P1 (qr_p4 hn).2 (fun p hp => a3 p (by omega)) (2 ^ n - 1) 1 h1 (by have := Nat.two_pow_pos n; omega) q_fr.rf (fun s' h0 h1 => absurd h1 (by omega))
  refine ⟨h2, ?_, a2.tr b2 (by decide) (by decide), b3⟩
  have := (qr_p4 hn).2
  unfold fX3_findGains
  rw [a1, mm_call_some, P1.2.2.2.1, qr_grps n hn, mm_let, show (1 : Int32) = nI 1 from rfl, b1 _ N (by omega)]
/-- who makes each choice, as bits -/
def q_chs (n row i : Nat) (h : mm_M) : Prop := ∀ c, c < 4 → ∃ m, m < 64 ∧ h 24 c = nI m ∧ ∀ q, q < 6 → m.testBit q = decide (q < i ∧ s_ch n row q = c)
theorem q3_choice {row p : Nat} (P : q_PX n law ti pu ap ho wo hx) (hr : row < 4096) (hp : p < n) : fX3_choiceIn N hx (nI row) (nI p) = some (hx, nI (s_ch n row p)) := by
  unfold fX3_choiceIn
  rw [P.2.2.2.1, qr_choice P.1 hr hp]
theorem q3_r2_L {row : Nat} {p1 : Int32} :
    ∀ j i h, i + j = 4 → q_fr [24] hx h → (∀ c, c < i → h 24 c = nI 0) →
      ∃ h', (∀ k fuel, j < fuel → fX3_isRest_L2 N p1 k fuel h (nI i) = k h') ∧ q_fr [24] hx h' ∧ q_chs n row 0 h' := by
  intro j
  induction j with
  | zero =>
    intro i h hi hf hv
    refine ⟨h, ?_, hf, fun c hc => ⟨0, by decide, hv c (by omega), fun q hq => by simp⟩⟩
    intro k fuel hfu
    obtain ⟨fu, rfl⟩ : ∃ f, fuel = f + 1 := ⟨fuel - 1, by omega⟩
    have d1 : (4 : Int32) ≤ nI i := (qn_le (a := 4) (b := i) (by omega) (by omega)).mpr (by omega)
    rw [fX3_isRest_L2, if_pos d1]
  | succ j ih =>
    intro i h hi hf hv
    obtain ⟨h', e1, e2⟩ := ih (i + 1) (mm_up h 24 i 0) (by omega) (hf.tr (q_fr.up (S := [24]) (by simp)) (fun _ q => q) (fun _ q => q)) (by
      intro c hc
      rw [q_up]
      by_cases e : c = i
      · subst e; simp [nI_0]
      · simp [e, hv c (by omega)])
    refine ⟨h', ?_, e2⟩
    intro k fuel hfu
    obtain ⟨fu, rfl⟩ : ∃ f, fuel = f + 1 := ⟨fuel - 1, by omega⟩
    have d1 : ¬ (4 : Int32) ≤ nI i := fun q => absurd ((qn_le (a := 4) (b := i) (by omega) (by omega)).mp q) (by omega)
    rw [fX3_isRest_L2, if_neg d1, if_pos (qn_gd (by omega) (by omega)), mm_let, qn_c (by omega), nI_1]
    exact e1 k fu (by omega)
theorem q3_r22_L {row : Nat} (P : q_PX n law ti pu ap ho wo hx) (hr : row < 4096) :
    ∀ j i h, i + j = n → q_fr [24] hx h → q_chs n row i h →
      ∃ h', (∀ k fuel, j < fuel → fX3_isRest_L22 N (nI row) k fuel h (nI i) = k h') ∧ q_fr [24] hx h' ∧ q_chs n row n h' := by
  have hn := P.1
  intro j
  induction j with
  | zero =>
    intro i h hi hf hv
    have hi : i = n := by omega
    subst hi
    refine ⟨h, ?_, hf, hv⟩
    intro k fuel hfu
    obtain ⟨fu, rfl⟩ : ∃ f, fuel = f + 1 := ⟨fuel - 1, by omega⟩
    rw [fX3_isRest_L22, hf 6 (by decide), P.2.2.2.1, if_pos ((qn_le (by omega) (by omega)).mpr (by omega))]
  | succ j ih =>
    intro i h hi hf hv
    have P1 := P.fr hf (by decide) (by decide) (by decide) (by decide) (by decide)
    have hc := s_ch_lt n row i
    obtain ⟨m, m1, m2, m3⟩ := hv (s_ch n row i) hc
    obtain ⟨h', e1, e2⟩ := ih (i + 1) (mm_up h 24 (s_ch n row i) (nI (m ||| 1 <<< i))) (by omega) (hf.tr (q_fr.up (S := [24]) (by simp)) (fun _ q => q) (fun _ q => q)) (by
      intro c hc
      rw [q_up, if_pos rfl]
      by_cases e : c = s_ch n row i
      · subst e
        refine ⟨m ||| 1 <<< i, qb_or_lt m m1 i (by omega), by rw [if_pos rfl], ?_⟩
        intro q hq
        rw [qb_or_bit m m1 i (by omega) q hq, m3 q hq]
        by_cases e2 : q = i
        · subst e2; simp
        · have : (q < i + 1) ↔ q < i := by omega
          simp [e2, this]
      · obtain ⟨m', w1, w2, w3⟩ := hv c hc
        refine ⟨m', w1, by rw [if_neg e, w2], ?_⟩
        intro q hq
        rw [w3 q hq]
        by_cases e2 : q = i
        · subst e2
          have : ¬ s_ch n row q = c := fun z => e z.symm
          simp [this]
        · have : (q < i + 1) ↔ q < i := by omega
          simp [this])
    refine ⟨h', ?_, e2⟩
    intro k fuel hfu
    obtain ⟨fu, rfl⟩ : ∃ f, fuel = f + 1 := ⟨fuel - 1, by omega⟩
    rw [fX3_isRest_L22, hf 6 (by decide), P.2.2.2.1, if_neg (fun q => absurd ((qn_le (by omega) (by omega)).mp q) (by omega)), q3_choice P1 hr (by omega), mm_call_some, if_pos (qn_gd hc (by omega)), mm_let, qn_c (by omega), m2, qb_or m m1 i (by omega), nI_1]
    exact e1 k fu (by omega)
theorem q3_gainBy {row p c : Nat} (P : q_PX n law ti pu ap ho wo hx) (hg : q_ga n law ti pu ap ho wo hx) (hv : q_chs n row n hx) (hp : p < n) (hc : c < 4) :
    fX3_gainBy N hx (nI c) (nI p) = some (hx, s_gn n law ti ap (fun p => pu p - ho p) wo (va_up (s_ch n row) p c) p) := by
  have hn := P.1
  obtain ⟨m, m1, m2, m3⟩ := hv c hc
  have hup : va_up (s_ch n row) p c p = c := by simp [va_up]
  unfold fX3_gainBy s_gn
  rw [hup]
  by_cases h0 : c = 0
  · subst h0
    rw [if_pos nI_0, if_pos rfl]
  · rw [if_neg (fun q => h0 ((qn_e0 (by omega)).mp q)), if_neg h0, if_pos (qn_gd hc (by omega)), qn_c (by omega), m2, qb_or m m1 p (by omega), qr_ix64]
    have ml := qb_or_lt m m1 p (by omega)
    rw [if_pos (qn_gd (by omega) (by omega)), qn_c (by omega)]
    have hb : (m ||| 1 <<< p).testBit p = true := by rw [qb_or_bit m m1 p (by omega) p (by omega)]; simp
    have hpos : 0 < m ||| 1 <<< p := by
      rcases Nat.eq_zero_or_pos (m ||| 1 <<< p) with z | z
      · rw [z] at hb; simp at hb
      · exact z
    have hlt : m ||| 1 <<< p < 2 ^ n := by
      apply Nat.lt_pow_two_of_testBit
      intro q hq
      by_cases h6 : q < 6
      · rw [qb_or_bit m m1 p (by omega) q h6, m3 q h6]
        have e1 : ¬ q < n := by omega
        have e2 : ¬ q = p := by omega
        simp [e1, e2]
      · exact Nat.testBit_lt_two_pow (Nat.lt_of_lt_of_le ml (by
          have : 2 ^ 6 ≤ 2 ^ q := Nat.pow_le_pow_right (by decide) (by omega)
          simpa using this))
    have pw : s_pay n law ti ap (fun p => pu p - ho p) (fun q => (m ||| 1 <<< p).testBit q) p = s_pay n law ti ap (fun p => pu p - ho p) (s_at (va_up (s_ch n row) p c) c) p := by
      refine s_pay_congr hp (fun q hq => ?_) (fun _ _ => rfl)
      rw [qb_or_bit m m1 p (by omega) q (by omega), m3 q (by omega)]
      by_cases e : q = p
      · subst e; simp [s_at, va_up]
      · simp [s_at, va_up, e, hq]
    rw [hg _ hpos hlt p hp hb, pw]
theorem q3_r84_L {row p : Nat} {p1 p3 : Int32} (P : q_PX n law ti pu ap ho wo hx) (hg : q_ga n law ti pu ap ho wo hx) (hv : q_chs n row n hx) (hp : p < n) (k : mm_M → Option (mm_M × Int32)) :
    ∀ j fuel i, i + j = 4 → j < fuel → fX3_isRest_L84 N p1 (nI p) p3 k fuel hx (nI i) = if s_al (fun c => decide (s_gn n law ti ap (fun p => pu p - ho p) wo (va_up (s_ch n row) p c) p ≤ p3)) j i = true then k hx else some (hx, 0) := by
  have hn := P.1
  intro j
  induction j with
  | zero =>
    intro fuel i hi hfu
    obtain ⟨fu, rfl⟩ : ∃ f, fuel = f + 1 := ⟨fuel - 1, by omega⟩
    have d1 : (4 : Int32) ≤ nI i := (qn_le (a := 4) (b := i) (by omega) (by omega)).mpr (by omega)
    rw [fX3_isRest_L84, if_pos d1, s_al, if_pos rfl]
  | succ j ih =>
    intro fuel i hi hfu
    obtain ⟨fu, rfl⟩ : ∃ f, fuel = f + 1 := ⟨fuel - 1, by omega⟩
    have d1 : ¬ (4 : Int32) ≤ nI i := fun q => absurd ((qn_le (a := 4) (b := i) (by omega) (by omega)).mp q) (by omega)
    rw [fX3_isRest_L84, if_neg d1, q3_gainBy P hg hv hp (by omega), mm_call_some, s_al, nI_1, ih fu (i + 1) (by omega) (by omega)]
    by_cases z : s_gn n law ti ap (fun p => pu p - ho p) wo (va_up (s_ch n row) p i) p ≤ p3 <;> simp [z]
theorem q3_r58_L {row : Nat} (hN : 200 ≤ N) (P : q_PX n law ti pu ap ho wo hx) (hg : q_ga n law ti pu ap ho wo hx) (hv : q_chs n row n hx) (hr : row < 4096) (k : mm_M → Option (mm_M × Int32)) :
    ∀ j fuel i, i + j = n → j < fuel → fX3_isRest_L58 N (nI row) k fuel hx (nI i) = if s_al (fun p => s_al (fun c => decide (s_gn n law ti ap (fun p => pu p - ho p) wo (va_up (s_ch n row) p c) p ≤ s_gn n law ti ap (fun p => pu p - ho p) wo (s_ch n row) p)) 4 0) j i = true then k hx else some (hx, 0) := by
  have hn := P.1
  intro j
  induction j with
  | zero =>
    intro fuel i hi hfu
    obtain ⟨fu, rfl⟩ : ∃ f, fuel = f + 1 := ⟨fuel - 1, by omega⟩
    rw [fX3_isRest_L58, P.2.2.2.1, if_pos ((qn_le (by omega) (by omega)).mpr (by omega)), s_al, if_pos rfl]
  | succ j ih =>
    intro fuel i hi hfu
    obtain ⟨fu, rfl⟩ : ∃ f, fuel = f + 1 := ⟨fuel - 1, by omega⟩
    have hup : va_up (s_ch n row) i (s_ch n row i) = s_ch n row := by
      funext q
      unfold va_up
      by_cases e : q = i
      · subst e; simp
      · simp [e]
    have es : ∀ F : Nat → Bool, s_al F (j + 1) i = (F i && s_al F j (i + 1)) := fun _ => rfl
    rw [fX3_isRest_L58, P.2.2.2.1, if_neg (fun q => absurd ((qn_le (by omega) (by omega)).mp q) (by omega)), q3_choice P hr (by omega), mm_call_some, q3_gainBy P hg hv (by omega) (s_ch_lt n row i), mm_call_some, hup, show (0 : Int32) = nI 0 from rfl, q3_r84_L P hg hv (by omega) _ 4 N 0 rfl (by omega), nI_1, ih fu (i + 1) (by omega) (by omega), es]
    by_cases z : s_al (fun c => decide (s_gn n law ti ap (fun p => pu p - ho p) wo (va_up (s_ch n row) i c) i ≤ s_gn n law ti ap (fun p => pu p - ho p) wo (s_ch n row) i)) 4 0 = true <;> simp [z, nI_0]
theorem q_ga.fr {h h' : mm_M} {S : List Nat} (a : q_ga n law ti pu ap ho wo h) (f : q_fr S h h') (h23 : 23 ∉ S) : q_ga n law ti pu ap ho wo h' := by
  unfold q_ga at *
  rw [f 23 h23]
  exact a
theorem q3_isRest {row : Nat} (hN : 200 ≤ N) (P : q_PX n law ti pu ap ho wo hx) (hg : q_ga n law ti pu ap ho wo hx) (hr : row < 4096) :
    ∃ h', fX3_isRest N hx (nI row) = some (h', if s_re n law ti ap (fun p => pu p - ho p) wo row = true then 1 else 0) ∧ q_fr [24] hx h' := by
  have hn := P.1
  obtain ⟨h1, a1, a2, a3⟩ := q3_r2_L (N := N) (n := n) (row := row) (p1 := nI row) 4 0 hx rfl q_fr.rf (fun c hc => absurd hc (Nat.not_lt_zero c))
  obtain ⟨h2, b1, b2, b3⟩ := q3_r22_L (N := N) (row := row) (P.fr a2 (by decide) (by decide) (by decide) (by decide) (by decide)) hr n 0 h1 (by omega) q_fr.rf a3
  have f2 : q_fr [24] hx h2 := a2.tr b2 (fun _ q => q) (fun _ q => q)
  refine ⟨h2, ?_, f2⟩
  unfold fX3_isRest
  rw [show (0 : Int32) = nI 0 from rfl, a1 _ N (by omega), b1 _ N (by omega), q3_r58_L (N := N) hN (P.fr f2 (by decide) (by decide) (by decide) (by decide) (by decide)) (hg.fr f2 (by decide)) b3 hr _ n N 0 (by omega) (by omega)]
  unfold s_re
  split <;> rfl
theorem q3_f28_L {M : Nat} (hN : 200 ≤ N) (P : q_PX n law ti pu ap ho wo hx) (hg : q_ga n law ti pu ap ho wo hx) (hM : M ≤ 4096) :
    ∀ j i h, i + j = M → q_fr [21, 24] hx h → h 21 8 = nI (s_ct (s_re n law ti ap (fun p => pu p - ho p) wo) i) → h 21 9 = q_ix (s_ff (s_re n law ti ap (fun p => pu p - ho p) wo) i) →
      ∃ h', (∀ k fuel, j < fuel → fX3_findRests_L28 N (nI M) k fuel h (nI i) = k h') ∧ q_fr [21, 24] hx h' ∧ h' 21 8 = nI (s_ct (s_re n law ti ap (fun p => pu p - ho p) wo) M) ∧ h' 21 9 = q_ix (s_ff (s_re n law ti ap (fun p => pu p - ho p) wo) M) := by
  have hn := P.1
  intro j
  induction j with
  | zero =>
    intro i h hi hf h8 h9
    have hi : i = M := by omega
    subst hi
    refine ⟨h, ?_, hf, h8, h9⟩
    intro k fuel hfu
    obtain ⟨fu, rfl⟩ : ∃ f, fuel = f + 1 := ⟨fuel - 1, by omega⟩
    rw [fX3_findRests_L28, if_pos ((qn_le (by omega) (by omega)).mpr (by omega))]
  | succ j ih =>
    intro i h hi hf h8 h9
    obtain ⟨h1, a1, a2⟩ := q3_isRest (N := N) (row := i) hN (P.fr hf (by decide) (by decide) (by decide) (by decide) (by decide)) (hg.fr hf (by decide)) (by omega)
    have hct := s_ct_le (s_re n law ti ap (fun p => pu p - ho p) wo) i
    have f1 : q_fr [21, 24] hx h1 := hf.tr a2 (fun _ q => q) (by decide)
    have v8 : h1 21 8 = nI (s_ct (s_re n law ti ap (fun p => pu p - ho p) wo) i) := by rw [a2 21 (by decide), h8]
    have v9 : h1 21 9 = q_ix (s_ff (s_re n law ti ap (fun p => pu p - ho p) wo) i) := by rw [a2 21 (by decide), h9]
    have st : ∀ k fu, fX3_findRests_L28 N (nI M) k (fu + 1) h (nI i) = if s_re n law ti ap (fun p => pu p - ho p) wo i = true then (if s_ct (s_re n law ti ap (fun p => pu p - ho p) wo) i = 0 then fX3_findRests_L28 N (nI M) k fu (mm_up (mm_up h1 21 9 (nI i)) 21 8 (nI (s_ct (s_re n law ti ap (fun p => pu p - ho p) wo) i + 1))) (nI (i + 1)) else fX3_findRests_L28 N (nI M) k fu (mm_up (mm_up h1 21 9 (q_ix (s_ff (s_re n law ti ap (fun p => pu p - ho p) wo) i))) 21 8 (nI (s_ct (s_re n law ti ap (fun p => pu p - ho p) wo) i + 1))) (nI (i + 1))) else fX3_findRests_L28 N (nI M) k fu h1 (nI (i + 1)) := by
      intro k fu
      rw [fX3_findRests_L28, if_neg (fun q => absurd ((qn_le (by omega) (by omega)).mp q) (by omega)), a1, mm_call_some, q_b0, v8, v9]
      simp only [qn_e0 (show s_ct (s_re n law ti ap (fun p => pu p - ho p) wo) i < 100000 by omega), mm_let, nI_1, q_up, if_true, show ¬ (8 : Nat) = 9 by decide, if_false, v8]
    by_cases z : s_re n law ti ap (fun p => pu p - ho p) wo i = true
    · obtain ⟨h', e1, e2⟩ := ih (i + 1) (mm_up (mm_up h1 21 9 (q_ix (s_ff (s_re n law ti ap (fun p => pu p - ho p) wo) (i + 1)))) 21 8 (nI (s_ct (s_re n law ti ap (fun p => pu p - ho p) wo) i + 1))) (by omega) ((f1.tr (q_fr.up (S := [21]) (by simp)) (U := [21, 24]) (fun _ q => q) (by decide)).tr (q_fr.up (S := [21]) (by simp)) (fun _ q => q) (by decide)) (by simp [q_up, s_ct, z]) (by simp [q_up])
      refine ⟨h', ?_, e2⟩
      intro k fuel hfu
      obtain ⟨fu, rfl⟩ : ∃ f, fuel = f + 1 := ⟨fuel - 1, by omega⟩
      rw [st, if_pos z]
      have r1 := e1 k fu (by omega)
      by_cases z2 : s_ct (s_re n law ti ap (fun p => pu p - ho p) wo) i = 0
      · have z3 := (s_ct_ff _ _).mp z2
        rw [s_ff, if_pos ⟨z3, z⟩, q_ixs] at r1
        rw [if_pos z2]
        exact r1
      · have z3 := mt (s_ct_ff _ _).mpr z2
        rw [s_ff, if_neg (fun q => z3 q.1)] at r1
        rw [if_neg z2]
        exact r1
    · obtain ⟨h', e1, e2⟩ := ih (i + 1) h1 (by omega) f1 (by rw [v8, s_ct, if_neg z, Nat.add_zero]) (by rw [v9, s_ff, if_neg (fun q => z q.2)])
      refine ⟨h', ?_, e2⟩
      intro k fuel hfu
      obtain ⟨fu, rfl⟩ : ∃ f, fuel = f + 1 := ⟨fuel - 1, by omega⟩
      rw [st, if_neg z]
      exact e1 k fu (by omega)
/-- how many rests, and the first -/
abbrev s_rn (n law ti : Nat) (pu ap ho wo : Nat → Nat) : Nat := s_ct (s_re n law ti ap (fun p => pu p - ho p) wo) (4 ^ n)
abbrev s_rf (n law ti : Nat) (pu ap ho wo : Nat → Nat) : Nat := s_ff (s_re n law ti ap (fun p => pu p - ho p) wo) (4 ^ n)
theorem q3_rests (hN : 5000 ≤ N) (P : q_PX n law ti pu ap ho wo hx) :
    ∃ h', fX3_findRests N hx = some (h', ()) ∧ q_fr q_SX hx h' ∧ h' 21 8 = nI (s_rn n law ti pu ap ho wo) ∧ h' 21 9 = q_ix (s_rf n law ti pu ap ho wo) := by
  have hn := P.1
  obtain ⟨h1, a1, a2, a3⟩ := q3_gains (N := N) (by omega) P
  have f2 : q_fr q_SX hx (mm_up (mm_up h1 21 8 0) 21 9 (-1)) := (a2.tr (q_fr.up (S := [21]) (by simp)) (U := q_SX) (by decide) (by decide)).tr (q_fr.up (S := [21]) (by simp)) (fun _ q => q) (by decide)
  have P2 := P.fr f2 (by decide) (by decide) (by decide) (by decide) (by decide)
  have g2 : q_ga n law ti pu ap ho wo (mm_up (mm_up h1 21 8 0) 21 9 (-1)) := by
    unfold q_ga at *
    rw [mm_up_ne _ _ _ (by decide), mm_up_ne _ _ _ (by decide)]
    exact a3
  obtain ⟨h', e1, e2, e3, e4⟩ := q3_f28_L (N := N) (M := 4 ^ n) (by omega) P2 g2 (qr_p4 hn).1 (4 ^ n) 0 _ (by omega) q_fr.rf (by simp [q_up, s_ct, nI_0]) (by simp [q_up, s_ff, q_ix0])
  refine ⟨h', ?_, f2.tr e2 (fun _ q => q) (by decide), e3, e4⟩
  have := (qr_p4 hn).1
  unfold fX3_findRests
  rw [a1, mm_call_some, mm_let, mm_let, P2.2.2.2.1, qr_rows n hn, mm_let, show (0 : Int32) = nI 0 from rfl, show mm_up (mm_up h1 21 8 (nI 0)) 21 9 (-1) = mm_up (mm_up h1 21 8 0) 21 9 (-1) from rfl, e1 _ N (by omega)]
/-- the table of one by the first rest -/
def s_rt (n law ti : Nat) (pu ap ho wo : Nat → Nat) (p : Nat) : Int32 := if s_rf n law ti pu ap ho wo = 0 then -1 else q_ix (s_ch n (s_rf n law ti pu ap ho wo - 1) p)
theorem q3_first {p : Nat} (P : q_PX n law ti pu ap ho wo hx) (h9 : hx 21 9 = q_ix (s_rf n law ti pu ap ho wo)) (hp : p < n) : fX3_firstRestTable N hx (nI p) = some (hx, s_rt n law ti pu ap ho wo p) := by
  have hn := P.1
  have h1 := s_ff_le (s_re n law ti ap (fun p => pu p - ho p) wo) (4 ^ n)
  have h2 := (qr_p4 hn).1
  unfold fX3_firstRestTable s_rt
  rw [h9]
  rcases hz : s_rf n law ti pu ap ho wo with _ | r
  · rw [q_ix0, if_pos rfl, if_pos rfl]
  · rw [show s_ff (s_re n law ti ap (fun p => pu p - ho p) wo) (4 ^ n) = s_rf n law ti pu ap ho wo from rfl, hz] at h1
    rw [q_ixs, if_neg (qn_m1 (by omega)), if_neg (by omega), q3_choice P (by omega) hp, mm_call_some, q_ixm, Nat.add_sub_cancel]
theorem q7_rest (hN : 5000 ≤ N) (P : q_PX n law ti pu ap ho wo hx) (a : Int32) :
    ∃ h', fX7_rest N hx a = some (h', if a = -1 then nI (s_rn n law ti pu ap ho wo) else if mm_gd a n = true then s_rt n law ti pu ap ho wo a.toNatClampNeg else -2) ∧ q_fr q_SX hx h' := by
  have hn := P.1
  unfold fX7_rest
  by_cases w : a = -1
  · obtain ⟨h', e1, e2, e3, e4⟩ := q3_rests (N := N) hN P
    exact ⟨h', by rw [if_pos w, if_pos w, e1, mm_call_some, e3], e2⟩
  · rw [if_neg w, if_neg w, q7_isPerson P, mm_call_some, q_b0]
    by_cases z : mm_gd a n = true
    · obtain ⟨p, hp, rfl⟩ := qg_ex z (by omega)
      obtain ⟨h', e1, e2, e3, e4⟩ := q3_rests (N := N) hN P
      have P1 := P.fr e2 (by decide) (by decide) (by decide) (by decide) (by decide)
      exact ⟨h', by rw [if_pos z, if_pos z, e1, mm_call_some, q3_first P1 e4 hp, mm_call_some, qn_c (by omega)], e2⟩
    · exact ⟨hx, by rw [if_neg z, if_neg z], q_fr.rf⟩
end Q9
