/-! PURE 4: the evening of the class -/
/-- what one owes and pays in a round, by hands and seats (0: away, else the table and 1) -/
def s_ow (n law ti : Nat) (ap g sc : Nat → Nat) (p : Nat) : Nat := if sc p ≠ 0 then s_due n law ti ap g (s_at sc (sc p)) p else 0
def s_rp (n law ti : Nat) (ap g sc : Nat → Nat) (p : Nat) : Nat := if sc p ≠ 0 then s_pay n law ti ap g (s_at sc (sc p)) p else 0
def s_hd (n law ti : Nat) (ap : Nat → Nat) (se : Nat → Nat → Nat) (g : Nat → Nat) : Nat → Nat → Nat
  | 0, p => g p
  | k + 1, p => s_hd n law ti ap se g k p - s_rp n law ti ap (fun q => s_hd n law ti ap se g k q) (se k) p
def s_pd (n law ti : Nat) (ap : Nat → Nat) (se : Nat → Nat → Nat) (g : Nat → Nat) : Nat → Nat → Nat
  | 0, _ => 0
  | k + 1, p => s_pd n law ti ap se g k p + s_rp n law ti ap (fun q => s_hd n law ti ap se g k q) (se k) p
def s_et (ap : Nat → Nat) (se : Nat → Nat → Nat) : Nat → Nat → Nat
  | 0, _ => 0
  | k + 1, p => s_et ap se k p + if se k p = 0 then 0 else ap p
def s_sh (n law ti : Nat) (ap : Nat → Nat) (se : Nat → Nat → Nat) (g : Nat → Nat) : Nat → Nat → Nat
  | 0, _ => 0
  | k + 1, p => s_sh n law ti ap se g k p + (s_ow n law ti ap (fun q => s_hd n law ti ap se g k q) (se k) p - s_rp n law ti ap (fun q => s_hd n law ti ap se g k q) (se k) p)
theorem s_due_congr {n law ti : Nat} {ap g g' : Nat → Nat} {sel sel' : Nat → Bool} {p : Nat} (hs : ∀ q, q < n → sel q = sel' q) (hg : ∀ q, q < n → g q = g' q) : s_due n law ti ap g sel p = s_due n law ti ap g' sel' p := by
  unfold s_due
  rw [s_ah_congr ti n hs hg, s_tot_congr n hs (fun _ _ => rfl), s_ah_congr ti (sel := fun q => sel q && !decide (q = p)) (sel' := fun q => sel' q && !decide (q = p)) n (fun q hq => by simp only [hs q hq]) hg,
    s_ah_congr ti (sel := fun q => sel q && !decide (q + 1 = s_ah ti g' sel' n)) (sel' := fun q => sel' q && !decide (q + 1 = s_ah ti g' sel' n)) n (fun q hq => by simp only [hs q hq]) hg]
theorem s_ow_lt {n law ti : Nat} {ap g sc : Nat → Nat} {p : Nat} (hn : n ≤ 6) (hp : p < n) (hap : ∀ q, q < n → ap q ≤ 99) : s_ow n law ti ap g sc p ≤ 594 := by
  unfold s_ow
  split
  · have := s_due_le (law := law) (ti := ti) (g := g) (sel := s_at sc (sc p)) hp hap
    omega
  · omega
theorem s_rp_le (n law ti : Nat) (ap g sc : Nat → Nat) (p : Nat) : s_rp n law ti ap g sc p ≤ g p := by
  unfold s_rp s_pay
  split <;> omega
theorem s_rp_ow (n law ti : Nat) (ap g sc : Nat → Nat) (p : Nat) : s_rp n law ti ap g sc p = min (s_ow n law ti ap g sc p) (g p) := by
  unfold s_rp s_ow s_pay
  split <;> simp
/-- the PEOPLE of the class, as its cells tell them -/
def q_PX (n law ti : Nat) (pu ap ho wo : Nat → Nat) (h : mm_M) : Prop :=
  n ≤ 6 ∧ law ≤ 2 ∧ ti ≤ 1 ∧ h 6 5 = nI n ∧ h 6 7 = nI law ∧ h 6 8 = nI ti ∧ (∀ p, p < 6 → h 7 p = nI (pu p) ∧ pu p ≤ 99) ∧ (∀ p, p < 6 → h 8 p = nI (ap p) ∧ ap p ≤ 99) ∧ (∀ p, p < 6 → h 9 p = nI (ho p) ∧ ho p ≤ 99) ∧ (∀ p, p < 6 → h 10 p = nI (wo p) ∧ wo p ≤ 99)
/-- its ROUNDS -/
def q_EX (n R : Nat) (se : Nat → Nat → Nat) (h : mm_M) : Prop :=
  R ≤ 8 ∧ h 12 9 = nI R ∧ (∀ r, r < R → ∀ p, p < n → h 13 (6 * r + p) = q_ix (se r p) ∧ se r p ≤ 6) ∧ ∀ r, r < R → ∀ t, t < 6 → ∃ m, m < 64 ∧ h 14 (6 * r + t) = nI m ∧ ∀ p, p < 6 → m.testBit p = decide (p < n ∧ se r p = t + 1)
theorem q_PX.fr {n law ti : Nat} {pu ap ho wo : Nat → Nat} {h h' : mm_M} {S : List Nat} (a : q_PX n law ti pu ap ho wo h) (f : q_fr S h h') (h6 : 6 ∉ S) (h7 : 7 ∉ S) (h8 : 8 ∉ S) (h9 : 9 ∉ S) (h10 : 10 ∉ S) : q_PX n law ti pu ap ho wo h' := by
  unfold q_PX at *
  rw [f 6 h6, f 7 h7, f 8 h8, f 9 h9, f 10 h10]
  exact a
theorem q_EX.fr {n R : Nat} {se : Nat → Nat → Nat} {h h' : mm_M} {S : List Nat} (a : q_EX n R se h) (f : q_fr S h h') (h12 : 12 ∉ S) (h13 : 13 ∉ S) (h14 : 14 ∉ S) : q_EX n R se h' := by
  unfold q_EX at *
  rw [f 12 h12, f 13 h13, f 14 h14]
  exact a
theorem qn_ix {a b : Nat} : nI a * 6 + nI b = nI (6 * a + b) := by
  rw [show (6 : Int32) = nI 6 from rfl, qn_mul, nI_add, Nat.mul_comm]
theorem q0_seated {N r t n R : Nat} {se : Nat → Nat → Nat} {h : mm_M} (e : q_EX n R se h) (hr : r < R) (ht : t < 6) : ∃ m, m < 64 ∧ fX0_seatedAt N h (nI r) (nI t) = some (h, nI m) ∧ h 14 (6 * r + t) = nI m ∧ ∀ p, p < 6 → m.testBit p = decide (p < n ∧ se r p = t + 1) := by
  obtain ⟨m, h1, h2, h3⟩ := e.2.2.2 r hr t ht
  have hR := e.1
  refine ⟨m, h1, ?_, h2, h3⟩
  unfold fX0_seatedAt
  rw [qn_ix, if_pos (qn_gd (by omega) (by omega)), qn_c (by omega), h2]
theorem q0_table {N r p n R : Nat} {se : Nat → Nat → Nat} {h : mm_M} (e : q_EX n R se h) (hn : n ≤ 6) (hr : r < R) (hp : p < n) : fX0_tableOf N h (nI r) (nI p) = some (h, q_ix (se r p)) := by
  have hR := e.1
  unfold fX0_tableOf
  rw [qn_ix, if_pos (qn_gd (by omega) (by omega)), qn_c (by omega), (e.2.2.1 r hr p hp).1]
theorem q0_r2_L {N n R law ti r : Nat} {pu ap ho wo g : Nat → Nat} {se : Nat → Nat → Nat} {hx : mm_M} (hN : 100 ≤ N) (P : q_PX n law ti pu ap ho wo hx) (E : q_EX n R se hx) (hr : r < R) (hg : ∀ p, p < n → hx 15 p = nI (g p)) (hgb : ∀ p, p < n → g p < 100000) :
    ∀ j t h, t + j = 6 → q_fr [11] hx h → (∀ p, p < n → se r p ≠ 0 → se r p ≤ t → h 11 p = nI (s_due n law ti ap g (s_at (se r) (se r p)) p)) →
      ∃ h', (∀ k fuel, j < fuel → fX0_playRound_L2 N (nI r) k fuel h (nI t) = k h') ∧ q_fr [11] hx h' ∧ ∀ p, p < n → se r p ≠ 0 → h' 11 p = nI (s_due n law ti ap g (s_at (se r) (se r p)) p) := by
  intro j
  induction j with
  | zero =>
    intro t h hi hf hv
    refine ⟨h, ?_, hf, fun p hp h0 => hv p hp h0 (by have := (E.2.2.1 r hr p hp).2; omega)⟩
    intro k fuel hfu
    obtain ⟨f, rfl⟩ : ∃ f, fuel = f + 1 := ⟨fuel - 1, by omega⟩
    rw [fX0_playRound_L2, if_pos ((qn_l6 (by omega)).mpr (by omega))]
  | succ j ih =>
    intro t h hi hf hv
    have P1 := P.fr hf (by simp) (by simp) (by simp) (by simp) (by simp)
    have E1 := E.fr hf (by simp) (by simp) (by simp)
    obtain ⟨m, hm, m1, -, m3⟩ := q0_seated (N := N) (t := t) E1 hr (by omega)
    obtain ⟨hn, hl, hti, p5, p7, p8, p70, p80, p90, p100⟩ := P1
    have sg : ∀ p, p < n → h 15 p = nI (g p) := fun p hp => by rw [hf 15 (by simp), hg p hp]
    obtain ⟨h1, c1, c2, c3, c4⟩ := q2_charge (N := N) (c1 := 15) (m := m) hN (by decide) p5 p7 p8 hn hl hti (fun p hp => p80 p (by omega)) sg hgb hm
    have d1 : ¬ (6 : Int32) ≤ nI t := fun q => absurd ((qn_le (a := 6) (by omega) (by omega)).mp q) (by omega)
    by_cases hm0 : m = 0
    · subst hm0
      obtain ⟨h', e1, e2⟩ := ih (t + 1) h (by omega) hf (by
        intro p hp h0 hle
        have := m3 p (by omega)
        simp [hp] at this
        exact hv p hp h0 (by omega))
      refine ⟨h', ?_, e2⟩
      intro k fuel hfu
      obtain ⟨f, rfl⟩ : ∃ f, fuel = f + 1 := ⟨fuel - 1, by omega⟩
      rw [fX0_playRound_L2, if_neg d1, m1, mm_call_some, if_pos nI_0, nI_1]
      exact e1 k f (by omega)
    · obtain ⟨h', e1, e2⟩ := ih (t + 1) h1 (by omega) (hf.tr c2 (fun _ q => q) (fun _ q => q)) (by
        intro p hp h0 hle
        by_cases q : se r p = t + 1
        · have b : m.testBit p = true := by rw [m3 p (by omega)]; simp [hp, q]
          rw [c3 p hp b]
          congr 1
          refine s_due_congr (fun z hz => ?_) (fun _ _ => rfl)
          rw [m3 z (by omega), s_at, q]
          simp [hz]
        · rw [c4 p (by omega) (by
            rintro ⟨-, b⟩
            rw [m3 p (by omega)] at b
            simp [q] at b)]
          exact hv p hp h0 (by omega))
      refine ⟨h', ?_, e2⟩
      intro k fuel hfu
      obtain ⟨f, rfl⟩ : ∃ f, fuel = f + 1 := ⟨fuel - 1, by omega⟩
      rw [fX0_playRound_L2, if_neg d1, m1, mm_call_some, if_neg (fun q => hm0 ((qn_e0 (by omega)).mp q)), m1, mm_call_some, c1, mm_call_some, nI_1]
      exact e1 k f (by omega)
def q_in (n r i : Nat) (g a b c rp ow et : Nat → Nat) (hx h : mm_M) : Prop :=
  q_fr [15, 16, 17, 18, 19, 20] hx h ∧ (∀ p, p < n → h 15 p = nI (if p < i then g p - rp p else g p)) ∧ (∀ p, p < n → h 16 p = nI (if p < i then a p + rp p else a p)) ∧ (∀ p, p < n → h 17 p = nI (if p < i then b p + et p else b p)) ∧ (∀ p, p < n → h 18 p = nI (if p < i then c p + (ow p - rp p) else c p)) ∧ (∀ p, p < i → h 19 p = nI (rp p)) ∧ ∀ j, h 20 j = if 6 * r ≤ j ∧ j < 6 * r + i then nI (rp (j - 6 * r)) else hx 20 j
theorem q_in_step {n r i : Nat} {g a b c rp ow et : Nat → Nat} {hx h : mm_M} (q : q_in n r i g a b c rp ow et hx h) (hi : i < n) :
    q_in n r (i + 1) g a b c rp ow et hx (mm_up (mm_up (mm_up (mm_up (mm_up (mm_up h 15 i (nI (g i - rp i))) 16 i (nI (a i + rp i))) 17 i (nI (b i + et i))) 18 i (nI (c i + (ow i - rp i)))) 19 i (nI (rp i))) 20 (6 * r + i) (nI (rp i))) := by
  obtain ⟨q0, q1, q2, q3, q4, q5, q6⟩ := q
  refine ⟨?_, ?_, ?_, ?_, ?_, ?_, ?_⟩
  · intro x hx'
    simp only [List.mem_cons, List.not_mem_nil, or_false, not_or] at hx'
    obtain ⟨z1, z2, z3, z4, z5, z6⟩ := hx'
    rw [mm_up_ne _ _ _ z6, mm_up_ne _ _ _ z5, mm_up_ne _ _ _ z4, mm_up_ne _ _ _ z3, mm_up_ne _ _ _ z2, mm_up_ne _ _ _ z1]
    exact q0 x (by simp [z1, z2, z3, z4, z5, z6])
  · intro p hp
    by_cases e : p = i
    · subst e; simp [q_up]
    · have : (p < i + 1) ↔ p < i := by omega
      simp [q_up, e, q1 p hp, this]
  · intro p hp
    by_cases e : p = i
    · subst e; simp [q_up]
    · have : (p < i + 1) ↔ p < i := by omega
      simp [q_up, e, q2 p hp, this]
  · intro p hp
    by_cases e : p = i
    · subst e; simp [q_up]
    · have : (p < i + 1) ↔ p < i := by omega
      simp [q_up, e, q3 p hp, this]
  · intro p hp
    by_cases e : p = i
    · subst e; simp [q_up]
    · have : (p < i + 1) ↔ p < i := by omega
      simp [q_up, e, q4 p hp, this]
  · intro p hp
    by_cases e : p = i
    · subst e; simp [q_up]
    · simp [q_up, e, q5 p (by omega)]
  · intro j
    by_cases e : j = 6 * r + i
    · subst e
      simp [q_up]
    · have : (j < 6 * r + (i + 1)) ↔ j < 6 * r + i := by omega
      simp [q_up, e, q6 j, this]
theorem q0_r42_L {N n R law ti r : Nat} {pu ap ho wo g a b c : Nat → Nat} {se : Nat → Nat → Nat} {hx : mm_M} (P : q_PX n law ti pu ap ho wo hx) (E : q_EX n R se hx) (hr : r < R) (hgb : ∀ p, p < n → g p < 100000) (hd : ∀ p, p < n → se r p ≠ 0 → hx 11 p = nI (s_due n law ti ap g (s_at (se r) (se r p)) p)) :
    ∀ j i h, i + j = n → q_in n r i g a b c (s_rp n law ti ap g (se r)) (s_ow n law ti ap g (se r)) (fun p => if se r p = 0 then 0 else ap p) hx h →
      ∃ h', (∀ k fuel, j < fuel → fX0_playRound_L42 N (nI r) k fuel h (nI i) = k h') ∧ q_in n r n g a b c (s_rp n law ti ap g (se r)) (s_ow n law ti ap g (se r)) (fun p => if se r p = 0 then 0 else ap p) hx h' := by
  intro j
  induction j with
  | zero =>
    intro i h hi q
    have hi : i = n := by omega
    subst hi
    refine ⟨h, ?_, q⟩
    intro k fuel hfu
    obtain ⟨f, rfl⟩ : ∃ f, fuel = f + 1 := ⟨fuel - 1, by omega⟩
    have hn := P.1
    rw [fX0_playRound_L42, q.1 6 (by simp), P.2.2.2.1, if_pos ((qn_le (by omega) (by omega)).mpr (by omega))]
  | succ j ih =>
    intro i h hi q
    have hn := P.1
    have hR := E.1
    obtain ⟨h', e1, e2⟩ := ih (i + 1) _ (by omega) (q_in_step q (by omega))
    refine ⟨h', ?_, e2⟩
    intro k fuel hfu
    obtain ⟨f, rfl⟩ : ∃ f, fuel = f + 1 := ⟨fuel - 1, by omega⟩
    have E1 := E.fr q.1 (by simp) (by simp) (by simp)
    have r1 := e1 k f (by omega)
    obtain ⟨q0, q1, q2, q3, q4, q5, q6⟩ := q
    have d1 : ¬ nI n ≤ nI i := fun z => absurd ((qn_le (by omega) (by omega)).mp z) (by omega)
    have gi : mm_gd (nI i) 6 = true := qn_gd (by omega) (by omega)
    have ci : (nI i).toNatClampNeg = i := qn_c (by omega)
    have g2 : mm_gd (nI r * 6 + nI i) 48 = true := by rw [qn_ix]; exact qn_gd (by omega) (by omega)
    have c2 : (nI r * 6 + nI i).toNatClampNeg = 6 * r + i := by rw [qn_ix]; exact qn_c (by omega)
    have b15 : h 15 i = nI (g i) := by rw [q1 i (by omega)]; simp
    have b16 : h 16 i = nI (a i) := by rw [q2 i (by omega)]; simp
    have b17 : h 17 i = nI (b i) := by rw [q3 i (by omega)]; simp
    have b18 : h 18 i = nI (c i) := by rw [q4 i (by omega)]; simp
    have gb := hgb i (by omega)
    have np : ¬ nI (g i) < 0 := nI_pos (by omega)
    rw [fX0_playRound_L42, q0 6 (by simp), P.2.2.2.1, if_neg d1, q0_table (N := N) E1 hn hr (by omega), mm_call_some]
    by_cases h0 : se r i = 0
    · have w1 : s_rp n law ti ap g (se r) i = 0 := by simp [s_rp, h0]
      have w2 : s_ow n law ti ap g (se r) i = 0 := by simp [s_ow, h0]
      simp only [w1, w2, h0, if_true, nI_0] at r1
      simp only [h0, q_ix0, if_true, gi, ci, g2, c2, mm_let, q_up, b15, b16, b17, b18, np, if_false, nI_1]
      simpa using r1
    · have hse := (E.2.2.1 r hr i (by omega)).2
      obtain ⟨t, ht⟩ : ∃ t, se r i = t + 1 := ⟨se r i - 1, by omega⟩
      have w3 : ¬ q_ix (se r i) = -1 := by rw [q_ix_m1 (by omega)]; exact h0
      have w4 := s_ow_lt (n := n) (law := law) (ti := ti) (g := g) (sc := se r) (p := i) hn (by omega) (fun q hq => (P.2.2.2.2.2.2.2.1 q (by omega)).2)
      have w5 : s_ow n law ti ap g (se r) i = s_due n law ti ap g (s_at (se r) (se r i)) i := by simp [s_ow, h0]
      have w6 := s_rp_ow n law ti ap g (se r) i
      have b11 : h 11 i = nI (s_ow n law ti ap g (se r) i) := by rw [q0 11 (by simp), hd i (by omega) h0, w5]
      have b8 : h 8 i = nI (ap i) := by rw [q0 8 (by simp), (P.2.2.2.2.2.2.2.1 i (by omega)).1]
      have w7 : (if nI (g i) < nI (s_ow n law ti ap g (se r) i) then nI (g i) else nI (s_ow n law ti ap g (se r) i)) = nI (s_rp n law ti ap g (se r) i) := by
        rw [w6]
        by_cases z : g i < s_ow n law ti ap g (se r) i
        · rw [if_pos ((qn_lt gb (by omega)).mpr z), Nat.min_eq_right (by omega)]
        · rw [if_neg (fun y => z ((qn_lt gb (by omega)).mp y)), Nat.min_eq_left (by omega)]
      have w8 : s_rp n law ti ap g (se r) i ≤ g i := s_rp_le ..
      have w9 : s_rp n law ti ap g (se r) i ≤ s_ow n law ti ap g (se r) i := by rw [w6]; exact Nat.min_le_left _ _
      simp only [h0, if_false] at r1
      simp only [w3, if_false, gi, ci, g2, c2, mm_let, b15, b11, if_true]
      rw [w7]
      simp only [q_up, b15, b16, b17, b18, b8, nI_1]
      simpa [qn_sub w8, qn_sub w9, nI_add] using r1
/-- one round -/
theorem q0_round {N n R law ti r : Nat} {pu ap ho wo g a b c : Nat → Nat} {se : Nat → Nat → Nat} {hx : mm_M} (hN : 100 ≤ N) (P : q_PX n law ti pu ap ho wo hx) (E : q_EX n R se hx) (hr : r < R) (hg : ∀ p, p < n → hx 15 p = nI (g p)) (hgb : ∀ p, p < n → g p < 100000) (ha : ∀ p, p < n → hx 16 p = nI (a p)) (hb : ∀ p, p < n → hx 17 p = nI (b p)) (hc : ∀ p, p < n → hx 18 p = nI (c p)) :
    ∃ h', fX0_playRound N hx (nI r) = some (h', ()) ∧ q_fr [11, 15, 16, 17, 18, 19, 20] hx h' ∧
      (∀ p, p < n → h' 15 p = nI (g p - s_rp n law ti ap g (se r) p)) ∧ (∀ p, p < n → h' 16 p = nI (a p + s_rp n law ti ap g (se r) p)) ∧ (∀ p, p < n → h' 17 p = nI (b p + if se r p = 0 then 0 else ap p)) ∧ (∀ p, p < n → h' 18 p = nI (c p + (s_ow n law ti ap g (se r) p - s_rp n law ti ap g (se r) p))) ∧ (∀ p, p < n → h' 19 p = nI (s_rp n law ti ap g (se r) p)) ∧ (∀ p, p < n → h' 20 (6 * r + p) = nI (s_rp n law ti ap g (se r) p)) ∧ ∀ j, ¬ (6 * r ≤ j ∧ j < 6 * r + n) → h' 20 j = hx 20 j := by
  obtain ⟨h1, a1, a2, a3⟩ := q0_r2_L (N := N) hN P E hr hg hgb 6 0 hx rfl q_fr.rf (fun p _ h0 h1 => absurd (Nat.le_zero.mp h1) h0)
  have P1 := P.fr a2 (by simp) (by simp) (by simp) (by simp) (by simp)
  have E1 := E.fr a2 (by simp) (by simp) (by simp)
  have q0 : q_in n r 0 g a b c (s_rp n law ti ap g (se r)) (s_ow n law ti ap g (se r)) (fun p => if se r p = 0 then 0 else ap p) h1 h1 := by
    refine ⟨q_fr.rf, ?_, ?_, ?_, ?_, ?_, ?_⟩
    · intro p hp; rw [a2 15 (by simp), hg p hp]; simp
    · intro p hp; rw [a2 16 (by simp), ha p hp]; simp
    · intro p hp; rw [a2 17 (by simp), hb p hp]; simp
    · intro p hp; rw [a2 18 (by simp), hc p hp]; simp
    · intro p hp; exact absurd hp (Nat.not_lt_zero p)
    · intro j
      rw [if_neg (by omega)]
  obtain ⟨h2, b1, b2⟩ := q0_r42_L (N := N) P1 E1 hr hgb a3 n 0 h1 (by omega) q0
  obtain ⟨c0, c1, c2, c3, c4, c5, c6⟩ := b2
  have hn := P.1
  refine ⟨h2, ?_, a2.tr c0 (by simp) (by simp), ?_, ?_, ?_, ?_, ?_, ?_, ?_⟩
  · unfold fX0_playRound
    rw [show (0 : Int32) = nI 0 from rfl, a1 _ N (by omega), b1 _ N (by omega)]
  · intro p hp; rw [c1 p hp, if_pos hp]
  · intro p hp; rw [c2 p hp, if_pos hp]
  · intro p hp; rw [c3 p hp, if_pos hp]
  · intro p hp; rw [c4 p hp, if_pos hp]
  · intro p hp; rw [c5 p hp]
  · intro p hp
    rw [c6, if_pos (by omega)]
    congr 2
    omega
  · intro j hj
    rw [c6, if_neg hj, a2 20 (by simp)]
/-- what stands behind k rounds -/
def q_ev (n law ti : Nat) (ap : Nat → Nat) (se : Nat → Nat → Nat) (g : Nat → Nat) (k : Nat) (h : mm_M) : Prop :=
  (∀ p, p < n → h 15 p = nI (s_hd n law ti ap se g k p)) ∧ (∀ p, p < n → h 16 p = nI (s_pd n law ti ap se g k p)) ∧ (∀ p, p < n → h 17 p = nI (s_et ap se k p)) ∧ (∀ p, p < n → h 18 p = nI (s_sh n law ti ap se g k p)) ∧ (∀ r, r < k → ∀ p, p < n → h 20 (6 * r + p) = nI (s_rp n law ti ap (fun q => s_hd n law ti ap se g r q) (se r) p)) ∧ ∀ r, r + 1 = k → ∀ p, p < n → h 19 p = nI (s_rp n law ti ap (fun q => s_hd n law ti ap se g r q) (se r) p)
theorem s_hd_le {n law ti : Nat} {ap : Nat → Nat} {se : Nat → Nat → Nat} {g : Nat → Nat} (k p : Nat) : s_hd n law ti ap se g k p ≤ g p := by
  induction k with
  | zero => exact Nat.le_refl _
  | succ k ih =>
    rw [s_hd]
    omega
theorem q0_p37_L {N n R law ti k0 : Nat} {pu ap ho wo g : Nat → Nat} {se : Nat → Nat → Nat} {hx : mm_M} (hN : 100 ≤ N) (P : q_PX n law ti pu ap ho wo hx) (E : q_EX n R se hx) (hk : k0 ≤ R) (hgb : ∀ p, p < n → g p < 100000) :
    ∀ j i h, i + j = k0 → q_fr [11, 15, 16, 17, 18, 19, 20] hx h → q_ev n law ti ap se g i h →
      ∃ h', (∀ k fuel, j < fuel → fX0_playFromHands_L37 N (nI k0) k fuel h (nI i) = k h') ∧ q_fr [11, 15, 16, 17, 18, 19, 20] hx h' ∧ q_ev n law ti ap se g k0 h' := by
  intro j
  induction j with
  | zero =>
    intro i h hi hf hv
    have hi : i = k0 := by omega
    subst hi
    refine ⟨h, ?_, hf, hv⟩
    intro k fuel hfu
    have hR := E.1
    obtain ⟨f, rfl⟩ : ∃ f, fuel = f + 1 := ⟨fuel - 1, by omega⟩
    rw [fX0_playFromHands_L37, if_pos ((qn_le (by omega) (by omega)).mpr (by omega))]
  | succ j ih =>
    intro i h hi hf hv
    have hR := E.1
    have P1 := P.fr hf (by simp) (by simp) (by simp) (by simp) (by simp)
    have E1 := E.fr hf (by simp) (by simp) (by simp)
    obtain ⟨v1, v2, v3, v4, v5, v6⟩ := hv
    obtain ⟨h1, a1, a2, b1, b2, b3, b4, b5, b6, b7⟩ := q0_round (N := N) (r := i) hN P1 E1 (by omega) v1 (fun p hp => Nat.lt_of_le_of_lt (s_hd_le i p) (hgb p hp)) v2 v3 v4
    have hn := P.1
    obtain ⟨h', e1, e2⟩ := ih (i + 1) h1 (by omega) (hf.tr a2 (fun _ q => q) (fun _ q => q)) ⟨b1, b2, b3, b4, (by
      intro r hr p hp
      by_cases hri : r = i
      · subst hri; exact b6 p hp
      · rw [b7 _ (by omega)]
        exact v5 r (by omega) p hp), (by
      intro r hr p hp
      have : r = i := by omega
      subst this
      exact b5 p hp)⟩
    refine ⟨h', ?_, e2⟩
    intro k fuel hfu
    obtain ⟨f, rfl⟩ : ∃ f, fuel = f + 1 := ⟨fuel - 1, by omega⟩
    rw [fX0_playFromHands_L37, if_neg (fun q => absurd ((qn_le (by omega) (by omega)).mp q) (by omega)), a1, mm_call_some, nI_1]
    exact e1 k f (by omega)
theorem q0_p2_L {N : Nat} {p1 : Int32} {hx : mm_M} :
    ∀ j i h, i + j = 6 → q_fr [16, 17, 18] hx h → (∀ p, p < i → h 16 p = nI 0 ∧ h 17 p = nI 0 ∧ h 18 p = nI 0) →
      ∃ h', (∀ k fuel, j < fuel → fX0_playFromHands_L2 N p1 k fuel h (nI i) = k h') ∧ q_fr [16, 17, 18] hx h' ∧ (∀ p, p < 6 → h' 16 p = nI 0 ∧ h' 17 p = nI 0 ∧ h' 18 p = nI 0) := by
  intro j
  induction j with
  | zero =>
    intro i h hi hf hv
    refine ⟨h, ?_, hf, fun p hp => hv p (by omega)⟩
    intro k fuel hfu
    obtain ⟨f, rfl⟩ : ∃ f, fuel = f + 1 := ⟨fuel - 1, by omega⟩
    rw [fX0_playFromHands_L2, if_pos ((qn_l6 (by omega)).mpr (by omega))]
  | succ j ih =>
    intro i h hi hf hv
    obtain ⟨h', e1, e2⟩ := ih (i + 1) (mm_up (mm_up (mm_up h 16 i 0) 17 i 0) 18 i 0) (by omega) (by
      intro x hx'
      have z := hf x hx'
      simp only [List.mem_cons, List.not_mem_nil, or_false, not_or] at hx'
      rw [mm_up_ne _ _ _ hx'.2.2, mm_up_ne _ _ _ hx'.2.1, mm_up_ne _ _ _ hx'.1, z]) (by
      intro p hp
      by_cases e : p = i
      · subst e; simp [q_up, nI_0]
      · have := hv p (by omega)
        simp [q_up, e, this, nI_0])
    refine ⟨h', ?_, e2⟩
    intro k fuel hfu
    obtain ⟨f, rfl⟩ : ∃ f, fuel = f + 1 := ⟨fuel - 1, by omega⟩
    rw [fX0_playFromHands_L2, if_neg (fun q => absurd ((qn_l6 (by omega)).mp q) (by omega)), if_pos (qn_gd (by omega) (by omega)), mm_let, mm_let, mm_let, qn_c (by omega), nI_1]
    exact e1 k f (by omega)
/-- the evening from hands that cell 15 tells -/
theorem q0_from {N n R law ti k0 : Nat} {pu ap ho wo g : Nat → Nat} {se : Nat → Nat → Nat} {hx : mm_M} (hN : 100 ≤ N) (P : q_PX n law ti pu ap ho wo hx) (E : q_EX n R se hx) (hk : k0 ≤ R) (hg : ∀ p, p < n → hx 15 p = nI (g p)) (hgb : ∀ p, p < n → g p < 100000) :
    ∃ h', fX0_playFromHands N hx (nI k0) = some (h', ()) ∧ q_fr [11, 15, 16, 17, 18, 19, 20] hx h' ∧ q_ev n law ti ap se g k0 h' := by
  obtain ⟨h1, a1, a2, a3⟩ := q0_p2_L (N := N) (p1 := nI k0) 6 0 hx rfl q_fr.rf (fun p hp => absurd hp (Nat.not_lt_zero p))
  have hn := P.1
  have hR := E.1
  obtain ⟨h2, b1, b2, b3⟩ := q0_p37_L (N := N) hN (P.fr a2 (by simp) (by simp) (by simp) (by simp) (by simp)) (E.fr a2 (by simp) (by simp) (by simp)) hk hgb k0 0 h1 (by omega) q_fr.rf ⟨(fun p hp => by rw [a2 15 (by simp), hg p hp, s_hd]), (fun p hp => (a3 p (by omega)).1), (fun p hp => (a3 p (by omega)).2.1), (fun p hp => (a3 p (by omega)).2.2), (fun r hr => absurd hr (Nat.not_lt_zero r)), (fun r hr => absurd hr (by omega))⟩
  refine ⟨h2, ?_, a2.tr b2 (by simp) (fun _ q => q), b3⟩
  unfold fX0_playFromHands
  rw [show (0 : Int32) = nI 0 from rfl, a1 _ N (by omega), b1 _ N (by omega)]
/-- the evening from hands at first -/
theorem q0_play {N n R law ti k0 : Nat} {pu ap ho wo : Nat → Nat} {se : Nat → Nat → Nat} {hx : mm_M} (hN : 100 ≤ N) (P : q_PX n law ti pu ap ho wo hx) (E : q_EX n R se hx) (hk : k0 ≤ R) :
    ∃ h', fX0_play N hx (nI k0) = some (h', ()) ∧ q_fr [11, 15, 16, 17, 18, 19, 20] hx h' ∧ q_ev n law ti ap se (fun p => pu p - ho p) k0 h' := by
  have hn := P.1
  obtain ⟨h1, a1, a2, a3⟩ := q2_tell (N := N) (c0 := 15) hN (by decide) (by decide) P.2.2.2.2.2.2.1 P.2.2.2.2.2.2.2.2.1
  obtain ⟨h2, b1, b2, b3⟩ := q0_from (N := N) (g := fun p => pu p - ho p) hN (P.fr a2 (by simp) (by simp) (by simp) (by simp) (by simp)) (E.fr a2 (by simp) (by simp) (by simp)) hk (fun p hp => a3 p (by omega)) (fun p hp => by
    have := (P.2.2.2.2.2.2.1 p (by omega)).2
    omega)
  refine ⟨h2, ?_, a2.tr b2 (by simp) (fun _ q => q), b3⟩
  unfold fX0_play
  rw [a1, mm_call_some, b1, mm_call_some]
