/-! PURE 5: the evening of the reference -/
def q_PY (n law ti : Nat) (pu ap ho wo : Nat → Nat) (h : mm_M) : Prop :=
  n ≤ 6 ∧ law ≤ 2 ∧ ti ≤ 1 ∧ h 0 2 = nI n ∧ h 8 0 = nI law ∧ h 8 1 = nI ti ∧ (∀ p, p < n → h 3 p = nI (pu p) ∧ pu p ≤ 99) ∧ (∀ p, p < n → h 4 p = nI (ap p) ∧ ap p ≤ 99) ∧ (∀ p, p < 6 → h 6 p = nI (ho p) ∧ ho p ≤ 99) ∧ (∀ p, p < 6 → h 7 p = nI (wo p) ∧ wo p ≤ 99)
def q_EY (n R : Nat) (se : Nat → Nat → Nat) (h : mm_M) : Prop := R ≤ 8 ∧ h 0 5 = nI R ∧ ∀ r, r < R → ∀ p, p < n → h 5 (6 * r + p) = q_ix (se r p) ∧ se r p ≤ 6
/-- slots of cell 0 that stay -/
def q_f0 (h h' : mm_M) : Prop := ∀ j, j ≠ 17 → h' 0 j = h 0 j
theorem q_f0.rf {h : mm_M} : q_f0 h h := fun _ _ => rfl
theorem q_f0.tr {h h1 h2 : mm_M} (a : q_f0 h h1) (b : q_f0 h1 h2) : q_f0 h h2 := fun j hj => (b j hj).trans (a j hj)
theorem q_f0.of {S : List Nat} {h h' : mm_M} (f : q_fr S h h') (h0 : 0 ∉ S) : q_f0 h h' := fun j _ => by rw [f 0 h0]
theorem q_PY.fr {n law ti : Nat} {pu ap ho wo : Nat → Nat} {h h' : mm_M} {S : List Nat} (a : q_PY n law ti pu ap ho wo h) (f : q_fr S h h') (f0 : q_f0 h h') (h3 : 3 ∉ S) (h4 : 4 ∉ S) (h6 : 6 ∉ S) (h7 : 7 ∉ S) (h8 : 8 ∉ S) : q_PY n law ti pu ap ho wo h' := by
  unfold q_PY at *
  rw [f 3 h3, f 4 h4, f 6 h6, f 7 h7, f 8 h8, f0 2 (by decide)]
  exact a
theorem q_EY.fr {n R : Nat} {se : Nat → Nat → Nat} {h h' : mm_M} {S : List Nat} (a : q_EY n R se h) (f : q_fr S h h') (f0 : q_f0 h h') (h5 : 5 ∉ S) : q_EY n R se h' := by
  unfold q_EY at *
  rw [f 5 h5, f0 5 (by decide)]
  exact a
theorem q8_at_L {N n : Nat} {pu ho : Nat → Nat} {hy : mm_M} (h2 : hy 0 2 = nI n) (hn : n ≤ 6) (h3 : ∀ p, p < n → hy 3 p = nI (pu p) ∧ pu p ≤ 99) (h6 : ∀ p, p < 6 → hy 6 p = nI (ho p) ∧ ho p ≤ 99) :
    ∀ j i h, i + j = n → q_fr [9] hy h → (∀ p, p < i → h 9 p = nI (pu p - ho p)) →
      ∃ h', (∀ k fuel, j < fuel → fX8_atFirst_L2 N k fuel h (nI i) = k h') ∧ q_fr [9] hy h' ∧ ∀ p, p < n → h' 9 p = nI (pu p - ho p) := by
  intro j
  induction j with
  | zero =>
    intro i h hi hf hv
    refine ⟨h, ?_, hf, fun p hp => hv p (by omega)⟩
    intro k fuel hfu
    obtain ⟨f, rfl⟩ : ∃ f, fuel = f + 1 := ⟨fuel - 1, by omega⟩
    rw [fX8_atFirst_L2, hf 0 (by simp), h2, if_pos ((qn_le (by omega) (by omega)).mpr (by omega))]
  | succ j ih =>
    intro i h hi hf hv
    obtain ⟨h', e1, e2⟩ := ih (i + 1) (mm_up h 9 i (nI (pu i - ho i))) (by omega) (hf.tr (q_fr.up (S := [9]) (by simp)) (fun _ q => q) (fun _ q => q)) (by
      intro p hp
      rw [q_up]
      by_cases hpi : p = i
      · simp [hpi]
      · simp [hpi, hv p (by omega)])
    refine ⟨h', ?_, e2⟩
    intro k fuel hfu
    obtain ⟨f, rfl⟩ : ∃ f, fuel = f + 1 := ⟨fuel - 1, by omega⟩
    have r1 := e1 k f (by omega)
    have a3 := h3 i (by omega)
    have a6 := h6 i (by omega)
    rw [fX8_atFirst_L2, hf 0 (by simp), h2, if_neg (fun q => absurd ((qn_le (by omega) (by omega)).mp q) (by omega)), if_pos (qn_gd (by omega) (by omega)), if_pos (qn_gd (by omega) (by omega)), qn_c (by omega), hf 3 (by simp), hf 6 (by simp), a3.1, a6.1, nI_1]
    simp only [qn_le (show pu i < 100000 by omega) (show ho i < 100000 by omega), mm_let]
    by_cases z : pu i ≤ ho i
    · rw [if_pos z]
      rw [show pu i - ho i = 0 by omega] at r1
      exact r1
    · rw [if_neg z, qn_sub (by omega)]
      exact r1
theorem q8_at {N n law ti : Nat} {pu ap ho wo : Nat → Nat} {hy : mm_M} (hN : 100 ≤ N) (P : q_PY n law ti pu ap ho wo hy) :
    ∃ h', fX8_atFirst N hy = some (h', ()) ∧ q_fr [9] hy h' ∧ ∀ p, p < n → h' 9 p = nI (pu p - ho p) := by
  have hn := P.1
  obtain ⟨h1, a1, a2, a3⟩ := q8_at_L (N := N) P.2.2.2.1 hn P.2.2.2.2.2.2.1 P.2.2.2.2.2.2.2.2.1 n 0 hy (by omega) q_fr.rf (fun p hp => absurd hp (Nat.not_lt_zero p))
  refine ⟨h1, ?_, a2, a3⟩
  unfold fX8_atFirst
  rw [show (0 : Int32) = nI 0 from rfl, a1 _ N (by omega)]
theorem qn_6 {a b : Nat} : (6 : Int32) * nI a + nI b = nI (6 * a + b) := by
  rw [show (6 : Int32) = nI 6 from rfl, qn_mul, nI_add]
theorem q8_sit_L {N n R r : Nat} {se : Nat → Nat → Nat} {hy : mm_M} (h2 : hy 0 2 = nI n) (hn : n ≤ 6) (E : q_EY n R se hy) (hr : r < R) :
    ∀ j i h, i + j = n → q_fr [10] hy h → (∀ p, p < i → h 10 p = q_ix (se r p)) →
      ∃ h', (∀ k fuel, j < fuel → fX8_sitAsTold_L2 N (nI r) k fuel h (nI i) = k h') ∧ q_fr [10] hy h' ∧ ∀ p, p < n → h' 10 p = q_ix (se r p) := by
  have hR := E.1
  intro j
  induction j with
  | zero =>
    intro i h hi hf hv
    refine ⟨h, ?_, hf, fun p hp => hv p (by omega)⟩
    intro k fuel hfu
    obtain ⟨f, rfl⟩ : ∃ f, fuel = f + 1 := ⟨fuel - 1, by omega⟩
    rw [fX8_sitAsTold_L2, hf 0 (by simp), h2, if_pos ((qn_le (by omega) (by omega)).mpr (by omega))]
  | succ j ih =>
    intro i h hi hf hv
    obtain ⟨h', e1, e2⟩ := ih (i + 1) (mm_up h 10 i (q_ix (se r i))) (by omega) (hf.tr (q_fr.up (S := [10]) (by simp)) (fun _ q => q) (fun _ q => q)) (by
      intro p hp
      rw [q_up]
      by_cases hpi : p = i
      · simp [hpi]
      · simp [hpi, hv p (by omega)])
    refine ⟨h', ?_, e2⟩
    intro k fuel hfu
    obtain ⟨f, rfl⟩ : ∃ f, fuel = f + 1 := ⟨fuel - 1, by omega⟩
    rw [fX8_sitAsTold_L2, hf 0 (by simp), h2, if_neg (fun q => absurd ((qn_le (by omega) (by omega)).mp q) (by omega)), qn_6, if_pos (qn_gd (by omega) (by omega)), if_pos (qn_gd (by omega) (by omega)), mm_let, qn_c (by omega), qn_c (by omega), hf 5 (by simp), (E.2.2 r hr i (by omega)).1, nI_1]
    exact e1 k f (by omega)
theorem q8_sit {N n R r : Nat} {se : Nat → Nat → Nat} {hy : mm_M} (hN : 100 ≤ N) (h2 : hy 0 2 = nI n) (hn : n ≤ 6) (E : q_EY n R se hy) (hr : r < R) :
    ∃ h', fX8_sitAsTold N hy (nI r) = some (h', ()) ∧ q_fr [10] hy h' ∧ ∀ p, p < n → h' 10 p = q_ix (se r p) := by
  obtain ⟨h1, a1, a2, a3⟩ := q8_sit_L (N := N) h2 hn E hr n 0 hy (by omega) q_fr.rf (fun p hp => absurd hp (Nat.not_lt_zero p))
  refine ⟨h1, ?_, a2, a3⟩
  unfold fX8_sitAsTold
  rw [show (0 : Int32) = nI 0 from rfl, a1 _ N (by omega)]
/-- how many meals: of one row, of k rounds -/
def s_mr (sc : Nat → Nat) : Nat → Nat
  | 0 => 0
  | p + 1 => s_mr sc p + if sc p = 0 then 0 else 1
def s_me (n : Nat) (se : Nat → Nat → Nat) : Nat → Nat
  | 0 => 0
  | k + 1 => s_me n se k + s_mr (se k) n
theorem q8_r11_L {N n : Nat} {p1 : Int32} {hy : mm_M} (h2 : hy 0 2 = nI n) (hn : n ≤ 6) :
    ∀ j i h, i + j = n → q_fr [11, 13, 14, 15] hy h → (∀ p, p < i → h 11 p = nI 0 ∧ h 13 p = nI 0 ∧ h 14 p = nI 0 ∧ h 15 p = nI 0) →
      ∃ h', (∀ k fuel, j < fuel → fX8_runs_L11 N p1 k fuel h (nI i) = k h') ∧ q_fr [11, 13, 14, 15] hy h' ∧ ∀ p, p < n → h' 11 p = nI 0 ∧ h' 13 p = nI 0 ∧ h' 14 p = nI 0 ∧ h' 15 p = nI 0 := by
  intro j
  induction j with
  | zero =>
    intro i h hi hf hv
    refine ⟨h, ?_, hf, fun p hp => hv p (by omega)⟩
    intro k fuel hfu
    obtain ⟨f, rfl⟩ : ∃ f, fuel = f + 1 := ⟨fuel - 1, by omega⟩
    rw [fX8_runs_L11, hf 0 (by simp), h2, if_pos ((qn_le (by omega) (by omega)).mpr (by omega))]
  | succ j ih =>
    intro i h hi hf hv
    obtain ⟨h', e1, e2⟩ := ih (i + 1) (mm_up (mm_up (mm_up (mm_up h 13 i 0) 14 i 0) 15 i 0) 11 i 0) (by omega) (by
      intro x hx'
      have z := hf x hx'
      simp only [List.mem_cons, List.not_mem_nil, or_false, not_or] at hx'
      rw [mm_up_ne _ _ _ hx'.1, mm_up_ne _ _ _ hx'.2.2.2, mm_up_ne _ _ _ hx'.2.2.1, mm_up_ne _ _ _ hx'.2.1, z]) (by
      intro p hp
      by_cases e : p = i
      · subst e; simp [q_up, nI_0]
      · have := hv p (by omega)
        simp [q_up, e, this, nI_0])
    refine ⟨h', ?_, e2⟩
    intro k fuel hfu
    obtain ⟨f, rfl⟩ : ∃ f, fuel = f + 1 := ⟨fuel - 1, by omega⟩
    rw [fX8_runs_L11, hf 0 (by simp), h2, if_neg (fun q => absurd ((qn_le (by omega) (by omega)).mp q) (by omega)), if_pos (qn_gd (by omega) (by omega)), mm_let, mm_let, mm_let, mm_let, qn_c (by omega), nI_1]
    exact e1 k f (by omega)
/-- inside a round: those ahead of i are done -/
def q_iny (n i : Nat) (g a b c rp ow et : Nat → Nat) (sc : Nat → Nat) (me : Nat) (hy h : mm_M) : Prop :=
  q_fr [0, 9, 13, 14, 15] hy h ∧ q_f0 hy h ∧ h 0 17 = nI (me + s_mr sc i) ∧ (∀ p, p < n → h 9 p = nI (if p < i then g p - rp p else g p)) ∧ (∀ p, p < n → h 13 p = nI (if p < i then a p + rp p else a p)) ∧ (∀ p, p < n → h 14 p = nI (if p < i then b p + et p else b p)) ∧ (∀ p, p < n → h 15 p = nI (if p < i then c p + (ow p - rp p) else c p))
theorem q_iny_step {n i : Nat} {g a b c rp ow et sc : Nat → Nat} {me : Nat} {hy h : mm_M} (q : q_iny n i g a b c rp ow et sc me hy h) (hi : i < n) :
    q_iny n (i + 1) g a b c rp ow et sc me hy (mm_up (mm_up (mm_up (mm_up (mm_up h 9 i (nI (g i - rp i))) 13 i (nI (a i + rp i))) 15 i (nI (c i + (ow i - rp i)))) 14 i (nI (b i + et i))) 0 17 (nI (me + s_mr sc i + if sc i = 0 then 0 else 1))) := by
  obtain ⟨q0, q1, q2, q3, q4, q5, q6⟩ := q
  refine ⟨?_, ?_, ?_, ?_, ?_, ?_, ?_⟩
  · intro x hx'
    have z := q0 x hx'
    simp only [List.mem_cons, List.not_mem_nil, or_false, not_or] at hx'
    rw [mm_up_ne _ _ _ hx'.1, mm_up_ne _ _ _ hx'.2.2.2.1, mm_up_ne _ _ _ hx'.2.2.2.2, mm_up_ne _ _ _ hx'.2.2.1, mm_up_ne _ _ _ hx'.2.1, z]
  · intro j hj
    simp [q_up, hj, q1 j hj]
  · simp [q_up, s_mr, Nat.add_assoc]
  · intro p hp
    by_cases e : p = i
    · subst e; simp [q_up]
    · have : (p < i + 1) ↔ p < i := by omega
      simp [q_up, e, q3 p hp, this]
  · intro p hp
    by_cases e : p = i
    · subst e; simp [q_up]
    · have : (p < i + 1) ↔ p < i := by omega
      simp [q_up, e, q4 p hp, this]
  · intro p hp
    by_cases e : p = i
    · subst e; simp [q_up]
    · have : (p < i + 1) ↔ p < i := by omega
      simp [q_up, e, q5 p hp, this]
  · intro p hp
    by_cases e : p = i
    · subst e; simp [q_up]
    · have : (p < i + 1) ↔ p < i := by omega
      simp [q_up, e, q6 p hp, this]
theorem q8_r71_L {N n : Nat} {p1 p2 : Int32} {g a b c rp ow ap sc : Nat → Nat} {me : Nat} {hy : mm_M} (h2 : hy 0 2 = nI n) (hn : n ≤ 6) (hap : ∀ p, p < n → hy 4 p = nI (ap p)) (hsc : ∀ p, p < n → hy 10 p = q_ix (sc p)) (hscb : ∀ p, p < n → sc p ≤ 6) (hrp : ∀ p, p < n → hy 11 p = nI (rp p)) (how : ∀ p, p < n → hy 12 p = nI (ow p)) (hb1 : ∀ p, p < n → rp p ≤ g p) (hb2 : ∀ p, p < n → rp p ≤ ow p) :
    ∀ j i h, i + j = n → q_iny n i g a b c rp ow (fun p => if sc p = 0 then 0 else ap p) sc me hy h →
      ∃ h', (∀ k fuel, j < fuel → fX8_runs_L71 N p1 p2 k fuel h (nI i) = k h') ∧ q_iny n n g a b c rp ow (fun p => if sc p = 0 then 0 else ap p) sc me hy h' := by
  intro j
  induction j with
  | zero =>
    intro i h hi q
    have hi : i = n := by omega
    subst hi
    refine ⟨h, ?_, q⟩
    intro k fuel hfu
    obtain ⟨f, rfl⟩ : ∃ f, fuel = f + 1 := ⟨fuel - 1, by omega⟩
    rw [fX8_runs_L71, q.2.1 2 (by decide), h2, if_pos ((qn_le (by omega) (by omega)).mpr (by omega))]
  | succ j ih =>
    intro i h hi q
    obtain ⟨h', e1, e2⟩ := ih (i + 1) _ (by omega) (q_iny_step q (by omega))
    refine ⟨h', ?_, e2⟩
    intro k fuel hfu
    obtain ⟨f, rfl⟩ : ∃ f, fuel = f + 1 := ⟨fuel - 1, by omega⟩
    have r1 := e1 k f (by omega)
    obtain ⟨q0, q1, q2, q3, q4, q5, q6⟩ := q
    have d1 : ¬ nI n ≤ nI i := fun z => absurd ((qn_le (by omega) (by omega)).mp z) (by omega)
    have gi : mm_gd (nI i) 7 = true := qn_gd (by omega) (by omega)
    have ci : (nI i).toNatClampNeg = i := qn_c (by omega)
    have b9 : h 9 i = nI (g i) := by rw [q3 i (by omega)]; simp
    have b13 : h 13 i = nI (a i) := by rw [q4 i (by omega)]; simp
    have b14 : h 14 i = nI (b i) := by rw [q5 i (by omega)]; simp
    have b15 : h 15 i = nI (c i) := by rw [q6 i (by omega)]; simp
    have b11 : h 11 i = nI (rp i) := by rw [q0 11 (by simp), hrp i (by omega)]
    have b12 : h 12 i = nI (ow i) := by rw [q0 12 (by simp), how i (by omega)]
    have b4 : h 4 i = nI (ap i) := by rw [q0 4 (by simp), hap i (by omega)]
    have b10 : (h 10 i = -1) ↔ sc i = 0 := by
      rw [q0 10 (by simp), hsc i (by omega)]
      exact q_ix_m1 (by have := hscb i (by omega); omega)
    rw [fX8_runs_L71, q1 2 (by decide), h2, if_neg d1, if_pos gi]
    have s1 := hb1 i (by omega)
    have s2 := hb2 i (by omega)
    simp only [mm_let, ci, q_up, b9, b13, b14, b15, b11, b12, b4, nI_1, q2]
    by_cases z : sc i = 0
    · simp [z] at r1
      simp [b10, z, qn_sub s1, qn_sub s2, nI_add]
      exact r1
    · simp [z] at r1
      simp [b10, z, qn_sub s1, qn_sub s2, nI_add]
      rw [show ∀ x, nI x + 1 = nI (x + 1) from nI_1]
      exact r1
/-- what stands behind k rounds, in the reference -/
def q_ey (n law ti : Nat) (ap : Nat → Nat) (se : Nat → Nat → Nat) (g : Nat → Nat) (k : Nat) (h : mm_M) : Prop :=
  (∀ p, p < n → h 9 p = nI (s_hd n law ti ap se g k p)) ∧ (∀ p, p < n → h 13 p = nI (s_pd n law ti ap se g k p)) ∧ (∀ p, p < n → h 14 p = nI (s_et ap se k p)) ∧ (∀ p, p < n → h 15 p = nI (s_sh n law ti ap se g k p)) ∧ h 0 17 = nI (s_me n se k) ∧ ∀ r, r + 1 = k → (∀ p, p < n → h 11 p = nI (s_rp n law ti ap (fun q => s_hd n law ti ap se g r q) (se r) p)) ∧ ∀ p, p < n → h 10 p = q_ix (se r p)
theorem q8_r55_L {N n R law ti k0 : Nat} {pu ap ho wo g : Nat → Nat} {se : Nat → Nat → Nat} {hy : mm_M} (hN : 100 ≤ N) (P : q_PY n law ti pu ap ho wo hy) (E : q_EY n R se hy) (hk : k0 ≤ R) (hgb : ∀ p, p < n → g p < 100000) :
    ∀ j i h, i + j = k0 → q_fr [0, 9, 10, 11, 12, 13, 14, 15] hy h → q_f0 hy h → q_ey n law ti ap se g i h →
      ∃ h', (∀ k fuel, j < fuel → fX8_runs_L55 N (nI k0) k fuel h (nI i) = k h') ∧ q_fr [0, 9, 10, 11, 12, 13, 14, 15] hy h' ∧ q_f0 hy h' ∧ q_ey n law ti ap se g k0 h' := by
  have hn := P.1
  have hR := E.1
  intro j
  induction j with
  | zero =>
    intro i h hi hf hf0 hv
    have hi : i = k0 := by omega
    subst hi
    refine ⟨h, ?_, hf, hf0, hv⟩
    intro k fuel hfu
    obtain ⟨f, rfl⟩ : ∃ f, fuel = f + 1 := ⟨fuel - 1, by omega⟩
    rw [fX8_runs_L55, if_pos ((qn_le (by omega) (by omega)).mpr (by omega))]
  | succ j ih =>
    intro i h hi hf hf0 hv
    have P1 := P.fr hf hf0 (by simp) (by simp) (by simp) (by simp) (by simp)
    have E1 := E.fr hf hf0 (by simp)
    obtain ⟨v1, v2, v3, v4, v5, v6⟩ := hv
    obtain ⟨h1, a1, a2, a3⟩ := q8_sit (N := N) (r := i) hN P1.2.2.2.1 hn E1 (by omega)
    have a20 := q_f0.of a2 (by simp)
    have P2 := P1.fr a2 a20 (by simp) (by simp) (by simp) (by simp) (by simp)
    have hse : ∀ p, p < n → se i p ≤ 6 := fun p hp => (E.2.2 i (by omega) p hp).2
    obtain ⟨h2, b1, b2, b3, b4⟩ := q8_bills (N := N) (g := fun q => s_hd n law ti ap se g i q) (sc := se i) hN P2.2.2.2.1 P2.2.2.2.2.1 P2.2.2.2.2.2.1 hn P.2.1 P.2.2.1 P2.2.2.2.2.2.2.2.1 (fun p hp => by rw [a2 9 (by simp), v1 p hp]) (fun p hp => Nat.lt_of_le_of_lt (s_hd_le i p) (hgb p hp)) a3 hse
    have b20 := q_f0.of b2 (by simp)
    have P3 := P2.fr b2 b20 (by simp) (by simp) (by simp) (by simp) (by simp)
    obtain ⟨h3, c1, c2⟩ := q8_r71_L (N := N) (p1 := nI k0) (p2 := nI i) (n := n) (g := fun q => s_hd n law ti ap se g i q) (a := s_pd n law ti ap se g i) (b := s_et ap se i) (c := s_sh n law ti ap se g i) (rp := s_rp n law ti ap (fun q => s_hd n law ti ap se g i q) (se i)) (ow := s_ow n law ti ap (fun q => s_hd n law ti ap se g i q) (se i)) (ap := ap) (sc := se i) (me := s_me n se i) P3.2.2.2.1 hn (fun p hp => (P3.2.2.2.2.2.2.2.1 p hp).1) (fun p hp => by rw [b2 10 (by simp), a3 p hp]) hse b4 b3 (fun p _ => s_rp_le ..) (fun p _ => by rw [s_rp_ow]; exact Nat.min_le_left _ _) n 0 h2 (by omega) (by
      refine ⟨q_fr.rf, q_f0.rf, ?_, ?_, ?_, ?_, ?_⟩
      · rw [b2 0 (by simp), a2 0 (by simp), v5, s_mr, Nat.add_zero]
      · intro p hp; rw [b2 9 (by simp), a2 9 (by simp), v1 p hp]; simp
      · intro p hp; rw [b2 13 (by simp), a2 13 (by simp), v2 p hp]; simp
      · intro p hp; rw [b2 14 (by simp), a2 14 (by simp), v3 p hp]; simp
      · intro p hp; rw [b2 15 (by simp), a2 15 (by simp), v4 p hp]; simp)
    obtain ⟨d0, d1, d2, d3, d4, d5, d6⟩ := c2
    obtain ⟨h', e1, e2⟩ := ih (i + 1) h3 (by omega) (((hf.tr a2 (U := [0, 9, 10, 11, 12, 13, 14, 15]) (fun _ q => q) (by simp)).tr b2 (U := [0, 9, 10, 11, 12, 13, 14, 15]) (fun _ q => q) (by simp)).tr d0 (fun _ q => q) (by simp)) (((hf0.tr a20).tr b20).tr d1) (by
      refine ⟨?_, ?_, ?_, ?_, d2, ?_⟩
      · intro p hp; rw [d3 p hp, if_pos hp, s_hd]
      · intro p hp; rw [d4 p hp, if_pos hp, s_pd]
      · intro p hp; rw [d5 p hp, if_pos hp, s_et]
      · intro p hp; rw [d6 p hp, if_pos hp, s_sh]
      · intro r hr
        have hri : r = i := by omega
        subst hri
        refine ⟨fun p hp => ?_, fun p hp => ?_⟩
        · rw [d0 11 (by simp), b4 p hp]
          rfl
        · rw [d0 10 (by simp), b2 10 (by simp), a3 p hp])
    refine ⟨h', ?_, e2⟩
    intro k fuel hfu
    obtain ⟨f, rfl⟩ : ∃ f, fuel = f + 1 := ⟨fuel - 1, by omega⟩
    rw [fX8_runs_L55, if_neg (fun q => absurd ((qn_le (by omega) (by omega)).mp q) (by omega)), a1, mm_call_some, b1, mm_call_some, show (0 : Int32) = nI 0 from rfl, c1 _ N (by omega), nI_1]
    exact e1 k f (by omega)
/-- the evening of the reference -/
theorem q8_runs {N n R law ti k0 : Nat} {pu ap ho wo : Nat → Nat} {se : Nat → Nat → Nat} {hy : mm_M} (hN : 100 ≤ N) (P : q_PY n law ti pu ap ho wo hy) (E : q_EY n R se hy) (hk : k0 ≤ R) :
    ∃ h', fX8_runs N hy (nI k0) = some (h', ()) ∧ q_fr [0, 9, 10, 11, 12, 13, 14, 15] hy h' ∧ q_f0 hy h' ∧ q_ey n law ti ap se (fun p => pu p - ho p) k0 h' ∧ (k0 = 0 → ∀ p, p < n → h' 11 p = nI 0) := by
  have hn := P.1
  have hR := E.1
  obtain ⟨h1, a1, a2, a3⟩ := q8_at (N := N) hN P
  have f1 : q_fr [0, 9] hy (mm_up h1 0 17 0) := a2.tr (q_fr.up (S := [0]) (by simp)) (by simp) (by simp)
  have f10 : q_f0 hy (mm_up h1 0 17 0) := by
    intro j hj
    simp [q_up, hj, a2 0 (by simp)]
  have P1 := P.fr f1 f10 (by simp) (by simp) (by simp) (by simp) (by simp)
  obtain ⟨h2, b1, b2, b3⟩ := q8_r11_L (N := N) (n := n) (p1 := nI k0) (hy := mm_up h1 0 17 0) P1.2.2.2.1 hn n 0 _ (by omega) q_fr.rf (fun p hp => absurd hp (Nat.not_lt_zero p))
  have f2 : q_fr [0, 9, 10, 11, 12, 13, 14, 15] hy h2 := f1.tr b2 (by simp) (by simp)
  have f20 : q_f0 hy h2 := f10.tr (q_f0.of b2 (by simp))
  have P2 := P.fr f2 f20 (by simp) (by simp) (by simp) (by simp) (by simp)
  have E2 := E.fr f2 f20 (by simp)
  obtain ⟨h3, c1, c2, c3, c4⟩ := q8_r55_L (N := N) (g := fun p => pu p - ho p) hN P2 E2 hk (fun p hp => by
    have := (P.2.2.2.2.2.2.1 p hp).2
    omega) k0 0 h2 (by omega) q_fr.rf q_f0.rf (by
      refine ⟨?_, ?_, ?_, ?_, ?_, ?_⟩
      · intro p hp; rw [b2 9 (by simp), mm_up_ne _ _ _ (by decide), a3 p hp, s_hd]
      · intro p hp; rw [(b3 p hp).2.1, s_pd]
      · intro p hp; rw [(b3 p hp).2.2.1, s_et]
      · intro p hp; rw [(b3 p hp).2.2.2, s_sh]
      · rw [b2 0 (by simp)]
        simp [q_up, s_me, nI_0]
      · intro r hr; omega)
  refine ⟨h3, ?_, f2.tr c2 (fun _ q => q) (fun _ q => q), f20.tr c3, c4, ?_⟩
  · unfold fX8_runs
    rw [a1, mm_call_some, mm_let, show (0 : Int32) = nI 0 from rfl, show mm_up h1 0 17 (nI 0) = mm_up h1 0 17 0 from rfl, b1 _ N (by omega), c1 _ N (by omega)]
  · intro h0 p hp
    subst h0
    have z : h3 = h2 := by
      have z1 := c1 (fun h => some (h, ())) N (by omega)
      obtain ⟨f, rfl⟩ : ∃ f, N = f + 1 := ⟨N - 1, by omega⟩
      rw [fX8_runs_L55, if_pos (by decide)] at z1
      simpa using z1.symm
    rw [z, (b3 p hp).1]
