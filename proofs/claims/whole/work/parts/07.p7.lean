/-! PURE 7: payer, beggars, unlike -/
section Q7
variable {N n R law ti : Nat} {pu ap ho wo : Nat → Nat} {se : Nat → Nat → Nat} {hx hy : mm_M} {c1 c2 : Nat → Int32} {f0 f1 : Nat}
/-- payments in round r, from hands at first -/
def s_py (n law ti : Nat) (ap : Nat → Nat) (se : Nat → Nat → Nat) (g : Nat → Nat) (r p : Nat) : Nat := s_rp n law ti ap (fun q => s_hd n law ti ap se g r q) (se r) p
theorem s_py_lt {g : Nat → Nat} (hg : ∀ p, p < n → g p ≤ 99) {r p : Nat} (hp : p < n) : s_py n law ti ap se g r p ≤ 99 := by
  have h1 := s_rp_le n law ti ap (fun q => s_hd n law ti ap se g r q) (se r) p
  have h2 := s_hd_le (n := n) (law := law) (ti := ti) (ap := ap) (se := se) (g := g) r p
  have h3 := hg p hp
  unfold s_py
  omega
theorem q7_payer (hN : 100 ≤ N) (P : q_PX n law ti pu ap ho wo hx) (E : q_EX n R se hx) (r t : Int32) :
    ∃ h', fX7_payer N hx r t = some (h', if mm_gd r R = true then (if mm_gd t 6 = true then q_ix (s_ah ti (s_py n law ti ap se (fun p => pu p - ho p) r.toNatClampNeg) (s_at (se r.toNatClampNeg) (t.toNatClampNeg + 1)) n) else -2) else -2) ∧ q_fr q_SX hx h' := by
  have hn := P.1
  have hR := E.1
  unfold fX7_payer
  rw [q7_isRound E, mm_call_some, q_b0]
  by_cases z : mm_gd r R = true
  · obtain ⟨r, hr, rfl⟩ := qg_ex z (by omega)
    rw [if_pos z, if_pos z, q7_in (n := 6) (by decide), mm_call_some, q_b0]
    by_cases y : mm_gd t 6 = true
    · obtain ⟨t, ht, rfl⟩ := qg_ex y (by omega)
      obtain ⟨h1, e1, e2, e3⟩ := q0_play (N := N) (k0 := r + 1) hN P E (by omega)
      have P1 := P.fr e2 (by simp) (by simp) (by simp) (by simp) (by simp)
      have E1 := E.fr e2 (by simp) (by simp) (by simp)
      obtain ⟨m, m1, m2, -, m4⟩ := q0_seated (N := N) E1 hr ht
      refine ⟨h1, ?_, e2.wk (by decide)⟩
      have hpu : ∀ p, p < n → (fun p => pu p - ho p) p ≤ 99 := fun p hp => by
        have := (P.2.2.2.2.2.2.1 p (by omega)).2
        simp only
        omega
      rw [if_pos y, if_pos y, nI_1, e1, mm_call_some, m2, mm_call_some, q2_ah (g := s_py n law ti ap se (fun p => pu p - ho p) r) hN P1.2.2.2.1 P1.2.2.2.2.2.1 hn P.2.2.1 (fun p hp => e3.2.2.2.2.2 r rfl p hp) (fun p hp => by have := s_py_lt (law := law) (ti := ti) (ap := ap) (se := se) (r := r) hpu hp; omega) m1, mm_call_some, qn_c (by omega), qn_c (by omega)]
      congr 3
      exact s_ah_congr ti n (fun q hq => by rw [m4 q (by omega)]; simp [s_at, hq]) (fun _ _ => rfl)
    · exact ⟨hx, by rw [if_neg y, if_neg y], q_fr.rf⟩
  · exact ⟨hx, by rw [if_neg z, if_neg z], q_fr.rf⟩
theorem q8_py_L {t : Nat} {g sc : Nat → Nat} (h2 : hy 0 2 = nI n) (h8 : hy 8 1 = nI ti) (hn : n ≤ 6) (hti : ti ≤ 1) (hg : ∀ p, p < n → hy 11 p = nI (g p)) (hgb : ∀ p, p < n → g p < 100000) (hsc : ∀ p, p < n → hy 10 p = q_ix (sc p)) (hscb : ∀ p, p < n → sc p ≤ 6) (ht : t < 6) (k : mm_M → Int32 → Option (mm_M × Int32)) :
    ∀ j fuel i, i + j = n → j < fuel → fX8_payerOf_L12 N (nI t) k fuel hy (q_ix (s_ah ti g (s_at sc (t + 1)) i)) (nI i) = k hy (q_ix (s_ah ti g (s_at sc (t + 1)) n)) := by
  intro j
  induction j with
  | zero =>
    intro fuel i hi hfu
    obtain ⟨f, rfl⟩ : ∃ f, fuel = f + 1 := ⟨fuel - 1, by omega⟩
    rw [fX8_payerOf_L12, h2, if_pos ((qn_le (by omega) (by omega)).mpr (by omega)), show i = n by omega]
  | succ j ih =>
    intro fuel i hi hfu
    obtain ⟨f, rfl⟩ : ∃ f, fuel = f + 1 := ⟨fuel - 1, by omega⟩
    have hr := ih f (i + 1) (by omega) (by omega)
    rw [s_ah] at hr
    have hle := s_ah_le ti g (s_at sc (t + 1)) i
    generalize hae : s_ah ti g (s_at sc (t + 1)) i = a at hr hle ⊢
    have c2 : (q_ix (sc i) = nI t) ↔ sc i = t + 1 := by
      rw [eq_comm]
      exact q_ix_nI (by have := hscb i (by omega); omega) (by omega)
    have c3 : (hy 8 (Int32.toNatClampNeg 1) = 1) ↔ ti = 1 := by
      rw [show Int32.toNatClampNeg 1 = 1 from rfl, h8]
      exact qn_eq (a := ti) (b := 1) (by omega) (by omega)
    have d1 : ¬ nI n ≤ nI i := fun q => absurd ((qn_le (by omega) (by omega)).mp q) (by omega)
    have gi : mm_gd (nI i) 7 = true := qn_gd (by omega) (by omega)
    have ci : (nI i).toNatClampNeg = i := qn_c (by omega)
    rw [fX8_payerOf_L12]
    simp only [h2, d1, if_false, gi, if_true, ci, hsc i (by omega), c2, c3, nI_1]
    simp only [s_at] at hr ⊢
    cases a with
    | zero =>
      rw [q_ix0]
      simp only [if_true]
      by_cases e1 : sc i = t + 1
      · simpa [e1, q_ixs] using hr
      · simpa [e1, q_ix0] using hr
    | succ a =>
      have ga : mm_gd (nI a) 7 = true := qn_gd (by omega) (by omega)
      have ca : (nI a).toNatClampNeg = a := qn_c (by omega)
      have e0 : ¬ nI a = -1 := qn_m1 (by omega)
      have g1 := hgb a (by omega)
      have g2 := hgb i (by omega)
      simp only [q_ixs, e0, if_false, ga, if_true, ca, hg a (by omega), hg i (by omega), qn_lt g1 g2, qn_eq g2 g1] at hr ⊢
      by_cases e1 : sc i = t + 1 <;> by_cases e3 : g a < g i <;> by_cases e4 : g i = g a <;> by_cases e5 : ti = 1 <;> simp [e1, e3, e4, e5, q_ixs] at hr ⊢ <;> first | exact hr | (exfalso; omega)
theorem q8_payerOf {r t : Nat} (hN : 100 ≤ N) (P : q_PY n law ti pu ap ho wo hy) (E : q_EY n R se hy) (hr : r < R) (ht : t < 6) :
    ∃ h', fX8_payerOf N hy (nI r) (nI t) = some (h', q_ix (s_ah ti (s_py n law ti ap se (fun p => pu p - ho p) r) (s_at (se r) (t + 1)) n)) ∧ q_fr [0, 9, 10, 11, 12, 13, 14, 15] hy h' ∧ q_f0 hy h' := by
  have hn := P.1
  have hR := E.1
  obtain ⟨h1, e1, e2, e3, e4, -⟩ := q8_runs (N := N) (k0 := r + 1) hN P E (by omega)
  have P1 := P.fr e2 e3 (by simp) (by simp) (by simp) (by simp) (by simp)
  refine ⟨h1, ?_, e2, e3⟩
  have hpu : ∀ p, p < n → (fun p => pu p - ho p) p ≤ 99 := fun p hp => by
    have := (P.2.2.2.2.2.2.1 p hp).2
    simp only
    omega
  unfold fX8_payerOf
  rw [nI_1, e1, mm_call_some]
  exact q8_py_L (N := N) (g := s_py n law ti ap se (fun p => pu p - ho p) r) P1.2.2.2.1 P1.2.2.2.2.2.1 hn P.2.2.1 (e4.2.2.2.2.2 r rfl).1 (fun p hp => by have := s_py_lt (law := law) (ti := ti) (ap := ap) (se := se) (r := r) hpu hp; omega) (e4.2.2.2.2.2 r rfl).2 (fun p hp => (E.2.2 r hr p hp).2) ht (fun h v => some (h, v)) n N 0 (by omega) (by omega)
theorem q8_payer (hN : 100 ≤ N) (D : q_RD N c1 c2 n R f0 f1 pu ap se) (Y : q_QY c1 c2 law ti ho wo hy) (r t : Int32) :
    ∃ h', fX8_payer N hy r t = some (h', if mm_gd r R = true then (if mm_gd t 6 = true then q_ix (s_ah ti (s_py n law ti ap se (fun p => pu p - ho p) r.toNatClampNeg) (s_at (se r.toNatClampNeg) (t.toNatClampNeg + 1)) n) else -2) else -2) ∧ q_fy hy h' := by
  obtain ⟨h2, e3, e4, P, E⟩ := q8_isRound (N := N) D Y r
  have hn := P.1
  have hR := E.1
  unfold fX8_payer
  rw [e3, mm_call_some, q_b0]
  by_cases z : mm_gd r R = true
  · obtain ⟨r, hr, rfl⟩ := qg_ex z (by omega)
    rw [if_pos z, if_pos z, q8_isSix, mm_call_some, q_b0]
    by_cases y : mm_gd t 6 = true
    · obtain ⟨t, ht, rfl⟩ := qg_ex y (by omega)
      obtain ⟨h3, g1, g2, g3⟩ := q8_payerOf (N := N) hN P E hr ht
      refine ⟨h3, ?_, e4.tr (q_fy.of g2 g3 (by decide))⟩
      rw [if_pos y, if_pos y, g1, mm_call_some, qn_c (by omega), qn_c (by omega)]
    · exact ⟨h2, by rw [if_neg y, if_neg y], e4⟩
  · exact ⟨h2, by rw [if_neg z, if_neg z], e4⟩
/-! beggars -/
def s_bg (f : Nat → Bool) : Nat → Int32
  | 0 => 0
  | p + 1 => if f p = true then s_bg f p ||| ((1 : Int32) <<< (nI p &&& 31)) else s_bg f p
theorem q7_bg_L {a b : Nat → Nat} (hn : n ≤ 6) (h5 : hx 6 5 = nI n) (ha : ∀ p, p < n → hx 17 p = nI (a p) ∧ a p < 100000) (hb : ∀ p, p < n → hx 16 p = nI (b p) ∧ b p < 100000) (k : mm_M → Int32 → Option (mm_M × Int32)) :
    ∀ j fuel i, i + j = n → j < fuel → fX7_beggars_L18 N k fuel hx (s_bg (fun p => decide (a p ≠ 0 ∧ b p = 0)) i) (nI i) = k hx (s_bg (fun p => decide (a p ≠ 0 ∧ b p = 0)) n) := by
  intro j
  induction j with
  | zero =>
    intro fuel i hi hfu
    obtain ⟨fu, rfl⟩ : ∃ f, fuel = f + 1 := ⟨fuel - 1, by omega⟩
    rw [fX7_beggars_L18, h5, if_pos ((qn_le (by omega) (by omega)).mpr (by omega)), show i = n by omega]
  | succ j ih =>
    intro fuel i hi hfu
    obtain ⟨fu, rfl⟩ : ∃ f, fuel = f + 1 := ⟨fuel - 1, by omega⟩
    have hr := ih fu (i + 1) (by omega) (by omega)
    rw [s_bg] at hr
    have a1 := ha i (by omega)
    have b1 := hb i (by omega)
    have z1 : (nI (a i) ≤ 0) ↔ a i = 0 := (qn_le (b := 0) a1.2 (by omega)).trans Nat.le_zero
    rw [fX7_beggars_L18, h5, if_neg (fun q => absurd ((qn_le (by omega) (by omega)).mp q) (by omega)), if_pos (qn_gd (by omega) (by omega)), qn_c (by omega), a1.1, b1.1, nI_1]
    simp only [z1, qn_e0 b1.2, mm_let]
    by_cases y1 : a i = 0 <;> by_cases y2 : b i = 0 <;> simp [y1, y2] at hr ⊢ <;> exact hr
theorem q8_bg_L {a b : Nat → Nat} (hn : n ≤ 6) (h2 : hy 0 2 = nI n) (ha : ∀ p, p < n → hy 14 p = nI (a p) ∧ a p < 100000) (hb : ∀ p, p < n → hy 13 p = nI (b p) ∧ b p < 100000) (k : mm_M → Int32 → Option (mm_M × Int32)) :
    ∀ j fuel i, i + j = n → j < fuel → fX8_beggarsNow_L16 N k fuel hy (s_bg (fun p => decide (a p ≠ 0 ∧ b p = 0)) i) (nI i) = k hy (s_bg (fun p => decide (a p ≠ 0 ∧ b p = 0)) n) := by
  intro j
  induction j with
  | zero =>
    intro fuel i hi hfu
    obtain ⟨fu, rfl⟩ : ∃ f, fuel = f + 1 := ⟨fuel - 1, by omega⟩
    rw [fX8_beggarsNow_L16, h2, if_pos ((qn_le (by omega) (by omega)).mpr (by omega)), show i = n by omega]
  | succ j ih =>
    intro fuel i hi hfu
    obtain ⟨fu, rfl⟩ : ∃ f, fuel = f + 1 := ⟨fuel - 1, by omega⟩
    have hr := ih fu (i + 1) (by omega) (by omega)
    rw [s_bg] at hr
    have a1 := ha i (by omega)
    have b1 := hb i (by omega)
    have z1 : (nI (a i) ≤ 0) ↔ a i = 0 := (qn_le (b := 0) a1.2 (by omega)).trans Nat.le_zero
    rw [fX8_beggarsNow_L16, h2, if_neg (fun q => absurd ((qn_le (by omega) (by omega)).mp q) (by omega)), if_pos (qn_gd (by omega) (by omega)), qn_c (by omega), a1.1, b1.1, nI_1]
    simp only [z1, qn_e0 b1.2, mm_let, Int32.or_zero]
    by_cases y1 : a i = 0 <;> by_cases y2 : b i = 0 <;> simp [y1, y2] at hr ⊢ <;> exact hr
theorem s_et_le {k p : Nat} (h : ap p ≤ 99) : s_et ap se k p ≤ 99 * k := by
  induction k with
  | zero => exact Nat.le_refl _
  | succ k ih =>
    rw [s_et]
    split <;> omega
theorem s_pd_le {g : Nat → Nat} {k p : Nat} : s_pd n law ti ap se g k p + s_hd n law ti ap se g k p = g p := by
  induction k with
  | zero => simp [s_pd, s_hd]
  | succ k ih =>
    have := s_rp_le n law ti ap (fun q => s_hd n law ti ap se g k q) (se k) p
    rw [s_pd, s_hd]
    omega
theorem q7_beggars (hN : 100 ≤ N) (P : q_PX n law ti pu ap ho wo hx) (E : q_EX n R se hx) :
    ∃ h', fX7_beggars N hx = some (h', s_bg (fun p => decide (s_et ap se R p ≠ 0 ∧ s_pd n law ti ap se (fun p => pu p - ho p) R p = 0)) n) ∧ q_fr q_SX hx h' := by
  have hn := P.1
  have hR := E.1
  obtain ⟨h1, e1, e2, e3⟩ := q0_play (N := N) (k0 := R) hN P E (by omega)
  refine ⟨h1, ?_, e2.wk (by decide)⟩
  unfold fX7_beggars
  rw [E.2.1, e1, mm_call_some]
  refine q7_bg_L (N := N) hn (by rw [e2 6 (by simp), P.2.2.2.1]) (fun p hp => ⟨e3.2.2.1 p hp, ?_⟩) (fun p hp => ⟨e3.2.1 p hp, ?_⟩) (fun h v => some (h, v)) n N 0 (by omega) (by omega)
  · have := s_et_le (se := se) (k := R) (P.2.2.2.2.2.2.2.1 p (by omega)).2
    omega
  · have := s_pd_le (n := n) (law := law) (ti := ti) (ap := ap) (se := se) (g := fun p => pu p - ho p) (k := R) (p := p)
    have := (P.2.2.2.2.2.2.1 p (by omega)).2
    omega
theorem q8_beggars (hN : 100 ≤ N) (D : q_RD N c1 c2 n R f0 f1 pu ap se) (Y : q_QY c1 c2 law ti ho wo hy) :
    ∃ h', fX8_beggarsNow N hy = some (h', s_bg (fun p => decide (s_et ap se R p ≠ 0 ∧ s_pd n law ti ap se (fun p => pu p - ho p) R p = 0)) n) ∧ q_fy hy h' := by
  obtain ⟨h2, e3, e4, P, E⟩ := q8_reads (N := N) D Y
  have hn := P.1
  have hR := E.1
  obtain ⟨h1, e1, e2, e5, e6, -⟩ := q8_runs (N := N) (k0 := R) hN P E (by omega)
  refine ⟨h1, ?_, e4.tr (q_fy.of e2 e5 (by decide))⟩
  unfold fX8_beggarsNow
  rw [e3, mm_call_some, E.2.1, e1, mm_call_some]
  refine q8_bg_L (N := N) hn (by rw [e5 2 (by decide), P.2.2.2.1]) (fun p hp => ⟨e6.2.2.1 p hp, ?_⟩) (fun p hp => ⟨e6.2.1 p hp, ?_⟩) (fun h v => some (h, v)) n N 0 (by omega) (by omega)
  · have := s_et_le (se := se) (k := R) (P.2.2.2.2.2.2.2.1 p hp).2
    omega
  · have := s_pd_le (n := n) (law := law) (ti := ti) (ap := ap) (se := se) (g := fun p => pu p - ho p) (k := R) (p := p)
    have := (P.2.2.2.2.2.2.1 p hp).2
    omega
/-! what was seen -/
def q_SeX (ns : Nat) (sr sp sv : Nat → Nat) (h : mm_M) : Prop := ns ≤ 8 ∧ h 28 6 = nI ns ∧ ∀ i, i < ns → h 30 i = nI (sr i) ∧ h 31 i = nI (sp i) ∧ h 32 i = nI (sv i) ∧ sr i < 8 ∧ sp i < 6 ∧ sv i ≤ 99
def q_SeY (ns : Nat) (sr sp sv : Nat → Nat) (h : mm_M) : Prop := ns ≤ 8 ∧ h 0 19 = nI ns ∧ ∀ i, i < ns → h 17 i = nI (sr i) ∧ h 18 i = nI (sp i) ∧ h 19 i = nI (sv i) ∧ sr i < 8 ∧ sp i < 6 ∧ sv i ≤ 99
def s_ok (n R : Nat) (sr sp sv : Nat → Nat) (py : Nat → Nat → Nat) (i : Nat) : Bool := decide (sr i < R ∧ sp i < n ∧ py (sr i) (sp i) = sv i)
def s_un (f : Nat → Bool) : Nat → Nat
  | 0 => 0
  | i + 1 => s_un f i + if f i = true then 0 else 1
theorem s_un_le (f : Nat → Bool) (i : Nat) : s_un f i ≤ i := by
  induction i with
  | zero => exact Nat.le_refl _
  | succ i ih =>
    rw [s_un]
    split <;> omega
variable {ns : Nat} {sr sp sv : Nat → Nat}
theorem q4_un_L {py : Nat → Nat → Nat} (hn : n ≤ 6) (hR : R ≤ 8) (h5 : hx 6 5 = nI n) (h9 : hx 12 9 = nI R) (S : q_SeX ns sr sp sv hx) (hpy : ∀ r, r < R → ∀ p, p < n → hx 20 (6 * r + p) = nI (py r p) ∧ py r p < 100000) (k : mm_M → Int32 → Option (mm_M × Int32)) :
    ∀ j fuel i, i + j = ns → j < fuel → fX4_unlikeSeen_L4 N k fuel hx (nI (s_un (s_ok n R sr sp sv py) i)) (nI i) = k hx (nI (s_un (s_ok n R sr sp sv py) ns)) := by
  obtain ⟨s0, s1, s2⟩ := S
  intro j
  induction j with
  | zero =>
    intro fuel i hi hfu
    obtain ⟨fu, rfl⟩ : ∃ f, fuel = f + 1 := ⟨fuel - 1, by omega⟩
    rw [fX4_unlikeSeen_L4, s1, if_pos ((qn_le (by omega) (by omega)).mpr (by omega)), show i = ns by omega]
  | succ j ih =>
    intro fuel i hi hfu
    obtain ⟨fu, rfl⟩ : ∃ f, fuel = f + 1 := ⟨fuel - 1, by omega⟩
    have hr := ih fu (i + 1) (by omega) (by omega)
    rw [s_un] at hr
    obtain ⟨t1, t2, t3, t4, t5, t6⟩ := s2 i (by omega)
    rw [fX4_unlikeSeen_L4, s1, if_neg (fun q => absurd ((qn_le (by omega) (by omega)).mp q) (by omega)), if_pos (qn_gd (by omega) (by omega)), qn_c (by omega), h9, h5, t1, t2, nI_1, nI_1]
    simp only [qn_le (show R < 100000 by omega) (show sr i < 100000 by omega), qn_le (show n < 100000 by omega) (show sp i < 100000 by omega)]
    by_cases y1 : R ≤ sr i
    · have z : s_ok n R sr sp sv py i = false := by
        simp only [s_ok, decide_eq_false_iff_not]
        omega
      rw [if_pos y1]
      simpa [z] using hr
    · rw [if_neg y1]
      by_cases y2 : n ≤ sp i
      · have z : s_ok n R sr sp sv py i = false := by
          simp only [s_ok, decide_eq_false_iff_not]
          omega
        rw [if_pos y2]
        simpa [z] using hr
      · rw [if_neg y2]
        have w := hpy (sr i) (by omega) (sp i) (by omega)
        have e1 : fX4_paidAsPlayed N hx (nI i) = some (hx, nI (py (sr i) (sp i))) := by
          unfold fX4_paidAsPlayed
          rw [if_pos (qn_gd (by omega) (by omega)), qn_c (by omega), t1, t2, qn_ix, if_pos (qn_gd (by omega) (by omega)), qn_c (by omega), w.1]
        rw [e1, mm_call_some, t3]
        simp only [qn_eq w.2 (show sv i < 100000 by omega)]
        have z : s_ok n R sr sp sv py i = decide (py (sr i) (sp i) = sv i) := by
          simp [s_ok, show sr i < R by omega, show sp i < n by omega]
        rw [z] at hr
        by_cases y3 : py (sr i) (sp i) = sv i <;> simp [y3] at hr ⊢ <;> exact hr
theorem q4_un {py : Nat → Nat → Nat} (hN : 100 ≤ N) (hn : n ≤ 6) (hR : R ≤ 8) (h5 : hx 6 5 = nI n) (h9 : hx 12 9 = nI R) (S : q_SeX ns sr sp sv hx) (hpy : ∀ r, r < R → ∀ p, p < n → hx 20 (6 * r + p) = nI (py r p) ∧ py r p < 100000) :
    fX4_unlikeSeen N hx = some (hx, nI (s_un (s_ok n R sr sp sv py) ns)) := by
  have hs := S.1
  exact q4_un_L hn hR h5 h9 S hpy (fun h v => some (h, v)) ns N 0 (by omega) (by omega)
theorem q_SeX.fr {h h' : mm_M} {L : List Nat} (a : q_SeX ns sr sp sv h) (f : q_fr L h h') (h28 : 28 ∉ L) (h30 : 30 ∉ L) (h31 : 31 ∉ L) (h32 : 32 ∉ L) : q_SeX ns sr sp sv h' := by
  unfold q_SeX at *
  rw [f 28 h28, f 30 h30, f 31 h31, f 32 h32]
  exact a
theorem q_SeY.fy {h h' : mm_M} (a : q_SeY ns sr sp sv h) (f : q_fy h h') : q_SeY ns sr sp sv h' := by
  unfold q_SeY at *
  rw [f.2.1, f.1 17 (by simp), f.1 18 (by simp), f.1 19 (by simp)]
  exact a
theorem q7_unlike (hN : 100 ≤ N) (P : q_PX n law ti pu ap ho wo hx) (E : q_EX n R se hx) (S : q_SeX ns sr sp sv hx) :
    ∃ h', fX7_unlike N hx = some (h', nI (s_un (s_ok n R sr sp sv (s_py n law ti ap se (fun p => pu p - ho p))) ns)) ∧ q_fr q_SX hx h' := by
  have hn := P.1
  have hR := E.1
  obtain ⟨h1, e1, e2, e3⟩ := q0_play (N := N) (k0 := R) hN P E (by omega)
  refine ⟨h1, ?_, e2.wk (by decide)⟩
  have hpu : ∀ p, p < n → (fun p => pu p - ho p) p ≤ 99 := fun p hp => by
    have := (P.2.2.2.2.2.2.1 p (by omega)).2
    simp only
    omega
  unfold fX7_unlike
  rw [E.2.1, e1, mm_call_some, q4_un (N := N) (py := s_py n law ti ap se (fun p => pu p - ho p)) hN hn hR (by rw [e2 6 (by simp), P.2.2.2.1]) (by rw [e2 12 (by simp), E.2.1]) (S.fr e2 (by simp) (by simp) (by simp) (by simp)) (fun r hr p hp => ⟨e3.2.2.2.2.1 r hr p hp, by have := s_py_lt (law := law) (ti := ti) (ap := ap) (se := se) (r := r) hpu hp; omega⟩), mm_call_some]
theorem q8_comes {i : Nat} (hN : 100 ≤ N) (P : q_PY n law ti pu ap ho wo hy) (E : q_EY n R se hy) (S : q_SeY ns sr sp sv hy) (hi : i < ns) :
    ∃ h', fX8_comesOut N hy (nI i) = some (h', if s_ok n R sr sp sv (s_py n law ti ap se (fun p => pu p - ho p)) i = true then 1 else 0) ∧ q_fr [0, 9, 10, 11, 12, 13, 14, 15] hy h' ∧ q_f0 hy h' := by
  have hn := P.1
  have hR := E.1
  obtain ⟨s0, s1, s2⟩ := S
  obtain ⟨t1, t2, t3, t4, t5, t6⟩ := s2 i hi
  unfold fX8_comesOut
  rw [if_pos (qn_gd (by omega) (by omega)), qn_c (by omega), E.2.1, P.2.2.2.1, t1, t2]
  simp only [qn_le (show R < 100000 by omega) (show sr i < 100000 by omega), qn_lt (show sp i < 100000 by omega) (show n < 100000 by omega)]
  by_cases y1 : R ≤ sr i
  · have z : s_ok n R sr sp sv (s_py n law ti ap se (fun p => pu p - ho p)) i = false := by
      simp only [s_ok, decide_eq_false_iff_not]
      omega
    exact ⟨hy, by rw [if_pos y1, z]; rfl, q_fr.rf, q_f0.rf⟩
  · by_cases y2 : sp i < n
    · obtain ⟨h1, e1, e2, e3, e4, -⟩ := q8_runs (N := N) (k0 := sr i + 1) hN P E (by omega)
      refine ⟨h1, ?_, e2, e3⟩
      have hpu : ∀ p, p < n → (fun p => pu p - ho p) p ≤ 99 := fun p hp => by
        have := (P.2.2.2.2.2.2.1 p hp).2
        simp only
        omega
      have w := s_py_lt (law := law) (ti := ti) (ap := ap) (se := se) (r := sr i) hpu y2
      have w2 : h1 11 (sp i) = nI (s_py n law ti ap se (fun p => pu p - ho p) (sr i) (sp i)) := (e4.2.2.2.2.2 (sr i) rfl).1 (sp i) y2
      rw [if_neg y1, if_pos y2, nI_1, e1, mm_call_some, e2 18 (by simp), t2, if_pos (qn_gd (by omega) (by omega)), qn_c (by omega), w2, e2 19 (by simp), t3]
      have z : s_ok n R sr sp sv (s_py n law ti ap se (fun p => pu p - ho p)) i = decide (s_py n law ti ap se (fun p => pu p - ho p) (sr i) (sp i) = sv i) := by
        simp [s_ok, show sr i < R by omega, y2]
      simp only [qn_eq (show s_py n law ti ap se (fun p => pu p - ho p) (sr i) (sp i) < 100000 by omega) (show sv i < 100000 by omega), z, decide_eq_true_eq]
      split <;> rfl
    · have z : s_ok n R sr sp sv (s_py n law ti ap se (fun p => pu p - ho p)) i = false := by
        simp only [s_ok, decide_eq_false_iff_not]
        omega
      exact ⟨hy, by rw [if_neg y1, if_neg y2, z]; rfl, q_fr.rf, q_f0.rf⟩
theorem q8_un_L (hN : 100 ≤ N) (P : q_PY n law ti pu ap ho wo hy) (E : q_EY n R se hy) (S : q_SeY ns sr sp sv hy) :
    ∀ j i h, i + j = ns → q_fr [0, 9, 10, 11, 12, 13, 14, 15] hy h → q_f0 hy h →
      ∃ h', (∀ k fuel, j < fuel → fX8_unlikeNow_L8 N k fuel h (nI (s_un (s_ok n R sr sp sv (s_py n law ti ap se (fun p => pu p - ho p))) i)) (nI i) = k h' (nI (s_un (s_ok n R sr sp sv (s_py n law ti ap se (fun p => pu p - ho p))) ns))) ∧ q_fr [0, 9, 10, 11, 12, 13, 14, 15] hy h' ∧ q_f0 hy h' := by
  have hs := S.1
  intro j
  induction j with
  | zero =>
    intro i h hi hf hf0
    refine ⟨h, ?_, hf, hf0⟩
    intro k fuel hfu
    obtain ⟨fu, rfl⟩ : ∃ f, fuel = f + 1 := ⟨fuel - 1, by omega⟩
    rw [fX8_unlikeNow_L8, hf0 19 (by decide), S.2.1, if_pos ((qn_le (by omega) (by omega)).mpr (by omega)), show i = ns by omega]
  | succ j ih =>
    intro i h hi hf hf0
    obtain ⟨h1, g1, g2, g3⟩ := q8_comes (N := N) (i := i) hN (P.fr hf hf0 (by simp) (by simp) (by simp) (by simp) (by simp)) (E.fr hf hf0 (by simp)) (S.fy (q_fy.of hf hf0 (by decide))) (by omega)
    obtain ⟨h', e1, e2⟩ := ih (i + 1) h1 (by omega) (hf.tr g2 (fun _ q => q) (fun _ q => q)) (hf0.tr g3)
    refine ⟨h', ?_, e2⟩
    intro k fuel hfu
    obtain ⟨fu, rfl⟩ : ∃ f, fuel = f + 1 := ⟨fuel - 1, by omega⟩
    have hr := e1 k fu (by omega)
    rw [s_un] at hr
    rw [fX8_unlikeNow_L8, hf0 19 (by decide), S.2.1, if_neg (fun q => absurd ((qn_le (by omega) (by omega)).mp q) (by omega)), g1, mm_call_some, q_b0, nI_1]
    simp only [mm_let, nI_1, Int32.add_zero]
    by_cases y : s_ok n R sr sp sv (s_py n law ti ap se (fun p => pu p - ho p)) i = true <;> simp [y] at hr ⊢ <;> exact hr
theorem q8_unlike (hN : 100 ≤ N) (D : q_RD N c1 c2 n R f0 f1 pu ap se) (Y : q_QY c1 c2 law ti ho wo hy) (S : q_SeY ns sr sp sv hy) :
    ∃ h', fX8_unlikeNow N hy = some (h', nI (s_un (s_ok n R sr sp sv (s_py n law ti ap se (fun p => pu p - ho p))) ns)) ∧ q_fy hy h' ∧ q_PY n law ti pu ap ho wo h' ∧ q_EY n R se h' := by
  obtain ⟨h2, e3, e4, P, E⟩ := q8_reads (N := N) D Y
  have hs := S.1
  obtain ⟨h1, e1, e2, e5⟩ := q8_un_L (N := N) hN P E (S.fy e4) ns 0 h2 (by omega) q_fr.rf q_f0.rf
  refine ⟨h1, ?_, e4.tr (q_fy.of e2 e5 (by decide)), P.fr e2 e5 (by simp) (by simp) (by simp) (by simp) (by simp), E.fr e2 e5 (by simp)⟩
  unfold fX8_unlikeNow
  rw [e3, mm_call_some]
  exact e1 (fun h v => some (h, v)) N (by omega)
/-! hid -/
/-- the first of so many from i on, and 1; 0: none -/
def s_fi (f : Nat → Bool) : Nat → Nat → Nat
  | 0, _ => 0
  | j + 1, i => if f i = true then i + 1 else s_fi f j (i + 1)
theorem s_fi_le (f : Nat → Bool) : ∀ j i, s_fi f j i ≤ i + j := by
  intro j
  induction j with
  | zero => intro i; exact Nat.zero_le _
  | succ j ih =>
    intro i
    have := ih (i + 1)
    rw [s_fi]
    split <;> omega
/-- whether all that was seen comes out, where a leaves so much at home -/
def s_hf (n R law ti : Nat) (pu ap ho : Nat → Nat) (se : Nat → Nat → Nat) (ns : Nat) (sr sp sv : Nat → Nat) (a left : Nat) : Bool :=
  decide (s_un (s_ok n R sr sp sv (s_py n law ti ap se (fun p => pu p - va_up ho a left p))) ns = 0)
theorem q4_hid_L {a : Nat} (hN : 100 ≤ N) (P : q_PX n law ti pu ap ho wo hx) (E : q_EX n R se hx) (S : q_SeX ns sr sp sv hx) (ha : a < n) :
    ∀ j i h, i + j = pu a + 1 → q_fr q_SX hx h →
      ∃ h', (∀ k fuel, j < fuel → fX4_leastHidden_L2 N (nI a) k fuel h (nI i) = if s_fi (s_hf n R law ti pu ap ho se ns sr sp sv a) j i = 0 then k h' else some (h', nI (s_fi (s_hf n R law ti pu ap ho se ns sr sp sv a) j i - 1))) ∧ q_fr q_SX hx h' := by
  have hn := P.1
  have hR := E.1
  have pa := P.2.2.2.2.2.2.1 a (by omega)
  intro j
  induction j with
  | zero =>
    intro i h hi hf
    refine ⟨h, ?_, hf⟩
    intro k fuel hfu
    obtain ⟨fu, rfl⟩ : ∃ f, fuel = f + 1 := ⟨fuel - 1, by omega⟩
    rw [fX4_leastHidden_L2, if_pos (qn_gd (by omega) (by omega)), qn_c (by omega), hf 7 (by decide), pa.1, if_pos ((qn_lt (by omega) (by omega)).mpr (by omega)), s_fi, if_pos rfl]
  | succ j ih =>
    intro i h hi hf
    have P1 := P.fr hf (by decide) (by decide) (by decide) (by decide) (by decide)
    have E1 := E.fr hf (by decide) (by decide) (by decide)
    obtain ⟨h1, a1, a2, a3⟩ := q2_tell (N := N) (c0 := 15) hN (by decide) (by decide) P1.2.2.2.2.2.2.1 P1.2.2.2.2.2.2.2.2.1
    have f2 : q_fr [15] h (mm_up h1 15 a (nI (pu a - i))) := a2.tr (q_fr.up (S := [15]) (by simp)) (fun _ q => q) (fun _ q => q)
    have P2 := P1.fr f2 (by decide) (by decide) (by decide) (by decide) (by decide)
    have E2 := E1.fr f2 (by decide) (by decide) (by decide)
    have hgb : ∀ p, p < n → (fun p => pu p - va_up ho a i p) p ≤ 99 := fun p hp => by
      have := (P.2.2.2.2.2.2.1 p (by omega)).2
      simp only
      omega
    obtain ⟨h3, b1, b2, b3⟩ := q0_from (N := N) (k0 := R) (g := fun p => pu p - va_up ho a i p) hN P2 E2 (by omega) (fun p hp => by
      rw [q_up]
      by_cases e : p = a
      · subst e; simp [va_up]
      · simp [e, va_up, a3 p (by omega)]) (fun p hp => by have := hgb p hp; simp only at this; omega)
    have f3 : q_fr q_SX hx h3 := (hf.tr f2 (U := q_SX) (fun _ q => q) (by decide)).tr b2 (fun _ q => q) (by decide)
    have S3 := S.fr f3 (by decide) (by decide) (by decide) (by decide)
    have u := q4_un (N := N) (py := s_py n law ti ap se (fun p => pu p - va_up ho a i p)) hN hn hR (by rw [f3 6 (by decide), P.2.2.2.1]) (by rw [f3 12 (by decide), E.2.1]) S3 (fun r hr p hp => ⟨b3.2.2.2.2.1 r hr p hp, by have := s_py_lt (law := law) (ti := ti) (ap := ap) (se := se) (r := r) hgb hp; omega⟩)
    have st : ∀ k fu, fX4_leastHidden_L2 N (nI a) k (fu + 1) h (nI i) = if nI (s_un (s_ok n R sr sp sv (s_py n law ti ap se (fun p => pu p - va_up ho a i p))) ns) = 0 then some (h3, nI i) else fX4_leastHidden_L2 N (nI a) k fu h3 (nI (i + 1)) := by
      intro k fu
      rw [fX4_leastHidden_L2, if_pos (qn_gd (by omega) (by omega)), qn_c (by omega), hf 7 (by decide), pa.1, if_neg (fun q => absurd ((qn_lt (by omega) (by omega)).mp q) (by omega)), a1, mm_call_some, mm_let, a2 7 (by decide), hf 7 (by decide), pa.1, qn_sub (by omega), E2.2.1, b1, mm_call_some, u, mm_call_some, nI_1]
    have hul := s_un_le (s_ok n R sr sp sv (s_py n law ti ap se (fun p => pu p - va_up ho a i p))) ns
    have hs := S.1
    simp only [qn_e0 (show s_un (s_ok n R sr sp sv (s_py n law ti ap se (fun p => pu p - va_up ho a i p))) ns < 100000 by omega)] at st
    by_cases z : s_hf n R law ti pu ap ho se ns sr sp sv a i = true
    · refine ⟨h3, ?_, f3⟩
      intro k fuel hfu
      obtain ⟨fu, rfl⟩ : ∃ f, fuel = f + 1 := ⟨fuel - 1, by omega⟩
      have z1 : s_un (s_ok n R sr sp sv (s_py n law ti ap se (fun p => pu p - va_up ho a i p))) ns = 0 := by simpa [s_hf] using z
      have z2 : ¬ i + 1 = 0 := by omega
      rw [st, s_fi, if_pos z, if_pos z1, if_neg z2, Nat.add_sub_cancel]
    · obtain ⟨h', e1, e2⟩ := ih (i + 1) h3 (by omega) f3
      refine ⟨h', ?_, e2⟩
      intro k fuel hfu
      obtain ⟨fu, rfl⟩ : ∃ f, fuel = f + 1 := ⟨fuel - 1, by omega⟩
      rw [st, s_fi, if_neg z, if_neg (by simpa [s_hf] using z)]
      exact e1 k fu (by omega)
theorem q4_hid {a : Nat} (hN : 200 ≤ N) (P : q_PX n law ti pu ap ho wo hx) (E : q_EX n R se hx) (S : q_SeX ns sr sp sv hx) (ha : a < n) :
    ∃ h', fX4_leastHidden N hx (nI a) = some (h', q_ix (s_fi (s_hf n R law ti pu ap ho se ns sr sp sv a) (pu a + 1) 0)) ∧ q_fr q_SX hx h' := by
  have hn := P.1
  have pa := P.2.2.2.2.2.2.1 a (by omega)
  obtain ⟨h', e1, e2⟩ := q4_hid_L (N := N) (by omega) P E S ha (pu a + 1) 0 hx (by omega) q_fr.rf
  refine ⟨h', ?_, e2⟩
  unfold fX4_leastHidden
  rw [show (0 : Int32) = nI 0 from rfl, e1 _ N (by omega)]
  cases s_fi (s_hf n R law ti pu ap ho se ns sr sp sv a) (pu a + 1) 0 with
  | zero => rfl
  | succ x => rfl
theorem q7_hid (hN : 200 ≤ N) (P : q_PX n law ti pu ap ho wo hx) (E : q_EX n R se hx) (S : q_SeX ns sr sp sv hx) (a : Int32) :
    ∃ h', fX7_hid N hx a = some (h', if mm_gd a n = true then q_ix (s_fi (s_hf n R law ti pu ap ho se ns sr sp sv a.toNatClampNeg) (pu a.toNatClampNeg + 1) 0) else -2) ∧ q_fr q_SX hx h' := by
  have hn := P.1
  unfold fX7_hid
  rw [q7_isPerson P, mm_call_some, q_b0]
  by_cases z : mm_gd a n = true
  · obtain ⟨p, hp, rfl⟩ := qg_ex z (by omega)
    obtain ⟨h', e1, e2⟩ := q4_hid (N := N) hN P E S hp
    exact ⟨h', by rw [if_pos z, if_pos z, e1, mm_call_some, qn_c (by omega)], e2⟩
  · exact ⟨hx, by rw [if_neg z, if_neg z], q_fr.rf⟩
/-- all that is told stays, but what a leaves at home -/
def q_hm (a : Nat) (hy h : mm_M) : Prop := (∀ c, c ∈ q_py → c ≠ 6 → h c = hy c) ∧ (∀ p, p ≠ a → h 6 p = hy 6 p) ∧ h 0 19 = hy 0 19 ∧ h 0 28 = hy 0 28
theorem q8_hid_L {a : Nat} {x2 : Int32} (hN : 200 ≤ N) (D : q_RD N c1 c2 n R f0 f1 pu ap se) (Y : q_QY c1 c2 law ti ho wo hy) (S : q_SeY ns sr sp sv hy) (ha : a < n) :
    ∀ j i h, i + j = pu a + 1 → q_hm a hy h → h 3 a = nI (pu a) →
      ∃ h', (∀ k fuel, j + 1 < fuel → fX8_hidOf_L12 N (nI a) x2 k fuel h (-1) (nI i) = k h' (q_ix (s_fi (s_hf n R law ti pu ap ho se ns sr sp sv a) j i))) ∧ q_hm a hy h' := by
  have hn := D.1
  have pa := (D.2.2.1 a ha).1
  intro j
  induction j with
  | zero =>
    intro i h hi hm h3
    refine ⟨h, ?_, hm⟩
    intro k fuel hfu
    obtain ⟨fu, rfl⟩ : ∃ f, fuel = f + 1 := ⟨fuel - 1, by omega⟩
    rw [fX8_hidOf_L12, if_pos (qn_gd (by omega) (by omega)), qn_c (by omega), h3, if_pos ((qn_lt (by omega) (by omega)).mpr (by omega)), s_fi]
    rfl
  | succ j ih =>
    intro i h hi hm h3
    obtain ⟨m1, m2, m3, m4⟩ := hm
    obtain ⟨y1, y2, y3, y4, y5, y6, y7, y8⟩ := Y
    have Y1 : q_QY c1 c2 law ti (va_up ho a i) wo (mm_up h 6 a (nI i)) := by
      refine ⟨?_, ?_, y3, y4, ?_, ?_, ?_, ?_⟩
      · rw [mm_up_ne _ _ _ (by decide), m1 1 (by simp) (by decide), y1]
      · rw [mm_up_ne _ _ _ (by decide), m1 2 (by simp) (by decide), y2]
      · rw [mm_up_ne _ _ _ (by decide), m1 8 (by simp) (by decide), y5]
      · rw [mm_up_ne _ _ _ (by decide), m1 8 (by simp) (by decide), y6]
      · intro p hp
        rw [q_up]
        by_cases e : p = a
        · subst e
          simp only [if_true, va_up]
          exact ⟨trivial, by omega⟩
        · simp only [if_true, va_up, e, if_false]
          rw [m2 p e]
          exact y7 p hp
      · rw [mm_up_ne _ _ _ (by decide), m1 7 (by simp) (by decide)]
        exact y8
    have S1 : q_SeY ns sr sp sv (mm_up h 6 a (nI i)) := by
      unfold q_SeY at *
      rw [mm_up_ne _ _ _ (by decide), mm_up_ne _ _ _ (by decide), mm_up_ne _ _ _ (by decide), mm_up_ne _ _ _ (by decide), m3, m1 17 (by simp) (by decide), m1 18 (by simp) (by decide), m1 19 (by simp) (by decide)]
      exact S
    obtain ⟨h4, e1, e2, P4, E4⟩ := q8_unlike (N := N) (by omega) D Y1 S1
    have hm4 : q_hm a hy h4 := by
      refine ⟨?_, ?_, ?_, ?_⟩
      · intro c hc h6
        rw [e2.1 c hc, mm_up_ne _ _ _ h6, m1 c hc h6]
      · intro p hp
        rw [e2.1 6 (by simp), q_up]
        simp [hp, m2 p hp]
      · rw [e2.2.1, mm_up_ne _ _ _ (by decide), m3]
      · rw [e2.2.2, mm_up_ne _ _ _ (by decide), m4]
    have hul := s_un_le (s_ok n R sr sp sv (s_py n law ti ap se (fun p => pu p - va_up ho a i p))) ns
    have hs := S.1
    have q34 : h4 3 a = nI (pu a) := (P4.2.2.2.2.2.2.1 a ha).1
    have st : ∀ k fu, fX8_hidOf_L12 N (nI a) x2 k (fu + 1) h (-1) (nI i) = if s_un (s_ok n R sr sp sv (s_py n law ti ap se (fun p => pu p - va_up ho a i p))) ns = 0 then fX8_hidOf_L12 N (nI a) x2 k fu h4 (nI i) (nI (i + 1)) else fX8_hidOf_L12 N (nI a) x2 k fu h4 (-1) (nI (i + 1)) := by
      intro k fu
      rw [fX8_hidOf_L12, if_pos (qn_gd (by omega) (by omega)), qn_c (by omega), h3, if_neg (fun q => absurd ((qn_lt (by omega) (by omega)).mp q) (by omega)), if_pos rfl, if_pos (qn_gd (by omega) (by omega)), mm_let, e1, mm_call_some, nI_1]
      simp only [qn_e0 (show s_un (s_ok n R sr sp sv (s_py n law ti ap se (fun p => pu p - va_up ho a i p))) ns < 100000 by omega)]
    by_cases z : s_hf n R law ti pu ap ho se ns sr sp sv a i = true
    · refine ⟨h4, ?_, hm4⟩
      intro k fuel hfu
      obtain ⟨fu, rfl⟩ : ∃ f, fuel = f + 2 := ⟨fuel - 2, by omega⟩
      rw [st, s_fi, if_pos z, if_pos (by simpa [s_hf] using z), q_ixs]
      rw [fX8_hidOf_L12, if_pos (qn_gd (by omega) (by omega)), if_neg (qn_m1 (by omega))]
      split <;> rfl
    · obtain ⟨h', e3, e4⟩ := ih (i + 1) h4 (by omega) hm4 q34
      refine ⟨h', ?_, e4⟩
      intro k fuel hfu
      obtain ⟨fu, rfl⟩ : ∃ f, fuel = f + 1 := ⟨fuel - 1, by omega⟩
      rw [st, s_fi, if_neg z, if_neg (by simpa [s_hf] using z)]
      exact e3 k fu (by omega)
theorem q8_hidOf {a : Nat} (hN : 200 ≤ N) (D : q_RD N c1 c2 n R f0 f1 pu ap se) (Y : q_QY c1 c2 law ti ho wo hy) (S : q_SeY ns sr sp sv hy) (ha : a < n) (h3 : hy 3 a = nI (pu a)) :
    ∃ h', fX8_hidOf N hy (nI a) = some (h', q_ix (s_fi (s_hf n R law ti pu ap ho se ns sr sp sv a) (pu a + 1) 0)) ∧ q_fy hy h' := by
  have hn := D.1
  have pa := (D.2.2.1 a ha).1
  obtain ⟨h', e1, e2⟩ := q8_hid_L (N := N) (x2 := hy 6 a) hN D Y S ha (pu a + 1) 0 hy (by omega) ⟨fun _ _ _ => rfl, fun _ _ => rfl, rfl, rfl⟩ h3
  refine ⟨mm_up h' 6 a (hy 6 a), ?_, ?_⟩
  · unfold fX8_hidOf
    rw [if_pos (qn_gd (by omega) (by omega)), mm_let, qn_c (by omega), show (0 : Int32) = nI 0 from rfl, e1 _ N (by omega), mm_let]
  · obtain ⟨m1, m2, m3, m4⟩ := e2
    refine ⟨?_, ?_, ?_⟩
    · intro c hc
      by_cases h6 : c = 6
      · subst h6
        funext p
        rw [q_up]
        by_cases e : p = a
        · subst e; simp
        · simp [e, m2 p e]
      · rw [mm_up_ne _ _ _ h6, m1 c hc h6]
    · rw [mm_up_ne _ _ _ (by decide), m3]
    · rw [mm_up_ne _ _ _ (by decide), m4]
theorem q8_hid (hN : 200 ≤ N) (D : q_RD N c1 c2 n R f0 f1 pu ap se) (Y : q_QY c1 c2 law ti ho wo hy) (S : q_SeY ns sr sp sv hy) (a : Int32) :
    ∃ h', fX8_hid N hy a = some (h', if mm_gd a n = true then q_ix (s_fi (s_hf n R law ti pu ap ho se ns sr sp sv a.toNatClampNeg) (pu a.toNatClampNeg + 1) 0) else -2) ∧ q_fy hy h' := by
  obtain ⟨h1, e1, e2, P, E⟩ := q8_isPerson (N := N) D Y a
  have hn := P.1
  unfold fX8_hid
  rw [e1, mm_call_some, q_b0]
  by_cases z : mm_gd a n = true
  · obtain ⟨p, hp, rfl⟩ := qg_ex z (by omega)
    obtain ⟨h', e3, e4⟩ := q8_hidOf (N := N) hN D (Y.fy e2) (S.fy e2) hp (P.2.2.2.2.2.2.1 p hp).1
    exact ⟨h', by rw [if_pos z, if_pos z, e3, mm_call_some, qn_c (by omega)], e2.tr e4⟩
  · exact ⟨h1, by rw [if_neg z, if_neg z], e2⟩
end Q7
