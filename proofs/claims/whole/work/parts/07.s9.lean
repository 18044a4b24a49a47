/-! PURE 12i: digest -/
abbrev q_mx (a : Int64) (b : Int32) : Int64 := (31 : Int64) * a + b.toInt64
def s_fo (f : Int64 → Nat → Int64) : Nat → Int64 → Int64
  | 0, v => v
  | i + 1, v => f (s_fo f i v) i
def s_d4 (n R law ti : Nat) (pu ap ho : Nat → Nat) (se : Nat → Nat → Nat) (p : Nat) (v : Int64) (w : Nat) : Int64 := q_mx v (nI (s_st n law ti ap se (fun p => pu p - ho p) (nI w) R p))
def s_dP (n R law ti : Nat) (pu ap ho wo : Nat → Nat) (se : Nat → Nat → Nat) (ns : Nat) (sr sp sv : Nat → Nat) (v : Int64) (p : Nat) : Int64 :=
  q_mx (q_mx (q_mx (s_fo (s_d4 n R law ti pu ap ho se p) 4 (q_mx (q_mx v (nI (pu p))) (nI (ap p)))) (s_rt n law ti pu ap ho wo p)) (if n ≤ 4 then s_fw n law ti ap (s_wy n) (fun p => pu p - ho p) (s_pA p 10) else -4)) (q_ix (s_fi (s_hf n R law ti pu ap ho se ns sr sp sv p) (pu p + 1) 0))
def s_d3 (n law ti : Nat) (pu ap ho wo : Nat → Nat) (se : Nat → Nat → Nat) (r : Nat) (v : Int64) (w : Nat) : Int64 := q_mx v (s_bt (s_b2 (s_bx n law ti pu ap ho wo (se r) 0) (pu 0 + 1) 6 0 (0, -1, 0)) (nI w))
def s_dy (n law ti : Nat) (pu ap ho : Nat → Nat) (se : Nat → Nat → Nat) (r t : Nat) : Int32 := q_ix (s_ah ti (s_py n law ti ap se (fun p => pu p - ho p) r) (s_at (se r) (t + 1)) n)
def s_dR (n law ti : Nat) (pu ap ho wo : Nat → Nat) (se : Nat → Nat → Nat) (v : Int64) (r : Nat) : Int64 :=
  s_fo (s_d3 n law ti pu ap ho wo se r) 3 (q_mx (q_mx v (s_dy n law ti pu ap ho se r 0)) (s_dy n law ti pu ap ho se r 1))
def s_dT (n R law ti : Nat) (pu ap ho wo : Nat → Nat) (se : Nat → Nat → Nat) (ns : Nat) (sr sp sv : Nat → Nat) (v : Int64) : Int64 :=
  (31 : Int64) * ((31 : Int64) * (q_mx (q_mx (q_mx (q_mx v (s_bg (fun p => decide (s_et ap se R p ≠ 0 ∧ s_pd n law ti ap se (fun p => pu p - ho p) R p = 0)) n)) (nI (s_rn n law ti pu ap ho wo))) (if n ≤ 4 then s_fw n law ti ap (s_wy n) (fun p => pu p - ho p) (s_pE n) else -4)) (nI (s_un (s_ok n R sr sp sv (s_py n law ti ap se (fun p => pu p - ho p))) ns))) + nL (s_lk 2 30 50 0)) + nL (s_lk 2 30 50 1)
section Q12i
variable {N n R law ti : Nat} {pu ap ho wo : Nat → Nat} {se : Nat → Nat → Nat} {hx hy : mm_M} {c1 c2 : Nat → Int32} {f0 f1 : Nat} {ns : Nat} {sr sp sv : Nat → Nat}
theorem q7_mx {h : mm_M} {a b : Int64} : fX7_mixed N h a b = some (h, (31 : Int64) * a + b) := rfl
/-- how rounds of ways stand -/
def q_wy (n law ti : Nat) (pu ap ho : Nat → Nat) (h : mm_M) : Prop := if n ≤ 4 then h 25 3 = nI (s_wy n) ∧ q_st n law ti ap (s_wy n) (fun p => pu p - ho p) ((1 + s_wy n + s_wy n * s_wy n) * s_wy n + 1) h else h 25 3 = nI 0
theorem q_wy.eq {h h' : mm_M} (a : q_wy n law ti pu ap ho h) (h25 : h' 25 = h 25) (h27 : h' 27 = h 27) : q_wy n law ti pu ap ho h' := by
  unfold q_wy q_st at *
  rw [h25, h27]
  exact a
theorem q7_d40 {p : Nat} {h : mm_M} (hn : n ≤ 6) (hp : p < n) (V : q_ev n law ti ap se (fun p => pu p - ho p) R h) (k : mm_M → Int64 → Option (mm_M × Int64)) (v : Int64) :
    ∀ j i fuel, i + j = 4 → j < fuel → fX7_mixedPerson_L40 N (nI p) k fuel h (s_fo (s_d4 n R law ti pu ap ho se p) i v) (nI i) = k h (s_fo (s_d4 n R law ti pu ap ho se p) 4 v) := by
  intro j
  induction j with
  | zero =>
    intro i fuel hi hfu
    obtain ⟨f, rfl⟩ : ∃ f, fuel = f + 1 := ⟨fuel - 1, by omega⟩
    have d : (3 : Int32) < nI i := (qn_lt (a := 3) (by omega) (by omega)).mpr (by omega)
    rw [fX7_mixedPerson_L40, if_pos d, show i = 4 by omega]
  | succ j ih =>
    intro i fuel hi hfu
    obtain ⟨f, rfl⟩ : ∃ f, fuel = f + 1 := ⟨fuel - 1, by omega⟩
    have d : ¬ (3 : Int32) < nI i := fun q => absurd ((qn_lt (a := 3) (by omega) (by omega)).mp q) (by omega)
    obtain ⟨c, s1, s2⟩ := q0_sums (N := N) hn V (nI i)
    have g6 : mm_gd (nI p) 6 = true := qn_gd (by omega) (by omega)
    have r := ih (i + 1) f (by omega) (by omega)
    rw [fX7_mixedPerson_L40, if_neg d, s1, mm_call_some, if_pos g6, qn_c (by omega), s2 p hp, q7_mx, mm_call_some, nI_1]
    exact r
theorem q7_mp {p : Nat} {v : Int64} {h : mm_M} (hN : 5000 ≤ N) (P : q_PX n law ti pu ap ho wo h) (E : q_EX n R se h) (S : q_SeX ns sr sp sv h) (h9 : h 21 9 = q_ix (s_rf n law ti pu ap ho wo)) (W : q_wy n law ti pu ap ho h) (hp : p < n) :
    ∃ h', fX7_mixedPerson N h v (nI p) = some (h', s_dP n R law ti pu ap ho wo se ns sr sp sv v p) ∧ q_fr q_SP h h' := by
  have hn := P.1
  obtain ⟨h1, p1, p2, p3⟩ := q0_play (N := N) (k0 := R) (by omega) P E (Nat.le_refl _)
  have P1 := P.fr p2 (by decide) (by decide) (by decide) (by decide) (by decide)
  have E1 := E.fr p2 (by decide) (by decide) (by decide)
  have S1 := S.fr2 p2 (by decide)
  have W1 := W.eq (h' := h1) (p2 25 (by decide)) (p2 27 (by decide))
  obtain ⟨h2, l1, l2⟩ := q4_hidP (N := N) (by omega) P1 E1 S1 hp
  refine ⟨h2, ?_, p2.tr l2 (fun _ q => q) (fun _ q => q)⟩
  have gp : mm_gd (nI p) n = true := qn_gd (by omega) (by omega)
  have e0 : fX7_person N h (nI p) 0 = some (h, nI (pu p)) := by
    rw [q7_person P, if_pos gp, if_pos (by decide), if_pos rfl, qn_c (by omega)]
  have e1 : fX7_person N h (nI p) 1 = some (h, nI (ap p)) := by
    rw [q7_person P, if_pos gp, if_pos (by decide), if_neg (by decide), qn_c (by omega)]
  have e3 : fX3_firstRestTable N h1 (nI p) = some (h1, s_rt n law ti pu ap ho wo p) := q3_first P1 (by rw [p2 21 (by decide), h9]) hp
  have e4 : fX1_fewestDown N h1 (nI p) 10 = some (h1, if n ≤ 4 then s_fw n law ti ap (s_wy n) (fun p => pu p - ho p) (s_pA p 10) else -4) := by
    unfold fX1_fewestDown
    rw [q1_asked (q := nI p) (vv := 10) hN P1 W1 (Or.inr ⟨p, 10, hp, by omega, rfl, rfl, rfl⟩), mm_call_some]
  unfold fX7_mixedPerson
  rw [e0, mm_call_some, q7_mx, mm_call_some, e1, mm_call_some, q7_mx, mm_call_some, E.2.1, p1, mm_call_some]
  refine Eq.trans (q7_d40 (N := N) hn hp p3 _ _ 4 0 N rfl (by omega)) ?_
  rw [e3, mm_call_some, q7_mx, mm_call_some, e4, mm_call_some, q7_mx, mm_call_some, l1, mm_call_some, q7_mx, mm_call_some]
  rfl
theorem q7_d65 (hN : 5000 ≤ N) (P : q_PX n law ti pu ap ho wo hx) (E : q_EX n R se hx) (S : q_SeX ns sr sp sv hx) (h9 : hx 21 9 = q_ix (s_rf n law ti pu ap ho wo)) (W : q_wy n law ti pu ap ho hx) (v : Int64) :
    ∀ j i h, i + j = n → q_fr q_SP hx h → ∃ h', (∀ k fuel, j < fuel → fX7_digest_L65 N k fuel h (s_fo (s_dP n R law ti pu ap ho wo se ns sr sp sv) i v) (nI i) = k h' (s_fo (s_dP n R law ti pu ap ho wo se ns sr sp sv) n v)) ∧ q_fr q_SP hx h' := by
  have hn := P.1
  intro j
  induction j with
  | zero =>
    intro i h hi hf
    refine ⟨h, ?_, hf⟩
    intro k fuel hfu
    obtain ⟨f, rfl⟩ : ∃ f, fuel = f + 1 := ⟨fuel - 1, by omega⟩
    have d : nI n ≤ nI i := (qn_le (by omega) (by omega)).mpr (by omega)
    rw [fX7_digest_L65, hf 6 (by decide), P.2.2.2.1, if_pos d, show i = n by omega]
  | succ j ih =>
    intro i h hi hf
    have d : ¬ nI n ≤ nI i := fun q => absurd ((qn_le (by omega) (by omega)).mp q) (by omega)
    obtain ⟨h1, m1, m2⟩ := q7_mp (N := N) (p := i) (v := s_fo (s_dP n R law ti pu ap ho wo se ns sr sp sv) i v) hN (P.fr hf (by decide) (by decide) (by decide) (by decide) (by decide)) (E.fr hf (by decide) (by decide) (by decide)) (S.fr2 hf (by decide)) (by rw [hf 21 (by decide), h9]) (W.eq (hf 25 (by decide)) (hf 27 (by decide))) (by omega)
    obtain ⟨h', e1, e2⟩ := ih (i + 1) h1 (by omega) (hf.tr m2 (fun _ q => q) (fun _ q => q))
    refine ⟨h', ?_, e2⟩
    intro k fuel hfu
    obtain ⟨f, rfl⟩ : ∃ f, fuel = f + 1 := ⟨fuel - 1, by omega⟩
    rw [fX7_digest_L65, hf 6 (by decide), P.2.2.2.1, if_neg d, m1, mm_call_some, nI_1]
    exact e1 k f (by omega)
theorem q7_d35 {r : Nat} {h : mm_M} (B : ∀ w, fX3_bestTold N h w = some (h, s_bt (s_b2 (s_bx n law ti pu ap ho wo (se r) 0) (pu 0 + 1) 6 0 (0, -1, 0)) w)) (k : mm_M → Int64 → Option (mm_M × Int64)) (v : Int64) :
    ∀ j i fuel, i + j = 3 → j < fuel → fX7_mixedRound_L35 N k fuel h (s_fo (s_d3 n law ti pu ap ho wo se r) i v) (nI i) = k h (s_fo (s_d3 n law ti pu ap ho wo se r) 3 v) := by
  intro j
  induction j with
  | zero =>
    intro i fuel hi hfu
    obtain ⟨f, rfl⟩ : ∃ f, fuel = f + 1 := ⟨fuel - 1, by omega⟩
    have d : (2 : Int32) < nI i := (qn_lt (a := 2) (by omega) (by omega)).mpr (by omega)
    rw [fX7_mixedRound_L35, if_pos d, show i = 3 by omega]
  | succ j ih =>
    intro i fuel hi hfu
    obtain ⟨f, rfl⟩ : ∃ f, fuel = f + 1 := ⟨fuel - 1, by omega⟩
    have d : ¬ (2 : Int32) < nI i := fun q => absurd ((qn_lt (a := 2) (by omega) (by omega)).mp q) (by omega)
    have r := ih (i + 1) f (by omega) (by omega)
    rw [fX7_mixedRound_L35, if_neg d, B, mm_call_some, q7_mx, mm_call_some, nI_1]
    exact r
abbrev q_SR : List Nat := [11, 15, 16, 17, 18, 19, 20, 21, 22]
theorem q7_mr {r : Nat} {v : Int64} {h : mm_M} (hN : 5000 ≤ N) (P : q_PX n law ti pu ap ho wo h) (E : q_EX n R se h) (hr : r < R) (n0 : 0 < n) :
    ∃ h', fX7_mixedRound N h v (nI r) = some (h', s_dR n law ti pu ap ho wo se v r) ∧ q_fr q_SR h h' ∧ h' 21 8 = h 21 8 := by
  have hn := P.1
  have hR := E.1
  have gr : mm_gd (nI r) R = true := qn_gd (by omega) (by omega)
  obtain ⟨h1, a1, a2⟩ := q7_payerP (N := N) (by omega) P E (nI r) 0
  have P1 := P.fr a2 (by decide) (by decide) (by decide) (by decide) (by decide)
  have E1 := E.fr a2 (by decide) (by decide) (by decide)
  obtain ⟨h2, b1, b2⟩ := q7_payerP (N := N) (by omega) P1 E1 (nI r) 1
  have P2 := P1.fr b2 (by decide) (by decide) (by decide) (by decide) (by decide)
  have E2 := E1.fr b2 (by decide) (by decide) (by decide)
  obtain ⟨h3, d1, d2, d3, d4⟩ := q3_bestP (N := N) (r := r) (a := 0) (by omega) P2 E2 n0 hr
  refine ⟨h3, ?_, (a2.tr b2 (U := q_SP) (fun _ q => q) (fun _ q => q)).tr d2 (by decide) (by decide), by rw [d3, b2 21 (by decide), a2 21 (by decide)]⟩
  rw [if_pos gr, if_pos (by decide), qn_c (by omega), show (0 : Int32).toNatClampNeg = 0 from rfl] at a1
  rw [if_pos gr, if_pos (by decide), qn_c (by omega), show (1 : Int32).toNatClampNeg = 1 from rfl] at b1
  unfold fX7_mixedRound
  rw [a1, mm_call_some, q7_mx, mm_call_some, b1, mm_call_some, q7_mx, mm_call_some, show (0 : Int32) = nI 0 from rfl, d1, mm_call_some]
  exact q7_d35 (N := N) d4 _ _ 3 0 N rfl (by omega)
theorem q7_d91 (hN : 5000 ≤ N) (P : q_PX n law ti pu ap ho wo hx) (E : q_EX n R se hx) (n0 : 0 < R → 0 < n) (v : Int64) :
    ∀ j i h, i + j = R → q_fr q_SR hx h → h 21 8 = hx 21 8 → ∃ h', (∀ k fuel, j < fuel → fX7_digest_L91 N k fuel h (s_fo (s_dR n law ti pu ap ho wo se) i v) (nI i) = k h' (s_fo (s_dR n law ti pu ap ho wo se) R v)) ∧ q_fr q_SR hx h' ∧ h' 21 8 = hx 21 8 := by
  have hR := E.1
  intro j
  induction j with
  | zero =>
    intro i h hi hf h8
    refine ⟨h, ?_, hf, h8⟩
    intro k fuel hfu
    obtain ⟨f, rfl⟩ : ∃ f, fuel = f + 1 := ⟨fuel - 1, by omega⟩
    have d : nI R ≤ nI i := (qn_le (by omega) (by omega)).mpr (by omega)
    rw [fX7_digest_L91, hf 12 (by decide), E.2.1, if_pos d, show i = R by omega]
  | succ j ih =>
    intro i h hi hf h8
    have d : ¬ nI R ≤ nI i := fun q => absurd ((qn_le (by omega) (by omega)).mp q) (by omega)
    obtain ⟨h1, m1, m2, m3⟩ := q7_mr (N := N) (r := i) (v := s_fo (s_dR n law ti pu ap ho wo se) i v) hN (P.fr hf (by decide) (by decide) (by decide) (by decide) (by decide)) (E.fr hf (by decide) (by decide) (by decide)) (by omega) (n0 (by omega))
    obtain ⟨h', e1, e2⟩ := ih (i + 1) h1 (by omega) (hf.tr m2 (fun _ q => q) (fun _ q => q)) (by rw [m3, h8])
    refine ⟨h', ?_, e2⟩
    intro k fuel hfu
    obtain ⟨f, rfl⟩ : ∃ f, fuel = f + 1 := ⟨fuel - 1, by omega⟩
    rw [fX7_digest_L91, hf 12 (by decide), E.2.1, if_neg d, m1, mm_call_some, nI_1]
    exact e1 k f (by omega)
/-! the reference's -/
theorem q8_d98 {p : Nat} (hN : 5000 ≤ N) (P : q_PY n law ti pu ap ho wo hy) (E : q_EY n R se hy) (hp : p < n) (v : Int64) :
    ∀ j i h, i + j = 4 → q_fr [0, 9, 10, 11, 12, 13, 14, 15] hy h → q_f0 hy h → ∃ h', (∀ k fuel, j < fuel → fX8_digest_L98 N (nI p) k fuel h (s_fo (s_d4 n R law ti pu ap ho se p) i v) (nI i) = k h' (s_fo (s_d4 n R law ti pu ap ho se p) 4 v)) ∧ q_fr [0, 9, 10, 11, 12, 13, 14, 15] hy h' ∧ q_f0 hy h' := by
  intro j
  induction j with
  | zero =>
    intro i h hi hf hf0
    refine ⟨h, ?_, hf, hf0⟩
    intro k fuel hfu
    obtain ⟨f, rfl⟩ : ∃ f, fuel = f + 1 := ⟨fuel - 1, by omega⟩
    have d : (4 : Int32) ≤ nI i := (qn_le (a := 4) (by omega) (by omega)).mpr (by omega)
    rw [fX8_digest_L98, if_pos d, show i = 4 by omega]
  | succ j ih =>
    intro i h hi hf hf0
    have d : ¬ (4 : Int32) ≤ nI i := fun q => absurd ((qn_le (a := 4) (by omega) (by omega)).mp q) (by omega)
    obtain ⟨h1, g1, g2, g3⟩ := q8_stateOf (N := N) (k := R) (p := p) (by omega) (P.fr hf hf0 (by simp) (by simp) (by simp) (by simp) (by simp)) (E.fr hf hf0 (by simp)) hp (Nat.le_refl _) (nI i)
    obtain ⟨h', e1, e2⟩ := ih (i + 1) h1 (by omega) (hf.tr g2 (fun _ q => q) (fun _ q => q)) (hf0.tr g3)
    refine ⟨h', ?_, e2⟩
    intro k fuel hfu
    obtain ⟨f, rfl⟩ : ∃ f, fuel = f + 1 := ⟨fuel - 1, by omega⟩
    rw [fX8_digest_L98, if_neg d, hf0 5 (by decide), E.2.1, g1, mm_call_some, mm_let, nI_1]
    exact e1 k f (by omega)
theorem q8_d59 (hN : 5000 ≤ N) (D : q_RD N c1 c2 n R f0 f1 pu ap se) (Y : q_QY c1 c2 law ti ho wo hy) (S : q_SeY ns sr sp sv hy) (v : Int64) :
    ∀ j i h, i + j = n → q_fy hy h → q_rd n R pu ap se h → ∃ h', (∀ k fuel, j < fuel → fX8_digest_L59 N k fuel h (s_fo (s_dP n R law ti pu ap ho wo se ns sr sp sv) i v) (nI i) = k h' (s_fo (s_dP n R law ti pu ap ho wo se ns sr sp sv) n v)) ∧ q_fy hy h' ∧ q_rd n R pu ap se h' := by
  have hn := D.1
  intro j
  induction j with
  | zero =>
    intro i h hi hf rd
    refine ⟨h, ?_, hf, rd⟩
    intro k fuel hfu
    obtain ⟨f, rfl⟩ : ∃ f, fuel = f + 1 := ⟨fuel - 1, by omega⟩
    have d : nI n ≤ nI i := (qn_le (by omega) (by omega)).mpr (by omega)
    rw [fX8_digest_L59, rd.1, if_pos d, show i = n by omega]
  | succ j ih =>
    intro i h hi hf rd
    have hp : i < n := by omega
    have d : ¬ nI n ≤ nI i := fun q => absurd ((qn_le (by omega) (by omega)).mp q) (by omega)
    have gp : mm_gd (nI i) n = true := qn_gd (by omega) (by omega)
    have g7 : mm_gd (nI i) 7 = true := qn_gd (by omega) (by omega)
    obtain ⟨P, E⟩ := rd.PE D (Y.fy hf)
    obtain ⟨h1, a1, a2, a3⟩ := q8_d98 (N := N) (p := i) hN P E hp (q_mx (q_mx (s_fo (s_dP n R law ti pu ap ho wo se ns sr sp sv) i v) (nI (pu i))) (nI (ap i))) 4 0 h rfl q_fr.rf q_f0.rf
    have y1 : q_fy hy h1 := hf.tr (q_fy.of a2 a3 (by decide))
    obtain ⟨h2, b1, b2, b3, b4⟩ := q8_restOf (N := N) hN D (Y.fy y1) (nI i) (Or.inr gp)
    have y2 := y1.tr b2
    obtain ⟨h3, d1, d2, d3, d4⟩ := q8_downBy (N := N) (q := nI i) (vv := 10) (Pd := s_pA i 10) hN D (Y.fy y2) (Or.inr ⟨i, 10, hp, by omega, rfl, rfl, rfl⟩)
    have y3 := y2.tr d2
    obtain ⟨h4, u1, u2, u3⟩ := q8_hidOfP (N := N) (by omega) D (Y.fy y3) (S.fy y3) hp (q_rd.of d3 d4)
    obtain ⟨h', e1, e2⟩ := ih (i + 1) h4 (by omega) (y3.tr u2) u3
    refine ⟨h', ?_, e2⟩
    intro k fuel hfu
    obtain ⟨f, rfl⟩ : ∃ f, fuel = f + 1 := ⟨fuel - 1, by omega⟩
    rw [if_neg (qn_m1 (by omega)), qn_c (by omega)] at b1
    rw [fX8_digest_L59, rd.1, if_neg d, if_pos g7, qn_c (by omega), (rd.2.2.1 i hp).1, (rd.2.2.1 i hp).2, mm_let, mm_let]
    refine Eq.trans (a1 _ N (by omega)) ?_
    rw [b1, mm_call_some, mm_let, d1, mm_call_some, mm_let, u1, mm_call_some, mm_let, nI_1]
    exact e1 k f (by omega)
theorem q8_d217 {r : Nat} (hN : 5000 ≤ N) (D : q_RD N c1 c2 n R f0 f1 pu ap se) (Y : q_QY c1 c2 law ti ho wo hy) (hr : r < R) (n0 : 0 < n) (v : Int64) :
    ∀ j i h, i + j = 3 → q_fy hy h → q_rd n R pu ap se h → ∃ h', (∀ k fuel, j < fuel → fX8_digest_L217 N (nI r) k fuel h (s_fo (s_d3 n law ti pu ap ho wo se r) i v) (nI i) = k h' (s_fo (s_d3 n law ti pu ap ho wo se r) 3 v)) ∧ q_fy hy h' ∧ q_rd n R pu ap se h' := by
  have hR := D.2.1
  have hn := D.1
  intro j
  induction j with
  | zero =>
    intro i h hi hf rd
    refine ⟨h, ?_, hf, rd⟩
    intro k fuel hfu
    obtain ⟨f, rfl⟩ : ∃ f, fuel = f + 1 := ⟨fuel - 1, by omega⟩
    have d : (3 : Int32) ≤ nI i := (qn_le (a := 3) (by omega) (by omega)).mpr (by omega)
    rw [fX8_digest_L217, if_pos d, show i = 3 by omega]
  | succ j ih =>
    intro i h hi hf rd
    have d : ¬ (3 : Int32) ≤ nI i := fun q => absurd ((qn_le (a := 3) (by omega) (by omega)).mp q) (by omega)
    have gr : mm_gd (nI r) R = true := qn_gd (by omega) (by omega)
    have g0 : mm_gd (0 : Int32) n = true := qn_gd (k := 0) n0 (by omega)
    have g3 : mm_gd (nI i) 3 = true := qn_gd (by omega) (by omega)
    obtain ⟨h1, b1, b2, b3, b4⟩ := q8_best (N := N) (by omega) D (Y.fy hf) (nI r) 0 (nI i)
    rw [if_pos gr, if_pos g0, if_pos g3, qn_c (by omega), show (0 : Int32).toNatClampNeg = 0 from rfl] at b1
    obtain ⟨h', e1, e2⟩ := ih (i + 1) h1 (by omega) (hf.tr b2) (q_rd.of b3 b4)
    refine ⟨h', ?_, e2⟩
    intro k fuel hfu
    obtain ⟨f, rfl⟩ : ∃ f, fuel = f + 1 := ⟨fuel - 1, by omega⟩
    rw [fX8_digest_L217, if_neg d, b1, mm_call_some, mm_let, nI_1]
    exact e1 k f (by omega)
theorem q8_d178 (hN : 5000 ≤ N) (D : q_RD N c1 c2 n R f0 f1 pu ap se) (Y : q_QY c1 c2 law ti ho wo hy) (n0 : 0 < R → 0 < n) (v : Int64) :
    ∀ j i h, i + j = R → q_fy hy h → q_rd n R pu ap se h → ∃ h', (∀ k fuel, j < fuel → fX8_digest_L178 N k fuel h (s_fo (s_dR n law ti pu ap ho wo se) i v) (nI i) = k h' (s_fo (s_dR n law ti pu ap ho wo se) R v)) ∧ q_fy hy h' ∧ q_rd n R pu ap se h' := by
  have hR := D.2.1
  have hn := D.1
  intro j
  induction j with
  | zero =>
    intro i h hi hf rd
    refine ⟨h, ?_, hf, rd⟩
    intro k fuel hfu
    obtain ⟨f, rfl⟩ : ∃ f, fuel = f + 1 := ⟨fuel - 1, by omega⟩
    have d : nI R ≤ nI i := (qn_le (by omega) (by omega)).mpr (by omega)
    rw [fX8_digest_L178, rd.2.1, if_pos d, show i = R by omega]
  | succ j ih =>
    intro i h hi hf rd
    have hr : i < R := by omega
    have d : ¬ nI R ≤ nI i := fun q => absurd ((qn_le (by omega) (by omega)).mp q) (by omega)
    obtain ⟨P, E⟩ := rd.PE D (Y.fy hf)
    obtain ⟨h1, a1, a2, a3⟩ := q8_payerOf (N := N) (r := i) (t := 0) (by omega) P E hr (by decide)
    have P1 := P.fr a2 a3 (by simp) (by simp) (by simp) (by simp) (by simp)
    have E1 := E.fr a2 a3 (by simp)
    obtain ⟨h2, b1, b2, b3⟩ := q8_payerOf (N := N) (r := i) (t := 1) (by omega) P1 E1 hr (by decide)
    have P2 := P1.fr b2 b3 (by simp) (by simp) (by simp) (by simp) (by simp)
    have E2 := E1.fr b2 b3 (by simp)
    have y2 : q_fy hy h2 := (hf.tr (q_fy.of a2 a3 (by decide))).tr (q_fy.of b2 b3 (by decide))
    obtain ⟨h3, d1, d2, d3⟩ := q8_d217 (N := N) (r := i) hN D Y hr (n0 (by omega)) (q_mx (q_mx (s_fo (s_dR n law ti pu ap ho wo se) i v) (s_dy n law ti pu ap ho se i 0)) (s_dy n law ti pu ap ho se i 1)) 3 0 h2 rfl y2 (q_rd.of P2 E2)
    obtain ⟨h', e1, e2⟩ := ih (i + 1) h3 (by omega) d2 d3
    refine ⟨h', ?_, e2⟩
    intro k fuel hfu
    obtain ⟨f, rfl⟩ : ∃ f, fuel = f + 1 := ⟨fuel - 1, by omega⟩
    rw [fX8_digest_L178, rd.2.1, if_neg d, show (0 : Int32) = nI 0 from rfl, show (1 : Int32) = nI 1 from rfl, a1, mm_call_some, mm_let, b1, mm_call_some, mm_let, nI_add]
    refine Eq.trans (d1 _ N (by omega)) ?_
    exact e1 k f (by omega)
end Q12i
