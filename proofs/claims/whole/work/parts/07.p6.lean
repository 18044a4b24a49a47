/-! PURE 6: what stands around the calls; the plain questions -/
theorem qg_toInt {a : Int32} {n : Nat} : mm_gd a n = true ↔ (0 ≤ a.toInt ∧ a.toInt < n) := by
  have h1 : a.toNatClampNeg = a.toInt.toNat := rfl
  simp only [mm_gd, Bool.and_eq_true, Bool.not_eq_true', decide_eq_false_iff_not, decide_eq_true_eq, h1, Int32.lt_iff_toInt_lt]
  have h2 : (0 : Int32).toInt = 0 := by decide
  rw [h2]
  omega
theorem qg_ex {a : Int32} {n : Nat} (h : mm_gd a n = true) (hn : n < 100000) : ∃ p, p < n ∧ a = nI p := vp_in_of (mm_gd_in h) (by omega)
theorem qg_nI {p n : Nat} (hp : p < 100000) : mm_gd (nI p) n = true ↔ p < n := by
  rw [qg_toInt, nI_toInt (by omega)]
  omega
theorem q_in_gd {a l m : Int32} {n : Nat} (hl : l = 0) (hm : m.toInt + 1 = n) : (¬ a < l ∧ ¬ m < a) ↔ mm_gd a n = true := by
  subst hl
  rw [qg_toInt, Int32.lt_iff_toInt_lt, Int32.lt_iff_toInt_lt, show (0 : Int32).toInt = 0 by decide]
  omega
theorem q7_in {N : Nat} {h : mm_M} {a m : Int32} {n : Nat} (hm : m.toInt + 1 = n) : fX7_isIn N h a 0 m = some (h, if mm_gd a n = true then 1 else 0) := by
  have z := q_in_gd (a := a) (l := 0) rfl hm
  unfold fX7_isIn
  by_cases h1 : a < 0
  · rw [if_pos h1, if_neg (fun q => (z.mpr q).1 h1)]
  · rw [if_neg h1]
    by_cases h2 : m < a
    · rw [if_pos h2, if_neg (fun q => (z.mpr q).2 h2)]
    · rw [if_neg h2, if_pos (z.mp ⟨h1, h2⟩)]
theorem q8_in {N : Nat} {h : mm_M} {a m : Int32} {n : Nat} (hm : m.toInt + 1 = n) : fX8_in N h a 0 m = some (h, if mm_gd a n = true then 1 else 0) := by
  have z := q_in_gd (a := a) (l := 0) rfl hm
  unfold fX8_in
  by_cases h1 : a < 0
  · rw [if_pos h1, if_neg (fun q => (z.mpr q).1 h1)]
  · rw [if_neg h1]
    by_cases h2 : m < a
    · rw [if_pos h2, if_neg (fun q => (z.mpr q).2 h2)]
    · rw [if_neg h2, if_pos (z.mp ⟨h1, h2⟩)]
theorem q_pred {n : Nat} (hn : n < 100000) : (nI n - 1).toInt + 1 = (n : Int) := by
  rw [show (1 : Int32) = nI 1 from rfl, pk_sub_toInt (by omega) (by omega)]
  omega
theorem q_same {n : Nat} (hn : n < 100000) : (nI n).toInt + 1 = ((n + 1 : Nat) : Int) := by
  rw [nI_toInt (by omega)]
  omega
/-- the answer 1 or 0 -/
abbrev q_b (c : Prop) [Decidable c] : Int32 := if c then 1 else 0
theorem q_b01 {α : Type} (c : Prop) [Decidable c] (x y : α) : (if ((if c then (1 : Int32) else 0) = 0 ∨ (if c then (1 : Int32) else 0) = 1) then x else y) = x := by
  by_cases h : c <;> simp [h]
theorem q_b0 {α : Type} (c : Prop) [Decidable c] (x y : α) : (if ((if c then (1 : Int32) else 0) = 0) then x else y) = if c then y else x := by
  by_cases h : c <;> simp [h]
section Q6
variable {N n R law ti : Nat} {pu ap ho wo : Nat → Nat} {se : Nat → Nat → Nat} {hx hy : mm_M}
abbrev q_SX : List Nat := [11, 15, 16, 17, 18, 19, 20, 21, 22, 23, 24, 25, 26, 27, 29]
theorem q7_isPerson {a : Int32} (P : q_PX n law ti pu ap ho wo hx) : fX7_isPerson N hx a = some (hx, if mm_gd a n = true then 1 else 0) := by
  have hn := P.1
  unfold fX7_isPerson
  rw [P.2.2.2.1, q7_in (q_pred (by omega)), mm_call_some, q_b01]
theorem q7_isRound {a : Int32} (E : q_EX n R se hx) : fX7_isRound N hx a = some (hx, if mm_gd a R = true then 1 else 0) := by
  have hR := E.1
  unfold fX7_isRound
  rw [E.2.1, q7_in (q_pred (by omega)), mm_call_some, q_b01]
theorem q7_isBehind {a : Int32} (E : q_EX n R se hx) : fX7_isIn N hx a 0 (hx 12 9) = some (hx, if mm_gd a (R + 1) = true then 1 else 0) := by
  have hR := E.1
  rw [E.2.1, q7_in (q_same (by omega))]
theorem q7_isText {a : Int32} : fX7_isText N hx a = some (hx, if mm_gd a 2 = true then 1 else 0) := by
  unfold fX7_isText
  rw [q7_in (n := 2) (by decide), mm_call_some, q_b01]
theorem q7_isSheet {a : Int32} : fX7_isSheet N hx a = some (hx, if mm_gd a 4 = true then 1 else 0) := by
  unfold fX7_isSheet
  rw [q7_in (n := 4) (by decide), mm_call_some, q_b01]
theorem q7_isForm {a : Int32} : fX7_isForm N hx a = some (hx, if mm_gd a 3 = true then 1 else 0) := by
  unfold fX7_isForm
  rw [q7_in (n := 3) (by decide), mm_call_some, q_b01]
/-- what the reference reads out of its texts -/
def q_RD (N : Nat) (c1 c2 : Nat → Int32) (n R f0 f1 : Nat) (pu ap : Nat → Nat) (se : Nat → Nat → Nat) : Prop :=
  n ≤ 6 ∧ R ≤ 8 ∧ (∀ p, p < n → pu p ≤ 99 ∧ ap p ≤ 99) ∧ (∀ r, r < R → ∀ p, p < n → se r p ≤ 6) ∧ ∀ h : mm_M, h 1 = c1 → h 2 = c2 → ∀ t : Int32, ∃ h', fX8_faultOf N h t = some (h', if t = 0 then q_ix f0 else q_ix f1) ∧ q_fr [0, 3, 4, 5] h h' ∧ (∀ j, j ≠ 2 → j ≠ 5 → h' 0 j = h 0 j) ∧ h' 0 2 = nI n ∧ h' 0 5 = nI R ∧ (∀ p, p < n → h' 3 p = nI (pu p) ∧ h' 4 p = nI (ap p)) ∧ ∀ r, r < R → ∀ p, p < n → h' 5 (6 * r + p) = q_ix (se r p)
/-- what the reference is told -/
def q_QY (c1 c2 : Nat → Int32) (law ti : Nat) (ho wo : Nat → Nat) (h : mm_M) : Prop :=
  h 1 = c1 ∧ h 2 = c2 ∧ law ≤ 2 ∧ ti ≤ 1 ∧ h 8 0 = nI law ∧ h 8 1 = nI ti ∧ (∀ p, p < 6 → h 6 p = nI (ho p) ∧ ho p ≤ 99) ∧ (∀ p, p < 6 → h 7 p = nI (wo p) ∧ wo p ≤ 99)
abbrev q_py : List Nat := [1, 2, 6, 7, 8, 17, 18, 19, 20, 21, 22, 23]
/-- what is told stays -/
def q_fy (h h' : mm_M) : Prop := (∀ c, c ∈ q_py → h' c = h c) ∧ h' 0 19 = h 0 19 ∧ h' 0 28 = h 0 28
theorem q_fy.rf {h : mm_M} : q_fy h h := ⟨fun _ _ => rfl, rfl, rfl⟩
theorem q_fy.tr {h h1 h2 : mm_M} (a : q_fy h h1) (b : q_fy h1 h2) : q_fy h h2 := ⟨fun c hc => (b.1 c hc).trans (a.1 c hc), b.2.1.trans a.2.1, b.2.2.trans a.2.2⟩
theorem q_fy.of {S : List Nat} {h h' : mm_M} (f : q_fr S h h') (f0 : q_f0 h h') (hs : ∀ c, c ∈ q_py → c ∉ S) : q_fy h h' := ⟨fun c hc => f c (hs c hc), f0 19 (by decide), f0 28 (by decide)⟩
theorem q_QY.fy {c1 c2 : Nat → Int32} {h h' : mm_M} (a : q_QY c1 c2 law ti ho wo h) (f : q_fy h h') : q_QY c1 c2 law ti ho wo h' := by
  unfold q_QY at *
  rw [f.1 1 (by simp), f.1 2 (by simp), f.1 6 (by simp), f.1 7 (by simp), f.1 8 (by simp)]
  exact a
theorem q8_fault {c1 c2 : Nat → Int32} {f0 f1 : Nat} (D : q_RD N c1 c2 n R f0 f1 pu ap se) (Y : q_QY c1 c2 law ti ho wo hy) (t : Int32) :
    ∃ h', fX8_faultOf N hy t = some (h', if t = 0 then q_ix f0 else q_ix f1) ∧ q_fy hy h' ∧ q_PY n law ti pu ap ho wo h' ∧ q_EY n R se h' := by
  obtain ⟨d1, d2, d3, d4, d5⟩ := D
  obtain ⟨h', e1, e2, e3, e4, e5, e6, e7⟩ := d5 hy Y.1 Y.2.1 t
  have fy : q_fy hy h' := ⟨fun c hc => e2 c (by revert c hc; decide), e3 19 (by decide) (by decide), e3 28 (by decide) (by decide)⟩
  obtain ⟨-, -, y1, y2, y3, y4, y5, y6⟩ := Y.fy fy
  exact ⟨h', e1, fy, ⟨d1, y1, y2, e4, y3, y4, fun p hp => ⟨(e6 p hp).1, (d3 p hp).1⟩, fun p hp => ⟨(e6 p hp).2, (d3 p hp).2⟩, y5, y6⟩, ⟨d2, e5, fun r hr p hp => ⟨e7 r hr p hp, d4 r hr p hp⟩⟩⟩
theorem q8_reads {c1 c2 : Nat → Int32} {f0 f1 : Nat} (D : q_RD N c1 c2 n R f0 f1 pu ap se) (Y : q_QY c1 c2 law ti ho wo hy) :
    ∃ h', fX8_reads N hy = some (h', ()) ∧ q_fy hy h' ∧ q_PY n law ti pu ap ho wo h' ∧ q_EY n R se h' := by
  obtain ⟨h', e1, e2⟩ := q8_fault (N := N) D Y 0
  refine ⟨h', ?_, e2⟩
  unfold fX8_reads
  rw [e1, mm_call_some]
theorem q8_isPerson {c1 c2 : Nat → Int32} {f0 f1 : Nat} (D : q_RD N c1 c2 n R f0 f1 pu ap se) (Y : q_QY c1 c2 law ti ho wo hy) (a : Int32) :
    ∃ h', fX8_isPerson N hy a = some (h', if mm_gd a n = true then 1 else 0) ∧ q_fy hy h' ∧ q_PY n law ti pu ap ho wo h' ∧ q_EY n R se h' := by
  obtain ⟨h', e1, e2, P, E⟩ := q8_reads (N := N) D Y
  refine ⟨h', ?_, e2, P, E⟩
  have hn := P.1
  unfold fX8_isPerson
  rw [e1, mm_call_some, P.2.2.2.1, q8_in (q_pred (by omega)), mm_call_some, q_b01]
theorem q8_isRound {c1 c2 : Nat → Int32} {f0 f1 : Nat} (D : q_RD N c1 c2 n R f0 f1 pu ap se) (Y : q_QY c1 c2 law ti ho wo hy) (a : Int32) :
    ∃ h', fX8_isRound N hy a = some (h', if mm_gd a R = true then 1 else 0) ∧ q_fy hy h' ∧ q_PY n law ti pu ap ho wo h' ∧ q_EY n R se h' := by
  obtain ⟨h', e1, e2, P, E⟩ := q8_reads (N := N) D Y
  refine ⟨h', ?_, e2, P, E⟩
  have hR := E.1
  unfold fX8_isRound
  rw [e1, mm_call_some, E.2.1, q8_in (q_pred (by omega)), mm_call_some, q_b01]
theorem q8_isBehind {c1 c2 : Nat → Int32} {f0 f1 : Nat} (D : q_RD N c1 c2 n R f0 f1 pu ap se) (Y : q_QY c1 c2 law ti ho wo hy) (a : Int32) :
    ∃ h', fX8_isBehind N hy a = some (h', if mm_gd a (R + 1) = true then 1 else 0) ∧ q_fy hy h' ∧ q_PY n law ti pu ap ho wo h' ∧ q_EY n R se h' := by
  obtain ⟨h', e1, e2, P, E⟩ := q8_reads (N := N) D Y
  refine ⟨h', ?_, e2, P, E⟩
  have hR := E.1
  unfold fX8_isBehind
  rw [e1, mm_call_some, E.2.1, q8_in (q_same (by omega)), mm_call_some, q_b01]
theorem q8_isSix {a : Int32} : fX8_isSix N hy a = some (hy, if mm_gd a 6 = true then 1 else 0) := by
  unfold fX8_isSix
  rw [q8_in (n := 6) (by decide), mm_call_some, q_b01]
theorem q8_isSheet {a : Int32} : fX8_isSheet N hy a = some (hy, if mm_gd a 4 = true then 1 else 0) := by
  unfold fX8_isSheet
  rw [q8_in (n := 4) (by decide), mm_call_some, q_b01]
/-! fault, person, sits -/
theorem q7_fault {f0 f1 : Nat} (h0 : hx 6 6 = q_ix f0) (h1 : hx 12 10 = q_ix f1) (a : Int32) : fX7_fault N hx a = some (hx, if mm_gd a 2 = true then (if a = 0 then q_ix f0 else q_ix f1) else -2) := by
  unfold fX7_fault
  rw [q7_isText, mm_call_some, q_b0, h0, h1]
  by_cases z : mm_gd a 2 = true
  · simp only [z, if_true]
    split <;> rfl
  · rw [if_neg z, if_neg z]
theorem q8_faultm {c1 c2 : Nat → Int32} {f0 f1 : Nat} (D : q_RD N c1 c2 n R f0 f1 pu ap se) (Y : q_QY c1 c2 law ti ho wo hy) (a : Int32) :
    ∃ h', fX8_fault N hy a = some (h', if mm_gd a 2 = true then (if a = 0 then q_ix f0 else q_ix f1) else -2) ∧ q_fy hy h' := by
  unfold fX8_fault
  rw [q8_in (n := 2) (by decide), mm_call_some, q_b0]
  by_cases z : mm_gd a 2 = true
  · obtain ⟨h', e1, e2, -⟩ := q8_fault (N := N) D Y a
    refine ⟨h', ?_, e2⟩
    simp only [z, if_true, e1, mm_call_some]
  · refine ⟨hy, ?_, q_fy.rf⟩
    rw [if_neg z, if_neg z]
theorem q7_person (P : q_PX n law ti pu ap ho wo hx) (a w : Int32) : fX7_person N hx a w = some (hx, if mm_gd a n = true then (if mm_gd w 2 = true then (if w = 0 then nI (pu a.toNatClampNeg) else nI (ap a.toNatClampNeg)) else -2) else -2) := by
  have hn := P.1
  unfold fX7_person
  rw [q7_isPerson P, mm_call_some, q_b0]
  by_cases z : mm_gd a n = true
  · obtain ⟨p, hp, rfl⟩ := qg_ex z (by omega)
    rw [if_pos z, if_pos z, q7_in (n := 2) (by decide), mm_call_some, q_b0]
    by_cases y : mm_gd w 2 = true
    · rw [if_pos y, if_pos y, if_pos (qn_gd (by omega) (by omega)), qn_c (by omega), (P.2.2.2.2.2.2.1 p (by omega)).1, (P.2.2.2.2.2.2.2.1 p (by omega)).1, if_pos (qn_gd (by omega) (by omega))]
      split <;> rfl
    · rw [if_neg y, if_neg y]
  · rw [if_neg z, if_neg z]
theorem q8_person {c1 c2 : Nat → Int32} {f0 f1 : Nat} (D : q_RD N c1 c2 n R f0 f1 pu ap se) (Y : q_QY c1 c2 law ti ho wo hy) (a w : Int32) :
    ∃ h', fX8_person N hy a w = some (h', if mm_gd a n = true then (if mm_gd w 2 = true then (if w = 0 then nI (pu a.toNatClampNeg) else nI (ap a.toNatClampNeg)) else -2) else -2) ∧ q_fy hy h' := by
  obtain ⟨h', e1, e2, P, E⟩ := q8_isPerson (N := N) D Y a
  have hn := P.1
  refine ⟨h', ?_, e2⟩
  unfold fX8_person
  rw [e1, mm_call_some, q_b0]
  by_cases z : mm_gd a n = true
  · obtain ⟨p, hp, rfl⟩ := qg_ex z (by omega)
    rw [if_pos z, if_pos z, q8_in (n := 2) (by decide), mm_call_some, q_b0]
    by_cases y : mm_gd w 2 = true
    · rw [if_pos y, if_pos y, if_pos (qn_gd (by omega) (by omega)), qn_c (by omega), (P.2.2.2.2.2.2.1 p (by omega)).1, (P.2.2.2.2.2.2.2.1 p (by omega)).1, if_pos (qn_gd (by omega) (by omega))]
      split <;> rfl
    · rw [if_neg y, if_neg y]
  · rw [if_neg z, if_neg z]
theorem q7_sits (P : q_PX n law ti pu ap ho wo hx) (E : q_EX n R se hx) (r a : Int32) : fX7_sits N hx r a = some (hx, if mm_gd r R = true then (if mm_gd a n = true then q_ix (se r.toNatClampNeg a.toNatClampNeg) else -2) else -2) := by
  have hn := P.1
  have hR := E.1
  unfold fX7_sits
  rw [q7_isRound E, mm_call_some, q_b0]
  by_cases z : mm_gd r R = true
  · obtain ⟨r, hr, rfl⟩ := qg_ex z (by omega)
    rw [if_pos z, if_pos z, q7_isPerson P, mm_call_some, q_b0]
    by_cases y : mm_gd a n = true
    · obtain ⟨p, hp, rfl⟩ := qg_ex y (by omega)
      rw [if_pos y, if_pos y, q0_table E hn hr hp, mm_call_some, qn_c (by omega), qn_c (by omega)]
    · rw [if_neg y, if_neg y]
  · rw [if_neg z, if_neg z]
theorem q8_sits {c1 c2 : Nat → Int32} {f0 f1 : Nat} (D : q_RD N c1 c2 n R f0 f1 pu ap se) (Y : q_QY c1 c2 law ti ho wo hy) (r a : Int32) :
    ∃ h', fX8_sits N hy r a = some (h', if mm_gd r R = true then (if mm_gd a n = true then q_ix (se r.toNatClampNeg a.toNatClampNeg) else -2) else -2) ∧ q_fy hy h' := by
  obtain ⟨h1, e1, e2, P1, E1⟩ := q8_isRound (N := N) D Y r
  obtain ⟨h2, e3, e4, P, E⟩ := q8_isPerson (N := N) D (Y.fy e2) a
  have hn := P.1
  have hR := E.1
  unfold fX8_sits
  rw [e1, mm_call_some, q_b0]
  by_cases z : mm_gd r R = true
  · refine ⟨h2, ?_, e2.tr e4⟩
    obtain ⟨r, hr, rfl⟩ := qg_ex z (by omega)
    rw [if_pos z, if_pos z, e3, mm_call_some, q_b0]
    by_cases y : mm_gd a n = true
    · obtain ⟨p, hp, rfl⟩ := qg_ex y (by omega)
      rw [if_pos y, if_pos y, qn_6, if_pos (qn_gd (by omega) (by omega)), qn_c (by omega), qn_c (by omega), qn_c (by omega), (E.2.2 r hr p hp).1]
    · rw [if_neg y, if_neg y]
  · refine ⟨h1, ?_, e2⟩
    rw [if_neg z, if_neg z]
/-! state, all, payer, beggars -/
def s_st (n law ti : Nat) (ap : Nat → Nat) (se : Nat → Nat → Nat) (g : Nat → Nat) (w : Int32) (k p : Nat) : Nat :=
  if w = 0 then s_hd n law ti ap se g k p else if w = 1 then s_pd n law ti ap se g k p else if w = 2 then s_et ap se k p else s_sh n law ti ap se g k p
def s_sum (f : Nat → Nat) : Nat → Nat
  | 0 => 0
  | p + 1 => s_sum f p + f p
theorem q0_sums {g : Nat → Nat} {k : Nat} {h : mm_M} (hn : n ≤ 6) (V : q_ev n law ti ap se g k h) (w : Int32) : ∃ c, fX0_sumsOf N h w = some (h, c) ∧ ∀ p, p < n → h c p = nI (s_st n law ti ap se g w k p) := by
  obtain ⟨v1, v2, v3, v4, -⟩ := V
  unfold fX0_sumsOf s_st
  by_cases w0 : w = 0
  · exact ⟨15, by rw [if_pos w0], fun p hp => by rw [if_pos w0, v1 p hp]⟩
  · by_cases w1 : w = 1
    · exact ⟨16, by rw [if_neg w0, if_pos w1], fun p hp => by rw [if_neg w0, if_pos w1, v2 p hp]⟩
    · by_cases w2 : w = 2
      · exact ⟨17, by rw [if_neg w0, if_neg w1, if_pos w2], fun p hp => by rw [if_neg w0, if_neg w1, if_pos w2, v3 p hp]⟩
      · exact ⟨18, by rw [if_neg w0, if_neg w1, if_neg w2], fun p hp => by rw [if_neg w0, if_neg w1, if_neg w2, v4 p hp]⟩
theorem q7_state (hN : 100 ≤ N) (P : q_PX n law ti pu ap ho wo hx) (E : q_EX n R se hx) (a k w : Int32) :
    ∃ h', fX7_state N hx a k w = some (h', if mm_gd a n = true then (if mm_gd k (R + 1) = true then (if mm_gd w 4 = true then nI (s_st n law ti ap se (fun p => pu p - ho p) w k.toNatClampNeg a.toNatClampNeg) else -2) else -2) else -2) ∧ q_fr q_SX hx h' := by
  have hn := P.1
  have hR := E.1
  unfold fX7_state
  rw [q7_isPerson P, mm_call_some, q_b0]
  by_cases z : mm_gd a n = true
  · obtain ⟨p, hp, rfl⟩ := qg_ex z (by omega)
    rw [if_pos z, if_pos z, q7_isBehind E, mm_call_some, q_b0]
    by_cases y : mm_gd k (R + 1) = true
    · obtain ⟨k, hk, rfl⟩ := qg_ex y (by omega)
      rw [if_pos y, if_pos y, q7_in (n := 4) (by decide), mm_call_some, q_b0]
      by_cases x : mm_gd w 4 = true
      · obtain ⟨h1, e1, e2, e3⟩ := q0_play (N := N) (k0 := k) hN P E (by omega)
        obtain ⟨c, c1, c2⟩ := q0_sums (N := N) hn e3 w
        refine ⟨h1, ?_, e2.wk (by decide)⟩
        rw [if_pos x, if_pos x, e1, mm_call_some, c1, mm_call_some, if_pos (qn_gd (by omega) (by omega)), qn_c (by omega), qn_c (by omega), c2 p hp]
      · exact ⟨hx, by rw [if_neg x, if_neg x], q_fr.rf⟩
    · exact ⟨hx, by rw [if_neg y, if_neg y], q_fr.rf⟩
  · exact ⟨hx, by rw [if_neg z, if_neg z], q_fr.rf⟩
theorem q8_stateOf {k p : Nat} (hN : 100 ≤ N) (P : q_PY n law ti pu ap ho wo hy) (E : q_EY n R se hy) (hp : p < n) (hk : k ≤ R) (w : Int32) :
    ∃ h', fX8_stateOf N hy (nI p) (nI k) w = some (h', nI (s_st n law ti ap se (fun p => pu p - ho p) w k p)) ∧ q_fr [0, 9, 10, 11, 12, 13, 14, 15] hy h' ∧ q_f0 hy h' := by
  have hn := P.1
  have hR := E.1
  obtain ⟨h1, e1, e2, e3, e4, -⟩ := q8_runs (N := N) hN P E hk
  refine ⟨h1, ?_, e2, e3⟩
  obtain ⟨v1, v2, v3, v4, -⟩ := e4
  unfold fX8_stateOf s_st
  rw [e1, mm_call_some]
  have gp : mm_gd (nI p) 7 = true := qn_gd (by omega) (by omega)
  have cp : (nI p).toNatClampNeg = p := qn_c (by omega)
  simp only [gp, if_true, cp, v1 p hp, v2 p hp, v3 p hp, v4 p hp]
  split
  · rfl
  · split
    · rfl
    · split <;> rfl
theorem q8_state {c1 c2 : Nat → Int32} {f0 f1 : Nat} (hN : 100 ≤ N) (D : q_RD N c1 c2 n R f0 f1 pu ap se) (Y : q_QY c1 c2 law ti ho wo hy) (a k w : Int32) :
    ∃ h', fX8_state N hy a k w = some (h', if mm_gd a n = true then (if mm_gd k (R + 1) = true then (if mm_gd w 4 = true then nI (s_st n law ti ap se (fun p => pu p - ho p) w k.toNatClampNeg a.toNatClampNeg) else -2) else -2) else -2) ∧ q_fy hy h' := by
  obtain ⟨h1, e1, e2, P1, E1⟩ := q8_isPerson (N := N) D Y a
  obtain ⟨h2, e3, e4, P, E⟩ := q8_isBehind (N := N) D (Y.fy e2) k
  have hn := P.1
  have hR := E.1
  unfold fX8_state
  rw [e1, mm_call_some, q_b0]
  by_cases z : mm_gd a n = true
  · obtain ⟨p, hp, rfl⟩ := qg_ex z (by omega)
    rw [if_pos z, if_pos z, e3, mm_call_some, q_b0]
    by_cases y : mm_gd k (R + 1) = true
    · obtain ⟨k, hk, rfl⟩ := qg_ex y (by omega)
      rw [if_pos y, if_pos y, q8_in (n := 4) (by decide), mm_call_some, q_b0]
      by_cases x : mm_gd w 4 = true
      · obtain ⟨h3, g1, g2, g3⟩ := q8_stateOf (N := N) (k := k) (p := p) hN P E hp (by omega) w
        refine ⟨h3, ?_, (e2.tr e4).tr (q_fy.of g2 g3 (by decide))⟩
        rw [if_pos x, if_pos x, g1, mm_call_some, qn_c (by omega), qn_c (by omega)]
      · exact ⟨h2, by rw [if_neg x, if_neg x], e2.tr e4⟩
    · exact ⟨h2, by rw [if_neg y, if_neg y], e2.tr e4⟩
  · exact ⟨h1, by rw [if_neg z, if_neg z], e2⟩
theorem q2_tog_L {c : Nat} {f : Nat → Nat} (hn : n ≤ 6) (h5 : hx 6 5 = nI n) (hf : ∀ p, p < n → hx c p = nI (f p)) (k : mm_M → Int32 → Option (mm_M × Int32)) :
    ∀ j fuel i, i + j = n → j < fuel → fX2_together_L4 N c k fuel hx (nI (s_sum f i)) (nI i) = k hx (nI (s_sum f n)) := by
  intro j
  induction j with
  | zero =>
    intro fuel i hi hfu
    obtain ⟨fu, rfl⟩ : ∃ f, fuel = f + 1 := ⟨fuel - 1, by omega⟩
    rw [fX2_together_L4, h5, if_pos ((qn_le (by omega) (by omega)).mpr (by omega)), show i = n by omega]
  | succ j ih =>
    intro fuel i hi hfu
    obtain ⟨fu, rfl⟩ : ∃ f, fuel = f + 1 := ⟨fuel - 1, by omega⟩
    have hr := ih fu (i + 1) (by omega) (by omega)
    rw [fX2_together_L4, h5, if_neg (fun q => absurd ((qn_le (by omega) (by omega)).mp q) (by omega)), if_pos (qn_gd (by omega) (by omega)), mm_let, qn_c (by omega), hf i (by omega), nI_add, nI_1]
    exact hr
theorem q2_tog {c : Nat} {f : Nat → Nat} (hN : 100 ≤ N) (hn : n ≤ 6) (h5 : hx 6 5 = nI n) (hf : ∀ p, p < n → hx c p = nI (f p)) : fX2_together N c hx = some (hx, nI (s_sum f n)) :=
  q2_tog_L hn h5 hf (fun h v => some (h, v)) n N 0 (by omega) (by omega)
theorem q7_all (hN : 100 ≤ N) (P : q_PX n law ti pu ap ho wo hx) (E : q_EX n R se hx) (k w : Int32) :
    ∃ h', fX7_all N hx k w = some (h', if mm_gd k (R + 1) = true then (if mm_gd w 4 = true then nI (s_sum (fun p => s_st n law ti ap se (fun p => pu p - ho p) w k.toNatClampNeg p) n) else -2) else -2) ∧ q_fr q_SX hx h' := by
  have hn := P.1
  have hR := E.1
  unfold fX7_all
  rw [q7_isBehind E, mm_call_some, q_b0]
  by_cases y : mm_gd k (R + 1) = true
  · obtain ⟨k, hk, rfl⟩ := qg_ex y (by omega)
    rw [if_pos y, if_pos y, q7_in (n := 4) (by decide), mm_call_some, q_b0]
    by_cases x : mm_gd w 4 = true
    · obtain ⟨h1, e1, e2, e3⟩ := q0_play (N := N) (k0 := k) hN P E (by omega)
      obtain ⟨c, c1, c2⟩ := q0_sums (N := N) hn e3 w
      refine ⟨h1, ?_, e2.wk (by decide)⟩
      rw [if_pos x, if_pos x, e1, mm_call_some, c1, mm_call_some, q2_tog hN hn (by rw [e2 6 (by decide), P.2.2.2.1]) c2, mm_call_some, qn_c (by omega)]
    · exact ⟨hx, by rw [if_neg x, if_neg x], q_fr.rf⟩
  · exact ⟨hx, by rw [if_neg y, if_neg y], q_fr.rf⟩
theorem q8_allOf_L {k0 : Nat} (hN : 100 ≤ N) (P : q_PY n law ti pu ap ho wo hy) (E : q_EY n R se hy) (hk : k0 ≤ R) (w : Int32) :
    ∀ j i h, i + j = n → q_fr [0, 9, 10, 11, 12, 13, 14, 15] hy h → q_f0 hy h →
      ∃ h', (∀ k fuel, j < fuel → fX8_allOf_L5 N (nI k0) w k fuel h (nI (s_sum (fun p => s_st n law ti ap se (fun p => pu p - ho p) w k0 p) i)) (nI i) = k h' (nI (s_sum (fun p => s_st n law ti ap se (fun p => pu p - ho p) w k0 p) n))) ∧ q_fr [0, 9, 10, 11, 12, 13, 14, 15] hy h' ∧ q_f0 hy h' := by
  have hn := P.1
  intro j
  induction j with
  | zero =>
    intro i h hi hf hf0
    refine ⟨h, ?_, hf, hf0⟩
    intro k fuel hfu
    obtain ⟨fu, rfl⟩ : ∃ f, fuel = f + 1 := ⟨fuel - 1, by omega⟩
    rw [fX8_allOf_L5, hf0 2 (by decide), P.2.2.2.1, if_pos ((qn_le (by omega) (by omega)).mpr (by omega)), show i = n by omega]
  | succ j ih =>
    intro i h hi hf hf0
    obtain ⟨h1, g1, g2, g3⟩ := q8_stateOf (N := N) (k := k0) (p := i) hN (P.fr hf hf0 (by simp) (by simp) (by simp) (by simp) (by simp)) (E.fr hf hf0 (by simp)) (by omega) hk w
    obtain ⟨h', e1, e2⟩ := ih (i + 1) h1 (by omega) (hf.tr g2 (fun _ q => q) (fun _ q => q)) (hf0.tr g3)
    refine ⟨h', ?_, e2⟩
    intro k fuel hfu
    obtain ⟨fu, rfl⟩ : ∃ f, fuel = f + 1 := ⟨fuel - 1, by omega⟩
    rw [fX8_allOf_L5, hf0 2 (by decide), P.2.2.2.1, if_neg (fun q => absurd ((qn_le (by omega) (by omega)).mp q) (by omega)), g1, mm_call_some, mm_let, nI_add, nI_1]
    exact e1 k fu (by omega)
theorem q8_all {c1 c2 : Nat → Int32} {f0 f1 : Nat} (hN : 100 ≤ N) (D : q_RD N c1 c2 n R f0 f1 pu ap se) (Y : q_QY c1 c2 law ti ho wo hy) (k w : Int32) :
    ∃ h', fX8_all N hy k w = some (h', if mm_gd k (R + 1) = true then (if mm_gd w 4 = true then nI (s_sum (fun p => s_st n law ti ap se (fun p => pu p - ho p) w k.toNatClampNeg p) n) else -2) else -2) ∧ q_fy hy h' := by
  obtain ⟨h2, e3, e4, P, E⟩ := q8_isBehind (N := N) D Y k
  have hn := P.1
  have hR := E.1
  unfold fX8_all
  rw [e3, mm_call_some, q_b0]
  by_cases y : mm_gd k (R + 1) = true
  · obtain ⟨k, hk, rfl⟩ := qg_ex y (by omega)
    rw [if_pos y, if_pos y, q8_in (n := 4) (by decide), mm_call_some, q_b0]
    by_cases x : mm_gd w 4 = true
    · obtain ⟨h3, g1, g2, g3⟩ := q8_allOf_L (N := N) (k0 := k) hN P E (by omega) w n 0 h2 (by omega) q_fr.rf q_f0.rf
      refine ⟨h3, ?_, e4.tr (q_fy.of g2 g3 (by decide))⟩
      rw [if_pos x, if_pos x]
      unfold fX8_allOf
      rw [show (0 : Int32) = nI 0 from rfl, show fX8_allOf_L5 N (nI k) w _ N h2 (nI 0) (nI 0) = _ from g1 _ N (by omega), mm_call_some, qn_c (by omega)]
    · exact ⟨h2, by rw [if_neg x, if_neg x], e4⟩
  · exact ⟨h2, by rw [if_neg y, if_neg y], e4⟩
end Q6
