/-! PURE 8: best, dark -/
section Q8
variable {N n R law ti : Nat} {pu ap ho wo : Nat → Nat} {se : Nat → Nat → Nat} {hx hy : mm_M} {c1 c2 : Nat → Int32} {f0 f1 : Nat}
theorem q2_payOf {c m a : Nat} {g : Nat → Nat} (hN : 100 ≤ N) (hc : c ≠ 11) (P : q_PX n law ti pu ap ho wo hx) (hg : ∀ p, p < n → hx c p = nI (g p)) (hgb : ∀ p, p < n → g p < 100000) (hm : m < 64) (ha : a < n) (hb : m.testBit a = true) :
    ∃ h', fX2_payOf N c hx (nI a) (nI m) = some (h', nI (s_pay n law ti ap g (fun q => m.testBit q) a)) ∧ q_fr [11] hx h' := by
  have hn := P.1
  obtain ⟨h1, e1, e2, e3, -⟩ := q2_charge (N := N) (c1 := c) (m := m) (g := g) hN hc P.2.2.2.1 P.2.2.2.2.1 P.2.2.2.2.2.1 hn P.2.1 P.2.2.1 (fun p hp => P.2.2.2.2.2.2.2.1 p (by omega)) hg hgb hm
  refine ⟨h1, ?_, e2⟩
  have w := s_due_le (n := n) (law := law) (ti := ti) (ap := ap) (g := g) (sel := fun q => m.testBit q) ha (fun q hq => (P.2.2.2.2.2.2.2.1 q (by omega)).2)
  have w2 := hgb a ha
  unfold fX2_payOf
  rw [e1, mm_call_some, if_pos (qn_gd (by omega) (by omega)), qn_c (by omega), e3 a ha hb, e2 c (by simp [hc]), hg a ha]
  simp only [qn_lt w2 (show s_due n law ti ap g (fun q => m.testBit q) a < 100000 by omega), s_pay]
  by_cases z : g a < s_due n law ti ap g (fun q => m.testBit q) a
  · rw [if_pos z, Nat.min_eq_right (by omega)]
  · rw [if_neg z, Nat.min_eq_left (by omega)]
theorem s_pay_congr {g g' : Nat → Nat} {sel sel' : Nat → Bool} {p : Nat} (hp : p < n) (hs : ∀ q, q < n → sel q = sel' q) (hg : ∀ q, q < n → g q = g' q) : s_pay n law ti ap g sel p = s_pay n law ti ap g' sel' p := by
  unfold s_pay
  rw [s_due_congr hs hg, hg p hp]
/-- the best so far: how much, the table, what is left at home -/
def s_b1 (x : Nat → Int32) (t : Nat) : Nat → Nat → Int32 × Int32 × Int32 → Int32 × Int32 × Int32
  | 0, _, st => st
  | j + 1, i, st => s_b1 x t j (i + 1) (if x i ≤ st.1 then st else (x i, nI t, nI i))
def s_b2 (X : Nat → Nat → Int32) (cnt : Nat) : Nat → Nat → Int32 × Int32 × Int32 → Int32 × Int32 × Int32
  | 0, _, st => st
  | j + 1, t, st => s_b2 X cnt j (t + 1) (s_b1 (X t) t cnt 0 st)
/-- worth less pay, at a table with so much left at home -/
def s_bx (n law ti : Nat) (pu ap ho wo : Nat → Nat) (sc : Nat → Nat) (a t left : Nat) : Int32 :=
  nI (wo a) - nI (s_pay n law ti ap (fun p => pu p - va_up ho a left p) (s_at (va_up sc a (t + 1)) (t + 1)) a)
theorem q3_b52_L {r a t m : Nat} {p1 : Int32} (hN : 200 ≤ N) (P : q_PX n law ti pu ap ho wo hx) (E : q_EX n R se hx) (ha : a < n) (hm : m < 64) (hmb : ∀ q, q < n → m.testBit q = s_at (va_up (se r) a (t + 1)) (t + 1) q) :
    ∀ j i h st, i + j = pu a + 1 → q_fr q_SX hx h → (∀ p, p < n → p ≠ a → h 22 p = nI (pu p - ho p)) → h 21 5 = st.1 → h 21 6 = st.2.1 → h 21 7 = st.2.2 →
      ∃ h', (∀ k fuel, j < fuel → fX3_findBest_L52 N p1 (nI a) (nI t) (nI m) k fuel h (nI i) = k h') ∧ q_fr q_SX hx h' ∧ (∀ p, p < n → p ≠ a → h' 22 p = nI (pu p - ho p)) ∧ h' 21 5 = (s_b1 (s_bx n law ti pu ap ho wo (se r) a t) t j i st).1 ∧ h' 21 6 = (s_b1 (s_bx n law ti pu ap ho wo (se r) a t) t j i st).2.1 ∧ h' 21 7 = (s_b1 (s_bx n law ti pu ap ho wo (se r) a t) t j i st).2.2 := by
  have hn := P.1
  have pa := P.2.2.2.2.2.2.1 a (by omega)
  intro j
  induction j with
  | zero =>
    intro i h st hi hf hg s1 s2 s3
    refine ⟨h, ?_, hf, hg, s1, s2, s3⟩
    intro k fuel hfu
    obtain ⟨fu, rfl⟩ : ∃ f, fuel = f + 1 := ⟨fuel - 1, by omega⟩
    rw [fX3_findBest_L52, if_pos (qn_gd (by omega) (by omega)), qn_c (by omega), hf 7 (by decide), pa.1, if_pos ((qn_lt (by omega) (by omega)).mpr (by omega))]
  | succ j ih =>
    intro i h st hi hf hg s1 s2 s3
    have f2 : q_fr q_SX hx (mm_up h 22 a (nI (pu a - i))) := hf.tr (q_fr.up (S := [22]) (by simp)) (fun _ q => q) (by decide)
    have P2 := P.fr f2 (by decide) (by decide) (by decide) (by decide) (by decide)
    have hbit : m.testBit a = true := by rw [hmb a ha]; simp [s_at, va_up]
    obtain ⟨h3, b1, b2⟩ := q2_payOf (N := N) (c := 22) (m := m) (a := a) (g := fun p => pu p - va_up ho a i p) (by omega) (by decide) P2 (fun p hp => by
      rw [q_up]
      by_cases e : p = a
      · subst e; simp [va_up]
      · simp [e, va_up, hg p hp e]) (fun p hp => by
        have := (P.2.2.2.2.2.2.1 p (by omega)).2
        omega) hm ha hbit
    have f3 : q_fr q_SX hx h3 := f2.tr b2 (fun _ q => q) (by decide)
    have pw : s_pay n law ti ap (fun p => pu p - va_up ho a i p) (fun q => m.testBit q) a = s_pay n law ti ap (fun p => pu p - va_up ho a i p) (s_at (va_up (se r) a (t + 1)) (t + 1)) a := s_pay_congr ha hmb (fun _ _ => rfl)
    have t1 : h3 21 5 = st.1 := by rw [b2 21 (by decide), mm_up_ne _ _ _ (by decide), s1]
    have t2 : h3 21 6 = st.2.1 := by rw [b2 21 (by decide), mm_up_ne _ _ _ (by decide), s2]
    have t3 : h3 21 7 = st.2.2 := by rw [b2 21 (by decide), mm_up_ne _ _ _ (by decide), s3]
    have t4 : ∀ p, p < n → p ≠ a → h3 22 p = nI (pu p - ho p) := fun p hp e => by rw [b2 22 (by decide), q_up]; simp [e, hg p hp e]
    have w10 : mm_up h 22 a (nI (pu a - i)) 10 a = nI (wo a) := by rw [mm_up_ne _ _ _ (by decide), hf 10 (by decide), (P.2.2.2.2.2.2.2.2.2 a (by omega)).1]
    have stp : ∀ k fu, fX3_findBest_L52 N p1 (nI a) (nI t) (nI m) k (fu + 1) h (nI i) = if s_bx n law ti pu ap ho wo (se r) a t i ≤ st.1 then fX3_findBest_L52 N p1 (nI a) (nI t) (nI m) k fu h3 (nI (i + 1)) else fX3_findBest_L52 N p1 (nI a) (nI t) (nI m) k fu (mm_up (mm_up (mm_up h3 21 5 (s_bx n law ti pu ap ho wo (se r) a t i)) 21 6 (nI t)) 21 7 (nI i)) (nI (i + 1)) := by
      intro k fu
      rw [fX3_findBest_L52, if_pos (qn_gd (by omega) (by omega)), qn_c (by omega), hf 7 (by decide), pa.1, if_neg (fun q => absurd ((qn_lt (by omega) (by omega)).mp q) (by omega)), mm_let, qn_sub (by omega), b1, mm_call_some, w10, pw, t1, nI_1]
      rfl
    by_cases z : s_bx n law ti pu ap ho wo (se r) a t i ≤ st.1
    · obtain ⟨h', e1, e2⟩ := ih (i + 1) h3 st (by omega) f3 t4 t1 t2 t3
      refine ⟨h', ?_, ?_⟩
      · intro k fuel hfu
        obtain ⟨fu, rfl⟩ : ∃ f, fuel = f + 1 := ⟨fuel - 1, by omega⟩
        rw [stp, if_pos z]
        exact e1 k fu (by omega)
      · rw [s_b1, if_pos z]
        exact e2
    · obtain ⟨h', e1, e2⟩ := ih (i + 1) (mm_up (mm_up (mm_up h3 21 5 (s_bx n law ti pu ap ho wo (se r) a t i)) 21 6 (nI t)) 21 7 (nI i)) (s_bx n law ti pu ap ho wo (se r) a t i, nI t, nI i) (by omega) (((f3.tr (q_fr.up (S := [21]) (by simp)) (U := q_SX) (fun _ q => q) (by decide)).tr (q_fr.up (S := [21]) (by simp)) (U := q_SX) (fun _ q => q) (by decide)).tr (q_fr.up (S := [21]) (by simp)) (fun _ q => q) (by decide)) (fun p hp e => by
        rw [mm_up_ne _ _ _ (by decide), mm_up_ne _ _ _ (by decide), mm_up_ne _ _ _ (by decide)]
        exact t4 p hp e) (by simp [q_up]) (by simp [q_up]) (by simp [q_up])
      refine ⟨h', ?_, ?_⟩
      · intro k fuel hfu
        obtain ⟨fu, rfl⟩ : ∃ f, fuel = f + 1 := ⟨fuel - 1, by omega⟩
        rw [stp, if_neg z]
        exact e1 k fu (by omega)
      · rw [s_b1, if_neg z]
        exact e2
theorem q3_b28_L {r a : Nat} (hN : 200 ≤ N) (P : q_PX n law ti pu ap ho wo hx) (E : q_EX n R se hx) (ha : a < n) (hr : r < R) :
    ∀ j t h st, t + j = 6 → q_fr q_SX hx h → (∀ p, p < n → p ≠ a → h 22 p = nI (pu p - ho p)) → h 21 5 = st.1 → h 21 6 = st.2.1 → h 21 7 = st.2.2 →
      ∃ h', (∀ k fuel, j < fuel → fX3_findBest_L28 N (nI r) (nI a) k fuel h (nI t) = k h') ∧ q_fr q_SX hx h' ∧ h' 21 5 = (s_b2 (s_bx n law ti pu ap ho wo (se r) a) (pu a + 1) j t st).1 ∧ h' 21 6 = (s_b2 (s_bx n law ti pu ap ho wo (se r) a) (pu a + 1) j t st).2.1 ∧ h' 21 7 = (s_b2 (s_bx n law ti pu ap ho wo (se r) a) (pu a + 1) j t st).2.2 := by
  have hn := P.1
  have pa := P.2.2.2.2.2.2.1 a (by omega)
  intro j
  induction j with
  | zero =>
    intro t h st hi hf hg s1 s2 s3
    refine ⟨h, ?_, hf, s1, s2, s3⟩
    intro k fuel hfu
    obtain ⟨fu, rfl⟩ : ∃ f, fuel = f + 1 := ⟨fuel - 1, by omega⟩
    rw [fX3_findBest_L28, if_pos ((qn_l6 (by omega)).mpr (by omega))]
  | succ j ih =>
    intro t h st hi hf hg s1 s2 s3
    have E1 := E.fr hf (by decide) (by decide) (by decide)
    obtain ⟨m, m1, m2, -, m4⟩ := q0_seated (N := N) E1 hr (show t < 6 by omega)
    have ml := qb_or_lt m m1 a (by omega)
    obtain ⟨h1, b1, b2, b3, b4, b5, b6⟩ := q3_b52_L (N := N) (r := r) (a := a) (t := t) (m := m ||| 1 <<< a) (p1 := nI r) hN P E ha ml (fun q hq => by
      rw [qb_or_bit m m1 a (by omega) q (by omega), m4 q (by omega)]
      by_cases e : q = a
      · subst e; simp [s_at, va_up]
      · simp [s_at, va_up, e, hq]) (pu a + 1) 0 h st (by omega) hf hg s1 s2 s3
    obtain ⟨h', e1, e2⟩ := ih (t + 1) h1 _ (by omega) b2 b3 b4 b5 b6
    refine ⟨h', ?_, e2⟩
    intro k fuel hfu
    obtain ⟨fu, rfl⟩ : ∃ f, fuel = f + 1 := ⟨fuel - 1, by omega⟩
    rw [fX3_findBest_L28, if_neg (fun q => absurd ((qn_l6 (by omega)).mp q) (by omega)), m2, mm_call_some, mm_let, qb_or m m1 a (by omega), show (0 : Int32) = nI 0 from rfl, b1 _ N (by omega), nI_1]
    exact e1 k fu (by omega)
def s_bt (st : Int32 × Int32 × Int32) (w : Int32) : Int32 := if w = 0 then st.1 else if w = 1 then st.2.1 else st.2.2
theorem q3_best {r a : Nat} (hN : 200 ≤ N) (P : q_PX n law ti pu ap ho wo hx) (E : q_EX n R se hx) (ha : a < n) (hr : r < R) :
    ∃ h', fX3_findBest N hx (nI r) (nI a) = some (h', ()) ∧ q_fr q_SX hx h' ∧ ∀ w, fX3_bestTold N h' w = some (h', s_bt (s_b2 (s_bx n law ti pu ap ho wo (se r) a) (pu a + 1) 6 0 (0, -1, 0)) w) := by
  have hn := P.1
  have f1 : q_fr [21] hx (mm_up (mm_up (mm_up hx 21 5 0) 21 6 (-1)) 21 7 0) := ((q_fr.up (S := [21]) (by simp)).tr (q_fr.up (S := [21]) (by simp)) (U := [21]) (fun _ q => q) (fun _ q => q)).tr (q_fr.up (S := [21]) (by simp)) (fun _ q => q) (fun _ q => q)
  have P1 := P.fr f1 (by decide) (by decide) (by decide) (by decide) (by decide)
  obtain ⟨h1, a1, a2, a3⟩ := q2_tell (N := N) (c0 := 22) (by omega) (by decide) (by decide) P1.2.2.2.2.2.2.1 P1.2.2.2.2.2.2.2.2.1
  obtain ⟨h', e1, e2, e3, e4, e5⟩ := q3_b28_L (N := N) (r := r) (a := a) hN P E ha hr 6 0 h1 (0, -1, 0) rfl (f1.tr a2 (by decide) (by decide)) (fun p hp _ => a3 p (by omega)) (by rw [a2 21 (by decide)]; simp [q_up]) (by rw [a2 21 (by decide)]; simp [q_up]) (by rw [a2 21 (by decide)]; simp [q_up])
  refine ⟨h', ?_, e2, ?_⟩
  · unfold fX3_findBest
    rw [mm_let, mm_let, mm_let, a1, mm_call_some]
    exact e1 _ N (by omega)
  · intro w
    unfold fX3_bestTold s_bt
    rw [e3, e4, e5]
    split
    · rfl
    · split <;> rfl
theorem q7_best (hN : 200 ≤ N) (P : q_PX n law ti pu ap ho wo hx) (E : q_EX n R se hx) (r a w : Int32) :
    ∃ h', fX7_best N hx r a w = some (h', if mm_gd r R = true then (if mm_gd a n = true then (if mm_gd w 3 = true then s_bt (s_b2 (s_bx n law ti pu ap ho wo (se r.toNatClampNeg) a.toNatClampNeg) (pu a.toNatClampNeg + 1) 6 0 (0, -1, 0)) w else -100002) else -100002) else -100002) ∧ q_fr q_SX hx h' := by
  have hn := P.1
  have hR := E.1
  unfold fX7_best
  rw [q7_isRound E, mm_call_some, q_b0]
  by_cases z : mm_gd r R = true
  · obtain ⟨r, hr, rfl⟩ := qg_ex z (by omega)
    rw [if_pos z, if_pos z, q7_isPerson P, mm_call_some, q_b0]
    by_cases y : mm_gd a n = true
    · obtain ⟨a, ha, rfl⟩ := qg_ex y (by omega)
      rw [if_pos y, if_pos y, q7_in (n := 3) (by decide), mm_call_some, q_b0]
      by_cases x : mm_gd w 3 = true
      · obtain ⟨h', e1, e2, e3⟩ := q3_best (N := N) hN P E ha hr
        exact ⟨h', by rw [if_pos x, if_pos x, e1, mm_call_some, e3, mm_call_some, qn_c (by omega), qn_c (by omega)], e2⟩
      · exact ⟨hx, by rw [if_neg x, if_neg x], q_fr.rf⟩
    · exact ⟨hx, by rw [if_neg y, if_neg y], q_fr.rf⟩
  · exact ⟨hx, by rw [if_neg z, if_neg z], q_fr.rf⟩
abbrev q_S8 : List Nat := [0, 9, 10, 11, 12, 13, 14, 15]
theorem q8_b22_L {r a t : Nat} {p3 : Int32} (hN : 200 ≤ N) (P : q_PY n law ti pu ap ho wo hy) (E : q_EY n R se hy) (ha : a < n) (hr : r < R) (ht : t < 6) :
    ∀ j i h st, i + j = pu a + 1 → q_fr q_S8 hy h → q_f0 hy h →
      ∃ h', (∀ k fuel, j < fuel → fX8_bestOf_L22 N (nI r) (nI a) p3 (nI t) k fuel h (Prod.fst st) st.2.1 st.2.2 (nI i) = k h' (s_b1 (s_bx n law ti pu ap ho wo (se r) a t) t j i st).1 (s_b1 (s_bx n law ti pu ap ho wo (se r) a t) t j i st).2.1 (s_b1 (s_bx n law ti pu ap ho wo (se r) a t) t j i st).2.2) ∧ q_fr q_S8 hy h' ∧ q_f0 hy h' := by
  have hn := P.1
  have pa := P.2.2.2.2.2.2.1 a ha
  intro j
  induction j with
  | zero =>
    intro i h st hi hf hf0
    refine ⟨h, ?_, hf, hf0⟩
    intro k fuel hfu
    obtain ⟨fu, rfl⟩ : ∃ f, fuel = f + 1 := ⟨fuel - 1, by omega⟩
    rw [fX8_bestOf_L22, if_pos (qn_gd (by omega) (by omega)), qn_c (by omega), hf 3 (by decide), pa.1, if_pos ((qn_lt (by omega) (by omega)).mpr (by omega))]
    rfl
  | succ j ih =>
    intro i h st hi hf hf0
    have P1 := P.fr hf hf0 (by decide) (by decide) (by decide) (by decide) (by decide)
    have E1 := E.fr hf hf0 (by decide)
    obtain ⟨h1, a1, a2, a3⟩ := q8_at (N := N) (by omega) P1
    have a20 := q_f0.of a2 (by decide)
    have P2 := P1.fr a2 a20 (by decide) (by decide) (by decide) (by decide) (by decide)
    have E2 := E1.fr a2 a20 (by decide)
    obtain ⟨h2, b1, b2, b3⟩ := q8_sit (N := N) (r := r) (by omega) P2.2.2.2.1 hn E2 hr
    have b20 := q_f0.of b2 (by decide)
    have f3 : q_fr [9, 10] h1 (mm_up (mm_up h2 10 a (nI t)) 9 a (nI (pu a - i))) := (b2.tr (q_fr.up (S := [10]) (by simp)) (U := [9, 10]) (by decide) (by decide)).tr (q_fr.up (S := [9]) (by simp)) (fun _ q => q) (by decide)
    have f30 := q_f0.of f3 (by decide)
    have P3 := P2.fr f3 f30 (by decide) (by decide) (by decide) (by decide) (by decide)
    have hsc : ∀ p, p < n → va_up (se r) a (t + 1) p ≤ 6 := fun p hp => by
      have := (E.2.2 r hr p hp).2
      unfold va_up
      split <;> omega
    obtain ⟨h4, d1, d2, -, d4⟩ := q8_bills (N := N) (g := fun p => pu p - va_up ho a i p) (sc := va_up (se r) a (t + 1)) (by omega) P3.2.2.2.1 P3.2.2.2.2.1 P3.2.2.2.2.2.1 hn P.2.1 P.2.2.1 P3.2.2.2.2.2.2.2.1 (fun p hp => by
      rw [q_up]
      by_cases e : p = a
      · subst e; simp [va_up]
      · simp [e, va_up]
        rw [mm_up_ne _ _ _ (by decide), b2 9 (by decide), a3 p hp]) (fun p hp => by
      have := (P.2.2.2.2.2.2.1 p hp).2
      omega) (fun p hp => by
      rw [mm_up_ne _ _ _ (by decide), q_up]
      by_cases e : p = a
      · subst e; simp [va_up, q_ixs]
      · simp [e, va_up, b3 p hp]) hsc
    have w11 : h4 11 a = nI (s_pay n law ti ap (fun p => pu p - va_up ho a i p) (s_at (va_up (se r) a (t + 1)) (t + 1)) a) := by
      rw [d4 a ha]
      simp [va_up]
    have f4 : q_fr q_S8 hy h4 := ((hf.tr a2 (U := q_S8) (fun _ q => q) (by decide)).tr f3 (U := q_S8) (fun _ q => q) (by decide)).tr d2 (fun _ q => q) (by decide)
    have f40 : q_f0 hy h4 := ((hf0.tr a20).tr f30).tr (q_f0.of d2 (by decide))
    have w7 : h4 7 a = nI (wo a) := by rw [f4 7 (by decide), (P.2.2.2.2.2.2.2.2.2 a (by omega)).1]
    have stp : ∀ k fu, fX8_bestOf_L22 N (nI r) (nI a) p3 (nI t) k (fu + 1) h st.1 st.2.1 st.2.2 (nI i) = if s_bx n law ti pu ap ho wo (se r) a t i ≤ st.1 then fX8_bestOf_L22 N (nI r) (nI a) p3 (nI t) k fu h4 st.1 st.2.1 st.2.2 (nI (i + 1)) else fX8_bestOf_L22 N (nI r) (nI a) p3 (nI t) k fu h4 (s_bx n law ti pu ap ho wo (se r) a t i) (nI t) (nI i) (nI (i + 1)) := by
      intro k fu
      rw [fX8_bestOf_L22, if_pos (qn_gd (by omega) (by omega)), qn_c (by omega), hf 3 (by decide), pa.1, if_neg (fun q => absurd ((qn_lt (by omega) (by omega)).mp q) (by omega)), a1, mm_call_some, b1, mm_call_some, mm_let, mm_let, mm_up_ne _ _ _ (by decide), b2 3 (by decide), a2 3 (by decide), hf 3 (by decide), pa.1, qn_sub (by omega), d1, mm_call_some, if_pos (qn_gd (by omega) (by omega)), w7, w11, mm_let, nI_1]
      rfl
    by_cases z : s_bx n law ti pu ap ho wo (se r) a t i ≤ st.1
    · obtain ⟨h', e1, e2⟩ := ih (i + 1) h4 st (by omega) f4 f40
      refine ⟨h', ?_, e2⟩
      intro k fuel hfu
      obtain ⟨fu, rfl⟩ : ∃ f, fuel = f + 1 := ⟨fuel - 1, by omega⟩
      rw [stp, if_pos z, s_b1, if_pos z]
      exact e1 k fu (by omega)
    · obtain ⟨h', e1, e2⟩ := ih (i + 1) h4 (s_bx n law ti pu ap ho wo (se r) a t i, nI t, nI i) (by omega) f4 f40
      refine ⟨h', ?_, e2⟩
      intro k fuel hfu
      obtain ⟨fu, rfl⟩ : ∃ f, fuel = f + 1 := ⟨fuel - 1, by omega⟩
      rw [stp, if_neg z, s_b1, if_neg z]
      exact e1 k fu (by omega)
theorem q8_b12_L {r a : Nat} {p3 : Int32} (hN : 200 ≤ N) (P : q_PY n law ti pu ap ho wo hy) (E : q_EY n R se hy) (ha : a < n) (hr : r < R) :
    ∀ j t h st, t + j = 6 → q_fr q_S8 hy h → q_f0 hy h →
      ∃ h', (∀ k fuel, j < fuel → fX8_bestOf_L12 N (nI r) (nI a) p3 k fuel h (Prod.fst st) st.2.1 st.2.2 (nI t) = k h' (s_b2 (s_bx n law ti pu ap ho wo (se r) a) (pu a + 1) j t st).1 (s_b2 (s_bx n law ti pu ap ho wo (se r) a) (pu a + 1) j t st).2.1 (s_b2 (s_bx n law ti pu ap ho wo (se r) a) (pu a + 1) j t st).2.2) ∧ q_fr q_S8 hy h' ∧ q_f0 hy h' := by
  have hn := P.1
  have pa := P.2.2.2.2.2.2.1 a ha
  intro j
  induction j with
  | zero =>
    intro t h st hi hf hf0
    refine ⟨h, ?_, hf, hf0⟩
    intro k fuel hfu
    obtain ⟨fu, rfl⟩ : ∃ f, fuel = f + 1 := ⟨fuel - 1, by omega⟩
    rw [fX8_bestOf_L12, if_pos ((qn_l6 (by omega)).mpr (by omega))]
    rfl
  | succ j ih =>
    intro t h st hi hf hf0
    obtain ⟨h1, a1, a2, a3⟩ := q8_b22_L (N := N) (r := r) (a := a) (t := t) (p3 := p3) hN P E ha hr (by omega) (pu a + 1) 0 h st (by omega) hf hf0
    obtain ⟨h', e1, e2⟩ := ih (t + 1) h1 (s_b1 (s_bx n law ti pu ap ho wo (se r) a t) t (pu a + 1) 0 st) (by omega) a2 a3
    refine ⟨h', ?_, e2⟩
    intro k fuel hfu
    obtain ⟨fu, rfl⟩ : ∃ f, fuel = f + 1 := ⟨fuel - 1, by omega⟩
    rw [fX8_bestOf_L12, if_neg (fun q => absurd ((qn_l6 (by omega)).mp q) (by omega)), show (0 : Int32) = nI 0 from rfl, a1 _ N (by omega), nI_1]
    exact e1 k fu (by omega)
theorem q8_bestOf {r a : Nat} {w : Int32} (hN : 200 ≤ N) (P : q_PY n law ti pu ap ho wo hy) (E : q_EY n R se hy) (ha : a < n) (hr : r < R) :
    ∃ h', fX8_bestOf N hy (nI r) (nI a) w = some (h', s_bt (s_b2 (s_bx n law ti pu ap ho wo (se r) a) (pu a + 1) 6 0 (0, -1, 0)) w) ∧ q_fr q_S8 hy h' ∧ q_f0 hy h' := by
  obtain ⟨h', e1, e2, e3⟩ := q8_b12_L (N := N) (r := r) (a := a) (p3 := w) hN P E ha hr 6 0 hy (0, -1, 0) rfl q_fr.rf q_f0.rf
  refine ⟨h', ?_, e2, e3⟩
  unfold fX8_bestOf
  have z := e1 (fun h22 v23 v24 v25 => if w = 0 then (some (h22, v23)) else (if w = (1 : Int32) then (some (h22, v24)) else (some (h22, v25)))) N (by omega)
  refine Eq.trans z ?_
  unfold s_bt
  split
  · rfl
  · split <;> rfl
theorem q8_best (hN : 200 ≤ N) (D : q_RD N c1 c2 n R f0 f1 pu ap se) (Y : q_QY c1 c2 law ti ho wo hy) (r a w : Int32) :
    ∃ h', fX8_best N hy r a w = some (h', if mm_gd r R = true then (if mm_gd a n = true then (if mm_gd w 3 = true then s_bt (s_b2 (s_bx n law ti pu ap ho wo (se r.toNatClampNeg) a.toNatClampNeg) (pu a.toNatClampNeg + 1) 6 0 (0, -1, 0)) w else -100002) else -100002) else -100002) ∧ q_fy hy h' ∧ q_PY n law ti pu ap ho wo h' ∧ q_EY n R se h' := by
  obtain ⟨h1, e1, e2, P1, E1⟩ := q8_isRound (N := N) D Y r
  obtain ⟨h2, e3, e4, P, E⟩ := q8_isPerson (N := N) D (Y.fy e2) a
  have hn := P.1
  have hR := E.1
  unfold fX8_best
  rw [e1, mm_call_some, q_b0]
  by_cases z : mm_gd r R = true
  · obtain ⟨r, hr, rfl⟩ := qg_ex z (by omega)
    rw [if_pos z, if_pos z, e3, mm_call_some, q_b0]
    by_cases y : mm_gd a n = true
    · obtain ⟨a, ha, rfl⟩ := qg_ex y (by omega)
      rw [if_pos y, if_pos y, q8_in (n := 3) (by decide), mm_call_some, q_b0]
      by_cases x : mm_gd w 3 = true
      · obtain ⟨h', g1, g2, g3⟩ := q8_bestOf (N := N) (w := w) hN P E ha hr
        exact ⟨h', by rw [if_pos x, if_pos x, g1, mm_call_some, qn_c (by omega), qn_c (by omega)], (e2.tr e4).tr (q_fy.of g2 g3 (by decide)), P.fr g2 g3 (by decide) (by decide) (by decide) (by decide) (by decide), E.fr g2 g3 (by decide)⟩
      · exact ⟨h2, by rw [if_neg x, if_neg x], e2.tr e4, P, E⟩
    · exact ⟨h2, by rw [if_neg y, if_neg y], e2.tr e4, P, E⟩
  · exact ⟨h1, by rw [if_neg z, if_neg z], e2, P1, E1⟩
/-! dark -/
/-- hands, where a has passed so much to f -/
def s_gd (g : Nat → Nat) (a f j : Nat) : Nat → Nat := fun p => if p = f then g f + j else if p = a then g a - j else g p
def s_dk (n law ti : Nat) (ap g sc : Nat → Nat) (a f j : Nat) : Bool := decide (s_pay n law ti ap (s_gd g a f j) (s_at sc (sc a)) a < s_pay n law ti ap g (s_at sc (sc a)) a)
theorem s_gd_0 {g : Nat → Nat} {a f : Nat} (haf : a ≠ f) : ∀ p, s_gd g a f 0 p = g p := by
  intro p
  unfold s_gd
  by_cases e : p = f
  · subst e; simp
  · by_cases e2 : p = a
    · subst e2; simp [e]
    · simp [e, e2]
theorem q4_lp_L {m a f : Nat} {g sc : Nat → Nat} (hN : 200 ≤ N) (P : q_PX n law ti pu ap ho wo hx) (ha : a < n) (hf : f < n) (haf : a ≠ f) (hm : m < 64) (hmb : ∀ q, q < n → m.testBit q = s_at sc (sc a) q) (hgb : ∀ p, p < n → g p ≤ 99) :
    ∀ j i h, i + j = g a + 1 → 0 < i → q_fr q_SX hx h → (∀ p, p < n → h 29 p = nI (s_gd g a f (i - 1) p)) →
      ∃ h', (∀ k fuel, j < fuel → fX4_leastPassed_L37 N (nI m) (nI a) (nI f) (nI (s_pay n law ti ap g (s_at sc (sc a)) a)) (nI (g a)) k fuel h (nI i) = if s_fi (s_dk n law ti ap g sc a f) j i = 0 then k h' else some (h', nI (s_fi (s_dk n law ti ap g sc a f) j i - 1))) ∧ q_fr q_SX hx h' := by
  have hn := P.1
  have hga := hgb a ha
  have hgf := hgb f hf
  intro j
  induction j with
  | zero =>
    intro i h hi h0 hfr hv
    refine ⟨h, ?_, hfr⟩
    intro k fuel hfu
    obtain ⟨fu, rfl⟩ : ∃ f, fuel = f + 1 := ⟨fuel - 1, by omega⟩
    rw [fX4_leastPassed_L37, if_pos ((qn_lt (by omega) (by omega)).mpr (by omega)), s_fi, if_pos rfl]
  | succ j ih =>
    intro i h hi h0 hfr hv
    have f1 : q_fr [29] h (mm_up (mm_up h 29 a (nI (g a - i))) 29 f (nI (g f + i))) := (q_fr.up (S := [29]) (by simp)).tr (q_fr.up (S := [29]) (by simp)) (fun _ q => q) (fun _ q => q)
    have f2 : q_fr q_SX hx (mm_up (mm_up h 29 a (nI (g a - i))) 29 f (nI (g f + i))) := hfr.tr f1 (fun _ q => q) (by decide)
    have P2 := P.fr f2 (by decide) (by decide) (by decide) (by decide) (by decide)
    have hv2 : ∀ p, p < n → mm_up (mm_up h 29 a (nI (g a - i))) 29 f (nI (g f + i)) 29 p = nI (s_gd g a f i p) := by
      intro p hp
      rw [q_up, q_up]
      by_cases e : p = f
      · subst e; simp [s_gd]
      · by_cases e2 : p = a
        · subst e2; simp [s_gd, e]
        · have := hv p hp
          simp [s_gd, e, e2] at this ⊢
          exact this
    have gb2 : ∀ p, p < n → s_gd g a f i p < 100000 := by
      intro p hp
      have := hgb p hp
      unfold s_gd
      split
      · omega
      · split <;> omega
    have hbit : m.testBit a = true := by rw [hmb a ha]; simp [s_at]
    obtain ⟨h3, b1, b2⟩ := q2_payOf (N := N) (c := 29) (m := m) (a := a) (g := s_gd g a f i) (by omega) (by decide) P2 hv2 gb2 hm ha hbit
    have f3 : q_fr q_SX hx h3 := f2.tr b2 (fun _ q => q) (by decide)
    have pw : s_pay n law ti ap (s_gd g a f i) (fun q => m.testBit q) a = s_pay n law ti ap (s_gd g a f i) (s_at sc (sc a)) a := s_pay_congr ha hmb (fun _ _ => rfl)
    rw [pw] at b1
    have va : h 29 a = nI (g a - (i - 1)) := by
      rw [hv a ha]
      simp [s_gd, haf]
    have vf : mm_up h 29 a (nI (g a - i)) 29 f = nI (g f + (i - 1)) := by
      rw [q_up]
      simp [haf.symm, hv f hf, s_gd]
    have p1 : s_pay n law ti ap (s_gd g a f i) (s_at sc (sc a)) a < 100000 := by
      have := gb2 a ha
      have : s_pay n law ti ap (s_gd g a f i) (s_at sc (sc a)) a ≤ s_gd g a f i a := Nat.min_le_right _ _
      omega
    have p2 : s_pay n law ti ap g (s_at sc (sc a)) a < 100000 := by
      have : s_pay n law ti ap g (s_at sc (sc a)) a ≤ g a := Nat.min_le_right _ _
      omega
    have stp : ∀ k fu, fX4_leastPassed_L37 N (nI m) (nI a) (nI f) (nI (s_pay n law ti ap g (s_at sc (sc a)) a)) (nI (g a)) k (fu + 1) h (nI i) = if s_dk n law ti ap g sc a f i = true then some (h3, nI i) else fX4_leastPassed_L37 N (nI m) (nI a) (nI f) (nI (s_pay n law ti ap g (s_at sc (sc a)) a)) (nI (g a)) k fu h3 (nI (i + 1)) := by
      intro k fu
      rw [fX4_leastPassed_L37, if_neg (fun q => absurd ((qn_lt (by omega) (by omega)).mp q) (by omega)), if_pos (qn_gd (by omega) (by omega)), mm_let, qn_c (by omega), va, show (1 : Int32) = nI 1 from rfl, qn_sub (show 1 ≤ g a - (i - 1) by omega), show g a - (i - 1) - 1 = g a - i by omega, if_pos (qn_gd (by omega) (by omega)), mm_let, qn_c (by omega), vf, nI_add, show g f + (i - 1) + 1 = g f + i by omega, b1, mm_call_some]
      simp only [qn_le p2 p1, s_dk, decide_eq_true_eq]
      by_cases z : s_pay n law ti ap g (s_at sc (sc a)) a ≤ s_pay n law ti ap (s_gd g a f i) (s_at sc (sc a)) a
      · rw [if_pos z, if_neg (by omega), show nI i + nI 1 = nI (i + 1) from nI_add i 1]
      · rw [if_neg z, if_pos (by omega)]
    by_cases z : s_dk n law ti ap g sc a f i = true
    · refine ⟨h3, ?_, f3⟩
      intro k fuel hfu
      obtain ⟨fu, rfl⟩ : ∃ f, fuel = f + 1 := ⟨fuel - 1, by omega⟩
      have z2 : ¬ i + 1 = 0 := by omega
      rw [stp, if_pos z, s_fi, if_pos z, if_neg z2, Nat.add_sub_cancel]
    · obtain ⟨h', e1, e2⟩ := ih (i + 1) h3 (by omega) (by omega) f3 (fun p hp => by rw [b2 29 (by decide), hv2 p hp]; rfl)
      refine ⟨h', ?_, e2⟩
      intro k fuel hfu
      obtain ⟨fu, rfl⟩ : ∃ f, fuel = f + 1 := ⟨fuel - 1, by omega⟩
      rw [stp, if_neg z, s_fi, if_neg z]
      exact e1 k fu (by omega)
theorem q7_dark (hN : 200 ≤ N) (P : q_PX n law ti pu ap ho wo hx) (E : q_EX n R se hx) (r a f : Int32) :
    ∃ h', fX7_dark N hx r a f = some (h', if mm_gd r R = true then (if mm_gd a n = true then (if mm_gd f n = true then (if a = f then -2 else if se r.toNatClampNeg a.toNatClampNeg = 0 then -3 else if se r.toNatClampNeg a.toNatClampNeg = se r.toNatClampNeg f.toNatClampNeg then q_ix (s_fi (s_dk n law ti ap (fun p => pu p - ho p) (se r.toNatClampNeg) a.toNatClampNeg f.toNatClampNeg) (pu a.toNatClampNeg - ho a.toNatClampNeg) 1) else -3) else -2) else -2) else -2) ∧ q_fr q_SX hx h' := by
  have hn := P.1
  have hR := E.1
  unfold fX7_dark
  rw [q7_isRound E, mm_call_some, q_b0]
  by_cases z : mm_gd r R = true
  · obtain ⟨r, hr, rfl⟩ := qg_ex z (by omega)
    rw [if_pos z, if_pos z, q7_isPerson P, mm_call_some, q_b0]
    by_cases y : mm_gd a n = true
    · obtain ⟨a, ha, rfl⟩ := qg_ex y (by omega)
      rw [if_pos y, if_pos y, q7_isPerson P, mm_call_some, q_b0]
      by_cases x : mm_gd f n = true
      · obtain ⟨f, hf, rfl⟩ := qg_ex x (by omega)
        rw [if_pos x, if_pos x, qn_c (by omega), qn_c (by omega), qn_c (by omega), q0_table E hn hr ha, mm_call_some, q0_table E hn hr hf, mm_call_some]
        have sa := (E.2.2.1 r hr a ha).2
        have sf := (E.2.2.1 r hr f hf).2
        simp only [qn_eq (show a < 100000 by omega) (show f < 100000 by omega), q_ix_m1 (show se r a < 100000 by omega), q_ix_eq (show se r a < 100000 by omega) (show se r f < 100000 by omega)]
        by_cases w1 : a = f
        · exact ⟨hx, by rw [if_pos w1, if_pos w1], q_fr.rf⟩
        · rw [if_neg w1, if_neg w1]
          by_cases w2 : se r a = 0
          · exact ⟨hx, by rw [if_pos w2, if_pos w2], q_fr.rf⟩
          · rw [if_neg w2, if_neg w2]
            by_cases w3 : se r a = se r f
            · rw [if_pos w3, if_pos w3]
              obtain ⟨t, ht⟩ : ∃ t, se r a = t + 1 := ⟨se r a - 1, by omega⟩
              obtain ⟨m, m1, m2, -, m4⟩ := q0_seated (N := N) E hr (show t < 6 by omega)
              obtain ⟨h1, a1, a2, a3⟩ := q2_tell (N := N) (c0 := 29) (by omega) (by decide) (by decide) P.2.2.2.2.2.2.1 P.2.2.2.2.2.2.2.2.1
              have P1 := P.fr a2 (by decide) (by decide) (by decide) (by decide) (by decide)
              have hmb : ∀ q, q < n → m.testBit q = s_at (se r) (se r a) q := fun q hq => by rw [m4 q (by omega), s_at, ht]; simp [hq]
              have hgb : ∀ p, p < n → (fun p => pu p - ho p) p ≤ 99 := fun p hp => by
                have := (P.2.2.2.2.2.2.1 p (by omega)).2
                simp only
                omega
              obtain ⟨h2, b1, b2⟩ := q2_payOf (N := N) (c := 29) (m := m) (a := a) (g := fun p => pu p - ho p) (by omega) (by decide) P1 (fun p hp => a3 p (by omega)) (fun p hp => by have := hgb p hp; simp only at this; omega) m1 ha (by rw [hmb a ha]; simp [s_at])
              have pw : s_pay n law ti ap (fun p => pu p - ho p) (fun q => m.testBit q) a = s_pay n law ti ap (fun p => pu p - ho p) (s_at (se r) (se r a)) a := s_pay_congr ha hmb (fun _ _ => rfl)
              have hfr : q_fr q_SX hx h2 := a2.tr b2 (by decide) (by decide)
              obtain ⟨h3, e1, e2⟩ := q4_lp_L (N := N) (m := m) (a := a) (f := f) (g := fun p => pu p - ho p) (sc := se r) hN P ha hf w1 m1 hmb hgb (pu a - ho a) 1 h2 (by omega) (by omega) hfr (fun p hp => by
                rw [b2 29 (by decide), a3 p (by omega), show 1 - 1 = 0 from rfl, s_gd_0 w1])
              refine ⟨h3, ?_, e2⟩
              have hga := hgb a ha
              simp only at hga
              rw [ht, q_ixs, m2, mm_call_some]
              unfold fX4_leastPassed
              rw [a1, mm_call_some, b1, mm_call_some, if_pos (qn_gd (by omega) (by omega)), mm_let, qn_c (by omega), b2 29 (by decide), a3 a (by omega), pw, show (1 : Int32) = nI 1 from rfl, e1 _ N (by omega)]
              cases s_fi (s_dk n law ti ap (fun p => pu p - ho p) (se r) a f) (pu a - ho a) 1 with
              | zero => rfl
              | succ x => rfl
            · exact ⟨hx, by rw [if_neg w3, if_neg w3], q_fr.rf⟩
      · exact ⟨hx, by rw [if_neg x, if_neg x], q_fr.rf⟩
    · exact ⟨hx, by rw [if_neg y, if_neg y], q_fr.rf⟩
  · exact ⟨hx, by rw [if_neg z, if_neg z], q_fr.rf⟩
theorem q8_dk_L {a f : Nat} {g sc : Nat → Nat} (hN : 200 ≤ N) (P : q_PY n law ti pu ap ho wo hy) (ha : a < n) (hf : f < n) (haf : a ≠ f) (hsc : ∀ p, p < n → hy 10 p = q_ix (sc p)) (hscb : ∀ p, p < n → sc p ≤ 6) (hs0 : sc a ≠ 0) (hgb : ∀ p, p < n → g p ≤ 99) :
    ∀ j i h, i + j = g a + 1 → 0 < i → q_fr [9, 11, 12] hy h → (∀ p, p < n → h 9 p = nI (s_gd g a f (i - 1) p)) →
      ∃ h', (∀ k fuel, j < fuel → fX8_darkOf_L60 N (nI a) (nI f) (nI (s_pay n law ti ap g (s_at sc (sc a)) a)) (nI (g a)) k fuel h (nI i) = if s_fi (s_dk n law ti ap g sc a f) j i = 0 then k h' else some (h', nI (s_fi (s_dk n law ti ap g sc a f) j i - 1))) ∧ q_fr [9, 11, 12] hy h' := by
  have hn := P.1
  have hga := hgb a ha
  have hgf := hgb f hf
  intro j
  induction j with
  | zero =>
    intro i h hi h0 hfr hv
    refine ⟨h, ?_, hfr⟩
    intro k fuel hfu
    obtain ⟨fu, rfl⟩ : ∃ f, fuel = f + 1 := ⟨fuel - 1, by omega⟩
    rw [fX8_darkOf_L60, if_pos ((qn_lt (by omega) (by omega)).mpr (by omega)), s_fi, if_pos rfl]
  | succ j ih =>
    intro i h hi h0 hfr hv
    have f1 : q_fr [9] h (mm_up (mm_up h 9 a (nI (g a - i))) 9 f (nI (g f + i))) := (q_fr.up (S := [9]) (by simp)).tr (q_fr.up (S := [9]) (by simp)) (fun _ q => q) (fun _ q => q)
    have f2 : q_fr [9, 11, 12] hy (mm_up (mm_up h 9 a (nI (g a - i))) 9 f (nI (g f + i))) := hfr.tr f1 (fun _ q => q) (by decide)
    have P2 := P.fr f2 (q_f0.of f2 (by decide)) (by decide) (by decide) (by decide) (by decide) (by decide)
    have hv2 : ∀ p, p < n → mm_up (mm_up h 9 a (nI (g a - i))) 9 f (nI (g f + i)) 9 p = nI (s_gd g a f i p) := by
      intro p hp
      rw [q_up, q_up]
      by_cases e : p = f
      · subst e; simp [s_gd]
      · by_cases e2 : p = a
        · subst e2; simp [s_gd, e]
        · have := hv p hp
          simp [s_gd, e, e2] at this ⊢
          exact this
    have gb2 : ∀ p, p < n → s_gd g a f i p < 100000 := by
      intro p hp
      have := hgb p hp
      unfold s_gd
      split
      · omega
      · split <;> omega
    obtain ⟨h3, b1, b2, -, b4⟩ := q8_bills (N := N) (g := s_gd g a f i) (sc := sc) (by omega) P2.2.2.2.1 P2.2.2.2.2.1 P2.2.2.2.2.2.1 hn P.2.1 P.2.2.1 P2.2.2.2.2.2.2.2.1 hv2 gb2 (fun p hp => by rw [f2 10 (by decide), hsc p hp]) hscb
    have f3 : q_fr [9, 11, 12] hy h3 := f2.tr b2 (fun _ q => q) (by decide)
    have w11 : h3 11 a = nI (s_pay n law ti ap (s_gd g a f i) (s_at sc (sc a)) a) := by rw [b4 a ha, if_pos hs0]
    have va : h 9 a = nI (g a - (i - 1)) := by
      rw [hv a ha]
      simp [s_gd, haf]
    have vf : mm_up h 9 a (nI (g a - i)) 9 f = nI (g f + (i - 1)) := by
      rw [q_up]
      simp [haf.symm, hv f hf, s_gd]
    have p1 : s_pay n law ti ap (s_gd g a f i) (s_at sc (sc a)) a < 100000 := by
      have := gb2 a ha
      have : s_pay n law ti ap (s_gd g a f i) (s_at sc (sc a)) a ≤ s_gd g a f i a := Nat.min_le_right _ _
      omega
    have p2 : s_pay n law ti ap g (s_at sc (sc a)) a < 100000 := by
      have : s_pay n law ti ap g (s_at sc (sc a)) a ≤ g a := Nat.min_le_right _ _
      omega
    have stp : ∀ k fu, fX8_darkOf_L60 N (nI a) (nI f) (nI (s_pay n law ti ap g (s_at sc (sc a)) a)) (nI (g a)) k (fu + 1) h (nI i) = if s_dk n law ti ap g sc a f i = true then some (h3, nI i) else fX8_darkOf_L60 N (nI a) (nI f) (nI (s_pay n law ti ap g (s_at sc (sc a)) a)) (nI (g a)) k fu h3 (nI (i + 1)) := by
      intro k fu
      rw [fX8_darkOf_L60, if_neg (fun q => absurd ((qn_lt (by omega) (by omega)).mp q) (by omega)), if_pos (qn_gd (by omega) (by omega)), mm_let, qn_c (by omega), va, show (1 : Int32) = nI 1 from rfl, qn_sub (show 1 ≤ g a - (i - 1) by omega), show g a - (i - 1) - 1 = g a - i by omega, if_pos (qn_gd (by omega) (by omega)), mm_let, qn_c (by omega), vf, nI_add, show g f + (i - 1) + 1 = g f + i by omega, b1, mm_call_some, w11]
      simp only [qn_le p2 p1, s_dk, decide_eq_true_eq]
      by_cases z : s_pay n law ti ap g (s_at sc (sc a)) a ≤ s_pay n law ti ap (s_gd g a f i) (s_at sc (sc a)) a
      · rw [if_pos z, if_neg (by omega), show nI i + nI 1 = nI (i + 1) from nI_add i 1]
      · rw [if_neg z, if_pos (by omega)]
    by_cases z : s_dk n law ti ap g sc a f i = true
    · refine ⟨h3, ?_, f3⟩
      intro k fuel hfu
      obtain ⟨fu, rfl⟩ : ∃ f, fuel = f + 1 := ⟨fuel - 1, by omega⟩
      have z2 : ¬ i + 1 = 0 := by omega
      rw [stp, if_pos z, s_fi, if_pos z, if_neg z2, Nat.add_sub_cancel]
    · obtain ⟨h', e1, e2⟩ := ih (i + 1) h3 (by omega) (by omega) f3 (fun p hp => by rw [b2 9 (by decide), hv2 p hp]; rfl)
      refine ⟨h', ?_, e2⟩
      intro k fuel hfu
      obtain ⟨fu, rfl⟩ : ∃ f, fuel = f + 1 := ⟨fuel - 1, by omega⟩
      rw [stp, if_neg z, s_fi, if_neg z]
      exact e1 k fu (by omega)
theorem q8_dark (hN : 200 ≤ N) (D : q_RD N c1 c2 n R f0 f1 pu ap se) (Y : q_QY c1 c2 law ti ho wo hy) (r a f : Int32) :
    ∃ h', fX8_dark N hy r a f = some (h', if mm_gd r R = true then (if mm_gd a n = true then (if mm_gd f n = true then (if a = f then -2 else if se r.toNatClampNeg a.toNatClampNeg = 0 then -3 else if se r.toNatClampNeg a.toNatClampNeg = se r.toNatClampNeg f.toNatClampNeg then q_ix (s_fi (s_dk n law ti ap (fun p => pu p - ho p) (se r.toNatClampNeg) a.toNatClampNeg f.toNatClampNeg) (pu a.toNatClampNeg - ho a.toNatClampNeg) 1) else -3) else -2) else -2) else -2) ∧ q_fy hy h' := by
  obtain ⟨h1, e1, e2, P1, E1⟩ := q8_isRound (N := N) D Y r
  obtain ⟨h2, e3, e4, P2, E2⟩ := q8_isPerson (N := N) D (Y.fy e2) a
  obtain ⟨h3, e5, e6, P, E⟩ := q8_isPerson (N := N) D ((Y.fy e2).fy e4) f
  have hn := P.1
  have hR := E.1
  unfold fX8_dark
  rw [e1, mm_call_some, q_b0]
  by_cases z : mm_gd r R = true
  · obtain ⟨r, hr, rfl⟩ := qg_ex z (by omega)
    rw [if_pos z, if_pos z, e3, mm_call_some, q_b0]
    by_cases y : mm_gd a n = true
    · obtain ⟨a, ha, rfl⟩ := qg_ex y (by omega)
      rw [if_pos y, if_pos y, e5, mm_call_some, q_b0]
      by_cases x : mm_gd f n = true
      · obtain ⟨f, hf, rfl⟩ := qg_ex x (by omega)
        rw [if_pos x, if_pos x, qn_c (by omega), qn_c (by omega), qn_c (by omega)]
        have fy := (e2.tr e4).tr e6
        have sa := (E.2.2 r hr a ha).2
        have sf := (E.2.2 r hr f hf).2
        obtain ⟨h4, a1, a2, a3⟩ := q8_at (N := N) (by omega) P
        have a20 := q_f0.of a2 (by decide)
        have P4 := P.fr a2 a20 (by decide) (by decide) (by decide) (by decide) (by decide)
        have E4 := E.fr a2 a20 (by decide)
        obtain ⟨h5, b1, b2, b3⟩ := q8_sit (N := N) (r := r) (by omega) P4.2.2.2.1 hn E4 hr
        have b20 := q_f0.of b2 (by decide)
        have P5 := P4.fr b2 b20 (by decide) (by decide) (by decide) (by decide) (by decide)
        have fy5 : q_fy hy h5 := (fy.tr (q_fy.of a2 a20 (by decide))).tr (q_fy.of b2 b20 (by decide))
        simp only [qn_eq (show a < 100000 by omega) (show f < 100000 by omega)]
        by_cases w1 : a = f
        · exact ⟨h3, by rw [if_pos w1, if_pos w1], fy⟩
        · rw [if_neg w1, if_neg w1]
          unfold fX8_darkOf
          rw [a1, mm_call_some, b1, mm_call_some, if_pos (qn_gd (by omega) (by omega)), qn_c (by omega), b3 a ha, if_pos (qn_gd (by omega) (by omega)), qn_c (by omega), b3 f hf]
          simp only [q_ix_m1 (show se r a < 100000 by omega), q_ix_eq (show se r a < 100000 by omega) (show se r f < 100000 by omega)]
          by_cases w2 : se r a = 0
          · exact ⟨h5, by rw [if_pos w2, if_pos w2, mm_call_some], fy5⟩
          · rw [if_neg w2, if_neg w2]
            by_cases w3 : se r a = se r f
            · rw [if_pos w3, if_pos w3]
              have hgb : ∀ p, p < n → (fun p => pu p - ho p) p ≤ 99 := fun p hp => by
                have := (P.2.2.2.2.2.2.1 p hp).2
                simp only
                omega
              have hscb : ∀ p, p < n → se r p ≤ 6 := fun p hp => (E.2.2 r hr p hp).2
              have v9 : ∀ p, p < n → h5 9 p = nI (pu p - ho p) := fun p hp => by rw [b2 9 (by decide), a3 p hp]
              obtain ⟨h6, d1, d2, -, d4⟩ := q8_bills (N := N) (g := fun p => pu p - ho p) (sc := se r) (by omega) P5.2.2.2.1 P5.2.2.2.2.1 P5.2.2.2.2.2.1 hn P.2.1 P.2.2.1 P5.2.2.2.2.2.2.2.1 v9 (fun p hp => by have := hgb p hp; simp only at this; omega) b3 hscb
              have d20 := q_f0.of d2 (by decide)
              have P6 := P5.fr d2 d20 (by decide) (by decide) (by decide) (by decide) (by decide)
              obtain ⟨h7, g1, g2⟩ := q8_dk_L (N := N) (a := a) (f := f) (g := fun p => pu p - ho p) (sc := se r) hN P6 ha hf w1 (fun p hp => by rw [d2 10 (by decide), b3 p hp]) hscb w2 hgb (pu a - ho a) 1 h6 (by omega) (by omega) q_fr.rf (fun p hp => by
                rw [d2 9 (by decide), v9 p hp, show 1 - 1 = 0 from rfl, s_gd_0 w1])
              refine ⟨h7, ?_, (fy5.tr (q_fy.of d2 d20 (by decide))).tr (q_fy.of g2 (q_f0.of g2 (by decide)) (by decide))⟩
              have hga := hgb a ha
              simp only at hga
              rw [d1, mm_call_some, mm_let, mm_let, d4 a ha, if_pos w2, d2 9 (by decide), v9 a ha, show (1 : Int32) = nI 1 from rfl, g1 _ N (by omega)]
              cases s_fi (s_dk n law ti ap (fun p => pu p - ho p) (se r) a f) (pu a - ho a) 1 with
              | zero => rfl
              | succ x => rfl
            · exact ⟨h5, by rw [if_neg w3, if_neg w3, mm_call_some], fy5⟩
      · exact ⟨h3, by rw [if_neg x, if_neg x], (e2.tr e4).tr e6⟩
    · exact ⟨h2, by rw [if_neg y, if_neg y], e2.tr e4⟩
  · exact ⟨h1, by rw [if_neg z, if_neg z], e2⟩
end Q8
