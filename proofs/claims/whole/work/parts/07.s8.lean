/-! PURE 12h: finer frames, for the digest (made by gen12h.py of the coarser ones) -/
abbrev q_SP : List Nat := [11, 15, 16, 17, 18, 19, 20]
abbrev q_SF : List Nat := [11, 25, 26, 27]
abbrev q_SB : List Nat := [11, 21, 22]
section Q12h
variable {N n R law ti : Nat} {pu ap ho wo : Nat → Nat} {se : Nat → Nat → Nat} {hx hy : mm_M} {c1 c2 : Nat → Int32} {f0 f1 : Nat} {ns : Nat} {sr sp sv : Nat → Nat}
theorem q4_hid_LP {a : Nat} (hN : 100 ≤ N) (P : q_PX n law ti pu ap ho wo hx) (E : q_EX n R se hx) (S : q_SeX ns sr sp sv hx) (ha : a < n) :
    ∀ j i h, i + j = pu a + 1 → q_fr q_SP hx h →
      ∃ h', (∀ k fuel, j < fuel → fX4_leastHidden_L2 N (nI a) k fuel h (nI i) = if s_fi (s_hf n R law ti pu ap ho se ns sr sp sv a) j i = 0 then k h' else some (h', nI (s_fi (s_hf n R law ti pu ap ho se ns sr sp sv a) j i - 1))) ∧ q_fr q_SP hx h' := by
  have hn := P.1
  have hR := E.1
  have pa := P.2.2.2.2.2.2.1 a (by omega)
  intro j
  induction j with
  | zero =>
    intro i h hi hf
    refine ⟨h, ?_, hf⟩
    intro k fuel hfu
    obtain ⟨fu, rfl⟩ : ∃ f, fuel = f + 1 := ⟨fuel - 1, by omega⟩
    rw [fX4_leastHidden_L2, if_pos (qn_gd (by omega) (by omega)), qn_c (by omega), hf 7 (by decide), pa.1, if_pos ((qn_lt (by omega) (by omega)).mpr (by omega)), s_fi, if_pos rfl]
  | succ j ih =>
    intro i h hi hf
    have P1 := P.fr hf (by decide) (by decide) (by decide) (by decide) (by decide)
    have E1 := E.fr hf (by decide) (by decide) (by decide)
    obtain ⟨h1, a1, a2, a3⟩ := q2_tell (N := N) (c0 := 15) hN (by decide) (by decide) P1.2.2.2.2.2.2.1 P1.2.2.2.2.2.2.2.2.1
    have f2 : q_fr [15] h (mm_up h1 15 a (nI (pu a - i))) := a2.tr (q_fr.up (S := [15]) (by simp)) (fun _ q => q) (fun _ q => q)
    have P2 := P1.fr f2 (by decide) (by decide) (by decide) (by decide) (by decide)
    have E2 := E1.fr f2 (by decide) (by decide) (by decide)
    have hgb : ∀ p, p < n → (fun p => pu p - va_up ho a i p) p ≤ 99 := fun p hp => by
      have := (P.2.2.2.2.2.2.1 p (by omega)).2
      simp only
      omega
    obtain ⟨h3, b1, b2, b3⟩ := q0_from (N := N) (k0 := R) (g := fun p => pu p - va_up ho a i p) hN P2 E2 (by omega) (fun p hp => by
      rw [q_up]
      by_cases e : p = a
      · subst e; simp [va_up]
      · simp [e, va_up, a3 p (by omega)]) (fun p hp => by have := hgb p hp; simp only at this; omega)
    have f3 : q_fr q_SP hx h3 := (hf.tr f2 (U := q_SP) (fun _ q => q) (by decide)).tr b2 (fun _ q => q) (by decide)
    have S3 := S.fr f3 (by decide) (by decide) (by decide) (by decide)
    have u := q4_un (N := N) (py := s_py n law ti ap se (fun p => pu p - va_up ho a i p)) hN hn hR (by rw [f3 6 (by decide), P.2.2.2.1]) (by rw [f3 12 (by decide), E.2.1]) S3 (fun r hr p hp => ⟨b3.2.2.2.2.1 r hr p hp, by have := s_py_lt (law := law) (ti := ti) (ap := ap) (se := se) (r := r) hgb hp; omega⟩)
    have st : ∀ k fu, fX4_leastHidden_L2 N (nI a) k (fu + 1) h (nI i) = if nI (s_un (s_ok n R sr sp sv (s_py n law ti ap se (fun p => pu p - va_up ho a i p))) ns) = 0 then some (h3, nI i) else fX4_leastHidden_L2 N (nI a) k fu h3 (nI (i + 1)) := by
      intro k fu
      rw [fX4_leastHidden_L2, if_pos (qn_gd (by omega) (by omega)), qn_c (by omega), hf 7 (by decide), pa.1, if_neg (fun q => absurd ((qn_lt (by omega) (by omega)).mp q) (by omega)), a1, mm_call_some, mm_let, a2 7 (by decide), hf 7 (by decide), pa.1, qn_sub (by omega), E2.2.1, b1, mm_call_some, u, mm_call_some, nI_1]
    have hul := s_un_le (s_ok n R sr sp sv (s_py n law ti ap se (fun p => pu p - va_up ho a i p))) ns
    have hs := S.1
    simp only [qn_e0 (show s_un (s_ok n R sr sp sv (s_py n law ti ap se (fun p => pu p - va_up ho a i p))) ns < 100000 by omega)] at st
    by_cases z : s_hf n R law ti pu ap ho se ns sr sp sv a i = true
    · refine ⟨h3, ?_, f3⟩
      intro k fuel hfu
      obtain ⟨fu, rfl⟩ : ∃ f, fuel = f + 1 := ⟨fuel - 1, by omega⟩
      have z1 : s_un (s_ok n R sr sp sv (s_py n law ti ap se (fun p => pu p - va_up ho a i p))) ns = 0 := by simpa [s_hf] using z
      have z2 : ¬ i + 1 = 0 := by omega
      rw [st, s_fi, if_pos z, if_pos z1, if_neg z2, Nat.add_sub_cancel]
    · obtain ⟨h', e1, e2⟩ := ih (i + 1) h3 (by omega) f3
      refine ⟨h', ?_, e2⟩
      intro k fuel hfu
      obtain ⟨fu, rfl⟩ : ∃ f, fuel = f + 1 := ⟨fuel - 1, by omega⟩
      rw [st, s_fi, if_neg z, if_neg (by simpa [s_hf] using z)]
      exact e1 k fu (by omega)
theorem q4_hidP {a : Nat} (hN : 200 ≤ N) (P : q_PX n law ti pu ap ho wo hx) (E : q_EX n R se hx) (S : q_SeX ns sr sp sv hx) (ha : a < n) :
    ∃ h', fX4_leastHidden N hx (nI a) = some (h', q_ix (s_fi (s_hf n R law ti pu ap ho se ns sr sp sv a) (pu a + 1) 0)) ∧ q_fr q_SP hx h' := by
  have hn := P.1
  have pa := P.2.2.2.2.2.2.1 a (by omega)
  obtain ⟨h', e1, e2⟩ := q4_hid_LP (N := N) (by omega) P E S ha (pu a + 1) 0 hx (by omega) q_fr.rf
  refine ⟨h', ?_, e2⟩
  unfold fX4_leastHidden
  rw [show (0 : Int32) = nI 0 from rfl, e1 _ N (by omega)]
  cases s_fi (s_hf n R law ti pu ap ho se ns sr sp sv a) (pu a + 1) 0 with
  | zero => rfl
  | succ x => rfl
theorem q1_followP (hN : 5000 ≤ N) (P : q_PX n law ti pu ap ho wo hx) :
    ∃ h', fX1_follow N hx = some (h', ()) ∧ q_fr q_SF hx h' ∧ (if n ≤ 4 then h' 25 3 = nI (s_wy n) ∧ q_st n law ti ap (s_wy n) (fun p => pu p - ho p) ((1 + s_wy n + s_wy n * s_wy n) * s_wy n + 1) h' else h' 25 3 = nI 0) := by
  have hn := P.1
  have d1 : (nI n ≤ (4 : Int32)) ↔ n ≤ 4 := qn_le (b := 4) (by omega) (by omega)
  unfold fX1_follow
  rw [P.2.2.2.1]
  simp only [d1]
  by_cases h4 : n ≤ 4
  · have wy := qk_wy n (by omega)
    have hl := s_wy_lit h4
    have f1 : q_fr [25] hx (mm_up hx 25 3 (nI (s_wy n))) := q_fr.up (by simp)
    have P1 := P.fr f1 (by decide) (by decide) (by decide) (by decide) (by decide)
    obtain ⟨h1, a1, a2, a3⟩ := q2_tell (N := N) (c0 := 26) (by omega) (by decide) (by decide) P1.2.2.2.2.2.2.1 P1.2.2.2.2.2.2.2.2.1
    have P2 := P1.fr a2 (by decide) (by decide) (by decide) (by decide) (by decide)
    have gb : ∀ p, p < n → (fun p => pu p - ho p) p ≤ 99 := fun p hp => by
      have := (P.2.2.2.2.2.2.1 p (by omega)).2
      simp only
      omega
    have ep := q1_packed (N := N) (G := fun p => pu p - ho p) (by omega) P2 h4 (fun p hp => ⟨a3 p (by omega), gb p hp⟩)
    have f3 : q_fr [25, 26, 27] hx (mm_up h1 27 0 (nI (s_pk (fun p => pu p - ho p) n))) := (f1.tr a2 (U := [25, 26, 27]) (by decide) (by decide)).tr (q_fr.up (S := [27]) (by simp)) (fun _ q => q) (by decide)
    have P3 := P.fr f3 (by decide) (by decide) (by decide) (by decide) (by decide)
    have v3 : mm_up h1 27 0 (nI (s_pk (fun p => pu p - ho p) n)) 25 3 = nI (s_wy n) := by
      rw [mm_up_ne _ _ _ (by decide), a2 25 (by decide)]
      simp [q_up]
    have v31 : mm_up hx 25 3 (nI (s_wy n)) 25 3 = nI (s_wy n) := by simp [q_up]
    obtain ⟨h', e1, e2, e3⟩ := q1_f78_L (N := N) (W := s_wy n) (M := 1 + s_wy n + s_wy n * s_wy n) (G := fun p => pu p - ho p) (by omega) P3 h4 rfl v3 gb rfl (1 + s_wy n + s_wy n * s_wy n) 0 _ (by omega) q_fr.rf (by
      intro i hi
      have : i = 0 := by omega
      subst this
      simp [q_up, s_SG, s_L])
    have hM : 1 + s_wy n + s_wy n * s_wy n ≤ 241 := by rcases hl with h | h | h | h <;> rw [h] <;> decide
    refine ⟨h', ?_, f3.tr e2 (by decide) (by decide), ?_⟩
    · rw [if_pos h4, if_pos (qn_gd (by omega) (by omega)), mm_let, qn_c (by omega), wy.1, v31, if_neg (fun q => absurd ((qn_e0 (by omega)).mp q) (by omega)), a1, mm_call_some, ep, mm_call_some, mm_let, show Int32.toNatClampNeg 0 = 0 from rfl, v3, mm_let, show (1 : Int32) = nI 1 from rfl, nI_add, qn_mul, nI_add, show (0 : Int32) = nI 0 from rfl, e1 _ N (by omega)]
    · rw [if_pos h4]
      exact ⟨by rw [e2 25 (by decide), v3], e3⟩
  · refine ⟨mm_up hx 25 3 0, ?_, q_fr.up (by decide), ?_⟩
    · rw [if_neg h4, mm_let, if_pos (by simp [q_up])]
    · rw [if_neg h4]
      simp [q_up, nI_0]
theorem q7_payerP (hN : 100 ≤ N) (P : q_PX n law ti pu ap ho wo hx) (E : q_EX n R se hx) (r t : Int32) :
    ∃ h', fX7_payer N hx r t = some (h', if mm_gd r R = true then (if mm_gd t 6 = true then q_ix (s_ah ti (s_py n law ti ap se (fun p => pu p - ho p) r.toNatClampNeg) (s_at (se r.toNatClampNeg) (t.toNatClampNeg + 1)) n) else -2) else -2) ∧ q_fr q_SP hx h' := by
  have hn := P.1
  have hR := E.1
  unfold fX7_payer
  rw [q7_isRound E, mm_call_some, q_b0]
  by_cases z : mm_gd r R = true
  · obtain ⟨r, hr, rfl⟩ := qg_ex z (by omega)
    rw [if_pos z, if_pos z, q7_in (n := 6) (by decide), mm_call_some, q_b0]
    by_cases y : mm_gd t 6 = true
    · obtain ⟨t, ht, rfl⟩ := qg_ex y (by omega)
      obtain ⟨h1, e1, e2, e3⟩ := q0_play (N := N) (k0 := r + 1) hN P E (by omega)
      have P1 := P.fr e2 (by simp) (by simp) (by simp) (by simp) (by simp)
      have E1 := E.fr e2 (by simp) (by simp) (by simp)
      obtain ⟨m, m1, m2, -, m4⟩ := q0_seated (N := N) E1 hr ht
      refine ⟨h1, ?_, e2.wk (by decide)⟩
      have hpu : ∀ p, p < n → (fun p => pu p - ho p) p ≤ 99 := fun p hp => by
        have := (P.2.2.2.2.2.2.1 p (by omega)).2
        simp only
        omega
      rw [if_pos y, if_pos y, nI_1, e1, mm_call_some, m2, mm_call_some, q2_ah (g := s_py n law ti ap se (fun p => pu p - ho p) r) hN P1.2.2.2.1 P1.2.2.2.2.2.1 hn P.2.2.1 (fun p hp => e3.2.2.2.2.2 r rfl p hp) (fun p hp => by have := s_py_lt (law := law) (ti := ti) (ap := ap) (se := se) (r := r) hpu hp; omega) m1, mm_call_some, qn_c (by omega), qn_c (by omega)]
      congr 3
      exact s_ah_congr ti n (fun q hq => by rw [m4 q (by omega)]; simp [s_at, hq]) (fun _ _ => rfl)
    · exact ⟨hx, by rw [if_neg y, if_neg y], q_fr.rf⟩
  · exact ⟨hx, by rw [if_neg z, if_neg z], q_fr.rf⟩
theorem q7_beggarsP (hN : 100 ≤ N) (P : q_PX n law ti pu ap ho wo hx) (E : q_EX n R se hx) :
    ∃ h', fX7_beggars N hx = some (h', s_bg (fun p => decide (s_et ap se R p ≠ 0 ∧ s_pd n law ti ap se (fun p => pu p - ho p) R p = 0)) n) ∧ q_fr q_SP hx h' := by
  have hn := P.1
  have hR := E.1
  obtain ⟨h1, e1, e2, e3⟩ := q0_play (N := N) (k0 := R) hN P E (by omega)
  refine ⟨h1, ?_, e2.wk (by decide)⟩
  unfold fX7_beggars
  rw [E.2.1, e1, mm_call_some]
  refine q7_bg_L (N := N) hn (by rw [e2 6 (by simp), P.2.2.2.1]) (fun p hp => ⟨e3.2.2.1 p hp, ?_⟩) (fun p hp => ⟨e3.2.1 p hp, ?_⟩) (fun h v => some (h, v)) n N 0 (by omega) (by omega)
  · have := s_et_le (se := se) (k := R) (P.2.2.2.2.2.2.2.1 p (by omega)).2
    omega
  · have := s_pd_le (n := n) (law := law) (ti := ti) (ap := ap) (se := se) (g := fun p => pu p - ho p) (k := R) (p := p)
    have := (P.2.2.2.2.2.2.1 p (by omega)).2
    omega
theorem q3_b52_LP {r a t m : Nat} {p1 : Int32} (hN : 200 ≤ N) (P : q_PX n law ti pu ap ho wo hx) (E : q_EX n R se hx) (ha : a < n) (hm : m < 64) (hmb : ∀ q, q < n → m.testBit q = s_at (va_up (se r) a (t + 1)) (t + 1) q) :
    ∀ j i h st, i + j = pu a + 1 → q_fr q_SB hx h → (∀ p, p < n → p ≠ a → h 22 p = nI (pu p - ho p)) → h 21 5 = st.1 → h 21 6 = st.2.1 → h 21 7 = st.2.2 → h 21 8 = hx 21 8 →
      ∃ h', (∀ k fuel, j < fuel → fX3_findBest_L52 N p1 (nI a) (nI t) (nI m) k fuel h (nI i) = k h') ∧ q_fr q_SB hx h' ∧ (∀ p, p < n → p ≠ a → h' 22 p = nI (pu p - ho p)) ∧ h' 21 5 = (s_b1 (s_bx n law ti pu ap ho wo (se r) a t) t j i st).1 ∧ h' 21 6 = (s_b1 (s_bx n law ti pu ap ho wo (se r) a t) t j i st).2.1 ∧ h' 21 7 = (s_b1 (s_bx n law ti pu ap ho wo (se r) a t) t j i st).2.2 ∧ h' 21 8 = hx 21 8 := by
  have hn := P.1
  have pa := P.2.2.2.2.2.2.1 a (by omega)
  intro j
  induction j with
  | zero =>
    intro i h st hi hf hg s1 s2 s3 s8
    refine ⟨h, ?_, hf, hg, s1, s2, s3, s8⟩
    intro k fuel hfu
    obtain ⟨fu, rfl⟩ : ∃ f, fuel = f + 1 := ⟨fuel - 1, by omega⟩
    rw [fX3_findBest_L52, if_pos (qn_gd (by omega) (by omega)), qn_c (by omega), hf 7 (by decide), pa.1, if_pos ((qn_lt (by omega) (by omega)).mpr (by omega))]
  | succ j ih =>
    intro i h st hi hf hg s1 s2 s3 s8
    have f2 : q_fr q_SB hx (mm_up h 22 a (nI (pu a - i))) := hf.tr (q_fr.up (S := [22]) (by simp)) (fun _ q => q) (by decide)
    have P2 := P.fr f2 (by decide) (by decide) (by decide) (by decide) (by decide)
    have hbit : m.testBit a = true := by rw [hmb a ha]; simp [s_at, va_up]
    obtain ⟨h3, b1, b2⟩ := q2_payOf (N := N) (c := 22) (m := m) (a := a) (g := fun p => pu p - va_up ho a i p) (by omega) (by decide) P2 (fun p hp => by
      rw [q_up]
      by_cases e : p = a
      · subst e; simp [va_up]
      · simp [e, va_up, hg p hp e]) (fun p hp => by
        have := (P.2.2.2.2.2.2.1 p (by omega)).2
        omega) hm ha hbit
    have f3 : q_fr q_SB hx h3 := f2.tr b2 (fun _ q => q) (by decide)
    have pw : s_pay n law ti ap (fun p => pu p - va_up ho a i p) (fun q => m.testBit q) a = s_pay n law ti ap (fun p => pu p - va_up ho a i p) (s_at (va_up (se r) a (t + 1)) (t + 1)) a := s_pay_congr ha hmb (fun _ _ => rfl)
    have t1 : h3 21 5 = st.1 := by rw [b2 21 (by decide), mm_up_ne _ _ _ (by decide), s1]
    have t2 : h3 21 6 = st.2.1 := by rw [b2 21 (by decide), mm_up_ne _ _ _ (by decide), s2]
    have t3 : h3 21 7 = st.2.2 := by rw [b2 21 (by decide), mm_up_ne _ _ _ (by decide), s3]
    have t5 : h3 21 8 = hx 21 8 := by rw [b2 21 (by decide), mm_up_ne _ _ _ (by decide), s8]
    have t4 : ∀ p, p < n → p ≠ a → h3 22 p = nI (pu p - ho p) := fun p hp e => by rw [b2 22 (by decide), q_up]; simp [e, hg p hp e]
    have w10 : mm_up h 22 a (nI (pu a - i)) 10 a = nI (wo a) := by rw [mm_up_ne _ _ _ (by decide), hf 10 (by decide), (P.2.2.2.2.2.2.2.2.2 a (by omega)).1]
    have stp : ∀ k fu, fX3_findBest_L52 N p1 (nI a) (nI t) (nI m) k (fu + 1) h (nI i) = if s_bx n law ti pu ap ho wo (se r) a t i ≤ st.1 then fX3_findBest_L52 N p1 (nI a) (nI t) (nI m) k fu h3 (nI (i + 1)) else fX3_findBest_L52 N p1 (nI a) (nI t) (nI m) k fu (mm_up (mm_up (mm_up h3 21 5 (s_bx n law ti pu ap ho wo (se r) a t i)) 21 6 (nI t)) 21 7 (nI i)) (nI (i + 1)) := by
      intro k fu
      rw [fX3_findBest_L52, if_pos (qn_gd (by omega) (by omega)), qn_c (by omega), hf 7 (by decide), pa.1, if_neg (fun q => absurd ((qn_lt (by omega) (by omega)).mp q) (by omega)), mm_let, qn_sub (by omega), b1, mm_call_some, w10, pw, t1, nI_1]
      rfl
    by_cases z : s_bx n law ti pu ap ho wo (se r) a t i ≤ st.1
    · obtain ⟨h', e1, e2⟩ := ih (i + 1) h3 st (by omega) f3 t4 t1 t2 t3 t5
      refine ⟨h', ?_, ?_⟩
      · intro k fuel hfu
        obtain ⟨fu, rfl⟩ : ∃ f, fuel = f + 1 := ⟨fuel - 1, by omega⟩
        rw [stp, if_pos z]
        exact e1 k fu (by omega)
      · rw [s_b1, if_pos z]
        exact e2
    · obtain ⟨h', e1, e2⟩ := ih (i + 1) (mm_up (mm_up (mm_up h3 21 5 (s_bx n law ti pu ap ho wo (se r) a t i)) 21 6 (nI t)) 21 7 (nI i)) (s_bx n law ti pu ap ho wo (se r) a t i, nI t, nI i) (by omega) (((f3.tr (q_fr.up (S := [21]) (by simp)) (U := q_SB) (fun _ q => q) (by decide)).tr (q_fr.up (S := [21]) (by simp)) (U := q_SB) (fun _ q => q) (by decide)).tr (q_fr.up (S := [21]) (by simp)) (fun _ q => q) (by decide)) (fun p hp e => by
        rw [mm_up_ne _ _ _ (by decide), mm_up_ne _ _ _ (by decide), mm_up_ne _ _ _ (by decide)]
        exact t4 p hp e) (by simp [q_up]) (by simp [q_up]) (by simp [q_up]) (by simp [q_up, t5])
      refine ⟨h', ?_, ?_⟩
      · intro k fuel hfu
        obtain ⟨fu, rfl⟩ : ∃ f, fuel = f + 1 := ⟨fuel - 1, by omega⟩
        rw [stp, if_neg z]
        exact e1 k fu (by omega)
      · rw [s_b1, if_neg z]
        exact e2
theorem q3_b28_LP {r a : Nat} (hN : 200 ≤ N) (P : q_PX n law ti pu ap ho wo hx) (E : q_EX n R se hx) (ha : a < n) (hr : r < R) :
    ∀ j t h st, t + j = 6 → q_fr q_SB hx h → (∀ p, p < n → p ≠ a → h 22 p = nI (pu p - ho p)) → h 21 5 = st.1 → h 21 6 = st.2.1 → h 21 7 = st.2.2 → h 21 8 = hx 21 8 →
      ∃ h', (∀ k fuel, j < fuel → fX3_findBest_L28 N (nI r) (nI a) k fuel h (nI t) = k h') ∧ q_fr q_SB hx h' ∧ h' 21 5 = (s_b2 (s_bx n law ti pu ap ho wo (se r) a) (pu a + 1) j t st).1 ∧ h' 21 6 = (s_b2 (s_bx n law ti pu ap ho wo (se r) a) (pu a + 1) j t st).2.1 ∧ h' 21 7 = (s_b2 (s_bx n law ti pu ap ho wo (se r) a) (pu a + 1) j t st).2.2 ∧ h' 21 8 = hx 21 8 := by
  have hn := P.1
  have pa := P.2.2.2.2.2.2.1 a (by omega)
  intro j
  induction j with
  | zero =>
    intro t h st hi hf hg s1 s2 s3 s8
    refine ⟨h, ?_, hf, s1, s2, s3, s8⟩
    intro k fuel hfu
    obtain ⟨fu, rfl⟩ : ∃ f, fuel = f + 1 := ⟨fuel - 1, by omega⟩
    rw [fX3_findBest_L28, if_pos ((qn_l6 (by omega)).mpr (by omega))]
  | succ j ih =>
    intro t h st hi hf hg s1 s2 s3 s8
    have E1 := E.fr hf (by decide) (by decide) (by decide)
    obtain ⟨m, m1, m2, -, m4⟩ := q0_seated (N := N) E1 hr (show t < 6 by omega)
    have ml := qb_or_lt m m1 a (by omega)
    obtain ⟨h1, b1, b2, b3, b4, b5, b6, b7⟩ := q3_b52_LP (N := N) (r := r) (a := a) (t := t) (m := m ||| 1 <<< a) (p1 := nI r) hN P E ha ml (fun q hq => by
      rw [qb_or_bit m m1 a (by omega) q (by omega), m4 q (by omega)]
      by_cases e : q = a
      · subst e; simp [s_at, va_up]
      · simp [s_at, va_up, e, hq]) (pu a + 1) 0 h st (by omega) hf hg s1 s2 s3 s8
    obtain ⟨h', e1, e2⟩ := ih (t + 1) h1 _ (by omega) b2 b3 b4 b5 b6 b7
    refine ⟨h', ?_, e2⟩
    intro k fuel hfu
    obtain ⟨fu, rfl⟩ : ∃ f, fuel = f + 1 := ⟨fuel - 1, by omega⟩
    rw [fX3_findBest_L28, if_neg (fun q => absurd ((qn_l6 (by omega)).mp q) (by omega)), m2, mm_call_some, mm_let, qb_or m m1 a (by omega), show (0 : Int32) = nI 0 from rfl, b1 _ N (by omega), nI_1]
    exact e1 k fu (by omega)
theorem q3_bestP {r a : Nat} (hN : 200 ≤ N) (P : q_PX n law ti pu ap ho wo hx) (E : q_EX n R se hx) (ha : a < n) (hr : r < R) :
    ∃ h', fX3_findBest N hx (nI r) (nI a) = some (h', ()) ∧ q_fr q_SB hx h' ∧ h' 21 8 = hx 21 8 ∧ ∀ w, fX3_bestTold N h' w = some (h', s_bt (s_b2 (s_bx n law ti pu ap ho wo (se r) a) (pu a + 1) 6 0 (0, -1, 0)) w) := by
  have hn := P.1
  have f1 : q_fr [21] hx (mm_up (mm_up (mm_up hx 21 5 0) 21 6 (-1)) 21 7 0) := ((q_fr.up (S := [21]) (by simp)).tr (q_fr.up (S := [21]) (by simp)) (U := [21]) (fun _ q => q) (fun _ q => q)).tr (q_fr.up (S := [21]) (by simp)) (fun _ q => q) (fun _ q => q)
  have P1 := P.fr f1 (by decide) (by decide) (by decide) (by decide) (by decide)
  obtain ⟨h1, a1, a2, a3⟩ := q2_tell (N := N) (c0 := 22) (by omega) (by decide) (by decide) P1.2.2.2.2.2.2.1 P1.2.2.2.2.2.2.2.2.1
  obtain ⟨h', e1, e2, e3, e4, e5, e6⟩ := q3_b28_LP (N := N) (r := r) (a := a) hN P E ha hr 6 0 h1 (0, -1, 0) rfl (f1.tr a2 (by decide) (by decide)) (fun p hp _ => a3 p (by omega)) (by rw [a2 21 (by decide)]; simp [q_up]) (by rw [a2 21 (by decide)]; simp [q_up]) (by rw [a2 21 (by decide)]; simp [q_up]) (by rw [a2 21 (by decide)]; simp [q_up])
  refine ⟨h', ?_, e2, e6, ?_⟩
  · unfold fX3_findBest
    rw [mm_let, mm_let, mm_let, a1, mm_call_some]
    exact e1 _ N (by omega)
  · intro w
    unfold fX3_bestTold s_bt
    rw [e3, e4, e5]
    split
    · rfl
    · split <;> rfl
/-- what the reference has read -/
def q_rd (n R : Nat) (pu ap : Nat → Nat) (se : Nat → Nat → Nat) (h : mm_M) : Prop := h 0 2 = nI n ∧ h 0 5 = nI R ∧ (∀ p, p < n → h 3 p = nI (pu p) ∧ h 4 p = nI (ap p)) ∧ ∀ r, r < R → ∀ p, p < n → h 5 (6 * r + p) = q_ix (se r p)
theorem q8_hid_LP {a : Nat} {x2 : Int32} (hN : 200 ≤ N) (D : q_RD N c1 c2 n R f0 f1 pu ap se) (Y : q_QY c1 c2 law ti ho wo hy) (S : q_SeY ns sr sp sv hy) (ha : a < n) :
    ∀ j i h, i + j = pu a + 1 → q_hm a hy h → q_rd n R pu ap se h →
      ∃ h', (∀ k fuel, j + 1 < fuel → fX8_hidOf_L12 N (nI a) x2 k fuel h (-1) (nI i) = k h' (q_ix (s_fi (s_hf n R law ti pu ap ho se ns sr sp sv a) j i))) ∧ q_hm a hy h' ∧ q_rd n R pu ap se h' := by
  have hn := D.1
  have pa := (D.2.2.1 a ha).1
  intro j
  induction j with
  | zero =>
    intro i h hi hm rd
    have h3 := (rd.2.2.1 a ha).1
    refine ⟨h, ?_, hm, rd⟩
    intro k fuel hfu
    obtain ⟨fu, rfl⟩ : ∃ f, fuel = f + 1 := ⟨fuel - 1, by omega⟩
    rw [fX8_hidOf_L12, if_pos (qn_gd (by omega) (by omega)), qn_c (by omega), h3, if_pos ((qn_lt (by omega) (by omega)).mpr (by omega)), s_fi]
    rfl
  | succ j ih =>
    intro i h hi hm rd
    have h3 := (rd.2.2.1 a ha).1
    obtain ⟨m1, m2, m3, m4⟩ := hm
    obtain ⟨y1, y2, y3, y4, y5, y6, y7, y8⟩ := Y
    have Y1 : q_QY c1 c2 law ti (va_up ho a i) wo (mm_up h 6 a (nI i)) := by
      refine ⟨?_, ?_, y3, y4, ?_, ?_, ?_, ?_⟩
      · rw [mm_up_ne _ _ _ (by decide), m1 1 (by simp) (by decide), y1]
      · rw [mm_up_ne _ _ _ (by decide), m1 2 (by simp) (by decide), y2]
      · rw [mm_up_ne _ _ _ (by decide), m1 8 (by simp) (by decide), y5]
      · rw [mm_up_ne _ _ _ (by decide), m1 8 (by simp) (by decide), y6]
      · intro p hp
        rw [q_up]
        by_cases e : p = a
        · subst e
          simp only [if_true, va_up]
          exact ⟨trivial, by omega⟩
        · simp only [if_true, va_up, e, if_false]
          rw [m2 p e]
          exact y7 p hp
      · rw [mm_up_ne _ _ _ (by decide), m1 7 (by simp) (by decide)]
        exact y8
    have S1 : q_SeY ns sr sp sv (mm_up h 6 a (nI i)) := by
      unfold q_SeY at *
      rw [mm_up_ne _ _ _ (by decide), mm_up_ne _ _ _ (by decide), mm_up_ne _ _ _ (by decide), mm_up_ne _ _ _ (by decide), m3, m1 17 (by simp) (by decide), m1 18 (by simp) (by decide), m1 19 (by simp) (by decide)]
      exact S
    obtain ⟨h4, e1, e2, P4, E4⟩ := q8_unlike (N := N) (by omega) D Y1 S1
    have hm4 : q_hm a hy h4 := by
      refine ⟨?_, ?_, ?_, ?_⟩
      · intro c hc h6
        rw [e2.1 c hc, mm_up_ne _ _ _ h6, m1 c hc h6]
      · intro p hp
        rw [e2.1 6 (by simp), q_up]
        simp [hp, m2 p hp]
      · rw [e2.2.1, mm_up_ne _ _ _ (by decide), m3]
      · rw [e2.2.2, mm_up_ne _ _ _ (by decide), m4]
    have hul := s_un_le (s_ok n R sr sp sv (s_py n law ti ap se (fun p => pu p - va_up ho a i p))) ns
    have hs := S.1
    have rd4 : q_rd n R pu ap se h4 := ⟨P4.2.2.2.1, E4.2.1, fun p hp => ⟨(P4.2.2.2.2.2.2.1 p hp).1, (P4.2.2.2.2.2.2.2.1 p hp).1⟩, fun r hr p hp => (E4.2.2 r hr p hp).1⟩
    have q34 : h4 3 a = nI (pu a) := (P4.2.2.2.2.2.2.1 a ha).1
    have st : ∀ k fu, fX8_hidOf_L12 N (nI a) x2 k (fu + 1) h (-1) (nI i) = if s_un (s_ok n R sr sp sv (s_py n law ti ap se (fun p => pu p - va_up ho a i p))) ns = 0 then fX8_hidOf_L12 N (nI a) x2 k fu h4 (nI i) (nI (i + 1)) else fX8_hidOf_L12 N (nI a) x2 k fu h4 (-1) (nI (i + 1)) := by
      intro k fu
      rw [fX8_hidOf_L12, if_pos (qn_gd (by omega) (by omega)), qn_c (by omega), h3, if_neg (fun q => absurd ((qn_lt (by omega) (by omega)).mp q) (by omega)), if_pos rfl, if_pos (qn_gd (by omega) (by omega)), mm_let, e1, mm_call_some, nI_1]
      simp only [qn_e0 (show s_un (s_ok n R sr sp sv (s_py n law ti ap se (fun p => pu p - va_up ho a i p))) ns < 100000 by omega)]
    by_cases z : s_hf n R law ti pu ap ho se ns sr sp sv a i = true
    · refine ⟨h4, ?_, hm4, rd4⟩
      intro k fuel hfu
      obtain ⟨fu, rfl⟩ : ∃ f, fuel = f + 2 := ⟨fuel - 2, by omega⟩
      rw [st, s_fi, if_pos z, if_pos (by simpa [s_hf] using z), q_ixs]
      rw [fX8_hidOf_L12, if_pos (qn_gd (by omega) (by omega)), if_neg (qn_m1 (by omega))]
      split <;> rfl
    · obtain ⟨h', e3, e4⟩ := ih (i + 1) h4 (by omega) hm4 rd4
      refine ⟨h', ?_, e4⟩
      intro k fuel hfu
      obtain ⟨fu, rfl⟩ : ∃ f, fuel = f + 1 := ⟨fuel - 1, by omega⟩
      rw [st, s_fi, if_neg z, if_neg (by simpa [s_hf] using z)]
      exact e3 k fu (by omega)
theorem q8_hidOfP {a : Nat} (hN : 200 ≤ N) (D : q_RD N c1 c2 n R f0 f1 pu ap se) (Y : q_QY c1 c2 law ti ho wo hy) (S : q_SeY ns sr sp sv hy) (ha : a < n) (rd : q_rd n R pu ap se hy) :
    ∃ h', fX8_hidOf N hy (nI a) = some (h', q_ix (s_fi (s_hf n R law ti pu ap ho se ns sr sp sv a) (pu a + 1) 0)) ∧ q_fy hy h' ∧ q_rd n R pu ap se h' := by
  have hn := D.1
  have pa := (D.2.2.1 a ha).1
  obtain ⟨h', e1, e2, e3⟩ := q8_hid_LP (N := N) (x2 := hy 6 a) hN D Y S ha (pu a + 1) 0 hy (by omega) ⟨fun _ _ _ => rfl, fun _ _ => rfl, rfl, rfl⟩ rd
  refine ⟨mm_up h' 6 a (hy 6 a), ?_, ?_, ?_⟩
  · unfold fX8_hidOf
    rw [if_pos (qn_gd (by omega) (by omega)), mm_let, qn_c (by omega), show (0 : Int32) = nI 0 from rfl, e1 _ N (by omega), mm_let]
  · obtain ⟨m1, m2, m3, m4⟩ := e2
    refine ⟨?_, ?_, ?_⟩
    · intro c hc
      by_cases h6 : c = 6
      · subst h6
        funext p
        rw [q_up]
        by_cases e : p = a
        · subst e; simp
        · simp [e, m2 p e]
      · rw [mm_up_ne _ _ _ h6, m1 c hc h6]
    · rw [mm_up_ne _ _ _ (by decide), m3]
    · rw [mm_up_ne _ _ _ (by decide), m4]
  · unfold q_rd at *
    rw [mm_up_ne _ _ _ (by decide), mm_up_ne _ _ _ (by decide), mm_up_ne _ _ _ (by decide), mm_up_ne _ _ _ (by decide)]
    exact e3
theorem q_rd.PE {h : mm_M} (D : q_RD N c1 c2 n R f0 f1 pu ap se) (Y : q_QY c1 c2 law ti ho wo h) (rd : q_rd n R pu ap se h) : q_PY n law ti pu ap ho wo h ∧ q_EY n R se h := by
  obtain ⟨d1, d2, d3, d4, d5⟩ := D
  obtain ⟨-, -, y1, y2, y3, y4, y5, y6⟩ := Y
  obtain ⟨r1, r2, r3, r4⟩ := rd
  exact ⟨⟨d1, y1, y2, r1, y3, y4, fun p hp => ⟨(r3 p hp).1, (d3 p hp).1⟩, fun p hp => ⟨(r3 p hp).2, (d3 p hp).2⟩, y5, y6⟩, ⟨d2, r2, fun r hr p hp => ⟨r4 r hr p hp, d4 r hr p hp⟩⟩⟩
theorem q_rd.of {h : mm_M} (P4 : q_PY n law ti pu ap ho wo h) (E4 : q_EY n R se h) : q_rd n R pu ap se h := ⟨P4.2.2.2.1, E4.2.1, fun p hp => ⟨(P4.2.2.2.2.2.2.1 p hp).1, (P4.2.2.2.2.2.2.2.1 p hp).1⟩, fun r hr p hp => (E4.2.2 r hr p hp).1⟩
end Q12h
