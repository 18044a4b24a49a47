/-! PURE 10d: down and alike of the reference -/
def s_dg (code p : Nat) : Nat := code / 4 ^ p % 4
def s_nx (code : Nat) : Nat → Nat
  | 0 => 0
  | p + 1 => if s_dg code p = s_nx code p then s_nx code p + 1 else s_nx code p
def s_va (code : Nat) : Nat → Bool
  | 0 => true
  | p + 1 => s_va code p && decide (s_dg code p ≤ s_nx code p)
theorem s_nx_le (code : Nat) : ∀ p, s_nx code p ≤ p := by
  intro p
  induction p with
  | zero => exact Nat.le_refl _
  | succ p ih =>
    rw [s_nx]
    split <;> omega
theorem qd_dg {code p : Nat} (hc : code < 4096) (hp : p < 6) : (nI code >>> (((2 : Int32) * nI p) &&& 31)) &&& 3 = nI (s_dg code p) := by
  have h := qr_ch (code / 64) (by omega) (code % 64) (by omega) p hp
  rw [show 64 * (code / 64) + code % 64 = code by omega] at h
  rw [show (2 : Int32) = nI 2 from rfl, qn_mul]
  exact h
theorem qd_to : ∀ n, n < 5 → ∀ w, w < s_wy n → ∃ code, code < 4 ^ n ∧ s_va code n = true ∧ ∀ p, p < n → s_tw w p = s_dg code p := by decide +kernel
theorem qd_of : ∀ n, n < 5 → ∀ code, code < 4 ^ n → s_va code n = true → ∃ w, w < s_wy n ∧ ∀ p, p < n → s_tw w p = s_dg code p := by decide +kernel
/-- the answer told by a code: 0 is none -/
def q_cd (B : Nat) : Int32 := if B = 0 then -1 else nI B
section Q10d
variable {N n R law ti : Nat} {pu ap ho wo : Nat → Nat} {se : Nat → Nat → Nat} {hx hy : mm_M} {c1 c2 : Nat → Int32} {f0 f1 : Nat}
theorem q8_parts {code : Nat} (hN : 100 ≤ N) (h2 : hy 0 2 = nI n) (hn : n ≤ 4) (hc : code < 4096) :
    ∃ h', fX8_parts N hy (nI code) = some (h', if s_va code n = true then 1 else 0) ∧ q_fr [10] hy h' ∧ (s_va code n = true → ∀ p, p < n → h' 10 p = q_ix (s_dg code p + 1)) := by
  have key : ∀ j i h, i + j = n → q_fr [10] hy h → s_va code i = true → (∀ p, p < i → h 10 p = q_ix (s_dg code p + 1)) →
      ∃ h', (∀ fuel, j < fuel → fX8_parts_L4 N (nI code) (fun h10 => some (h10, (1 : Int32))) fuel h (nI (s_nx code i)) (nI i) = some (h', if s_va code n = true then 1 else 0)) ∧ q_fr [10] hy h' ∧ (s_va code n = true → ∀ p, p < n → h' 10 p = q_ix (s_dg code p + 1)) := by
    intro j
    induction j with
    | zero =>
      intro i h hi hf hv hs
      have hi : i = n := by omega
      subst hi
      refine ⟨h, ?_, hf, fun _ => hs⟩
      intro fuel hfu
      obtain ⟨f, rfl⟩ : ∃ f, fuel = f + 1 := ⟨fuel - 1, by omega⟩
      rw [fX8_parts_L4, hf 0 (by decide), h2, if_pos ((qn_le (by omega) (by omega)).mpr (by omega)), if_pos hv]
    | succ j ih =>
      intro i h hi hf hv hs
      have hd : s_dg code i < 4 := Nat.mod_lt _ (by decide)
      have hx0 := s_nx_le code i
      have vmono : ∀ m, s_va code (i + 1) = false → s_va code (i + 1 + m) = false := by
        intro m h0
        induction m with
        | zero => exact h0
        | succ m im => rw [show i + 1 + (m + 1) = (i + 1 + m) + 1 by omega, s_va, im, Bool.false_and]
      have st : ∀ fuel, fX8_parts_L4 N (nI code) (fun h10 => some (h10, (1 : Int32))) (fuel + 1) h (nI (s_nx code i)) (nI i) = if s_dg code i ≤ s_nx code i then fX8_parts_L4 N (nI code) (fun h10 => some (h10, (1 : Int32))) fuel (mm_up h 10 i (nI (s_dg code i))) (nI (s_nx code (i + 1))) (nI (i + 1)) else some (h, 0) := by
        intro fuel
        rw [fX8_parts_L4, hf 0 (by decide), h2, if_neg (fun q => absurd ((qn_le (by omega) (by omega)).mp q) (by omega)), qd_dg hc (by omega), mm_let, qn_c (by omega), nI_1]
        have gi : mm_gd (nI i) 7 = true := qn_gd (by omega) (by omega)
        simp only [gi, if_true]
        simp only [qn_le (show s_dg code i < 100000 by omega) (show s_nx code i < 100000 by omega), qn_eq (show s_dg code i < 100000 by omega) (show s_nx code i < 100000 by omega), mm_let, nI_1]
        by_cases z : s_dg code i ≤ s_nx code i
        · rw [if_pos z, if_pos z]
          by_cases y : s_dg code i = s_nx code i
          · rw [if_pos y, s_nx, if_pos y]
          · rw [if_neg y, s_nx, if_neg y]
        · rw [if_neg z, if_neg z]
      by_cases z : s_dg code i ≤ s_nx code i
      · have v1 : s_va code (i + 1) = true := by rw [s_va, hv]; simp [z]
        obtain ⟨h', e1, e2⟩ := ih (i + 1) (mm_up h 10 i (nI (s_dg code i))) (by omega) (hf.tr (q_fr.up (S := [10]) (by simp)) (fun _ q => q) (fun _ q => q)) v1 (by
          intro p hp
          rw [q_up]
          by_cases e : p = i
          · simp [e, q_ixs]
          · simp [e, hs p (by omega)])
        refine ⟨h', ?_, e2⟩
        intro fuel hfu
        obtain ⟨f, rfl⟩ : ∃ f, fuel = f + 1 := ⟨fuel - 1, by omega⟩
        rw [st, if_pos z]
        exact e1 f (by omega)
      · have v1 : s_va code (i + 1) = false := by rw [s_va, hv]; simp [z]
        have v2 : s_va code n = false := by
          have := vmono (n - (i + 1)) v1
          rw [show i + 1 + (n - (i + 1)) = n by omega] at this
          exact this
        refine ⟨h, ?_, hf, fun q => by rw [v2] at q; cases q⟩
        intro fuel hfu
        obtain ⟨f, rfl⟩ : ∃ f, fuel = f + 1 := ⟨fuel - 1, by omega⟩
        rw [st, if_neg z, v2]
        rfl
  obtain ⟨h', e1, e2⟩ := key n 0 hy (by omega) q_fr.rf rfl (fun p hp => absurd hp (Nat.not_lt_zero p))
  exact ⟨h', e1 N (by omega), e2⟩
theorem q8_isDown {q vv : Int32} {G : Nat → Nat} {Pd : (Nat → Nat) → Bool} (hN : 100 ≤ N) (h2 : hy 0 2 = nI n) (hn : n ≤ 4) (hg : ∀ p, p < n → hy 9 p = nI (G p) ∧ G p ≤ 99) (ha : q_as n q vv Pd) :
    fX8_isDown N hy q vv = some (hy, if Pd G = true then 1 else 0) := by
  unfold fX8_isDown
  rcases ha with ⟨rfl, rfl⟩ | ⟨a, v, h1, hv, rfl, rfl, rfl⟩
  · have key : ∀ j fuel i (b : Bool), 1 ≤ i → ((i ≤ 4 ∧ i + j = n) ∨ (n = 0 ∧ j = 0 ∧ i = 1)) → j < fuel → fX8_isDown_L26 N (fun h6 v7 => if (v7 = 0 ∨ v7 = 1) then some (h6, v7) else none) fuel hy (if b = true then 1 else 0) (nI i) = some (hy, if (b && s_al (fun p => decide (G p = G 0)) j i) = true then 1 else 0) := by
      intro j
      induction j with
      | zero =>
        intro fuel i b h1 hi hfu
        obtain ⟨f, rfl⟩ : ∃ f, fuel = f + 1 := ⟨fuel - 1, by omega⟩
        have d : nI n ≤ nI i := by
          rcases hi with hi | hi
          · exact (qn_le (by omega) (by omega)).mpr (by omega)
          · rw [hi.1, hi.2.2]
            decide
        rw [fX8_isDown_L26, h2, if_pos d, s_al, Bool.and_true]
        cases b <;> rfl
      | succ j ih =>
        intro fuel i b h1 hi hfu
        obtain ⟨f, rfl⟩ : ∃ f, fuel = f + 1 := ⟨fuel - 1, by omega⟩
        have g1 := hg i (by omega)
        have g0 := hg 0 (by omega)
        rw [fX8_isDown_L26, h2, if_neg (fun q => absurd ((qn_le (by omega) (by omega)).mp q) (by omega)), if_pos (qn_gd (by omega) (by omega)), qn_c (by omega), show Int32.toNatClampNeg 0 = 0 from rfl, g1.1, g0.1, nI_1, s_al]
        simp only [qn_eq (show G i < 100000 by omega) (show G 0 < 100000 by omega)]
        cases b with
        | false =>
          have r1 := ih f (i + 1) false (by omega) (by omega) (by omega)
          simp only [Bool.false_and, Bool.false_eq_true, if_false, if_true] at r1 ⊢
          exact r1
        | true =>
          by_cases z : G i = G 0
          · have r1 := ih f (i + 1) true (by omega) (by omega) (by omega)
            simp only [z, if_true, decide_true, Bool.true_and] at r1 ⊢
            rw [if_neg (by decide)]
            exact r1
          · have r1 := ih f (i + 1) false (by omega) (by omega) (by omega)
            simp only [z, if_true, if_false, decide_false, Bool.true_and, Bool.false_and, Bool.false_eq_true] at r1 ⊢
            rw [if_neg (by decide)]
            exact r1
    rw [if_pos rfl]
    have := key (n - 1) N 1 true (Nat.le_refl _) (by omega) (by omega)
    refine Eq.trans this ?_
    rw [Bool.true_and]
    rfl
  · have g := hg a h1
    rw [if_neg (qn_m1 (by omega)), if_pos (qn_gd (by omega) (by omega)), qn_c (by omega), g.1]
    simp only [qn_eq (show G a < 100000 by omega) (show v < 100000 by omega), s_pA, decide_eq_true_eq]
    split <;> rfl
/-- hands behind a round by a code -/
abbrev s_Tm (n law ti : Nat) (ap : Nat → Nat) (code : Nat) (G : Nat → Nat) : Nat → Nat := s_T n law ti ap (fun q => s_dg code q + 1) G
/-- bills of all at their tables, and hands less them -/
theorem q8_r47 {code : Nat} {G : Nat → Nat} {p1 p2 p3 p4 p5 p6 : Int32} (hN : 100 ≤ N) (P : q_PY n law ti pu ap ho wo hy) (hn : n ≤ 4) (hc : code < 4096) (hv : s_va code n = true) (hg : ∀ p, p < n → hy 9 p = nI (G p) ∧ G p ≤ 99) :
    ∃ h1 h2 h', fX8_parts N hy (nI code) = some (h1, 1) ∧ fX8_bills N h1 = some (h2, ()) ∧ (∀ k, fX8_roundsTill_L47 N p1 p2 p3 p4 p5 p6 k N h2 (nI 0) = k h') ∧ q_fr [9, 10, 11, 12] hy h' ∧ ∀ p, p < n → h' 9 p = nI (s_Tm n law ti ap code G p) ∧ s_Tm n law ti ap code G p ≤ 99 := by
  obtain ⟨h1, a1, a2, a3⟩ := q8_parts (N := N) hN P.2.2.2.1 hn hc
  rw [if_pos hv] at a1
  have P1 := P.fr a2 (q_f0.of a2 (by decide)) (by decide) (by decide) (by decide) (by decide) (by decide)
  have hd : ∀ p, s_dg code p < 4 := fun p => Nat.mod_lt _ (by decide)
  obtain ⟨h2, b1, b2, -, b4⟩ := q8_bills (N := N) (g := G) (sc := fun q => s_dg code q + 1) hN P1.2.2.2.1 P1.2.2.2.2.1 P1.2.2.2.2.2.1 P.1 P.2.1 P.2.2.1 P1.2.2.2.2.2.2.2.1 (fun p hp => by rw [a2 9 (by decide), (hg p hp).1]) (fun p hp => by have := (hg p hp).2; omega) (a3 hv) (fun p hp => by have := hd p; omega)
  have P2 := P1.fr b2 (q_f0.of b2 (by decide)) (by decide) (by decide) (by decide) (by decide) (by decide)
  have key : ∀ j i h, i + j = n → q_fr [9] h2 h → (∀ p, p < i → h 9 p = nI (s_Tm n law ti ap code G p)) → (∀ p, i ≤ p → h 9 p = h2 9 p) →
      ∃ h', (∀ k fuel, j < fuel → fX8_roundsTill_L47 N p1 p2 p3 p4 p5 p6 k fuel h (nI i) = k h') ∧ q_fr [9] h2 h' ∧ ∀ p, p < n → h' 9 p = nI (s_Tm n law ti ap code G p) := by
    intro j
    induction j with
    | zero =>
      intro i h hi hf hv2 hw
      refine ⟨h, ?_, hf, fun p hp => hv2 p (by omega)⟩
      intro k fuel hfu
      obtain ⟨f, rfl⟩ : ∃ f, fuel = f + 1 := ⟨fuel - 1, by omega⟩
      rw [fX8_roundsTill_L47, hf 0 (by decide), P2.2.2.2.1, if_pos ((qn_le (by omega) (by omega)).mpr (by omega))]
    | succ j ih =>
      intro i h hi hf hv2 hw
      have v9 : h 9 i = nI (G i) := by rw [hw i (Nat.le_refl _), b2 9 (by decide), a2 9 (by decide), (hg i (by omega)).1]
      have v11 : h 11 i = nI (s_pay n law ti ap G (s_at (fun q => s_dg code q + 1) (s_dg code i + 1)) i) := by
        rw [hf 11 (by decide), b4 i (by omega), if_pos (by omega)]
      have vx : nI (G i) - nI (s_pay n law ti ap G (s_at (fun q => s_dg code q + 1) (s_dg code i + 1)) i) = nI (s_Tm n law ti ap code G i) := by
        rw [qn_sub (show s_pay n law ti ap G (s_at (fun q => s_dg code q + 1) (s_dg code i + 1)) i ≤ G i from Nat.min_le_right _ _)]
        rfl
      obtain ⟨h', e1, e2⟩ := ih (i + 1) (mm_up h 9 i (nI (s_Tm n law ti ap code G i))) (by omega) (hf.tr (q_fr.up (S := [9]) (by simp)) (fun _ q => q) (fun _ q => q)) (by
        intro p hp
        rw [q_up]
        by_cases e : p = i
        · simp [e]
        · simp [e, hv2 p (by omega)]) (by
        intro p hp
        rw [q_up, if_pos rfl, if_neg (by omega)]
        exact hw p (by omega))
      refine ⟨h', ?_, e2⟩
      intro k fuel hfu
      obtain ⟨f, rfl⟩ : ∃ f, fuel = f + 1 := ⟨fuel - 1, by omega⟩
      rw [fX8_roundsTill_L47, hf 0 (by decide), P2.2.2.2.1, if_neg (fun q => absurd ((qn_le (by omega) (by omega)).mp q) (by omega)), if_pos (qn_gd (by omega) (by omega)), mm_let, qn_c (by omega), v9, v11, vx, nI_1]
      exact e1 k f (by omega)
  obtain ⟨h', e1, e2, e3⟩ := key n 0 h2 (by omega) q_fr.rf (fun p hp => absurd hp (Nat.not_lt_zero p)) (fun _ _ => rfl)
  refine ⟨h1, h2, h', a1, b1, fun k => e1 k N (by omega), (a2.tr b2 (U := [9, 10, 11, 12]) (by decide) (by decide)).tr e2 (fun _ q => q) (by decide), fun p hp => ⟨e3 p hp, s_T_le (hg p hp).2⟩⟩
/-- behind which round it is so first -/
def s_by (n law ti : Nat) (ap : Nat → Nat) (G : Nat → Nat) (Pd : (Nat → Nat) → Bool) (a b c : Nat) : Nat :=
  if Pd (s_Tm n law ti ap a G) = true then 1 else if Pd (s_Tm n law ti ap b (s_Tm n law ti ap a G)) = true then 2 else if Pd (s_Tm n law ti ap c (s_Tm n law ti ap b (s_Tm n law ti ap a G))) = true then 3 else 0
theorem q8_till {a b c : Nat} {q vv : Int32} {Pd : (Nat → Nat) → Bool} (hN : 5000 ≤ N) (P : q_PY n law ti pu ap ho wo hy) (hn : n ≤ 4) (ha : a < 4096) (hb : b < 4096) (hc : c < 4096) (va : s_va a n = true) (vb : s_va b n = true) (vc : s_va c n = true) (hq : q_as n q vv Pd) :
    ∃ h', fX8_roundsTill N hy (nI a) (nI b) (nI c) q vv = some (h', q_cd (s_by n law ti ap (fun p => pu p - ho p) Pd a b c)) ∧ q_fr [9, 10, 11, 12] hy h' := by
  obtain ⟨h1, a1, a2, a3⟩ := q8_at (N := N) (by omega) P
  have gb : ∀ p, p < n → h1 9 p = nI ((fun p => pu p - ho p) p) ∧ (fun p => pu p - ho p) p ≤ 99 := fun p hp => ⟨a3 p hp, by
    have := (P.2.2.2.2.2.2.1 p hp).2
    simp only
    omega⟩
  have P1 := P.fr a2 (q_f0.of a2 (by decide)) (by decide) (by decide) (by decide) (by decide) (by decide)
  obtain ⟨f, rfl⟩ : ∃ f, N = f + 5 := ⟨N - 5, by omega⟩
  obtain ⟨u1, u2, u3, b1, b2, b3, b4, b5⟩ := q8_r47 (N := f + 5) (p1 := nI a) (p2 := nI b) (p3 := nI c) (p4 := q) (p5 := vv) (p6 := nI 1) (by omega) P1 hn ha va gb
  have P2 := P1.fr b4 (q_f0.of b4 (by decide)) (by decide) (by decide) (by decide) (by decide) (by decide)
  obtain ⟨v1, v2, v3, d1, d2, d3, d4, d5⟩ := q8_r47 (N := f + 5) (p1 := nI a) (p2 := nI b) (p3 := nI c) (p4 := q) (p5 := vv) (p6 := nI 2) (by omega) P2 hn hb vb b5
  have P3 := P2.fr d4 (q_f0.of d4 (by decide)) (by decide) (by decide) (by decide) (by decide) (by decide)
  obtain ⟨w1, w2, w3, g1, g2, g3, g4, g5⟩ := q8_r47 (N := f + 5) (p1 := nI a) (p2 := nI b) (p3 := nI c) (p4 := q) (p5 := vv) (p6 := nI 3) (by omega) P3 hn hc vc d5
  have P4 := P3.fr g4 (q_f0.of g4 (by decide)) (by decide) (by decide) (by decide) (by decide) (by decide)
  have x1 : q_fr [9, 10, 11, 12] hy u3 := a2.tr b4 (by decide) (fun _ q => q)
  have x2 : q_fr [9, 10, 11, 12] hy v3 := x1.tr d4 (fun _ q => q) (fun _ q => q)
  have x3 : q_fr [9, 10, 11, 12] hy w3 := x2.tr g4 (fun _ q => q) (fun _ q => q)
  have s1 := q8_isDown (N := f + 5) (by omega) P2.2.2.2.1 hn b5 hq
  have s2 := q8_isDown (N := f + 5) (by omega) P3.2.2.2.1 hn d5 hq
  have s3 := q8_isDown (N := f + 5) (by omega) P4.2.2.2.1 hn g5 hq
  unfold fX8_roundsTill s_by
  rw [a1, mm_call_some]
  rw [fX8_roundsTill_L7, if_neg (by decide), if_pos rfl, b1, mm_call_some, b2, mm_call_some, show (0 : Int32) = nI 0 from rfl, show (1 : Int32) = nI 1 from rfl, b3, s1, mm_call_some]
  by_cases z1 : Pd (s_Tm n law ti ap a (fun p => pu p - ho p)) = true
  · refine ⟨u3, ?_, x1⟩
    rw [if_pos z1, if_pos z1, if_neg (by decide)]
    rfl
  · rw [if_neg z1, if_neg z1, if_pos (show (0 : Int32) = nI 0 from rfl), show nI 1 + nI 1 = nI 2 from rfl]
    rw [fX8_roundsTill_L7, if_neg (by decide), if_neg (by decide), if_pos (by decide), d1, mm_call_some, d2, mm_call_some, show (0 : Int32) = nI 0 from rfl, d3, s2, mm_call_some]
    by_cases z2 : Pd (s_Tm n law ti ap b (s_Tm n law ti ap a (fun p => pu p - ho p))) = true
    · refine ⟨v3, ?_, x2⟩
      rw [if_pos z2, if_pos z2, if_neg (by decide)]
      rfl
    · rw [if_neg z2, if_neg z2, if_pos (by decide), show nI 2 + (1 : Int32) = nI 3 from rfl]
      rw [fX8_roundsTill_L7, if_neg (by decide), if_neg (by decide), if_neg (by decide), g1, mm_call_some, g2, mm_call_some, show (0 : Int32) = nI 0 from rfl, g3, s3, mm_call_some]
      by_cases z3 : Pd (s_Tm n law ti ap c (s_Tm n law ti ap b (s_Tm n law ti ap a (fun p => pu p - ho p)))) = true
      · refine ⟨w3, ?_, x3⟩
        rw [if_pos z3, if_pos z3, if_neg (by decide)]
        rfl
      · refine ⟨w3, ?_, x3⟩
        rw [if_neg z3, if_neg z3, if_pos (by decide), show nI 3 + (1 : Int32) = nI 4 from rfl, fX8_roundsTill_L7, if_pos (by decide)]
        rfl
end Q10d
