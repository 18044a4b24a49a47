/-! PURE 10a: partings of the class -/
theorem fa_or (a b : Nat) : nI a ||| nI b = nI (a ||| b) := by
  apply Int32.toBitVec_inj.1
  show BitVec.ofNat 32 a ||| BitVec.ofNat 32 b = BitVec.ofNat 32 (a ||| b)
  apply BitVec.eq_of_getLsbD_eq
  intro i hi
  simp [hi]
/-- hands, seven bits each -/
def s_pk (G : Nat → Nat) : Nat → Nat
  | 0 => 0
  | p + 1 => s_pk G p + G p * 128 ^ p
theorem s_pk_lt {G : Nat → Nat} : ∀ p, (∀ q, q < p → G q ≤ 99) → s_pk G p < 128 ^ p := by
  intro p
  induction p with
  | zero => intro _; exact Nat.one_pos
  | succ p ih =>
    intro h
    have h1 := ih (fun q hq => h q (by omega))
    have h2 : G p * 128 ^ p ≤ 99 * 128 ^ p := Nat.mul_le_mul_right _ (h p (by omega))
    rw [s_pk, Nat.pow_succ]
    omega
theorem qk_shl : ∀ g, g < 128 → ∀ p, p < 4 → nI g <<< (((7 : Int32) * nI p) &&& 31) = nI (g * 128 ^ p) := by decide +kernel
theorem qk_or {G : Nat → Nat} {p : Nat} (hp : p < 4) (h : ∀ q, q < p + 1 → G q ≤ 99) : nI (s_pk G p) ||| (nI (G p) <<< (((7 : Int32) * nI p) &&& 31)) = nI (s_pk G (p + 1)) := by
  have h1 := s_pk_lt (G := G) p (fun q hq => h q (by omega))
  have h2 := h p (by omega)
  rw [qk_shl (G p) (by omega) p hp, fa_or, s_pk]
  congr 1
  rw [show (128 : Nat) ^ p = 2 ^ (7 * p) by rw [show (128 : Nat) = 2 ^ 7 from rfl, ← Nat.pow_mul]] at h1 ⊢
  rw [Nat.mul_comm (G p), Nat.or_comm, ← Nat.two_pow_add_eq_or_of_lt h1, Nat.add_comm]
theorem qk_hand {st p : Nat} (hs : st < 2 ^ 28) (hp : p < 4) : (nI st >>> (((7 : Int32) * nI p) &&& 31)) &&& 127 = nI (st / 128 ^ p % 128) := by
  rcases (show p = 0 ∨ p = 1 ∨ p = 2 ∨ p = 3 by omega) with rfl | rfl | rfl | rfl
  · rw [pk_shrN (by omega) _ 0 (by decide), pk_andN (by omega) 7 (by decide)]
  · rw [pk_shrN (by omega) _ 7 (by decide), pk_andN (by omega) 7 (by decide)]
  · rw [pk_shrN (by omega) _ 14 (by decide), pk_andN (by omega) 7 (by decide)]
  · rw [pk_shrN (by omega) _ 21 (by decide), pk_andN (by omega) 7 (by decide)]
theorem qk_dig {G : Nat → Nat} {n p : Nat} (hn : n ≤ 4) (hp : p < n) (h : ∀ q, q < n → G q ≤ 99) : s_pk G n / 128 ^ p % 128 = G p := by
  rcases (show n = 1 ∨ n = 2 ∨ n = 3 ∨ n = 4 by omega) with rfl | rfl | rfl | rfl
  · have h0 := h 0 (by omega)
    rcases (show p = 0 by omega) with rfl
    simp only [s_pk, Nat.reducePow]; omega
  · have h0 := h 0 (by omega)
    have h1 := h 1 (by omega)
    rcases (show p = 0 ∨ p = 1 by omega) with rfl | rfl <;> simp only [s_pk, Nat.reducePow] <;> omega
  · have h0 := h 0 (by omega)
    have h1 := h 1 (by omega)
    have h2 := h 2 (by omega)
    rcases (show p = 0 ∨ p = 1 ∨ p = 2 by omega) with rfl | rfl | rfl <;> simp only [s_pk, Nat.reducePow] <;> omega
  · have h0 := h 0 (by omega)
    have h1 := h 1 (by omega)
    have h2 := h 2 (by omega)
    have h3 := h 3 (by omega)
    rcases (show p = 0 ∨ p = 1 ∨ p = 2 ∨ p = 3 by omega) with rfl | rfl | rfl | rfl <;> simp only [s_pk, Nat.reducePow] <;> omega
theorem qk_28 {G : Nat → Nat} {n : Nat} (hn : n ≤ 4) (h : ∀ q, q < n → G q ≤ 99) : s_pk G n < 2 ^ 28 := by
  have h1 := s_pk_lt (G := G) n h
  have h2 : 128 ^ n ≤ 128 ^ 4 := Nat.pow_le_pow_right (by decide) hn
  have h3 : (128 : Nat) ^ 4 = 2 ^ 28 := by decide
  omega
/-- the table of one by a way -/
def s_tw (w p : Nat) : Nat := (mm_tbw (4 * w + p)).toNatClampNeg
theorem qk_tw : ∀ j, j < 60 → mm_tbw j = nI (mm_tbw j).toNatClampNeg ∧ (mm_tbw j).toNatClampNeg < 4 := by decide +kernel
def s_wy (n : Nat) : Nat := (mm_ways n).toNatClampNeg
theorem qk_wy : ∀ n, n < 5 → mm_ways n = nI (s_wy n) ∧ 0 < s_wy n ∧ s_wy n ≤ 15 := by decide +kernel
/-- all at their tables: hands behind a round -/
def s_T (n law ti : Nat) (ap sc G : Nat → Nat) : Nat → Nat := fun p => G p - s_pay n law ti ap G (s_at sc (sc p)) p
theorem s_T_congr {n law ti : Nat} {ap sc sc' G G' : Nat → Nat} (hs : ∀ q, q < n → sc q = sc' q) (hg : ∀ q, q < n → G q = G' q) : ∀ p, p < n → s_T n law ti ap sc G p = s_T n law ti ap sc' G' p := by
  intro p hp
  unfold s_T
  rw [hg p hp, hs p hp, s_pay_congr (sel := s_at sc (sc' p)) (sel' := s_at sc' (sc' p)) hp (fun q hq => by unfold s_at; rw [hs q hq]) hg]
section Q10
variable {N n R law ti : Nat} {pu ap ho wo : Nat → Nat} {se : Nat → Nat → Nat} {hx hy : mm_M}
theorem q1_packed {G : Nat → Nat} (hN : 100 ≤ N) (P : q_PX n law ti pu ap ho wo hx) (h4 : n ≤ 4) (hg : ∀ p, p < n → hx 26 p = nI (G p) ∧ G p ≤ 99) : fX1_packed N hx = some (hx, nI (s_pk G n)) := by
  have key : ∀ (k : mm_M → Int32 → Option (mm_M × Int32)) j fuel i, i + j = n → j < fuel → fX1_packed_L4 N k fuel hx (nI (s_pk G i)) (nI i) = k hx (nI (s_pk G n)) := by
    intro k j
    induction j with
    | zero =>
      intro fuel i hi hfu
      obtain ⟨f, rfl⟩ : ∃ f, fuel = f + 1 := ⟨fuel - 1, by omega⟩
      rw [fX1_packed_L4, P.2.2.2.1, if_pos ((qn_le (by omega) (by omega)).mpr (by omega)), show i = n by omega]
    | succ j ih =>
      intro fuel i hi hfu
      obtain ⟨f, rfl⟩ : ∃ f, fuel = f + 1 := ⟨fuel - 1, by omega⟩
      rw [fX1_packed_L4, P.2.2.2.1, if_neg (fun q => absurd ((qn_le (by omega) (by omega)).mp q) (by omega)), if_pos (qn_gd (by omega) (by omega)), qn_c (by omega), (hg i (by omega)).1, qk_or (by omega) (fun q hq => (hg q (by omega)).2), mm_let, nI_1]
      exact ih f (i + 1) (by omega) (by omega)
  exact key (fun h v => some (h, v)) n N 0 (by omega) (by omega)
theorem q1_unpack {G : Nat → Nat} (hN : 100 ≤ N) (P : q_PX n law ti pu ap ho wo hx) (h4 : n ≤ 4) (hg : ∀ p, p < n → G p ≤ 99) :
    ∃ h', fX1_unpack N hx (nI (s_pk G n)) = some (h', ()) ∧ q_fr [26] hx h' ∧ ∀ p, p < n → h' 26 p = nI (G p) := by
  have key : ∀ j i h, i + j = n → q_fr [26] hx h → (∀ p, p < i → h 26 p = nI (G p)) →
      ∃ h', (∀ k fuel, j < fuel → fX1_unpack_L2 N (nI (s_pk G n)) k fuel h (nI i) = k h') ∧ q_fr [26] hx h' ∧ ∀ p, p < n → h' 26 p = nI (G p) := by
    intro j
    induction j with
    | zero =>
      intro i h hi hf hv
      refine ⟨h, ?_, hf, fun p hp => hv p (by omega)⟩
      intro k fuel hfu
      obtain ⟨f, rfl⟩ : ∃ f, fuel = f + 1 := ⟨fuel - 1, by omega⟩
      rw [fX1_unpack_L2, hf 6 (by decide), P.2.2.2.1, if_pos ((qn_le (by omega) (by omega)).mpr (by omega))]
    | succ j ih =>
      intro i h hi hf hv
      obtain ⟨h', e1, e2⟩ := ih (i + 1) (mm_up h 26 i (nI (G i))) (by omega) (hf.tr (q_fr.up (S := [26]) (by simp)) (fun _ q => q) (fun _ q => q)) (by
        intro p hp
        rw [q_up]
        by_cases e : p = i
        · simp [e]
        · simp [e, hv p (by omega)])
      refine ⟨h', ?_, e2⟩
      intro k fuel hfu
      obtain ⟨f, rfl⟩ : ∃ f, fuel = f + 1 := ⟨fuel - 1, by omega⟩
      have eh : fX1_handIn N h (nI (s_pk G n)) (nI i) = some (h, nI (G i)) := by
        unfold fX1_handIn
        rw [qk_hand (qk_28 h4 hg) (by omega), qk_dig h4 (by omega) hg]
      rw [fX1_unpack_L2, hf 6 (by decide), P.2.2.2.1, if_neg (fun q => absurd ((qn_le (by omega) (by omega)).mp q) (by omega)), eh, mm_call_some, if_pos (qn_gd (by omega) (by omega)), mm_let, qn_c (by omega), nI_1]
      exact e1 k f (by omega)
  obtain ⟨h', e1, e2, e3⟩ := key n 0 hx (by omega) q_fr.rf (fun p hp => absurd hp (Nat.not_lt_zero p))
  refine ⟨h', ?_, e2, e3⟩
  unfold fX1_unpack
  rw [show (0 : Int32) = nI 0 from rfl, e1 _ N (by omega)]
theorem q1_p12 {w t : Nat} (hN : 100 ≤ N) (P : q_PX n law ti pu ap ho wo hx) (h4 : n ≤ 4) (hw : w < 15) (ht : t < 4) :
    ∃ m, m < 64 ∧ (∀ q, q < 6 → m.testBit q = decide (q < n ∧ s_tw w q = t)) ∧ ∀ k : mm_M → Int32 → Option (mm_M × Unit), fX1_pay_L12 N (nI w) (nI t) k N hx 0 0 = k hx (nI m) := by
  have key : ∀ j i m, i + j = n → m < 64 → (∀ q, q < 6 → m.testBit q = decide (q < i ∧ s_tw w q = t)) →
      ∃ m', m' < 64 ∧ (∀ q, q < 6 → m'.testBit q = decide (q < n ∧ s_tw w q = t)) ∧ ∀ (k : mm_M → Int32 → Option (mm_M × Unit)) fuel, j < fuel → fX1_pay_L12 N (nI w) (nI t) k fuel hx (nI m) (nI i) = k hx (nI m') := by
    intro j
    induction j with
    | zero =>
      intro i m hi hm hb
      have hi : i = n := by omega
      subst hi
      refine ⟨m, hm, hb, ?_⟩
      intro k fuel hfu
      obtain ⟨f, rfl⟩ : ∃ f, fuel = f + 1 := ⟨fuel - 1, by omega⟩
      rw [fX1_pay_L12, P.2.2.2.1, if_pos ((qn_le (by omega) (by omega)).mpr (by omega))]
    | succ j ih =>
      intro i m hi hm hb
      have tw := qk_tw (4 * w + i) (by omega)
      have e4 : nI w * 4 + nI i = nI (4 * w + i) := by
        rw [show (4 : Int32) = nI 4 from rfl, qn_mul, nI_add, Nat.mul_comm]
      have et : (mm_tbw (4 * w + i) = nI t) ↔ s_tw w i = t := by
        rw [tw.1]
        exact qn_eq (by omega) (by omega)
      have st : ∀ (k : mm_M → Int32 → Option (mm_M × Unit)) f, fX1_pay_L12 N (nI w) (nI t) k (f + 1) hx (nI m) (nI i) = if s_tw w i = t then fX1_pay_L12 N (nI w) (nI t) k f hx (nI (m ||| 1 <<< i)) (nI (i + 1)) else fX1_pay_L12 N (nI w) (nI t) k f hx (nI m) (nI (i + 1)) := by
        intro k f
        rw [fX1_pay_L12, P.2.2.2.1, if_neg (fun q => absurd ((qn_le (by omega) (by omega)).mp q) (by omega)), e4, if_pos (qn_gd (by omega) (by omega)), qn_c (by omega), qb_or m hm i (by omega), nI_1]
        simp only [et, mm_let]
      by_cases z : s_tw w i = t
      · obtain ⟨m', a1, a2, a3⟩ := ih (i + 1) (m ||| 1 <<< i) (by omega) (qb_or_lt m hm i (by omega)) (by
          intro q hq
          rw [qb_or_bit m hm i (by omega) q hq, hb q hq]
          by_cases e : q = i
          · subst e; simp [z]
          · have : (q < i + 1) ↔ q < i := by omega
            simp [e, this])
        refine ⟨m', a1, a2, ?_⟩
        intro k fuel hfu
        obtain ⟨f, rfl⟩ : ∃ f, fuel = f + 1 := ⟨fuel - 1, by omega⟩
        rw [st, if_pos z]
        exact a3 k f (by omega)
      · obtain ⟨m', a1, a2, a3⟩ := ih (i + 1) m (by omega) hm (by
          intro q hq
          rw [hb q hq]
          by_cases e : q = i
          · subst e; simp [z]
          · have : (q < i + 1) ↔ q < i := by omega
            simp [this])
        refine ⟨m', a1, a2, ?_⟩
        intro k fuel hfu
        obtain ⟨f, rfl⟩ : ∃ f, fuel = f + 1 := ⟨fuel - 1, by omega⟩
        rw [st, if_neg z]
        exact a3 k f (by omega)
  obtain ⟨m', a1, a2, a3⟩ := key n 0 0 (by omega) (by omega) (fun q hq => by simp)
  exact ⟨m', a1, a2, fun k => a3 k N (by omega)⟩
theorem q1_p2_L {w : Nat} {G : Nat → Nat} (hN : 100 ≤ N) (P : q_PX n law ti pu ap ho wo hx) (h4 : n ≤ 4) (hw : w < 15) (hg : ∀ p, p < n → hx 26 p = nI (G p) ∧ G p ≤ 99) :
    ∀ j t h, t + j = 4 → q_fr [11] hx h → (∀ p, p < n → s_tw w p < t → h 11 p = nI (s_due n law ti ap G (s_at (fun q => s_tw w q + 1) (s_tw w p + 1)) p)) →
      ∃ h', (∀ k fuel, j < fuel → fX1_pay_L2 N (nI w) k fuel h (nI t) = k h') ∧ q_fr [11] hx h' ∧ ∀ p, p < n → h' 11 p = nI (s_due n law ti ap G (s_at (fun q => s_tw w q + 1) (s_tw w p + 1)) p) := by
  intro j
  induction j with
  | zero =>
    intro t h hi hf hv
    refine ⟨h, ?_, hf, fun p hp => hv p hp (by have := (qk_tw (4 * w + p) (by omega)).2; unfold s_tw; omega)⟩
    intro k fuel hfu
    obtain ⟨f, rfl⟩ : ∃ f, fuel = f + 1 := ⟨fuel - 1, by omega⟩
    have d1 : (4 : Int32) ≤ nI t := (qn_le (a := 4) (b := t) (by omega) (by omega)).mpr (by omega)
    rw [fX1_pay_L2, if_pos d1]
  | succ j ih =>
    intro t h hi hf hv
    have P1 := P.fr hf (by decide) (by decide) (by decide) (by decide) (by decide)
    obtain ⟨m, m1, m2, m3⟩ := q1_p12 (N := N) (w := w) (t := t) hN P1 h4 hw (by omega)
    obtain ⟨h1, c1, c2, c3, c4⟩ := q2_charge (N := N) (c1 := 26) (m := m) (g := G) hN (by decide) P1.2.2.2.1 P1.2.2.2.2.1 P1.2.2.2.2.2.1 P.1 P.2.1 P.2.2.1 (fun p hp => P1.2.2.2.2.2.2.2.1 p (by omega)) (fun p hp => by rw [hf 26 (by decide), (hg p hp).1]) (fun p hp => by have := (hg p hp).2; omega) m1
    obtain ⟨h', e1, e2⟩ := ih (t + 1) h1 (by omega) (hf.tr c2 (fun _ q => q) (fun _ q => q)) (by
      intro p hp hlt
      by_cases z : s_tw w p = t
      · have b : m.testBit p = true := by rw [m2 p (by omega)]; simp [hp, z]
        rw [c3 p hp b]
        congr 1
        refine s_due_congr (fun q hq => ?_) (fun _ _ => rfl)
        rw [m2 q (by omega), s_at, z]
        simp [hq]
      · rw [c4 p (by omega) (by
          rintro ⟨-, b⟩
          rw [m2 p (by omega)] at b
          simp [z] at b)]
        exact hv p hp (by omega))
    refine ⟨h', ?_, e2⟩
    intro k fuel hfu
    obtain ⟨f, rfl⟩ : ∃ f, fuel = f + 1 := ⟨fuel - 1, by omega⟩
    have d1 : ¬ (4 : Int32) ≤ nI t := fun q => absurd ((qn_le (a := 4) (b := t) (by omega) (by omega)).mp q) (by omega)
    rw [fX1_pay_L2, if_neg d1, m3, c1, mm_call_some, nI_1]
    exact e1 k f (by omega)
theorem q1_pay {w : Nat} {G : Nat → Nat} (hN : 100 ≤ N) (P : q_PX n law ti pu ap ho wo hx) (h4 : n ≤ 4) (hw : w < 15) (hg : ∀ p, p < n → hx 26 p = nI (G p) ∧ G p ≤ 99) :
    ∃ h', fX1_pay N hx (nI w) = some (h', ()) ∧ q_fr [11, 26] hx h' ∧ ∀ p, p < n → h' 26 p = nI (s_T n law ti ap (fun q => s_tw w q + 1) G p) ∧ s_T n law ti ap (fun q => s_tw w q + 1) G p ≤ 99 := by
  have hn := P.1
  obtain ⟨h1, a1, a2, a3⟩ := q1_p2_L (N := N) hN P h4 hw hg 4 0 hx rfl q_fr.rf (fun p _ h => absurd h (Nat.not_lt_zero _))
  have P1 := P.fr a2 (by decide) (by decide) (by decide) (by decide) (by decide)
  have key : ∀ j i h, i + j = n → q_fr [26] h1 h → (∀ p, p < i → h 26 p = nI (s_T n law ti ap (fun q => s_tw w q + 1) G p)) → (∀ p, i ≤ p → h 26 p = h1 26 p) →
      ∃ h', (∀ k fuel, j < fuel → fX1_pay_L71 N k fuel h (nI i) = k h') ∧ q_fr [26] h1 h' ∧ ∀ p, p < n → h' 26 p = nI (s_T n law ti ap (fun q => s_tw w q + 1) G p) := by
    intro j
    induction j with
    | zero =>
      intro i h hi hf hv hw2
      refine ⟨h, ?_, hf, fun p hp => hv p (by omega)⟩
      intro k fuel hfu
      obtain ⟨f, rfl⟩ : ∃ f, fuel = f + 1 := ⟨fuel - 1, by omega⟩
      rw [fX1_pay_L71, hf 6 (by decide), P1.2.2.2.1, if_pos ((qn_le (by omega) (by omega)).mpr (by omega))]
    | succ j ih =>
      intro i h hi hf hv hw2
      have gi := (hg i (by omega)).2
      have w1 := s_due_le (n := n) (law := law) (ti := ti) (ap := ap) (g := G) (sel := s_at (fun q => s_tw w q + 1) (s_tw w i + 1)) (p := i) (by omega) (fun q hq => (P.2.2.2.2.2.2.2.1 q (by omega)).2)
      have v26 : h 26 i = nI (G i) := by rw [hw2 i (Nat.le_refl _), a2 26 (by decide), (hg i (by omega)).1]
      have v11 : h 11 i = nI (s_due n law ti ap G (s_at (fun q => s_tw w q + 1) (s_tw w i + 1)) i) := by rw [hf 11 (by decide), a3 i (by omega)]
      have vx : nI (G i) - (if nI (G i) < nI (s_due n law ti ap G (s_at (fun q => s_tw w q + 1) (s_tw w i + 1)) i) then nI (G i) else nI (s_due n law ti ap G (s_at (fun q => s_tw w q + 1) (s_tw w i + 1)) i)) = nI (s_T n law ti ap (fun q => s_tw w q + 1) G i) := by
        simp only [qn_lt (show G i < 100000 by omega) (show s_due n law ti ap G (s_at (fun q => s_tw w q + 1) (s_tw w i + 1)) i < 100000 by omega), s_T, s_pay]
        by_cases z : G i < s_due n law ti ap G (s_at (fun q => s_tw w q + 1) (s_tw w i + 1)) i
        · rw [if_pos z, Nat.min_eq_right (by omega), qn_sub (Nat.le_refl _)]
        · rw [if_neg z, Nat.min_eq_left (by omega), qn_sub (by omega)]
      obtain ⟨h', e1, e2⟩ := ih (i + 1) (mm_up h 26 i (nI (s_T n law ti ap (fun q => s_tw w q + 1) G i))) (by omega) (hf.tr (q_fr.up (S := [26]) (by simp)) (fun _ q => q) (fun _ q => q)) (by
        intro p hp
        rw [q_up]
        by_cases e : p = i
        · simp [e]
        · simp [e, hv p (by omega)]) (by
        intro p hp
        rw [q_up, if_pos rfl, if_neg (by omega)]
        exact hw2 p (by omega))
      refine ⟨h', ?_, e2⟩
      intro k fuel hfu
      obtain ⟨f, rfl⟩ : ∃ f, fuel = f + 1 := ⟨fuel - 1, by omega⟩
      rw [fX1_pay_L71, hf 6 (by decide), P1.2.2.2.1, if_neg (fun q => absurd ((qn_le (by omega) (by omega)).mp q) (by omega)), if_pos (qn_gd (by omega) (by omega)), mm_let, qn_c (by omega), v26, v11, vx, nI_1]
      exact e1 k f (by omega)
  obtain ⟨h2, b1, b2, b3⟩ := key n 0 h1 (by omega) q_fr.rf (fun p hp => absurd hp (Nat.not_lt_zero p)) (fun _ _ => rfl)
  refine ⟨h2, ?_, a2.tr b2 (by decide) (by decide), fun p hp => ⟨b3 p hp, ?_⟩⟩
  · unfold fX1_pay
    rw [show (0 : Int32) = nI 0 from rfl, a1 _ N (by omega), b1 _ N (by omega)]
  · have := (hg p hp).2
    unfold s_T
    omega
end Q10
