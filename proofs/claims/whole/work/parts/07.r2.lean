/-! PURE 11b: ROUNDS, as the class understands them; type and wipe -/
section Q11b
variable {N n R law ti : Nat} {pu ap ho wo : Nat → Nat} {se : Nat → Nat → Nat} {hx hy : mm_M}
/-- seats and groups so far: all of the rounds ahead of r, in it those ahead of i -/
def q_gr (n : Nat) (se : Nat → Nat → Nat) (r i : Nat) (h : mm_M) : Prop :=
  (∀ r' q, ((r' < r ∧ q < n) ∨ (r' = r ∧ q < i)) → h 13 (6 * r' + q) = q_ix (se r' q)) ∧ ∀ r', r' < 8 → ∀ t, t < 6 → ∃ m, m < 64 ∧ h 14 (6 * r' + t) = nI m ∧ ∀ q, q < 6 → m.testBit q = decide (((r' < r ∧ q < n) ∨ (r' = r ∧ q < i)) ∧ se r' q = t + 1)
theorem q_gr_next {r : Nat} {h : mm_M} (g : q_gr n se r n h) : q_gr n se (r + 1) 0 h := by
  have e : ∀ r' q, ((r' < r + 1 ∧ q < n) ∨ (r' = r + 1 ∧ q < 0)) ↔ ((r' < r ∧ q < n) ∨ (r' = r ∧ q < n)) := by
    intro r' q
    omega
  refine ⟨fun r' q hq => g.1 r' q ((e r' q).mp hq), fun r' hr t ht => ?_⟩
  obtain ⟨m, h1, h2, h3⟩ := g.2 r' hr t ht
  exact ⟨m, h1, h2, fun q hq => by rw [h3 q hq]; simp only [e]⟩
theorem q0_seat {r p x : Nat} (hr : r < 8) (hp : p < n) (hn : n ≤ 6) (hx1 : x = 45 ∨ (48 ≤ x ∧ x ≤ 53)) (hs : se r p = if x = 45 then 0 else x - 47) (g : q_gr n se r p hx) :
    ∃ h', fX0_seat N hx (nI r) (nI p) (nI x) = some (h', ()) ∧ q_fr [13, 14] hx h' ∧ q_gr n se r (p + 1) h' := by
  have gt : mm_gd (nI r * 6 + nI p) 48 = true := by rw [qn_ix]; exact qn_gd (by omega) (by omega)
  have ct : (nI r * 6 + nI p).toNatClampNeg = 6 * r + p := by rw [qn_ix]; exact qn_c (by omega)
  have tab : ∀ r' q v, ((r' < r ∧ q < n) ∨ (r' = r ∧ q < p + 1)) → v = q_ix (se r p) → mm_up hx 13 (6 * r + p) v 13 (6 * r' + q) = q_ix (se r' q) := by
    intro r' q v hq hv
    rw [q_up, if_pos rfl]
    by_cases e : r' = r ∧ q = p
    · obtain ⟨rfl, rfl⟩ := e
      rw [if_pos rfl, hv]
    · rw [if_neg (by omega)]
      exact g.1 r' q (by omega)
  unfold fX0_seat
  simp only [show (45 : Int32) = nI 45 from rfl, qn_eq (show x < 100000 by omega) (show 45 < 100000 by omega)]
  by_cases e45 : x = 45
  · rw [if_pos e45] at hs
    refine ⟨mm_up hx 13 (6 * r + p) (-1), ?_, q_fr.up (by decide), ⟨fun r' q hq => tab r' q _ hq (by rw [hs, q_ix0]), ?_⟩⟩
    · rw [if_pos e45, if_pos gt, mm_let, ct]
      have : fX7_isIn N (mm_up hx 13 (6 * r + p) (-1)) (-1) 0 5 = some (mm_up hx 13 (6 * r + p) (-1), 0) := by
        unfold fX7_isIn
        rw [if_pos (by decide)]
      rw [this, mm_call_some, if_pos rfl]
    · intro r' hr' t ht
      obtain ⟨m, h1, h2, h3⟩ := g.2 r' hr' t ht
      refine ⟨m, h1, by rw [mm_up_ne _ _ _ (by decide), h2], fun q hq => ?_⟩
      rw [h3 q hq]
      by_cases e : r' = r ∧ q = p
      · obtain ⟨rfl, rfl⟩ := e
        simp [hs]
      · have : ((r' < r ∧ q < n) ∨ (r' = r ∧ q < p + 1)) ↔ ((r' < r ∧ q < n) ∨ (r' = r ∧ q < p)) := by omega
        simp only [this]
  · rw [if_neg e45] at hs
    have hx2 : 48 ≤ x ∧ x ≤ 53 := by omega
    obtain ⟨m, m1, m2, m3⟩ := g.2 r hr (x - 48) (by omega)
    have g2 : mm_gd (nI r * 6 + nI (x - 48)) 48 = true := by rw [qn_ix]; exact qn_gd (by omega) (by omega)
    have c2 : (nI r * 6 + nI (x - 48)).toNatClampNeg = 6 * r + (x - 48) := by rw [qn_ix]; exact qn_c (by omega)
    refine ⟨mm_up (mm_up hx 13 (6 * r + p) (nI (x - 48))) 14 (6 * r + (x - 48)) (nI (m ||| 1 <<< p)), ?_, (q_fr.up (S := [13, 14]) (by decide)).tr (q_fr.up (S := [13, 14]) (by decide)) (fun _ q => q) (fun _ q => q), ⟨fun r' q hq => by
      rw [mm_up_ne _ _ _ (by decide)]
      exact tab r' q _ hq (by rw [hs, show x - 47 = (x - 48) + 1 by omega, q_ixs]), ?_⟩⟩
    · rw [if_neg e45, show (48 : Int32) = nI 48 from rfl, qn_sub hx2.1, mm_let, if_pos gt, mm_let, ct, show (0 : Int32) = nI 0 from rfl, show (5 : Int32) = nI 5 from rfl, q7_inN (by omega) (by omega) (by omega), mm_call_some, if_pos (show 0 ≤ x - 48 ∧ x - 48 ≤ 5 by omega), if_neg (by decide), if_pos g2, mm_let, c2, mm_up_ne _ _ _ (by decide), m2, qb_or m m1 p (by omega)]
    · intro r' hr' t ht
      rw [q_up, if_pos rfl]
      by_cases e : 6 * r' + t = 6 * r + (x - 48)
      · obtain ⟨rfl, rfl⟩ : r' = r ∧ t = x - 48 := by omega
        refine ⟨m ||| 1 <<< p, qb_or_lt m m1 p (by omega), by rw [if_pos rfl], fun q hq => ?_⟩
        rw [qb_or_bit m m1 p (by omega) q hq, m3 q hq]
        by_cases e2 : q = p
        · subst e2
          have : x - 47 = x - 48 + 1 := by omega
          simp [hs, this]
        · have e3 : (q < p + 1) ↔ q < p := by omega
          simp only [e3, e2, decide_false, Bool.or_false]
      · obtain ⟨m', h1, h2, h3⟩ := g.2 r' hr' t ht
        refine ⟨m', h1, by rw [if_neg e, mm_up_ne _ _ _ (by decide), h2], fun q hq => ?_⟩
        rw [h3 q hq]
        by_cases e2 : r' = r ∧ q = p
        · obtain ⟨rfl, rfl⟩ := e2
          have : ¬ x - 47 = t + 1 := by omega
          simp [hs, this]
        · have : ((r' < r ∧ q < n) ∨ (r' = r ∧ q < p + 1)) ↔ ((r' < r ∧ q < n) ∨ (r' = r ∧ q < p)) := by omega
          simp only [this]
theorem q0_u57_L {p2 : Int32} :
    ∀ j i h, i + j = 48 → q_fr [14] hx h → (∀ x, x < i → h 14 x = nI 0) →
      ∃ h', (∀ k fuel, j < fuel → fX0_understand_L57 N 3 p2 k fuel h (nI i) = k h') ∧ q_fr [14] hx h' ∧ ∀ x, x < 48 → h' 14 x = nI 0 := by
  intro j
  induction j with
  | zero =>
    intro i h hi hf hv
    refine ⟨h, ?_, hf, fun p hp => hv p (by omega)⟩
    intro k fuel hfu
    obtain ⟨f, rfl⟩ : ∃ f, fuel = f + 1 := ⟨fuel - 1, by omega⟩
    have d1 : (48 : Int32) ≤ nI i := (qn_le (a := 48) (b := i) (by omega) (by omega)).mpr (by omega)
    rw [fX0_understand_L57, if_pos d1]
  | succ j ih =>
    intro i h hi hf hv
    obtain ⟨h', e1, e2⟩ := ih (i + 1) (mm_up h 14 i 0) (by omega) (hf.tr (q_fr.up (S := [14]) (by simp)) (fun _ q => q) (fun _ q => q)) (by
      intro x hx'
      rw [q_up]
      by_cases e : x = i
      · simp [e, nI_0]
      · simp [e, hv x (by omega)])
    refine ⟨h', ?_, e2⟩
    intro k fuel hfu
    obtain ⟨f, rfl⟩ : ∃ f, fuel = f + 1 := ⟨fuel - 1, by omega⟩
    have d1 : ¬ (48 : Int32) ≤ nI i := fun q => absurd ((qn_le (a := 48) (b := i) (by omega) (by omega)).mp q) (by omega)
    rw [fX0_understand_L57, if_neg d1, if_pos (qn_gd (by omega) (by omega)), mm_let, qn_c (by omega), nI_1]
    exact e1 k f (by omega)
theorem q0_u89_L {l r : Nat} {b : Nat → Nat} (hn : n ≤ 6) (hl : l ≤ 60) (hb : ∀ i, i < l → hx 5 i = nI (b i) ∧ b i < 256) (hr : r < t_R n l b) :
    ∀ j i h, i + j = n → q_fr [13, 14] hx h → q_gr n (t_se n b) r i h →
      ∃ h', (∀ k fuel, j < fuel → fX0_understand_L89 N 3 (nI n) (nI r) k fuel h (nI i) = k h') ∧ q_fr [13, 14] hx h' ∧ q_gr n (t_se n b) r n h' := by
  obtain ⟨r8, rl, rd⟩ := t_R_spec (n := n) (l := l) (b := b)
  intro j
  induction j with
  | zero =>
    intro i h hi hf hg
    have hi : i = n := by omega
    subst hi
    refine ⟨h, ?_, hf, hg⟩
    intro k fuel hfu
    obtain ⟨f, rfl⟩ : ∃ f, fuel = f + 1 := ⟨fuel - 1, by omega⟩
    rw [fX0_understand_L89, if_pos ((qn_le (by omega) (by omega)).mpr (by omega))]
  | succ j ih =>
    intro i h hi hf hg
    have p1 := rl r hr i (by omega)
    have p2 := rd r hr i (by omega)
    obtain ⟨h1, a1, a2, a3⟩ := q0_seat (N := N) (r := r) (p := i) (x := b (r * (n + 1) + i)) (by omega) (by omega) hn p2 rfl hg
    obtain ⟨h', e1, e2⟩ := ih (i + 1) h1 (by omega) (hf.tr a2 (fun _ q => q) (fun _ q => q)) a3
    refine ⟨h', ?_, e2⟩
    intro k fuel hfu
    obtain ⟨f, rfl⟩ : ∃ f, fuel = f + 1 := ⟨fuel - 1, by omega⟩
    have ei : nI r * (nI n + 1) + nI i = nI (r * (n + 1) + i) := by rw [nI_1, qn_mul, nI_add]
    rw [fX0_understand_L89, if_neg (fun q => absurd ((qn_le (by omega) (by omega)).mp q) (by omega)), ei, if_pos (qn_gd (show r * (n + 1) + i < mx_tl 3 by unfold mx_tl; simp; omega) (by unfold mx_tl; simp)), qn_c (by omega), hf 5 (by decide), (hb _ p1).1, a1, mm_call_some, nI_1]
    exact e1 k f (by omega)
theorem q0_u78_L {l : Nat} {b : Nat → Nat} (hN : 100 ≤ N) (hn : n ≤ 6) (hl : l ≤ 60) (hb : ∀ i, i < l → hx 5 i = nI (b i) ∧ b i < 256) (h9 : hx 12 9 = nI (t_R n l b)) :
    ∀ j r h, r + j = t_R n l b → q_fr [13, 14] hx h → q_gr n (t_se n b) r 0 h →
      ∃ h', (∀ k fuel, j < fuel → fX0_understand_L78 N 3 (nI n) k fuel h (nI r) = k h') ∧ q_fr [13, 14] hx h' ∧ q_gr n (t_se n b) (t_R n l b) 0 h' := by
  obtain ⟨r8, rl, rd⟩ := t_R_spec (n := n) (l := l) (b := b)
  intro j
  induction j with
  | zero =>
    intro r h hi hf hg
    have hi : r = t_R n l b := by omega
    subst hi
    refine ⟨h, ?_, hf, hg⟩
    intro k fuel hfu
    obtain ⟨f, rfl⟩ : ∃ f, fuel = f + 1 := ⟨fuel - 1, by omega⟩
    rw [fX0_understand_L78, hf 12 (by decide), h9, if_pos ((qn_le (by omega) (by omega)).mpr (by omega))]
  | succ j ih =>
    intro r h hi hf hg
    obtain ⟨h1, a1, a2, a3⟩ := q0_u89_L (N := N) (hx := h) (r := r) hn hl (fun i hi => by rw [hf 5 (by decide)]; exact hb i hi) (by omega) n 0 h (by omega) q_fr.rf hg
    obtain ⟨h', e1, e2⟩ := ih (r + 1) h1 (by omega) (hf.tr a2 (fun _ q => q) (fun _ q => q)) (q_gr_next a3)
    refine ⟨h', ?_, e2⟩
    intro k fuel hfu
    obtain ⟨f, rfl⟩ : ∃ f, fuel = f + 1 := ⟨fuel - 1, by omega⟩
    rw [fX0_understand_L78, hf 12 (by decide), h9, if_neg (fun q => absurd ((qn_le (by omega) (by omega)).mp q) (by omega)), show (0 : Int32) = nI 0 from rfl, a1 _ N (by omega), nI_1]
    exact e1 k f (by omega)
theorem q0_und {l : Nat} {b : Nat → Nat} (hN : 100 ≤ N) (hn : n ≤ 6) (hl : l ≤ 60) (h5 : hx 6 5 = nI n) (hl1 : hx 3 1 = nI l) (hb : ∀ i, i < l → hx 5 i = nI (b i) ∧ b i < 256) :
    ∃ h', fX0_understand N 3 hx = some (h', ()) ∧ q_fr [12, 13, 14] hx h' ∧ h' 12 10 = q_ix (t_fault n 8 true b l) ∧ q_EX n (t_R n l b) (t_se n b) h' := by
  obtain ⟨r8, rl, rd⟩ := t_R_spec (n := n) (l := l) (b := b)
  have e0 := q6_fault (N := N) (P := 3) (w := n) (most := 8) (tab := true) (l := l) (b := b) (hx := hx) hN hn (by decide) (by simpa [mx_tl] using hl) hl1 hb
  have hfl := t_fault_le (w := n) (most := 8) (tab := true) (b := b) (l := l)
  have key : ∀ h, q_fr [12] hx h → h 12 10 = q_ix (t_fault n 8 true b l) → h 12 9 = nI (t_R n l b) →
      ∃ h', (∀ k, fX0_understand_L57 N 3 (nI n) (fun h29 => fX0_understand_L78 N 3 (nI n) k N h29 (nI 0)) N h (nI 0) = k h') ∧ q_fr [12, 13, 14] hx h' ∧ h' 12 10 = q_ix (t_fault n 8 true b l) ∧ q_EX n (t_R n l b) (t_se n b) h' := by
    intro h hf v10 v9
    obtain ⟨h1, a1, a2, a3⟩ := q0_u57_L (N := N) (p2 := nI n) 48 0 h rfl q_fr.rf (fun x hx' => absurd hx' (Nat.not_lt_zero x))
    obtain ⟨h2, b1, b2, b3⟩ := q0_u78_L (N := N) (hx := h1) (n := n) (l := l) (b := b) hN hn hl (fun i hi => by rw [a2 5 (by decide), hf 5 (by decide)]; exact hb i hi) (by rw [a2 12 (by decide), v9]) (t_R n l b) 0 h1 (by omega) q_fr.rf ⟨fun r' q hq => absurd hq (by omega), fun r' hr t ht => ⟨0, by decide, a3 _ (by omega), fun q hq => by
      have : ¬ (((r' < 0 ∧ q < n) ∨ (r' = 0 ∧ q < 0)) ∧ t_se n b r' q = t + 1) := by omega
      simp [this]⟩⟩
    refine ⟨h2, fun k => ?_, (hf.tr a2 (U := [12, 13, 14]) (by decide) (by decide)).tr b2 (fun _ q => q) (by decide), by rw [b2 12 (by decide), a2 12 (by decide), v10], r8, by rw [b2 12 (by decide), a2 12 (by decide), v9], ?_, ?_⟩
    · rw [a1 _ N (by omega), b1 _ N (by omega)]
    · intro r hr p hp
      refine ⟨b3.1 r p (Or.inl ⟨hr, hp⟩), ?_⟩
      have := rd r hr p hp
      unfold t_se
      split <;> omega
    · intro r hr t ht
      obtain ⟨m, m1, m2, m3⟩ := b3.2 r (by omega) t ht
      refine ⟨m, m1, m2, fun p hp => ?_⟩
      rw [m3 p hp]
      have : ((r < t_R n l b ∧ p < n) ∨ (r = t_R n l b ∧ p < 0)) ↔ p < n := by omega
      simp only [this]
  unfold fX0_understand
  have e1 : fX6_faultInRows N 3 hx (nI n) (8 : Int32) (1 : Int32) = some (hx, q_ix (t_fault n 8 true b l)) := e0
  rw [h5, e1, mm_call_some, mm_let]
  have v10 : ∀ z, mm_up (mm_up hx 12 10 (q_ix (t_fault n 8 true b l))) 12 9 z 12 10 = q_ix (t_fault n 8 true b l) := fun z => by simp [q_up]
  have v66 : mm_up hx 12 10 (q_ix (t_fault n 8 true b l)) 12 10 = q_ix (t_fault n 8 true b l) := by simp [q_up]
  have vl : mm_up hx 12 10 (q_ix (t_fault n 8 true b l)) 3 1 = nI l := by rw [mm_up_ne _ _ _ (by decide), hl1]
  have dn : ¬ nI n + (1 : Int32) = 0 := by
    rw [nI_1]
    exact fun q => absurd ((qn_e0 (by omega)).mp q) (by omega)
  rw [v66, vl, if_pos dn]
  have fu : ∀ z, q_fr [12] hx (mm_up (mm_up hx 12 10 (q_ix (t_fault n 8 true b l))) 12 9 z) := fun z => (q_fr.up (S := [12]) (by simp)).tr (q_fr.up (S := [12]) (by simp)) (fun _ q => q) (fun _ q => q)
  have fu2 : ∀ z y, q_fr [12] hx (mm_up (mm_up (mm_up hx 12 10 (q_ix (t_fault n 8 true b l))) 12 9 z) 12 9 y) := fun z y => (fu z).tr (q_fr.up (S := [12]) (by simp)) (fun _ q => q) (fun _ q => q)
  simp only [q_ix_m1 (show t_fault n 8 true b l < 100000 by omega), qn_e0 (show n < 100000 by omega)]
  by_cases hn0 : n = 0
  · have hR : t_R n l b = 0 := if_pos hn0
    by_cases z : t_fault n 8 true b l = 0
    · obtain ⟨h', e1, e2⟩ := key _ (fu2 ((nI l + 1) / (nI n + 1)) 0) (by simp [q_up]) (by rw [hR]; simp [q_up, nI_0])
      refine ⟨h', ?_, e2⟩
      rw [if_pos z, mm_let, if_pos hn0, mm_let]
      exact e1 (fun h => some (h, ()))
    · obtain ⟨h', e1, e2⟩ := key _ (fu2 0 0) (by simp [q_up]) (by rw [hR]; simp [q_up, nI_0])
      refine ⟨h', ?_, e2⟩
      rw [if_neg z, mm_let, if_pos hn0, mm_let]
      exact e1 (fun h => some (h, ()))
  · by_cases z : t_fault n 8 true b l = 0
    · have hR : t_R n l b = (l + 1) / (n + 1) := by unfold t_R; rw [if_neg hn0, if_pos z]
      have hq : (nI l + 1) / (nI n + 1) = nI (t_R n l b) := by
        rw [hR, nI_1, nI_1]
        exact pk_div (by omega) (by omega) (by omega)
      obtain ⟨h', e1, e2⟩ := key _ (fu ((nI l + 1) / (nI n + 1))) (by simp [q_up]) (by rw [hq]; simp [q_up])
      refine ⟨h', ?_, e2⟩
      rw [if_pos z, mm_let, if_neg hn0]
      exact e1 (fun h => some (h, ()))
    · have hR : t_R n l b = 0 := by unfold t_R; rw [if_neg hn0, if_neg z]
      obtain ⟨h', e1, e2⟩ := key _ (fu 0) (by simp [q_up]) (by rw [hR]; simp [q_up, nI_0])
      refine ⟨h', ?_, e2⟩
      rw [if_neg z, mm_let, if_neg hn0]
      exact e1 (fun h => some (h, ()))
/-- all that the class holds of its texts -/
def q_UX (l0 l1 : Nat) (b0 b1 : Nat → Nat) (law ti : Nat) (ho wo : Nat → Nat) (h : mm_M) : Prop :=
  q_TX l0 l1 b0 b1 h ∧ q_PX (t_n l0 b0) law ti (t_pu l0 b0) (t_ap l0 b0) ho wo h ∧ h 6 6 = q_ix (t_fault 4 6 false b0 l0) ∧ q_EX (t_n l0 b0) (t_R (t_n l0 b0) l1 b1) (t_se (t_n l0 b0) b1) h ∧ h 12 10 = q_ix (t_fault (t_n l0 b0) 8 true b1 l1)
/-- behind understandTexts(), from texts alone -/
theorem q7_und {l0 l1 : Nat} {b0 b1 : Nat → Nat} (hN : 100 ≤ N) (T : q_TX l0 l1 b0 b1 hx) (h7 : hx 6 7 = nI law) (h8 : hx 6 8 = nI ti) (hl : law ≤ 2) (hti : ti ≤ 1) (h9 : ∀ p, p < 6 → hx 9 p = nI (ho p) ∧ ho p ≤ 99) (h10 : ∀ p, p < 6 → hx 10 p = nI (wo p) ∧ wo p ≤ 99) :
    ∃ h', fX7_understandTexts N hx = some (h', ()) ∧ q_fr [6, 7, 8, 12, 13, 14] hx h' ∧ q_UX l0 l1 b0 b1 law ti ho wo h' := by
  obtain ⟨T0, T1, T2, T3, T4, T5⟩ := T
  obtain ⟨sn, -, -⟩ := t_n_spec (b := b0) T0
  obtain ⟨h1, a1, a2, a3, a4, a5, a6, a7⟩ := q2_und (N := N) hN T0 T2 T4
  obtain ⟨h2, b1', b2', b3, b4⟩ := q0_und (N := N) (hx := h1) (n := t_n l0 b0) (l := l1) (b := b1) hN sn T1 a3 (by rw [a2 3 (by decide), T3]) (fun i hi => by rw [a2 5 (by decide)]; exact T5 i hi)
  have f2 : q_fr [6, 7, 8, 12, 13, 14] hx h2 := a2.tr b2' (by decide) (by decide)
  refine ⟨h2, ?_, f2, ?_, ?_, ?_, b4, b3⟩
  · unfold fX7_understandTexts
    rw [a1, mm_call_some, b1', mm_call_some]
  · exact q_TX.fr ⟨T0, T1, T2, T3, T4, T5⟩ f2 (by decide) (by decide) (by decide) (by decide)
  · refine ⟨sn, hl, hti, by rw [b2' 6 (by decide), a3], by rw [b2' 6 (by decide), a5, h7], by rw [b2' 6 (by decide), a6, h8], fun p hp => ⟨by rw [b2' 7 (by decide), (a7 p hp).1], (t_pu_le T0 p).1⟩, fun p hp => ⟨by rw [b2' 8 (by decide), (a7 p hp).2], (t_pu_le T0 p).2⟩, fun p hp => by rw [f2 9 (by decide)]; exact h9 p hp, fun p hp => by rw [f2 10 (by decide)]; exact h10 p hp⟩
  · rw [b2' 6 (by decide), a4]
end Q11b
