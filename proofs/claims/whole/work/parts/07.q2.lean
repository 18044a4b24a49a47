/-! PURE 10b: the states behind three rounds; fewest -/
/-- hands behind k rounds, by the digits of j -/
def s_L (n law ti : Nat) (ap : Nat → Nat) (W : Nat) (G : Nat → Nat) : Nat → Nat → Nat → Nat
  | 0, _ => G
  | k + 1, j => s_T n law ti ap (fun q => s_tw (j % W) q + 1) (s_L n law ti ap W G k (j / W))
/-- hands at a place of the row of states -/
def s_SG (n law ti : Nat) (ap : Nat → Nat) (W : Nat) (G : Nat → Nat) (i : Nat) : Nat → Nat :=
  if i < 1 then s_L n law ti ap W G 0 0 else if i < 1 + W then s_L n law ti ap W G 1 (i - 1) else if i < 1 + W + W * W then s_L n law ti ap W G 2 (i - 1 - W) else s_L n law ti ap W G 3 (i - 1 - W - W * W)
theorem s_wy_lit {n : Nat} (h : n ≤ 4) : s_wy n = 1 ∨ s_wy n = 2 ∨ s_wy n = 5 ∨ s_wy n = 15 := by
  rcases (show n = 0 ∨ n = 1 ∨ n = 2 ∨ n = 3 ∨ n = 4 by omega) with rfl | rfl | rfl | rfl | rfl <;> decide
theorem s_SG_next {n law ti : Nat} {ap : Nat → Nat} {W i w : Nat} {G : Nat → Nat} (hW : W = 1 ∨ W = 2 ∨ W = 5 ∨ W = 15) (hi : i < 1 + W + W * W) (hw : w < W) :
    s_SG n law ti ap W G (i * W + 1 + w) = s_T n law ti ap (fun q => s_tw w q + 1) (s_SG n law ti ap W G i) := by
  have hm : ∀ j, (j * W + w) % W = w := fun j => by rw [Nat.mul_comm, Nat.mul_add_mod, Nat.mod_eq_of_lt hw]
  have hd : ∀ j, (j * W + w) / W = j := fun j => by
    rw [Nat.mul_comm, Nat.mul_add_div (by omega), Nat.div_eq_of_lt hw, Nat.add_zero]
  have hl : ∀ k j, s_L n law ti ap W G (k + 1) (j * W + w) = s_T n law ti ap (fun q => s_tw w q + 1) (s_L n law ti ap W G k j) := fun k j => by rw [s_L, hm, hd]
  unfold s_SG
  by_cases h1 : i < 1
  · have : i = 0 := by omega
    subst this
    rw [if_pos h1, if_neg (by omega), if_pos (by omega), ← hl]
    congr 1
    omega
  · by_cases h2 : i < 1 + W
    · rw [if_neg h1, if_pos h2, if_neg (by omega), if_neg (by rcases hW with rfl | rfl | rfl | rfl <;> omega), if_pos (by rcases hW with rfl | rfl | rfl | rfl <;> omega), ← hl]
      congr 1
      rcases hW with rfl | rfl | rfl | rfl <;> omega
    · rw [if_neg h1, if_neg h2, if_pos hi, if_neg (by omega), if_neg (by rcases hW with rfl | rfl | rfl | rfl <;> omega), if_neg (by rcases hW with rfl | rfl | rfl | rfl <;> omega), ← hl]
      congr 1
      rcases hW with rfl | rfl | rfl | rfl <;> omega
section Q10b
variable {N n R law ti : Nat} {pu ap ho wo : Nat → Nat} {se : Nat → Nat → Nat} {hx hy : mm_M}
theorem s_T_le {sc G : Nat → Nat} {p : Nat} (h : G p ≤ 99) : s_T n law ti ap sc G p ≤ 99 := by
  unfold s_T
  omega
theorem s_L_le {W : Nat} {G : Nat → Nat} (h : ∀ p, p < n → G p ≤ 99) : ∀ k j p, p < n → s_L n law ti ap W G k j p ≤ 99 := by
  intro k
  induction k with
  | zero => intro j p hp; exact h p hp
  | succ k ih => intro j p hp; exact s_T_le (ih _ p hp)
theorem s_SG_le {W : Nat} {G : Nat → Nat} (h : ∀ p, p < n → G p ≤ 99) (i p : Nat) (hp : p < n) : s_SG n law ti ap W G i p ≤ 99 := by
  unfold s_SG
  split
  · exact s_L_le h _ _ p hp
  · split
    · exact s_L_le h _ _ p hp
    · split <;> exact s_L_le h _ _ p hp
/-- the states up to x are told -/
def q_st (n law ti : Nat) (ap : Nat → Nat) (W : Nat) (G : Nat → Nat) (x : Nat) (h : mm_M) : Prop := ∀ i, i < x → h 27 i = nI (s_pk (s_SG n law ti ap W G i) n)
theorem q1_f85_L {W i : Nat} {p1 : Int32} {G : Nat → Nat} (hN : 100 ≤ N) (P : q_PX n law ti pu ap ho wo hx) (h4 : n ≤ 4) (hW : W = s_wy n) (h3 : hx 25 3 = nI W) (hG : ∀ p, p < n → G p ≤ 99) (hi : i < 1 + W + W * W) :
    ∀ j w h, w + j = W → q_fr [11, 26, 27] hx h → q_st n law ti ap W G (i * W + 1 + w) h →
      ∃ h', (∀ k fuel, j < fuel → fX1_follow_L85 N p1 (nI i) k fuel h (nI w) = k h') ∧ q_fr [11, 26, 27] hx h' ∧ q_st n law ti ap W G (i * W + 1 + W) h' := by
  have hl := s_wy_lit h4
  rw [← hW] at hl
  have hi2 : i ≤ 240 := by rcases hl with rfl | rfl | rfl | rfl <;> omega
  have hiW : i * W ≤ 3600 := by rcases hl with rfl | rfl | rfl | rfl <;> omega
  have hib : i ≤ i * W := Nat.le_mul_of_pos_right i (by omega)
  intro j
  induction j with
  | zero =>
    intro w h hw hf hs
    have hw : w = W := by omega
    subst hw
    refine ⟨h, ?_, hf, hs⟩
    intro k fuel hfu
    obtain ⟨f, rfl⟩ : ∃ f, fuel = f + 1 := ⟨fuel - 1, by omega⟩
    rw [fX1_follow_L85, hf 25 (by decide), h3, if_pos ((qn_le (by omega) (by omega)).mpr (by omega))]
  | succ j ih =>
    intro w h hw hf hs
    have P1 := P.fr hf (by decide) (by decide) (by decide) (by decide) (by decide)
    have gS : ∀ p, p < n → s_SG n law ti ap W G i p ≤ 99 := fun p hp => s_SG_le hG i p hp
    obtain ⟨h1, a1, a2, a3⟩ := q1_unpack (N := N) (G := s_SG n law ti ap W G i) hN P1 h4 gS
    have P2 := P1.fr a2 (by decide) (by decide) (by decide) (by decide) (by decide)
    obtain ⟨h2, b1, b2, b3⟩ := q1_pay (N := N) (w := w) (G := s_SG n law ti ap W G i) hN P2 h4 (by omega) (fun p hp => ⟨a3 p hp, gS p hp⟩)
    have P3 := P2.fr b2 (by decide) (by decide) (by decide) (by decide) (by decide)
    have e3 := q1_packed (N := N) (G := s_T n law ti ap (fun q => s_tw w q + 1) (s_SG n law ti ap W G i)) hN P3 h4 b3
    have f3 : q_fr [11, 26, 27] hx h2 := (hf.tr a2 (U := [11, 26, 27]) (fun _ q => q) (by decide)).tr b2 (fun _ q => q) (by decide)
    obtain ⟨h', e1, e2⟩ := ih (w + 1) (mm_up h2 27 (i * W + 1 + w) (nI (s_pk (s_T n law ti ap (fun q => s_tw w q + 1) (s_SG n law ti ap W G i)) n))) (by omega) (f3.tr (q_fr.up (S := [27]) (by simp)) (fun _ q => q) (by decide)) (by
      intro x hx'
      rw [q_up, if_pos rfl]
      by_cases e : x = i * W + 1 + w
      · rw [if_pos e, e, s_SG_next hl hi (by omega)]
      · rw [if_neg e, b2 27 (by decide), a2 27 (by decide)]
        exact hs x (by omega))
    refine ⟨h', ?_, e2⟩
    intro k fuel hfu
    obtain ⟨f, rfl⟩ : ∃ f, fuel = f + 1 := ⟨fuel - 1, by omega⟩
    have ei : nI i * nI W + 1 + nI w = nI (i * W + 1 + w) := by rw [qn_mul, nI_1, nI_add]
    rw [fX1_follow_L85, hf 25 (by decide), h3, if_neg (fun q => absurd ((qn_le (by omega) (by omega)).mp q) (by omega)), if_pos (qn_gd (by omega) (by omega)), qn_c (by omega), hs i (by omega), a1, mm_call_some, b1, mm_call_some, e3, mm_call_some, f3 25 (by decide), h3, ei, if_pos (qn_gd (by omega) (by omega)), mm_let, qn_c (by omega), nI_1]
    exact e1 k f (by omega)
theorem q1_f78_L {W M : Nat} {G : Nat → Nat} (hN : 100 ≤ N) (P : q_PX n law ti pu ap ho wo hx) (h4 : n ≤ 4) (hW : W = s_wy n) (h3 : hx 25 3 = nI W) (hG : ∀ p, p < n → G p ≤ 99) (hM : M = 1 + W + W * W) :
    ∀ j i h, i + j = M → q_fr [11, 26, 27] hx h → q_st n law ti ap W G (i * W + 1) h →
      ∃ h', (∀ k fuel, j < fuel → fX1_follow_L78 N (nI M) k fuel h (nI i) = k h') ∧ q_fr [11, 26, 27] hx h' ∧ q_st n law ti ap W G (M * W + 1) h' := by
  have hl := s_wy_lit h4
  rw [← hW] at hl
  have hM2 : M ≤ 241 := by subst hM; rcases hl with rfl | rfl | rfl | rfl <;> omega
  intro j
  induction j with
  | zero =>
    intro i h hi hf hs
    have hi : i = M := by omega
    subst hi
    refine ⟨h, ?_, hf, hs⟩
    intro k fuel hfu
    obtain ⟨f, rfl⟩ : ∃ f, fuel = f + 1 := ⟨fuel - 1, by omega⟩
    rw [fX1_follow_L78, if_pos ((qn_le (by omega) (by omega)).mpr (by omega))]
  | succ j ih =>
    intro i h hi hf hs
    have P1 := P.fr hf (by decide) (by decide) (by decide) (by decide) (by decide)
    obtain ⟨h1, a1, a2, a3⟩ := q1_f85_L (N := N) (W := W) (i := i) (p1 := nI M) hN P1 h4 hW (by rw [hf 25 (by decide), h3]) hG (by omega) W 0 h (by omega) q_fr.rf hs
    obtain ⟨h', e1, e2⟩ := ih (i + 1) h1 (by omega) (hf.tr a2 (fun _ q => q) (fun _ q => q)) (by
      intro x hx'
      refine a3 x ?_
      rw [Nat.add_mul] at hx'
      omega)
    refine ⟨h', ?_, e2⟩
    intro k fuel hfu
    obtain ⟨f, rfl⟩ : ∃ f, fuel = f + 1 := ⟨fuel - 1, by omega⟩
    rw [fX1_follow_L78, if_neg (fun q => absurd ((qn_le (by omega) (by omega)).mp q) (by omega)), show (0 : Int32) = nI 0 from rfl, a1 _ N (by omega), nI_1]
    exact e1 k f (by omega)
/-- behind follow(): the number of ways, and the states -/
theorem q1_follow (hN : 5000 ≤ N) (P : q_PX n law ti pu ap ho wo hx) :
    ∃ h', fX1_follow N hx = some (h', ()) ∧ q_fr q_SX hx h' ∧ (if n ≤ 4 then h' 25 3 = nI (s_wy n) ∧ q_st n law ti ap (s_wy n) (fun p => pu p - ho p) ((1 + s_wy n + s_wy n * s_wy n) * s_wy n + 1) h' else h' 25 3 = nI 0) := by
  have hn := P.1
  have d1 : (nI n ≤ (4 : Int32)) ↔ n ≤ 4 := qn_le (b := 4) (by omega) (by omega)
  unfold fX1_follow
  rw [P.2.2.2.1]
  simp only [d1]
  by_cases h4 : n ≤ 4
  · have wy := qk_wy n (by omega)
    have hl := s_wy_lit h4
    have f1 : q_fr [25] hx (mm_up hx 25 3 (nI (s_wy n))) := q_fr.up (by simp)
    have P1 := P.fr f1 (by decide) (by decide) (by decide) (by decide) (by decide)
    obtain ⟨h1, a1, a2, a3⟩ := q2_tell (N := N) (c0 := 26) (by omega) (by decide) (by decide) P1.2.2.2.2.2.2.1 P1.2.2.2.2.2.2.2.2.1
    have P2 := P1.fr a2 (by decide) (by decide) (by decide) (by decide) (by decide)
    have gb : ∀ p, p < n → (fun p => pu p - ho p) p ≤ 99 := fun p hp => by
      have := (P.2.2.2.2.2.2.1 p (by omega)).2
      simp only
      omega
    have ep := q1_packed (N := N) (G := fun p => pu p - ho p) (by omega) P2 h4 (fun p hp => ⟨a3 p (by omega), gb p hp⟩)
    have f3 : q_fr [25, 26, 27] hx (mm_up h1 27 0 (nI (s_pk (fun p => pu p - ho p) n))) := (f1.tr a2 (U := [25, 26, 27]) (by decide) (by decide)).tr (q_fr.up (S := [27]) (by simp)) (fun _ q => q) (by decide)
    have P3 := P.fr f3 (by decide) (by decide) (by decide) (by decide) (by decide)
    have v3 : mm_up h1 27 0 (nI (s_pk (fun p => pu p - ho p) n)) 25 3 = nI (s_wy n) := by
      rw [mm_up_ne _ _ _ (by decide), a2 25 (by decide)]
      simp [q_up]
    have v31 : mm_up hx 25 3 (nI (s_wy n)) 25 3 = nI (s_wy n) := by simp [q_up]
    obtain ⟨h', e1, e2, e3⟩ := q1_f78_L (N := N) (W := s_wy n) (M := 1 + s_wy n + s_wy n * s_wy n) (G := fun p => pu p - ho p) (by omega) P3 h4 rfl v3 gb rfl (1 + s_wy n + s_wy n * s_wy n) 0 _ (by omega) q_fr.rf (by
      intro i hi
      have : i = 0 := by omega
      subst this
      simp [q_up, s_SG, s_L])
    have hM : 1 + s_wy n + s_wy n * s_wy n ≤ 241 := by rcases hl with h | h | h | h <;> rw [h] <;> decide
    refine ⟨h', ?_, f3.tr e2 (by decide) (by decide), ?_⟩
    · rw [if_pos h4, if_pos (qn_gd (by omega) (by omega)), mm_let, qn_c (by omega), wy.1, v31, if_neg (fun q => absurd ((qn_e0 (by omega)).mp q) (by omega)), a1, mm_call_some, ep, mm_call_some, mm_let, show Int32.toNatClampNeg 0 = 0 from rfl, v3, mm_let, show (1 : Int32) = nI 1 from rfl, nI_add, qn_mul, nI_add, show (0 : Int32) = nI 0 from rfl, e1 _ N (by omega)]
    · rw [if_pos h4]
      exact ⟨by rw [e2 25 (by decide), v3], e3⟩
  · refine ⟨mm_up hx 25 3 0, ?_, q_fr.up (by decide), ?_⟩
    · rw [if_neg h4, mm_let, if_pos (by simp [q_up])]
    · rw [if_neg h4]
      simp [q_up, nI_0]
/-- one of so many from i on -/
def s_ex (f : Nat → Bool) : Nat → Nat → Bool
  | 0, _ => false
  | j + 1, i => f i || s_ex f j (i + 1)
theorem s_ex_iff (f : Nat → Bool) : ∀ j i, s_ex f j i = true ↔ ∃ x, i ≤ x ∧ x < i + j ∧ f x = true := by
  intro j
  induction j with
  | zero =>
    intro i
    simp only [s_ex, Bool.false_eq_true, false_iff]
    rintro ⟨x, h1, h2, -⟩
    omega
  | succ j ih =>
    intro i
    simp only [s_ex, Bool.or_eq_true, ih]
    constructor
    · rintro (h | ⟨x, h1, h2, h3⟩)
      · exact ⟨i, Nat.le_refl _, by omega, h⟩
      · exact ⟨x, by omega, by omega, h3⟩
    · rintro ⟨x, h1, h2, h3⟩
      by_cases e : x = i
      · subst e; exact Or.inl h3
      · exact Or.inr ⟨x, by omega, by omega, h3⟩
/-- what is asked of hands: one has just v; all alike -/
def s_pA (a v : Nat) (G : Nat → Nat) : Bool := decide (G a = v)
def s_pE (n : Nat) (G : Nat → Nat) : Bool := s_al (fun p => decide (G p = G 0)) (n - 1) 1
theorem q1_alike {G : Nat → Nat} (hN : 100 ≤ N) (P : q_PX n law ti pu ap ho wo hx) (h4 : n ≤ 4) (hG : ∀ p, p < n → G p ≤ 99) : fX1_areAlike N hx (nI (s_pk G n)) = some (hx, if s_pE n G = true then 1 else 0) := by
  have eh : ∀ p, p < n → fX1_handIn N hx (nI (s_pk G n)) (nI p) = some (hx, nI (G p)) := by
    intro p hp
    unfold fX1_handIn
    rw [qk_hand (qk_28 h4 hG) (by omega), qk_dig h4 hp hG]
  have key : ∀ j fuel i, 1 ≤ i → ((i ≤ 4 ∧ i + j = n) ∨ (n = 0 ∧ j = 0 ∧ i = 1)) → j < fuel → fX1_areAlike_L2 N (nI (s_pk G n)) (fun h9 => some (h9, (1 : Int32))) fuel hx (nI i) = some (hx, if s_al (fun p => decide (G p = G 0)) j i = true then 1 else 0) := by
    intro j
    induction j with
    | zero =>
      intro fuel i h1 hi hfu
      obtain ⟨f, rfl⟩ : ∃ f, fuel = f + 1 := ⟨fuel - 1, by omega⟩
      have d : nI n ≤ nI i := by
        rcases hi with hi | hi
        · exact (qn_le (by omega) (by omega)).mpr (by omega)
        · rw [hi.1, hi.2.2]
          decide
      rw [fX1_areAlike_L2, P.2.2.2.1, if_pos d, s_al, if_pos rfl]
    | succ j ih =>
      intro fuel i h1 hi hfu
      obtain ⟨f, rfl⟩ : ∃ f, fuel = f + 1 := ⟨fuel - 1, by omega⟩
      have g1 := hG i (by omega)
      have g0 := hG 0 (by omega)
      rw [fX1_areAlike_L2, P.2.2.2.1, if_neg (fun q => absurd ((qn_le (by omega) (by omega)).mp q) (by omega)), eh i (by omega), mm_call_some, show (0 : Int32) = nI 0 from rfl, eh 0 (by omega), mm_call_some, s_al, nI_1]
      simp only [qn_eq (show G i < 100000 by omega) (show G 0 < 100000 by omega)]
      by_cases z : G i = G 0
      · rw [if_pos z, show (nI 0 : Int32) = 0 from rfl, ih f (i + 1) (by omega) (by omega) (by omega)]
        simp [z]
      · rw [if_neg z]
        simp [z, nI_0]
  unfold fX1_areAlike s_pE
  exact key (n - 1) N 1 (Nat.le_refl _) (by omega) (by omega)
end Q10b
