/-! PURE 10c: down and alike of the class -/
section Q10c
variable {N n R law ti : Nat} {pu ap ho wo : Nat → Nat} {se : Nat → Nat → Nat} {hx hy : mm_M}
/-- what is asked: of one (his hand is v), or of all -/
def q_as (n : Nat) (q vv : Int32) (Pd : (Nat → Nat) → Bool) : Prop := (q = -1 ∧ Pd = s_pE n) ∨ ∃ a v, a < n ∧ v ≤ 99 ∧ q = nI a ∧ vv = nI v ∧ Pd = s_pA a v
theorem q1_w27_L {W B : Nat} {q vv p3 p4 p5 : Int32} {G : Nat → Nat} {Pd : (Nat → Nat) → Bool} (hN : 100 ≤ N) (P : q_PX n law ti pu ap ho wo hx) (h4 : n ≤ 4) (hG : ∀ p, p < n → G p ≤ 99) (hs : q_st n law ti ap W G B hx) (ha : q_as n q vv Pd) (k : mm_M → Option (mm_M × Int32)) {e : Nat} (he : p3 + p4 = nI e) (heB : e ≤ B) (hB : B ≤ 3616) :
    ∀ j fuel i, i + j = e → j < fuel → fX1_fewest_L27 N q vv p3 p4 p5 k fuel hx (nI i) = if s_ex (fun x => Pd (s_SG n law ti ap W G x)) j i = true then some (hx, p5) else k hx := by
  intro j
  induction j with
  | zero =>
    intro fuel i hi hfu
    obtain ⟨f, rfl⟩ : ∃ f, fuel = f + 1 := ⟨fuel - 1, by omega⟩
    rw [fX1_fewest_L27, he, if_pos ((qn_le (by omega) (by omega)).mpr (by omega)), s_ex, if_neg (by decide)]
  | succ j ih =>
    intro fuel i hi hfu
    obtain ⟨f, rfl⟩ : ∃ f, fuel = f + 1 := ⟨fuel - 1, by omega⟩
    have gS : ∀ p, p < n → s_SG n law ti ap W G i p ≤ 99 := fun p hp => s_SG_le hG i p hp
    rw [fX1_fewest_L27, he, if_neg (fun q => absurd ((qn_le (by omega) (by omega)).mp q) (by omega)), if_pos (qn_gd (by omega) (by omega)), if_pos (qn_gd (by omega) (by omega)), qn_c (by omega), hs i (by omega), nI_1, s_ex]
    have r1 := ih f (i + 1) (by omega) (by omega)
    rcases ha with ⟨rfl, rfl⟩ | ⟨a, v, h1, h2, rfl, rfl, rfl⟩
    · rw [if_pos rfl, q1_alike (N := N) hN P h4 gS, mm_call_some, q_b0, r1]
      by_cases z : s_pE n (s_SG n law ti ap W G i) = true
      · simp [z]
      · simp [z]
    · have eh : fX1_handIn N hx (nI (s_pk (s_SG n law ti ap W G i) n)) (nI a) = some (hx, nI (s_SG n law ti ap W G i a)) := by
        unfold fX1_handIn
        rw [qk_hand (qk_28 h4 gS) (by omega), qk_dig h4 h1 gS]
      have g1 := gS a h1
      rw [if_neg (qn_m1 (by omega)), eh, mm_call_some, r1]
      simp only [qn_eq (show s_SG n law ti ap W G i a < 100000 by omega) (show v < 100000 by omega), s_pA]
      by_cases z : s_SG n law ti ap W G i a = v
      · simp [z]
      · simp [z]
        rfl
/-- the fewest rounds, by the row of states -/
def s_fw (n law ti : Nat) (ap : Nat → Nat) (W : Nat) (G : Nat → Nat) (Pd : (Nat → Nat) → Bool) : Int32 :=
  if s_ex (fun x => Pd (s_SG n law ti ap W G x)) 1 0 = true then 0 else if s_ex (fun x => Pd (s_SG n law ti ap W G x)) W 1 = true then 1 else if s_ex (fun x => Pd (s_SG n law ti ap W G x)) (W * W) (1 + W) = true then 2 else if s_ex (fun x => Pd (s_SG n law ti ap W G x)) (W * W * W) (1 + W + W * W) = true then 3 else -1
theorem q1_fewest {W : Nat} {q vv : Int32} {G : Nat → Nat} {Pd : (Nat → Nat) → Bool} (hN : 5000 ≤ N) (P : q_PX n law ti pu ap ho wo hx) (h4 : n ≤ 4) (hW : W = s_wy n) (h3 : hx 25 3 = nI W) (hG : ∀ p, p < n → G p ≤ 99) (hs : q_st n law ti ap W G ((1 + W + W * W) * W + 1) hx) (ha : q_as n q vv Pd) :
    fX1_fewest N hx q vv = some (hx, s_fw n law ti ap W G Pd) := by
  have hl := s_wy_lit h4
  rw [← hW] at hl
  have b1 : W ≤ 15 := by omega
  have b2 : W * W ≤ 225 := by rcases hl with rfl | rfl | rfl | rfl <;> decide
  have b3 : W * W * W ≤ 3375 := by rcases hl with rfl | rfl | rfl | rfl <;> decide
  have b4 : (1 + W + W * W) * W + 1 = 1 + W + W * W + W * W * W := by rcases hl with rfl | rfl | rfl | rfl <;> decide
  have b5 : 0 < W := by omega
  rw [b4] at hs
  obtain ⟨f, rfl⟩ : ∃ f, N = f + 5 := ⟨N - 5, by omega⟩
  have L := fun {p3 p4 p5 : Int32} (k : mm_M → Option (mm_M × Int32)) {e : Nat} (he : p3 + p4 = nI e) (heB : e ≤ 1 + W + W * W + W * W * W) j i (hi : i + j = e) (hj : j < f + 5) => q1_w27_L (N := f + 5) (q := q) (vv := vv) (p3 := p3) (p4 := p4) (p5 := p5) (by omega) P h4 hG hs ha k he heB (by omega) j (f + 5) i hi hj
  unfold fX1_fewest s_fw
  rw [h3, if_neg (fun z => absurd ((qn_e0 (by omega)).mp z) (by omega))]
  rw [fX1_fewest_L18, if_neg (by decide), show (0 : Int32) = nI 0 from rfl, L _ (e := 1) (by decide) (by omega) 1 0 rfl (by omega)]
  split
  · rfl
  · rw [mm_let, mm_let, h3, show nI 0 + (1 : Int32) = nI 1 from rfl, show (1 : Int32) * nI W = nI W by rw [show (1 : Int32) = nI 1 from rfl, qn_mul, Nat.one_mul]]
    rw [fX1_fewest_L18, if_neg (by decide), L _ (e := 1 + W) (nI_add 1 W) (by omega) W 1 rfl (by omega)]
    split
    · rfl
    · rw [mm_let, mm_let, h3, nI_add, qn_mul, show nI 1 + (1 : Int32) = nI 2 from rfl]
      rw [fX1_fewest_L18, if_neg (by decide), L _ (e := 1 + W + W * W) (nI_add _ _) (by omega) (W * W) (1 + W) rfl (by omega)]
      split
      · rfl
      · rw [mm_let, mm_let, h3, nI_add, qn_mul, show nI 2 + (1 : Int32) = nI 3 from rfl]
        rw [fX1_fewest_L18, if_neg (by decide), L _ (e := 1 + W + W * W + W * W * W) (nI_add _ _) (by omega) (W * W * W) (1 + W + W * W) rfl (by omega)]
        split
        · rfl
        · rw [mm_let, mm_let, h3, fX1_fewest_L18, if_pos (by decide)]
/-- behind follow(), what is asked of all states -/
theorem q1_asked {q vv : Int32} {Pd : (Nat → Nat) → Bool} (hN : 5000 ≤ N) (P : q_PX n law ti pu ap ho wo hx) (hf : if n ≤ 4 then hx 25 3 = nI (s_wy n) ∧ q_st n law ti ap (s_wy n) (fun p => pu p - ho p) ((1 + s_wy n + s_wy n * s_wy n) * s_wy n + 1) hx else hx 25 3 = nI 0) (ha : q_as n q vv Pd) :
    fX1_fewest N hx q vv = some (hx, if n ≤ 4 then s_fw n law ti ap (s_wy n) (fun p => pu p - ho p) Pd else -4) := by
  by_cases h4 : n ≤ 4
  · rw [if_pos h4] at hf ⊢
    exact q1_fewest hN P h4 rfl hf.1 (fun p hp => by
      have := (P.2.2.2.2.2.2.1 p (by have := P.1; omega)).2
      omega) hf.2 ha
  · rw [if_neg h4] at hf ⊢
    unfold fX1_fewest
    rw [hf, if_pos nI_0]
theorem q7_down (hN : 5000 ≤ N) (P : q_PX n law ti pu ap ho wo hx) (a v : Int32) :
    ∃ h', fX7_down N hx a v = some (h', if mm_gd a n = true then (if mm_gd v 100 = true then (if n ≤ 4 then s_fw n law ti ap (s_wy n) (fun p => pu p - ho p) (s_pA a.toNatClampNeg v.toNatClampNeg) else -4) else -2) else -2) ∧ q_fr q_SX hx h' := by
  have hn := P.1
  unfold fX7_down
  rw [q7_isPerson P, mm_call_some, q_b0]
  by_cases z : mm_gd a n = true
  · obtain ⟨a, hp, rfl⟩ := qg_ex z (by omega)
    rw [if_pos z, if_pos z, q7_in (n := 100) (by decide), mm_call_some, q_b0]
    by_cases y : mm_gd v 100 = true
    · obtain ⟨v, hv, rfl⟩ := qg_ex y (by omega)
      obtain ⟨h', e1, e2, e3⟩ := q1_follow (N := N) hN P
      refine ⟨h', ?_, e2⟩
      have P1 := P.fr e2 (by decide) (by decide) (by decide) (by decide) (by decide)
      rw [if_pos y, if_pos y, e1, mm_call_some]
      unfold fX1_fewestDown
      rw [q1_asked hN P1 e3 (Or.inr ⟨a, v, hp, by omega, rfl, rfl, rfl⟩), mm_call_some, mm_call_some, qn_c (by omega), qn_c (by omega)]
    · exact ⟨hx, by rw [if_neg y, if_neg y], q_fr.rf⟩
  · exact ⟨hx, by rw [if_neg z, if_neg z], q_fr.rf⟩
theorem q7_alike (hN : 5000 ≤ N) (P : q_PX n law ti pu ap ho wo hx) :
    ∃ h', fX7_alike N hx = some (h', if n ≤ 4 then s_fw n law ti ap (s_wy n) (fun p => pu p - ho p) (s_pE n) else -4) ∧ q_fr q_SX hx h' := by
  obtain ⟨h', e1, e2, e3⟩ := q1_follow (N := N) hN P
  refine ⟨h', ?_, e2⟩
  have P1 := P.fr e2 (by decide) (by decide) (by decide) (by decide) (by decide)
  unfold fX7_alike
  rw [e1, mm_call_some]
  unfold fX1_fewestAlike
  rw [q1_asked hN P1 e3 (Or.inl ⟨rfl, rfl⟩), mm_call_some, mm_call_some]
/-! the fewest, in words -/
/-- a state behind so many rounds of ways has what is asked -/
def s_rc (T : Nat → (Nat → Nat) → (Nat → Nat)) (V : Nat → Prop) (Pd : (Nat → Nat) → Bool) : Nat → (Nat → Nat) → Prop
  | 0, G => Pd G = true
  | k + 1, G => ∃ w, V w ∧ s_rc T V Pd k (T w G)
theorem s_L_rc {W : Nat} {Pd : (Nat → Nat) → Bool} (hW : 0 < W) : ∀ k (G : Nat → Nat), (∃ j, j < W ^ k ∧ Pd (s_L n law ti ap W G k j) = true) ↔ s_rc (fun w => s_T n law ti ap (fun q => s_tw w q + 1)) (fun w => w < W) Pd k G := by
  have key : ∀ k (G : Nat → Nat) j, j < W ^ (k + 1) → ∃ w j', w < W ∧ j' < W ^ k ∧ s_L n law ti ap W G (k + 1) j = s_L n law ti ap W (s_T n law ti ap (fun q => s_tw w q + 1) G) k j' := by
    intro k
    induction k with
    | zero =>
      intro G j hj
      refine ⟨j % W, 0, Nat.mod_lt _ hW, Nat.one_pos, rfl⟩
    | succ k ih =>
      intro G j hj
      obtain ⟨w, j', h1, h2, h3⟩ := ih G (j / W) (by
        rw [Nat.div_lt_iff_lt_mul hW]
        exact hj)
      refine ⟨w, j' * W + j % W, h1, ?_, ?_⟩
      · have := Nat.mod_lt j hW
        have h5 : (j' + 1) * W ≤ W ^ k * W := Nat.mul_le_mul_right _ h2
        rw [Nat.pow_succ]
        rw [Nat.add_mul] at h5
        omega
      · have := Nat.mod_lt j hW
        rw [s_L, h3, s_L]
        have e1 : (j' * W + j % W) % W = j % W := by rw [Nat.mul_comm, Nat.mul_add_mod, Nat.mod_mod]
        have e2 : (j' * W + j % W) / W = j' := by rw [Nat.mul_comm, Nat.mul_add_div hW, Nat.div_eq_of_lt this, Nat.add_zero]
        rw [e1, e2]
  have key2 : ∀ k (G : Nat → Nat) w j', w < W → j' < W ^ k → ∃ j, j < W ^ (k + 1) ∧ s_L n law ti ap W G (k + 1) j = s_L n law ti ap W (s_T n law ti ap (fun q => s_tw w q + 1) G) k j' := by
    intro k
    induction k with
    | zero =>
      intro G w j' hw hj
      refine ⟨w, by rw [Nat.pow_succ, Nat.pow_zero]; omega, ?_⟩
      show s_T n law ti ap (fun q => s_tw (w % W) q + 1) G = _
      rw [Nat.mod_eq_of_lt hw]
      rfl
    | succ k ih =>
      intro G w j' hw hj
      obtain ⟨j, h1, h2⟩ := ih G w (j' / W) hw (by
        rw [Nat.div_lt_iff_lt_mul hW]
        exact hj)
      refine ⟨j * W + j' % W, ?_, ?_⟩
      · have := Nat.mod_lt j' hW
        have h5 : (j + 1) * W ≤ W ^ (k + 1) * W := Nat.mul_le_mul_right _ h1
        rw [Nat.pow_succ W (k + 1)]
        rw [Nat.add_mul] at h5
        omega
      · have := Nat.mod_lt j' hW
        have e1 : (j * W + j' % W) % W = j' % W := by rw [Nat.mul_comm, Nat.mul_add_mod, Nat.mod_mod]
        have e2 : (j * W + j' % W) / W = j := by rw [Nat.mul_comm, Nat.mul_add_div hW, Nat.div_eq_of_lt this, Nat.add_zero]
        rw [s_L, e1, e2, h2, s_L]
  intro k
  induction k with
  | zero =>
    intro G
    constructor
    · rintro ⟨j, -, h⟩; exact h
    · intro h; exact ⟨0, Nat.one_pos, h⟩
  | succ k ih =>
    intro G
    constructor
    · rintro ⟨j, h1, h2⟩
      obtain ⟨w, j', a1, a2, a3⟩ := key k G j h1
      rw [a3] at h2
      exact ⟨w, a1, (ih _).mp ⟨j', a2, h2⟩⟩
    · rintro ⟨w, a1, a2⟩
      obtain ⟨j', b1, b2⟩ := (ih _).mpr a2
      obtain ⟨j, c1, c2⟩ := key2 k G w j' a1 b1
      exact ⟨j, c1, by rw [c2]; exact b2⟩
theorem s_fw_rc {W : Nat} {G : Nat → Nat} {Pd : (Nat → Nat) → Bool} (hl : W = 1 ∨ W = 2 ∨ W = 5 ∨ W = 15) (E : Nat → Prop) [DecidablePred E] (hE : ∀ k, k < 4 → (E k ↔ s_rc (fun w => s_T n law ti ap (fun q => s_tw w q + 1)) (fun w => w < W) Pd k G)) :
    s_fw n law ti ap W G Pd = if E 0 then 0 else if E 1 then 1 else if E 2 then 2 else if E 3 then 3 else -1 := by
  have hW : 0 < W := by omega
  have e0 : s_ex (fun x => Pd (s_SG n law ti ap W G x)) 1 0 = true ↔ E 0 := by
    rw [s_ex_iff, hE 0 (by omega)]
    constructor
    · rintro ⟨x, h1, h2, h3⟩
      have : x = 0 := by omega
      subst this
      exact h3
    · intro h; exact ⟨0, by omega, by omega, h⟩
  have e1 : s_ex (fun x => Pd (s_SG n law ti ap W G x)) W 1 = true ↔ E 1 := by
    rw [s_ex_iff, hE 1 (by omega), ← s_L_rc hW, Nat.pow_one]
    constructor
    · rintro ⟨x, h1, h2, h3⟩
      refine ⟨x - 1, by omega, ?_⟩
      unfold s_SG at h3
      rw [if_neg (by omega), if_pos (by omega)] at h3
      exact h3
    · rintro ⟨j, h1, h2⟩
      refine ⟨j + 1, by omega, by omega, ?_⟩
      unfold s_SG
      rw [if_neg (by omega), if_pos (by omega), Nat.add_sub_cancel]
      exact h2
  have e2 : s_ex (fun x => Pd (s_SG n law ti ap W G x)) (W * W) (1 + W) = true ↔ E 2 := by
    rw [s_ex_iff, hE 2 (by omega), ← s_L_rc hW, show W ^ 2 = W * W from Nat.pow_two W]
    constructor
    · rintro ⟨x, h1, h2, h3⟩
      refine ⟨x - 1 - W, by omega, ?_⟩
      unfold s_SG at h3
      rw [if_neg (by omega), if_neg (by omega), if_pos (by omega)] at h3
      exact h3
    · rintro ⟨j, h1, h2⟩
      refine ⟨j + 1 + W, by omega, by omega, ?_⟩
      unfold s_SG
      rw [if_neg (by omega), if_neg (by omega), if_pos (by omega), show j + 1 + W - 1 - W = j by omega]
      exact h2
  have e3 : s_ex (fun x => Pd (s_SG n law ti ap W G x)) (W * W * W) (1 + W + W * W) = true ↔ E 3 := by
    rw [s_ex_iff, hE 3 (by omega), ← s_L_rc hW, show W ^ 3 = W * W * W by rw [Nat.pow_succ, Nat.pow_two]]
    constructor
    · rintro ⟨x, h1, h2, h3⟩
      refine ⟨x - 1 - W - W * W, by omega, ?_⟩
      unfold s_SG at h3
      rw [if_neg (by omega), if_neg (by omega), if_neg (by omega)] at h3
      exact h3
    · rintro ⟨j, h1, h2⟩
      refine ⟨j + 1 + W + W * W, by omega, by omega, ?_⟩
      unfold s_SG
      rw [if_neg (by omega), if_neg (by omega), if_neg (by omega), show j + 1 + W + W * W - 1 - W - W * W = j by omega]
      exact h2
  unfold s_fw
  simp only [e0, e1, e2, e3]
end Q10c
