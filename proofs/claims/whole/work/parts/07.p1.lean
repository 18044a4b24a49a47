/-! PURE 1: numbers, rows of a memory -/
theorem qn_c {k : Nat} (h : k < 100000) : (nI k).toNatClampNeg = k := nI_clamp (by omega)
theorem qn_gd {k n : Nat} (h : k < n) (hn : n < 100000) : mm_gd (nI k) n = true := by
  have h1 := nI_pos (n := k) (by omega)
  simp [mm_gd, qn_c (show k < 100000 by omega), h1, h]
theorem qn_le {a b : Nat} (ha : a < 100000) (hb : b < 100000) : nI a ≤ nI b ↔ a ≤ b := nI_leI (by omega) (by omega)
theorem qn_lt {a b : Nat} (ha : a < 100000) (hb : b < 100000) : nI a < nI b ↔ a < b := nI_ltI (by omega) (by omega)
theorem qn_eq {a b : Nat} (ha : a < 100000) (hb : b < 100000) : nI a = nI b ↔ a = b := nI_eq (by omega) (by omega)
theorem qn_m1 {a : Nat} (ha : a < 100000) : ¬ nI a = -1 := by
  intro h
  have h1 := nI_pos' (n := a) (by omega)
  rw [h] at h1
  exact absurd h1 (by decide)
theorem qn_e0 {a : Nat} (h : a < 100000) : (nI a = (0 : Int32)) ↔ a = 0 := qn_eq (b := 0) h (by omega)
theorem qn_e1 {a : Nat} (h : a < 100000) : (nI a = (1 : Int32)) ↔ a = 1 := qn_eq (b := 1) h (by omega)
theorem qn_e2 {a : Nat} (h : a < 100000) : (nI a = (2 : Int32)) ↔ a = 2 := qn_eq (b := 2) h (by omega)
theorem qn_l6 {a : Nat} (h : a < 100000) : ((6 : Int32) ≤ nI a) ↔ 6 ≤ a := qn_le (a := 6) (by omega) h
theorem qn_lit (k : Nat) : nI k = Int32.ofNat k := rfl
theorem qn_sub {a b : Nat} (h : b ≤ a) : nI a - nI b = nI (a - b) := pk_sub h
theorem qn_mul (a b : Nat) : nI a * nI b = nI (a * b) := pk_mul a b
def q_fr (S : List Nat) (h h' : mm_M) : Prop := ∀ c, c ∉ S → h' c = h c
theorem q_fr.rf {S : List Nat} {h : mm_M} : q_fr S h h := fun _ _ => rfl
theorem q_fr.tr {S T U : List Nat} {h h1 h2 : mm_M} (a : q_fr S h h1) (b : q_fr T h1 h2) (hs : ∀ c, c ∈ S → c ∈ U) (ht : ∀ c, c ∈ T → c ∈ U) : q_fr U h h2 :=
  fun c hc => (b c (fun q => hc (ht c q))).trans (a c (fun q => hc (hs c q)))
theorem q_fr.up {S : List Nat} {h : mm_M} {c k : Nat} {v : Int32} (hc : c ∈ S) : q_fr S h (mm_up h c k v) := fun c' h' => mm_up_ne h k v (fun e => h' (e ▸ hc))
theorem q_fr.wk {S U : List Nat} {h h1 : mm_M} (a : q_fr S h h1) (hs : ∀ c, c ∈ S → c ∈ U) : q_fr U h h1 := fun c hc => a c (fun q => hc (hs c q))
theorem q_up {h : mm_M} {c k : Nat} {v : Int32} (c' j : Nat) : mm_up h c k v c' j = if c' = c then (if j = k then v else h c j) else h c' j := by
  unfold mm_up upd
  split <;> rfl
/-! bits of a group -/
theorem qb_and : ∀ m, m < 64 → ∀ p, p < 6 → ((nI m &&& ((1 : Int32) <<< (nI p &&& 31))) = 0 ↔ m.testBit p = false) := by decide +kernel
theorem qb_or : ∀ m, m < 64 → ∀ p, p < 6 → (nI m ||| ((1 : Int32) <<< (nI p &&& 31))) = nI (m ||| 1 <<< p) := by decide +kernel
theorem qb_out : ∀ m, m < 64 → ∀ p, p < 6 → (nI m &&& (((1 : Int32) <<< (nI p &&& 31)) ^^^ (-1 : Int32))) = nI (m &&& (63 ^^^ 1 <<< p)) := by decide +kernel
theorem qb_out_lt : ∀ m, m < 64 → ∀ p, p < 6 → m &&& (63 ^^^ 1 <<< p) < 64 := by decide +kernel
theorem qb_or_lt : ∀ m, m < 64 → ∀ p, p < 6 → m ||| 1 <<< p < 64 := by decide +kernel
theorem qb_out_bit : ∀ m, m < 64 → ∀ p, p < 6 → ∀ q, q < 6 → (m &&& (63 ^^^ 1 <<< p)).testBit q = (m.testBit q && !decide (q = p)) := by decide +kernel
theorem qb_or_bit : ∀ m, m < 64 → ∀ p, p < 6 → ∀ q, q < 6 → (m ||| 1 <<< p).testBit q = (m.testBit q || decide (q = p)) := by decide +kernel
/-! the words of the game, in natural numbers -/
/-- who of the first p that are chosen has most, of like ones by ties: its number and 1; 0: none -/
def s_ah (ti : Nat) (g : Nat → Nat) (sel : Nat → Bool) : Nat → Nat
  | 0 => 0
  | p + 1 => if sel p = true ∧ (s_ah ti g sel p = 0 ∨ g (s_ah ti g sel p - 1) < g p ∨ (ti = 1 ∧ g p = g (s_ah ti g sel p - 1))) then p + 1 else s_ah ti g sel p
def s_tot (ap : Nat → Nat) (sel : Nat → Bool) : Nat → Nat
  | 0 => 0
  | p + 1 => s_tot ap sel p + if sel p = true then ap p else 0
/-- what one of those chosen is to pay -/
def s_due (n law ti : Nat) (ap g : Nat → Nat) (sel : Nat → Bool) (p : Nat) : Nat :=
  if law = 2 then ap p
  else if s_ah ti g sel n = p + 1 then
    (if law = 1 ∧ s_ah ti g (fun q => sel q && !decide (q = p)) n ≠ 0 then s_tot ap sel n / 2 else s_tot ap sel n)
  else if law = 1 ∧ s_ah ti g (fun q => sel q && !decide (q + 1 = s_ah ti g sel n)) n = p + 1 then s_tot ap sel n - s_tot ap sel n / 2
  else 0
def s_pay (n law ti : Nat) (ap g : Nat → Nat) (sel : Nat → Bool) (p : Nat) : Nat := min (s_due n law ti ap g sel p) (g p)
/-- an index or -1 out of an index and 1 or 0 -/
def q_ix (a : Nat) : Int32 := if a = 0 then -1 else nI (a - 1)
theorem q_ix0 : q_ix 0 = -1 := rfl
theorem q_ixs (a : Nat) : q_ix (a + 1) = nI a := rfl
theorem s_ah_le (ti : Nat) (g : Nat → Nat) (sel : Nat → Bool) : ∀ p, s_ah ti g sel p ≤ p := by
  intro p
  induction p with
  | zero => exact Nat.le_refl _
  | succ p ih =>
    rw [s_ah]
    split
    · exact Nat.le_refl _
    · omega
theorem s_ah_sel (ti : Nat) (g : Nat → Nat) (sel : Nat → Bool) : ∀ p, s_ah ti g sel p ≠ 0 → sel (s_ah ti g sel p - 1) = true := by
  intro p
  induction p with
  | zero => intro h; exact absurd rfl h
  | succ p ih =>
    rw [s_ah]
    split
    · rename_i h
      intro _
      simpa using h.1
    · exact ih
theorem s_ah_congr (ti : Nat) {g g' : Nat → Nat} {sel sel' : Nat → Bool} : ∀ p, (∀ q, q < p → sel q = sel' q) → (∀ q, q < p → g q = g' q) → s_ah ti g sel p = s_ah ti g' sel' p := by
  intro p
  induction p with
  | zero => intros; rfl
  | succ p ih =>
    intro h1 h2
    have h3 := ih (fun q h => h1 q (by omega)) (fun q h => h2 q (by omega))
    have h4 := s_ah_le ti g' sel' p
    rw [s_ah, s_ah, h3, h1 p (by omega), h2 p (by omega)]
    by_cases h5 : s_ah ti g' sel' p = 0
    · simp [h5]
    · rw [h2 (s_ah ti g' sel' p - 1) (by omega)]
theorem s_tot_congr {ap ap' : Nat → Nat} {sel sel' : Nat → Bool} : ∀ p, (∀ q, q < p → sel q = sel' q) → (∀ q, q < p → ap q = ap' q) → s_tot ap sel p = s_tot ap' sel' p := by
  intro p
  induction p with
  | zero => intros; rfl
  | succ p ih =>
    intro h1 h2
    rw [s_tot, s_tot, ih (fun q h => h1 q (by omega)) (fun q h => h2 q (by omega)), h1 p (by omega), h2 p (by omega)]
theorem s_tot_le {ap : Nat → Nat} {sel : Nat → Bool} : ∀ p, (∀ q, q < p → ap q ≤ 99) → s_tot ap sel p ≤ 99 * p := by
  intro p
  induction p with
  | zero => intros; exact Nat.zero_le _
  | succ p ih =>
    intro h
    have h1 := ih (fun q hq => h q (by omega))
    have h2 := h p (by omega)
    rw [s_tot]
    split <;> omega
theorem s_ah_any (ti : Nat) (g : Nat → Nat) (sel : Nat → Bool) : ∀ p, ∀ q, q < p → sel q = true → s_ah ti g sel p ≠ 0 := by
  intro p
  induction p with
  | zero => intro q hq; exact absurd hq (Nat.not_lt_zero q)
  | succ p ih =>
    intro q hq hs
    rw [s_ah]
    split
    · omega
    · rename_i h
      by_cases hqp : q = p
      · subst hqp
        intro h0
        exact h ⟨hs, Or.inl h0⟩
      · exact ih q (by omega) hs
