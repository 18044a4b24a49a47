/-! PURE 9: rest -/
theorem qr_ch : ∀ a, a < 64 → ∀ b, b < 64 → ∀ e, e < 6 → (nI (64 * a + b) >>> (nI (2 * e) &&& 31)) &&& 3 = nI ((64 * a + b) / 4 ^ e % 4) := by decide +kernel
theorem qr_set : ∀ a, a < 64 → ∀ b, b < 64 → ∀ e, e < 6 → ∀ c, c < 4 → (nI (64 * a + b) &&& (((3 : Int32) <<< (nI (2 * e) &&& 31)) ^^^ (-1 : Int32))) ||| (nI c <<< (nI (2 * e) &&& 31)) = nI (64 * a + b - (64 * a + b) / 4 ^ e % 4 * 4 ^ e + c * 4 ^ e) := by decide +kernel
theorem qr_rows : ∀ n, n ≤ 6 → (1 : Int32) <<< (((2 : Int32) * nI n) &&& 31) = nI (4 ^ n) := by
  intro n hn
  rcases (show n = 0 ∨ n = 1 ∨ n = 2 ∨ n = 3 ∨ n = 4 ∨ n = 5 ∨ n = 6 by omega) with rfl | rfl | rfl | rfl | rfl | rfl | rfl <;> decide
theorem qr_grps : ∀ n, n ≤ 6 → (1 : Int32) <<< (nI n &&& 31) = nI (2 ^ n) := by
  intro n hn
  rcases (show n = 0 ∨ n = 1 ∨ n = 2 ∨ n = 3 ∨ n = 4 ∨ n = 5 ∨ n = 6 by omega) with rfl | rfl | rfl | rfl | rfl | rfl | rfl <;> decide
theorem qr_pl {n p : Nat} (hp : p < n) : (2 : Int32) * ((nI n - 1) - nI p) = nI (2 * (n - 1 - p)) := by
  rw [show (1 : Int32) = nI 1 from rfl, qn_sub (by omega), qn_sub (by omega), show (2 : Int32) = nI 2 from rfl, qn_mul]
theorem qr_p4 {n : Nat} (hn : n ≤ 6) : 4 ^ n ≤ 4096 ∧ 2 ^ n ≤ 64 := by
  rcases (show n = 0 ∨ n = 1 ∨ n = 2 ∨ n = 3 ∨ n = 4 ∨ n = 5 ∨ n = 6 by omega) with rfl | rfl | rfl | rfl | rfl | rfl | rfl <;> decide
/-- the choice of p in a row -/
def s_ch (n row p : Nat) : Nat := row / 4 ^ (n - 1 - p) % 4
theorem s_ch_lt (n row p : Nat) : s_ch n row p < 4 := Nat.mod_lt _ (by decide)
def s_rs (n row p c : Nat) : Nat := row - row / 4 ^ (n - 1 - p) % 4 * 4 ^ (n - 1 - p) + c * 4 ^ (n - 1 - p)
theorem qr_choice {n row p : Nat} (hn : n ≤ 6) (hr : row < 4096) (hp : p < n) : (nI row >>> (((2 : Int32) * ((nI n - 1) - nI p)) &&& 31)) &&& 3 = nI (s_ch n row p) := by
  have h := qr_ch (row / 64) (by omega) (row % 64) (by omega) (n - 1 - p) (by omega)
  rw [show 64 * (row / 64) + row % 64 = row by omega] at h
  rw [qr_pl hp]
  exact h
theorem qr_other {n row p c : Nat} (hn : n ≤ 6) (hr : row < 4096) (hp : p < n) (hc : c < 4) : (nI row &&& (((3 : Int32) <<< (((2 : Int32) * ((nI n - 1) - nI p)) &&& 31)) ^^^ (-1 : Int32))) ||| (nI c <<< (((2 : Int32) * ((nI n - 1) - nI p)) &&& 31)) = nI (s_rs n row p c) := by
  have h := qr_set (row / 64) (by omega) (row % 64) (by omega) (n - 1 - p) (by omega) c hc
  rw [show 64 * (row / 64) + row % 64 = row by omega] at h
  rw [qr_pl hp]
  exact h
theorem qr_dig (row c e e' : Nat) (he : e < 6) (he' : e' < 6) (hc : c < 4) : (row - row / 4 ^ e % 4 * 4 ^ e + c * 4 ^ e) / 4 ^ e' % 4 = if e' = e then c else row / 4 ^ e' % 4 := by
  rcases (show e = 0 ∨ e = 1 ∨ e = 2 ∨ e = 3 ∨ e = 4 ∨ e = 5 by omega) with rfl | rfl | rfl | rfl | rfl | rfl <;>
    rcases (show e' = 0 ∨ e' = 1 ∨ e' = 2 ∨ e' = 3 ∨ e' = 4 ∨ e' = 5 by omega) with rfl | rfl | rfl | rfl | rfl | rfl <;>
      simp only [Nat.reducePow, Nat.reduceEqDiff, if_true, if_false] <;> omega
theorem qr_lt (row c n e : Nat) (hn : n ≤ 6) (he : e < n) (hr : row < 4 ^ n) (hc : c < 4) : row - row / 4 ^ e % 4 * 4 ^ e + c * 4 ^ e < 4 ^ n := by
  rcases (show n = 0 ∨ n = 1 ∨ n = 2 ∨ n = 3 ∨ n = 4 ∨ n = 5 ∨ n = 6 by omega) with rfl | rfl | rfl | rfl | rfl | rfl | rfl <;>
    rcases (show e = 0 ∨ e = 1 ∨ e = 2 ∨ e = 3 ∨ e = 4 ∨ e = 5 by omega) with rfl | rfl | rfl | rfl | rfl | rfl <;>
      simp only [Nat.reducePow] at hr ⊢ <;> omega
theorem s_rs_ch {n row p c q : Nat} (hn : n ≤ 6) (hp : p < n) (hq : q < n) (hc : c < 4) : s_ch n (s_rs n row p c) q = va_up (s_ch n row) p c q := by
  unfold s_ch s_rs va_up
  rw [qr_dig row c (n - 1 - p) (n - 1 - q) (by omega) (by omega) hc]
  by_cases e : q = p
  · subst e; simp
  · rw [if_neg (by omega), if_neg e]
theorem s_rs_lt {n row p c : Nat} (hn : n ≤ 6) (hp : p < n) (hr : row < 4 ^ n) (hc : c < 4) : s_rs n row p c < 4 ^ n := qr_lt row c n (n - 1 - p) hn (by omega) hr hc
def s_al (f : Nat → Bool) : Nat → Nat → Bool
  | 0, _ => true
  | j + 1, i => f i && s_al f j (i + 1)
theorem s_al_congr {f g : Nat → Bool} : ∀ j i, (∀ q, i ≤ q → q < i + j → f q = g q) → s_al f j i = s_al g j i := by
  intro j
  induction j with
  | zero => intros; rfl
  | succ j ih =>
    intro i h
    rw [s_al, s_al, h i (Nat.le_refl _) (by omega), ih (i + 1) (fun q h1 h2 => h q (by omega) (by omega))]
/-- worth less pay of one, by the choices of all -/
def s_gn (n law ti : Nat) (ap g wo : Nat → Nat) (sc : Nat → Nat) (p : Nat) : Int32 := if sc p = 0 then 0 else nI (wo p) - nI (s_pay n law ti ap g (s_at sc (sc p)) p)
theorem s_gn_congr {n law ti : Nat} {ap g wo sc sc' : Nat → Nat} {p : Nat} (hp : p < n) (h : ∀ q, q < n → sc q = sc' q) : s_gn n law ti ap g wo sc p = s_gn n law ti ap g wo sc' p := by
  unfold s_gn
  rw [h p hp, s_pay_congr (sel := s_at sc (sc' p)) (sel' := s_at sc' (sc' p)) hp (fun q hq => by unfold s_at; rw [h q hq]) (fun _ _ => rfl)]
/-- whether nobody would have more by another choice alone -/
def s_re (n law ti : Nat) (ap g wo : Nat → Nat) (row : Nat) : Bool :=
  s_al (fun p => s_al (fun c => decide (s_gn n law ti ap g wo (va_up (s_ch n row) p c) p ≤ s_gn n law ti ap g wo (s_ch n row) p)) 4 0) n 0
def s_ct (f : Nat → Bool) : Nat → Nat
  | 0 => 0
  | i + 1 => s_ct f i + if f i = true then 1 else 0
def s_ff (f : Nat → Bool) : Nat → Nat
  | 0 => 0
  | i + 1 => if s_ff f i = 0 ∧ f i = true then i + 1 else s_ff f i
theorem s_ct_le (f : Nat → Bool) (i : Nat) : s_ct f i ≤ i := by
  induction i with
  | zero => exact Nat.le_refl _
  | succ i ih =>
    rw [s_ct]
    split <;> omega
theorem s_ff_le (f : Nat → Bool) (i : Nat) : s_ff f i ≤ i := by
  induction i with
  | zero => exact Nat.le_refl _
  | succ i ih =>
    rw [s_ff]
    split <;> omega
theorem s_ct_ff (f : Nat → Bool) (i : Nat) : s_ct f i = 0 ↔ s_ff f i = 0 := by
  induction i with
  | zero => exact Iff.rfl
  | succ i ih =>
    rw [s_ct, s_ff]
    by_cases h : f i = true
    · by_cases h2 : s_ff f i = 0
      · simp [h, h2]
      · have := mt ih.mp h2
        simp [h, h2]
    · simp [h, ih]
theorem q_ixm (c : Nat) : nI c - 1 = q_ix c := by
  cases c with
  | zero => rfl
  | succ c => rw [q_ixs, show (1 : Int32) = nI 1 from rfl, qn_sub (by omega)]; rfl
