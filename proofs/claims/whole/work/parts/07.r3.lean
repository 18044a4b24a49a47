/-! PURE 11d: texts, as the reference reads them -/
theorem s_fi_spec (f : Nat → Bool) : ∀ j i m, s_fi f j i = m + 1 → i ≤ m ∧ m < i + j ∧ f m = true ∧ ∀ x, i ≤ x → x < m → f x = false := by
  intro j
  induction j with
  | zero => intro i m h; cases h
  | succ j ih =>
    intro i m h
    rw [s_fi] at h
    by_cases z : f i = true
    · rw [if_pos z] at h
      have : i = m := by omega
      subst this
      exact ⟨Nat.le_refl _, by omega, z, fun x h1 h2 => by omega⟩
    · rw [if_neg z] at h
      obtain ⟨h1, h2, h3, h4⟩ := ih (i + 1) m h
      refine ⟨by omega, by omega, h3, fun x hx1 hx2 => ?_⟩
      by_cases e : x = i
      · subst e; simpa using z
      · exact h4 x (by omega) hx2
theorem s_fi_at {f : Nat → Bool} : ∀ j i m, i ≤ m → m < i + j → f m = true → (∀ x, i ≤ x → x < m → f x = false) → s_fi f j i = m + 1 := by
  intro j
  induction j with
  | zero => intro i m h1 h2; omega
  | succ j ih =>
    intro i m h1 h2 h3 h4
    rw [s_fi]
    by_cases e : i = m
    · subst e; rw [if_pos h3]
    · rw [h4 i (Nat.le_refl _) (by omega), if_neg (by decide)]
      exact ih (i + 1) m (by omega) (by omega) h3 (fun x hx1 hx2 => h4 x (by omega) hx2)
theorem s_fi_no {f : Nat → Bool} : ∀ j i, (∀ x, i ≤ x → x < i + j → f x = false) → s_fi f j i = 0 := by
  intro j
  induction j with
  | zero => intros; rfl
  | succ j ih =>
    intro i h
    rw [s_fi, h i (Nat.le_refl _) (by omega), if_neg (by decide)]
    exact ih (i + 1) (fun x h1 h2 => h x (by omega) (by omega))
theorem t_fault_at {w most : Nat} {tab : Bool} {b : Nat → Nat} {l m : Nat} (hw : 0 < w) (h : ∀ x, x < m → t_bad w most tab b x = false) (hm : m < l) (hb : t_bad w most tab b m = true) : t_fault w most tab b l = m + 1 := by
  have e := s_fi_at (f := t_bad w most tab b) l 0 m (Nat.zero_le _) (by omega) hb (fun x _ hx => h x hx)
  unfold t_fault
  rw [if_neg (by omega), if_neg (by omega), e, if_pos (by omega)]
theorem t_fault_end {w most : Nat} {tab : Bool} {b : Nat → Nat} {l : Nat} (hw : 0 < w) (h0 : l ≠ 0) (h : ∀ x, x < l → t_bad w most tab b x = false) : t_fault w most tab b l = if l % (w + 1) = w then 0 else l + 1 := by
  have e := s_fi_no (f := t_bad w most tab b) l 0 (fun x _ hx => h x (by omega))
  unfold t_fault
  rw [if_neg h0, if_neg (by omega), e, if_neg (fun q => q rfl)]
theorem t_mod {r w p : Nat} (hp : p < w + 1) : (r * (w + 1) + p) % (w + 1) = p ∧ (r * (w + 1) + p) / (w + 1) = r := by
  constructor
  · rw [Nat.mul_comm, Nat.mul_add_mod, Nat.mod_eq_of_lt hp]
  · rw [Nat.mul_comm, Nat.mul_add_div (by omega), Nat.div_eq_of_lt hp, Nat.add_zero]
section Q11d
variable {N n R law ti : Nat} {pu ap ho wo : Nat → Nat} {se : Nat → Nat → Nat} {hx hy : mm_M} {l0 l1 : Nat} {b0 b1 : Nat → Nat}
def q_TY (l0 l1 : Nat) (b0 b1 : Nat → Nat) (h : mm_M) : Prop := l0 ≤ 30 ∧ l1 ≤ 60 ∧ h 1 0 = nI l0 ∧ h 1 1 = nI l1 ∧ (∀ i, i < l0 → h 2 i = nI (b0 i) ∧ b0 i < 256) ∧ (∀ i, i < l1 → h 2 (60 + i) = nI (b1 i) ∧ b1 i < 256)
theorem q_TY.eq {h h' : mm_M} (a : q_TY l0 l1 b0 b1 h) (h1 : h' 1 = h 1) (h2 : h' 2 = h 2) : q_TY l0 l1 b0 b1 h' := by
  unfold q_TY at *
  rw [h1, h2]
  exact a
theorem q8_byte0 {k : Nat} (T : q_TY l0 l1 b0 b1 hy) (hk : k < 60) : fX8_byteAt N hy 0 (nI k) = some (hy, if k < l0 then nI (b0 k) else -1) := by
  obtain ⟨T0, T1, T2, T3, T4, T5⟩ := T
  unfold fX8_byteAt
  rw [if_pos (by decide), show Int32.toNatClampNeg 0 = 0 from rfl, T2]
  by_cases h : k < l0
  · rw [if_neg (fun q => absurd ((qn_le (by omega) (by omega)).mp q) (by omega)), if_pos h, show (60 : Int32) * 0 + nI k = nI (60 * 0 + k) by rw [show (60 : Int32) = nI 60 from rfl, show (0 : Int32) = nI 0 from rfl, qn_mul, nI_add], if_pos (qn_gd (by omega) (by omega)), qn_c (by omega), show 60 * 0 + k = k by omega, (T4 k h).1]
  · rw [if_pos ((qn_le (by omega) (by omega)).mpr (by omega)), if_neg h]
theorem q8_byte1 {k : Nat} (T : q_TY l0 l1 b0 b1 hy) (hk : k < 100) : fX8_byteAt N hy 1 (nI k) = some (hy, if k < l1 then nI (b1 k) else -1) := by
  obtain ⟨T0, T1, T2, T3, T4, T5⟩ := T
  unfold fX8_byteAt
  rw [if_pos (by decide), show Int32.toNatClampNeg 1 = 1 from rfl, T3]
  by_cases h : k < l1
  · rw [if_neg (fun q => absurd ((qn_le (by omega) (by omega)).mp q) (by omega)), if_pos h, show (60 : Int32) * 1 + nI k = nI (60 + k) by rw [show (60 : Int32) = nI 60 from rfl, show (1 : Int32) = nI 1 from rfl, qn_mul, nI_add], if_pos (qn_gd (by omega) (by omega)), qn_c (by omega), (T5 k h).1]
  · rw [if_pos ((qn_le (by omega) (by omega)).mpr (by omega)), if_neg h]
theorem q8_inN {h : mm_M} {x l m : Nat} (hx : x < 100000) (hl : l < 100000) (hm : m < 100000) : fX8_in N h (nI x) (nI l) (nI m) = some (h, if l ≤ x ∧ x ≤ m then 1 else 0) := by
  unfold fX8_in
  simp only [qn_lt hx hl, qn_lt hm hx]
  by_cases a : x < l
  · rw [if_pos a, if_neg (by omega)]
  · rw [if_neg a]
    by_cases b : m < x
    · rw [if_pos b, if_neg (by omega)]
    · rw [if_neg b, if_pos (by omega)]
/-- whether a byte of PEOPLE is a figure that is there -/
def t_fg (l : Nat) (b : Nat → Nat) (i : Nat) : Bool := decide (i < l ∧ 48 ≤ b i ∧ b i ≤ 57)
theorem q8_fig {k m : Nat} (T : q_TY l0 l1 b0 b1 hy) (hk : k < 60) (hm : m = 57) : fX8_in N hy (if k < l0 then nI (b0 k) else -1) 48 (nI m) = some (hy, if t_fg l0 b0 k = true then 1 else 0) := by
  subst hm
  by_cases h : k < l0
  · rw [if_pos h, show (48 : Int32) = nI 48 from rfl, q8_inN (by have := (T.2.2.2.2.1 k h).2; omega) (by omega) (by omega)]
    simp [t_fg, h]
  · rw [if_neg h]
    unfold fX8_in
    rw [if_pos (by decide)]
    simp [t_fg, h]
theorem q8_r33_L {at0 : Nat} {p1 : Int32} (T : q_TY l0 l1 b0 b1 hy) (ha : at0 ≤ 30) (k : mm_M → Option (mm_M × Int32)) :
    ∀ j fuel d, d + j = 4 → j < fuel → fX8_readsPeople_L33 N p1 (nI at0) k fuel hy (nI d) = if s_fi (fun d => !t_fg l0 b0 (at0 + d)) j d = 0 then k hy else some (hy, nI (at0 + (s_fi (fun d => !t_fg l0 b0 (at0 + d)) j d - 1))) := by
  intro j
  induction j with
  | zero =>
    intro fuel d hd hfu
    obtain ⟨f, rfl⟩ : ∃ f, fuel = f + 1 := ⟨fuel - 1, by omega⟩
    have d1 : (4 : Int32) ≤ nI d := (qn_le (a := 4) (b := d) (by omega) (by omega)).mpr (by omega)
    rw [fX8_readsPeople_L33, if_pos d1, s_fi, if_pos rfl]
  | succ j ih =>
    intro fuel d hd hfu
    obtain ⟨f, rfl⟩ : ∃ f, fuel = f + 1 := ⟨fuel - 1, by omega⟩
    have d1 : ¬ (4 : Int32) ≤ nI d := fun q => absurd ((qn_le (a := 4) (b := d) (by omega) (by omega)).mp q) (by omega)
    have es : s_fi (fun d => !t_fg l0 b0 (at0 + d)) (j + 1) d = if (!t_fg l0 b0 (at0 + d)) = true then d + 1 else s_fi (fun d => !t_fg l0 b0 (at0 + d)) j (d + 1) := rfl
    rw [fX8_readsPeople_L33, if_neg d1, nI_add, q8_byte0 T (by omega), mm_call_some, show (57 : Int32) = nI 57 from rfl, q8_fig T (by omega) rfl, mm_call_some, q_b0, es, nI_1]
    by_cases z : t_fg l0 b0 (at0 + d) = true
    · have z' : ¬ (!t_fg l0 b0 (at0 + d)) = true := by rw [z]; decide
      rw [if_pos z, if_neg z']
      exact ih f (d + 1) (by omega) (by omega)
    · have z2 : ¬ d + 1 = 0 := by omega
      have z' : (!t_fg l0 b0 (at0 + d)) = true := by simpa using z
      rw [if_neg z, if_pos z', if_neg z2, Nat.add_sub_cancel]
theorem q8_rp_L (hN : 100 ≤ N) (T : q_TY l0 l1 b0 b1 hy) (k : mm_M → Option (mm_M × Int32)) :
    ∀ j n h, n + j = 6 → 5 * n ≤ l0 → 0 < l0 → (∀ x, x < 5 * n → t_bad 4 6 false b0 x = false) → q_fr [0, 3, 4] hy h → (∀ x, x ≠ 2 → h 0 x = hy 0 x) → h 0 2 = nI 0 → (∀ p, p < n → h 3 p = nI (10 * (b0 (5 * p) - 48) + (b0 (5 * p + 1) - 48)) ∧ h 4 p = nI (10 * (b0 (5 * p + 2) - 48) + (b0 (5 * p + 3) - 48))) →
      ∃ h', (∀ fuel, j < fuel → fX8_readsPeople_L9 N k fuel h (nI n) (nI (5 * n)) = some (h', q_ix (t_fault 4 6 false b0 l0))) ∧ q_fr [0, 3, 4] hy h' ∧ (∀ x, x ≠ 2 → h' 0 x = hy 0 x) ∧ h' 0 2 = nI (t_n l0 b0) ∧ ∀ p, p < t_n l0 b0 → h' 3 p = nI (t_pu l0 b0 p) ∧ h' 4 p = nI (t_ap l0 b0 p) := by
  obtain ⟨T0, T1, T2, T3, T4, T5⟩ := id T
  intro j
  induction j with
  | zero =>
    intro n h hn hl hl0 hcl hf hf0 h02 hv
    have hn : n = 6 := by omega
    subst hn
    have l30 : l0 = 30 := by omega
    subst l30
    have e : t_fault 4 6 false b0 30 = 31 := by rw [t_fault_end (by decide) (by decide) (fun x hx => hcl x hx)]; rfl
    have en : t_n 30 b0 = 0 := by unfold t_n; rw [e]; rfl
    refine ⟨h, ?_, hf, hf0, by rw [en, h02], fun p hp => by rw [en] at hp; exact absurd hp (Nat.not_lt_zero p)⟩
    intro fuel hfu
    obtain ⟨f, rfl⟩ : ∃ f, fuel = f + 1 := ⟨fuel - 1, by omega⟩
    rw [fX8_readsPeople_L9, show Int32.toNatClampNeg 0 = 0 from rfl, hf 1 (by decide), T2, e, if_neg (by decide), if_neg (by decide), if_pos (by decide)]
    rfl
  | succ j ih =>
    intro n h hn hl hl0 hcl hf hf0 h02 hv
    have Th : q_TY l0 l1 b0 b1 h := T.eq (hf 1 (by decide)) (hf 2 (by decide))
    have hn6 : ¬ nI n = (6 : Int32) := fun q => absurd ((qn_eq (b := 6) (by omega) (by omega)).mp q) (by omega)
    have gn : mm_gd (nI n) 7 = true := qn_gd (by omega) (by omega)
    have cn : (nI n).toNatClampNeg = n := qn_c (by omega)
    -- one row
    have st : ∀ f, fX8_readsPeople_L9 N k (f + 1) h (nI n) (nI (5 * n)) = fX8_readsPeople_L33 N (nI n) (nI (5 * n)) (fun h12 => mm_call (fX8_byteAt N h12 (0 : Int32) (nI (5 * n))) (fun h13 r14 => mm_call (fX8_byteAt N h13 (0 : Int32) ((nI (5 * n) + (1 : Int32)))) (fun h16 r17 => if mm_gd (nI n) 7 = true then (mm_let (mm_up h16 3 (nI n).toNatClampNeg ((((10 : Int32) * (r14 - (48 : Int32))) + r17) - (48 : Int32))) (fun h20 => mm_call (fX8_byteAt N h20 (0 : Int32) ((nI (5 * n) + (2 : Int32)))) (fun h21 r22 => mm_call (fX8_byteAt N h21 (0 : Int32) ((nI (5 * n) + (3 : Int32)))) (fun h24 r25 => mm_let (mm_up h24 4 (nI n).toNatClampNeg ((((10 : Int32) * (r22 - (48 : Int32))) + r25) - (48 : Int32))) (fun h27 => if (nI (5 * n) + 4) = (h27 1 (0 : Int32).toNatClampNeg) then (mm_let (mm_up h27 0 2 (nI n + 1)) (fun h33 => some (h33, (-1 : Int32)))) else (mm_call (fX8_byteAt N h27 (0 : Int32) (nI (5 * n) + 4)) (fun h29 r30 => if r30 = (59 : Int32) then (fX8_readsPeople_L9 N k f h29 (nI n + 1) ((nI (5 * n) + 4) + 1)) else (some (h29, (nI (5 * n) + 4)))))))))) else none))) N h (0 : Int32) := by
      intro f
      rw [fX8_readsPeople_L9, if_neg hn6]
      by_cases z : nI (5 * n) < h 1 (Int32.toNatClampNeg 0)
      · rw [if_pos z]
      · rw [if_neg z, if_neg]
        intro q
        have : 5 * n = 0 := by
          have := (qn_le (a := 5 * n) (b := 0) (by omega) (by omega)).mp q
          omega
        rw [this, show Int32.toNatClampNeg 0 = 0 from rfl, hf 1 (by decide), T2] at z
        exact z ((qn_lt (by omega) (by omega)).mpr hl0)
    rcases hc : s_fi (fun d => !t_fg l0 b0 (5 * n + d)) 4 0 with _ | d
    · -- four figures
      have hd : ∀ d, d < 4 → t_fg l0 b0 (5 * n + d) = true := fun d hd => by
        have := s_fi_0 _ 4 0 hc d (Nat.zero_le _) (by omega)
        simpa using this
      simp only [t_fg, decide_eq_true_eq] at hd
      have d0 := hd 0 (by omega)
      have d1 := hd 1 (by omega)
      have d2 := hd 2 (by omega)
      have d3 := hd 3 (by omega)
      rw [Nat.add_zero] at d0
      have cl4 : ∀ x, x < 5 * n + 4 → t_bad 4 6 false b0 x = false := by
        intro x hx
        by_cases hx2 : x < 5 * n
        · exact hcl x hx2
        · have hd' := hd (x - 5 * n) (by omega)
          rw [show 5 * n + (x - 5 * n) = x by omega] at hd'
          unfold t_bad t_good
          rw [if_neg (by omega)]
          have : ¬ 6 ≤ x / (4 + 1) := by omega
          simp [t_fit, hd'.2, this]
      have val : ∀ a c : Nat, 48 ≤ a → 48 ≤ c → (10 : Int32) * (nI a - 48) + nI c - 48 = nI (10 * (a - 48) + (c - 48)) := by
        intro a c h1 h2
        rw [show (48 : Int32) = nI 48 from rfl, show (10 : Int32) = nI 10 from rfl, qn_sub h1, qn_mul, nI_add, qn_sub (by omega)]
        congr 1
        omega
      -- the memory behind the row
      have mk : ∀ hh : mm_M, hh = mm_up (mm_up h 3 n (nI (10 * (b0 (5 * n) - 48) + (b0 (5 * n + 1) - 48)))) 4 n (nI (10 * (b0 (5 * n + 2) - 48) + (b0 (5 * n + 3) - 48))) → q_fr [0, 3, 4] hy hh ∧ (∀ x, x ≠ 2 → hh 0 x = hy 0 x) ∧ hh 0 2 = nI 0 ∧ ∀ p, p < n + 1 → hh 3 p = nI (10 * (b0 (5 * p) - 48) + (b0 (5 * p + 1) - 48)) ∧ hh 4 p = nI (10 * (b0 (5 * p + 2) - 48) + (b0 (5 * p + 3) - 48)) := by
        rintro hh rfl
        refine ⟨?_, ?_, ?_, ?_⟩
        · exact (hf.tr (q_fr.up (S := [3]) (by simp)) (U := [0, 3, 4]) (fun _ q => q) (by decide)).tr (q_fr.up (S := [4]) (by simp)) (fun _ q => q) (by decide)
        · intro x hx
          rw [mm_up_ne _ _ _ (by decide), mm_up_ne _ _ _ (by decide), hf0 x hx]
        · rw [mm_up_ne _ _ _ (by decide), mm_up_ne _ _ _ (by decide), h02]
        · intro p hp
          by_cases e : p = n
          · subst e; simp [q_up]
          · have := hv p (by omega)
            simp [q_up, e, this]
      obtain ⟨m1, m2, m3, m4⟩ := mk _ rfl
      have T1' : q_TY l0 l1 b0 b1 (mm_up h 3 n (nI (10 * (b0 (5 * n) - 48) + (b0 (5 * n + 1) - 48)))) := Th.eq (mm_up_ne _ _ _ (by decide)) (mm_up_ne _ _ _ (by decide))
      have T2' : q_TY l0 l1 b0 b1 (mm_up (mm_up h 3 n (nI (10 * (b0 (5 * n) - 48) + (b0 (5 * n + 1) - 48)))) 4 n (nI (10 * (b0 (5 * n + 2) - 48) + (b0 (5 * n + 3) - 48)))) := T1'.eq (mm_up_ne _ _ _ (by decide)) (mm_up_ne _ _ _ (by decide))
      have st2 : ∀ f, fX8_readsPeople_L9 N k (f + 1) h (nI n) (nI (5 * n)) = if 5 * n + 4 = l0 then some (mm_up (mm_up (mm_up h 3 n (nI (10 * (b0 (5 * n) - 48) + (b0 (5 * n + 1) - 48)))) 4 n (nI (10 * (b0 (5 * n + 2) - 48) + (b0 (5 * n + 3) - 48)))) 0 2 (nI (n + 1)), -1) else if b0 (5 * n + 4) = 59 then fX8_readsPeople_L9 N k f (mm_up (mm_up h 3 n (nI (10 * (b0 (5 * n) - 48) + (b0 (5 * n + 1) - 48)))) 4 n (nI (10 * (b0 (5 * n + 2) - 48) + (b0 (5 * n + 3) - 48)))) (nI (n + 1)) (nI (5 * (n + 1))) else some (mm_up (mm_up h 3 n (nI (10 * (b0 (5 * n) - 48) + (b0 (5 * n + 1) - 48)))) 4 n (nI (10 * (b0 (5 * n + 2) - 48) + (b0 (5 * n + 3) - 48))), nI (5 * n + 4)) := by
        intro f
        have e1 : nI (5 * n) + 1 = nI (5 * n + 1) := nI_1 _
        have e2 : nI (5 * n) + 2 = nI (5 * n + 2) := nI_add _ 2
        have e3 : nI (5 * n) + 3 = nI (5 * n + 3) := nI_add _ 3
        have e4 : nI (5 * n) + 4 = nI (5 * n + 4) := nI_add _ 4
        rw [st, show (0 : Int32) = nI 0 from rfl, q8_r33_L Th (by omega) _ 4 N 0 rfl (by omega), hc, if_pos rfl, show (nI 0 : Int32) = 0 from rfl, q8_byte0 Th (by omega), mm_call_some, e1, q8_byte0 Th (by omega), mm_call_some, if_pos gn, cn, if_pos d0.1, if_pos d1.1, val _ _ d0.2.1 d1.2.1, mm_let, e2, q8_byte0 T1' (by omega), mm_call_some, e3, q8_byte0 T1' (by omega), mm_call_some, if_pos d2.1, if_pos d3.1, val _ _ d2.2.1 d3.2.1, mm_let, e4, show Int32.toNatClampNeg 0 = 0 from rfl, T2'.2.2.1, q8_byte0 T2' (by omega), mm_call_some, mm_let, nI_1, nI_1]
        simp only [qn_eq (show 5 * n + 4 < 100000 by omega) (show l0 < 100000 by omega)]
        by_cases z : 5 * n + 4 = l0
        · rw [if_pos z, if_pos z]
        · rw [if_neg z, if_neg z, if_pos (show 5 * n + 4 < l0 by omega), show 5 * n + 4 + 1 = 5 * (n + 1) by omega]
          have hb := (T4 (5 * n + 4) (by omega)).2
          simp only [show (59 : Int32) = nI 59 from rfl, qn_eq (show b0 (5 * n + 4) < 100000 by omega) (show 59 < 100000 by omega)]
      by_cases z : 5 * n + 4 = l0
      · have e : t_fault 4 6 false b0 l0 = 0 := by
          rw [t_fault_end (by decide) (by omega) (fun x hx => cl4 x (by omega)), if_pos (by omega)]
        have en : t_n l0 b0 = n + 1 := by
          unfold t_n
          rw [if_pos e]
          omega
        refine ⟨mm_up (mm_up (mm_up h 3 n (nI (10 * (b0 (5 * n) - 48) + (b0 (5 * n + 1) - 48)))) 4 n (nI (10 * (b0 (5 * n + 2) - 48) + (b0 (5 * n + 3) - 48)))) 0 2 (nI (n + 1)), ?_, m1.tr (q_fr.up (S := [0]) (k := 2) (v := nI (n + 1)) (by simp)) (fun _ q => q) (by decide), fun x hx => ?_, ?_, fun p hp => ?_⟩
        rotate_left
        · rw [q_up, if_pos rfl, if_neg hx, m2 x hx]
        · rw [en, q_up, if_pos rfl, if_pos rfl]
        rotate_left
        · intro fuel hfu
          obtain ⟨f, rfl⟩ : ∃ f, fuel = f + 1 := ⟨fuel - 1, by omega⟩
          rw [st2, if_pos z, e]
          rfl
        · rw [en] at hp
          have := m4 p hp
          unfold t_pu t_ap
          rw [en, if_pos hp, if_pos hp, mm_up_ne _ _ _ (by decide), mm_up_ne _ _ _ (by decide)]
          exact this
      · by_cases z2 : b0 (5 * n + 4) = 59
        · have cl5 : ∀ x, x < 5 * (n + 1) → t_bad 4 6 false b0 x = false := by
            intro x hx
            by_cases hx2 : x < 5 * n + 4
            · exact cl4 x hx2
            · have : x = 5 * n + 4 := by omega
              subst this
              unfold t_bad t_good
              rw [if_pos (by omega)]
              have : ¬ 6 ≤ (5 * n + 4) / (4 + 1) := by omega
              simp [z2, this]
          obtain ⟨h', e1, e2⟩ := ih (n + 1) _ (by omega) (by omega) hl0 cl5 m1 m2 m3 m4
          refine ⟨h', ?_, e2⟩
          intro fuel hfu
          obtain ⟨f, rfl⟩ : ∃ f, fuel = f + 1 := ⟨fuel - 1, by omega⟩
          rw [st2, if_neg z, if_pos z2]
          exact e1 f (by omega)
        · have e : t_fault 4 6 false b0 l0 = 5 * n + 4 + 1 := t_fault_at (by decide) cl4 (by omega) (by
            unfold t_bad t_good
            rw [if_pos (by omega)]
            simp [z2])
          have en : t_n l0 b0 = 0 := by unfold t_n; rw [e, if_neg (by omega)]
          refine ⟨_, ?_, m1, m2, by rw [en, m3], fun p hp => by rw [en] at hp; exact absurd hp (Nat.not_lt_zero p)⟩
          intro fuel hfu
          obtain ⟨f, rfl⟩ : ∃ f, fuel = f + 1 := ⟨fuel - 1, by omega⟩
          rw [st2, if_neg z, if_neg z2, e, q_ixs]
    · obtain ⟨-, c1, c2, c3⟩ := s_fi_spec _ 4 0 d hc
      have hd : ∀ x, x < d → t_fg l0 b0 (5 * n + x) = true := fun x hx => by
        have := c3 x (Nat.zero_le _) hx
        simpa using this
      simp only [t_fg, decide_eq_true_eq] at hd
      have cl : ∀ x, x < 5 * n + d → t_bad 4 6 false b0 x = false := by
        intro x hx
        by_cases hx2 : x < 5 * n
        · exact hcl x hx2
        · have hd' := hd (x - 5 * n) (by omega)
          rw [show 5 * n + (x - 5 * n) = x by omega] at hd'
          unfold t_bad t_good
          rw [if_neg (by omega)]
          have : ¬ 6 ≤ x / (4 + 1) := by omega
          simp [t_fit, hd'.2, this]
      have e : t_fault 4 6 false b0 l0 = 5 * n + d + 1 := by
        by_cases z : 5 * n + d < l0
        · refine t_fault_at (by decide) cl z ?_
          unfold t_bad t_good
          rw [if_neg (by omega)]
          simp only [t_fg, z, true_and] at c2
          simpa [t_fit] using Or.inl (by simpa using c2)
        · have hle : l0 = 5 * n + d := by
            by_cases hd0 : d = 0
            · omega
            · have := (hd (d - 1) (by omega)).1
              omega
          rw [t_fault_end (by decide) (by omega) (fun x hx => cl x (by omega)), if_neg (by omega), hle]
      have en : t_n l0 b0 = 0 := by unfold t_n; rw [e, if_neg (by omega)]
      refine ⟨h, ?_, hf, hf0, by rw [en, h02], fun p hp => by rw [en] at hp; exact absurd hp (Nat.not_lt_zero p)⟩
      intro fuel hfu
      obtain ⟨f, rfl⟩ : ∃ f, fuel = f + 1 := ⟨fuel - 1, by omega⟩
      rw [st, show (0 : Int32) = nI 0 from rfl, q8_r33_L Th (by omega) _ 4 N 0 rfl (by omega), hc, if_neg (by omega), Nat.add_sub_cancel, e, q_ixs]
theorem q8_rp (hN : 100 ≤ N) (T : q_TY l0 l1 b0 b1 hy) :
    ∃ h', fX8_readsPeople N hy = some (h', q_ix (t_fault 4 6 false b0 l0)) ∧ q_fr [0, 3, 4] hy h' ∧ (∀ x, x ≠ 2 → h' 0 x = hy 0 x) ∧ h' 0 2 = nI (t_n l0 b0) ∧ ∀ p, p < t_n l0 b0 → h' 3 p = nI (t_pu l0 b0 p) ∧ h' 4 p = nI (t_ap l0 b0 p) := by
  have f1 : q_fr [0, 3, 4] hy (mm_up hy 0 2 0) := q_fr.up (by decide)
  have f10 : ∀ x, x ≠ 2 → mm_up hy 0 2 0 0 x = hy 0 x := fun x hx => by simp [q_up, hx]
  have Th : q_TY l0 l1 b0 b1 (mm_up hy 0 2 0) := T.eq (f1 1 (by decide)) (f1 2 (by decide))
  unfold fX8_readsPeople
  rw [mm_let]
  by_cases hl : 0 < l0
  · obtain ⟨h', e1, e2, e3, e4⟩ := q8_rp_L (N := N) hN Th (fun h58 => some (h58, (-1 : Int32))) 6 0 (mm_up hy 0 2 0) rfl (by omega) hl (fun x hx => absurd hx (by omega)) q_fr.rf (fun _ _ => rfl) (by simp [q_up, nI_0]) (fun p hp => absurd hp (Nat.not_lt_zero p))
    exact ⟨h', e1 N (by omega), f1.tr e2 (fun _ q => q) (fun _ q => q), fun x hx => (e3 x hx).trans (f10 x hx), e4⟩
  · have hl : l0 = 0 := by omega
    subst hl
    have e : t_fault 4 6 false b0 0 = 0 := rfl
    have en : t_n 0 b0 = 0 := rfl
    refine ⟨mm_up hy 0 2 0, ?_, f1, f10, by rw [en]; simp [q_up, nI_0], fun p hp => by rw [en] at hp; exact absurd hp (Nat.not_lt_zero p)⟩
    obtain ⟨f, rfl⟩ : ∃ f, N = f + 1 := ⟨N - 1, by omega⟩
    rw [fX8_readsPeople_L9, show Int32.toNatClampNeg 0 = 0 from rfl, Th.2.2.1, if_neg (by decide), if_pos (by decide), e]
    rfl
end Q11d
