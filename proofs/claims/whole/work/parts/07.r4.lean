/-! PURE 11e: ROUNDS, as the reference reads them -/
section Q11e
variable {N n R law ti : Nat} {pu ap ho wo : Nat → Nat} {se : Nat → Nat → Nat} {hx hy : mm_M} {l0 l1 : Nat} {b0 b1 : Nat → Nat}
def t_fs (l : Nat) (b : Nat → Nat) (i : Nat) : Bool := decide (i < l ∧ (b i = 45 ∨ (48 ≤ b i ∧ b i ≤ 53)))
theorem q8_r55r_L {r at0 : Nat} (hr : r < 8) (hn : n ≤ 6) (ha : at0 ≤ 60) :
    ∀ j p h, p + j = n → q_TY l0 l1 b0 b1 h → h 0 2 = nI n →
      ∃ h', q_fr [5] h h' ∧ (∀ x, (x < 6 * r + p ∨ 6 * r + 6 ≤ x) → h' 5 x = h 5 x) ∧
        (s_fi (fun d => !t_fs l1 b1 (at0 + d)) j p = 0 → ∀ q, p ≤ q → q < n → h' 5 (6 * r + q) = q_ix (if b1 (at0 + q) = 45 then 0 else b1 (at0 + q) - 47)) ∧
        ∀ k fuel, j < fuel → fX8_readsRounds_L55 N (nI r) k fuel h (nI (at0 + p)) (nI p) = if s_fi (fun d => !t_fs l1 b1 (at0 + d)) j p = 0 then k h' (nI (at0 + n)) else some (h', nI (at0 + (s_fi (fun d => !t_fs l1 b1 (at0 + d)) j p - 1))) := by
  intro j
  induction j with
  | zero =>
    intro p h hp T h2
    have : p = n := by omega
    subst this
    refine ⟨h, q_fr.rf, fun _ _ => rfl, fun _ q h1 h2 => absurd h1 (by omega), ?_⟩
    intro k fuel hfu
    obtain ⟨f, rfl⟩ : ∃ f, fuel = f + 1 := ⟨fuel - 1, by omega⟩
    have d1 : nI p ≤ nI p := (qn_le (by omega) (by omega)).mpr (Nat.le_refl _)
    rw [fX8_readsRounds_L55, h2, if_pos d1, s_fi, if_pos rfl]
  | succ j ih =>
    intro p h hp T h2
    have d1 : ¬ nI n ≤ nI p := fun q => absurd ((qn_le (by omega) (by omega)).mp q) (by omega)
    have es : s_fi (fun d => !t_fs l1 b1 (at0 + d)) (j + 1) p = if (!t_fs l1 b1 (at0 + p)) = true then p + 1 else s_fi (fun d => !t_fs l1 b1 (at0 + d)) j (p + 1) := rfl
    have g : mm_gd (nI (6 * r + p)) 54 = true := qn_gd (by omega) (by omega)
    have c : (nI (6 * r + p)).toNatClampNeg = 6 * r + p := qn_c (by omega)
    rw [es]
    by_cases z : t_fs l1 b1 (at0 + p) = true
    · have z' : ¬ (!t_fs l1 b1 (at0 + p)) = true := by rw [z]; decide
      rw [if_neg z']
      simp only [t_fs, decide_eq_true_eq] at z
      have hb := (T.2.2.2.2.2 _ z.1).2
      have stp : ∀ v : Int32, v = q_ix (if b1 (at0 + p) = 45 then 0 else b1 (at0 + p) - 47) → (∀ k f, fX8_readsRounds_L55 N (nI r) k (f + 1) h (nI (at0 + p)) (nI p) = fX8_readsRounds_L55 N (nI r) k f (mm_up h 5 (6 * r + p) v) (nI (at0 + (p + 1))) (nI (p + 1))) →
          ∃ h', q_fr [5] h h' ∧ (∀ x, (x < 6 * r + p ∨ 6 * r + 6 ≤ x) → h' 5 x = h 5 x) ∧
        (s_fi (fun d => !t_fs l1 b1 (at0 + d)) j (p + 1) = 0 → ∀ q, p ≤ q → q < n → h' 5 (6 * r + q) = q_ix (if b1 (at0 + q) = 45 then 0 else b1 (at0 + q) - 47)) ∧
        ∀ k fuel, j + 1 < fuel → fX8_readsRounds_L55 N (nI r) k fuel h (nI (at0 + p)) (nI p) = if s_fi (fun d => !t_fs l1 b1 (at0 + d)) j (p + 1) = 0 then k h' (nI (at0 + n)) else some (h', nI (at0 + (s_fi (fun d => !t_fs l1 b1 (at0 + d)) j (p + 1) - 1))) := by
        intro v hv hs
        obtain ⟨h', e1, e2, e3, e4⟩ := ih (p + 1) (mm_up h 5 (6 * r + p) v) (by omega) (T.eq (mm_up_ne _ _ _ (by decide)) (mm_up_ne _ _ _ (by decide))) (by rw [mm_up_ne _ _ _ (by decide), h2])
        refine ⟨h', (q_fr.up (by simp)).tr e1 (fun _ q => q) (fun _ q => q), ?_, ?_, ?_⟩
        · intro x hx
          rw [e2 x (by omega), q_up, if_pos rfl, if_neg (by omega)]
        · intro h0 q hq1 hq2
          by_cases e : q = p
          · subst e
            rw [e2 _ (by omega), q_up, if_pos rfl, if_pos rfl, hv]
          · exact e3 h0 q (by omega) hq2
        · intro k fuel hfu
          obtain ⟨f, rfl⟩ : ∃ f, fuel = f + 1 := ⟨fuel - 1, by omega⟩
          rw [hs, e4 k f (by omega)]
      by_cases y : b1 (at0 + p) = 45
      · refine stp (-1) (by rw [if_pos y]; rfl) ?_
        intro k f
        have y1 : nI 45 = (45 : Int32) := rfl
        rw [fX8_readsRounds_L55, h2, if_neg d1, q8_byte1 T (by omega), mm_call_some, if_pos z.1, y, if_pos y1, qn_6, if_pos g, c, mm_let, nI_1, nI_1]
        rfl
      · refine stp (nI (b1 (at0 + p)) - 48) ?_ ?_
        · rw [if_neg y, show (48 : Int32) = nI 48 from rfl, qn_sub (by omega), show b1 (at0 + p) - 47 = b1 (at0 + p) - 48 + 1 by omega, q_ixs]
        · intro k f
          have y1 : ¬ nI (b1 (at0 + p)) = (45 : Int32) := fun q => y ((qn_eq (b := 45) (by omega) (by omega)).mp q)
          have y2 : 48 ≤ b1 (at0 + p) ∧ b1 (at0 + p) ≤ 53 := by omega
          have y3 : ¬ (1 : Int32) = 0 := by decide
          have y4 : fX8_in N h (nI (b1 (at0 + p))) 48 53 = some (h, 1) := by
            have := q8_inN (N := N) (h := h) (x := b1 (at0 + p)) (l := 48) (m := 53) (by omega) (by omega) (by omega)
            rw [if_pos y2] at this
            exact this
          rw [fX8_readsRounds_L55, h2, if_neg d1, q8_byte1 T (by omega), mm_call_some, if_pos z.1, if_neg y1, y4, mm_call_some, if_neg y3, qn_6, if_pos g, c, mm_let, nI_1, nI_1]
          rfl
    · have z' : (!t_fs l1 b1 (at0 + p)) = true := by simpa using z
      have z2 : ¬ p + 1 = 0 := by omega
      rw [if_pos z']
      refine ⟨h, q_fr.rf, fun _ _ => rfl, fun h0 => absurd h0 (by omega), ?_⟩
      intro k fuel hfu
      obtain ⟨f, rfl⟩ : ∃ f, fuel = f + 1 := ⟨fuel - 1, by omega⟩
      rw [fX8_readsRounds_L55, h2, if_neg d1, q8_byte1 T (by omega), mm_call_some, if_neg z2, Nat.add_sub_cancel]
      by_cases y : at0 + p < l1
      · have hb := (T.2.2.2.2.2 _ y).2
        simp only [t_fs, decide_eq_true_eq, y, true_and] at z
        have y1 : ¬ nI (b1 (at0 + p)) = (45 : Int32) := fun q => z (Or.inl ((qn_eq (b := 45) (by omega) (by omega)).mp q))
        have y4 : fX8_in N h (nI (b1 (at0 + p))) 48 53 = some (h, 0) := by
          have := q8_inN (N := N) (h := h) (x := b1 (at0 + p)) (l := 48) (m := 53) (by omega) (by omega) (by omega)
          rw [if_neg (fun q => z (Or.inr q))] at this
          exact this
        rw [if_pos y, if_neg y1, y4, mm_call_some, if_pos rfl]
      · have y1 : ¬ (-1 : Int32) = 45 := by decide
        have y4 : fX8_in N h (-1) 48 53 = some (h, 0) := by
          unfold fX8_in
          rw [if_pos (by decide)]
        rw [if_neg y, if_neg y1, y4, mm_call_some, if_pos rfl]
theorem q8_rr_L (hN : 100 ≤ N) (T : q_TY l0 l1 b0 b1 hy) (hn0 : 0 < n) (hn : n ≤ 6) (h2 : hy 0 2 = nI n) (k : mm_M → Option (mm_M × Int32)) :
    ∀ j r h, r + j = 8 → r * (n + 1) ≤ l1 → 0 < l1 → (∀ x, x < r * (n + 1) → t_bad n 8 true b1 x = false) → q_fr [0, 5] hy h → (∀ x, x ≠ 5 → h 0 x = hy 0 x) → h 0 5 = nI 0 → (∀ r', r' < r → ∀ p, p < n → h 5 (6 * r' + p) = q_ix (t_se n b1 r' p)) →
      ∃ h', (∀ fuel, j < fuel → fX8_readsRounds_L31 N k fuel h (nI r) (nI (r * (n + 1))) = some (h', q_ix (t_fault n 8 true b1 l1))) ∧ q_fr [0, 5] hy h' ∧ (∀ x, x ≠ 5 → h' 0 x = hy 0 x) ∧ h' 0 5 = nI (t_R n l1 b1) ∧ ∀ r, r < t_R n l1 b1 → ∀ p, p < n → h' 5 (6 * r + p) = q_ix (t_se n b1 r p) := by
  obtain ⟨T0, T1, T2, T3, T4, T5⟩ := id T
  have nz : ∀ {x : Nat}, t_fault n 8 true b1 l1 = x + 1 → t_R n l1 b1 = 0 := by
    intro x hx
    unfold t_R
    rw [if_neg (by omega), hx, if_neg (by omega)]
  intro j
  induction j with
  | zero =>
    intro r h hr hl hl0 hcl hf hf0 h05 hv
    have hr : r = 8 := by omega
    subst hr
    have e : t_fault n 8 true b1 l1 = 8 * (n + 1) + 1 := by
      by_cases z : 8 * (n + 1) < l1
      · refine t_fault_at hn0 hcl z ?_
        unfold t_bad
        have := (t_mod (r := 8) (w := n) (p := 0) (by omega)).2
        rw [Nat.add_zero] at this
        rw [this]
        simp
      · have hle : l1 = 8 * (n + 1) := by omega
        have := (t_mod (r := 8) (w := n) (p := 0) (by omega)).1
        rw [Nat.add_zero, ← hle] at this
        rw [t_fault_end hn0 (by omega) (fun x hx => hcl x (by omega)), if_neg (by omega), hle]
    have en := nz e
    refine ⟨h, ?_, hf, hf0, by rw [en, h05], fun p hp => by rw [en] at hp; exact absurd hp (Nat.not_lt_zero p)⟩
    intro fuel hfu
    obtain ⟨f, rfl⟩ : ∃ f, fuel = f + 1 := ⟨fuel - 1, by omega⟩
    have y1 : nI 8 = (8 : Int32) := rfl
    have y2 : ¬ nI (8 * (n + 1)) ≤ 0 := fun q => absurd ((qn_le (b := 0) (by omega) (by omega)).mp q) (by omega)
    rw [fX8_readsRounds_L31, if_pos y1, if_neg y2, ite_self, e, q_ixs]
  | succ j ih =>
    intro r h hr hl hl0 hcl hf hf0 h05 hv
    have Th : q_TY l0 l1 b0 b1 h := T.eq (hf 1 (by decide)) (hf 2 (by decide))
    have hr7 : r ≤ 7 := by omega
    obtain ⟨A, hA⟩ : ∃ A, A = r * (n + 1) := ⟨_, rfl⟩
    have hA1 : (r + 1) * (n + 1) = A + (n + 1) := by rw [hA, Nat.add_mul]; omega
    have hA2 : A ≤ 49 := by rw [hA]; exact Nat.mul_le_mul hr7 (show n + 1 ≤ 7 by omega)
    have hm : ∀ {p}, p < n + 1 → (A + p) % (n + 1) = p ∧ (A + p) / (n + 1) = r := fun hp => by rw [hA]; exact t_mod hp
    have hA0 : A = 0 → r = 0 := by
      intro q
      rw [hA] at q
      rcases Nat.mul_eq_zero.mp q with q | q
      · exact q
      · omega
    rw [← hA] at hl hcl ⊢
    have hn8 : ¬ nI r = (8 : Int32) := fun q => absurd ((qn_eq (b := 8) (by omega) (by omega)).mp q) (by omega)
    have st : ∀ f, fX8_readsRounds_L31 N k (f + 1) h (nI r) (nI A) = fX8_readsRounds_L55 N (nI r) (fun h20 v21 => if v21 = (h20 1 (1 : Int32).toNatClampNeg) then (mm_let (mm_up h20 0 5 (nI r + 1)) (fun h27 => some (h27, (-1 : Int32)))) else (mm_call (fX8_byteAt N h20 (1 : Int32) v21) (fun h23 r24 => if r24 = (59 : Int32) then (fX8_readsRounds_L31 N k f h23 (nI r + 1) (v21 + 1)) else (some (h23, v21))))) N h (nI A) (0 : Int32) := by
      intro f
      rw [fX8_readsRounds_L31, if_neg hn8]
      by_cases z : nI A < h 1 (Int32.toNatClampNeg 1)
      · rw [if_pos z]
      · rw [if_neg z, if_neg]
        intro q
        have : A = 0 := by
          have := (qn_le (a := A) (b := 0) (by omega) (by omega)).mp q
          omega
        rw [this, show Int32.toNatClampNeg 1 = 1 from rfl, hf 1 (by decide), T3] at z
        exact z ((qn_lt (by omega) (by omega)).mpr hl0)
    have h2h : h 0 2 = nI n := by rw [hf0 2 (by decide), h2]
    obtain ⟨h1, e1, e2, e3, e4⟩ := q8_r55r_L (N := N) (l0 := l0) (l1 := l1) (b0 := b0) (b1 := b1) (r := r) (at0 := A) (by omega) hn (by omega) n 0 h (by omega) Th h2h
    rw [Nat.add_zero] at e4
    have f1 : q_fr [0, 5] hy h1 := hf.tr e1 (fun _ q => q) (by decide)
    have f10 : h1 0 = h 0 := e1 0 (by decide)
    have Th1 : q_TY l0 l1 b0 b1 h1 := T.eq (f1 1 (by decide)) (f1 2 (by decide))
    have cl : ∀ d, d ≤ n → (∀ x, x < d → t_fs l1 b1 (A + x) = true) → ∀ x, x < A + d → t_bad n 8 true b1 x = false := by
      intro d hdn hd x hx
      by_cases hx2 : x < A
      · exact hcl x hx2
      · have hd' := hd (x - A) (by omega)
        have hmm := hm (p := x - A) (by omega)
        rw [show A + (x - A) = x by omega] at hd' hmm
        simp only [t_fs, decide_eq_true_eq] at hd'
        unfold t_bad t_good
        rw [hmm.1, hmm.2, if_neg (by omega)]
        simp [t_fit, hd'.2, show r < 8 by omega]
    rcases hc : s_fi (fun d => !t_fs l1 b1 (A + d)) n 0 with _ | d
    · have hd : ∀ d, d < n → t_fs l1 b1 (A + d) = true := fun d hd => by
        have := s_fi_0 _ n 0 hc d (Nat.zero_le _) (by omega)
        simpa using this
      have cl4 := cl n (Nat.le_refl _) hd
      have hAn : A + n ≤ l1 := by
        have := hd (n - 1) (by omega)
        simp only [t_fs, decide_eq_true_eq] at this
        omega
      have hv1 : ∀ r', r' < r + 1 → ∀ p, p < n → h1 5 (6 * r' + p) = q_ix (t_se n b1 r' p) := by
        intro r' hr' p hp
        by_cases e : r' = r
        · subst e
          rw [e3 hc p (Nat.zero_le _) hp, t_se, ← hA]
        · rw [e2 _ (by omega), hv r' (by omega) p hp]
      have st2 : ∀ f, fX8_readsRounds_L31 N k (f + 1) h (nI r) (nI A) = if A + n = l1 then some (mm_up h1 0 5 (nI (r + 1)), -1) else if b1 (A + n) = 59 then fX8_readsRounds_L31 N k f h1 (nI (r + 1)) (nI ((r + 1) * (n + 1))) else some (h1, nI (A + n)) := by
        intro f
        rw [st, show (0 : Int32) = nI 0 from rfl, e4 _ N (by omega), hc, if_pos rfl, show Int32.toNatClampNeg 1 = 1 from rfl, Th1.2.2.2.1, q8_byte1 Th1 (by omega), mm_call_some, mm_let, nI_1, nI_1]
        simp only [qn_eq (show A + n < 100000 by omega) (show l1 < 100000 by omega)]
        by_cases z : A + n = l1
        · rw [if_pos z, if_pos z]
        · have hb := (T5 (A + n) (by omega)).2
          rw [if_neg z, if_neg z, if_pos (show A + n < l1 by omega), show A + n + 1 = (r + 1) * (n + 1) by omega]
          simp only [show (59 : Int32) = nI 59 from rfl, qn_eq (show b1 (A + n) < 100000 by omega) (show 59 < 100000 by omega)]
      by_cases z : A + n = l1
      · have hmm := hm (p := n) (by omega)
        rw [z] at hmm
        have e : t_fault n 8 true b1 l1 = 0 := by
          rw [t_fault_end hn0 (by omega) (fun x hx => cl4 x (by omega)), if_pos hmm.1]
        have en : t_R n l1 b1 = r + 1 := by
          unfold t_R
          rw [if_neg (by omega), if_pos e, show l1 + 1 = (r + 1) * (n + 1) by omega, Nat.mul_div_cancel _ (by omega)]
        refine ⟨mm_up h1 0 5 (nI (r + 1)), ?_, f1.tr (q_fr.up (S := [0]) (by simp)) (fun _ q => q) (by decide), ?_, ?_, ?_⟩
        · intro fuel hfu
          obtain ⟨f, rfl⟩ : ∃ f, fuel = f + 1 := ⟨fuel - 1, by omega⟩
          rw [st2, if_pos z, e]
          rfl
        · intro x hx
          rw [q_up, if_pos rfl, if_neg hx, f10, hf0 x hx]
        · rw [en, q_up, if_pos rfl, if_pos rfl]
        · intro r' hr' p hp
          rw [en] at hr'
          rw [mm_up_ne _ _ _ (by decide)]
          exact hv1 r' hr' p hp
      · have hmm := hm (p := n) (by omega)
        by_cases z2 : b1 (A + n) = 59
        · have cl5 : ∀ x, x < (r + 1) * (n + 1) → t_bad n 8 true b1 x = false := by
            intro x hx
            by_cases hx2 : x < A + n
            · exact cl4 x hx2
            · have : x = A + n := by omega
              subst this
              unfold t_bad t_good
              rw [hmm.1, hmm.2, if_pos rfl]
              simp [z2, show r < 8 by omega]
          obtain ⟨h', e1, e2⟩ := ih (r + 1) h1 (by omega) (by omega) hl0 cl5 f1 (fun x hx => by rw [f10, hf0 x hx]) (by rw [f10, h05]) hv1
          refine ⟨h', ?_, e2⟩
          intro fuel hfu
          obtain ⟨f, rfl⟩ : ∃ f, fuel = f + 1 := ⟨fuel - 1, by omega⟩
          rw [st2, if_neg z, if_pos z2]
          exact e1 f (by omega)
        · have e : t_fault n 8 true b1 l1 = A + n + 1 := t_fault_at hn0 cl4 (by omega) (by
            unfold t_bad t_good
            rw [hmm.1, if_pos rfl]
            simp [z2])
          have en := nz e
          refine ⟨h1, ?_, f1, fun x hx => by rw [f10, hf0 x hx], by rw [en, f10, h05], fun p hp => by rw [en] at hp; exact absurd hp (Nat.not_lt_zero p)⟩
          intro fuel hfu
          obtain ⟨f, rfl⟩ : ∃ f, fuel = f + 1 := ⟨fuel - 1, by omega⟩
          rw [st2, if_neg z, if_neg z2, e, q_ixs]
    · obtain ⟨-, c1, c2, c3⟩ := s_fi_spec _ n 0 d hc
      have hd : ∀ x, x < d → t_fs l1 b1 (A + x) = true := fun x hx => by
        have := c3 x (Nat.zero_le _) hx
        simpa using this
      have cl4 := cl d (by omega) hd
      have hmm := hm (p := d) (by omega)
      have e : t_fault n 8 true b1 l1 = A + d + 1 := by
        by_cases z : A + d < l1
        · refine t_fault_at hn0 cl4 z ?_
          unfold t_bad t_good
          rw [hmm.1, if_neg (by omega)]
          simp only [t_fs, z, true_and] at c2
          have c2 : t_fit true (b1 (A + d)) = false := by
            simp [t_fit] at c2 ⊢
            omega
          simp [c2]
        · have hle : l1 = A + d := by
            by_cases hd0 : d = 0
            · omega
            · have := hd (d - 1) (by omega)
              simp only [t_fs, decide_eq_true_eq] at this
              omega
          rw [t_fault_end hn0 (by omega) (fun x hx => cl4 x (by omega)), hle, hmm.1, if_neg (by omega)]
      have en := nz e
      refine ⟨h1, ?_, f1, fun x hx => by rw [f10, hf0 x hx], by rw [en, f10, h05], fun p hp => by rw [en] at hp; exact absurd hp (Nat.not_lt_zero p)⟩
      intro fuel hfu
      obtain ⟨f, rfl⟩ : ∃ f, fuel = f + 1 := ⟨fuel - 1, by omega⟩
      have y : ¬ d + 1 = 0 := by omega
      rw [st, show (0 : Int32) = nI 0 from rfl, e4 _ N (by omega), hc, if_neg y, Nat.add_sub_cancel, e, q_ixs]
theorem q8_rr (hN : 100 ≤ N) (T : q_TY l0 l1 b0 b1 hy) (hn : n ≤ 6) (h2 : hy 0 2 = nI n) :
    ∃ h', fX8_readsRounds N hy = some (h', q_ix (t_fault n 8 true b1 l1)) ∧ q_fr [0, 5] hy h' ∧ (∀ x, x ≠ 5 → h' 0 x = hy 0 x) ∧ h' 0 5 = nI (t_R n l1 b1) ∧ ∀ r, r < t_R n l1 b1 → ∀ p, p < n → h' 5 (6 * r + p) = q_ix (t_se n b1 r p) := by
  have f1 : q_fr [0, 5] hy (mm_up hy 0 5 0) := q_fr.up (by decide)
  have f10 : ∀ x, x ≠ 5 → mm_up hy 0 5 0 0 x = hy 0 x := fun x hx => by rw [q_up, if_pos rfl, if_neg hx]
  have f15 : mm_up hy 0 5 0 0 5 = nI 0 := by rw [q_up, if_pos rfl, if_pos rfl]; rfl
  have Th : q_TY l0 l1 b0 b1 (mm_up hy 0 5 0) := T.eq (f1 1 (by decide)) (f1 2 (by decide))
  have h2' : mm_up hy 0 5 0 0 2 = nI n := by rw [f10 2 (by decide), h2]
  unfold fX8_readsRounds
  rw [mm_let, h2']
  by_cases hn0 : n = 0
  · subst hn0
    have y0 : nI 0 = (0 : Int32) := rfl
    have en : t_R 0 l1 b1 = 0 := rfl
    refine ⟨mm_up hy 0 5 0, ?_, f1, f10, by rw [en]; exact f15, fun p hp => by rw [en] at hp; exact absurd hp (Nat.not_lt_zero p)⟩
    rw [if_pos y0, show Int32.toNatClampNeg 1 = 1 from rfl, Th.2.2.2.1]
    by_cases hl : l1 = 0
    · subst hl
      rw [if_pos (by decide)]
      rfl
    · have y1 : ¬ nI l1 ≤ 0 := fun q => absurd ((qn_le (b := 0) (by have := T.2.1; omega) (by omega)).mp q) (by omega)
      rw [if_neg y1]
      unfold t_fault
      rw [if_neg hl, if_pos rfl]
      rfl
  · have y0 : ¬ nI n = (0 : Int32) := fun q => hn0 ((qn_eq (b := 0) (by omega) (by omega)).mp q)
    rw [if_neg y0]
    by_cases hl : 0 < l1
    · obtain ⟨h', e1, e2, e3, e4⟩ := q8_rr_L (N := N) hN Th (by omega) hn h2' (fun h38 => some (h38, (-1 : Int32))) 8 0 (mm_up hy 0 5 0) rfl (by omega) hl (fun x hx => absurd hx (by omega)) q_fr.rf (fun _ _ => rfl) f15 (fun p hp => absurd hp (Nat.not_lt_zero p))
      rw [Nat.zero_mul] at e1
      exact ⟨h', e1 N (by omega), f1.tr e2 (fun _ q => q) (fun _ q => q), fun x hx => (e3 x hx).trans (f10 x hx), e4⟩
    · have hl : l1 = 0 := by omega
      subst hl
      have e : t_fault n 8 true b1 0 = 0 := rfl
      have en : t_R n 0 b1 = 0 := by
        unfold t_R
        rw [if_neg hn0, if_pos e, Nat.div_eq_of_lt (by omega)]
      refine ⟨mm_up hy 0 5 0, ?_, f1, f10, by rw [en]; exact f15, fun p hp => by rw [en] at hp; exact absurd hp (Nat.not_lt_zero p)⟩
      obtain ⟨f, rfl⟩ : ∃ f, N = f + 1 := ⟨N - 1, by omega⟩
      rw [fX8_readsRounds_L31, show Int32.toNatClampNeg 1 = 1 from rfl, Th.2.2.2.1, if_neg (by decide), if_pos (by decide), e]
      rfl
/-- the reference reads what is typed -/
theorem q8_RD (hN : 100 ≤ N) (T : q_TY l0 l1 b0 b1 hy) : q_RD N (hy 1) (hy 2) (t_n l0 b0) (t_R (t_n l0 b0) l1 b1) (t_fault 4 6 false b0 l0) (t_fault (t_n l0 b0) 8 true b1 l1) (t_pu l0 b0) (t_ap l0 b0) (t_se (t_n l0 b0) b1) := by
  obtain ⟨s1, -, -⟩ := t_n_spec (b := b0) T.1
  obtain ⟨r1, -, r3⟩ := t_R_spec (n := t_n l0 b0) (l := l1) (b := b1)
  refine ⟨s1, r1, fun p _ => t_pu_le T.1 p, ?_, ?_⟩
  · intro r hr p hp
    have := r3 r hr p hp
    unfold t_se
    split <;> omega
  · intro h hc1 hc2 t
    have Th : q_TY l0 l1 b0 b1 h := T.eq hc1 hc2
    obtain ⟨h1, e1, e2, e3, e4, e5⟩ := q8_rp (N := N) hN Th
    have Th1 : q_TY l0 l1 b0 b1 h1 := Th.eq (e2 1 (by decide)) (e2 2 (by decide))
    obtain ⟨h2, u1, u2, u3, u4, u5⟩ := q8_rr (N := N) hN Th1 s1 e4
    refine ⟨h2, ?_, e2.tr u2 (by decide) (by decide), ?_, ?_, u4, ?_, u5⟩
    · unfold fX8_faultOf
      rw [e1, mm_call_some, u1, mm_call_some]
      by_cases z : t = 0
      · rw [if_pos z, if_pos z]
      · rw [if_neg z, if_neg z]
    · intro j h1 h2
      rw [u3 j h2, e3 j h1]
    · rw [u3 2 (by decide), e4]
    · intro p hp
      rw [u2 3 (by decide), u2 4 (by decide)]
      exact e5 p hp
end Q11e
