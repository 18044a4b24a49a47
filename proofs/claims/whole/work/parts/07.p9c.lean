/-! PURE 9c: rest of the reference -/
section Q9c
variable {N n R law ti : Nat} {pu ap ho wo : Nat → Nat} {se : Nat → Nat → Nat} {hx hy : mm_M} {c1 c2 : Nat → Int32} {f0 f1 : Nat}
theorem q8_t27_L {row : Nat} {p1 p2 : Int32} (h2 : hy 0 2 = nI n) (hn : n ≤ 6) (hr : row < 4096) :
    ∀ j i h, i + j = n → q_fr [10] hy h → (∀ p, p < i → h 10 p = q_ix (s_ch n row p)) →
      ∃ h', (∀ k fuel, j < fuel → fX8_restOf_L27 N p1 p2 (nI row) k fuel h (nI i) = k h') ∧ q_fr [10] hy h' ∧ ∀ p, p < n → h' 10 p = q_ix (s_ch n row p) := by
  intro j
  induction j with
  | zero =>
    intro i h hi hf hv
    refine ⟨h, ?_, hf, fun p hp => hv p (by omega)⟩
    intro k fuel hfu
    obtain ⟨fu, rfl⟩ : ∃ f, fuel = f + 1 := ⟨fuel - 1, by omega⟩
    rw [fX8_restOf_L27, hf 0 (by decide), h2, if_pos ((qn_le (by omega) (by omega)).mpr (by omega))]
  | succ j ih =>
    intro i h hi hf hv
    obtain ⟨h', e1, e2⟩ := ih (i + 1) (mm_up h 10 i (q_ix (s_ch n row i))) (by omega) (hf.tr (q_fr.up (S := [10]) (by simp)) (fun _ q => q) (fun _ q => q)) (by
      intro p hp
      rw [q_up]
      by_cases e : p = i
      · simp [e]
      · simp [e, hv p (by omega)])
    refine ⟨h', ?_, e2⟩
    intro k fuel hfu
    obtain ⟨fu, rfl⟩ : ∃ f, fuel = f + 1 := ⟨fuel - 1, by omega⟩
    rw [fX8_restOf_L27, hf 0 (by decide), h2, if_neg (fun q => absurd ((qn_le (by omega) (by omega)).mp q) (by omega)), if_pos (qn_gd (by omega) (by omega)), qr_choice hn hr (by omega), mm_let, q_ixm, qn_c (by omega), nI_1]
    exact e1 k fu (by omega)
theorem q8_t73_L {row : Nat} {p1 p2 : Int32} {gn : Nat → Int32} (h2 : hy 0 2 = nI n) (hn : n ≤ 6) (hr : row < 4096) (hs : ∀ p, p < n → hy 10 p = q_ix (s_ch n row p)) (hg : ∀ p, p < n → gn p = if s_ch n row p = 0 then 0 else hy 7 p - hy 11 p) :
    ∀ j i h, i + j = n → q_fr [16] hy h → (∀ p, p < i → h 16 (6 * row + p) = gn p) → (∀ x, ¬ (6 * row ≤ x ∧ x < 6 * row + n) → h 16 x = hy 16 x) →
      ∃ h', (∀ k fuel, j < fuel → fX8_restOf_L73 N p1 p2 (nI row) k fuel h (nI i) = k h') ∧ q_fr [16] hy h' ∧ (∀ p, p < n → h' 16 (6 * row + p) = gn p) ∧ (∀ x, ¬ (6 * row ≤ x ∧ x < 6 * row + n) → h' 16 x = hy 16 x) := by
  intro j
  induction j with
  | zero =>
    intro i h hi hf hv hw
    refine ⟨h, ?_, hf, fun p hp => hv p (by omega), hw⟩
    intro k fuel hfu
    obtain ⟨fu, rfl⟩ : ∃ f, fuel = f + 1 := ⟨fuel - 1, by omega⟩
    rw [fX8_restOf_L73, hf 0 (by decide), h2, if_pos ((qn_le (by omega) (by omega)).mpr (by omega))]
  | succ j ih =>
    intro i h hi hf hv hw
    obtain ⟨h', e1, e2⟩ := ih (i + 1) (mm_up h 16 (6 * row + i) (gn i)) (by omega) (hf.tr (q_fr.up (S := [16]) (by simp)) (fun _ q => q) (fun _ q => q)) (by
      intro p hp
      rw [q_up, if_pos rfl]
      by_cases e : p = i
      · simp [e]
      · rw [if_neg (by omega)]
        exact hv p (by omega)) (by
      intro x hx'
      rw [q_up, if_pos rfl, if_neg (by omega)]
      exact hw x hx')
    refine ⟨h', ?_, e2⟩
    intro k fuel hfu
    obtain ⟨fu, rfl⟩ : ∃ f, fuel = f + 1 := ⟨fuel - 1, by omega⟩
    have hc := s_ch_lt n row i
    have r1 := e1 k fu (by omega)
    rw [hg i (by omega)] at r1
    rw [fX8_restOf_L73, hf 0 (by decide), h2, if_neg (fun q => absurd ((qn_le (by omega) (by omega)).mp q) (by omega)), if_pos (qn_gd (by omega) (by omega)), qn_c (by omega), hf 10 (by decide), hs i (by omega), qn_6, if_pos (qn_gd (by omega) (by omega)), if_pos (qn_gd (by omega) (by omega)), qn_c (by omega), nI_1]
    simp only [q_ix_m1 (show s_ch n row i < 100000 by omega), mm_let]
    by_cases z : s_ch n row i = 0
    · rw [if_pos z] at r1 ⊢
      exact r1
    · rw [if_neg z] at r1 ⊢
      rw [hf 7 (by decide), hf 11 (by decide), if_pos (qn_gd (by omega) (by omega))]
      exact r1
theorem q8_t19_L {M : Nat} {p1 : Int32} (hN : 200 ≤ N) (P : q_PY n law ti pu ap ho wo hy) (hM : M ≤ 4096) (hg : ∀ p, p < n → hy 9 p = nI (pu p - ho p)) :
    ∀ j row h, row + j = M → q_fr [10, 11, 12, 16] hy h → (∀ r, r < row → ∀ p, p < n → h 16 (6 * r + p) = s_gn n law ti ap (fun p => pu p - ho p) wo (s_ch n r) p) →
      ∃ h', (∀ k fuel, j < fuel → fX8_restOf_L19 N p1 (nI M) k fuel h (nI row) = k h') ∧ q_fr [10, 11, 12, 16] hy h' ∧ (∀ r, r < M → ∀ p, p < n → h' 16 (6 * r + p) = s_gn n law ti ap (fun p => pu p - ho p) wo (s_ch n r) p) := by
  have hn := P.1
  intro j
  induction j with
  | zero =>
    intro row h hi hf hv
    refine ⟨h, ?_, hf, fun r hr => hv r (by omega)⟩
    intro k fuel hfu
    obtain ⟨fu, rfl⟩ : ∃ f, fuel = f + 1 := ⟨fuel - 1, by omega⟩
    rw [fX8_restOf_L19, if_pos ((qn_le (by omega) (by omega)).mpr (by omega))]
  | succ j ih =>
    intro row h hi hf hv
    have P1 := P.fr hf (q_f0.of hf (by decide)) (by decide) (by decide) (by decide) (by decide) (by decide)
    obtain ⟨h1, a1, a2, a3⟩ := q8_t27_L (N := N) (row := row) (p1 := p1) (p2 := nI M) P1.2.2.2.1 hn (by omega) n 0 h (by omega) q_fr.rf (fun p hp => absurd hp (Nat.not_lt_zero p))
    have P2 := P1.fr a2 (q_f0.of a2 (by decide)) (by decide) (by decide) (by decide) (by decide) (by decide)
    have gb : ∀ p, p < n → pu p - ho p < 100000 := fun p hp => by
      have := (P.2.2.2.2.2.2.1 p hp).2
      omega
    obtain ⟨h2, b1, b2, -, b4⟩ := q8_bills (N := N) (g := fun p => pu p - ho p) (sc := s_ch n row) (by omega) P2.2.2.2.1 P2.2.2.2.2.1 P2.2.2.2.2.2.1 hn P.2.1 P.2.2.1 P2.2.2.2.2.2.2.2.1 (fun p hp => by rw [a2 9 (by decide), hf 9 (by decide), hg p hp]) gb a3 (fun p hp => by have := s_ch_lt n row p; omega)
    have P3 := P2.fr b2 (q_f0.of b2 (by decide)) (by decide) (by decide) (by decide) (by decide) (by decide)
    obtain ⟨h3, d1, d2, d3, d4⟩ := q8_t73_L (N := N) (row := row) (p1 := p1) (p2 := nI M) (gn := s_gn n law ti ap (fun p => pu p - ho p) wo (s_ch n row)) P3.2.2.2.1 hn (by omega) (fun p hp => by rw [b2 10 (by decide), a3 p hp]) (fun p hp => by
      unfold s_gn
      by_cases z : s_ch n row p = 0
      · rw [if_pos z, if_pos z]
      · rw [if_neg z, if_neg z, b4 p hp, if_pos z, (P3.2.2.2.2.2.2.2.2.2 p (by omega)).1]) n 0 h2 (by omega) q_fr.rf (fun p hp => absurd hp (Nat.not_lt_zero p)) (fun _ _ => rfl)
    obtain ⟨h', e1, e2⟩ := ih (row + 1) h3 (by omega) (((hf.tr a2 (U := [10, 11, 12, 16]) (fun _ q => q) (by decide)).tr b2 (U := [10, 11, 12, 16]) (fun _ q => q) (by decide)).tr d2 (fun _ q => q) (by decide)) (by
      intro r hr p hp
      by_cases e : r = row
      · subst e; exact d3 p hp
      · rw [d4 _ (by omega), b2 16 (by decide), a2 16 (by decide)]
        exact hv r (by omega) p hp)
    refine ⟨h', ?_, e2⟩
    intro k fuel hfu
    obtain ⟨fu, rfl⟩ : ∃ f, fuel = f + 1 := ⟨fuel - 1, by omega⟩
    rw [fX8_restOf_L19, if_neg (fun q => absurd ((qn_le (by omega) (by omega)).mp q) (by omega)), show (0 : Int32) = nI 0 from rfl, a1 _ N (by omega), b1, mm_call_some, d1 _ N (by omega), nI_1]
    exact e1 k fu (by omega)
/-- what all have, by rows -/
def q_hv (n law ti : Nat) (pu ap ho wo : Nat → Nat) (h : mm_M) : Prop := ∀ r, r < 4 ^ n → ∀ p, p < n → h 16 (6 * r + p) = s_gn n law ti ap (fun p => pu p - ho p) wo (s_ch n r) p
theorem q8_t181_L {row p : Nat} {p1 p2 p3 p4 : Int32} (hn : n ≤ 6) (hv : q_hv n law ti pu ap ho wo hy) (hr : row < 4 ^ n) (hp : p < n) (k : mm_M → Int32 → Option (mm_M × Int32)) :
    ∀ j fuel i (b : Bool), i + j = 4 → j < fuel → fX8_restOf_L181 N p1 p2 p3 p4 (nI row) (nI p) ((2 : Int32) * ((nI n - 1) - nI p)) k fuel hy (if b = true then 1 else 0) (nI i) = k hy (if (b && s_al (fun c => decide (s_gn n law ti ap (fun p => pu p - ho p) wo (va_up (s_ch n row) p c) p ≤ s_gn n law ti ap (fun p => pu p - ho p) wo (s_ch n row) p)) j i) = true then 1 else 0) := by
  have h4 := (qr_p4 hn).1
  intro j
  induction j with
  | zero =>
    intro fuel i b hi hfu
    obtain ⟨fu, rfl⟩ : ∃ f, fuel = f + 1 := ⟨fuel - 1, by omega⟩
    have d1 : (4 : Int32) ≤ nI i := (qn_le (a := 4) (b := i) (by omega) (by omega)).mpr (by omega)
    rw [fX8_restOf_L181, if_pos d1, s_al, Bool.and_true]
  | succ j ih =>
    intro fuel i b hi hfu
    obtain ⟨fu, rfl⟩ : ∃ f, fuel = f + 1 := ⟨fuel - 1, by omega⟩
    have d1 : ¬ (4 : Int32) ≤ nI i := fun q => absurd ((qn_le (a := 4) (b := i) (by omega) (by omega)).mp q) (by omega)
    have hot := s_rs_lt hn hp hr (show i < 4 by omega)
    rw [fX8_restOf_L181, if_neg d1, qr_other hn (by omega) hp (by omega), mm_let, s_al, nI_1]
    cases b with
    | false =>
      have r1 := ih fu (i + 1) false (by omega) (by omega)
      simp only [Bool.false_and, Bool.false_eq_true, if_false, if_true] at r1 ⊢
      exact r1
    | true =>
      simp only [if_true, Bool.true_and]
      rw [if_neg (by decide), qn_6, qn_6, if_pos (qn_gd (by omega) (by omega)), if_pos (qn_gd (by omega) (by omega)), qn_c (by omega), qn_c (by omega), hv row hr p hp, hv _ hot p hp, s_gn_congr hp (fun q hq => s_rs_ch hn hp hq (show i < 4 by omega))]
      by_cases z : s_gn n law ti ap (fun p => pu p - ho p) wo (va_up (s_ch n row) p i) p ≤ s_gn n law ti ap (fun p => pu p - ho p) wo (s_ch n row) p
      · have z2 : ¬ s_gn n law ti ap (fun p => pu p - ho p) wo (s_ch n row) p < s_gn n law ti ap (fun p => pu p - ho p) wo (va_up (s_ch n row) p i) p := Int32.not_lt.mpr z
        rw [if_neg z2]
        have r1 := ih fu (i + 1) true (by omega) (by omega)
        simpa [z] using r1
      · have z2 : s_gn n law ti ap (fun p => pu p - ho p) wo (s_ch n row) p < s_gn n law ti ap (fun p => pu p - ho p) wo (va_up (s_ch n row) p i) p := Int32.not_le.mp z
        rw [if_pos z2]
        have r1 := ih fu (i + 1) false (by omega) (by omega)
        simpa [z] using r1
theorem q8_t156_L {row : Nat} {p1 p2 p3 p4 : Int32} (hN : 200 ≤ N) (hn : n ≤ 6) (h2 : hy 0 2 = nI n) (hv : q_hv n law ti pu ap ho wo hy) (hr : row < 4 ^ n) (k : mm_M → Int32 → Option (mm_M × Int32)) :
    ∀ j fuel i (b : Bool), i + j = n → j < fuel → fX8_restOf_L156 N p1 p2 p3 p4 (nI row) k fuel hy (if b = true then 1 else 0) (nI i) = k hy (if (b && s_al (fun p => s_al (fun c => decide (s_gn n law ti ap (fun p => pu p - ho p) wo (va_up (s_ch n row) p c) p ≤ s_gn n law ti ap (fun p => pu p - ho p) wo (s_ch n row) p)) 4 0) j i) = true then 1 else 0) := by
  intro j
  induction j with
  | zero =>
    intro fuel i b hi hfu
    obtain ⟨fu, rfl⟩ : ∃ f, fuel = f + 1 := ⟨fuel - 1, by omega⟩
    rw [fX8_restOf_L156, h2, if_pos ((qn_le (by omega) (by omega)).mpr (by omega)), s_al, Bool.and_true]
  | succ j ih =>
    intro fuel i b hi hfu
    obtain ⟨fu, rfl⟩ : ∃ f, fuel = f + 1 := ⟨fuel - 1, by omega⟩
    have es : ∀ F : Nat → Bool, s_al F (j + 1) i = (F i && s_al F j (i + 1)) := fun _ => rfl
    rw [fX8_restOf_L156, h2, if_neg (fun q => absurd ((qn_le (by omega) (by omega)).mp q) (by omega)), mm_let, show (0 : Int32) = nI 0 from rfl]
    have r0 := q8_t181_L (N := N) (p1 := p1) (p2 := p2) (p3 := p3) (p4 := p4) (row := row) (p := i) hn hv hr (by omega) (fun h35 v36 => fX8_restOf_L156 N p1 p2 p3 p4 (nI row) k fu h35 v36 (nI i + 1)) 4 N 0 b rfl (by omega)
    rw [show (if b = true then (1 : Int32) else nI 0) = (if b = true then 1 else 0) from rfl, r0, nI_1, ih fu (i + 1) _ (by omega) (by omega), es, Bool.and_assoc]
    rfl
theorem q8_t144_L {M : Nat} {p1 : Int32} (hN : 200 ≤ N) (hn : n ≤ 6) (h2 : hy 0 2 = nI n) (hv : q_hv n law ti pu ap ho wo hy) (hM : M = 4 ^ n) (k : mm_M → Int32 → Int32 → Option (mm_M × Int32)) :
    ∀ j fuel i, i + j = M → j < fuel → fX8_restOf_L144 N p1 (nI M) k fuel hy (nI (s_ct (s_re n law ti ap (fun p => pu p - ho p) wo) i)) (q_ix (s_ff (s_re n law ti ap (fun p => pu p - ho p) wo) i)) (nI i) = k hy (nI (s_ct (s_re n law ti ap (fun p => pu p - ho p) wo) M)) (q_ix (s_ff (s_re n law ti ap (fun p => pu p - ho p) wo) M)) := by
  have h4 := (qr_p4 hn).1
  intro j
  induction j with
  | zero =>
    intro fuel i hi hfu
    have hi : i = M := by omega
    subst hi
    obtain ⟨fu, rfl⟩ : ∃ f, fuel = f + 1 := ⟨fuel - 1, by omega⟩
    rw [fX8_restOf_L144, if_pos ((qn_le (by omega) (by omega)).mpr (by omega))]
  | succ j ih =>
    intro fuel i hi hfu
    obtain ⟨fu, rfl⟩ : ∃ f, fuel = f + 1 := ⟨fuel - 1, by omega⟩
    have r1 := ih fu (i + 1) (by omega) (by omega)
    rw [s_ct, s_ff] at r1
    have hfl := s_ff_le (s_re n law ti ap (fun p => pu p - ho p) wo) i
    have r0 := q8_t156_L (N := N) (p1 := p1) (p2 := nI M) (p3 := nI (s_ct (s_re n law ti ap (fun p => pu p - ho p) wo) i)) (p4 := q_ix (s_ff (s_re n law ti ap (fun p => pu p - ho p) wo) i)) (row := i) hN hn h2 hv (by omega) (fun h37 v38 => if v38 = 0 then (mm_let ((nI (s_ct (s_re n law ti ap (fun p => pu p - ho p) wo) i) + (0 : Int32))) (fun x40 => fX8_restOf_L144 N p1 (nI M) k fu h37 x40 (q_ix (s_ff (s_re n law ti ap (fun p => pu p - ho p) wo) i)) (nI i + 1))) else (mm_let ((nI (s_ct (s_re n law ti ap (fun p => pu p - ho p) wo) i) + (1 : Int32))) (fun x42 => if (q_ix (s_ff (s_re n law ti ap (fun p => pu p - ho p) wo) i)) = (-1 : Int32) then (fX8_restOf_L144 N p1 (nI M) k fu h37 x42 (nI i) (nI i + 1)) else (fX8_restOf_L144 N p1 (nI M) k fu h37 x42 (q_ix (s_ff (s_re n law ti ap (fun p => pu p - ho p) wo) i)) (nI i + 1))))) n N 0 true (by omega) (by omega)
    rw [fX8_restOf_L144, if_neg (fun q => absurd ((qn_le (by omega) (by omega)).mp q) (by omega))]
    refine Eq.trans r0 ?_
    simp only [Bool.true_and, q_b0, mm_let, Int32.add_zero, nI_1, q_ix_m1 (show s_ff (s_re n law ti ap (fun p => pu p - ho p) wo) i < 100000 by omega)]
    change (if s_re n law ti ap (fun p => pu p - ho p) wo i = true then _ else _) = _
    by_cases z : s_re n law ti ap (fun p => pu p - ho p) wo i = true
    · by_cases z2 : s_ff (s_re n law ti ap (fun p => pu p - ho p) wo) i = 0
      · rw [if_pos z, if_pos ⟨z2, z⟩, q_ixs] at r1
        rw [if_pos z, if_pos z2]
        exact r1
      · rw [if_pos z, if_neg (fun q => z2 q.1)] at r1
        rw [if_pos z, if_neg z2]
        exact r1
    · rw [if_neg z, if_neg (fun q => z q.2), Nat.add_zero] at r1
      rw [if_neg z]
      exact r1
theorem q8_restOf (hN : 5000 ≤ N) (D : q_RD N c1 c2 n R f0 f1 pu ap se) (Y : q_QY c1 c2 law ti ho wo hy) (a : Int32) (ha : a = -1 ∨ mm_gd a n = true) :
    ∃ h', fX8_restOf N hy a = some (h', if a = -1 then nI (s_rn n law ti pu ap ho wo) else s_rt n law ti pu ap ho wo a.toNatClampNeg) ∧ q_fy hy h' ∧ q_PY n law ti pu ap ho wo h' ∧ q_EY n R se h' := by
  obtain ⟨h1, a1, a2, P, E⟩ := q8_reads (N := N) D Y
  have hn := P.1
  obtain ⟨h2, b1, b2, b3⟩ := q8_at (N := N) (by omega) P
  have b20 := q_f0.of b2 (by decide)
  have P2 := P.fr b2 b20 (by decide) (by decide) (by decide) (by decide) (by decide)
  have h4 := (qr_p4 hn).1
  obtain ⟨h3, d1, d2, d3⟩ := q8_t19_L (N := N) (M := 4 ^ n) (p1 := a) (by omega) P2 h4 b3 (4 ^ n) 0 h2 (by omega) q_fr.rf (fun r hr => absurd hr (Nat.not_lt_zero r))
  have d20 := q_f0.of d2 (by decide)
  have P3 := P2.fr d2 d20 (by decide) (by decide) (by decide) (by decide) (by decide)
  refine ⟨h3, ?_, (a2.tr (q_fy.of b2 b20 (by decide))).tr (q_fy.of d2 d20 (by decide)), P3, (E.fr b2 b20 (by decide)).fr d2 d20 (by decide)⟩
  unfold fX8_restOf
  rw [a1, mm_call_some, b1, mm_call_some, P2.2.2.2.1, qr_rows n hn, mm_let, show (0 : Int32) = nI 0 from rfl, d1 _ N (by omega)]
  have r0 := q8_t144_L (N := N) (M := 4 ^ n) (p1 := a) (by omega) hn P3.2.2.2.1 d3 rfl (fun h45 v46 v47 => if a = (-1 : Int32) then (some (h45, v46)) else (if v47 = (-1 : Int32) then (some (h45, (-1 : Int32))) else (some (h45, (((v47 >>> (((2 : Int32) * (((h45 0 2) - (1 : Int32)) - a)) &&& 31)) &&& (3 : Int32)) - (1 : Int32)))))) (4 ^ n) N 0 (by omega) (by omega)
  refine Eq.trans r0 ?_
  by_cases w : a = -1
  · rw [if_pos w, if_pos w]
  · rw [if_neg w, if_neg w]
    have z := ha.resolve_left w
    obtain ⟨p, hp, rfl⟩ := qg_ex z (by omega)
    have hfl := s_ff_le (s_re n law ti ap (fun p => pu p - ho p) wo) (4 ^ n)
    rw [qn_c (by omega)]
    unfold s_rt
    rcases hz : s_rf n law ti pu ap ho wo with _ | r
    · rw [show s_ff (s_re n law ti ap (fun p => pu p - ho p) wo) (4 ^ n) = 0 from hz, if_pos (show q_ix 0 = -1 from rfl), if_pos rfl]
    · rw [show s_ff (s_re n law ti ap (fun p => pu p - ho p) wo) (4 ^ n) = s_rf n law ti pu ap ho wo from rfl, hz] at hfl ⊢
      rw [q_ixs, if_neg (qn_m1 (by omega)), if_neg (by omega), P3.2.2.2.1, qr_choice hn (by omega) hp, q_ixm, Nat.add_sub_cancel]
theorem q8_rest (hN : 5000 ≤ N) (D : q_RD N c1 c2 n R f0 f1 pu ap se) (Y : q_QY c1 c2 law ti ho wo hy) (a : Int32) :
    ∃ h', fX8_rest N hy a = some (h', if a = -1 then nI (s_rn n law ti pu ap ho wo) else if mm_gd a n = true then s_rt n law ti pu ap ho wo a.toNatClampNeg else -2) ∧ q_fy hy h' := by
  unfold fX8_rest
  by_cases w : a = -1
  · obtain ⟨h', e1, e2, -⟩ := q8_restOf (N := N) hN D Y a (Or.inl w)
    refine ⟨h', ?_, e2⟩
    rw [if_pos w, if_pos w, e1, mm_call_some, if_pos w]
  · obtain ⟨h1, a1, a2, P, E⟩ := q8_isPerson (N := N) D Y a
    rw [if_neg w, if_neg w, a1, mm_call_some, q_b0]
    by_cases z : mm_gd a n = true
    · obtain ⟨h', e1, e2, -⟩ := q8_restOf (N := N) hN D (Y.fy a2) a (Or.inr z)
      refine ⟨h', ?_, a2.tr e2⟩
      rw [if_pos z, if_pos z, e1, mm_call_some, if_neg w]
    · exact ⟨h1, by rw [if_neg z, if_neg z], a2⟩
end Q9c
