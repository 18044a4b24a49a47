/-! PURE 10e: all triples of ways; both sides the same -/
section Q10e
variable {N n R law ti : Nat} {pu ap ho wo : Nat → Nat} {se : Nat → Nat → Nat} {hx hy : mm_M} {c1 c2 : Nat → Int32} {f0 f1 : Nat}
def s_mn (B r : Nat) : Nat := if r = 0 then B else if B = 0 then r else if B ≤ r then B else r
/-- B' is B or better, by what has been looked at -/
def q_mi (B B' : Nat) (S : Nat → Prop) : Prop := B' ≤ 3 ∧ (B ≠ 0 → B' ≠ 0 ∧ B' ≤ B) ∧ (∀ r, S r → r ≠ 0 → B' ≠ 0 ∧ B' ≤ r) ∧ (B' = B ∨ S B')
theorem q_mi.rf {B : Nat} (h : B ≤ 3) : q_mi B B (fun _ => False) := ⟨h, fun h => ⟨h, Nat.le_refl _⟩, fun _ h => h.elim, Or.inl rfl⟩
theorem q_mi.tr {B B1 B2 : Nat} {S T U : Nat → Prop} (a : q_mi B B1 S) (b : q_mi B1 B2 T) (hU : ∀ r, U r ↔ S r ∨ T r) : q_mi B B2 U := by
  obtain ⟨a1, a2, a3, a4⟩ := a
  obtain ⟨b1, b2, b3, b4⟩ := b
  refine ⟨b1, ?_, ?_, ?_⟩
  · intro h
    obtain ⟨h1, h2⟩ := a2 h
    obtain ⟨h3, h4⟩ := b2 h1
    exact ⟨h3, by omega⟩
  · intro r hr h0
    rcases (hU r).mp hr with h | h
    · obtain ⟨h1, h2⟩ := a3 r h h0
      obtain ⟨h3, h4⟩ := b2 h1
      exact ⟨h3, by omega⟩
    · exact b3 r h h0
  · rcases b4 with h | h
    · rcases a4 with h2 | h2
      · exact Or.inl (h.trans h2)
      · exact Or.inr ((hU B2).mpr (Or.inl (h ▸ h2)))
    · exact Or.inr ((hU B2).mpr (Or.inr h))
theorem q_mi.mn {B r : Nat} (hB : B ≤ 3) (hr : r ≤ 3) : q_mi B (s_mn B r) (fun x => x = r) := by
  unfold s_mn
  by_cases e0 : r = 0
  · rw [if_pos e0]
    exact ⟨hB, fun h => ⟨h, Nat.le_refl _⟩, fun x hx h0 => absurd (hx.trans e0) h0, Or.inl rfl⟩
  · rw [if_neg e0]
    by_cases e1 : B = 0
    · rw [if_pos e1]
      exact ⟨hr, fun h => absurd e1 h, fun x hx h0 => ⟨e0, by omega⟩, Or.inr rfl⟩
    · rw [if_neg e1]
      by_cases e2 : B ≤ r
      · rw [if_pos e2]
        exact ⟨hB, fun h => ⟨h, Nat.le_refl _⟩, fun x hx h0 => ⟨e1, by omega⟩, Or.inl rfl⟩
      · rw [if_neg e2]
        exact ⟨hr, fun h => ⟨e0, by omega⟩, fun x hx h0 => ⟨e0, by omega⟩, Or.inr rfl⟩
theorem s_by_le {G : Nat → Nat} {Pd : (Nat → Nat) → Bool} {a b c : Nat} : s_by n law ti ap G Pd a b c ≤ 3 := by
  unfold s_by
  split
  · omega
  · split
    · omega
    · split <;> omega
theorem q_cd_m1 {B : Nat} (h : B ≤ 3) : q_cd B = -1 ↔ B = 0 := by
  unfold q_cd
  by_cases e : B = 0
  · simp [e]
  · rw [if_neg e]
    simp [e, qn_m1 (show B < 100000 by omega)]
theorem q_cd_nI {B : Nat} (h : B ≠ 0) : q_cd B = nI B := if_neg h
theorem q8_d81_L {a b M : Nat} {q vv : Int32} {Pd : (Nat → Nat) → Bool} (hN : 5000 ≤ N) (P : q_PY n law ti pu ap ho wo hy) (hn : n ≤ 4) (hM : M = 4 ^ n) (ha : a < M) (hb : b < M) (va : s_va a n = true) (vb : s_va b n = true) (hq : q_as n q vv Pd) :
    ∀ j i B h, i + j = M → B ≤ 3 → q_fr [9, 10, 11, 12] hy h →
      ∃ h' B', (∀ k fuel, j < fuel → fX8_downBy_L81 N q vv (nI M) (nI a) (nI b) k fuel h (q_cd B) (nI i) = k h' (q_cd B')) ∧ q_fr [9, 10, 11, 12] hy h' ∧ q_mi B B' (fun r => ∃ c, i ≤ c ∧ c < M ∧ s_va c n = true ∧ s_by n law ti ap (fun p => pu p - ho p) Pd a b c = r) := by
  have h4 := (qr_p4 (show n ≤ 6 by omega)).1
  intro j
  induction j with
  | zero =>
    intro i B h hi hB hf
    refine ⟨h, B, ?_, hf, (q_mi.rf hB).tr (q_mi.rf hB) (fun r => ⟨fun ⟨c, h1, h2, _⟩ => by omega, fun h => by rcases h with h | h <;> exact h.elim⟩)⟩
    intro k fuel hfu
    obtain ⟨f, rfl⟩ : ∃ f, fuel = f + 1 := ⟨fuel - 1, by omega⟩
    rw [fX8_downBy_L81, if_pos ((qn_le (by omega) (by omega)).mpr (by omega))]
  | succ j ih =>
    intro i B h hi hB hf
    have P1 := P.fr hf (q_f0.of hf (by decide)) (by decide) (by decide) (by decide) (by decide) (by decide)
    obtain ⟨h1, a1, a2, -⟩ := q8_parts (N := N) (code := i) (by omega) P1.2.2.2.1 hn (by omega)
    have P2 := P1.fr a2 (q_f0.of a2 (by decide)) (by decide) (by decide) (by decide) (by decide) (by decide)
    have f2 : q_fr [9, 10, 11, 12] hy h1 := hf.tr a2 (fun _ q => q) (by decide)
    by_cases vi : s_va i n = true
    · obtain ⟨h2, b1, b2⟩ := q8_till (N := N) (a := a) (b := b) (c := i) hN P2 hn (by omega) (by omega) (by omega) va vb vi hq
      have hby := s_by_le (n := n) (law := law) (ti := ti) (ap := ap) (G := fun p => pu p - ho p) (Pd := Pd) (a := a) (b := b) (c := i)
      have m1 := q_mi.mn hB hby
      obtain ⟨h', B', e1, e2, e3⟩ := ih (i + 1) (s_mn B (s_by n law ti ap (fun p => pu p - ho p) Pd a b i)) h2 (by omega) m1.1 (f2.tr b2 (fun _ q => q) (fun _ q => q))
      refine ⟨h', B', ?_, e2, m1.tr e3 (fun r => ⟨?_, ?_⟩)⟩
      · intro k fuel hfu
        obtain ⟨f, rfl⟩ : ∃ f, fuel = f + 1 := ⟨fuel - 1, by omega⟩
        have r1 := e1 k f (by omega)
        unfold s_mn at r1
        rw [fX8_downBy_L81, if_neg (fun q => absurd ((qn_le (by omega) (by omega)).mp q) (by omega)), a1, mm_call_some, if_pos vi, if_neg (by decide), b1, mm_call_some, nI_1]
        simp only [q_cd_m1 hby, q_cd_m1 hB]
        by_cases z1 : s_by n law ti ap (fun p => pu p - ho p) Pd a b i = 0
        · rw [if_pos z1] at r1 ⊢
          exact r1
        · rw [if_neg z1] at r1 ⊢
          by_cases z2 : B = 0
          · rw [if_pos z2] at r1 ⊢
            exact r1
          · rw [if_neg z2] at r1 ⊢
            rw [q_cd_nI z1, q_cd_nI z2]
            simp only [qn_le (show B < 100000 by omega) (show s_by n law ti ap (fun p => pu p - ho p) Pd a b i < 100000 by omega)]
            by_cases z3 : B ≤ s_by n law ti ap (fun p => pu p - ho p) Pd a b i
            · rw [if_pos z3, q_cd_nI z2] at r1
              rw [if_pos z3]
              exact r1
            · rw [if_neg z3, q_cd_nI z1] at r1
              rw [if_neg z3]
              exact r1
      · rintro ⟨c, h1, h2, h3, h4⟩
        by_cases e : c = i
        · subst e; exact Or.inl h4.symm
        · exact Or.inr ⟨c, by omega, h2, h3, h4⟩
      · rintro (h | ⟨c, h1, h2, h3, h4⟩)
        · exact ⟨i, Nat.le_refl _, by omega, vi, h.symm⟩
        · exact ⟨c, by omega, h2, h3, h4⟩
    · obtain ⟨h', B', e1, e2, e3⟩ := ih (i + 1) B h1 (by omega) hB f2
      refine ⟨h', B', ?_, e2, (q_mi.rf hB).tr e3 (fun r => ⟨?_, ?_⟩)⟩
      · intro k fuel hfu
        obtain ⟨f, rfl⟩ : ∃ f, fuel = f + 1 := ⟨fuel - 1, by omega⟩
        rw [fX8_downBy_L81, if_neg (fun q => absurd ((qn_le (by omega) (by omega)).mp q) (by omega)), a1, mm_call_some, if_neg vi, if_pos rfl, nI_1]
        exact e1 k f (by omega)
      · rintro ⟨c, h1, h2, h3, h4⟩
        by_cases e : c = i
        · subst e; exact absurd h3 vi
        · exact Or.inr ⟨c, by omega, h2, h3, h4⟩
      · rintro (h | ⟨c, h1, h2, h3, h4⟩)
        · exact h.elim
        · exact ⟨c, by omega, h2, h3, h4⟩
theorem q8_d63_L {a M : Nat} {q vv : Int32} {Pd : (Nat → Nat) → Bool} (hN : 5000 ≤ N) (P : q_PY n law ti pu ap ho wo hy) (hn : n ≤ 4) (hM : M = 4 ^ n) (ha : a < M) (va : s_va a n = true) (hq : q_as n q vv Pd) :
    ∀ j i B h, i + j = M → B ≤ 3 → q_fr [9, 10, 11, 12] hy h →
      ∃ h' B', (∀ k fuel, j < fuel → fX8_downBy_L63 N q vv (nI M) (nI a) k fuel h (q_cd B) (nI i) = k h' (q_cd B')) ∧ q_fr [9, 10, 11, 12] hy h' ∧ q_mi B B' (fun r => ∃ b, i ≤ b ∧ b < M ∧ s_va b n = true ∧ ∃ c, c < M ∧ s_va c n = true ∧ s_by n law ti ap (fun p => pu p - ho p) Pd a b c = r) := by
  have h4 := (qr_p4 (show n ≤ 6 by omega)).1
  intro j
  induction j with
  | zero =>
    intro i B h hi hB hf
    refine ⟨h, B, ?_, hf, (q_mi.rf hB).tr (q_mi.rf hB) (fun r => ⟨fun ⟨c, h1, h2, _⟩ => by omega, fun h => by rcases h with h | h <;> exact h.elim⟩)⟩
    intro k fuel hfu
    obtain ⟨f, rfl⟩ : ∃ f, fuel = f + 1 := ⟨fuel - 1, by omega⟩
    rw [fX8_downBy_L63, if_pos ((qn_le (by omega) (by omega)).mpr (by omega))]
  | succ j ih =>
    intro i B h hi hB hf
    have P1 := P.fr hf (q_f0.of hf (by decide)) (by decide) (by decide) (by decide) (by decide) (by decide)
    obtain ⟨h1, a1, a2, -⟩ := q8_parts (N := N) (code := i) (by omega) P1.2.2.2.1 hn (by omega)
    have P2 := P1.fr a2 (q_f0.of a2 (by decide)) (by decide) (by decide) (by decide) (by decide) (by decide)
    have f2 : q_fr [9, 10, 11, 12] hy h1 := hf.tr a2 (fun _ q => q) (by decide)
    by_cases vi : s_va i n = true
    · obtain ⟨h2, B1, b1, b2, b3⟩ := q8_d81_L (N := N) (a := a) (b := i) (M := M) hN P2 hn hM ha (by omega) va vi hq M 0 B h1 (by omega) hB q_fr.rf
      obtain ⟨h', B', e1, e2, e3⟩ := ih (i + 1) B1 h2 (by omega) b3.1 (f2.tr b2 (fun _ q => q) (fun _ q => q))
      refine ⟨h', B', ?_, e2, b3.tr e3 (fun r => ⟨?_, ?_⟩)⟩
      · intro k fuel hfu
        obtain ⟨f, rfl⟩ : ∃ f, fuel = f + 1 := ⟨fuel - 1, by omega⟩
        rw [fX8_downBy_L63, if_neg (fun q => absurd ((qn_le (by omega) (by omega)).mp q) (by omega)), a1, mm_call_some, if_pos vi, if_neg (by decide), show (0 : Int32) = nI 0 from rfl, b1 _ N (by omega), nI_1]
        exact e1 k f (by omega)
      · rintro ⟨b, h1, h2, h3, c, h4, h5, h6⟩
        by_cases e : b = i
        · subst e; exact Or.inl ⟨c, Nat.zero_le _, h4, h5, h6⟩
        · exact Or.inr ⟨b, by omega, h2, h3, c, h4, h5, h6⟩
      · rintro (⟨c, -, h4, h5, h6⟩ | ⟨b, h1, h2, h3, c, h4, h5, h6⟩)
        · exact ⟨i, Nat.le_refl _, by omega, vi, c, h4, h5, h6⟩
        · exact ⟨b, by omega, h2, h3, c, h4, h5, h6⟩
    · obtain ⟨h', B', e1, e2, e3⟩ := ih (i + 1) B h1 (by omega) hB f2
      refine ⟨h', B', ?_, e2, (q_mi.rf hB).tr e3 (fun r => ⟨?_, ?_⟩)⟩
      · intro k fuel hfu
        obtain ⟨f, rfl⟩ : ∃ f, fuel = f + 1 := ⟨fuel - 1, by omega⟩
        rw [fX8_downBy_L63, if_neg (fun q => absurd ((qn_le (by omega) (by omega)).mp q) (by omega)), a1, mm_call_some, if_neg vi, if_pos rfl, nI_1]
        exact e1 k f (by omega)
      · rintro ⟨b, h1, h2, h3, h4⟩
        by_cases e : b = i
        · subst e; exact absurd h3 vi
        · exact Or.inr ⟨b, by omega, h2, h3, h4⟩
      · rintro (h | ⟨c, h1, h2, h3, h4⟩)
        · exact h.elim
        · exact ⟨c, by omega, h2, h3, h4⟩
theorem q8_d45_L {M : Nat} {q vv : Int32} {Pd : (Nat → Nat) → Bool} (hN : 5000 ≤ N) (P : q_PY n law ti pu ap ho wo hy) (hn : n ≤ 4) (hM : M = 4 ^ n) (hq : q_as n q vv Pd) :
    ∀ j i B h, i + j = M → B ≤ 3 → q_fr [9, 10, 11, 12] hy h →
      ∃ h' B', (∀ k fuel, j < fuel → fX8_downBy_L45 N q vv (nI M) k fuel h (q_cd B) (nI i) = k h' (q_cd B')) ∧ q_fr [9, 10, 11, 12] hy h' ∧ q_mi B B' (fun r => ∃ a, i ≤ a ∧ a < M ∧ s_va a n = true ∧ ∃ b, b < M ∧ s_va b n = true ∧ ∃ c, c < M ∧ s_va c n = true ∧ s_by n law ti ap (fun p => pu p - ho p) Pd a b c = r) := by
  have h4 := (qr_p4 (show n ≤ 6 by omega)).1
  intro j
  induction j with
  | zero =>
    intro i B h hi hB hf
    refine ⟨h, B, ?_, hf, (q_mi.rf hB).tr (q_mi.rf hB) (fun r => ⟨fun ⟨c, h1, h2, _⟩ => by omega, fun h => by rcases h with h | h <;> exact h.elim⟩)⟩
    intro k fuel hfu
    obtain ⟨f, rfl⟩ : ∃ f, fuel = f + 1 := ⟨fuel - 1, by omega⟩
    rw [fX8_downBy_L45, if_pos ((qn_le (by omega) (by omega)).mpr (by omega))]
  | succ j ih =>
    intro i B h hi hB hf
    have P1 := P.fr hf (q_f0.of hf (by decide)) (by decide) (by decide) (by decide) (by decide) (by decide)
    obtain ⟨h1, a1, a2, -⟩ := q8_parts (N := N) (code := i) (by omega) P1.2.2.2.1 hn (by omega)
    have P2 := P1.fr a2 (q_f0.of a2 (by decide)) (by decide) (by decide) (by decide) (by decide) (by decide)
    have f2 : q_fr [9, 10, 11, 12] hy h1 := hf.tr a2 (fun _ q => q) (by decide)
    by_cases vi : s_va i n = true
    · obtain ⟨h2, B1, b1, b2, b3⟩ := q8_d63_L (N := N) (a := i) (M := M) hN P2 hn hM (by omega) vi hq M 0 B h1 (by omega) hB q_fr.rf
      obtain ⟨h', B', e1, e2, e3⟩ := ih (i + 1) B1 h2 (by omega) b3.1 (f2.tr b2 (fun _ q => q) (fun _ q => q))
      refine ⟨h', B', ?_, e2, b3.tr e3 (fun r => ⟨?_, ?_⟩)⟩
      · intro k fuel hfu
        obtain ⟨f, rfl⟩ : ∃ f, fuel = f + 1 := ⟨fuel - 1, by omega⟩
        rw [fX8_downBy_L45, if_neg (fun q => absurd ((qn_le (by omega) (by omega)).mp q) (by omega)), a1, mm_call_some, if_pos vi, if_neg (by decide), show (0 : Int32) = nI 0 from rfl, b1 _ N (by omega), nI_1]
        exact e1 k f (by omega)
      · rintro ⟨a, h1, h2, h3, b, g1, g2, g3⟩
        by_cases e : a = i
        · subst e; exact Or.inl ⟨b, Nat.zero_le _, g1, g2, g3⟩
        · exact Or.inr ⟨a, by omega, h2, h3, b, g1, g2, g3⟩
      · rintro (⟨b, -, g1, g2, g3⟩ | ⟨a, h1, h2, h3, b, g1, g2, g3⟩)
        · exact ⟨i, Nat.le_refl _, by omega, vi, b, g1, g2, g3⟩
        · exact ⟨a, by omega, h2, h3, b, g1, g2, g3⟩
    · obtain ⟨h', B', e1, e2, e3⟩ := ih (i + 1) B h1 (by omega) hB f2
      refine ⟨h', B', ?_, e2, (q_mi.rf hB).tr e3 (fun r => ⟨?_, ?_⟩)⟩
      · intro k fuel hfu
        obtain ⟨f, rfl⟩ : ∃ f, fuel = f + 1 := ⟨fuel - 1, by omega⟩
        rw [fX8_downBy_L45, if_neg (fun q => absurd ((qn_le (by omega) (by omega)).mp q) (by omega)), a1, mm_call_some, if_neg vi, if_pos rfl, nI_1]
        exact e1 k f (by omega)
      · rintro ⟨b, h1, h2, h3, h4⟩
        by_cases e : b = i
        · subst e; exact absurd h3 vi
        · exact Or.inr ⟨b, by omega, h2, h3, h4⟩
      · rintro (h | ⟨c, h1, h2, h3, h4⟩)
        · exact h.elim
        · exact ⟨c, by omega, h2, h3, h4⟩
/-! ways and codes reach the same -/
theorem q_as.congr {q vv : Int32} {Pd : (Nat → Nat) → Bool} (ha : q_as n q vv Pd) {G G' : Nat → Nat} (h : ∀ p, p < n → G p = G' p) : Pd G = Pd G' := by
  rcases ha with ⟨-, rfl⟩ | ⟨a, v, h1, h2, -, -, rfl⟩
  · unfold s_pE
    refine s_al_congr _ _ (fun p h1 h2 => ?_)
    rw [h p (by omega), h 0 (by omega)]
  · unfold s_pA
    rw [h a h1]
theorem s_rc_same {q vv : Int32} {Pd : (Nat → Nat) → Bool} (h4 : n ≤ 4) (ha : q_as n q vv Pd) : ∀ k (G G' : Nat → Nat), (∀ p, p < n → G p = G' p) →
    (s_rc (fun w => s_T n law ti ap (fun q => s_tw w q + 1)) (fun w => w < s_wy n) Pd k G ↔ s_rc (s_Tm n law ti ap) (fun c => c < 4 ^ n ∧ s_va c n = true) Pd k G') := by
  intro k
  induction k with
  | zero =>
    intro G G' h
    unfold s_rc
    rw [ha.congr h]
  | succ k ih =>
    intro G G' h
    constructor
    · rintro ⟨w, h1, h2⟩
      obtain ⟨c, a1, a2, a3⟩ := qd_to n (by omega) w h1
      exact ⟨c, ⟨a1, a2⟩, (ih _ _ (fun p hp => s_T_congr (fun q hq => by rw [a3 q hq]) h p hp)).mp h2⟩
    · rintro ⟨c, ⟨a1, a2⟩, h2⟩
      obtain ⟨w, h1, a3⟩ := qd_of n (by omega) c a1 a2
      exact ⟨w, h1, (ih _ _ (fun p hp => s_T_congr (fun q hq => by rw [a3 q hq]) h p hp)).mpr h2⟩
theorem s_va0 : ∀ n, s_va 0 n = true := by
  have z : ∀ n, s_nx 0 n ≥ 0 := fun _ => Nat.zero_le _
  intro n
  induction n with
  | zero => rfl
  | succ n ih =>
    have : s_dg 0 n = 0 := by simp [s_dg]
    rw [s_va, ih, this]
    simp
theorem q8_downBy {q vv : Int32} {Pd : (Nat → Nat) → Bool} (hN : 5000 ≤ N) (D : q_RD N c1 c2 n R f0 f1 pu ap se) (Y : q_QY c1 c2 law ti ho wo hy) (ha : q_as n q vv Pd) :
    ∃ h', fX8_downBy N hy q vv = some (h', if n ≤ 4 then s_fw n law ti ap (s_wy n) (fun p => pu p - ho p) Pd else -4) ∧ q_fy hy h' ∧ q_PY n law ti pu ap ho wo h' ∧ q_EY n R se h' := by
  obtain ⟨h1, a1, a2, P, E⟩ := q8_reads (N := N) D Y
  have hn := P.1
  have d1 : (nI n ≤ (4 : Int32)) ↔ n ≤ 4 := qn_le (b := 4) (by omega) (by omega)
  unfold fX8_downBy
  rw [a1, mm_call_some, P.2.2.2.1]
  simp only [d1]
  by_cases h4 : n ≤ 4
  · obtain ⟨h2, b1, b2, b3⟩ := q8_at (N := N) (by omega) P
    have b20 := q_f0.of b2 (by decide)
    have P2 := P.fr b2 b20 (by decide) (by decide) (by decide) (by decide) (by decide)
    have E2 := E.fr b2 b20 (by decide)
    have gb : ∀ p, p < n → h2 9 p = nI ((fun p => pu p - ho p) p) ∧ (fun p => pu p - ho p) p ≤ 99 := fun p hp => ⟨b3 p hp, by
      have := (P.2.2.2.2.2.2.1 p hp).2
      simp only
      omega⟩
    have s0 := q8_isDown (N := N) (by omega) P2.2.2.2.1 h4 gb ha
    have M4 := (qr_p4 (show n ≤ 6 by omega)).1
    have hE : ∀ k, k < 4 → ((s_rc (s_Tm n law ti ap) (fun c => c < 4 ^ n ∧ s_va c n = true) Pd k (fun p => pu p - ho p)) ↔ s_rc (fun w => s_T n law ti ap (fun q => s_tw w q + 1)) (fun w => w < s_wy n) Pd k (fun p => pu p - ho p)) := fun k _ => (s_rc_same h4 ha k _ _ (fun _ _ => rfl)).symm
    have hfw := @s_fw_rc n law ti ap (s_wy n) (fun p => pu p - ho p) Pd (s_wy_lit h4) (fun k => s_rc (s_Tm n law ti ap) (fun c => c < 4 ^ n ∧ s_va c n = true) Pd k (fun p => pu p - ho p)) (fun _ => Classical.propDecidable _) hE
    rw [if_pos h4, if_pos h4, b1, mm_call_some, s0, mm_call_some, q_b0, hfw]
    by_cases z0 : Pd (fun p => pu p - ho p) = true
    · refine ⟨h2, ?_, a2.tr (q_fy.of b2 b20 (by decide)), P2, E2⟩
      have e0 : s_rc (s_Tm n law ti ap) (fun c => c < 4 ^ n ∧ s_va c n = true) Pd 0 (fun p => pu p - ho p) := z0
      rw [if_pos z0, if_pos e0]
    · have e0 : ¬ s_rc (s_Tm n law ti ap) (fun c => c < 4 ^ n ∧ s_va c n = true) Pd 0 (fun p => pu p - ho p) := z0
      obtain ⟨h3, B, g1, g2, g3⟩ := q8_d45_L (N := N) (M := 4 ^ n) hN P2 h4 rfl ha (4 ^ n) 0 0 h2 (by omega) (by omega) q_fr.rf
      have g20 := q_f0.of g2 (by decide)
      refine ⟨h3, ?_, (a2.tr (q_fy.of b2 b20 (by decide))).tr (q_fy.of g2 g20 (by decide)), P2.fr g2 g20 (by decide) (by decide) (by decide) (by decide) (by decide), E2.fr g2 g20 (by decide)⟩
      rw [if_neg z0, if_neg e0, P2.2.2.2.1, qr_rows n (by omega), mm_let]
      refine Eq.trans (g1 (fun h38 v39 => some (h38, v39)) N (by omega)) ?_
      congr 2
      obtain ⟨g4, -, g5, g6⟩ := g3
      have v0 := s_va0 n
      have p0 : 0 < 4 ^ n := Nat.pow_pos (by decide)
      have k1 : s_rc (s_Tm n law ti ap) (fun c => c < 4 ^ n ∧ s_va c n = true) Pd 1 (fun p => pu p - ho p) → B ≠ 0 ∧ B ≤ 1 := by
        rintro ⟨a, ⟨x1, x2⟩, x3⟩
        have x3 : Pd (s_Tm n law ti ap a (fun p => pu p - ho p)) = true := x3
        exact g5 1 ⟨a, Nat.zero_le _, x1, x2, 0, p0, v0, 0, p0, v0, by unfold s_by; rw [if_pos x3]⟩ (by decide)
      have k2 : s_rc (s_Tm n law ti ap) (fun c => c < 4 ^ n ∧ s_va c n = true) Pd 2 (fun p => pu p - ho p) → B ≠ 0 ∧ B ≤ 2 := by
        rintro ⟨a, ⟨x1, x2⟩, b, ⟨y1, y2⟩, x3⟩
        have x3 : Pd (s_Tm n law ti ap b (s_Tm n law ti ap a (fun p => pu p - ho p))) = true := x3
        obtain ⟨w1, w2⟩ := g5 (s_by n law ti ap (fun p => pu p - ho p) Pd a b 0) ⟨a, Nat.zero_le _, x1, x2, b, y1, y2, 0, p0, v0, rfl⟩ (by
          unfold s_by
          split
          · decide
          · first | decide | (rw [if_pos x3]; decide))
        refine ⟨w1, Nat.le_trans w2 ?_⟩
        unfold s_by
        split
        · decide
        · first | decide | (rw [if_pos x3]; decide)
      have k3 : s_rc (s_Tm n law ti ap) (fun c => c < 4 ^ n ∧ s_va c n = true) Pd 3 (fun p => pu p - ho p) → B ≠ 0 := by
        rintro ⟨a, ⟨x1, x2⟩, b, ⟨y1, y2⟩, c, ⟨u1, u2⟩, x3⟩
        have x3 : Pd (s_Tm n law ti ap c (s_Tm n law ti ap b (s_Tm n law ti ap a (fun p => pu p - ho p)))) = true := x3
        refine (g5 (s_by n law ti ap (fun p => pu p - ho p) Pd a b c) ⟨a, Nat.zero_le _, x1, x2, b, y1, y2, c, u1, u2, rfl⟩ ?_).1
        unfold s_by
        split
        · decide
        · split
          · decide
          · first | decide | (rw [if_pos x3]; decide)
      have back : B ≠ 0 → (B = 1 → s_rc (s_Tm n law ti ap) (fun c => c < 4 ^ n ∧ s_va c n = true) Pd 1 (fun p => pu p - ho p)) ∧ (B = 2 → s_rc (s_Tm n law ti ap) (fun c => c < 4 ^ n ∧ s_va c n = true) Pd 2 (fun p => pu p - ho p)) ∧ (B = 3 → s_rc (s_Tm n law ti ap) (fun c => c < 4 ^ n ∧ s_va c n = true) Pd 3 (fun p => pu p - ho p)) := by
        intro hB
        rcases g6 with g6 | ⟨a, -, x1, x2, b, y1, y2, c, u1, u2, hby⟩
        · exact absurd g6 hB
        · unfold s_by at hby
          refine ⟨fun e => ⟨a, ⟨x1, x2⟩, ?_⟩, fun e => ⟨a, ⟨x1, x2⟩, b, ⟨y1, y2⟩, ?_⟩, fun e => ⟨a, ⟨x1, x2⟩, b, ⟨y1, y2⟩, c, ⟨u1, u2⟩, ?_⟩⟩
          · by_cases t1 : Pd (s_Tm n law ti ap a (fun p => pu p - ho p)) = true
            · exact t1
            · rw [if_neg t1] at hby
              split at hby
              · omega
              · split at hby <;> omega
          · by_cases t1 : Pd (s_Tm n law ti ap a (fun p => pu p - ho p)) = true
            · rw [if_pos t1] at hby; omega
            · rw [if_neg t1] at hby
              by_cases t2 : Pd (s_Tm n law ti ap b (s_Tm n law ti ap a (fun p => pu p - ho p))) = true
              · exact t2
              · rw [if_neg t2] at hby
                split at hby <;> omega
          · by_cases t1 : Pd (s_Tm n law ti ap a (fun p => pu p - ho p)) = true
            · rw [if_pos t1] at hby; omega
            · rw [if_neg t1] at hby
              by_cases t2 : Pd (s_Tm n law ti ap b (s_Tm n law ti ap a (fun p => pu p - ho p))) = true
              · rw [if_pos t2] at hby; omega
              · rw [if_neg t2] at hby
                by_cases t3 : Pd (s_Tm n law ti ap c (s_Tm n law ti ap b (s_Tm n law ti ap a (fun p => pu p - ho p)))) = true
                · exact t3
                · rw [if_neg t3] at hby; omega
      by_cases z1 : s_rc (s_Tm n law ti ap) (fun c => c < 4 ^ n ∧ s_va c n = true) Pd 1 (fun p => pu p - ho p)
      · have := k1 z1
        have hB : B = 1 := by omega
        rw [if_pos z1, hB]
        rfl
      · rw [if_neg z1]
        by_cases z2 : s_rc (s_Tm n law ti ap) (fun c => c < 4 ^ n ∧ s_va c n = true) Pd 2 (fun p => pu p - ho p)
        · have := k2 z2
          have hB : B = 2 := by
            rcases (show B = 1 ∨ B = 2 by omega) with e | e
            · exact absurd ((back (by omega)).1 e) z1
            · exact e
          rw [if_pos z2, hB]
          rfl
        · rw [if_neg z2]
          by_cases z3 : s_rc (s_Tm n law ti ap) (fun c => c < 4 ^ n ∧ s_va c n = true) Pd 3 (fun p => pu p - ho p)
          · have := k3 z3
            have hB : B = 3 := by
              rcases (show B = 1 ∨ B = 2 ∨ B = 3 by omega) with e | e | e
              · exact absurd ((back (by omega)).1 e) z1
              · exact absurd ((back (by omega)).2.1 e) z2
              · exact e
            rw [if_pos z3, hB]
            rfl
          · have hB : B = 0 := by
              rcases (show B = 0 ∨ B = 1 ∨ B = 2 ∨ B = 3 by omega) with e | e | e | e
              · exact e
              · exact absurd ((back (by omega)).1 e) z1
              · exact absurd ((back (by omega)).2.1 e) z2
              · exact absurd ((back (by omega)).2.2 e) z3
            rw [if_neg z3, hB]
            rfl
  · refine ⟨h1, ?_, a2, P, E⟩
    rw [if_neg h4, if_neg h4]
theorem q8_down (hN : 5000 ≤ N) (D : q_RD N c1 c2 n R f0 f1 pu ap se) (Y : q_QY c1 c2 law ti ho wo hy) (a v : Int32) :
    ∃ h', fX8_down N hy a v = some (h', if mm_gd a n = true then (if mm_gd v 100 = true then (if n ≤ 4 then s_fw n law ti ap (s_wy n) (fun p => pu p - ho p) (s_pA a.toNatClampNeg v.toNatClampNeg) else -4) else -2) else -2) ∧ q_fy hy h' := by
  obtain ⟨h1, e1, e2, P, E⟩ := q8_isPerson (N := N) D Y a
  have hn := P.1
  unfold fX8_down
  rw [e1, mm_call_some, q_b0]
  by_cases z : mm_gd a n = true
  · obtain ⟨a, hp, rfl⟩ := qg_ex z (by omega)
    rw [if_pos z, if_pos z, q8_in (n := 100) (by decide), mm_call_some, q_b0]
    by_cases y : mm_gd v 100 = true
    · obtain ⟨v, hv, rfl⟩ := qg_ex y (by omega)
      obtain ⟨h', g1, g2, -⟩ := q8_downBy (N := N) hN D (Y.fy e2) (Or.inr ⟨a, v, hp, by omega, rfl, rfl, rfl⟩)
      refine ⟨h', ?_, e2.tr g2⟩
      rw [if_pos y, if_pos y, g1, mm_call_some, qn_c (by omega), qn_c (by omega)]
    · exact ⟨h1, by rw [if_neg y, if_neg y], e2⟩
  · exact ⟨h1, by rw [if_neg z, if_neg z], e2⟩
theorem q8_alike (hN : 5000 ≤ N) (D : q_RD N c1 c2 n R f0 f1 pu ap se) (Y : q_QY c1 c2 law ti ho wo hy) :
    ∃ h', fX8_alike N hy = some (h', if n ≤ 4 then s_fw n law ti ap (s_wy n) (fun p => pu p - ho p) (s_pE n) else -4) ∧ q_fy hy h' := by
  obtain ⟨h', g1, g2, -⟩ := q8_downBy (N := N) (q := -1) (vv := 0) hN D Y (Or.inl ⟨rfl, rfl⟩)
  refine ⟨h', ?_, g2⟩
  unfold fX8_alike
  rw [g1, mm_call_some]
end Q10e
