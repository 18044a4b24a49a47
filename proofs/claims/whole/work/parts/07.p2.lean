/-! PURE 2: the PEOPLE of the class -/
theorem qn_monus {a b : Nat} (ha : a < 100000) (hb : b < 100000) : (if (0 : Int32) < (nI a - nI b) then (nI a - nI b) else (0 : Int32)) = nI (a - b) := by
  by_cases h : b ≤ a
  · rw [qn_sub h]
    by_cases h0 : a - b = 0
    · rw [h0]; rfl
    · rw [if_pos]
      have := (qn_lt (a := 0) (b := a - b) (by omega) (by omega)).mpr (by omega)
      exact this
  · have h1 := pk_sneg (a := a) (b := b) (by omega) (by omega)
    rw [if_neg (by
      intro h2
      have := Int32.lt_trans h1 h2
      exact Int32.lt_irrefl this)]
    rw [show a - b = 0 by omega]
    rfl
theorem q2_hand {N p : Nat} {h : mm_M} {pu ho : Nat → Nat} (hp : p < 6) (h7 : h 7 p = nI (pu p)) (h9 : h 9 p = nI (ho p)) (b7 : pu p ≤ 99) (b9 : ho p ≤ 99) : fX2_handAtFirst N h (nI p) = some (h, nI (pu p - ho p)) := by
  unfold fX2_handAtFirst
  rw [if_pos (qn_gd hp (by omega)), qn_c (by omega), h7, h9, qn_monus (by omega) (by omega)]
theorem q2_tell_L {N c0 : Nat} {hx : mm_M} {pu ho : Nat → Nat} (hc7 : c0 ≠ 7) (hc9 : c0 ≠ 9) (h7 : ∀ p, p < 6 → hx 7 p = nI (pu p) ∧ pu p ≤ 99) (h9 : ∀ p, p < 6 → hx 9 p = nI (ho p) ∧ ho p ≤ 99) :
    ∀ j i h, i + j = 6 → q_fr [c0] hx h → (∀ p, p < i → h c0 p = nI (pu p - ho p)) →
      ∃ h', (∀ k fuel, j < fuel → fX2_tellHandsAtFirst_L2 N c0 k fuel h (nI i) = k h') ∧ q_fr [c0] hx h' ∧ ∀ p, p < 6 → h' c0 p = nI (pu p - ho p) := by
  intro j
  induction j with
  | zero =>
    intro i h hi hf hv
    refine ⟨h, ?_, hf, fun p hp => hv p (by omega)⟩
    intro k fuel hfu
    obtain ⟨f, rfl⟩ : ∃ f, fuel = f + 1 := ⟨fuel - 1, by omega⟩
    have d1 : (6 : Int32) ≤ nI i := (qn_le (a := 6) (b := i) (by omega) (by omega)).mpr (by omega)
    rw [fX2_tellHandsAtFirst_L2, if_pos d1]
  | succ j ih =>
    intro i h hi hf hv
    obtain ⟨h', e1, e2, e3⟩ := ih (i + 1) (mm_up h c0 i (nI (pu i - ho i))) (by omega) (hf.tr (q_fr.up (S := [c0]) (by simp)) (fun _ q => q) (fun _ q => q)) (by
      intro p hp
      rw [q_up]
      by_cases hpi : p = i
      · simp [hpi]
      · simp [hpi, hv p (by omega)])
    refine ⟨h', ?_, e2, e3⟩
    intro k fuel hfu
    obtain ⟨f, rfl⟩ : ∃ f, fuel = f + 1 := ⟨fuel - 1, by omega⟩
    have a7 := h7 i (by omega)
    have a9 := h9 i (by omega)
    have d1 : ¬ (6 : Int32) ≤ nI i := fun q => absurd ((qn_le (a := 6) (b := i) (by omega) (by omega)).mp q) (by omega)
    rw [fX2_tellHandsAtFirst_L2, if_neg d1,
      q2_hand (pu := pu) (ho := ho) (by omega) (by rw [hf 7 (by simp [hc7.symm]), a7.1]) (by rw [hf 9 (by simp [hc9.symm]), a9.1]) a7.2 a9.2, mm_call_some, if_pos (qn_gd (by omega) (by omega)), mm_let, qn_c (by omega), nI_1]
    exact e1 k f (by omega)
theorem q2_tell {N c0 : Nat} {hx : mm_M} {pu ho : Nat → Nat} (hN : 100 ≤ N) (hc7 : c0 ≠ 7) (hc9 : c0 ≠ 9) (h7 : ∀ p, p < 6 → hx 7 p = nI (pu p) ∧ pu p ≤ 99) (h9 : ∀ p, p < 6 → hx 9 p = nI (ho p) ∧ ho p ≤ 99) :
    ∃ h', fX2_tellHandsAtFirst N c0 hx = some (h', ()) ∧ q_fr [c0] hx h' ∧ ∀ p, p < 6 → h' c0 p = nI (pu p - ho p) := by
  obtain ⟨h', e1, e2, e3⟩ := q2_tell_L (N := N) hc7 hc9 h7 h9 6 0 hx rfl q_fr.rf (fun p hp => absurd hp (Nat.not_lt_zero p))
  exact ⟨h', e1 _ N (by omega), e2, e3⟩
theorem q2_ah_L {N c0 m n ti : Nat} {g : Nat → Nat} {hx : mm_M} (h5 : hx 6 5 = nI n) (h8 : hx 6 8 = nI ti) (hn : n ≤ 6) (hti : ti ≤ 1) (hg : ∀ p, p < n → hx c0 p = nI (g p)) (hgb : ∀ p, p < n → g p < 100000) (hm : m < 64) (k : mm_M → Int32 → Option (mm_M × Int32)) :
    ∀ j fuel i, i + j = n → j < fuel → fX2_aheadBy_L5 N c0 (nI m) k fuel hx (q_ix (s_ah ti g (fun q => m.testBit q) i)) (nI i) = k hx (q_ix (s_ah ti g (fun q => m.testBit q) n)) := by
  intro j
  induction j with
  | zero =>
    intro fuel i hi hfu
    obtain ⟨f, rfl⟩ : ∃ f, fuel = f + 1 := ⟨fuel - 1, by omega⟩
    rw [fX2_aheadBy_L5, h5, if_pos ((qn_le (by omega) (by omega)).mpr (by omega)), show i = n by omega]
  | succ j ih =>
    intro fuel i hi hfu
    obtain ⟨f, rfl⟩ : ∃ f, fuel = f + 1 := ⟨fuel - 1, by omega⟩
    have hr := ih f (i + 1) (by omega) (by omega)
    rw [s_ah] at hr
    rw [fX2_aheadBy_L5, h5, if_neg (fun q => absurd ((qn_le (by omega) (by omega)).mp q) (by omega)), nI_1]
    have hle := s_ah_le ti g (fun q => m.testBit q) i
    generalize s_ah ti g (fun q => m.testBit q) i = a at hr hle ⊢
    by_cases hb : m.testBit i = true
    · rw [if_neg (fun q => by rw [(qb_and m hm i (by omega)).mp q] at hb; cases hb)]
      cases a with
      | zero =>
        rw [q_ix0, if_pos rfl]
        simpa [hb, q_ixs] using hr
      | succ a =>
        rw [q_ixs, if_neg (qn_m1 (by omega)), if_pos (qn_gd (by omega) (by omega)), if_pos (qn_gd (by omega) (by omega)), qn_c (by omega), qn_c (by omega), hg a (by omega), hg i (by omega), h8]
        have g1 := hgb a (by omega)
        have g2 := hgb i (by omega)
        by_cases h1 : g a < g i
        · rw [if_pos ((qn_lt g1 g2).mpr h1)]
          simpa [hb, h1, q_ixs] using hr
        · rw [if_neg (fun q => h1 ((qn_lt g1 g2).mp q))]
          by_cases h2 : ti = 1
          · subst h2
            rw [if_pos ((qn_e1 (by omega)).mpr rfl)]
            by_cases h3 : g i = g a
            · rw [if_pos ((qn_eq g2 g1).mpr h3)]
              simpa [hb, h3, q_ixs] using hr
            · rw [if_neg (fun q => h3 ((qn_eq g2 g1).mp q))]
              simpa [hb, h1, h3, q_ixs] using hr
          · rw [if_neg (fun q => h2 ((qn_e1 (by omega)).mp q))]
            simpa [hb, h1, h2, q_ixs] using hr
    · have hb : m.testBit i = false := by simpa using hb
      rw [if_pos ((qb_and m hm i (by omega)).mpr hb)]
      simpa [hb] using hr
theorem q2_ah {N c0 m n ti : Nat} {g : Nat → Nat} {hx : mm_M} (hN : 100 ≤ N) (h5 : hx 6 5 = nI n) (h8 : hx 6 8 = nI ti) (hn : n ≤ 6) (hti : ti ≤ 1) (hg : ∀ p, p < n → hx c0 p = nI (g p)) (hgb : ∀ p, p < n → g p < 100000) (hm : m < 64) :
    fX2_aheadBy N c0 hx (nI m) = some (hx, q_ix (s_ah ti g (fun q => m.testBit q) n)) :=
  q2_ah_L h5 h8 hn hti hg hgb hm (fun h11 v12 => some (h11, v12)) n N 0 (by omega) (by omega)
theorem q2_ch_L {N c1 m n law : Nat} {ap : Nat → Nat} {hx : mm_M} (h5 : hx 6 5 = nI n) (h7 : hx 6 7 = nI law) (hn : n ≤ 6) (hl : law ≤ 2) (hap : ∀ p, p < n → hx 8 p = nI (ap p)) (hm : m < 64) :
    ∀ j i h, i + j = n → q_fr [11] hx h → (∀ p, p < i → m.testBit p = true → h 11 p = nI (if law = 2 then ap p else 0)) → (∀ p, p < 6 → ¬ (p < i ∧ m.testBit p = true) → h 11 p = hx 11 p) →
      ∃ h', (∀ k fuel, j < fuel → fX2_charge_L5 N c1 (nI m) k fuel h (nI (s_tot ap (fun q => m.testBit q) i)) (nI i) = k h' (nI (s_tot ap (fun q => m.testBit q) n))) ∧ q_fr [11] hx h' ∧
        (∀ p, p < n → m.testBit p = true → h' 11 p = nI (if law = 2 then ap p else 0)) ∧ (∀ p, p < 6 → ¬ (p < n ∧ m.testBit p = true) → h' 11 p = hx 11 p) := by
  intro j
  induction j with
  | zero =>
    intro i h hi hf hv hw
    have hi : i = n := by omega
    subst hi
    refine ⟨h, ?_, hf, hv, hw⟩
    intro k fuel hfu
    obtain ⟨f, rfl⟩ : ∃ f, fuel = f + 1 := ⟨fuel - 1, by omega⟩
    rw [fX2_charge_L5, hf 6 (by simp), h5, if_pos ((qn_le (by omega) (by omega)).mpr (by omega))]
  | succ j ih =>
    intro i h hi hf hv hw
    by_cases hb : m.testBit i = true
    · obtain ⟨h', e1, e2⟩ := ih (i + 1) (mm_up h 11 i (nI (if law = 2 then ap i else 0))) (by omega) (hf.tr (q_fr.up (S := [11]) (by simp)) (fun _ q => q) (fun _ q => q)) (by
        intro p hp hs
        rw [q_up]
        by_cases hpi : p = i
        · simp [hpi]
        · simp [hpi, hv p (by omega) hs]) (by
        intro p hp hs
        rw [q_up]
        by_cases hpi : p = i
        · subst hpi; exact absurd ⟨by omega, hb⟩ hs
        · simp only [if_pos, hpi, if_false]
          exact hw p hp (fun q => hs ⟨by omega, q.2⟩))
      refine ⟨h', ?_, e2⟩
      intro k fuel hfu
      obtain ⟨f, rfl⟩ : ∃ f, fuel = f + 1 := ⟨fuel - 1, by omega⟩
      have r1 := e1 k f (by omega)
      rw [s_tot] at r1
      simp only [hb, if_true] at r1
      rw [fX2_charge_L5, hf 6 (by simp), h5, h7, if_neg (fun q => absurd ((qn_le (by omega) (by omega)).mp q) (by omega)), if_neg (fun q => by rw [(qb_and m hm i (by omega)).mp q] at hb; cases hb),
        if_pos (qn_gd (by omega) (by omega)), qn_c (by omega), nI_1]
      by_cases hl2 : law = 2
      · subst hl2
        rw [if_pos ((qn_e2 (by omega)).mpr rfl), mm_let, mm_let, mm_up_ne _ _ _ (by decide), hf 8 (by simp), hap i (by omega), nI_add]
        simpa using r1
      · rw [if_neg (fun q => hl2 ((qn_e2 (by omega)).mp q)), if_pos (qn_gd (by omega) (by omega)), mm_let, mm_let, mm_up_ne _ _ _ (by decide), hf 8 (by simp), hap i (by omega), nI_add]
        simpa [hl2, nI_0] using r1
    · have hb : m.testBit i = false := by simpa using hb
      obtain ⟨h', e1, e2⟩ := ih (i + 1) h (by omega) hf (by
        intro p hp hs
        by_cases hpi : p = i
        · subst hpi; rw [hb] at hs; cases hs
        · exact hv p (by omega) hs) (fun p hp hs => hw p hp (fun q => hs ⟨by omega, q.2⟩))
      refine ⟨h', ?_, e2⟩
      intro k fuel hfu
      obtain ⟨f, rfl⟩ : ∃ f, fuel = f + 1 := ⟨fuel - 1, by omega⟩
      have r1 := e1 k f (by omega)
      rw [s_tot] at r1
      rw [fX2_charge_L5, hf 6 (by simp), h5, if_neg (fun q => absurd ((qn_le (by omega) (by omega)).mp q) (by omega)), if_pos ((qb_and m hm i (by omega)).mpr hb), nI_1]
      simpa [hb] using r1
theorem q_half {a : Nat} (h : a < 100000) : nI a / 2 = nI (a / 2) := pk_div (a := a) (d := 2) (by omega) (by omega) (by omega)
/-- what behind charge() stands: due of those seated -/
theorem q2_charge {N c1 m n law ti : Nat} {ap g : Nat → Nat} {hx : mm_M} (hN : 100 ≤ N) (hc : c1 ≠ 11) (h5 : hx 6 5 = nI n) (h7 : hx 6 7 = nI law) (h8 : hx 6 8 = nI ti) (hn : n ≤ 6) (hl : law ≤ 2) (hti : ti ≤ 1) (hap : ∀ p, p < n → hx 8 p = nI (ap p) ∧ ap p ≤ 99) (hg : ∀ p, p < n → hx c1 p = nI (g p)) (hgb : ∀ p, p < n → g p < 100000) (hm : m < 64) :
    ∃ h', fX2_charge N c1 hx (nI m) = some (h', ()) ∧ q_fr [11] hx h' ∧ (∀ p, p < n → m.testBit p = true → h' 11 p = nI (s_due n law ti ap g (fun q => m.testBit q) p)) ∧ (∀ p, p < 6 → ¬ (p < n ∧ m.testBit p = true) → h' 11 p = hx 11 p) := by
  obtain ⟨h1, e1, e2, e3, e4⟩ := q2_ch_L (N := N) (c1 := c1) (m := m) h5 h7 hn hl (fun p hp => (hap p hp).1) hm n 0 hx (by omega) q_fr.rf (fun p hp => absurd hp (Nat.not_lt_zero p)) (fun p _ _ => rfl)
  have s5 : h1 6 5 = nI n := by rw [e2 6 (by simp), h5]
  have s7 : h1 6 7 = nI law := by rw [e2 6 (by simp), h7]
  have s8 : h1 6 8 = nI ti := by rw [e2 6 (by simp), h8]
  have sg : ∀ p, p < n → h1 c1 p = nI (g p) := fun p hp => by rw [e2 c1 (by simp [hc]), hg p hp]
  have htot : s_tot ap (fun q => m.testBit q) n < 100000 := by
    have := s_tot_le (ap := ap) (sel := fun q => m.testBit q) n (fun q hq => (hap q (by omega)).2)
    omega
  unfold fX2_charge
  rw [show (0 : Int32) = nI 0 from rfl, show nI 0 = nI (s_tot ap (fun q => m.testBit q) 0) from rfl, show fX2_charge_L5 N c1 (nI m) _ N hx (nI (s_tot ap (fun q => m.testBit q) 0)) (nI (s_tot ap (fun q => m.testBit q) 0)) = _ from e1 _ N (by omega)]
  by_cases hl2 : law = 2
  · subst hl2
    refine ⟨h1, ?_, e2, ?_, e4⟩
    · rw [s7]; rfl
    · intro p hp hs
      rw [e3 p hp hs]
      simp [s_due]
  · rw [s7, if_neg (fun q => hl2 ((qn_e2 (by omega)).mp q)), q2_ah hN s5 s8 hn hti sg hgb hm, mm_call_some]
    have a1 := s_ah_le ti g (fun q => m.testBit q) n
    have a2 := s_ah_sel ti g (fun q => m.testBit q) n
    rcases hr : s_ah ti g (fun q => m.testBit q) n with _ | r
    · refine ⟨h1, ?_, e2, ?_, e4⟩
      · rw [q_ix0, if_pos rfl]
      · intro p hp hs
        rw [e3 p hp hs]
        exact absurd hr (s_ah_any ti g (fun q => m.testBit q) n p hp hs)
    · rw [hr] at a1 a2
      simp only [Nat.add_sub_cancel] at a2
      have hrs : m.testBit r = true := a2 (by omega)
      rw [q_ixs, if_neg (qn_m1 (by omega)), s7]
      have hm2 := qb_out_lt m hm r (by omega)
      generalize htt : s_tot ap (fun q => m.testBit q) n = tot at htot ⊢
      by_cases hl1 : law = 1
      · subst hl1
        have b0 : s_ah ti g (fun q => (m &&& (63 ^^^ 1 <<< r)).testBit q) n = s_ah ti g (fun q => m.testBit q && !decide (q = r)) n := s_ah_congr ti n (fun q hq => qb_out_bit m hm r (by omega) q (by omega)) (fun _ _ => rfl)
        have b3 : s_ah ti g (fun q => m.testBit q && !decide (q + 1 = r + 1)) n = s_ah ti g (fun q => m.testBit q && !decide (q = r)) n := s_ah_congr ti n (fun q hq => by simp) (fun _ _ => rfl)
        rw [if_pos ((qn_e1 (by omega)).mpr rfl), qb_out m hm r (by omega), q2_ah hN s5 s8 hn hti sg hgb hm2, mm_call_some, b0]
        have b1 := s_ah_le ti g (fun q => m.testBit q && !decide (q = r)) n
        have b2 := s_ah_sel ti g (fun q => m.testBit q && !decide (q = r)) n
        rcases hr2 : s_ah ti g (fun q => m.testBit q && !decide (q = r)) n with _ | s
        · refine ⟨mm_up h1 11 r (nI tot), ?_, e2.tr (q_fr.up (S := [11]) (by simp)) (fun _ q => q) (fun _ q => q), ?_, ?_⟩
          · rw [q_ix0, if_pos rfl, if_pos (qn_gd (by omega) (by omega)), mm_let, qn_c (by omega)]
          · intro p hp hs
            rw [q_up]
            by_cases hpr : p = r
            · subst hpr
              simp [s_due, hr, hr2, htt]
            · have hpr' : ¬ r = p := fun q => hpr q.symm
              simp [hpr, e3 p hp hs, s_due, hr, b3, hr2, hpr']
          · intro p hp hs
            rw [q_up]
            by_cases hpr : p = r
            · subst hpr; exact absurd ⟨by omega, hrs⟩ hs
            · simp [hpr, e4 p hp hs]
        · rw [hr2] at b1 b2
          simp only [Nat.add_sub_cancel, Bool.and_eq_true, Bool.not_eq_true', decide_eq_false_iff_not] at b2
          obtain ⟨b4, b5⟩ := b2 (by omega)
          refine ⟨mm_up (mm_up h1 11 r (nI (tot / 2))) 11 s (nI (tot - tot / 2)), ?_, (e2.tr (q_fr.up (S := [11]) (by simp)) (fun _ q => q) (fun _ q => q)).tr (q_fr.up (S := [11]) (by simp)) (fun _ q => q) (fun _ q => q), ?_, ?_⟩
          · rw [q_ixs, if_neg (qn_m1 (by omega)), if_pos (qn_gd (by omega) (by omega)), mm_let, if_pos (qn_gd (by omega) (by omega)), mm_let, qn_c (by omega), qn_c (by omega), q_half htot, qn_sub (by omega)]
          · intro p hp hs
            rw [q_up, q_up]
            by_cases hps : p = s
            · subst hps
              have b5' : ¬ r = p := fun q => b5 q.symm
              simp [s_due, hr, b3, hr2, htt, b5']
            · by_cases hpr : p = r
              · subst hpr
                simp [hps, s_due, hr, hr2, htt]
              · have hpr' : ¬ r = p := fun q => hpr q.symm
                have hps' : ¬ s = p := fun q => hps q.symm
                simp [hpr, hps, e3 p hp hs, s_due, hr, b3, hr2, hpr', hps']
          · intro p hp hs
            rw [q_up, q_up]
            by_cases hps : p = s
            · subst hps; exact absurd ⟨by omega, b4⟩ hs
            · by_cases hpr : p = r
              · subst hpr; exact absurd ⟨by omega, hrs⟩ hs
              · simp [hpr, hps, e4 p hp hs]
      · rw [if_neg (fun q => hl1 ((qn_e1 (by omega)).mp q))]
        refine ⟨mm_up h1 11 r (nI tot), ?_, e2.tr (q_fr.up (S := [11]) (by simp)) (fun _ q => q) (fun _ q => q), ?_, ?_⟩
        · rw [if_pos (qn_gd (by omega) (by omega)), mm_let, qn_c (by omega)]
        · intro p hp hs
          rw [q_up]
          by_cases hpr : p = r
          · subst hpr
            simp [s_due, hl2, hl1, hr, htt]
          · have hpr' : ¬ r = p := fun q => hpr q.symm
            simp [hpr, e3 p hp hs, s_due, hr, hl2, hl1, hpr']
        · intro p hp hs
          rw [q_up]
          by_cases hpr : p = r
          · subst hpr; exact absurd ⟨by omega, hrs⟩ hs
          · simp [hpr, e4 p hp hs]
