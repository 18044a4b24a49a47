/-! PURE 12b: both at once; what is told -/
section Q12b
variable {N : Nat} {hx hy : mm_M}
theorem q6_app {P l m : Nat} {v : Int32} (hP : mx_tl P = m) (hm : m < 1000) (h : hx P 1 = nI l) (hl : l < m) : fX6_isFull N P hx = some (hx, 0) ∧ fX6_append N P hx v = some (mm_up (mm_up hx (P + 2) l v) P 1 (nI (l + 1)), ()) := by
  have e : fX6_isFull N P hx = some (hx, 0) := by
    have d : nI l < nI m := (qn_lt (by omega) (by omega)).mpr hl
    unfold fX6_isFull
    rw [h, hP, ← qn_lit, if_pos d]
  refine ⟨e, ?_⟩
  have g : mm_gd (nI l) m = true := qn_gd hl (by omega)
  unfold fX6_append
  rw [e, mm_call_some, if_pos rfl, h, hP, if_pos g, qn_c (by omega), mm_let, mm_up_ne _ _ _ (show P ≠ P + 2 by omega), h, nI_1, mm_let]
theorem q6_ful {P m : Nat} (hP : mx_tl P = m) (h : hx P 1 = nI m) : fX6_isFull N P hx = some (hx, 1) := by
  have d : ¬ nI m < nI m := Int32.lt_irrefl
  unfold fX6_isFull
  rw [h, hP, ← qn_lit, if_neg d]
/-- texts that have changed on both sides -/
theorem j_texts (hN : 5000 ≤ N) (R : q_R hx hy) {l0 l1 : Nat} {b0 b1 : Nat → Nat} {hx1 hy1 : mm_M} (T : q_TX l0 l1 b0 b1 hx1) (f : q_fr [2, 3, 4, 5] hx hx1) (U : q_TY l0 l1 b0 b1 hy1) (g : q_fr [1, 2] hy hy1) :
    ∃ hx2, fX7_understandTexts N hx1 = some (hx2, ()) ∧ q_R hx2 hy1 ∧ q_fr [6, 7, 8, 12, 13, 14] hx1 hx2 := by
  obtain ⟨l0', l1', b0', b1', law, ti, ho, wo, ns, sr, sp, sv, u1, u2, u3, u4, u5, u6⟩ := R
  obtain ⟨a1, a2, a3, a4, a5⟩ := u1
  have P := a2.fr f (by decide) (by decide) (by decide) (by decide) (by decide)
  obtain ⟨h', e1, e2, e3⟩ := q7_und (N := N) (by omega) T P.2.2.2.2.1 P.2.2.2.2.2.1 P.2.1 P.2.2.1 P.2.2.2.2.2.2.2.2.1 P.2.2.2.2.2.2.2.2.2
  refine ⟨h', e1, ?_, e2⟩
  have ff : q_fr [2, 3, 4, 5, 6, 7, 8, 12, 13, 14] hx h' := f.tr e2 (by decide) (by decide)
  refine ⟨l0, l1, b0, b1, law, ti, ho, wo, ns, sr, sp, sv, e3, u2.fr2 ff (by decide), U, ?_, ?_, u6.fr (fun c hc => ff c (by revert c hc; decide)) (fun c hc => g c (by revert c hc; decide)) (by rw [g 0 (by decide)])⟩
  · unfold q_QY at *
    rw [g 6 (by decide), g 7 (by decide), g 8 (by decide)]
    exact ⟨rfl, rfl, u4.2.2⟩
  · unfold q_SeY at *
    rw [g 0 (by decide), g 17 (by decide), g 18 (by decide), g 19 (by decide)]
    exact u5
theorem q_R.tx (R : q_R hx hy) : ∃ (l0 l1 : Nat) (b0 b1 : Nat → Nat), q_TX l0 l1 b0 b1 hx ∧ q_TY l0 l1 b0 b1 hy := by
  obtain ⟨l0, l1, b0, b1, law, ti, ho, wo, ns, sr, sp, sv, u1, u2, u3, -⟩ := R
  exact ⟨l0, l1, b0, b1, u1.1, u3⟩
theorem j_type (hN : 5000 ≤ N) (R : q_R hx hy) (a b : Int32) : q_J (fX7_type N hx a b) (fX8_type N hy a b) := by
  obtain ⟨l0, l1, b0, b1, TX, TY⟩ := R.tx
  unfold fX7_type fX8_type
  rw [q7_isText, mm_call_some, q_b0, q8_in (n := 2) (by decide), mm_call_some, q_b0]
  by_cases z : mm_gd a 2 = true
  · obtain ⟨t, ht, rfl⟩ := qg_ex z (by omega)
    rw [if_pos z, if_pos z, q7_in (n := 256) (by decide), mm_call_some, q_b0, q8_in (n := 256) (by decide), mm_call_some, q_b0]
    by_cases y : mm_gd b 256 = true
    · obtain ⟨v, hv, rfl⟩ := qg_ex y (by omega)
      rw [if_pos y, if_pos y, if_pos z, if_pos z, qn_c (by omega)]
      obtain ⟨x1, x2, x3, x4, x5, x6⟩ := id TX
      obtain ⟨y1, y2, y3, y4, y5, y6⟩ := id TY
      have ht : t = 0 ∨ t = 1 := by omega
      rcases ht with rfl | rfl
      · have i0 : nI 0 = (0 : Int32) := rfl
        rw [if_pos i0, Nat.add_zero, y3]
        by_cases w : l0 = 30
        · have w2 : nI l0 = (30 : Int32) := by rw [w]; rfl
          have w3 : ¬ (1 : Int32) = 0 := by decide
          rw [w] at x3
          rw [q6_ful (P := 2) (m := 30) rfl x3, mm_call_some, if_neg w3, if_pos w2]
          exact ⟨hx, hy, -4, rfl, rfl, R⟩
        · have w2 : ¬ nI l0 = (30 : Int32) := fun q => w ((qn_eq (b := 30) (by omega) (by omega)).mp q)
          obtain ⟨s1, s2⟩ := q6_app (N := N) (P := 2) (m := 30) (v := nI v) rfl (by omega) x3 (by omega)
          have g : mm_gd (nI l0) 120 = true := qn_gd (by omega) (by omega)
          have U : q_TY (l0 + 1) l1 (fun i => if i = l0 then v else b0 i) b1 (mm_up (mm_up hy 2 l0 (nI v)) 1 0 (nI (l0 + 1))) := by
            refine ⟨by omega, y2, by simp [q_up], by simp [q_up, y4], ?_, ?_⟩
            · intro i hi
              by_cases e : i = l0
              · simp [q_up, e, hv]
              · have := y5 i (by omega)
                simp [q_up, e, this]
            · intro i hi
              have := y6 i hi
              simp [q_up, this, show ¬ 60 + i = l0 by omega]
          have T : q_TX (l0 + 1) l1 (fun i => if i = l0 then v else b0 i) b1 (mm_up (mm_up hx (2 + 2) l0 (nI v)) 2 1 (nI (l0 + 1))) := by
            refine ⟨by omega, x2, by simp [q_up], by simp [q_up, x4], ?_, ?_⟩
            · intro i hi
              by_cases e : i = l0
              · simp [q_up, e, hv]
              · have := x5 i (by omega)
                simp [q_up, e, this]
            · intro i hi
              have := x6 i hi
              simp [q_up, this]
          have f : q_fr [2, 3, 4, 5] hx (mm_up (mm_up hx (2 + 2) l0 (nI v)) 2 1 (nI (l0 + 1))) := (q_fr.up (S := [2, 3, 4, 5]) (by decide)).tr (q_fr.up (S := [2, 3, 4, 5]) (by decide)) (fun _ q => q) (fun _ q => q)
          have f' : q_fr [1, 2] hy (mm_up (mm_up hy 2 l0 (nI v)) 1 0 (nI (l0 + 1))) := (q_fr.up (S := [1, 2]) (by decide)).tr (q_fr.up (S := [1, 2]) (by decide)) (fun _ q => q) (fun _ q => q)
          obtain ⟨hx2, e1, e2, e3⟩ := j_texts hN R T f U f'
          have m0 : (60 : Int32) * nI 0 + nI l0 = nI l0 := by
            rw [show (60 : Int32) = nI 60 from rfl, qn_mul, nI_add, Nat.mul_zero, Nat.zero_add]
          refine ⟨hx2, _, nI (l0 + 1), ?_, ?_, e2⟩
          · rw [s1, mm_call_some, if_pos rfl, s2, mm_call_some, e1, mm_call_some, e3 2 (by decide), T.2.2.1]
          · rw [if_neg w2, m0, if_pos g, qn_c (by omega), mm_let, mm_up_ne _ _ _ (by decide), y3, nI_1, mm_let]
            simp [q_up]
      · have i0 : ¬ nI 1 = (0 : Int32) := by decide
        rw [if_neg i0, show 2 + 1 = 3 from rfl, y4]
        by_cases w : l1 = 60
        · have w2 : nI l1 = (60 : Int32) := by rw [w]; rfl
          have w3 : ¬ (1 : Int32) = 0 := by decide
          rw [w] at x4
          rw [q6_ful (P := 3) (m := 60) rfl x4, mm_call_some, if_neg w3, if_pos w2]
          exact ⟨hx, hy, -4, rfl, rfl, R⟩
        · have w2 : ¬ nI l1 = (60 : Int32) := fun q => w ((qn_eq (b := 60) (by omega) (by omega)).mp q)
          obtain ⟨s1, s2⟩ := q6_app (N := N) (P := 3) (m := 60) (v := nI v) rfl (by omega) x4 (by omega)
          have g : mm_gd (nI (60 + l1)) 120 = true := qn_gd (by omega) (by omega)
          have U : q_TY l0 (l1 + 1) b0 (fun i => if i = l1 then v else b1 i) (mm_up (mm_up hy 2 (60 + l1) (nI v)) 1 1 (nI (l1 + 1))) := by
            refine ⟨y1, by omega, by simp [q_up, y3], by simp [q_up], ?_, ?_⟩
            · intro i hi
              have := y5 i hi
              simp [q_up, this, show ¬ i = 60 + l1 by omega]
            · intro i hi
              by_cases e : i = l1
              · simp [q_up, e, hv]
              · have := y6 i (by omega)
                simp [q_up, e, this, show ¬ 60 + i = 60 + l1 by omega]
          have T : q_TX l0 (l1 + 1) b0 (fun i => if i = l1 then v else b1 i) (mm_up (mm_up hx (3 + 2) l1 (nI v)) 3 1 (nI (l1 + 1))) := by
            refine ⟨x1, by omega, by simp [q_up, x3], by simp [q_up], ?_, ?_⟩
            · intro i hi
              have := x5 i hi
              simp [q_up, this]
            · intro i hi
              by_cases e : i = l1
              · simp [q_up, e, hv]
              · have := x6 i (by omega)
                simp [q_up, e, this]
          have f : q_fr [2, 3, 4, 5] hx (mm_up (mm_up hx (3 + 2) l1 (nI v)) 3 1 (nI (l1 + 1))) := (q_fr.up (S := [2, 3, 4, 5]) (by decide)).tr (q_fr.up (S := [2, 3, 4, 5]) (by decide)) (fun _ q => q) (fun _ q => q)
          have f' : q_fr [1, 2] hy (mm_up (mm_up hy 2 (60 + l1) (nI v)) 1 1 (nI (l1 + 1))) := (q_fr.up (S := [1, 2]) (by decide)).tr (q_fr.up (S := [1, 2]) (by decide)) (fun _ q => q) (fun _ q => q)
          obtain ⟨hx2, e1, e2, e3⟩ := j_texts hN R T f U f'
          have m0 : (60 : Int32) * nI 1 + nI l1 = nI (60 + l1) := by
            rw [show (60 : Int32) = nI 60 from rfl, qn_mul, nI_add]
          refine ⟨hx2, _, nI (l1 + 1), ?_, ?_, e2⟩
          · rw [s1, mm_call_some, if_pos rfl, s2, mm_call_some, e1, mm_call_some, e3 3 (by decide), T.2.2.2.1]
          · rw [if_neg w2, m0, if_pos g, qn_c (by omega), mm_let, mm_up_ne _ _ _ (by decide), y4, nI_1, mm_let]
            simp [q_up]
    · rw [if_neg y, if_neg y]
      exact ⟨hx, hy, -2, rfl, rfl, R⟩
  · rw [if_neg z, if_neg z]
    exact ⟨hx, hy, -2, rfl, rfl, R⟩
theorem j_wipe (hN : 5000 ≤ N) (R : q_R hx hy) (a : Int32) : q_J (fX7_wipe N hx a) (fX8_wipe N hy a) := by
  obtain ⟨l0, l1, b0, b1, TX, TY⟩ := R.tx
  unfold fX7_wipe fX8_wipe
  rw [q7_isText, mm_call_some, q_b0, q8_in (n := 2) (by decide), mm_call_some, q_b0]
  by_cases z : mm_gd a 2 = true
  · obtain ⟨t, ht, rfl⟩ := qg_ex z (by omega)
    rw [if_pos z, if_pos z, if_pos z, if_pos z, qn_c (by omega), mm_let, mm_let, mm_let, mm_let]
    obtain ⟨x1, x2, x3, x4, x5, x6⟩ := id TX
    obtain ⟨y1, y2, y3, y4, y5, y6⟩ := id TY
    have ht : t = 0 ∨ t = 1 := by omega
    have no : ∀ (f : Nat → Int32) (b : Nat → Nat) (i : Nat), i < 0 → f i = nI (b i) ∧ b i < 256 := fun _ _ i hi => absurd hi (Nat.not_lt_zero i)
    rcases ht with rfl | rfl
    · have T : q_TX 0 l1 b0 b1 (mm_up hx 2 1 (nI 0)) := ⟨by omega, x2, by simp [q_up], by simp [q_up, x4], no _ _, fun i hi => by have := x6 i hi; simp [q_up, this]⟩
      have U : q_TY 0 l1 b0 b1 (mm_up hy 1 0 (nI 0)) := ⟨by omega, y2, by simp [q_up], by simp [q_up, y4], no _ _, fun i hi => by have := y6 i hi; simp [q_up, this]⟩
      obtain ⟨hx2, e1, e2, e3⟩ := j_texts hN R T (q_fr.up (by decide)) U (q_fr.up (by decide))
      refine ⟨hx2, _, nI l0, ?_, ?_, e2⟩
      · rw [Nat.add_zero, x3, show (0 : Int32) = nI 0 from rfl, e1, mm_call_some]
      · rw [y3, show (0 : Int32) = nI 0 from rfl]
    · have T : q_TX l0 0 b0 b1 (mm_up hx 3 1 (nI 0)) := ⟨x1, by omega, by simp [q_up, x3], by simp [q_up], fun i hi => by have := x5 i hi; simp [q_up, this], no _ _⟩
      have U : q_TY l0 0 b0 b1 (mm_up hy 1 1 (nI 0)) := ⟨y1, by omega, by simp [q_up, y3], by simp [q_up], fun i hi => by have := y5 i hi; simp [q_up, this], fun i hi => absurd hi (Nat.not_lt_zero i)⟩
      obtain ⟨hx2, e1, e2, e3⟩ := j_texts hN R T (q_fr.up (by decide)) U (q_fr.up (by decide))
      refine ⟨hx2, _, nI l1, ?_, ?_, e2⟩
      · rw [show 2 + 1 = 3 from rfl, x4, show (0 : Int32) = nI 0 from rfl, e1, mm_call_some]
      · rw [y4, show (0 : Int32) = nI 0 from rfl]
  · rw [if_neg z, if_neg z]
    exact ⟨hx, hy, -2, rfl, rfl, R⟩
end Q12b
