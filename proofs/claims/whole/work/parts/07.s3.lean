/-! PURE 12c: both at once; homes, settings, what was seen -/
section Q12c
variable {N : Nat} {hx hy : mm_M}
theorem q_R.home (R : q_R hx hy) {p v : Nat} (hp : p < 6) (hv : v ≤ 99) : q_R (mm_up hx 9 p (nI v)) (mm_up hy 6 p (nI v)) := by
  obtain ⟨l0, l1, b0, b1, law, ti, ho, wo, ns, sr, sp, sv, u1, u2, u3, u4, u5, u6⟩ := R
  obtain ⟨a1, a2, a3, a4, a5⟩ := u1
  have f : q_fr [9] hx (mm_up hx 9 p (nI v)) := q_fr.up (by decide)
  have g : q_fr [6] hy (mm_up hy 6 p (nI v)) := q_fr.up (by decide)
  refine ⟨l0, l1, b0, b1, law, ti, fun i => if i = p then v else ho i, wo, ns, sr, sp, sv, ⟨a1.fr f (by decide) (by decide) (by decide) (by decide), ?_, by rw [f 6 (by decide), a3], a4.fr f (by decide) (by decide) (by decide), by rw [f 12 (by decide), a5]⟩, u2.fr2 f (by decide), u3.eq (g 1 (by decide)) (g 2 (by decide)), ?_, ?_, u6.fr (fun c hc => f c (by revert c hc; decide)) (fun c hc => g c (by revert c hc; decide)) (by rw [g 0 (by decide)])⟩
  · unfold q_PX at *
    rw [f 6 (by decide), f 7 (by decide), f 8 (by decide), f 10 (by decide)]
    refine ⟨a2.1, a2.2.1, a2.2.2.1, a2.2.2.2.1, a2.2.2.2.2.1, a2.2.2.2.2.2.1, a2.2.2.2.2.2.2.1, a2.2.2.2.2.2.2.2.1, ?_, a2.2.2.2.2.2.2.2.2.2⟩
    intro i hi
    by_cases e : i = p
    · simp [q_up, e, hv]
    · have := a2.2.2.2.2.2.2.2.2.1 i hi
      simp [q_up, e, this]
  · unfold q_QY at *
    rw [g 7 (by decide), g 8 (by decide)]
    refine ⟨rfl, rfl, u4.2.2.1, u4.2.2.2.1, u4.2.2.2.2.1, u4.2.2.2.2.2.1, ?_, u4.2.2.2.2.2.2.2⟩
    intro i hi
    by_cases e : i = p
    · simp [q_up, e, hv]
    · have := u4.2.2.2.2.2.2.1 i hi
      simp [q_up, e, this]
  · unfold q_SeY at *
    rw [g 0 (by decide), g 17 (by decide), g 18 (by decide), g 19 (by decide)]
    exact u5
theorem q_R.worth (R : q_R hx hy) {p v : Nat} (hp : p < 6) (hv : v ≤ 99) : q_R (mm_up hx 10 p (nI v)) (mm_up hy 7 p (nI v)) := by
  obtain ⟨l0, l1, b0, b1, law, ti, ho, wo, ns, sr, sp, sv, u1, u2, u3, u4, u5, u6⟩ := R
  obtain ⟨a1, a2, a3, a4, a5⟩ := u1
  have f : q_fr [10] hx (mm_up hx 10 p (nI v)) := q_fr.up (by decide)
  have g : q_fr [7] hy (mm_up hy 7 p (nI v)) := q_fr.up (by decide)
  refine ⟨l0, l1, b0, b1, law, ti, ho, fun i => if i = p then v else wo i, ns, sr, sp, sv, ⟨a1.fr f (by decide) (by decide) (by decide) (by decide), ?_, by rw [f 6 (by decide), a3], a4.fr f (by decide) (by decide) (by decide), by rw [f 12 (by decide), a5]⟩, u2.fr2 f (by decide), u3.eq (g 1 (by decide)) (g 2 (by decide)), ?_, ?_, u6.fr (fun c hc => f c (by revert c hc; decide)) (fun c hc => g c (by revert c hc; decide)) (by rw [g 0 (by decide)])⟩
  · unfold q_PX at *
    rw [f 6 (by decide), f 7 (by decide), f 8 (by decide), f 9 (by decide)]
    refine ⟨a2.1, a2.2.1, a2.2.2.1, a2.2.2.2.1, a2.2.2.2.2.1, a2.2.2.2.2.2.1, a2.2.2.2.2.2.2.1, a2.2.2.2.2.2.2.2.1, a2.2.2.2.2.2.2.2.2.1, ?_⟩
    intro i hi
    by_cases e : i = p
    · simp [q_up, e, hv]
    · have := a2.2.2.2.2.2.2.2.2.2 i hi
      simp [q_up, e, this]
  · unfold q_QY at *
    rw [g 6 (by decide), g 8 (by decide)]
    refine ⟨rfl, rfl, u4.2.2.1, u4.2.2.2.1, u4.2.2.2.2.1, u4.2.2.2.2.2.1, u4.2.2.2.2.2.2.1, ?_⟩
    intro i hi
    by_cases e : i = p
    · simp [q_up, e, hv]
    · have := u4.2.2.2.2.2.2.2 i hi
      simp [q_up, e, this]
  · unfold q_SeY at *
    rw [g 0 (by decide), g 17 (by decide), g 18 (by decide), g 19 (by decide)]
    exact u5
theorem q_R.same (R : q_R hx hy) : (∀ p, p < 6 → hx 9 p = hy 6 p) ∧ (∀ p, p < 6 → hx 10 p = hy 7 p) ∧ hx 6 7 = hy 8 0 ∧ hx 6 8 = hy 8 1 := by
  obtain ⟨l0, l1, b0, b1, law, ti, ho, wo, ns, sr, sp, sv, u1, u2, u3, u4, u5, u6⟩ := R
  obtain ⟨a1, a2, a3, a4, a5⟩ := u1
  unfold q_QY at u4
  unfold q_PX at a2
  refine ⟨fun p hp => ?_, fun p hp => ?_, ?_, ?_⟩
  · rw [(a2.2.2.2.2.2.2.2.2.1 p hp).1, (u4.2.2.2.2.2.2.1 p hp).1]
  · rw [(a2.2.2.2.2.2.2.2.2.2 p hp).1, (u4.2.2.2.2.2.2.2 p hp).1]
  · rw [a2.2.2.2.2.1, u4.2.2.2.2.1]
  · rw [a2.2.2.2.2.2.1, u4.2.2.2.2.2.1]
theorem j_home (R : q_R hx hy) (a b : Int32) : q_J (fX7_home N hx a b) (fX8_home N hy a b) := by
  unfold fX7_home fX8_home
  rw [q7_in (n := 6) (by decide), mm_call_some, q_b0, q8_isSix, mm_call_some, q_b0]
  by_cases z : mm_gd a 6 = true
  · obtain ⟨p, hp, rfl⟩ := qg_ex z (by omega)
    rw [if_pos z, if_pos z, q7_in (n := 100) (by decide), mm_call_some, q_b0, q8_in (n := 100) (by decide), mm_call_some, q_b0]
    by_cases y : mm_gd b 100 = true
    · obtain ⟨v, hv, rfl⟩ := qg_ex y (by omega)
      rw [if_pos y, if_pos y, if_pos z, if_pos z, qn_c (by omega), mm_let, mm_let, mm_let, mm_let, R.same.1 p hp]
      exact ⟨_, _, _, rfl, rfl, R.home hp (by omega)⟩
    · rw [if_neg y, if_neg y]
      exact ⟨hx, hy, -2, rfl, rfl, R⟩
  · rw [if_neg z, if_neg z]
    exact ⟨hx, hy, -2, rfl, rfl, R⟩
theorem j_worth (R : q_R hx hy) (a b : Int32) : q_J (fX7_worth N hx a b) (fX8_worth N hy a b) := by
  unfold fX7_worth fX8_worth
  rw [q7_in (n := 6) (by decide), mm_call_some, q_b0, q8_isSix, mm_call_some, q_b0]
  by_cases z : mm_gd a 6 = true
  · obtain ⟨p, hp, rfl⟩ := qg_ex z (by omega)
    rw [if_pos z, if_pos z, q7_in (n := 100) (by decide), mm_call_some, q_b0, q8_in (n := 100) (by decide), mm_call_some, q_b0]
    by_cases y : mm_gd b 100 = true
    · obtain ⟨v, hv, rfl⟩ := qg_ex y (by omega)
      rw [if_pos y, if_pos y, if_pos z, if_pos z, qn_c (by omega), mm_let, mm_let, mm_let, mm_let, R.same.2.1 p hp]
      exact ⟨_, _, _, rfl, rfl, R.worth hp (by omega)⟩
    · rw [if_neg y, if_neg y]
      exact ⟨hx, hy, -2, rfl, rfl, R⟩
  · rw [if_neg z, if_neg z]
    exact ⟨hx, hy, -2, rfl, rfl, R⟩
theorem q_R.set0 (R : q_R hx hy) {v : Nat} (hv : v ≤ 2) : q_R (mm_up hx 6 7 (nI v)) (mm_up hy 8 0 (nI v)) := by
  obtain ⟨l0, l1, b0, b1, law, ti, ho, wo, ns, sr, sp, sv, u1, u2, u3, u4, u5, u6⟩ := R
  obtain ⟨a1, a2, a3, a4, a5⟩ := u1
  have f : q_fr [6] hx (mm_up hx 6 7 (nI v)) := q_fr.up (by decide)
  have g : q_fr [8] hy (mm_up hy 8 0 (nI v)) := q_fr.up (by decide)
  refine ⟨l0, l1, b0, b1, v, ti, ho, wo, ns, sr, sp, sv, ⟨a1.fr f (by decide) (by decide) (by decide) (by decide), ?_, by rw [← a3]; simp [q_up], a4.fr f (by decide) (by decide) (by decide), by rw [f 12 (by decide), a5]⟩, u2.fr2 f (by decide), u3.eq (g 1 (by decide)) (g 2 (by decide)), ?_, ?_, u6.fr (fun c hc => f c (by revert c hc; decide)) (fun c hc => g c (by revert c hc; decide)) (by rw [g 0 (by decide)])⟩
  · unfold q_PX at *
    rw [f 7 (by decide), f 8 (by decide), f 9 (by decide), f 10 (by decide)]
    exact ⟨a2.1, hv, a2.2.2.1, by rw [← a2.2.2.2.1]; simp [q_up], by simp [q_up], by rw [← a2.2.2.2.2.2.1]; simp [q_up], a2.2.2.2.2.2.2⟩
  · unfold q_QY at *
    rw [g 6 (by decide), g 7 (by decide)]
    exact ⟨rfl, rfl, hv, u4.2.2.2.1, by simp [q_up], by rw [← u4.2.2.2.2.2.1]; simp [q_up], u4.2.2.2.2.2.2⟩
  · unfold q_SeY at *
    rw [g 0 (by decide), g 17 (by decide), g 18 (by decide), g 19 (by decide)]
    exact u5
theorem q_R.set1 (R : q_R hx hy) {v : Nat} (hv : v ≤ 1) : q_R (mm_up hx 6 8 (nI v)) (mm_up hy 8 1 (nI v)) := by
  obtain ⟨l0, l1, b0, b1, law, ti, ho, wo, ns, sr, sp, sv, u1, u2, u3, u4, u5, u6⟩ := R
  obtain ⟨a1, a2, a3, a4, a5⟩ := u1
  have f : q_fr [6] hx (mm_up hx 6 8 (nI v)) := q_fr.up (by decide)
  have g : q_fr [8] hy (mm_up hy 8 1 (nI v)) := q_fr.up (by decide)
  refine ⟨l0, l1, b0, b1, law, v, ho, wo, ns, sr, sp, sv, ⟨a1.fr f (by decide) (by decide) (by decide) (by decide), ?_, by rw [← a3]; simp [q_up], a4.fr f (by decide) (by decide) (by decide), by rw [f 12 (by decide), a5]⟩, u2.fr2 f (by decide), u3.eq (g 1 (by decide)) (g 2 (by decide)), ?_, ?_, u6.fr (fun c hc => f c (by revert c hc; decide)) (fun c hc => g c (by revert c hc; decide)) (by rw [g 0 (by decide)])⟩
  · unfold q_PX at *
    rw [f 7 (by decide), f 8 (by decide), f 9 (by decide), f 10 (by decide)]
    exact ⟨a2.1, a2.2.1, hv, by rw [← a2.2.2.2.1]; simp [q_up], by rw [← a2.2.2.2.2.1]; simp [q_up], by simp [q_up], a2.2.2.2.2.2.2⟩
  · unfold q_QY at *
    rw [g 6 (by decide), g 7 (by decide)]
    exact ⟨rfl, rfl, u4.2.2.1, hv, by rw [← u4.2.2.2.2.1]; simp [q_up], by simp [q_up], u4.2.2.2.2.2.2⟩
  · unfold q_SeY at *
    rw [g 0 (by decide), g 17 (by decide), g 18 (by decide), g 19 (by decide)]
    exact u5
theorem j_set (R : q_R hx hy) (a b : Int32) : q_J (fX7_set N hx a b) (fX8_set N hy a b) := by
  unfold fX7_set fX8_set
  rw [q7_in (n := 2) (by decide), mm_call_some, q_b0, q8_in (n := 2) (by decide), mm_call_some, q_b0]
  by_cases z : mm_gd a 2 = true
  · obtain ⟨p, hp, rfl⟩ := qg_ex z (by omega)
    rw [if_pos z, if_pos z]
    have ht : p = 0 ∨ p = 1 := by omega
    rcases ht with rfl | rfl
    · have i0 : nI 0 = (0 : Int32) := rfl
      rw [if_pos i0, q7_in (n := 3) (by decide), mm_call_some, q_b0, q8_in (n := 3) (by decide), mm_call_some, q_b0]
      by_cases y : mm_gd b 3 = true
      · obtain ⟨v, hv, rfl⟩ := qg_ex y (by omega)
        rw [if_pos y, if_pos y, if_pos z, qn_c (by omega), mm_let, mm_let, mm_let, R.same.2.2.1]
        exact ⟨_, _, _, rfl, rfl, R.set0 (by omega)⟩
      · rw [if_neg y, if_neg y]
        exact ⟨hx, hy, -2, rfl, rfl, R⟩
    · have i0 : ¬ nI 1 = (0 : Int32) := by decide
      rw [if_neg i0, q7_in (n := 2) (by decide), mm_call_some, q_b0, q8_in (n := 2) (by decide), mm_call_some, q_b0]
      by_cases y : mm_gd b 2 = true
      · obtain ⟨v, hv, rfl⟩ := qg_ex y (by omega)
        rw [if_pos y, if_pos y, if_pos z, qn_c (by omega), mm_let, mm_let, mm_let, R.same.2.2.2]
        exact ⟨_, _, _, rfl, rfl, R.set1 (by omega)⟩
      · rw [if_neg y, if_neg y]
        exact ⟨hx, hy, -2, rfl, rfl, R⟩
  · rw [if_neg z, if_neg z]
    exact ⟨hx, hy, -2, rfl, rfl, R⟩
/-- what was seen has changed -/
theorem q_R.se (R : q_R hx hy) {hx' hy' : mm_M} {ns : Nat} {sr sp sv : Nat → Nat} (f : q_fr [28, 30, 31, 32] hx hx') (g : q_fr [0, 17, 18, 19] hy hy') (g0 : hy' 0 28 = hy 0 28) (SX : q_SeX ns sr sp sv hx') (SY : q_SeY ns sr sp sv hy') : q_R hx' hy' := by
  obtain ⟨l0, l1, b0, b1, law, ti, ho, wo, ns', sr', sp', sv', u1, u2, u3, u4, u5, u6⟩ := R
  refine ⟨l0, l1, b0, b1, law, ti, ho, wo, ns, sr, sp, sv, u1.fr f (by decide), SX, u3.eq (g 1 (by decide)) (g 2 (by decide)), ?_, SY, u6.fr (fun c hc => f c (by revert c hc; decide)) (fun c hc => g c (by revert c hc; decide)) g0⟩
  unfold q_QY at *
  rw [g 6 (by decide), g 7 (by decide), g 8 (by decide)]
  exact ⟨rfl, rfl, u4.2.2⟩
theorem j_forget (R : q_R hx hy) : q_J (fX7_forget N hx) (fX8_forget N hy) := by
  obtain ⟨l0, l1, b0, b1, law, ti, ho, wo, ns, sr, sp, sv, u1, u2, u3, u4, u5, u6⟩ := id R
  unfold fX7_forget fX8_forget
  rw [mm_let, mm_let, u2.2.1, u5.2.1]
  refine ⟨_, _, nI ns, rfl, rfl, R.se (ns := 0) (sr := sr) (sp := sp) (sv := sv) (q_fr.up (by decide)) (q_fr.up (by decide)) (by simp [q_up]) ⟨by omega, by simp [q_up]; rfl, fun i hi => absurd hi (Nat.not_lt_zero i)⟩ ⟨by omega, by simp [q_up]; rfl, fun i hi => absurd hi (Nat.not_lt_zero i)⟩⟩
theorem j_seen (R : q_R hx hy) (a b c : Int32) : q_J (fX7_seen N hx a b c) (fX8_seen N hy a b c) := by
  obtain ⟨l0, l1, b0, b1, law, ti, ho, wo, ns, sr, sp, sv, u1, u2, u3, u4, u5, u6⟩ := id R
  unfold fX7_seen fX8_seen
  rw [q7_in (n := 8) (by decide), mm_call_some, q_b0, q8_in (n := 8) (by decide), mm_call_some, q_b0]
  by_cases z : mm_gd a 8 = true
  · obtain ⟨r, hr, rfl⟩ := qg_ex z (by omega)
    rw [if_pos z, if_pos z, q7_in (n := 6) (by decide), mm_call_some, q_b0, q8_isSix, mm_call_some, q_b0]
    by_cases y : mm_gd b 6 = true
    · obtain ⟨p, hp, rfl⟩ := qg_ex y (by omega)
      rw [if_pos y, if_pos y, q7_in (n := 100) (by decide), mm_call_some, q_b0, q8_in (n := 100) (by decide), mm_call_some, q_b0]
      by_cases x : mm_gd c 100 = true
      · obtain ⟨v, hv, rfl⟩ := qg_ex x (by omega)
        have hs := u2.1
        rw [if_pos x, if_pos x, u2.2.1, u5.2.1]
        by_cases w : ns = 8
        · have w1 : ¬ nI ns < 8 := fun q => absurd ((qn_lt (b := 8) (by omega) (by omega)).mp q) (by omega)
          have w2 : nI ns = 8 := by rw [w]; rfl
          rw [if_neg w1, if_pos w2]
          exact ⟨hx, hy, -4, rfl, rfl, R⟩
        · have w1 : nI ns < 8 := (qn_lt (b := 8) (by omega) (by omega)).mpr (by omega)
          have w2 : ¬ nI ns = 8 := fun q => w ((qn_eq (b := 8) (by omega) (by omega)).mp q)
          have w3 : ¬ 8 ≤ nI ns := fun q => absurd ((qn_le (a := 8) (by omega) (by omega)).mp q) (by omega)
          have g8 : mm_gd (nI ns) 8 = true := qn_gd (by omega) (by omega)
          have k1 : ∀ (v : Int32), mm_up hx 30 ns v 28 6 = nI ns := fun v => by rw [mm_up_ne _ _ _ (by decide), u2.2.1]
          have k2 : ∀ (v v' : Int32), mm_up (mm_up hx 30 ns v) 31 ns v' 28 6 = nI ns := fun v v' => by rw [mm_up_ne _ _ _ (by decide), k1]
          have k3 : ∀ (v v' v'' : Int32), mm_up (mm_up (mm_up hx 30 ns v) 31 ns v') 32 ns v'' 28 6 = nI ns := fun v v' v'' => by rw [mm_up_ne _ _ _ (by decide), k2]
          have q1 : ∀ (v : Int32), mm_up hy 17 ns v 0 19 = nI ns := fun v => by rw [mm_up_ne _ _ _ (by decide), u5.2.1]
          have q2 : ∀ (v v' : Int32), mm_up (mm_up hy 17 ns v) 18 ns v' 0 19 = nI ns := fun v v' => by rw [mm_up_ne _ _ _ (by decide), q1]
          have q3 : ∀ (v v' v'' : Int32), mm_up (mm_up (mm_up hy 17 ns v) 18 ns v') 19 ns v'' 0 19 = nI ns := fun v v' v'' => by rw [mm_up_ne _ _ _ (by decide), q2]
          rw [if_pos w1, if_neg w2, if_pos g8, qn_c (by omega), mm_let, q1, if_pos g8, qn_c (by omega), mm_let, q2, if_pos g8, qn_c (by omega), mm_let, q3, nI_1, mm_let]
          unfold fX4_remember
          rw [u2.2.1, if_neg w3, if_pos g8, qn_c (by omega), mm_let, k1, if_pos g8, qn_c (by omega), mm_let, k2, if_pos g8, qn_c (by omega), mm_let, k3, nI_1, mm_let, mm_call_some]
          refine ⟨_, _, nI (ns + 1), by simp [q_up]; rfl, by simp [q_up]; rfl, ?_⟩
          refine R.se (ns := ns + 1) (sr := fun i => if i = ns then r else sr i) (sp := fun i => if i = ns then p else sp i) (sv := fun i => if i = ns then v else sv i) ?_ ?_ ?_ ?_ ?_
          · intro c hc
            simp only [List.mem_cons, List.not_mem_nil, or_false, not_or] at hc
            rw [mm_up_ne _ _ _ hc.1, mm_up_ne _ _ _ hc.2.2.2, mm_up_ne _ _ _ hc.2.2.1, mm_up_ne _ _ _ hc.2.1]
          · intro c hc
            simp only [List.mem_cons, List.not_mem_nil, or_false, not_or] at hc
            rw [mm_up_ne _ _ _ hc.1, mm_up_ne _ _ _ hc.2.2.2, mm_up_ne _ _ _ hc.2.2.1, mm_up_ne _ _ _ hc.2.1]
          · simp [q_up]
          · refine ⟨by omega, by simp [q_up], ?_⟩
            intro i hi
            by_cases e : i = ns
            · subst e
              simp [q_up, hr, hp]; omega
            · have := u2.2.2 i (by omega)
              simp [q_up, e, this]
          · refine ⟨by omega, by simp [q_up], ?_⟩
            intro i hi
            by_cases e : i = ns
            · subst e
              simp [q_up, hr, hp]; omega
            · have := u5.2.2 i (by omega)
              simp [q_up, e, this]
      · rw [if_neg x, if_neg x]
        exact ⟨hx, hy, -2, rfl, rfl, R⟩
    · rw [if_neg y, if_neg y]
      exact ⟨hx, hy, -2, rfl, rfl, R⟩
  · rw [if_neg z, if_neg z]
    exact ⟨hx, hy, -2, rfl, rfl, R⟩
end Q12c
