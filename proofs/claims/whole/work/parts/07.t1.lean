/-! PURE 12j: digest, both at once -/
section Q12j
variable {N : Nat} {hx hy : mm_M}
theorem q_R.all2 (hN : 100 ≤ N) (R : q_R hx hy) : ∃ (n R : Nat) (law ti : Nat) (pu ap ho wo : Nat → Nat) (se : Nat → Nat → Nat) (ns : Nat) (sr sp sv : Nat → Nat) (f0 f1 : Nat), q_PX n law ti pu ap ho wo hx ∧ q_EX n R se hx ∧ hx 6 6 = q_ix f0 ∧ hx 12 10 = q_ix f1 ∧ q_RD N (hy 1) (hy 2) n R f0 f1 pu ap se ∧ q_QY (hy 1) (hy 2) law ti ho wo hy ∧ q_SeX ns sr sp sv hx ∧ q_SeY ns sr sp sv hy ∧ (0 < R → 0 < n) := by
  obtain ⟨l0, l1, b0, b1, law, ti, ho, wo, ns, sr, sp, sv, u1, u2, u3, u4, u5, u6⟩ := R
  obtain ⟨a1, a2, a3, a4, a5⟩ := u1
  refine ⟨_, _, law, ti, _, _, ho, wo, _, ns, sr, sp, sv, _, _, a2, a4, a3, a5, q8_RD hN u3, u4, u2, u5, ?_⟩
  intro h
  by_cases z : t_n l0 b0 = 0
  · unfold t_R at h
    rw [if_pos z] at h
    omega
  · omega
theorem j_dg6 (hN : 5000 ≤ N) : ∀ j i hx hy v, i + j = 8 → q_R hx hy → ∃ hx' hy' v', (∀ k fuel, j < fuel → fX7_digest_L6 N k fuel hx v (nI i) = k hx' v') ∧ (∀ k fuel, j < fuel → fX8_digest_L6 N k fuel hy v (nI i) = k hy' v') ∧ q_R hx' hy' := by
  intro j
  induction j with
  | zero =>
    intro i hx hy v hi R
    refine ⟨hx, hy, v, ?_, ?_, R⟩
    · intro k fuel hfu
      obtain ⟨f, rfl⟩ : ∃ f, fuel = f + 1 := ⟨fuel - 1, by omega⟩
      have d : (7 : Int32) < nI i := (qn_lt (a := 7) (by omega) (by omega)).mpr (by omega)
      rw [fX7_digest_L6, if_pos d]
    · intro k fuel hfu
      obtain ⟨f, rfl⟩ : ∃ f, fuel = f + 1 := ⟨fuel - 1, by omega⟩
      have d : (8 : Int32) ≤ nI i := (qn_le (a := 8) (by omega) (by omega)).mpr (by omega)
      rw [fX8_digest_L6, if_pos d]
  | succ j ih =>
    intro i hx hy v hi R
    obtain ⟨x1, y1, c, c1, c2, R1⟩ := j_count hN R (nI i)
    obtain ⟨hx', hy', v', e1, e2, e3⟩ := ih (i + 1) x1 y1 ((31 : Int64) * v + c.toInt64) (by omega) R1
    refine ⟨hx', hy', v', ?_, ?_, e3⟩
    · intro k fuel hfu
      obtain ⟨f, rfl⟩ : ∃ f, fuel = f + 1 := ⟨fuel - 1, by omega⟩
      have d : ¬ (7 : Int32) < nI i := fun q => absurd ((qn_lt (a := 7) (by omega) (by omega)).mp q) (by omega)
      rw [fX7_digest_L6, if_neg d, c1, mm_call_some, q7_mx, mm_call_some, nI_1]
      exact e1 k f (by omega)
    · intro k fuel hfu
      obtain ⟨f, rfl⟩ : ∃ f, fuel = f + 1 := ⟨fuel - 1, by omega⟩
      have d : ¬ (8 : Int32) ≤ nI i := fun q => absurd ((qn_le (a := 8) (by omega) (by omega)).mp q) (by omega)
      rw [fX8_digest_L6, if_neg d, c2, mm_call_some, mm_let, nI_1]
      exact e2 k f (by omega)
theorem q7_dg {n R law ti : Nat} {pu ap ho wo : Nat → Nat} {se : Nat → Nat → Nat} {ns : Nat} {sr sp sv : Nat → Nat} {f0 f1 : Nat} {v : Int64} (hN : 5000 ≤ N) (P : q_PX n law ti pu ap ho wo hx) (E : q_EX n R se hx) (S : q_SeX ns sr sp sv hx) (e0 : hx 6 6 = q_ix f0) (e1 : hx 12 10 = q_ix f1) (n0 : 0 < R → 0 < n) (hd : ∀ k, fX7_digest_L6 N k N hy 17 0 = k hx v) :
    ∃ h', fX7_digest N hy = some (h', s_dT n R law ti pu ap ho wo se ns sr sp sv (s_fo (s_dR n law ti pu ap ho wo se) R (s_fo (s_dP n R law ti pu ap ho wo se ns sr sp sv) n (q_mx (q_mx v (q_ix f0)) (q_ix f1))))) ∧ q_fr q_SX hx h' := by
  have hn := P.1
  have hR := E.1
  have a0 : fX7_fault N hx 0 = some (hx, q_ix f0) := by rw [q7_fault e0 e1, if_pos (by decide), if_pos rfl]
  have a1 : fX7_fault N hx 1 = some (hx, q_ix f1) := by rw [q7_fault e0 e1, if_pos (by decide), if_neg (by decide)]
  obtain ⟨h1, b1, b2, b3, b4⟩ := q3_rests (N := N) hN P
  have P1 := P.fr b2 (by decide) (by decide) (by decide) (by decide) (by decide)
  have E1 := E.fr b2 (by decide) (by decide) (by decide)
  have S1 := S.fr2 b2 (by decide)
  obtain ⟨h2, c1, c2, c3⟩ := q1_followP (N := N) hN P1
  have P2 := P1.fr c2 (by decide) (by decide) (by decide) (by decide) (by decide)
  have E2 := E1.fr c2 (by decide) (by decide) (by decide)
  have S2 := S1.fr2 c2 (by decide)
  have W2 : q_wy n law ti pu ap ho h2 := c3
  obtain ⟨h3, d1, d2⟩ := q7_d65 (N := N) hN P2 E2 S2 (by rw [c2 21 (by decide), b4]) W2 (q_mx (q_mx v (q_ix f0)) (q_ix f1)) n 0 h2 (by omega) q_fr.rf
  have P3 := P2.fr d2 (by decide) (by decide) (by decide) (by decide) (by decide)
  have E3 := E2.fr d2 (by decide) (by decide) (by decide)
  have S3 := S2.fr2 d2 (by decide)
  have W3 := W2.eq (h' := h3) (d2 25 (by decide)) (d2 27 (by decide))
  obtain ⟨h4, g1, g2, g3⟩ := q7_d91 (N := N) hN P3 E3 n0 (s_fo (s_dP n R law ti pu ap ho wo se ns sr sp sv) n (q_mx (q_mx v (q_ix f0)) (q_ix f1))) R 0 h3 (by omega) q_fr.rf rfl
  have P4 := P3.fr g2 (by decide) (by decide) (by decide) (by decide) (by decide)
  have E4 := E3.fr g2 (by decide) (by decide) (by decide)
  have S4 := S3.fr2 g2 (by decide)
  have W4 := W3.eq (h' := h4) (g2 25 (by decide)) (g2 27 (by decide))
  obtain ⟨h5, u1, u2⟩ := q7_beggarsP (N := N) (by omega) P4 E4
  have P5 := P4.fr u2 (by decide) (by decide) (by decide) (by decide) (by decide)
  have E5 := E4.fr u2 (by decide) (by decide) (by decide)
  have S5 := S4.fr2 u2 (by decide)
  have W5 := W4.eq (h' := h5) (u2 25 (by decide)) (u2 27 (by decide))
  have h58 : h5 21 8 = nI (s_rn n law ti pu ap ho wo) := by rw [u2 21 (by decide), g3, d2 21 (by decide), c2 21 (by decide), b3]
  have al : fX1_fewestAlike N h5 = some (h5, if n ≤ 4 then s_fw n law ti ap (s_wy n) (fun p => pu p - ho p) (s_pE n) else -4) := by
    unfold fX1_fewestAlike
    rw [q1_asked (q := -1) (vv := 0) hN P5 W5 (Or.inl ⟨rfl, rfl⟩), mm_call_some]
  obtain ⟨h6, w1, w2⟩ := q7_unlike (N := N) (by omega) P5 E5 S5
  have k0 : fX7_luck N h6 2 30 50 0 = some (h6, nL (s_lk 2 30 50 0)) := q7_luckN (m := 2) (h := 30) (u := 50) hN (by omega) (by omega) (by omega) (by omega) (by decide)
  have k1 : fX7_luck N h6 2 30 50 1 = some (h6, nL (s_lk 2 30 50 1)) := q7_luckN (m := 2) (h := 30) (u := 50) hN (by omega) (by omega) (by omega) (by omega) (by decide)
  refine ⟨h6, ?_, ((((b2.tr c2 (U := q_SX) (fun _ q => q) (by decide)).tr d2 (U := q_SX) (fun _ q => q) (by decide)).tr g2 (U := q_SX) (fun _ q => q) (by decide)).tr u2 (U := q_SX) (fun _ q => q) (by decide)).tr w2 (fun _ q => q) (fun _ q => q)⟩
  unfold fX7_digest
  rw [hd, a0, mm_call_some, q7_mx, mm_call_some, a1, mm_call_some, q7_mx, mm_call_some, b1, mm_call_some, c1, mm_call_some]
  refine Eq.trans (d1 _ N (by omega)) ?_
  refine Eq.trans (g1 _ N (by omega)) ?_
  rw [u1, mm_call_some, q7_mx, mm_call_some, h58, q7_mx, mm_call_some, al, mm_call_some, q7_mx, mm_call_some, w1, mm_call_some, q7_mx, mm_call_some, k0, mm_call_some, q7_mx, mm_call_some, k1, mm_call_some, q7_mx, mm_call_some]
  rfl
theorem q8_dg {n R law ti : Nat} {pu ap ho wo : Nat → Nat} {se : Nat → Nat → Nat} {ns : Nat} {sr sp sv : Nat → Nat} {f0 f1 : Nat} {c1 c2 : Nat → Int32} {v : Int64} (hN : 20000000000 ≤ N) (D : q_RD N c1 c2 n R f0 f1 pu ap se) (Y : q_QY c1 c2 law ti ho wo hy) (S : q_SeY ns sr sp sv hy) (n0 : 0 < R → 0 < n) (hd : ∀ k, fX8_digest_L6 N k N hx 17 0 = k hy v) :
    ∃ h', fX8_digest N hx = some (h', s_dT n R law ti pu ap ho wo se ns sr sp sv (s_fo (s_dR n law ti pu ap ho wo se) R (s_fo (s_dP n R law ti pu ap ho wo se ns sr sp sv) n (q_mx (q_mx v (q_ix f0)) (q_ix f1))))) ∧ q_fy hy h' := by
  have hn := D.1
  have hR := D.2.1
  obtain ⟨h1, a1, a2, -, -⟩ := q8_fault (N := N) D Y 0
  obtain ⟨h2, b1, b2, b3, b4⟩ := q8_fault (N := N) D (Y.fy a2) 1
  rw [if_pos rfl] at a1
  rw [if_neg (by decide)] at b1
  have y2 := a2.tr b2
  obtain ⟨h3, d1, d2, d3⟩ := q8_d59 (N := N) (by omega) D Y S (q_mx (q_mx v (q_ix f0)) (q_ix f1)) n 0 h2 (by omega) y2 (q_rd.of b3 b4)
  obtain ⟨h4, g1, g2, g3⟩ := q8_d178 (N := N) (by omega) D Y n0 (s_fo (s_dP n R law ti pu ap ho wo se ns sr sp sv) n (q_mx (q_mx v (q_ix f0)) (q_ix f1))) R 0 h3 (by omega) d2 d3
  obtain ⟨h5, u1, u2⟩ := q8_beggars (N := N) (by omega) D (Y.fy g2)
  have y5 := g2.tr u2
  obtain ⟨h6, r1, r2, -, -⟩ := q8_restOf (N := N) (by omega) D (Y.fy y5) (-1) (Or.inl rfl)
  rw [if_pos rfl] at r1
  have y6 := y5.tr r2
  obtain ⟨h7, w1, w2, -, -⟩ := q8_downBy (N := N) (q := -1) (vv := 0) (Pd := s_pE n) (by omega) D (Y.fy y6) (Or.inl ⟨rfl, rfl⟩)
  have y7 := y6.tr w2
  obtain ⟨h8, x1, x2, -, -⟩ := q8_unlike (N := N) (by omega) D (Y.fy y7) (S.fy y7)
  have y8 := y7.tr x2
  have k0 : fX8_luckOf N h8 2 30 50 0 = some (h8, nL (s_lk 2 30 50 0)) := q8_luckOf (m := 2) (h := 30) (u := 50) hN (by omega) (by omega) (by omega) (by omega)
  have k1 : fX8_luckOf N h8 2 30 50 1 = some (h8, nL (s_lk 2 30 50 1)) := q8_luckOf (m := 2) (h := 30) (u := 50) hN (by omega) (by omega) (by omega) (by omega)
  refine ⟨h8, ?_, y8⟩
  unfold fX8_digest
  rw [hd, a1, mm_call_some, mm_let, b1, mm_call_some, mm_let]
  refine Eq.trans (d1 _ N (by omega)) ?_
  refine Eq.trans (g1 _ N (by omega)) ?_
  rw [u1, mm_call_some, mm_let, r1, mm_call_some, mm_let, w1, mm_call_some, mm_let, x1, mm_call_some, mm_let, k0, mm_call_some, mm_let, k1, mm_call_some]
  rfl
theorem j_digest (hN : 20000000000 ≤ N) (R : q_R hx hy) : q_J (fX7_digest N hx) (fX8_digest N hy) := by
  obtain ⟨x1, y1, v, e1, e2, R1⟩ := j_dg6 (N := N) (by omega) 8 0 hx hy 17 rfl R
  obtain ⟨n, r, law, ti, pu, ap, ho, wo, se, ns, sr, sp, sv, f0, f1, P, E, q0, q1, D, Y, SX, SY, n0⟩ := R1.all2 (N := N) (by omega)
  exact j_q R1 (q7_dg (by omega) P E SX q0 q1 n0 (fun k => e1 k N (by omega))) (q8_dg hN D Y SY n0 (fun k => e2 k N (by omega)))
end Q12j
