section LC2
variable {p : Program} {l : Launch} {e : Env} {s : State} {m : MethodId} {b : Nat} {below : List Frame} {meth : Method} {c : Code} {C0 S0 : Nat} {Q : State → Prop} {D : va_G} {cI cT cS cZ : ClassId} {ax ay : Nat → Nat} {t1 t2 L N k : Nat} {xs : Nat → Int32} {hx hy : mm_M}
set_option maxHeartbeats 4000000 in
set_option maxRecDepth 100000 in
/-- case 11: payer -/
theorem lc_11 (hN : 20000000000 ≤ N) (X : mm_X p s m #[Value.ref b] c cL_law RL wsL_law 4 D (l_ty cI cT cS cZ) t1 t2 (l_A s)) (hX : va_X b L xs s s.heap) (hbl : b < s.heap.size) (hL : L ≤ 3072) (hk : k + 6 ≤ L) (hf : C0 ≤ room_1.cells ∧ S0 ≤ room_1.slots) (R0 : q_R hx hy) (IH : ∀ hx hy, q_R hx hy → l_J p l e s m b below meth c C0 S0 Q D cI cT cS cZ ax ay (hx, hy) 1157 (nI k)) : l_J p l e s m b below meth c C0 S0 Q D cI cT cS cZ ax ay (hx, hy) 515 (nI k) := by
  have hbA : ¬ l_A s b := Nat.not_le.mpr hbl
  obtain ⟨hx1, hy1, r, ex, ey, R1⟩ := j_payer (N := N) (by omega) R0 (xs (nI (k + 1)).toNatClampNeg) (xs (nI (k + 2)).toNatClampNeg)
  refine mj_aload_n X dL_law_515 1 rfl ?_
  refine mj_aload_n X dL_law_516 0 rfl ?_
  refine mj_iload_n X dL_law_517 3 rfl ?_
  refine mj_iconst (v := (1 : Int32)) X dL_law_518 (by decide) ?_
  refine mj_iadd X dL_law_519 ?_
  refine mj_topi (l_add 1 k) ?_
  refine lj_sld X hX hbl hbA (vp_in_nI (n := k + 1) (N := L) (by omega) (by omega)) dL_law_520 ?_
  refine mj_aload_n X dL_law_521 0 rfl ?_
  refine mj_iload_n X dL_law_522 3 rfl ?_
  refine mj_iconst (v := (2 : Int32)) X dL_law_523 (by decide) ?_
  refine mj_iadd X dL_law_524 ?_
  refine mj_topi (l_add 2 k) ?_
  refine lj_sld X hX hbl hbA (vp_in_nI (n := k + 2) (N := L) (by omega) (by omega)) dL_law_525 ?_
  refine lj_li (wl := mx_w cI cT cS ax) (wr := my_w cI cZ ay) (As := [.int (xs (nI (k + 1)).toNatClampNeg), .int (xs (nI (k + 2)).toNatClampNeg)]) (rest := []) X [0, 1, 2] rfl (kX7_payer l D t1 t2 cI cT cS ax N hx (xs (nI (k + 1)).toNatClampNeg) (xs (nI (k + 2)).toNatClampNeg) hx1 r ex) (cwV 2 X.2.2.2.2.1 gL_law_X7_payer rfl rfl rfl (by decide +kernel) ⟨(Nat.le_of_ble_eq_true rfl), (Nat.le_of_ble_eq_true rfl)⟩) (mx_at mx_oX7 hx) rfl rfl rfl rfl (Nat.le_of_ble_eq_true rfl) hf dL_law_526 ?_
  refine mj_aload_n X dL_law_529 2 rfl ?_
  refine mj_aload_n X dL_law_530 0 rfl ?_
  refine mj_iload_n X dL_law_531 3 rfl ?_
  refine mj_iconst (v := (1 : Int32)) X dL_law_532 (by decide) ?_
  refine mj_iadd X dL_law_533 ?_
  refine mj_topi (l_add 1 k) ?_
  refine lj_sld X hX hbl hbA (vp_in_nI (n := k + 1) (N := L) (by omega) (by omega)) dL_law_534 ?_
  refine mj_aload_n X dL_law_535 0 rfl ?_
  refine mj_iload_n X dL_law_536 3 rfl ?_
  refine mj_iconst (v := (2 : Int32)) X dL_law_537 (by decide) ?_
  refine mj_iadd X dL_law_538 ?_
  refine mj_topi (l_add 2 k) ?_
  refine lj_sld X hX hbl hbA (vp_in_nI (n := k + 2) (N := L) (by omega) (by omega)) dL_law_539 ?_
  refine lj_ri (wl := mx_w cI cT cS ax) (wr := my_w cI cZ ay) (As := [.int (xs (nI (k + 1)).toNatClampNeg), .int (xs (nI (k + 2)).toNatClampNeg)]) (rest := [.int r]) X [0, 3] rfl (kX8_payer l D t1 t2 cI cZ ay N hy (xs (nI (k + 1)).toNatClampNeg) (xs (nI (k + 2)).toNatClampNeg) hy1 r ey) (cwV 2 X.2.2.2.2.1 gL_law_X8_payer rfl rfl rfl (by decide +kernel) ⟨(Nat.le_of_ble_eq_true rfl), (Nat.le_of_ble_eq_true rfl)⟩) (my_at my_oX8 hy) rfl rfl rfl rfl (Nat.le_of_ble_eq_true rfl) hf dL_law_540 ?_
  refine mj_icmp_eq (tgt := 1157) X dL_law_543 (by decide) (fun _ => ?_) (fun c9 => absurd rfl c9)
  exact IH hx1 hy1 R1
set_option maxHeartbeats 4000000 in
set_option maxRecDepth 100000 in
/-- case 12: beggars -/
theorem lc_12 (hN : 20000000000 ≤ N) (X : mm_X p s m #[Value.ref b] c cL_law RL wsL_law 4 D (l_ty cI cT cS cZ) t1 t2 (l_A s)) (hX : va_X b L xs s s.heap) (hbl : b < s.heap.size) (hL : L ≤ 3072) (hk : k + 6 ≤ L) (hf : C0 ≤ room_1.cells ∧ S0 ≤ room_1.slots) (R0 : q_R hx hy) (IH : ∀ hx hy, q_R hx hy → l_J p l e s m b below meth c C0 S0 Q D cI cT cS cZ ax ay (hx, hy) 1157 (nI k)) : l_J p l e s m b below meth c C0 S0 Q D cI cT cS cZ ax ay (hx, hy) 548 (nI k) := by
  have hbA : ¬ l_A s b := Nat.not_le.mpr hbl
  obtain ⟨hx1, hy1, r, ex, ey, R1⟩ := j_beggars (N := N) (by omega) R0
  refine mj_aload_n X dL_law_548 1 rfl ?_
  refine lj_li (wl := mx_w cI cT cS ax) (wr := my_w cI cZ ay) (As := []) (rest := []) X [0, 1, 2] rfl (kX7_beggars l D t1 t2 cI cT cS ax N hx hx1 r ex) (cwV 0 X.2.2.2.2.1 gL_law_X7_beggars rfl rfl rfl (by decide +kernel) ⟨(Nat.le_of_ble_eq_true rfl), (Nat.le_of_ble_eq_true rfl)⟩) (mx_at mx_oX7 hx) rfl rfl rfl rfl (Nat.le_of_ble_eq_true rfl) hf dL_law_549 ?_
  refine mj_aload_n X dL_law_552 2 rfl ?_
  refine lj_ri (wl := mx_w cI cT cS ax) (wr := my_w cI cZ ay) (As := []) (rest := [.int r]) X [0, 3] rfl (kX8_beggars l D t1 t2 cI cZ ay N hy hy1 r ey) (cwV 0 X.2.2.2.2.1 gL_law_X8_beggars rfl rfl rfl (by decide +kernel) ⟨(Nat.le_of_ble_eq_true rfl), (Nat.le_of_ble_eq_true rfl)⟩) (my_at my_oX8 hy) rfl rfl rfl rfl (Nat.le_of_ble_eq_true rfl) hf dL_law_553 ?_
  refine mj_icmp_eq (tgt := 1157) X dL_law_556 (by decide) (fun _ => ?_) (fun c9 => absurd rfl c9)
  exact IH hx1 hy1 R1
set_option maxHeartbeats 4000000 in
set_option maxRecDepth 100000 in
/-- case 13: best -/
theorem lc_13 (hN : 20000000000 ≤ N) (X : mm_X p s m #[Value.ref b] c cL_law RL wsL_law 4 D (l_ty cI cT cS cZ) t1 t2 (l_A s)) (hX : va_X b L xs s s.heap) (hbl : b < s.heap.size) (hL : L ≤ 3072) (hk : k + 6 ≤ L) (hf : C0 ≤ room_1.cells ∧ S0 ≤ room_1.slots) (R0 : q_R hx hy) (IH : ∀ hx hy, q_R hx hy → l_J p l e s m b below meth c C0 S0 Q D cI cT cS cZ ax ay (hx, hy) 1157 (nI k)) : l_J p l e s m b below meth c C0 S0 Q D cI cT cS cZ ax ay (hx, hy) 561 (nI k) := by
  have hbA : ¬ l_A s b := Nat.not_le.mpr hbl
  obtain ⟨hx1, hy1, r, ex, ey, R1⟩ := j_best (N := N) (by omega) R0 (xs (nI (k + 1)).toNatClampNeg) (xs (nI (k + 2)).toNatClampNeg) (xs (nI (k + 3)).toNatClampNeg)
  refine mj_aload_n X dL_law_561 1 rfl ?_
  refine mj_aload_n X dL_law_562 0 rfl ?_
  refine mj_iload_n X dL_law_563 3 rfl ?_
  refine mj_iconst (v := (1 : Int32)) X dL_law_564 (by decide) ?_
  refine mj_iadd X dL_law_565 ?_
  refine mj_topi (l_add 1 k) ?_
  refine lj_sld X hX hbl hbA (vp_in_nI (n := k + 1) (N := L) (by omega) (by omega)) dL_law_566 ?_
  refine mj_aload_n X dL_law_567 0 rfl ?_
  refine mj_iload_n X dL_law_568 3 rfl ?_
  refine mj_iconst (v := (2 : Int32)) X dL_law_569 (by decide) ?_
  refine mj_iadd X dL_law_570 ?_
  refine mj_topi (l_add 2 k) ?_
  refine lj_sld X hX hbl hbA (vp_in_nI (n := k + 2) (N := L) (by omega) (by omega)) dL_law_571 ?_
  refine mj_aload_n X dL_law_572 0 rfl ?_
  refine mj_iload_n X dL_law_573 3 rfl ?_
  refine mj_iconst (v := (3 : Int32)) X dL_law_574 (by decide) ?_
  refine mj_iadd X dL_law_575 ?_
  refine mj_topi (l_add 3 k) ?_
  refine lj_sld X hX hbl hbA (vp_in_nI (n := k + 3) (N := L) (by omega) (by omega)) dL_law_576 ?_
  refine lj_li (wl := mx_w cI cT cS ax) (wr := my_w cI cZ ay) (As := [.int (xs (nI (k + 1)).toNatClampNeg), .int (xs (nI (k + 2)).toNatClampNeg), .int (xs (nI (k + 3)).toNatClampNeg)]) (rest := []) X [0, 1, 2] rfl (kX7_best l D t1 t2 cI cT cS ax N hx (xs (nI (k + 1)).toNatClampNeg) (xs (nI (k + 2)).toNatClampNeg) (xs (nI (k + 3)).toNatClampNeg) hx1 r ex) (cwV 3 X.2.2.2.2.1 gL_law_X7_best rfl rfl rfl (by decide +kernel) ⟨(Nat.le_of_ble_eq_true rfl), (Nat.le_of_ble_eq_true rfl)⟩) (mx_at mx_oX7 hx) rfl rfl rfl rfl (Nat.le_of_ble_eq_true rfl) hf dL_law_577 ?_
  refine mj_aload_n X dL_law_580 2 rfl ?_
  refine mj_aload_n X dL_law_581 0 rfl ?_
  refine mj_iload_n X dL_law_582 3 rfl ?_
  refine mj_iconst (v := (1 : Int32)) X dL_law_583 (by decide) ?_
  refine mj_iadd X dL_law_584 ?_
  refine mj_topi (l_add 1 k) ?_
  refine lj_sld X hX hbl hbA (vp_in_nI (n := k + 1) (N := L) (by omega) (by omega)) dL_law_585 ?_
  refine mj_aload_n X dL_law_586 0 rfl ?_
  refine mj_iload_n X dL_law_587 3 rfl ?_
  refine mj_iconst (v := (2 : Int32)) X dL_law_588 (by decide) ?_
  refine mj_iadd X dL_law_589 ?_
  refine mj_topi (l_add 2 k) ?_
  refine lj_sld X hX hbl hbA (vp_in_nI (n := k + 2) (N := L) (by omega) (by omega)) dL_law_590 ?_
  refine mj_aload_n X dL_law_591 0 rfl ?_
  refine mj_iload_n X dL_law_592 3 rfl ?_
  refine mj_iconst (v := (3 : Int32)) X dL_law_593 (by decide) ?_
  refine mj_iadd X dL_law_594 ?_
  refine mj_topi (l_add 3 k) ?_
  refine lj_sld X hX hbl hbA (vp_in_nI (n := k + 3) (N := L) (by omega) (by omega)) dL_law_595 ?_
  refine lj_ri (wl := mx_w cI cT cS ax) (wr := my_w cI cZ ay) (As := [.int (xs (nI (k + 1)).toNatClampNeg), .int (xs (nI (k + 2)).toNatClampNeg), .int (xs (nI (k + 3)).toNatClampNeg)]) (rest := [.int r]) X [0, 3] rfl (kX8_best l D t1 t2 cI cZ ay N hy (xs (nI (k + 1)).toNatClampNeg) (xs (nI (k + 2)).toNatClampNeg) (xs (nI (k + 3)).toNatClampNeg) hy1 r ey) (cwV 3 X.2.2.2.2.1 gL_law_X8_best rfl rfl rfl (by decide +kernel) ⟨(Nat.le_of_ble_eq_true rfl), (Nat.le_of_ble_eq_true rfl)⟩) (my_at my_oX8 hy) rfl rfl rfl rfl (Nat.le_of_ble_eq_true rfl) hf dL_law_596 ?_
  refine mj_icmp_eq (tgt := 1157) X dL_law_599 (by decide) (fun _ => ?_) (fun c9 => absurd rfl c9)
  exact IH hx1 hy1 R1
set_option maxHeartbeats 4000000 in
set_option maxRecDepth 100000 in
/-- case 14: rest -/
theorem lc_14 (hN : 20000000000 ≤ N) (X : mm_X p s m #[Value.ref b] c cL_law RL wsL_law 4 D (l_ty cI cT cS cZ) t1 t2 (l_A s)) (hX : va_X b L xs s s.heap) (hbl : b < s.heap.size) (hL : L ≤ 3072) (hk : k + 6 ≤ L) (hf : C0 ≤ room_1.cells ∧ S0 ≤ room_1.slots) (R0 : q_R hx hy) (IH : ∀ hx hy, q_R hx hy → l_J p l e s m b below meth c C0 S0 Q D cI cT cS cZ ax ay (hx, hy) 1157 (nI k)) : l_J p l e s m b below meth c C0 S0 Q D cI cT cS cZ ax ay (hx, hy) 604 (nI k) := by
  have hbA : ¬ l_A s b := Nat.not_le.mpr hbl
  obtain ⟨hx1, hy1, r, ex, ey, R1⟩ := j_rest (N := N) (by omega) R0 (xs (nI (k + 1)).toNatClampNeg)
  refine mj_aload_n X dL_law_604 1 rfl ?_
  refine mj_aload_n X dL_law_605 0 rfl ?_
  refine mj_iload_n X dL_law_606 3 rfl ?_
  refine mj_iconst (v := (1 : Int32)) X dL_law_607 (by decide) ?_
  refine mj_iadd X dL_law_608 ?_
  refine mj_topi (l_add 1 k) ?_
  refine lj_sld X hX hbl hbA (vp_in_nI (n := k + 1) (N := L) (by omega) (by omega)) dL_law_609 ?_
  refine lj_li (wl := mx_w cI cT cS ax) (wr := my_w cI cZ ay) (As := [.int (xs (nI (k + 1)).toNatClampNeg)]) (rest := []) X [0, 1, 2] rfl (kX7_rest l D t1 t2 cI cT cS ax N hx (xs (nI (k + 1)).toNatClampNeg) hx1 r ex) (cwV 1 X.2.2.2.2.1 gL_law_X7_rest rfl rfl rfl (by decide +kernel) ⟨(Nat.le_of_ble_eq_true rfl), (Nat.le_of_ble_eq_true rfl)⟩) (mx_at mx_oX7 hx) rfl rfl rfl rfl (Nat.le_of_ble_eq_true rfl) hf dL_law_610 ?_
  refine mj_aload_n X dL_law_613 2 rfl ?_
  refine mj_aload_n X dL_law_614 0 rfl ?_
  refine mj_iload_n X dL_law_615 3 rfl ?_
  refine mj_iconst (v := (1 : Int32)) X dL_law_616 (by decide) ?_
  refine mj_iadd X dL_law_617 ?_
  refine mj_topi (l_add 1 k) ?_
  refine lj_sld X hX hbl hbA (vp_in_nI (n := k + 1) (N := L) (by omega) (by omega)) dL_law_618 ?_
  refine lj_ri (wl := mx_w cI cT cS ax) (wr := my_w cI cZ ay) (As := [.int (xs (nI (k + 1)).toNatClampNeg)]) (rest := [.int r]) X [0, 3] rfl (kX8_rest l D t1 t2 cI cZ ay N hy (xs (nI (k + 1)).toNatClampNeg) hy1 r ey) (cwV 1 X.2.2.2.2.1 gL_law_X8_rest rfl rfl rfl (by decide +kernel) ⟨(Nat.le_of_ble_eq_true rfl), (Nat.le_of_ble_eq_true rfl)⟩) (my_at my_oX8 hy) rfl rfl rfl rfl (Nat.le_of_ble_eq_true rfl) hf dL_law_619 ?_
  refine mj_icmp_eq (tgt := 1157) X dL_law_622 (by decide) (fun _ => ?_) (fun c9 => absurd rfl c9)
  exact IH hx1 hy1 R1
set_option maxHeartbeats 4000000 in
set_option maxRecDepth 100000 in
/-- case 15: down -/
theorem lc_15 (hN : 20000000000 ≤ N) (X : mm_X p s m #[Value.ref b] c cL_law RL wsL_law 4 D (l_ty cI cT cS cZ) t1 t2 (l_A s)) (hX : va_X b L xs s s.heap) (hbl : b < s.heap.size) (hL : L ≤ 3072) (hk : k + 6 ≤ L) (hf : C0 ≤ room_1.cells ∧ S0 ≤ room_1.slots) (R0 : q_R hx hy) (IH : ∀ hx hy, q_R hx hy → l_J p l e s m b below meth c C0 S0 Q D cI cT cS cZ ax ay (hx, hy) 1157 (nI k)) : l_J p l e s m b below meth c C0 S0 Q D cI cT cS cZ ax ay (hx, hy) 627 (nI k) := by
  have hbA : ¬ l_A s b := Nat.not_le.mpr hbl
  obtain ⟨hx1, hy1, r, ex, ey, R1⟩ := j_down (N := N) (by omega) R0 (xs (nI (k + 1)).toNatClampNeg) (xs (nI (k + 2)).toNatClampNeg)
  refine mj_aload_n X dL_law_627 1 rfl ?_
  refine mj_aload_n X dL_law_628 0 rfl ?_
  refine mj_iload_n X dL_law_629 3 rfl ?_
  refine mj_iconst (v := (1 : Int32)) X dL_law_630 (by decide) ?_
  refine mj_iadd X dL_law_631 ?_
  refine mj_topi (l_add 1 k) ?_
  refine lj_sld X hX hbl hbA (vp_in_nI (n := k + 1) (N := L) (by omega) (by omega)) dL_law_632 ?_
  refine mj_aload_n X dL_law_633 0 rfl ?_
  refine mj_iload_n X dL_law_634 3 rfl ?_
  refine mj_iconst (v := (2 : Int32)) X dL_law_635 (by decide) ?_
  refine mj_iadd X dL_law_636 ?_
  refine mj_topi (l_add 2 k) ?_
  refine lj_sld X hX hbl hbA (vp_in_nI (n := k + 2) (N := L) (by omega) (by omega)) dL_law_637 ?_
  refine lj_li (wl := mx_w cI cT cS ax) (wr := my_w cI cZ ay) (As := [.int (xs (nI (k + 1)).toNatClampNeg), .int (xs (nI (k + 2)).toNatClampNeg)]) (rest := []) X [0, 1, 2] rfl (kX7_down l D t1 t2 cI cT cS ax N hx (xs (nI (k + 1)).toNatClampNeg) (xs (nI (k + 2)).toNatClampNeg) hx1 r ex) (cwV 2 X.2.2.2.2.1 gL_law_X7_down rfl rfl rfl (by decide +kernel) ⟨(Nat.le_of_ble_eq_true rfl), (Nat.le_of_ble_eq_true rfl)⟩) (mx_at mx_oX7 hx) rfl rfl rfl rfl (Nat.le_of_ble_eq_true rfl) hf dL_law_638 ?_
  refine mj_aload_n X dL_law_641 2 rfl ?_
  refine mj_aload_n X dL_law_642 0 rfl ?_
  refine mj_iload_n X dL_law_643 3 rfl ?_
  refine mj_iconst (v := (1 : Int32)) X dL_law_644 (by decide) ?_
  refine mj_iadd X dL_law_645 ?_
  refine mj_topi (l_add 1 k) ?_
  refine lj_sld X hX hbl hbA (vp_in_nI (n := k + 1) (N := L) (by omega) (by omega)) dL_law_646 ?_
  refine mj_aload_n X dL_law_647 0 rfl ?_
  refine mj_iload_n X dL_law_648 3 rfl ?_
  refine mj_iconst (v := (2 : Int32)) X dL_law_649 (by decide) ?_
  refine mj_iadd X dL_law_650 ?_
  refine mj_topi (l_add 2 k) ?_
  refine lj_sld X hX hbl hbA (vp_in_nI (n := k + 2) (N := L) (by omega) (by omega)) dL_law_651 ?_
  refine lj_ri (wl := mx_w cI cT cS ax) (wr := my_w cI cZ ay) (As := [.int (xs (nI (k + 1)).toNatClampNeg), .int (xs (nI (k + 2)).toNatClampNeg)]) (rest := [.int r]) X [0, 3] rfl (kX8_down l D t1 t2 cI cZ ay N hy (xs (nI (k + 1)).toNatClampNeg) (xs (nI (k + 2)).toNatClampNeg) hy1 r ey) (cwV 2 X.2.2.2.2.1 gL_law_X8_down rfl rfl rfl (by decide +kernel) ⟨(Nat.le_of_ble_eq_true rfl), (Nat.le_of_ble_eq_true rfl)⟩) (my_at my_oX8 hy) rfl rfl rfl rfl (Nat.le_of_ble_eq_true rfl) hf dL_law_652 ?_
  refine mj_icmp_eq (tgt := 1157) X dL_law_655 (by decide) (fun _ => ?_) (fun c9 => absurd rfl c9)
  exact IH hx1 hy1 R1
set_option maxHeartbeats 4000000 in
set_option maxRecDepth 100000 in
/-- case 16: alike -/
theorem lc_16 (hN : 20000000000 ≤ N) (X : mm_X p s m #[Value.ref b] c cL_law RL wsL_law 4 D (l_ty cI cT cS cZ) t1 t2 (l_A s)) (hX : va_X b L xs s s.heap) (hbl : b < s.heap.size) (hL : L ≤ 3072) (hk : k + 6 ≤ L) (hf : C0 ≤ room_1.cells ∧ S0 ≤ room_1.slots) (R0 : q_R hx hy) (IH : ∀ hx hy, q_R hx hy → l_J p l e s m b below meth c C0 S0 Q D cI cT cS cZ ax ay (hx, hy) 1157 (nI k)) : l_J p l e s m b below meth c C0 S0 Q D cI cT cS cZ ax ay (hx, hy) 660 (nI k) := by
  have hbA : ¬ l_A s b := Nat.not_le.mpr hbl
  obtain ⟨hx1, hy1, r, ex, ey, R1⟩ := j_alike (N := N) (by omega) R0
  refine mj_aload_n X dL_law_660 1 rfl ?_
  refine lj_li (wl := mx_w cI cT cS ax) (wr := my_w cI cZ ay) (As := []) (rest := []) X [0, 1, 2] rfl (kX7_alike l D t1 t2 cI cT cS ax N hx hx1 r ex) (cwV 0 X.2.2.2.2.1 gL_law_X7_alike rfl rfl rfl (by decide +kernel) ⟨(Nat.le_of_ble_eq_true rfl), (Nat.le_of_ble_eq_true rfl)⟩) (mx_at mx_oX7 hx) rfl rfl rfl rfl (Nat.le_of_ble_eq_true rfl) hf dL_law_661 ?_
  refine mj_aload_n X dL_law_664 2 rfl ?_
  refine lj_ri (wl := mx_w cI cT cS ax) (wr := my_w cI cZ ay) (As := []) (rest := [.int r]) X [0, 3] rfl (kX8_alike l D t1 t2 cI cZ ay N hy hy1 r ey) (cwV 0 X.2.2.2.2.1 gL_law_X8_alike rfl rfl rfl (by decide +kernel) ⟨(Nat.le_of_ble_eq_true rfl), (Nat.le_of_ble_eq_true rfl)⟩) (my_at my_oX8 hy) rfl rfl rfl rfl (Nat.le_of_ble_eq_true rfl) hf dL_law_665 ?_
  refine mj_icmp_eq (tgt := 1157) X dL_law_668 (by decide) (fun _ => ?_) (fun c9 => absurd rfl c9)
  exact IH hx1 hy1 R1
set_option maxHeartbeats 4000000 in
set_option maxRecDepth 100000 in
/-- case 17: dark -/
theorem lc_17 (hN : 20000000000 ≤ N) (X : mm_X p s m #[Value.ref b] c cL_law RL wsL_law 4 D (l_ty cI cT cS cZ) t1 t2 (l_A s)) (hX : va_X b L xs s s.heap) (hbl : b < s.heap.size) (hL : L ≤ 3072) (hk : k + 6 ≤ L) (hf : C0 ≤ room_1.cells ∧ S0 ≤ room_1.slots) (R0 : q_R hx hy) (IH : ∀ hx hy, q_R hx hy → l_J p l e s m b below meth c C0 S0 Q D cI cT cS cZ ax ay (hx, hy) 1157 (nI k)) : l_J p l e s m b below meth c C0 S0 Q D cI cT cS cZ ax ay (hx, hy) 673 (nI k) := by
  have hbA : ¬ l_A s b := Nat.not_le.mpr hbl
  obtain ⟨hx1, hy1, r, ex, ey, R1⟩ := j_dark (N := N) (by omega) R0 (xs (nI (k + 1)).toNatClampNeg) (xs (nI (k + 2)).toNatClampNeg) (xs (nI (k + 3)).toNatClampNeg)
  refine mj_aload_n X dL_law_673 1 rfl ?_
  refine mj_aload_n X dL_law_674 0 rfl ?_
  refine mj_iload_n X dL_law_675 3 rfl ?_
  refine mj_iconst (v := (1 : Int32)) X dL_law_676 (by decide) ?_
  refine mj_iadd X dL_law_677 ?_
  refine mj_topi (l_add 1 k) ?_
  refine lj_sld X hX hbl hbA (vp_in_nI (n := k + 1) (N := L) (by omega) (by omega)) dL_law_678 ?_
  refine mj_aload_n X dL_law_679 0 rfl ?_
  refine mj_iload_n X dL_law_680 3 rfl ?_
  refine mj_iconst (v := (2 : Int32)) X dL_law_681 (by decide) ?_
  refine mj_iadd X dL_law_682 ?_
  refine mj_topi (l_add 2 k) ?_
  refine lj_sld X hX hbl hbA (vp_in_nI (n := k + 2) (N := L) (by omega) (by omega)) dL_law_683 ?_
  refine mj_aload_n X dL_law_684 0 rfl ?_
  refine mj_iload_n X dL_law_685 3 rfl ?_
  refine mj_iconst (v := (3 : Int32)) X dL_law_686 (by decide) ?_
  refine mj_iadd X dL_law_687 ?_
  refine mj_topi (l_add 3 k) ?_
  refine lj_sld X hX hbl hbA (vp_in_nI (n := k + 3) (N := L) (by omega) (by omega)) dL_law_688 ?_
  refine lj_li (wl := mx_w cI cT cS ax) (wr := my_w cI cZ ay) (As := [.int (xs (nI (k + 1)).toNatClampNeg), .int (xs (nI (k + 2)).toNatClampNeg), .int (xs (nI (k + 3)).toNatClampNeg)]) (rest := []) X [0, 1, 2] rfl (kX7_dark l D t1 t2 cI cT cS ax N hx (xs (nI (k + 1)).toNatClampNeg) (xs (nI (k + 2)).toNatClampNeg) (xs (nI (k + 3)).toNatClampNeg) hx1 r ex) (cwV 3 X.2.2.2.2.1 gL_law_X7_dark rfl rfl rfl (by decide +kernel) ⟨(Nat.le_of_ble_eq_true rfl), (Nat.le_of_ble_eq_true rfl)⟩) (mx_at mx_oX7 hx) rfl rfl rfl rfl (Nat.le_of_ble_eq_true rfl) hf dL_law_689 ?_
  refine mj_aload_n X dL_law_692 2 rfl ?_
  refine mj_aload_n X dL_law_693 0 rfl ?_
  refine mj_iload_n X dL_law_694 3 rfl ?_
  refine mj_iconst (v := (1 : Int32)) X dL_law_695 (by decide) ?_
  refine mj_iadd X dL_law_696 ?_
  refine mj_topi (l_add 1 k) ?_
  refine lj_sld X hX hbl hbA (vp_in_nI (n := k + 1) (N := L) (by omega) (by omega)) dL_law_697 ?_
  refine mj_aload_n X dL_law_698 0 rfl ?_
  refine mj_iload_n X dL_law_699 3 rfl ?_
  refine mj_iconst (v := (2 : Int32)) X dL_law_700 (by decide) ?_
  refine mj_iadd X dL_law_701 ?_
  refine mj_topi (l_add 2 k) ?_
  refine lj_sld X hX hbl hbA (vp_in_nI (n := k + 2) (N := L) (by omega) (by omega)) dL_law_702 ?_
  refine mj_aload_n X dL_law_703 0 rfl ?_
  refine mj_iload_n X dL_law_704 3 rfl ?_
  refine mj_iconst (v := (3 : Int32)) X dL_law_705 (by decide) ?_
  refine mj_iadd X dL_law_706 ?_
  refine mj_topi (l_add 3 k) ?_
  refine lj_sld X hX hbl hbA (vp_in_nI (n := k + 3) (N := L) (by omega) (by omega)) dL_law_707 ?_
  refine lj_ri (wl := mx_w cI cT cS ax) (wr := my_w cI cZ ay) (As := [.int (xs (nI (k + 1)).toNatClampNeg), .int (xs (nI (k + 2)).toNatClampNeg), .int (xs (nI (k + 3)).toNatClampNeg)]) (rest := [.int r]) X [0, 3] rfl (kX8_dark l D t1 t2 cI cZ ay N hy (xs (nI (k + 1)).toNatClampNeg) (xs (nI (k + 2)).toNatClampNeg) (xs (nI (k + 3)).toNatClampNeg) hy1 r ey) (cwV 3 X.2.2.2.2.1 gL_law_X8_dark rfl rfl rfl (by decide +kernel) ⟨(Nat.le_of_ble_eq_true rfl), (Nat.le_of_ble_eq_true rfl)⟩) (my_at my_oX8 hy) rfl rfl rfl rfl (Nat.le_of_ble_eq_true rfl) hf dL_law_708 ?_
  refine mj_icmp_eq (tgt := 1157) X dL_law_711 (by decide) (fun _ => ?_) (fun c9 => absurd rfl c9)
  exact IH hx1 hy1 R1
set_option maxHeartbeats 4000000 in
set_option maxRecDepth 100000 in
/-- case 18: seen -/
theorem lc_18 (hN : 20000000000 ≤ N) (X : mm_X p s m #[Value.ref b] c cL_law RL wsL_law 4 D (l_ty cI cT cS cZ) t1 t2 (l_A s)) (hX : va_X b L xs s s.heap) (hbl : b < s.heap.size) (hL : L ≤ 3072) (hk : k + 6 ≤ L) (hf : C0 ≤ room_1.cells ∧ S0 ≤ room_1.slots) (R0 : q_R hx hy) (IH : ∀ hx hy, q_R hx hy → l_J p l e s m b below meth c C0 S0 Q D cI cT cS cZ ax ay (hx, hy) 1157 (nI k)) : l_J p l e s m b below meth c C0 S0 Q D cI cT cS cZ ax ay (hx, hy) 716 (nI k) := by
  have hbA : ¬ l_A s b := Nat.not_le.mpr hbl
  obtain ⟨hx1, hy1, r, ex, ey, R1⟩ := j_seen (N := N) R0 (xs (nI (k + 1)).toNatClampNeg) (xs (nI (k + 2)).toNatClampNeg) (xs (nI (k + 3)).toNatClampNeg)
  refine mj_aload_n X dL_law_716 1 rfl ?_
  refine mj_aload_n X dL_law_717 0 rfl ?_
  refine mj_iload_n X dL_law_718 3 rfl ?_
  refine mj_iconst (v := (1 : Int32)) X dL_law_719 (by decide) ?_
  refine mj_iadd X dL_law_720 ?_
  refine mj_topi (l_add 1 k) ?_
  refine lj_sld X hX hbl hbA (vp_in_nI (n := k + 1) (N := L) (by omega) (by omega)) dL_law_721 ?_
  refine mj_aload_n X dL_law_722 0 rfl ?_
  refine mj_iload_n X dL_law_723 3 rfl ?_
  refine mj_iconst (v := (2 : Int32)) X dL_law_724 (by decide) ?_
  refine mj_iadd X dL_law_725 ?_
  refine mj_topi (l_add 2 k) ?_
  refine lj_sld X hX hbl hbA (vp_in_nI (n := k + 2) (N := L) (by omega) (by omega)) dL_law_726 ?_
  refine mj_aload_n X dL_law_727 0 rfl ?_
  refine mj_iload_n X dL_law_728 3 rfl ?_
  refine mj_iconst (v := (3 : Int32)) X dL_law_729 (by decide) ?_
  refine mj_iadd X dL_law_730 ?_
  refine mj_topi (l_add 3 k) ?_
  refine lj_sld X hX hbl hbA (vp_in_nI (n := k + 3) (N := L) (by omega) (by omega)) dL_law_731 ?_
  refine lj_li (wl := mx_w cI cT cS ax) (wr := my_w cI cZ ay) (As := [.int (xs (nI (k + 1)).toNatClampNeg), .int (xs (nI (k + 2)).toNatClampNeg), .int (xs (nI (k + 3)).toNatClampNeg)]) (rest := []) X [0, 1, 2] rfl (kX7_seen l D t1 t2 cI cT cS ax N hx (xs (nI (k + 1)).toNatClampNeg) (xs (nI (k + 2)).toNatClampNeg) (xs (nI (k + 3)).toNatClampNeg) hx1 r ex) (cwV 3 X.2.2.2.2.1 gL_law_X7_seen rfl rfl rfl (by decide +kernel) ⟨(Nat.le_of_ble_eq_true rfl), (Nat.le_of_ble_eq_true rfl)⟩) (mx_at mx_oX7 hx) rfl rfl rfl rfl (Nat.le_of_ble_eq_true rfl) hf dL_law_732 ?_
  refine mj_aload_n X dL_law_735 2 rfl ?_
  refine mj_aload_n X dL_law_736 0 rfl ?_
  refine mj_iload_n X dL_law_737 3 rfl ?_
  refine mj_iconst (v := (1 : Int32)) X dL_law_738 (by decide) ?_
  refine mj_iadd X dL_law_739 ?_
  refine mj_topi (l_add 1 k) ?_
  refine lj_sld X hX hbl hbA (vp_in_nI (n := k + 1) (N := L) (by omega) (by omega)) dL_law_740 ?_
  refine mj_aload_n X dL_law_741 0 rfl ?_
  refine mj_iload_n X dL_law_742 3 rfl ?_
  refine mj_iconst (v := (2 : Int32)) X dL_law_743 (by decide) ?_
  refine mj_iadd X dL_law_744 ?_
  refine mj_topi (l_add 2 k) ?_
  refine lj_sld X hX hbl hbA (vp_in_nI (n := k + 2) (N := L) (by omega) (by omega)) dL_law_745 ?_
  refine mj_aload_n X dL_law_746 0 rfl ?_
  refine mj_iload_n X dL_law_747 3 rfl ?_
  refine mj_iconst (v := (3 : Int32)) X dL_law_748 (by decide) ?_
  refine mj_iadd X dL_law_749 ?_
  refine mj_topi (l_add 3 k) ?_
  refine lj_sld X hX hbl hbA (vp_in_nI (n := k + 3) (N := L) (by omega) (by omega)) dL_law_750 ?_
  refine lj_ri (wl := mx_w cI cT cS ax) (wr := my_w cI cZ ay) (As := [.int (xs (nI (k + 1)).toNatClampNeg), .int (xs (nI (k + 2)).toNatClampNeg), .int (xs (nI (k + 3)).toNatClampNeg)]) (rest := [.int r]) X [0, 3] rfl (kX8_seen l D t1 t2 cI cZ ay N hy (xs (nI (k + 1)).toNatClampNeg) (xs (nI (k + 2)).toNatClampNeg) (xs (nI (k + 3)).toNatClampNeg) hy1 r ey) (cwV 3 X.2.2.2.2.1 gL_law_X8_seen rfl rfl rfl (by decide +kernel) ⟨(Nat.le_of_ble_eq_true rfl), (Nat.le_of_ble_eq_true rfl)⟩) (my_at my_oX8 hy) rfl rfl rfl rfl (Nat.le_of_ble_eq_true rfl) hf dL_law_751 ?_
  refine mj_icmp_eq (tgt := 1157) X dL_law_754 (by decide) (fun _ => ?_) (fun c9 => absurd rfl c9)
  exact IH hx1 hy1 R1
set_option maxHeartbeats 4000000 in
set_option maxRecDepth 100000 in
/-- case 19: forget -/
theorem lc_19 (hN : 20000000000 ≤ N) (X : mm_X p s m #[Value.ref b] c cL_law RL wsL_law 4 D (l_ty cI cT cS cZ) t1 t2 (l_A s)) (hX : va_X b L xs s s.heap) (hbl : b < s.heap.size) (hL : L ≤ 3072) (hk : k + 6 ≤ L) (hf : C0 ≤ room_1.cells ∧ S0 ≤ room_1.slots) (R0 : q_R hx hy) (IH : ∀ hx hy, q_R hx hy → l_J p l e s m b below meth c C0 S0 Q D cI cT cS cZ ax ay (hx, hy) 1157 (nI k)) : l_J p l e s m b below meth c C0 S0 Q D cI cT cS cZ ax ay (hx, hy) 759 (nI k) := by
  have hbA : ¬ l_A s b := Nat.not_le.mpr hbl
  obtain ⟨hx1, hy1, r, ex, ey, R1⟩ := j_forget (N := N) R0
  refine mj_aload_n X dL_law_759 1 rfl ?_
  refine lj_li (wl := mx_w cI cT cS ax) (wr := my_w cI cZ ay) (As := []) (rest := []) X [0, 1, 2] rfl (kX7_forget l D t1 t2 cI cT cS ax N hx hx1 r ex) (cwV 0 X.2.2.2.2.1 gL_law_X7_forget rfl rfl rfl (by decide +kernel) ⟨(Nat.le_of_ble_eq_true rfl), (Nat.le_of_ble_eq_true rfl)⟩) (mx_at mx_oX7 hx) rfl rfl rfl rfl (Nat.le_of_ble_eq_true rfl) hf dL_law_760 ?_
  refine mj_aload_n X dL_law_763 2 rfl ?_
  refine lj_ri (wl := mx_w cI cT cS ax) (wr := my_w cI cZ ay) (As := []) (rest := [.int r]) X [0, 3] rfl (kX8_forget l D t1 t2 cI cZ ay N hy hy1 r ey) (cwV 0 X.2.2.2.2.1 gL_law_X8_forget rfl rfl rfl (by decide +kernel) ⟨(Nat.le_of_ble_eq_true rfl), (Nat.le_of_ble_eq_true rfl)⟩) (my_at my_oX8 hy) rfl rfl rfl rfl (Nat.le_of_ble_eq_true rfl) hf dL_law_764 ?_
  refine mj_icmp_eq (tgt := 1157) X dL_law_767 (by decide) (fun _ => ?_) (fun c9 => absurd rfl c9)
  exact IH hx1 hy1 R1
set_option maxHeartbeats 4000000 in
set_option maxRecDepth 100000 in
/-- case 20: unlike -/
theorem lc_20 (hN : 20000000000 ≤ N) (X : mm_X p s m #[Value.ref b] c cL_law RL wsL_law 4 D (l_ty cI cT cS cZ) t1 t2 (l_A s)) (hX : va_X b L xs s s.heap) (hbl : b < s.heap.size) (hL : L ≤ 3072) (hk : k + 6 ≤ L) (hf : C0 ≤ room_1.cells ∧ S0 ≤ room_1.slots) (R0 : q_R hx hy) (IH : ∀ hx hy, q_R hx hy → l_J p l e s m b below meth c C0 S0 Q D cI cT cS cZ ax ay (hx, hy) 1157 (nI k)) : l_J p l e s m b below meth c C0 S0 Q D cI cT cS cZ ax ay (hx, hy) 772 (nI k) := by
  have hbA : ¬ l_A s b := Nat.not_le.mpr hbl
  obtain ⟨hx1, hy1, r, ex, ey, R1⟩ := j_unlike (N := N) (by omega) R0
  refine mj_aload_n X dL_law_772 1 rfl ?_
  refine lj_li (wl := mx_w cI cT cS ax) (wr := my_w cI cZ ay) (As := []) (rest := []) X [0, 1, 2] rfl (kX7_unlike l D t1 t2 cI cT cS ax N hx hx1 r ex) (cwV 0 X.2.2.2.2.1 gL_law_X7_unlike rfl rfl rfl (by decide +kernel) ⟨(Nat.le_of_ble_eq_true rfl), (Nat.le_of_ble_eq_true rfl)⟩) (mx_at mx_oX7 hx) rfl rfl rfl rfl (Nat.le_of_ble_eq_true rfl) hf dL_law_773 ?_
  refine mj_aload_n X dL_law_776 2 rfl ?_
  refine lj_ri (wl := mx_w cI cT cS ax) (wr := my_w cI cZ ay) (As := []) (rest := [.int r]) X [0, 3] rfl (kX8_unlike l D t1 t2 cI cZ ay N hy hy1 r ey) (cwV 0 X.2.2.2.2.1 gL_law_X8_unlike rfl rfl rfl (by decide +kernel) ⟨(Nat.le_of_ble_eq_true rfl), (Nat.le_of_ble_eq_true rfl)⟩) (my_at my_oX8 hy) rfl rfl rfl rfl (Nat.le_of_ble_eq_true rfl) hf dL_law_777 ?_
  refine mj_icmp_eq (tgt := 1157) X dL_law_780 (by decide) (fun _ => ?_) (fun c9 => absurd rfl c9)
  exact IH hx1 hy1 R1
set_option maxHeartbeats 4000000 in
set_option maxRecDepth 100000 in
/-- case 21: hid -/
theorem lc_21 (hN : 20000000000 ≤ N) (X : mm_X p s m #[Value.ref b] c cL_law RL wsL_law 4 D (l_ty cI cT cS cZ) t1 t2 (l_A s)) (hX : va_X b L xs s s.heap) (hbl : b < s.heap.size) (hL : L ≤ 3072) (hk : k + 6 ≤ L) (hf : C0 ≤ room_1.cells ∧ S0 ≤ room_1.slots) (R0 : q_R hx hy) (IH : ∀ hx hy, q_R hx hy → l_J p l e s m b below meth c C0 S0 Q D cI cT cS cZ ax ay (hx, hy) 1157 (nI k)) : l_J p l e s m b below meth c C0 S0 Q D cI cT cS cZ ax ay (hx, hy) 785 (nI k) := by
  have hbA : ¬ l_A s b := Nat.not_le.mpr hbl
  obtain ⟨hx1, hy1, r, ex, ey, R1⟩ := j_hid (N := N) (by omega) R0 (xs (nI (k + 1)).toNatClampNeg)
  refine mj_aload_n X dL_law_785 1 rfl ?_
  refine mj_aload_n X dL_law_786 0 rfl ?_
  refine mj_iload_n X dL_law_787 3 rfl ?_
  refine mj_iconst (v := (1 : Int32)) X dL_law_788 (by decide) ?_
  refine mj_iadd X dL_law_789 ?_
  refine mj_topi (l_add 1 k) ?_
  refine lj_sld X hX hbl hbA (vp_in_nI (n := k + 1) (N := L) (by omega) (by omega)) dL_law_790 ?_
  refine lj_li (wl := mx_w cI cT cS ax) (wr := my_w cI cZ ay) (As := [.int (xs (nI (k + 1)).toNatClampNeg)]) (rest := []) X [0, 1, 2] rfl (kX7_hid l D t1 t2 cI cT cS ax N hx (xs (nI (k + 1)).toNatClampNeg) hx1 r ex) (cwV 1 X.2.2.2.2.1 gL_law_X7_hid rfl rfl rfl (by decide +kernel) ⟨(Nat.le_of_ble_eq_true rfl), (Nat.le_of_ble_eq_true rfl)⟩) (mx_at mx_oX7 hx) rfl rfl rfl rfl (Nat.le_of_ble_eq_true rfl) hf dL_law_791 ?_
  refine mj_aload_n X dL_law_794 2 rfl ?_
  refine mj_aload_n X dL_law_795 0 rfl ?_
  refine mj_iload_n X dL_law_796 3 rfl ?_
  refine mj_iconst (v := (1 : Int32)) X dL_law_797 (by decide) ?_
  refine mj_iadd X dL_law_798 ?_
  refine mj_topi (l_add 1 k) ?_
  refine lj_sld X hX hbl hbA (vp_in_nI (n := k + 1) (N := L) (by omega) (by omega)) dL_law_799 ?_
  refine lj_ri (wl := mx_w cI cT cS ax) (wr := my_w cI cZ ay) (As := [.int (xs (nI (k + 1)).toNatClampNeg)]) (rest := [.int r]) X [0, 3] rfl (kX8_hid l D t1 t2 cI cZ ay N hy (xs (nI (k + 1)).toNatClampNeg) hy1 r ey) (cwV 1 X.2.2.2.2.1 gL_law_X8_hid rfl rfl rfl (by decide +kernel) ⟨(Nat.le_of_ble_eq_true rfl), (Nat.le_of_ble_eq_true rfl)⟩) (my_at my_oX8 hy) rfl rfl rfl rfl (Nat.le_of_ble_eq_true rfl) hf dL_law_800 ?_
  refine mj_icmp_eq (tgt := 1157) X dL_law_803 (by decide) (fun _ => ?_) (fun c9 => absurd rfl c9)
  exact IH hx1 hy1 R1
end LC2
