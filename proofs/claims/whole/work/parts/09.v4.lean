section LC3
variable {p : Program} {l : Launch} {e : Env} {s : State} {m : MethodId} {b : Nat} {below : List Frame} {meth : Method} {c : Code} {C0 S0 : Nat} {Q : State → Prop} {D : va_G} {cI cT cS cZ : ClassId} {ax ay : Nat → Nat} {t1 t2 L N k : Nat} {xs : Nat → Int32} {hx hy : mm_M}
set_option maxHeartbeats 4000000 in
set_option maxRecDepth 100000 in
/-- case 22: luck -/
theorem lc_22 (hN : 20000000000 ≤ N) (X : mm_X p s m #[Value.ref b] c cL_law RL wsL_law 4 D (l_ty cI cT cS cZ) t1 t2 (l_A s)) (hX : va_X b L xs s s.heap) (hbl : b < s.heap.size) (hL : L ≤ 3072) (hk : k + 6 ≤ L) (hf : C0 ≤ room_1.cells ∧ S0 ≤ room_1.slots) (R0 : q_R hx hy) (IH : ∀ hx hy, q_R hx hy → l_J p l e s m b below meth c C0 S0 Q D cI cT cS cZ ax ay (hx, hy) 1157 (nI k)) : l_J p l e s m b below meth c C0 S0 Q D cI cT cS cZ ax ay (hx, hy) 808 (nI k) := by
  have hbA : ¬ l_A s b := Nat.not_le.mpr hbl
  obtain ⟨hx1, hy1, r, ex, ey, R1⟩ := j_luck hN R0 (xs (nI (k + 1)).toNatClampNeg) (xs (nI (k + 2)).toNatClampNeg) (xs (nI (k + 3)).toNatClampNeg) (xs (nI (k + 4)).toNatClampNeg)
  refine mj_aload_n X dL_law_808 1 rfl ?_
  refine mj_aload_n X dL_law_809 0 rfl ?_
  refine mj_iload_n X dL_law_810 3 rfl ?_
  refine mj_iconst (v := (1 : Int32)) X dL_law_811 (by decide) ?_
  refine mj_iadd X dL_law_812 ?_
  refine mj_topi (l_add 1 k) ?_
  refine lj_sld X hX hbl hbA (vp_in_nI (n := k + 1) (N := L) (by omega) (by omega)) dL_law_813 ?_
  refine mj_aload_n X dL_law_814 0 rfl ?_
  refine mj_iload_n X dL_law_815 3 rfl ?_
  refine mj_iconst (v := (2 : Int32)) X dL_law_816 (by decide) ?_
  refine mj_iadd X dL_law_817 ?_
  refine mj_topi (l_add 2 k) ?_
  refine lj_sld X hX hbl hbA (vp_in_nI (n := k + 2) (N := L) (by omega) (by omega)) dL_law_818 ?_
  refine mj_aload_n X dL_law_819 0 rfl ?_
  refine mj_iload_n X dL_law_820 3 rfl ?_
  refine mj_iconst (v := (3 : Int32)) X dL_law_821 (by decide) ?_
  refine mj_iadd X dL_law_822 ?_
  refine mj_topi (l_add 3 k) ?_
  refine lj_sld X hX hbl hbA (vp_in_nI (n := k + 3) (N := L) (by omega) (by omega)) dL_law_823 ?_
  refine mj_aload_n X dL_law_824 0 rfl ?_
  refine mj_iload_n X dL_law_825 3 rfl ?_
  refine mj_iconst (v := (4 : Int32)) X dL_law_826 (by decide) ?_
  refine mj_iadd X dL_law_827 ?_
  refine mj_topi (l_add 4 k) ?_
  refine lj_sld X hX hbl hbA (vp_in_nI (n := k + 4) (N := L) (by omega) (by omega)) dL_law_828 ?_
  refine lj_ll (wl := mx_w cI cT cS ax) (wr := my_w cI cZ ay) (As := [.int (xs (nI (k + 1)).toNatClampNeg), .int (xs (nI (k + 2)).toNatClampNeg), .int (xs (nI (k + 3)).toNatClampNeg), .int (xs (nI (k + 4)).toNatClampNeg)]) (rest := []) X [0, 1, 2] rfl (kX7_luck l D t1 t2 cI cT cS ax N hx (xs (nI (k + 1)).toNatClampNeg) (xs (nI (k + 2)).toNatClampNeg) (xs (nI (k + 3)).toNatClampNeg) (xs (nI (k + 4)).toNatClampNeg) hx1 r ex) (cwV 4 X.2.2.2.2.1 gL_law_X7_luck rfl rfl rfl (by decide +kernel) ⟨(Nat.le_of_ble_eq_true rfl), (Nat.le_of_ble_eq_true rfl)⟩) (mx_at mx_oX7 hx) rfl rfl rfl rfl (Nat.le_of_ble_eq_true rfl) hf dL_law_829 ?_
  refine mj_aload_n X dL_law_832 2 rfl ?_
  refine mj_aload_n X dL_law_833 0 rfl ?_
  refine mj_iload_n X dL_law_834 3 rfl ?_
  refine mj_iconst (v := (1 : Int32)) X dL_law_835 (by decide) ?_
  refine mj_iadd X dL_law_836 ?_
  refine mj_topi (l_add 1 k) ?_
  refine lj_sld X hX hbl hbA (vp_in_nI (n := k + 1) (N := L) (by omega) (by omega)) dL_law_837 ?_
  refine mj_aload_n X dL_law_838 0 rfl ?_
  refine mj_iload_n X dL_law_839 3 rfl ?_
  refine mj_iconst (v := (2 : Int32)) X dL_law_840 (by decide) ?_
  refine mj_iadd X dL_law_841 ?_
  refine mj_topi (l_add 2 k) ?_
  refine lj_sld X hX hbl hbA (vp_in_nI (n := k + 2) (N := L) (by omega) (by omega)) dL_law_842 ?_
  refine mj_aload_n X dL_law_843 0 rfl ?_
  refine mj_iload_n X dL_law_844 3 rfl ?_
  refine mj_iconst (v := (3 : Int32)) X dL_law_845 (by decide) ?_
  refine mj_iadd X dL_law_846 ?_
  refine mj_topi (l_add 3 k) ?_
  refine lj_sld X hX hbl hbA (vp_in_nI (n := k + 3) (N := L) (by omega) (by omega)) dL_law_847 ?_
  refine mj_aload_n X dL_law_848 0 rfl ?_
  refine mj_iload_n X dL_law_849 3 rfl ?_
  refine mj_iconst (v := (4 : Int32)) X dL_law_850 (by decide) ?_
  refine mj_iadd X dL_law_851 ?_
  refine mj_topi (l_add 4 k) ?_
  refine lj_sld X hX hbl hbA (vp_in_nI (n := k + 4) (N := L) (by omega) (by omega)) dL_law_852 ?_
  refine lj_rl (wl := mx_w cI cT cS ax) (wr := my_w cI cZ ay) (As := [.int (xs (nI (k + 1)).toNatClampNeg), .int (xs (nI (k + 2)).toNatClampNeg), .int (xs (nI (k + 3)).toNatClampNeg), .int (xs (nI (k + 4)).toNatClampNeg)]) (rest := [.long r]) X [0, 3] rfl (kX8_luck l D t1 t2 cI cZ ay N hy (xs (nI (k + 1)).toNatClampNeg) (xs (nI (k + 2)).toNatClampNeg) (xs (nI (k + 3)).toNatClampNeg) (xs (nI (k + 4)).toNatClampNeg) hy1 r ey) (cwV 4 X.2.2.2.2.1 gL_law_X8_luck rfl rfl rfl (by decide +kernel) ⟨(Nat.le_of_ble_eq_true rfl), (Nat.le_of_ble_eq_true rfl)⟩) (my_at my_oX8 hy) rfl rfl rfl rfl (Nat.le_of_ble_eq_true rfl) hf dL_law_853 ?_
  refine mj_lcmp X dL_law_856 ?_
  refine mj_if_eq (tgt := 1157) X dL_law_857 (by decide) (fun _ => ?_) (fun c9 => absurd (l_cmp r) c9)
  exact IH hx1 hy1 R1
set_option maxHeartbeats 4000000 in
set_option maxRecDepth 100000 in
/-- case 23: sheet -/
theorem lc_23 (hN : 20000000000 ≤ N) (X : mm_X p s m #[Value.ref b] c cL_law RL wsL_law 4 D (l_ty cI cT cS cZ) t1 t2 (l_A s)) (hX : va_X b L xs s s.heap) (hbl : b < s.heap.size) (hL : L ≤ 3072) (hk : k + 6 ≤ L) (hf : C0 ≤ room_1.cells ∧ S0 ≤ room_1.slots) (R0 : q_R hx hy) (IH : ∀ hx hy, q_R hx hy → l_J p l e s m b below meth c C0 S0 Q D cI cT cS cZ ax ay (hx, hy) 1157 (nI k)) : l_J p l e s m b below meth c C0 S0 Q D cI cT cS cZ ax ay (hx, hy) 862 (nI k) := by
  have hbA : ¬ l_A s b := Nat.not_le.mpr hbl
  obtain ⟨hx1, hy1, r, ex, ey, R1⟩ := j_sheet (N := N) (by omega) R0 (xs (nI (k + 1)).toNatClampNeg) (xs (nI (k + 2)).toNatClampNeg) (xs (nI (k + 3)).toNatClampNeg)
  refine mj_aload_n X dL_law_862 1 rfl ?_
  refine mj_aload_n X dL_law_863 0 rfl ?_
  refine mj_iload_n X dL_law_864 3 rfl ?_
  refine mj_iconst (v := (1 : Int32)) X dL_law_865 (by decide) ?_
  refine mj_iadd X dL_law_866 ?_
  refine mj_topi (l_add 1 k) ?_
  refine lj_sld X hX hbl hbA (vp_in_nI (n := k + 1) (N := L) (by omega) (by omega)) dL_law_867 ?_
  refine mj_aload_n X dL_law_868 0 rfl ?_
  refine mj_iload_n X dL_law_869 3 rfl ?_
  refine mj_iconst (v := (2 : Int32)) X dL_law_870 (by decide) ?_
  refine mj_iadd X dL_law_871 ?_
  refine mj_topi (l_add 2 k) ?_
  refine lj_sld X hX hbl hbA (vp_in_nI (n := k + 2) (N := L) (by omega) (by omega)) dL_law_872 ?_
  refine mj_aload_n X dL_law_873 0 rfl ?_
  refine mj_iload_n X dL_law_874 3 rfl ?_
  refine mj_iconst (v := (3 : Int32)) X dL_law_875 (by decide) ?_
  refine mj_iadd X dL_law_876 ?_
  refine mj_topi (l_add 3 k) ?_
  refine lj_sld X hX hbl hbA (vp_in_nI (n := k + 3) (N := L) (by omega) (by omega)) dL_law_877 ?_
  refine lj_li (wl := mx_w cI cT cS ax) (wr := my_w cI cZ ay) (As := [.int (xs (nI (k + 1)).toNatClampNeg), .int (xs (nI (k + 2)).toNatClampNeg), .int (xs (nI (k + 3)).toNatClampNeg)]) (rest := []) X [0, 1, 2] rfl (kX7_sheet l D t1 t2 cI cT cS ax N hx (xs (nI (k + 1)).toNatClampNeg) (xs (nI (k + 2)).toNatClampNeg) (xs (nI (k + 3)).toNatClampNeg) hx1 r ex) (cwV 3 X.2.2.2.2.1 gL_law_X7_sheet rfl rfl rfl (by decide +kernel) ⟨(Nat.le_of_ble_eq_true rfl), (Nat.le_of_ble_eq_true rfl)⟩) (mx_at mx_oX7 hx) rfl rfl rfl rfl (Nat.le_of_ble_eq_true rfl) hf dL_law_878 ?_
  refine mj_aload_n X dL_law_881 2 rfl ?_
  refine mj_aload_n X dL_law_882 0 rfl ?_
  refine mj_iload_n X dL_law_883 3 rfl ?_
  refine mj_iconst (v := (1 : Int32)) X dL_law_884 (by decide) ?_
  refine mj_iadd X dL_law_885 ?_
  refine mj_topi (l_add 1 k) ?_
  refine lj_sld X hX hbl hbA (vp_in_nI (n := k + 1) (N := L) (by omega) (by omega)) dL_law_886 ?_
  refine mj_aload_n X dL_law_887 0 rfl ?_
  refine mj_iload_n X dL_law_888 3 rfl ?_
  refine mj_iconst (v := (2 : Int32)) X dL_law_889 (by decide) ?_
  refine mj_iadd X dL_law_890 ?_
  refine mj_topi (l_add 2 k) ?_
  refine lj_sld X hX hbl hbA (vp_in_nI (n := k + 2) (N := L) (by omega) (by omega)) dL_law_891 ?_
  refine mj_aload_n X dL_law_892 0 rfl ?_
  refine mj_iload_n X dL_law_893 3 rfl ?_
  refine mj_iconst (v := (3 : Int32)) X dL_law_894 (by decide) ?_
  refine mj_iadd X dL_law_895 ?_
  refine mj_topi (l_add 3 k) ?_
  refine lj_sld X hX hbl hbA (vp_in_nI (n := k + 3) (N := L) (by omega) (by omega)) dL_law_896 ?_
  refine lj_ri (wl := mx_w cI cT cS ax) (wr := my_w cI cZ ay) (As := [.int (xs (nI (k + 1)).toNatClampNeg), .int (xs (nI (k + 2)).toNatClampNeg), .int (xs (nI (k + 3)).toNatClampNeg)]) (rest := [.int r]) X [0, 3] rfl (kX8_sheet l D t1 t2 cI cZ ay N hy (xs (nI (k + 1)).toNatClampNeg) (xs (nI (k + 2)).toNatClampNeg) (xs (nI (k + 3)).toNatClampNeg) hy1 r ey) (cwV 3 X.2.2.2.2.1 gL_law_X8_sheet rfl rfl rfl (by decide +kernel) ⟨(Nat.le_of_ble_eq_true rfl), (Nat.le_of_ble_eq_true rfl)⟩) (my_at my_oX8 hy) rfl rfl rfl rfl (Nat.le_of_ble_eq_true rfl) hf dL_law_897 ?_
  refine mj_icmp_eq (tgt := 1157) X dL_law_900 (by decide) (fun _ => ?_) (fun c9 => absurd rfl c9)
  exact IH hx1 hy1 R1
set_option maxHeartbeats 4000000 in
set_option maxRecDepth 100000 in
/-- case 24: lose -/
theorem lc_24 (hN : 20000000000 ≤ N) (X : mm_X p s m #[Value.ref b] c cL_law RL wsL_law 4 D (l_ty cI cT cS cZ) t1 t2 (l_A s)) (hX : va_X b L xs s s.heap) (hbl : b < s.heap.size) (hL : L ≤ 3072) (hk : k + 6 ≤ L) (hf : C0 ≤ room_1.cells ∧ S0 ≤ room_1.slots) (R0 : q_R hx hy) (IH : ∀ hx hy, q_R hx hy → l_J p l e s m b below meth c C0 S0 Q D cI cT cS cZ ax ay (hx, hy) 1157 (nI k)) : l_J p l e s m b below meth c C0 S0 Q D cI cT cS cZ ax ay (hx, hy) 905 (nI k) := by
  have hbA : ¬ l_A s b := Nat.not_le.mpr hbl
  obtain ⟨hx1, hy1, r, ex, ey, R1⟩ := j_lose (N := N) R0 (xs (nI (k + 1)).toNatClampNeg)
  refine mj_aload_n X dL_law_905 1 rfl ?_
  refine mj_aload_n X dL_law_906 0 rfl ?_
  refine mj_iload_n X dL_law_907 3 rfl ?_
  refine mj_iconst (v := (1 : Int32)) X dL_law_908 (by decide) ?_
  refine mj_iadd X dL_law_909 ?_
  refine mj_topi (l_add 1 k) ?_
  refine lj_sld X hX hbl hbA (vp_in_nI (n := k + 1) (N := L) (by omega) (by omega)) dL_law_910 ?_
  refine lj_li (wl := mx_w cI cT cS ax) (wr := my_w cI cZ ay) (As := [.int (xs (nI (k + 1)).toNatClampNeg)]) (rest := []) X [0, 1, 2] rfl (kX7_lose l D t1 t2 cI cT cS ax N hx (xs (nI (k + 1)).toNatClampNeg) hx1 r ex) (cwV 1 X.2.2.2.2.1 gL_law_X7_lose rfl rfl rfl (by decide +kernel) ⟨(Nat.le_of_ble_eq_true rfl), (Nat.le_of_ble_eq_true rfl)⟩) (mx_at mx_oX7 hx) rfl rfl rfl rfl (Nat.le_of_ble_eq_true rfl) hf dL_law_911 ?_
  refine mj_aload_n X dL_law_914 2 rfl ?_
  refine mj_aload_n X dL_law_915 0 rfl ?_
  refine mj_iload_n X dL_law_916 3 rfl ?_
  refine mj_iconst (v := (1 : Int32)) X dL_law_917 (by decide) ?_
  refine mj_iadd X dL_law_918 ?_
  refine mj_topi (l_add 1 k) ?_
  refine lj_sld X hX hbl hbA (vp_in_nI (n := k + 1) (N := L) (by omega) (by omega)) dL_law_919 ?_
  refine lj_ri (wl := mx_w cI cT cS ax) (wr := my_w cI cZ ay) (As := [.int (xs (nI (k + 1)).toNatClampNeg)]) (rest := [.int r]) X [0, 3] rfl (kX8_lose l D t1 t2 cI cZ ay N hy (xs (nI (k + 1)).toNatClampNeg) hy1 r ey) (cwV 1 X.2.2.2.2.1 gL_law_X8_lose rfl rfl rfl (by decide +kernel) ⟨(Nat.le_of_ble_eq_true rfl), (Nat.le_of_ble_eq_true rfl)⟩) (my_at my_oX8 hy) rfl rfl rfl rfl (Nat.le_of_ble_eq_true rfl) hf dL_law_920 ?_
  refine mj_icmp_eq (tgt := 1157) X dL_law_923 (by decide) (fun _ => ?_) (fun c9 => absurd rfl c9)
  exact IH hx1 hy1 R1
set_option maxHeartbeats 4000000 in
set_option maxRecDepth 100000 in
/-- case 25: put -/
theorem lc_25 (hN : 20000000000 ≤ N) (X : mm_X p s m #[Value.ref b] c cL_law RL wsL_law 4 D (l_ty cI cT cS cZ) t1 t2 (l_A s)) (hX : va_X b L xs s s.heap) (hbl : b < s.heap.size) (hL : L ≤ 3072) (hk : k + 6 ≤ L) (hf : C0 ≤ room_1.cells ∧ S0 ≤ room_1.slots) (R0 : q_R hx hy) (IH : ∀ hx hy, q_R hx hy → l_J p l e s m b below meth c C0 S0 Q D cI cT cS cZ ax ay (hx, hy) 1157 (nI k)) : l_J p l e s m b below meth c C0 S0 Q D cI cT cS cZ ax ay (hx, hy) 928 (nI k) := by
  have hbA : ¬ l_A s b := Nat.not_le.mpr hbl
  obtain ⟨hx1, hy1, r, ex, ey, R1⟩ := j_put (N := N) R0 (xs (nI (k + 1)).toNatClampNeg) (xs (nI (k + 2)).toNatClampNeg) (xs (nI (k + 3)).toNatClampNeg) (xs (nI (k + 4)).toNatClampNeg)
  refine mj_aload_n X dL_law_928 1 rfl ?_
  refine mj_aload_n X dL_law_929 0 rfl ?_
  refine mj_iload_n X dL_law_930 3 rfl ?_
  refine mj_iconst (v := (1 : Int32)) X dL_law_931 (by decide) ?_
  refine mj_iadd X dL_law_932 ?_
  refine mj_topi (l_add 1 k) ?_
  refine lj_sld X hX hbl hbA (vp_in_nI (n := k + 1) (N := L) (by omega) (by omega)) dL_law_933 ?_
  refine mj_aload_n X dL_law_934 0 rfl ?_
  refine mj_iload_n X dL_law_935 3 rfl ?_
  refine mj_iconst (v := (2 : Int32)) X dL_law_936 (by decide) ?_
  refine mj_iadd X dL_law_937 ?_
  refine mj_topi (l_add 2 k) ?_
  refine lj_sld X hX hbl hbA (vp_in_nI (n := k + 2) (N := L) (by omega) (by omega)) dL_law_938 ?_
  refine mj_aload_n X dL_law_939 0 rfl ?_
  refine mj_iload_n X dL_law_940 3 rfl ?_
  refine mj_iconst (v := (3 : Int32)) X dL_law_941 (by decide) ?_
  refine mj_iadd X dL_law_942 ?_
  refine mj_topi (l_add 3 k) ?_
  refine lj_sld X hX hbl hbA (vp_in_nI (n := k + 3) (N := L) (by omega) (by omega)) dL_law_943 ?_
  refine mj_aload_n X dL_law_944 0 rfl ?_
  refine mj_iload_n X dL_law_945 3 rfl ?_
  refine mj_iconst (v := (4 : Int32)) X dL_law_946 (by decide) ?_
  refine mj_iadd X dL_law_947 ?_
  refine mj_topi (l_add 4 k) ?_
  refine lj_sld X hX hbl hbA (vp_in_nI (n := k + 4) (N := L) (by omega) (by omega)) dL_law_948 ?_
  refine lj_li (wl := mx_w cI cT cS ax) (wr := my_w cI cZ ay) (As := [.int (xs (nI (k + 1)).toNatClampNeg), .int (xs (nI (k + 2)).toNatClampNeg), .int (xs (nI (k + 3)).toNatClampNeg), .int (xs (nI (k + 4)).toNatClampNeg)]) (rest := []) X [0, 1, 2] rfl (kX7_put l D t1 t2 cI cT cS ax N hx (xs (nI (k + 1)).toNatClampNeg) (xs (nI (k + 2)).toNatClampNeg) (xs (nI (k + 3)).toNatClampNeg) (xs (nI (k + 4)).toNatClampNeg) hx1 r ex) (cwV 4 X.2.2.2.2.1 gL_law_X7_put rfl rfl rfl (by decide +kernel) ⟨(Nat.le_of_ble_eq_true rfl), (Nat.le_of_ble_eq_true rfl)⟩) (mx_at mx_oX7 hx) rfl rfl rfl rfl (Nat.le_of_ble_eq_true rfl) hf dL_law_949 ?_
  refine mj_aload_n X dL_law_952 2 rfl ?_
  refine mj_aload_n X dL_law_953 0 rfl ?_
  refine mj_iload_n X dL_law_954 3 rfl ?_
  refine mj_iconst (v := (1 : Int32)) X dL_law_955 (by decide) ?_
  refine mj_iadd X dL_law_956 ?_
  refine mj_topi (l_add 1 k) ?_
  refine lj_sld X hX hbl hbA (vp_in_nI (n := k + 1) (N := L) (by omega) (by omega)) dL_law_957 ?_
  refine mj_aload_n X dL_law_958 0 rfl ?_
  refine mj_iload_n X dL_law_959 3 rfl ?_
  refine mj_iconst (v := (2 : Int32)) X dL_law_960 (by decide) ?_
  refine mj_iadd X dL_law_961 ?_
  refine mj_topi (l_add 2 k) ?_
  refine lj_sld X hX hbl hbA (vp_in_nI (n := k + 2) (N := L) (by omega) (by omega)) dL_law_962 ?_
  refine mj_aload_n X dL_law_963 0 rfl ?_
  refine mj_iload_n X dL_law_964 3 rfl ?_
  refine mj_iconst (v := (3 : Int32)) X dL_law_965 (by decide) ?_
  refine mj_iadd X dL_law_966 ?_
  refine mj_topi (l_add 3 k) ?_
  refine lj_sld X hX hbl hbA (vp_in_nI (n := k + 3) (N := L) (by omega) (by omega)) dL_law_967 ?_
  refine mj_aload_n X dL_law_968 0 rfl ?_
  refine mj_iload_n X dL_law_969 3 rfl ?_
  refine mj_iconst (v := (4 : Int32)) X dL_law_970 (by decide) ?_
  refine mj_iadd X dL_law_971 ?_
  refine mj_topi (l_add 4 k) ?_
  refine lj_sld X hX hbl hbA (vp_in_nI (n := k + 4) (N := L) (by omega) (by omega)) dL_law_972 ?_
  refine lj_ri (wl := mx_w cI cT cS ax) (wr := my_w cI cZ ay) (As := [.int (xs (nI (k + 1)).toNatClampNeg), .int (xs (nI (k + 2)).toNatClampNeg), .int (xs (nI (k + 3)).toNatClampNeg), .int (xs (nI (k + 4)).toNatClampNeg)]) (rest := [.int r]) X [0, 3] rfl (kX8_put l D t1 t2 cI cZ ay N hy (xs (nI (k + 1)).toNatClampNeg) (xs (nI (k + 2)).toNatClampNeg) (xs (nI (k + 3)).toNatClampNeg) (xs (nI (k + 4)).toNatClampNeg) hy1 r ey) (cwV 4 X.2.2.2.2.1 gL_law_X8_put rfl rfl rfl (by decide +kernel) ⟨(Nat.le_of_ble_eq_true rfl), (Nat.le_of_ble_eq_true rfl)⟩) (my_at my_oX8 hy) rfl rfl rfl rfl (Nat.le_of_ble_eq_true rfl) hf dL_law_973 ?_
  refine mj_icmp_eq (tgt := 1157) X dL_law_976 (by decide) (fun _ => ?_) (fun c9 => absurd rfl c9)
  exact IH hx1 hy1 R1
set_option maxHeartbeats 4000000 in
set_option maxRecDepth 100000 in
/-- case 26: get -/
theorem lc_26 (hN : 20000000000 ≤ N) (X : mm_X p s m #[Value.ref b] c cL_law RL wsL_law 4 D (l_ty cI cT cS cZ) t1 t2 (l_A s)) (hX : va_X b L xs s s.heap) (hbl : b < s.heap.size) (hL : L ≤ 3072) (hk : k + 6 ≤ L) (hf : C0 ≤ room_1.cells ∧ S0 ≤ room_1.slots) (R0 : q_R hx hy) (IH : ∀ hx hy, q_R hx hy → l_J p l e s m b below meth c C0 S0 Q D cI cT cS cZ ax ay (hx, hy) 1157 (nI k)) : l_J p l e s m b below meth c C0 S0 Q D cI cT cS cZ ax ay (hx, hy) 981 (nI k) := by
  have hbA : ¬ l_A s b := Nat.not_le.mpr hbl
  obtain ⟨hx1, hy1, r, ex, ey, R1⟩ := j_get (N := N) R0 (xs (nI (k + 1)).toNatClampNeg) (xs (nI (k + 2)).toNatClampNeg) (xs (nI (k + 3)).toNatClampNeg)
  refine mj_aload_n X dL_law_981 1 rfl ?_
  refine mj_aload_n X dL_law_982 0 rfl ?_
  refine mj_iload_n X dL_law_983 3 rfl ?_
  refine mj_iconst (v := (1 : Int32)) X dL_law_984 (by decide) ?_
  refine mj_iadd X dL_law_985 ?_
  refine mj_topi (l_add 1 k) ?_
  refine lj_sld X hX hbl hbA (vp_in_nI (n := k + 1) (N := L) (by omega) (by omega)) dL_law_986 ?_
  refine mj_aload_n X dL_law_987 0 rfl ?_
  refine mj_iload_n X dL_law_988 3 rfl ?_
  refine mj_iconst (v := (2 : Int32)) X dL_law_989 (by decide) ?_
  refine mj_iadd X dL_law_990 ?_
  refine mj_topi (l_add 2 k) ?_
  refine lj_sld X hX hbl hbA (vp_in_nI (n := k + 2) (N := L) (by omega) (by omega)) dL_law_991 ?_
  refine mj_aload_n X dL_law_992 0 rfl ?_
  refine mj_iload_n X dL_law_993 3 rfl ?_
  refine mj_iconst (v := (3 : Int32)) X dL_law_994 (by decide) ?_
  refine mj_iadd X dL_law_995 ?_
  refine mj_topi (l_add 3 k) ?_
  refine lj_sld X hX hbl hbA (vp_in_nI (n := k + 3) (N := L) (by omega) (by omega)) dL_law_996 ?_
  refine lj_li (wl := mx_w cI cT cS ax) (wr := my_w cI cZ ay) (As := [.int (xs (nI (k + 1)).toNatClampNeg), .int (xs (nI (k + 2)).toNatClampNeg), .int (xs (nI (k + 3)).toNatClampNeg)]) (rest := []) X [0, 1, 2] rfl (kX7_get l D t1 t2 cI cT cS ax N hx (xs (nI (k + 1)).toNatClampNeg) (xs (nI (k + 2)).toNatClampNeg) (xs (nI (k + 3)).toNatClampNeg) hx1 r ex) (cwV 3 X.2.2.2.2.1 gL_law_X7_get rfl rfl rfl (by decide +kernel) ⟨(Nat.le_of_ble_eq_true rfl), (Nat.le_of_ble_eq_true rfl)⟩) (mx_at mx_oX7 hx) rfl rfl rfl rfl (Nat.le_of_ble_eq_true rfl) hf dL_law_997 ?_
  refine mj_aload_n X dL_law_1000 2 rfl ?_
  refine mj_aload_n X dL_law_1001 0 rfl ?_
  refine mj_iload_n X dL_law_1002 3 rfl ?_
  refine mj_iconst (v := (1 : Int32)) X dL_law_1003 (by decide) ?_
  refine mj_iadd X dL_law_1004 ?_
  refine mj_topi (l_add 1 k) ?_
  refine lj_sld X hX hbl hbA (vp_in_nI (n := k + 1) (N := L) (by omega) (by omega)) dL_law_1005 ?_
  refine mj_aload_n X dL_law_1006 0 rfl ?_
  refine mj_iload_n X dL_law_1007 3 rfl ?_
  refine mj_iconst (v := (2 : Int32)) X dL_law_1008 (by decide) ?_
  refine mj_iadd X dL_law_1009 ?_
  refine mj_topi (l_add 2 k) ?_
  refine lj_sld X hX hbl hbA (vp_in_nI (n := k + 2) (N := L) (by omega) (by omega)) dL_law_1010 ?_
  refine mj_aload_n X dL_law_1011 0 rfl ?_
  refine mj_iload_n X dL_law_1012 3 rfl ?_
  refine mj_iconst (v := (3 : Int32)) X dL_law_1013 (by decide) ?_
  refine mj_iadd X dL_law_1014 ?_
  refine mj_topi (l_add 3 k) ?_
  refine lj_sld X hX hbl hbA (vp_in_nI (n := k + 3) (N := L) (by omega) (by omega)) dL_law_1015 ?_
  refine lj_ri (wl := mx_w cI cT cS ax) (wr := my_w cI cZ ay) (As := [.int (xs (nI (k + 1)).toNatClampNeg), .int (xs (nI (k + 2)).toNatClampNeg), .int (xs (nI (k + 3)).toNatClampNeg)]) (rest := [.int r]) X [0, 3] rfl (kX8_get l D t1 t2 cI cZ ay N hy (xs (nI (k + 1)).toNatClampNeg) (xs (nI (k + 2)).toNatClampNeg) (xs (nI (k + 3)).toNatClampNeg) hy1 r ey) (cwV 3 X.2.2.2.2.1 gL_law_X8_get rfl rfl rfl (by decide +kernel) ⟨(Nat.le_of_ble_eq_true rfl), (Nat.le_of_ble_eq_true rfl)⟩) (my_at my_oX8 hy) rfl rfl rfl rfl (Nat.le_of_ble_eq_true rfl) hf dL_law_1016 ?_
  refine mj_icmp_eq (tgt := 1157) X dL_law_1019 (by decide) (fun _ => ?_) (fun c9 => absurd rfl c9)
  exact IH hx1 hy1 R1
set_option maxHeartbeats 4000000 in
set_option maxRecDepth 100000 in
/-- case 27: copy -/
theorem lc_27 (hN : 20000000000 ≤ N) (X : mm_X p s m #[Value.ref b] c cL_law RL wsL_law 4 D (l_ty cI cT cS cZ) t1 t2 (l_A s)) (hX : va_X b L xs s s.heap) (hbl : b < s.heap.size) (hL : L ≤ 3072) (hk : k + 6 ≤ L) (hf : C0 ≤ room_1.cells ∧ S0 ≤ room_1.slots) (R0 : q_R hx hy) (IH : ∀ hx hy, q_R hx hy → l_J p l e s m b below meth c C0 S0 Q D cI cT cS cZ ax ay (hx, hy) 1157 (nI k)) : l_J p l e s m b below meth c C0 S0 Q D cI cT cS cZ ax ay (hx, hy) 1024 (nI k) := by
  have hbA : ¬ l_A s b := Nat.not_le.mpr hbl
  obtain ⟨hx1, hy1, r, ex, ey, R1⟩ := j_copy (N := N) (by omega) R0 (xs (nI (k + 1)).toNatClampNeg) (xs (nI (k + 2)).toNatClampNeg) (xs (nI (k + 3)).toNatClampNeg) (xs (nI (k + 4)).toNatClampNeg) (xs (nI (k + 5)).toNatClampNeg)
  refine mj_aload_n X dL_law_1024 1 rfl ?_
  refine mj_aload_n X dL_law_1025 0 rfl ?_
  refine mj_iload_n X dL_law_1026 3 rfl ?_
  refine mj_iconst (v := (1 : Int32)) X dL_law_1027 (by decide) ?_
  refine mj_iadd X dL_law_1028 ?_
  refine mj_topi (l_add 1 k) ?_
  refine lj_sld X hX hbl hbA (vp_in_nI (n := k + 1) (N := L) (by omega) (by omega)) dL_law_1029 ?_
  refine mj_aload_n X dL_law_1030 0 rfl ?_
  refine mj_iload_n X dL_law_1031 3 rfl ?_
  refine mj_iconst (v := (2 : Int32)) X dL_law_1032 (by decide) ?_
  refine mj_iadd X dL_law_1033 ?_
  refine mj_topi (l_add 2 k) ?_
  refine lj_sld X hX hbl hbA (vp_in_nI (n := k + 2) (N := L) (by omega) (by omega)) dL_law_1034 ?_
  refine mj_aload_n X dL_law_1035 0 rfl ?_
  refine mj_iload_n X dL_law_1036 3 rfl ?_
  refine mj_iconst (v := (3 : Int32)) X dL_law_1037 (by decide) ?_
  refine mj_iadd X dL_law_1038 ?_
  refine mj_topi (l_add 3 k) ?_
  refine lj_sld X hX hbl hbA (vp_in_nI (n := k + 3) (N := L) (by omega) (by omega)) dL_law_1039 ?_
  refine mj_aload_n X dL_law_1040 0 rfl ?_
  refine mj_iload_n X dL_law_1041 3 rfl ?_
  refine mj_iconst (v := (4 : Int32)) X dL_law_1042 (by decide) ?_
  refine mj_iadd X dL_law_1043 ?_
  refine mj_topi (l_add 4 k) ?_
  refine lj_sld X hX hbl hbA (vp_in_nI (n := k + 4) (N := L) (by omega) (by omega)) dL_law_1044 ?_
  refine mj_aload_n X dL_law_1045 0 rfl ?_
  refine mj_iload_n X dL_law_1046 3 rfl ?_
  refine mj_iconst (v := (5 : Int32)) X dL_law_1047 (by decide) ?_
  refine mj_iadd X dL_law_1048 ?_
  refine mj_topi (l_add 5 k) ?_
  refine lj_sld X hX hbl hbA (vp_in_nI (n := k + 5) (N := L) (by omega) (by omega)) dL_law_1049 ?_
  refine lj_li (wl := mx_w cI cT cS ax) (wr := my_w cI cZ ay) (As := [.int (xs (nI (k + 1)).toNatClampNeg), .int (xs (nI (k + 2)).toNatClampNeg), .int (xs (nI (k + 3)).toNatClampNeg), .int (xs (nI (k + 4)).toNatClampNeg), .int (xs (nI (k + 5)).toNatClampNeg)]) (rest := []) X [0, 1, 2] rfl (kX7_copy l D t1 t2 cI cT cS ax N hx (xs (nI (k + 1)).toNatClampNeg) (xs (nI (k + 2)).toNatClampNeg) (xs (nI (k + 3)).toNatClampNeg) (xs (nI (k + 4)).toNatClampNeg) (xs (nI (k + 5)).toNatClampNeg) hx1 r ex) (cwV 5 X.2.2.2.2.1 gL_law_X7_copy rfl rfl rfl (by decide +kernel) ⟨(Nat.le_of_ble_eq_true rfl), (Nat.le_of_ble_eq_true rfl)⟩) (mx_at mx_oX7 hx) rfl rfl rfl rfl (Nat.le_of_ble_eq_true rfl) hf dL_law_1050 ?_
  refine mj_aload_n X dL_law_1053 2 rfl ?_
  refine mj_aload_n X dL_law_1054 0 rfl ?_
  refine mj_iload_n X dL_law_1055 3 rfl ?_
  refine mj_iconst (v := (1 : Int32)) X dL_law_1056 (by decide) ?_
  refine mj_iadd X dL_law_1057 ?_
  refine mj_topi (l_add 1 k) ?_
  refine lj_sld X hX hbl hbA (vp_in_nI (n := k + 1) (N := L) (by omega) (by omega)) dL_law_1058 ?_
  refine mj_aload_n X dL_law_1059 0 rfl ?_
  refine mj_iload_n X dL_law_1060 3 rfl ?_
  refine mj_iconst (v := (2 : Int32)) X dL_law_1061 (by decide) ?_
  refine mj_iadd X dL_law_1062 ?_
  refine mj_topi (l_add 2 k) ?_
  refine lj_sld X hX hbl hbA (vp_in_nI (n := k + 2) (N := L) (by omega) (by omega)) dL_law_1063 ?_
  refine mj_aload_n X dL_law_1064 0 rfl ?_
  refine mj_iload_n X dL_law_1065 3 rfl ?_
  refine mj_iconst (v := (3 : Int32)) X dL_law_1066 (by decide) ?_
  refine mj_iadd X dL_law_1067 ?_
  refine mj_topi (l_add 3 k) ?_
  refine lj_sld X hX hbl hbA (vp_in_nI (n := k + 3) (N := L) (by omega) (by omega)) dL_law_1068 ?_
  refine mj_aload_n X dL_law_1069 0 rfl ?_
  refine mj_iload_n X dL_law_1070 3 rfl ?_
  refine mj_iconst (v := (4 : Int32)) X dL_law_1071 (by decide) ?_
  refine mj_iadd X dL_law_1072 ?_
  refine mj_topi (l_add 4 k) ?_
  refine lj_sld X hX hbl hbA (vp_in_nI (n := k + 4) (N := L) (by omega) (by omega)) dL_law_1073 ?_
  refine mj_aload_n X dL_law_1074 0 rfl ?_
  refine mj_iload_n X dL_law_1075 3 rfl ?_
  refine mj_iconst (v := (5 : Int32)) X dL_law_1076 (by decide) ?_
  refine mj_iadd X dL_law_1077 ?_
  refine mj_topi (l_add 5 k) ?_
  refine lj_sld X hX hbl hbA (vp_in_nI (n := k + 5) (N := L) (by omega) (by omega)) dL_law_1078 ?_
  refine lj_ri (wl := mx_w cI cT cS ax) (wr := my_w cI cZ ay) (As := [.int (xs (nI (k + 1)).toNatClampNeg), .int (xs (nI (k + 2)).toNatClampNeg), .int (xs (nI (k + 3)).toNatClampNeg), .int (xs (nI (k + 4)).toNatClampNeg), .int (xs (nI (k + 5)).toNatClampNeg)]) (rest := [.int r]) X [0, 3] rfl (kX8_copy l D t1 t2 cI cZ ay N hy (xs (nI (k + 1)).toNatClampNeg) (xs (nI (k + 2)).toNatClampNeg) (xs (nI (k + 3)).toNatClampNeg) (xs (nI (k + 4)).toNatClampNeg) (xs (nI (k + 5)).toNatClampNeg) hy1 r ey) (cwV 5 X.2.2.2.2.1 gL_law_X8_copy rfl rfl rfl (by decide +kernel) ⟨(Nat.le_of_ble_eq_true rfl), (Nat.le_of_ble_eq_true rfl)⟩) (my_at my_oX8 hy) rfl rfl rfl rfl (Nat.le_of_ble_eq_true rfl) hf dL_law_1079 ?_
  refine mj_icmp_eq (tgt := 1157) X dL_law_1082 (by decide) (fun _ => ?_) (fun c9 => absurd rfl c9)
  exact IH hx1 hy1 R1
set_option maxHeartbeats 4000000 in
set_option maxRecDepth 100000 in
/-- case 28: write -/
theorem lc_28 (hN : 20000000000 ≤ N) (X : mm_X p s m #[Value.ref b] c cL_law RL wsL_law 4 D (l_ty cI cT cS cZ) t1 t2 (l_A s)) (hX : va_X b L xs s s.heap) (hbl : b < s.heap.size) (hL : L ≤ 3072) (hk : k + 6 ≤ L) (hf : C0 ≤ room_1.cells ∧ S0 ≤ room_1.slots) (R0 : q_R hx hy) (IH : ∀ hx hy, q_R hx hy → l_J p l e s m b below meth c C0 S0 Q D cI cT cS cZ ax ay (hx, hy) 1157 (nI k)) : l_J p l e s m b below meth c C0 S0 Q D cI cT cS cZ ax ay (hx, hy) 1087 (nI k) := by
  have hbA : ¬ l_A s b := Nat.not_le.mpr hbl
  obtain ⟨hx1, hy1, r, ex, ey, R1⟩ := j_write (N := N) (by omega) R0 (xs (nI (k + 1)).toNatClampNeg) (xs (nI (k + 2)).toNatClampNeg)
  refine mj_aload_n X dL_law_1087 1 rfl ?_
  refine mj_aload_n X dL_law_1088 0 rfl ?_
  refine mj_iload_n X dL_law_1089 3 rfl ?_
  refine mj_iconst (v := (1 : Int32)) X dL_law_1090 (by decide) ?_
  refine mj_iadd X dL_law_1091 ?_
  refine mj_topi (l_add 1 k) ?_
  refine lj_sld X hX hbl hbA (vp_in_nI (n := k + 1) (N := L) (by omega) (by omega)) dL_law_1092 ?_
  refine mj_aload_n X dL_law_1093 0 rfl ?_
  refine mj_iload_n X dL_law_1094 3 rfl ?_
  refine mj_iconst (v := (2 : Int32)) X dL_law_1095 (by decide) ?_
  refine mj_iadd X dL_law_1096 ?_
  refine mj_topi (l_add 2 k) ?_
  refine lj_sld X hX hbl hbA (vp_in_nI (n := k + 2) (N := L) (by omega) (by omega)) dL_law_1097 ?_
  refine lj_li (wl := mx_w cI cT cS ax) (wr := my_w cI cZ ay) (As := [.int (xs (nI (k + 1)).toNatClampNeg), .int (xs (nI (k + 2)).toNatClampNeg)]) (rest := []) X [0, 1, 2] rfl (kX7_write l D t1 t2 cI cT cS ax N hx (xs (nI (k + 1)).toNatClampNeg) (xs (nI (k + 2)).toNatClampNeg) hx1 r ex) (cwV 2 X.2.2.2.2.1 gL_law_X7_write rfl rfl rfl (by decide +kernel) ⟨(Nat.le_of_ble_eq_true rfl), (Nat.le_of_ble_eq_true rfl)⟩) (mx_at mx_oX7 hx) rfl rfl rfl rfl (Nat.le_of_ble_eq_true rfl) hf dL_law_1098 ?_
  refine mj_aload_n X dL_law_1101 2 rfl ?_
  refine mj_aload_n X dL_law_1102 0 rfl ?_
  refine mj_iload_n X dL_law_1103 3 rfl ?_
  refine mj_iconst (v := (1 : Int32)) X dL_law_1104 (by decide) ?_
  refine mj_iadd X dL_law_1105 ?_
  refine mj_topi (l_add 1 k) ?_
  refine lj_sld X hX hbl hbA (vp_in_nI (n := k + 1) (N := L) (by omega) (by omega)) dL_law_1106 ?_
  refine mj_aload_n X dL_law_1107 0 rfl ?_
  refine mj_iload_n X dL_law_1108 3 rfl ?_
  refine mj_iconst (v := (2 : Int32)) X dL_law_1109 (by decide) ?_
  refine mj_iadd X dL_law_1110 ?_
  refine mj_topi (l_add 2 k) ?_
  refine lj_sld X hX hbl hbA (vp_in_nI (n := k + 2) (N := L) (by omega) (by omega)) dL_law_1111 ?_
  refine lj_ri (wl := mx_w cI cT cS ax) (wr := my_w cI cZ ay) (As := [.int (xs (nI (k + 1)).toNatClampNeg), .int (xs (nI (k + 2)).toNatClampNeg)]) (rest := [.int r]) X [0, 3] rfl (kX8_write l D t1 t2 cI cZ ay N hy (xs (nI (k + 1)).toNatClampNeg) (xs (nI (k + 2)).toNatClampNeg) hy1 r ey) (cwV 2 X.2.2.2.2.1 gL_law_X8_write rfl rfl rfl (by decide +kernel) ⟨(Nat.le_of_ble_eq_true rfl), (Nat.le_of_ble_eq_true rfl)⟩) (my_at my_oX8 hy) rfl rfl rfl rfl (Nat.le_of_ble_eq_true rfl) hf dL_law_1112 ?_
  refine mj_icmp_eq (tgt := 1157) X dL_law_1115 (by decide) (fun _ => ?_) (fun c9 => absurd rfl c9)
  exact IH hx1 hy1 R1
set_option maxHeartbeats 4000000 in
set_option maxRecDepth 100000 in
/-- case 29: count -/
theorem lc_29 (hN : 20000000000 ≤ N) (X : mm_X p s m #[Value.ref b] c cL_law RL wsL_law 4 D (l_ty cI cT cS cZ) t1 t2 (l_A s)) (hX : va_X b L xs s s.heap) (hbl : b < s.heap.size) (hL : L ≤ 3072) (hk : k + 6 ≤ L) (hf : C0 ≤ room_1.cells ∧ S0 ≤ room_1.slots) (R0 : q_R hx hy) (IH : ∀ hx hy, q_R hx hy → l_J p l e s m b below meth c C0 S0 Q D cI cT cS cZ ax ay (hx, hy) 1157 (nI k)) : l_J p l e s m b below meth c C0 S0 Q D cI cT cS cZ ax ay (hx, hy) 1120 (nI k) := by
  have hbA : ¬ l_A s b := Nat.not_le.mpr hbl
  obtain ⟨hx1, hy1, r, ex, ey, R1⟩ := j_count (N := N) (by omega) R0 (xs (nI (k + 1)).toNatClampNeg)
  refine mj_aload_n X dL_law_1120 1 rfl ?_
  refine mj_aload_n X dL_law_1121 0 rfl ?_
  refine mj_iload_n X dL_law_1122 3 rfl ?_
  refine mj_iconst (v := (1 : Int32)) X dL_law_1123 (by decide) ?_
  refine mj_iadd X dL_law_1124 ?_
  refine mj_topi (l_add 1 k) ?_
  refine lj_sld X hX hbl hbA (vp_in_nI (n := k + 1) (N := L) (by omega) (by omega)) dL_law_1125 ?_
  refine lj_li (wl := mx_w cI cT cS ax) (wr := my_w cI cZ ay) (As := [.int (xs (nI (k + 1)).toNatClampNeg)]) (rest := []) X [0, 1, 2] rfl (kX7_count l D t1 t2 cI cT cS ax N hx (xs (nI (k + 1)).toNatClampNeg) hx1 r ex) (cwV 1 X.2.2.2.2.1 gL_law_X7_count rfl rfl rfl (by decide +kernel) ⟨(Nat.le_of_ble_eq_true rfl), (Nat.le_of_ble_eq_true rfl)⟩) (mx_at mx_oX7 hx) rfl rfl rfl rfl (Nat.le_of_ble_eq_true rfl) hf dL_law_1126 ?_
  refine mj_aload_n X dL_law_1129 2 rfl ?_
  refine mj_aload_n X dL_law_1130 0 rfl ?_
  refine mj_iload_n X dL_law_1131 3 rfl ?_
  refine mj_iconst (v := (1 : Int32)) X dL_law_1132 (by decide) ?_
  refine mj_iadd X dL_law_1133 ?_
  refine mj_topi (l_add 1 k) ?_
  refine lj_sld X hX hbl hbA (vp_in_nI (n := k + 1) (N := L) (by omega) (by omega)) dL_law_1134 ?_
  refine lj_ri (wl := mx_w cI cT cS ax) (wr := my_w cI cZ ay) (As := [.int (xs (nI (k + 1)).toNatClampNeg)]) (rest := [.int r]) X [0, 3] rfl (kX8_count l D t1 t2 cI cZ ay N hy (xs (nI (k + 1)).toNatClampNeg) hy1 r ey) (cwV 1 X.2.2.2.2.1 gL_law_X8_count rfl rfl rfl (by decide +kernel) ⟨(Nat.le_of_ble_eq_true rfl), (Nat.le_of_ble_eq_true rfl)⟩) (my_at my_oX8 hy) rfl rfl rfl rfl (Nat.le_of_ble_eq_true rfl) hf dL_law_1135 ?_
  refine mj_icmp_eq (tgt := 1157) X dL_law_1138 (by decide) (fun _ => ?_) (fun c9 => absurd rfl c9)
  exact IH hx1 hy1 R1
set_option maxHeartbeats 4000000 in
set_option maxRecDepth 100000 in
/-- case 30: digest -/
theorem lc_30 (hN : 20000000000 ≤ N) (X : mm_X p s m #[Value.ref b] c cL_law RL wsL_law 4 D (l_ty cI cT cS cZ) t1 t2 (l_A s)) (hX : va_X b L xs s s.heap) (hbl : b < s.heap.size) (hL : L ≤ 3072) (hk : k + 6 ≤ L) (hf : C0 ≤ room_1.cells ∧ S0 ≤ room_1.slots) (R0 : q_R hx hy) (IH : ∀ hx hy, q_R hx hy → l_J p l e s m b below meth c C0 S0 Q D cI cT cS cZ ax ay (hx, hy) 1157 (nI k)) : l_J p l e s m b below meth c C0 S0 Q D cI cT cS cZ ax ay (hx, hy) 1143 (nI k) := by
  have hbA : ¬ l_A s b := Nat.not_le.mpr hbl
  obtain ⟨hx1, hy1, r, ex, ey, R1⟩ := j_digest hN R0
  refine mj_aload_n X dL_law_1143 1 rfl ?_
  refine lj_ll (wl := mx_w cI cT cS ax) (wr := my_w cI cZ ay) (As := []) (rest := []) X [0, 1, 2] rfl (kX7_digest l D t1 t2 cI cT cS ax N hx hx1 r ex) (cwV 0 X.2.2.2.2.1 gL_law_X7_digest rfl rfl rfl (by decide +kernel) ⟨(Nat.le_of_ble_eq_true rfl), (Nat.le_of_ble_eq_true rfl)⟩) (mx_at mx_oX7 hx) rfl rfl rfl rfl (Nat.le_of_ble_eq_true rfl) hf dL_law_1144 ?_
  refine mj_aload_n X dL_law_1147 2 rfl ?_
  refine lj_rl (wl := mx_w cI cT cS ax) (wr := my_w cI cZ ay) (As := []) (rest := [.long r]) X [0, 3] rfl (kX8_digest l D t1 t2 cI cZ ay N hy hy1 r ey) (cwV 0 X.2.2.2.2.1 gL_law_X8_digest rfl rfl rfl (by decide +kernel) ⟨(Nat.le_of_ble_eq_true rfl), (Nat.le_of_ble_eq_true rfl)⟩) (my_at my_oX8 hy) rfl rfl rfl rfl (Nat.le_of_ble_eq_true rfl) hf dL_law_1148 ?_
  refine mj_lcmp X dL_law_1151 ?_
  refine mj_if_eq (tgt := 1157) X dL_law_1152 (by decide) (fun _ => ?_) (fun c9 => absurd (l_cmp r) c9)
  exact IH hx1 hy1 R1
end LC3
