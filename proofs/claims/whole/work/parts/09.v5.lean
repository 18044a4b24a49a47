section LC4
variable {p : Program} {l : Launch} {e : Env} {s : State} {m : MethodId} {b : Nat} {below : List Frame} {meth : Method} {c : Code} {C0 S0 : Nat} {Q : State → Prop} {D : va_G} {cI cT cS cZ : ClassId} {ax ay : Nat → Nat} {t1 t2 L N k : Nat} {xs : Nat → Int32} {hx hy : mm_M}
set_option maxHeartbeats 8000000 in
set_option maxRecDepth 100000 in
/-- the switch: whatever the int, a case or the default -/
theorem l_switch (hN : 20000000000 ≤ N) (X : mm_X p s m #[Value.ref b] c cL_law RL wsL_law 4 D (l_ty cI cT cS cZ) t1 t2 (l_A s)) (hX : va_X b L xs s s.heap) (hbl : b < s.heap.size) (hL : L ≤ 3072) (hk : k + 6 ≤ L) (hf : C0 ≤ room_1.cells ∧ S0 ≤ room_1.slots) (R0 : q_R hx hy) (IH : ∀ hx hy, q_R hx hy → l_J p l e s m b below meth c C0 S0 Q D cI cT cS cZ ax ay (hx, hy) 1157 (nI k)) (x : Int32) : mm_J p l e room_1 s m #[Value.ref b] below meth c C0 S0 Q D (l_w cI cT cS cZ ax ay) (l_A s) 4 (hx, hy) 33 [(0, .ref b), (1, .ref (ax 0)), (2, .ref (ay 0)), (3, .int (nI k))] [.int x] := by
  by_cases c0 : x = 0
  · refine mj_tableIn (tgt := 172) (off := 139) X dL_law_33 (by rw [c0]; decide) (by rw [c0]; decide) (by rw [c0]; decide) (by decide) ?_
    exact lc_0 hN X hX hbl hL hk hf R0 IH
  by_cases c1 : x = 1
  · refine mj_tableIn (tgt := 205) (off := 172) X dL_law_33 (by rw [c1]; decide) (by rw [c1]; decide) (by rw [c1]; decide) (by decide) ?_
    exact lc_1 hN X hX hbl hL hk hf R0 IH
  by_cases c2 : x = 2
  · refine mj_tableIn (tgt := 228) (off := 195) X dL_law_33 (by rw [c2]; decide) (by rw [c2]; decide) (by rw [c2]; decide) (by decide) ?_
    exact lc_2 hN X hX hbl hL hk hf R0 IH
  by_cases c3 : x = 3
  · refine mj_tableIn (tgt := 251) (off := 218) X dL_law_33 (by rw [c3]; decide) (by rw [c3]; decide) (by rw [c3]; decide) (by decide) ?_
    exact lc_3 hN X hX hbl hL hk hf R0 IH
  by_cases c4 : x = 4
  · refine mj_tableIn (tgt := 284) (off := 251) X dL_law_33 (by rw [c4]; decide) (by rw [c4]; decide) (by rw [c4]; decide) (by decide) ?_
    exact lc_4 hN X hX hbl hL hk hf R0 IH
  by_cases c5 : x = 5
  · refine mj_tableIn (tgt := 317) (off := 284) X dL_law_33 (by rw [c5]; decide) (by rw [c5]; decide) (by rw [c5]; decide) (by decide) ?_
    exact lc_5 hN X hX hbl hL hk hf R0 IH
  by_cases c6 : x = 6
  · refine mj_tableIn (tgt := 350) (off := 317) X dL_law_33 (by rw [c6]; decide) (by rw [c6]; decide) (by rw [c6]; decide) (by decide) ?_
    exact lc_6 hN X hX hbl hL hk hf R0 IH
  by_cases c7 : x = 7
  · refine mj_tableIn (tgt := 383) (off := 350) X dL_law_33 (by rw [c7]; decide) (by rw [c7]; decide) (by rw [c7]; decide) (by decide) ?_
    exact lc_7 hN X hX hbl hL hk hf R0 IH
  by_cases c8 : x = 8
  · refine mj_tableIn (tgt := 406) (off := 373) X dL_law_33 (by rw [c8]; decide) (by rw [c8]; decide) (by rw [c8]; decide) (by decide) ?_
    exact lc_8 hN X hX hbl hL hk hf R0 IH
  by_cases c9 : x = 9
  · refine mj_tableIn (tgt := 439) (off := 406) X dL_law_33 (by rw [c9]; decide) (by rw [c9]; decide) (by rw [c9]; decide) (by decide) ?_
    exact lc_9 hN X hX hbl hL hk hf R0 IH
  by_cases c10 : x = 10
  · refine mj_tableIn (tgt := 482) (off := 449) X dL_law_33 (by rw [c10]; decide) (by rw [c10]; decide) (by rw [c10]; decide) (by decide) ?_
    exact lc_10 hN X hX hbl hL hk hf R0 IH
  by_cases c11 : x = 11
  · refine mj_tableIn (tgt := 515) (off := 482) X dL_law_33 (by rw [c11]; decide) (by rw [c11]; decide) (by rw [c11]; decide) (by decide) ?_
    exact lc_11 hN X hX hbl hL hk hf R0 IH
  by_cases c12 : x = 12
  · refine mj_tableIn (tgt := 548) (off := 515) X dL_law_33 (by rw [c12]; decide) (by rw [c12]; decide) (by rw [c12]; decide) (by decide) ?_
    exact lc_12 hN X hX hbl hL hk hf R0 IH
  by_cases c13 : x = 13
  · refine mj_tableIn (tgt := 561) (off := 528) X dL_law_33 (by rw [c13]; decide) (by rw [c13]; decide) (by rw [c13]; decide) (by decide) ?_
    exact lc_13 hN X hX hbl hL hk hf R0 IH
  by_cases c14 : x = 14
  · refine mj_tableIn (tgt := 604) (off := 571) X dL_law_33 (by rw [c14]; decide) (by rw [c14]; decide) (by rw [c14]; decide) (by decide) ?_
    exact lc_14 hN X hX hbl hL hk hf R0 IH
  by_cases c15 : x = 15
  · refine mj_tableIn (tgt := 627) (off := 594) X dL_law_33 (by rw [c15]; decide) (by rw [c15]; decide) (by rw [c15]; decide) (by decide) ?_
    exact lc_15 hN X hX hbl hL hk hf R0 IH
  by_cases c16 : x = 16
  · refine mj_tableIn (tgt := 660) (off := 627) X dL_law_33 (by rw [c16]; decide) (by rw [c16]; decide) (by rw [c16]; decide) (by decide) ?_
    exact lc_16 hN X hX hbl hL hk hf R0 IH
  by_cases c17 : x = 17
  · refine mj_tableIn (tgt := 673) (off := 640) X dL_law_33 (by rw [c17]; decide) (by rw [c17]; decide) (by rw [c17]; decide) (by decide) ?_
    exact lc_17 hN X hX hbl hL hk hf R0 IH
  by_cases c18 : x = 18
  · refine mj_tableIn (tgt := 716) (off := 683) X dL_law_33 (by rw [c18]; decide) (by rw [c18]; decide) (by rw [c18]; decide) (by decide) ?_
    exact lc_18 hN X hX hbl hL hk hf R0 IH
  by_cases c19 : x = 19
  · refine mj_tableIn (tgt := 759) (off := 726) X dL_law_33 (by rw [c19]; decide) (by rw [c19]; decide) (by rw [c19]; decide) (by decide) ?_
    exact lc_19 hN X hX hbl hL hk hf R0 IH
  by_cases c20 : x = 20
  · refine mj_tableIn (tgt := 772) (off := 739) X dL_law_33 (by rw [c20]; decide) (by rw [c20]; decide) (by rw [c20]; decide) (by decide) ?_
    exact lc_20 hN X hX hbl hL hk hf R0 IH
  by_cases c21 : x = 21
  · refine mj_tableIn (tgt := 785) (off := 752) X dL_law_33 (by rw [c21]; decide) (by rw [c21]; decide) (by rw [c21]; decide) (by decide) ?_
    exact lc_21 hN X hX hbl hL hk hf R0 IH
  by_cases c22 : x = 22
  · refine mj_tableIn (tgt := 808) (off := 775) X dL_law_33 (by rw [c22]; decide) (by rw [c22]; decide) (by rw [c22]; decide) (by decide) ?_
    exact lc_22 hN X hX hbl hL hk hf R0 IH
  by_cases c23 : x = 23
  · refine mj_tableIn (tgt := 862) (off := 829) X dL_law_33 (by rw [c23]; decide) (by rw [c23]; decide) (by rw [c23]; decide) (by decide) ?_
    exact lc_23 hN X hX hbl hL hk hf R0 IH
  by_cases c24 : x = 24
  · refine mj_tableIn (tgt := 905) (off := 872) X dL_law_33 (by rw [c24]; decide) (by rw [c24]; decide) (by rw [c24]; decide) (by decide) ?_
    exact lc_24 hN X hX hbl hL hk hf R0 IH
  by_cases c25 : x = 25
  · refine mj_tableIn (tgt := 928) (off := 895) X dL_law_33 (by rw [c25]; decide) (by rw [c25]; decide) (by rw [c25]; decide) (by decide) ?_
    exact lc_25 hN X hX hbl hL hk hf R0 IH
  by_cases c26 : x = 26
  · refine mj_tableIn (tgt := 981) (off := 948) X dL_law_33 (by rw [c26]; decide) (by rw [c26]; decide) (by rw [c26]; decide) (by decide) ?_
    exact lc_26 hN X hX hbl hL hk hf R0 IH
  by_cases c27 : x = 27
  · refine mj_tableIn (tgt := 1024) (off := 991) X dL_law_33 (by rw [c27]; decide) (by rw [c27]; decide) (by rw [c27]; decide) (by decide) ?_
    exact lc_27 hN X hX hbl hL hk hf R0 IH
  by_cases c28 : x = 28
  · refine mj_tableIn (tgt := 1087) (off := 1054) X dL_law_33 (by rw [c28]; decide) (by rw [c28]; decide) (by rw [c28]; decide) (by decide) ?_
    exact lc_28 hN X hX hbl hL hk hf R0 IH
  by_cases c29 : x = 29
  · refine mj_tableIn (tgt := 1120) (off := 1087) X dL_law_33 (by rw [c29]; decide) (by rw [c29]; decide) (by rw [c29]; decide) (by decide) ?_
    exact lc_29 hN X hX hbl hL hk hf R0 IH
  by_cases c30 : x = 30
  · refine mj_tableIn (tgt := 1143) (off := 1110) X dL_law_33 (by rw [c30]; decide) (by rw [c30]; decide) (by rw [c30]; decide) (by decide) ?_
    exact lc_30 hN X hX hbl hL hk hf R0 IH
  refine mj_tableOut (tgt := 1157) X dL_law_33 (mm_tout (by intro j h1 h2; rcases (show j = 0 ∨ j = 1 ∨ j = 2 ∨ j = 3 ∨ j = 4 ∨ j = 5 ∨ j = 6 ∨ j = 7 ∨ j = 8 ∨ j = 9 ∨ j = 10 ∨ j = 11 ∨ j = 12 ∨ j = 13 ∨ j = 14 ∨ j = 15 ∨ j = 16 ∨ j = 17 ∨ j = 18 ∨ j = 19 ∨ j = 20 ∨ j = 21 ∨ j = 22 ∨ j = 23 ∨ j = 24 ∨ j = 25 ∨ j = 26 ∨ j = 27 ∨ j = 28 ∨ j = 29 ∨ j = 30 by omega) with rfl | rfl | rfl | rfl | rfl | rfl | rfl | rfl | rfl | rfl | rfl | rfl | rfl | rfl | rfl | rfl | rfl | rfl | rfl | rfl | rfl | rfl | rfl | rfl | rfl | rfl | rfl | rfl | rfl | rfl | rfl; exact lv_neT c0 (by decide); exact lv_neT c1 (by decide); exact lv_neT c2 (by decide); exact lv_neT c3 (by decide); exact lv_neT c4 (by decide); exact lv_neT c5 (by decide); exact lv_neT c6 (by decide); exact lv_neT c7 (by decide); exact lv_neT c8 (by decide); exact lv_neT c9 (by decide); exact lv_neT c10 (by decide); exact lv_neT c11 (by decide); exact lv_neT c12 (by decide); exact lv_neT c13 (by decide); exact lv_neT c14 (by decide); exact lv_neT c15 (by decide); exact lv_neT c16 (by decide); exact lv_neT c17 (by decide); exact lv_neT c18 (by decide); exact lv_neT c19 (by decide); exact lv_neT c20 (by decide); exact lv_neT c21 (by decide); exact lv_neT c22 (by decide); exact lv_neT c23 (by decide); exact lv_neT c24 (by decide); exact lv_neT c25 (by decide); exact lv_neT c26 (by decide); exact lv_neT c27 (by decide); exact lv_neT c28 (by decide); exact lv_neT c29 (by decide); exact lv_neT c30 (by decide))) (by decide) ?_
  exact IH hx hy R0
end LC4
