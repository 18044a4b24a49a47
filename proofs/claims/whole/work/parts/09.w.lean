/-! THE LAW'S LOOP -/
theorem l_le6 : ∀ L, L < 6 → ∀ k, k < 6 → nI L - 6 < nI k := by decide +kernel
theorem l_le {k L : Nat} (hk : k ≤ L) (hL : L ≤ 3072) (h : ¬ nI L - 6 < nI k) : k + 6 ≤ L := by
  rcases Nat.lt_or_ge L 6 with q | q
  · exact absurd (l_le6 L q k (by omega)) h
  · rcases Nat.lt_or_ge (L - 6) k with q2 | q2
    · refine absurd ?_ h
      have e : nI L - 6 = nI (L - 6) := by
        have e1 : nI (L - 6) + 6 = nI L := by
          have := nI_add (L - 6) 6
          rw [show L - 6 + 6 = L by omega] at this
          exact this
        rw [← e1, Int32.add_sub_cancel]
      rw [e]
      exact nI_lt q2 (by omega)
    · omega
section LLP
variable {p : Program} {l : Launch} {e : Env} {s : State} {m : MethodId} {b : Nat} {below : List Frame} {meth : Method} {c : Code} {C0 S0 : Nat} {D : va_G} {cI cT cS cZ : ClassId} {ax ay : Nat → Nat} {t1 t2 L N : Nat} {xs : Nat → Int32}
set_option maxHeartbeats 4000000 in
set_option maxRecDepth 100000 in
theorem l_loop (hN : 20000000000 ≤ N) (X : mm_X p s m #[Value.ref b] c cL_law RL wsL_law 4 D (l_ty cI cT cS cZ) t1 t2 (l_A s)) (hr : meth.sig.returnType = ret) (hlocks : meth.locks = false) (hX : va_X b L xs s s.heap) (hbl : b < s.heap.size) (hL : L ≤ 3072) (hf : C0 ≤ room_1.cells ∧ S0 ≤ room_1.slots) :
    ∀ (n k : Nat) (hx hy : mm_M), k ≤ L → L + 1 ≤ k + n → q_R hx hy → l_J p l e s m b below meth c C0 S0 (lw_Z below #[Value.ref b] s) D cI cT cS cZ ax ay (hx, hy) 18 (nI k) := by
  have hbA : ¬ l_A s b := Nat.not_le.mpr hbl
  intro n
  induction n with
  | zero =>
    intro k hx hy h1 h2
    exact absurd h2 (by omega)
  | succ n ih =>
    intro k hx hy hkL hn R0
    refine mj_iload_n X dL_law_18 3 rfl ?_
    refine mj_aload_n X dL_law_19 0 rfl ?_
    refine lj_slen X hX hbl hbA dL_law_20 ?_
    refine mj_bipush (v := (6 : Int32)) X dL_law_21 (by decide) ?_
    refine mj_isub X dL_law_23 ?_
    refine mj_icmp_gt (tgt := 1163) X dL_law_24 (by decide) (fun _ => ?_) (fun c9 => ?_)
    · refine mj_iconst (v := (1 : Int32)) X dL_law_1163 (by decide) ?_
      intro H locs ls a bb d f
      exact va_forget (fun q hq => d.2.2 q hq) (W.widen (k := 600000) (n := 7302250) hf.1 hf.2 (lw_ret X.1 X.2.1 hr hlocks dL_law_1164))
    · have hk : k + 6 ≤ L := l_le hkL hL c9
      refine mj_aload_n X dL_law_27 0 rfl ?_
      refine mj_iload_n X dL_law_28 3 rfl ?_
      refine lj_sld X hX hbl hbA (vp_in_nI (n := k) (N := L) (by omega) (by omega)) dL_law_29 ?_
      refine mj_bipush (v := (31 : Int32)) X dL_law_30 (by decide) ?_
      refine mj_iand X dL_law_32 ?_
      refine l_switch hN X hX hbl hL hk hf R0 (fun hx hy R1 => ?_) _
      refine mj_iinc (v := nI (k + 6)) (lo' := [(3, .int (nI (k + 6))), (0, .ref b), (1, .ref (ax 0)), (2, .ref (ay 0))]) (k := 3) X dL_law_1157 rfl (by rw [l_add 6 k, show nI 6 = Int32.ofInt 6 from by decide]) (by decide) rfl ?_
      refine mj_goto (tgt := 18) X dL_law_1160 (by decide) ?_
      refine mj_sub [1, 2, 3, 0] rfl ?_
      exact ih (k + 6) hx hy hk (by omega) R1
end LLP
