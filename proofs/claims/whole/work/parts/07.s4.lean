/-! PURE 12d: both at once; sheets -/
section Q12d
variable {N : Nat} {hx hy : mm_M}
abbrev q_cS : List Nat := [0, 34, 35, 36, 37, 38, 39, 40, 41]
abbrev q_cT : List Nat := [0, 20, 21, 22, 23, 24]
theorem q_R.sheets (R : q_R hx hy) : q_Sh hx hy := by
  obtain ⟨l0, l1, b0, b1, law, ti, ho, wo, ns, sr, sp, sv, u1, u2, u3, u4, u5, u6⟩ := R
  exact u6
theorem q_R.sh (R : q_R hx hy) {hx' hy' : mm_M} (f : q_fr q_cS hx hx') (g : q_fr q_cT hy hy') (g0 : hy' 0 19 = hy 0 19) (S : q_Sh hx' hy') : q_R hx' hy' := by
  obtain ⟨l0, l1, b0, b1, law, ti, ho, wo, ns, sr, sp, sv, u1, u2, u3, u4, u5, u6⟩ := R
  refine ⟨l0, l1, b0, b1, law, ti, ho, wo, ns, sr, sp, sv, u1.fr f (by decide), u2.fr2 f (by decide), u3.eq (g 1 (by decide)) (g 2 (by decide)), ?_, ?_, S⟩
  · unfold q_QY at *
    rw [g 6 (by decide), g 7 (by decide), g 8 (by decide)]
    exact ⟨rfl, rfl, u4.2.2⟩
  · unfold q_SeY at *
    rw [g0, g 17 (by decide), g 18 (by decide), g 19 (by decide)]
    exact u5
theorem q_m34 {s : Nat} (hs : s < 4) : 34 + s ∈ q_cS ∧ 38 + s ∈ q_cS := by
  have : s = 0 ∨ s = 1 ∨ s = 2 ∨ s = 3 := by omega
  rcases this with rfl | rfl | rfl | rfl <;> simp
/-- of one sheet something has changed -/
theorem q_Sh.one {hx' hy' : mm_M} (S : q_Sh hx hy) {s : Nat} (h0 : hx' 0 7 = hy' 0 28) (fx : ∀ c, 34 ≤ c → c ≠ 34 + s → c ≠ 38 + s → hx' c = hx c)
    (fy : ∀ t, t < 4 → t ≠ s → hy' 20 t = hy 20 t ∧ hy' 21 t = hy 21 t ∧ hy' 22 t = hy 22 t ∧ ∀ i, i < 48 → hy' 23 (48 * t + i) = hy 23 (48 * t + i))
    (nw : hx' (34 + s) 1 = hy' 21 s ∧ hx' (34 + s) 2 = hy' 22 s ∧ ((hx' (34 + s) 3 = 0 ∧ hy' 20 s = 1) ∨ (hx' (34 + s) 3 = 1 ∧ hy' 20 s = 0)) ∧ (∃ m, m ≤ 48 ∧ hy' 22 s = nI m) ∧ ∀ i, i < 48 → hx' (38 + s) i = hy' 23 (48 * s + i)) (hs : s < 4) : q_Sh hx' hy' := by
  refine ⟨h0, ?_⟩
  intro t ht
  by_cases e : t = s
  · subst e; exact nw
  · obtain ⟨y1, y2, y3, y4⟩ := fy t ht e
    have o := S.2 t ht
    rw [fx (34 + t) (by omega) (by omega) (by omega), fx (38 + t) (by omega) (by omega) (by omega), y1, y2, y3]
    refine ⟨o.1, o.2.1, o.2.2.1, o.2.2.2.1, fun i hi => ?_⟩
    rw [y4 i hi, o.2.2.2.2 i hi]
/-- a FINDING -/
theorem q_R.find (R : q_R hx hy) (c : Int32) : q_R (mm_up hx 0 7 c) (mm_up hy 0 28 c) := by
  refine R.sh (q_fr.up (by decide)) (q_fr.up (by decide)) (by simp [q_up]) ?_
  have S := R.sheets
  refine ⟨by simp [q_up], ?_⟩
  intro s hs
  have o := S.2 s hs
  rw [mm_up_ne _ _ _ (show 34 + s ≠ 0 by omega), mm_up_ne _ _ _ (show 38 + s ≠ 0 by omega), mm_up_ne _ _ _ (by decide), mm_up_ne _ _ _ (by decide), mm_up_ne _ _ _ (by decide), mm_up_ne _ _ _ (by decide)]
  exact o
theorem j_found (R : q_R hx hy) (c : Int32) : q_J (mm_call (fX7_found N hx c) (fun h r => some (h, r))) (mm_call (fX8_meets N hy c) (fun h r => some (h, r))) := by
  unfold fX7_found fX8_meets
  rw [mm_let, mm_let, mm_call_some, mm_call_some]
  exact ⟨_, _, _, rfl, rfl, R.find c⟩
/-- an item -/
theorem q_R.item (R : q_R hx hy) {s i : Nat} (hs : s < 4) (hi : i < 48) (v : Int32) : q_R (mm_up hx (38 + s) i v) (mm_up hy 23 (48 * s + i) v) := by
  refine R.sh (q_fr.up (q_m34 hs).2) (q_fr.up (by decide)) (by simp [q_up]) ?_
  have S := R.sheets
  have o := S.2 s hs
  refine S.one (s := s) ?_ ?_ ?_ ?_ hs
  · rw [mm_up_ne _ _ _ (show 0 ≠ 38 + s by omega), mm_up_ne _ _ _ (by decide)]
    exact S.1
  · intro c h1 h2 h3
    exact mm_up_ne _ _ _ h3
  · intro t ht hne
    refine ⟨by simp [q_up], by simp [q_up], by simp [q_up], fun k hk => ?_⟩
    rw [q_up, if_pos rfl, if_neg (by omega)]
  · rw [mm_up_ne _ _ _ (show 34 + s ≠ 38 + s by omega), mm_up_ne _ _ _ (show 20 ≠ 23 by decide), mm_up_ne _ _ _ (show 21 ≠ 23 by decide), mm_up_ne _ _ _ (show 22 ≠ 23 by decide)]
    refine ⟨o.1, o.2.1, o.2.2.1, o.2.2.2.1, fun k hk => ?_⟩
    rw [q_up, q_up, if_pos rfl, if_pos rfl]
    by_cases e : k = i
    · rw [if_pos e, if_pos (by omega)]
    · rw [if_neg e, if_neg (by omega), o.2.2.2.2 k hk]
theorem q_48 (s i : Nat) : (48 : Int32) * nI s + nI i = nI (48 * s + i) := by
  rw [show (48 : Int32) = nI 48 from rfl, qn_mul, nI_add]
theorem j_store (R : q_R hx hy) {s i : Nat} (hs : s < 4) (hi : i < 48) (v : Int32) : ∃ v', fX5_store N (34 + s) hx (nI i) v = some (mm_up hx (38 + s) i v', ()) ∧ fX8_keep N hy (nI s) (nI i) v = some (mm_up hy 23 (48 * s + i) v', ()) := by
  have o := R.sheets.2 s hs
  have g1 : mm_gd (nI i) 48 = true := qn_gd (by omega) (by omega)
  have g2 : mm_gd (nI s) 4 = true := qn_gd (by omega) (by omega)
  have g3 : mm_gd (nI (48 * s + i)) 192 = true := qn_gd (by omega) (by omega)
  unfold fX5_store fX8_keep
  rw [if_pos g2, qn_c (show s < 100000 by omega), o.1, q_48, qn_c (show i < 100000 by omega), qn_c (show 48 * s + i < 100000 by omega), show 34 + s + 4 = 38 + s by omega]
  simp only [g1, g3, if_true, mm_let]
  by_cases z : hy 21 s = 0
  · rw [if_pos z, if_pos z]
    exact ⟨_, rfl, rfl⟩
  · rw [if_neg z, if_neg z]
    by_cases y : hy 21 s = 1
    · rw [if_pos y, if_pos y]
      exact ⟨_, rfl, rfl⟩
    · rw [if_neg y, if_neg y]
      exact ⟨_, rfl, rfl⟩
theorem j_lacks (R : q_R hx hy) {s : Nat} (hs : s < 4) (f i : Int32) : ∃ c, fX5_findingAt N (34 + s) hx f i = some (hx, nI c) ∧ fX8_lacks N hy (nI s) f i = some (hy, nI c) ∧ c ≤ 3 ∧ (c = 0 → ∃ k, k < 48 ∧ i = nI k) := by
  obtain ⟨o1, o2, o3, ⟨m, m1, m2⟩, -⟩ := R.sheets.2 s hs
  have g2 : mm_gd (nI s) 4 = true := qn_gd (by omega) (by omega)
  unfold fX5_findingAt fX8_lacks
  rw [if_pos g2, qn_c (show s < 100000 by omega), o1, o2, m2]
  have n10 : ¬ (1 : Int32) = 0 := by decide
  rcases o3 with ⟨z1, z2⟩ | ⟨z1, z2⟩
  · rw [z1, z2, if_pos rfl, if_neg n10]
    by_cases y : hy 21 s = f
    · rw [if_pos y, if_pos y, q8_in (q_pred (by omega)), mm_call_some, q_b0]
      by_cases x : mm_gd i m = true
      · obtain ⟨k, hk, rfl⟩ := qg_ex x (by omega)
        have x1 : ¬ nI k < 0 := fun q => absurd ((qn_lt (b := 0) (by omega) (by omega)).mp q) (by omega)
        have x2 : nI k < nI m := (qn_lt (by omega) (by omega)).mpr hk
        rw [if_pos x, if_neg x1, if_pos x2]
        exact ⟨0, rfl, rfl, by omega, fun _ => ⟨k, by omega, rfl⟩⟩
      · rw [if_neg x]
        refine ⟨2, ?_, rfl, by omega, fun q => absurd q (by decide)⟩
        by_cases x1 : i < 0
        · rw [if_pos x1]; rfl
        · have x2 : ¬ i < nI m := by
            intro q
            apply x
            rw [qg_toInt]
            rw [Int32.lt_iff_toInt_lt, nI_toInt (by omega)] at q
            rw [Int32.lt_iff_toInt_lt, show (0 : Int32).toInt = 0 by decide] at x1
            omega
          rw [if_neg x1, if_neg x2]; rfl
    · rw [if_neg y, if_neg y]
      exact ⟨3, rfl, rfl, by omega, fun q => absurd q (by decide)⟩
  · rw [z1, z2, if_neg n10, if_pos rfl]
    exact ⟨1, rfl, rfl, by omega, fun q => absurd q (by decide)⟩
theorem j_put (R : q_R hx hy) (a f i v : Int32) : q_J (fX7_put N hx a f i v) (fX8_put N hy a f i v) := by
  unfold fX7_put fX8_put
  rw [q7_isSheet, mm_call_some, q_b0, q8_isSheet, mm_call_some, q_b0]
  by_cases z : mm_gd a 4 = true
  · obtain ⟨s, hs, rfl⟩ := qg_ex z (by omega)
    rw [if_pos z, if_pos z, q7_isForm, mm_call_some, q_b0, q8_in (n := 3) (by decide), mm_call_some, q_b0]
    by_cases y : mm_gd f 3 = true
    · obtain ⟨c, c1, c2, c3, c4⟩ := j_lacks (N := N) R hs f i
      rw [if_pos y, if_pos y, if_pos z, qn_c (show s < 100000 by omega), c1, mm_call_some, c2, mm_call_some]
      by_cases e : c = 0
      · obtain ⟨k, hk, rfl⟩ := c4 e
        subst e
        have e1 : nI 0 = (0 : Int32) := rfl
        have e2 : nI 0 ≤ (0 : Int32) := by decide
        obtain ⟨v', s1, s2⟩ := j_store (N := N) R hs hk v
        rw [if_pos e1, if_pos e2, s1, mm_call_some, s2, mm_call_some]
        exact ⟨_, _, _, rfl, rfl, R.item hs hk v'⟩
      · have e1 : ¬ nI c = (0 : Int32) := fun q => e ((qn_eq (b := 0) (by omega) (by omega)).mp q)
        have e2 : ¬ nI c ≤ (0 : Int32) := fun q => absurd ((qn_le (b := 0) (by omega) (by omega)).mp q) (by omega)
        rw [if_neg e1, if_neg e2]
        exact j_found R _
    · rw [if_neg y, if_neg y]
      exact ⟨hx, hy, -2, rfl, rfl, R⟩
  · rw [if_neg z, if_neg z]
    exact ⟨hx, hy, -2, rfl, rfl, R⟩
theorem j_get (R : q_R hx hy) (a f i : Int32) : q_J (fX7_get N hx a f i) (fX8_get N hy a f i) := by
  unfold fX7_get fX8_get
  rw [q7_isSheet, mm_call_some, q_b0, q8_isSheet, mm_call_some, q_b0]
  by_cases z : mm_gd a 4 = true
  · obtain ⟨s, hs, rfl⟩ := qg_ex z (by omega)
    rw [if_pos z, if_pos z, q7_isForm, mm_call_some, q_b0, q8_in (n := 3) (by decide), mm_call_some, q_b0]
    by_cases y : mm_gd f 3 = true
    · obtain ⟨c, c1, c2, c3, c4⟩ := j_lacks (N := N) R hs f i
      rw [if_pos y, if_pos y, if_pos z, qn_c (show s < 100000 by omega), c1, mm_call_some, c2, mm_call_some]
      by_cases e : c = 0
      · obtain ⟨k, hk, rfl⟩ := c4 e
        subst e
        have e1 : nI 0 = (0 : Int32) := rfl
        have e2 : nI 0 ≤ (0 : Int32) := by decide
        have g1 : mm_gd (nI k) 48 = true := qn_gd (by omega) (by omega)
        have g3 : mm_gd (nI (48 * s + k)) 192 = true := qn_gd (by omega) (by omega)
        rw [if_pos e1, if_pos e2, if_pos g1, qn_c (show k < 100000 by omega), q_48, if_pos g3, qn_c (show 48 * s + k < 100000 by omega), show 34 + s + 4 = 38 + s by omega, (R.sheets.2 s hs).2.2.2.2 k hk]
        exact ⟨_, _, _, rfl, rfl, R⟩
      · have e1 : ¬ nI c = (0 : Int32) := fun q => e ((qn_eq (b := 0) (by omega) (by omega)).mp q)
        have e2 : ¬ nI c ≤ (0 : Int32) := fun q => absurd ((qn_le (b := 0) (by omega) (by omega)).mp q) (by omega)
        rw [if_neg e1, if_neg e2, mm_let]
        unfold fX7_found
        rw [mm_let, mm_call_some]
        exact ⟨_, _, _, rfl, rfl, R.find _⟩
    · rw [if_neg y, if_neg y]
      exact ⟨hx, hy, _, rfl, rfl, R⟩
  · rw [if_neg z, if_neg z]
    exact ⟨hx, hy, _, rfl, rfl, R⟩
theorem j_lose (R : q_R hx hy) (a : Int32) : q_J (fX7_lose N hx a) (fX8_lose N hy a) := by
  unfold fX7_lose fX8_lose
  rw [q7_isSheet, mm_call_some, q_b0, q8_isSheet, mm_call_some, q_b0]
  by_cases z : mm_gd a 4 = true
  · obtain ⟨s, hs, rfl⟩ := qg_ex z (by omega)
    have o := R.sheets.2 s hs
    have n10 : ¬ (1 : Int32) = 0 := by decide
    rw [if_pos z, if_pos z, if_pos z, if_pos z, qn_c (show s < 100000 by omega)]
    rcases o.2.2.1 with ⟨z1, z2⟩ | ⟨z1, z2⟩
    · rw [z1, z2, if_pos rfl, if_neg n10, mm_let, mm_let, q_up, q_up, if_pos rfl, if_neg (show ¬ (2 = 3) by decide), if_neg (show ¬ (22 = 20) by decide), o.2.1]
      refine ⟨_, _, _, rfl, rfl, R.sh (q_fr.up (q_m34 hs).1) (q_fr.up (by decide)) (by simp [q_up]) ?_⟩
      refine R.sheets.one (s := s) ?_ ?_ ?_ ?_ hs
      · rw [mm_up_ne _ _ _ (show 0 ≠ 34 + s by omega), mm_up_ne _ _ _ (by decide)]
        exact R.sheets.1
      · intro c h1 h2 h3
        exact mm_up_ne _ _ _ h2
      · intro t ht hne
        refine ⟨by simp [q_up, hne], by simp [q_up], by simp [q_up], fun k hk => by simp [q_up]⟩
      · rw [mm_up_ne _ _ _ (show 38 + s ≠ 34 + s by omega), mm_up_ne _ _ _ (show 21 ≠ 20 by decide), mm_up_ne _ _ _ (show 22 ≠ 20 by decide), mm_up_ne _ _ _ (show 23 ≠ 20 by decide)]
        refine ⟨by simp [q_up, o.1], by simp [q_up, o.2.1], Or.inr ⟨by simp [q_up], by simp [q_up]⟩, o.2.2.2.1, o.2.2.2.2⟩
    · rw [z1, z2, if_neg n10, if_pos rfl]
      exact j_found R _
  · rw [if_neg z, if_neg z]
    exact ⟨hx, hy, -2, rfl, rfl, R⟩
theorem q5_renew_L {P : Nat} (k : mm_M → Option (mm_M × Unit)) : ∀ j i h, i + j = 48 → ∃ h', (∀ fuel, j < fuel → fX5_renew_L17 N P k fuel h (nI i) = k h') ∧ q_fr [P + 4] h h' ∧ ∀ x, h' (P + 4) x = if i ≤ x ∧ x < 48 then 0 else h (P + 4) x := by
  intro j
  induction j with
  | zero =>
    intro i h hi
    refine ⟨h, ?_, q_fr.rf, fun x => by rw [if_neg (by omega)]⟩
    intro fuel hfu
    obtain ⟨f, rfl⟩ : ∃ f, fuel = f + 1 := ⟨fuel - 1, by omega⟩
    have d : (48 : Int32) ≤ nI i := (qn_le (a := 48) (by omega) (by omega)).mpr (by omega)
    rw [fX5_renew_L17, if_pos d]
  | succ j ih =>
    intro i h hi
    obtain ⟨h', e1, e2, e3⟩ := ih (i + 1) (mm_up h (P + 4) i 0) (by omega)
    refine ⟨h', ?_, (q_fr.up (by simp)).tr e2 (fun _ q => q) (fun _ q => q), ?_⟩
    · intro fuel hfu
      obtain ⟨f, rfl⟩ : ∃ f, fuel = f + 1 := ⟨fuel - 1, by omega⟩
      have d : ¬ (48 : Int32) ≤ nI i := fun q => absurd ((qn_le (a := 48) (by omega) (by omega)).mp q) (by omega)
      rw [fX5_renew_L17, if_neg d, if_pos (qn_gd (by omega) (by omega)), qn_c (by omega), mm_let, nI_1]
      exact e1 f (by omega)
    · intro x
      rw [e3 x, q_up, if_pos rfl]
      by_cases y : i + 1 ≤ x ∧ x < 48
      · rw [if_pos y, if_pos (by omega)]
      · rw [if_neg y]
        by_cases w : x = i
        · rw [if_pos w, if_pos (by omega)]
        · rw [if_neg w, if_neg (by omega)]
theorem q8_sheet_L {s : Nat} (hs : s < 4) {p3 : Int32} (k : mm_M → Option (mm_M × Int32)) : ∀ j i h, i + j = 48 → ∃ h', (∀ fuel, j < fuel → fX8_sheet_L59 N (nI s) p3 k fuel h (nI i) = k h') ∧ q_fr [23] h h' ∧ ∀ x, h' 23 x = if 48 * s + i ≤ x ∧ x < 48 * s + 48 then 0 else h 23 x := by
  intro j
  induction j with
  | zero =>
    intro i h hi
    refine ⟨h, ?_, q_fr.rf, fun x => by rw [if_neg (by omega)]⟩
    intro fuel hfu
    obtain ⟨f, rfl⟩ : ∃ f, fuel = f + 1 := ⟨fuel - 1, by omega⟩
    have d : (48 : Int32) ≤ nI i := (qn_le (a := 48) (by omega) (by omega)).mpr (by omega)
    rw [fX8_sheet_L59, if_pos d]
  | succ j ih =>
    intro i h hi
    obtain ⟨h', e1, e2, e3⟩ := ih (i + 1) (mm_up h 23 (48 * s + i) 0) (by omega)
    refine ⟨h', ?_, (q_fr.up (by simp)).tr e2 (fun _ q => q) (fun _ q => q), ?_⟩
    · intro fuel hfu
      obtain ⟨f, rfl⟩ : ∃ f, fuel = f + 1 := ⟨fuel - 1, by omega⟩
      have d : ¬ (48 : Int32) ≤ nI i := fun q => absurd ((qn_le (a := 48) (by omega) (by omega)).mp q) (by omega)
      rw [fX8_sheet_L59, if_neg d, q_48, if_pos (qn_gd (by omega) (by omega)), qn_c (by omega), mm_let, nI_1]
      exact e1 f (by omega)
    · intro x
      rw [e3 x, q_up, if_pos rfl]
      by_cases y : 48 * s + (i + 1) ≤ x ∧ x < 48 * s + 48
      · rw [if_pos y, if_pos (by omega)]
      · rw [if_neg y]
        by_cases w : x = 48 * s + i
        · rw [if_pos w, if_pos (by omega)]
        · rw [if_neg w, if_neg (by omega)]
theorem j_sheet (hN : 5000 ≤ N) (R : q_R hx hy) (a f m : Int32) : q_J (fX7_sheet N hx a f m) (fX8_sheet N hy a f m) := by
  unfold fX7_sheet fX8_sheet
  rw [q7_isSheet, mm_call_some, q_b0, q8_isSheet, mm_call_some, q_b0]
  by_cases z : mm_gd a 4 = true
  · obtain ⟨s, hs, rfl⟩ := qg_ex z (by omega)
    rw [if_pos z, if_pos z, q7_isForm, mm_call_some, q_b0, q8_in (n := 3) (by decide), mm_call_some, q_b0]
    by_cases y : mm_gd f 3 = true
    · rw [if_pos y, if_pos y]
      by_cases w : m ≤ 48
      · rw [if_pos w, if_pos w]
        by_cases v : 0 ≤ m
        · have x : mm_gd m 49 = true := by
            rw [qg_toInt]
            rw [Int32.le_iff_toInt_le, show (48 : Int32).toInt = 48 by decide] at w
            rw [Int32.le_iff_toInt_le, show (0 : Int32).toInt = 0 by decide] at v
            omega
          obtain ⟨k, hk, rfl⟩ := qg_ex x (by omega)
          rw [if_pos v, if_pos v, if_pos z, if_pos z, qn_c (show s < 100000 by omega)]
          unfold fX5_renew
          simp only [mm_let]
          obtain ⟨h1, e1, e2, e3⟩ := q5_renew_L (N := N) (P := 34 + s) (fun h7 => some (h7, ())) 48 0 (mm_up (mm_up (mm_up hx (34 + s) 3 0) (34 + s) 1 f) (34 + s) 2 (nI k)) rfl
          obtain ⟨h2, u1, u2, u3⟩ := q8_sheet_L (N := N) (s := s) hs (p3 := nI k) (fun h18 => some (h18, nI k)) 48 0 (mm_up (mm_up (mm_up hy 20 s 1) 21 s f) 22 s (nI k)) rfl
          refine ⟨h1, h2, nI k, ?_, ?_, ?_⟩
          · rw [show (0 : Int32) = nI 0 from rfl] at e1 ⊢
            rw [e1 N (by omega), mm_call_some]
          · rw [show (0 : Int32) = nI 0 from rfl]
            exact u1 N (by omega)
          · have fx : q_fr q_cS hx (mm_up (mm_up (mm_up hx (34 + s) 3 0) (34 + s) 1 f) (34 + s) 2 (nI k)) := ((q_fr.up (S := q_cS) (q_m34 hs).1).tr (q_fr.up (S := q_cS) (q_m34 hs).1) (fun _ q => q) (fun _ q => q)).tr (q_fr.up (S := q_cS) (q_m34 hs).1) (fun _ q => q) (fun _ q => q)
            have fy : q_fr [20, 21, 22] hy (mm_up (mm_up (mm_up hy 20 s 1) 21 s f) 22 s (nI k)) := ((q_fr.up (S := [20, 21, 22]) (by decide)).tr (q_fr.up (S := [20, 21, 22]) (by decide)) (fun _ q => q) (fun _ q => q)).tr (q_fr.up (S := [20, 21, 22]) (by decide)) (fun _ q => q) (fun _ q => q)
            have gx : q_fr q_cS hx h1 := fx.tr e2 (fun _ q => q) (by
              intro c hc
              have : c = 38 + s := by have := List.mem_singleton.mp hc; omega
              rw [this]; exact (q_m34 hs).2)
            have gy : q_fr [20, 21, 22, 23] hy h2 := fy.tr u2 (by decide) (by decide)
            have nw : ∀ c, c ≠ 34 + s → c ≠ 38 + s → h1 c = hx c := by
              intro c hc1 hc2
              rw [e2 c (by simp; omega), mm_up_ne _ _ _ hc1, mm_up_ne _ _ _ hc1, mm_up_ne _ _ _ hc1]
            have hP : h1 (34 + s) = mm_up (mm_up (mm_up hx (34 + s) 3 0) (34 + s) 1 f) (34 + s) 2 (nI k) (34 + s) := e2 _ (by simp)
            refine R.sh gx (gy.wk (by decide)) (by rw [gy 0 (by decide)]) ?_
            refine R.sheets.one (s := s) ?_ ?_ ?_ ?_ hs
            · rw [nw 0 (by omega) (by omega), gy 0 (by decide)]
              exact R.sheets.1
            · intro c h1 h2 h3
              exact nw c h2 h3
            · intro t ht hne
              rw [u2 20 (by decide), u2 21 (by decide), u2 22 (by decide)]
              refine ⟨by simp [q_up, hne], by simp [q_up, hne], by simp [q_up, hne], fun i hi => ?_⟩
              rw [u3, if_neg (by omega), fy 23 (by decide)]
            · rw [hP, u2 20 (by decide), u2 21 (by decide), u2 22 (by decide)]
              refine ⟨by simp [q_up], by simp [q_up], Or.inl ⟨by simp [q_up], by simp [q_up]⟩, ⟨k, by omega, by simp [q_up]⟩, fun i hi => ?_⟩
              rw [show 38 + s = 34 + s + 4 by omega, e3, u3, if_pos (by omega), if_pos (by omega)]
        · rw [if_neg v, if_neg v]
          exact j_found R _
      · rw [if_neg w, if_neg w]
        exact ⟨hx, hy, -2, rfl, rfl, R⟩
    · rw [if_neg y, if_neg y]
      exact ⟨hx, hy, -2, rfl, rfl, R⟩
  · rw [if_neg z, if_neg z]
    exact ⟨hx, hy, -2, rfl, rfl, R⟩
end Q12d
