/-! match: the reference's way -/
section ME
variable {E : AEn} {h h' : AHi} {hr : AHr} {n : Nat} {Q : ARs → Prop} {s o : Stk} {D D' : Drw} {m : Int} {f g : Int → Int}
theorem s278 (F : FH hr) (hn : 775 ≤ n) {x y : Int} (hx : 0 ≤ x ∧ x < 128) (hy : 0 ≤ y ∧ y < 128) (C : SM h x s) (C' : SM h y o) (R : SR s) (R' : SR o) : Sp E 278 [.ref 704, .int (J x), .int (J y)] h hr n Q ↔ Q (some (.int (J (csq s o))), h, hr, n) := by
  have r2 := R.2.1
  have r3 := R'.2.1
  have r4 := R.1
  have r5 := R'.1
  have d1 := C.1
  have d2 := C'.1
  have d3 := C.2 0 (by omega) (by omega)
  have d4 := C'.2 0 (by omega) (by omega)
  have d5 := C.2 (s.2.1 - 1) (by omega) (by omega)
  have d6 := C'.2 (o.2.1 - 1) (by omega) (by omega)
  rw [Int.add_zero] at d3 d4
  rw [show 10 * x + (s.2.1 - 1) = 10 * x + s.2.1 - 1 by omega] at d5
  rw [show 10 * y + (o.2.1 - 1) = 10 * y + o.2.1 - 1 by omega] at d6
  by_cases g1 : s.1 = o.1
  · have e : csq s o = (o.2.2.1 0 - s.2.2.1 0) * (o.2.2.1 0 - s.2.2.1 0) + (o.2.2.2 0 - s.2.2.2 0) * (o.2.2.2 0 - s.2.2.2 0) + (o.2.2.1 (o.2.1 - 1) - s.2.2.1 (s.2.1 - 1)) * (o.2.2.1 (o.2.1 - 1) - s.2.2.1 (s.2.1 - 1)) + (o.2.2.2 (o.2.1 - 1) - s.2.2.2 (s.2.1 - 1)) * (o.2.2.2 (o.2.1 - 1) - s.2.2.2 (s.2.1 - 1)) + 0 := by
      unfold csq dsq
      rw [if_pos g1]
      grind
    rw [e]
    simp +decide (maxSteps := 4000000) (disch := omega) only [k278_0, k278_1, k278_2, k278_r, k278_s, F_al0, T_getR, T_I, F_il2, T_mul, X_iald, F_il1, T_sub, F_is3i, F_is3r, F_is3m, F_is4i, F_is4r, F_is4m, T_add, F_is5i, F_is5r, F_is5m, F_is6i, F_is6r, F_is6m, F_il6, F_il5, F_is7i, F_is7r, F_is7m, F_is8i, F_is8r, F_is8m, F_il3, F_il4, F_il7, F_il8, J_icne, T_goto, T_ft, T_ret, FM F, d1, d2, d3, d4, d5, d6, g1, ln_709, ln_710, ln_711, ln_712, ↓reduceIte, TK, lt_run hn, le43, Int.le_refl, Int.lt_irrefl, Option.some.injEq, exists_eq_left', true_and, and_true, if_true, if_false, decide_eq_false_iff_not, decide_eq_true_eq, Nat.reduceAdd, Nat.reduceLeDiff, Nat.reduceLT, Int.reduceAdd, Int.reduceSub, Int.reduceMul, Int.reduceNeg, not_true_eq_false, not_false_eq_true]
  · have e : csq s o = (o.2.2.1 0 - s.2.2.1 0) * (o.2.2.1 0 - s.2.2.1 0) + (o.2.2.2 0 - s.2.2.2 0) * (o.2.2.2 0 - s.2.2.2 0) + (o.2.2.1 (o.2.1 - 1) - s.2.2.1 (s.2.1 - 1)) * (o.2.2.1 (o.2.1 - 1) - s.2.2.1 (s.2.1 - 1)) + (o.2.2.2 (o.2.1 - 1) - s.2.2.2 (s.2.1 - 1)) * (o.2.2.2 (o.2.1 - 1) - s.2.2.2 (s.2.1 - 1)) + 100 := by
      unfold csq dsq
      rw [if_neg g1]
      grind
    rw [e]
    simp +decide (maxSteps := 4000000) (disch := omega) only [k278_0, k278_1, k278_2, k278_r, k278_s, F_al0, T_getR, T_I, F_il2, T_mul, X_iald, F_il1, T_sub, F_is3i, F_is3r, F_is3m, F_is4i, F_is4r, F_is4m, T_add, F_is5i, F_is5r, F_is5m, F_is6i, F_is6r, F_is6m, F_il6, F_il5, F_is7i, F_is7r, F_is7m, F_is8i, F_is8r, F_is8m, F_il3, F_il4, F_il7, F_il8, J_icne, T_goto, T_ft, T_ret, FM F, d1, d2, d3, d4, d5, d6, g1, ln_709, ln_710, ln_711, ln_712, ↓reduceIte, TK, lt_run hn, le43, Int.le_refl, Int.lt_irrefl, Option.some.injEq, exists_eq_left', true_and, and_true, if_true, if_false, decide_eq_false_iff_not, decide_eq_true_eq, Nat.reduceAdd, Nat.reduceLeDiff, Nat.reduceLT, Int.reduceAdd, Int.reduceSub, Int.reduceMul, Int.reduceNeg, not_true_eq_false, not_false_eq_true]
theorem s275 (F : FH hr) (hn : 775 ≤ n) {e b j S : Int} (he : 0 ≤ e ∧ e < 16) (hb : 0 ≤ b ∧ b ≤ 8) (hj : 0 ≤ j ∧ j ≤ 8) (hS : 0 ≤ S ∧ S < 256) (d1 : gA h 708 e = J b) : Sp E 275 [.ref 704, .int (J e), .int (J j), .int (J S)] h hr n Q ↔ Q (some (.int (Bz (maO b S j))), h, hr, n) := by
  unfold maO
  by_cases g1 : j = 8
  · rw [decide_eq_true g1, Bool.true_or]
    simp +decide (maxSteps := 4000000) (disch := omega) only [k275_0, k275_1, k275_2, k275_3, k275_r, k275_s, F_il2, T_I, T_iceq, F_al0, T_getR, F_il1, X_iald, T_icge, F_il3, T_shr, T_and, J_ifne, T_ft, T_goto, T_ret, FM F, g1, ↓reduceIte, TK, lt_run hn, le43, Int.le_refl, Int.lt_irrefl, Option.some.injEq, exists_eq_left', true_and, and_true, if_true, if_false, decide_eq_false_iff_not, decide_eq_true_eq, Nat.reduceAdd, Nat.reduceLeDiff, Nat.reduceLT, Int.reduceAdd, Int.reduceSub, Int.reduceMul, Int.reduceNeg, not_true_eq_false, not_false_eq_true]
    exact Iff.rfl
  · rw [decide_eq_false g1, Bool.false_or]
    by_cases g2 : j < b
    · rw [decide_eq_true g2, Bool.true_and]
      have bt := mbt hS (j := j) (by omega)
      by_cases g3 : maB S j = true
      · rw [if_pos g3] at bt
        rw [g3]
        simp +decide (maxSteps := 4000000) (disch := omega) only [k275_0, k275_1, k275_2, k275_3, k275_r, k275_s, F_il2, T_I, T_iceq, F_al0, T_getR, F_il1, X_iald, T_icge, F_il3, T_shr, T_and, J_ifne, T_ft, T_goto, T_ret, FM F, g1, d1, bt, ln_708, show ¬ b ≤ j by omega, ↓reduceIte, TK, lt_run hn, le43, Int.le_refl, Int.lt_irrefl, Option.some.injEq, exists_eq_left', true_and, and_true, if_true, if_false, decide_eq_false_iff_not, decide_eq_true_eq, Nat.reduceAdd, Nat.reduceLeDiff, Nat.reduceLT, Int.reduceAdd, Int.reduceSub, Int.reduceMul, Int.reduceNeg, not_true_eq_false, not_false_eq_true]
        exact Iff.rfl
      · rw [if_neg g3] at bt
        rw [show maB S j = false by simpa using g3]
        simp +decide (maxSteps := 4000000) (disch := omega) only [k275_0, k275_1, k275_2, k275_3, k275_r, k275_s, F_il2, T_I, T_iceq, F_al0, T_getR, F_il1, X_iald, T_icge, F_il3, T_shr, T_and, J_ifne, T_ft, T_goto, T_ret, FM F, g1, d1, bt, ln_708, show ¬ b ≤ j by omega, ↓reduceIte, TK, lt_run hn, le43, Int.le_refl, Int.lt_irrefl, Option.some.injEq, exists_eq_left', true_and, and_true, if_true, if_false, decide_eq_false_iff_not, decide_eq_true_eq, Nat.reduceAdd, Nat.reduceLeDiff, Nat.reduceLT, Int.reduceAdd, Int.reduceSub, Int.reduceMul, Int.reduceNeg, not_true_eq_false, not_false_eq_true]
        exact Iff.rfl
    · rw [decide_eq_false g2, Bool.false_and]
      simp +decide (maxSteps := 4000000) (disch := omega) only [k275_0, k275_1, k275_2, k275_3, k275_r, k275_s, F_il2, T_I, T_iceq, F_al0, T_getR, F_il1, X_iald, T_icge, F_il3, T_shr, T_and, J_ifne, T_ft, T_goto, T_ret, FM F, g1, d1, ln_708, show b ≤ j by omega, ↓reduceIte, TK, lt_run hn, le43, Int.le_refl, Int.lt_irrefl, Option.some.injEq, exists_eq_left', true_and, and_true, if_true, if_false, decide_eq_false_iff_not, decide_eq_true_eq, Nat.reduceAdd, Nat.reduceLeDiff, Nat.reduceLT, Int.reduceAdd, Int.reduceSub, Int.reduceMul, Int.reduceNeg, not_true_eq_false, not_false_eq_true]
      exact Iff.rfl
theorem w276 (F : FH hr) (hn : 775 ≤ n) {d e a b i j : Int} (hd : 0 ≤ d ∧ d < 16) (he : 0 ≤ e ∧ e < 16) (ha : 0 ≤ a ∧ a ≤ 8) (hb : 0 ≤ b ∧ b ≤ 8) (hi : 0 ≤ i ∧ i < 8) (hj : 0 ≤ j ∧ j ≤ 8) (hm : 0 ≤ m ∧ m ≤ 4) (hf : ∀ i, 0 ≤ f i ∧ f i ≤ 7) (hg : ∀ i, 0 ≤ g i ∧ g i ≤ 7) (d1 : gA h 708 d = J a) (d2 : gA h 708 e = J b) (b1 : h 704 45 = J m) (b2 : ∀ i, 0 ≤ i → i < m → gA h 737 i = J (f i) ∧ gA h 738 i = J (g i))
    (k : Q (some (.int (Bz (maPP a b m f g i j))), h, hr, n)) : Sp E 276 [.ref 704, .int (J d), .int (J e), .int (J i), .int (J j)] h hr n Q := by
  simp +decide (maxSteps := 4000000) (disch := omega) only [k276_0, k276_2, k276_3, k276_4, k276_5, k276_6, k276_7, k276_8, k276_9, k276_10, k276_r, k276_s, T_I, F_is5i, F_is5r, F_is5m, F_is6i, F_is6r, F_is6m, T_ft, F_il6, F_al0, T_getI, T_icge, T_getR, X_iald, F_il1, F_il2, T_iclt, T_goto, F_il5, J_ifeq, F_il3, J_icne, F_il4, F_inc6i, F_inc6r, F_inc6m, T_ret, ↓reduceIte, TK, lt_run hn, le43, Int.le_refl, Int.lt_irrefl, Option.some.injEq, exists_eq_left', true_and, and_true, if_true, if_false, decide_eq_false_iff_not, decide_eq_true_eq, Nat.reduceAdd, Nat.reduceLeDiff, Nat.reduceLT, Int.reduceAdd, Int.reduceSub, Int.reduceMul, Int.reduceNeg, not_true_eq_false, not_false_eq_true]
  refine T_for (σ := Unit) (fun q _ => [.ref 704, .int (J d), .int (J e), .int (J i), .int (J j), .int (Bz (maP a b f g i j q.toNat)), .int (J q)]) (fun _ _ h' => h' = h) 0 m ?_ ?_ 0 () h (by omega) (by omega) rfl
  · rintro q _ h' q0 q1 rfl ih
    have f1 := hf q
    have g1 := hg q
    have b3 := b2 q q0 q1
    have es : maP a b f g i j (q + 1).toNat = if f q < a ∧ g q < b then maP a b f g i j q.toNat && (decide (f q = i) == decide (g q = j)) else maP a b f g i j q.toNat := by
      rw [show (q + 1).toNat = q.toNat + 1 by omega]
      show (if f (q.toNat : Int) < a ∧ g (q.toNat : Int) < b then maP a b f g i j q.toNat && (decide (f (q.toNat : Int) = i) == decide (g (q.toNat : Int) = j)) else _) = _
      rw [Int.toNat_of_nonneg q0]
    have ih' := ih () _ rfl
    try dsimp only at ih'
    rw [es] at ih'
    by_cases u1 : f q < a
    · by_cases u2 : g q < b
      · rw [if_pos ⟨u1, u2⟩] at ih'
        cases hp : maP a b f g i j q.toNat with
        | false =>
          rw [hp, Bool.false_and] at ih'
          rw [k276_1]
          simp +decide (maxSteps := 4000000) (disch := omega) only [k276_0, k276_2, k276_3, k276_4, k276_5, k276_6, k276_7, k276_8, k276_9, k276_10, k276_r, k276_s, T_I, F_is5i, F_is5r, F_is5m, F_is6i, F_is6r, F_is6m, T_ft, F_il6, F_al0, T_getI, T_icge, T_getR, X_iald, F_il1, F_il2, T_iclt, T_goto, F_il5, J_ifeq, F_il3, J_icne, F_il4, F_inc6i, F_inc6r, F_inc6m, T_ret, FM F, b1, b3, d1, d2, u1, u2, Bz_f, ln_737, ln_738, ln_708, show ¬ m ≤ q by omega, show ¬ a ≤ f q by omega, show ¬ b ≤ g q by omega, ↓reduceIte, TK, lt_run hn, le43, Int.le_refl, Int.lt_irrefl, Option.some.injEq, exists_eq_left', true_and, and_true, if_true, if_false, decide_eq_false_iff_not, decide_eq_true_eq, Nat.reduceAdd, Nat.reduceLeDiff, Nat.reduceLT, Int.reduceAdd, Int.reduceSub, Int.reduceMul, Int.reduceNeg, not_true_eq_false, not_false_eq_true]
          exact ih'
        | true =>
          rw [hp, Bool.true_and] at ih'
          by_cases v1 : f q = i
          · by_cases v2 : g q = j
            · rw [decide_eq_true v1, decide_eq_true v2] at ih'
              rw [k276_1]
              simp +decide (maxSteps := 4000000) (disch := omega) only [k276_0, k276_2, k276_3, k276_4, k276_5, k276_6, k276_7, k276_8, k276_9, k276_10, k276_r, k276_s, T_I, F_is5i, F_is5r, F_is5m, F_is6i, F_is6r, F_is6m, T_ft, F_il6, F_al0, T_getI, T_icge, T_getR, X_iald, F_il1, F_il2, T_iclt, T_goto, F_il5, J_ifeq, F_il3, J_icne, F_il4, F_inc6i, F_inc6r, F_inc6m, T_ret, FM F, b1, b3, d1, d2, u1, u2, v1, v2, Bz_t, ln_737, ln_738, ln_708, show ¬ m ≤ q by omega, show ¬ a ≤ f q by omega, show ¬ b ≤ g q by omega, show ¬ a ≤ i by omega, show ¬ b ≤ j by omega, show j < b by omega, ↓reduceIte, TK, lt_run hn, le43, Int.le_refl, Int.lt_irrefl, Option.some.injEq, exists_eq_left', true_and, and_true, if_true, if_false, decide_eq_false_iff_not, decide_eq_true_eq, Nat.reduceAdd, Nat.reduceLeDiff, Nat.reduceLT, Int.reduceAdd, Int.reduceSub, Int.reduceMul, Int.reduceNeg, not_true_eq_false, not_false_eq_true]
              exact ih'
            · rw [decide_eq_true v1, decide_eq_false v2] at ih'
              rw [k276_1]
              simp +decide (maxSteps := 4000000) (disch := omega) only [k276_0, k276_2, k276_3, k276_4, k276_5, k276_6, k276_7, k276_8, k276_9, k276_10, k276_r, k276_s, T_I, F_is5i, F_is5r, F_is5m, F_is6i, F_is6r, F_is6m, T_ft, F_il6, F_al0, T_getI, T_icge, T_getR, X_iald, F_il1, F_il2, T_iclt, T_goto, F_il5, J_ifeq, F_il3, J_icne, F_il4, F_inc6i, F_inc6r, F_inc6m, T_ret, FM F, b1, b3, d1, d2, u1, u2, v1, v2, Bz_t, ln_737, ln_738, ln_708, show ¬ m ≤ q by omega, show ¬ a ≤ f q by omega, show ¬ b ≤ g q by omega, show ¬ a ≤ i by omega, ↓reduceIte, TK, lt_run hn, le43, Int.le_refl, Int.lt_irrefl, Option.some.injEq, exists_eq_left', true_and, and_true, if_true, if_false, decide_eq_false_iff_not, decide_eq_true_eq, Nat.reduceAdd, Nat.reduceLeDiff, Nat.reduceLT, Int.reduceAdd, Int.reduceSub, Int.reduceMul, Int.reduceNeg, not_true_eq_false, not_false_eq_true]
              exact ih'
          · by_cases v2 : g q = j
            · rw [decide_eq_false v1, decide_eq_true v2] at ih'
              rw [k276_1]
              simp +decide (maxSteps := 4000000) (disch := omega) only [k276_0, k276_2, k276_3, k276_4, k276_5, k276_6, k276_7, k276_8, k276_9, k276_10, k276_r, k276_s, T_I, F_is5i, F_is5r, F_is5m, F_is6i, F_is6r, F_is6m, T_ft, F_il6, F_al0, T_getI, T_icge, T_getR, X_iald, F_il1, F_il2, T_iclt, T_goto, F_il5, J_ifeq, F_il3, J_icne, F_il4, F_inc6i, F_inc6r, F_inc6m, T_ret, FM F, b1, b3, d1, d2, u1, u2, v1, v2, Bz_t, ln_737, ln_738, ln_708, show ¬ m ≤ q by omega, show ¬ a ≤ f q by omega, show ¬ b ≤ g q by omega, show ¬ b ≤ j by omega, show j < b by omega, ↓reduceIte, TK, lt_run hn, le43, Int.le_refl, Int.lt_irrefl, Option.some.injEq, exists_eq_left', true_and, and_true, if_true, if_false, decide_eq_false_iff_not, decide_eq_true_eq, Nat.reduceAdd, Nat.reduceLeDiff, Nat.reduceLT, Int.reduceAdd, Int.reduceSub, Int.reduceMul, Int.reduceNeg, not_true_eq_false, not_false_eq_true]
              exact ih'
            · rw [decide_eq_false v1, decide_eq_false v2] at ih'
              rw [k276_1]
              simp +decide (maxSteps := 4000000) (disch := omega) only [k276_0, k276_2, k276_3, k276_4, k276_5, k276_6, k276_7, k276_8, k276_9, k276_10, k276_r, k276_s, T_I, F_is5i, F_is5r, F_is5m, F_is6i, F_is6r, F_is6m, T_ft, F_il6, F_al0, T_getI, T_icge, T_getR, X_iald, F_il1, F_il2, T_iclt, T_goto, F_il5, J_ifeq, F_il3, J_icne, F_il4, F_inc6i, F_inc6r, F_inc6m, T_ret, FM F, b1, b3, d1, d2, u1, u2, v1, v2, Bz_t, ln_737, ln_738, ln_708, show ¬ m ≤ q by omega, show ¬ a ≤ f q by omega, show ¬ b ≤ g q by omega, ↓reduceIte, TK, lt_run hn, le43, Int.le_refl, Int.lt_irrefl, Option.some.injEq, exists_eq_left', true_and, and_true, if_true, if_false, decide_eq_false_iff_not, decide_eq_true_eq, Nat.reduceAdd, Nat.reduceLeDiff, Nat.reduceLT, Int.reduceAdd, Int.reduceSub, Int.reduceMul, Int.reduceNeg, not_true_eq_false, not_false_eq_true]
              exact ih'
      · rw [if_neg (fun z => u2 z.2)] at ih'
        rw [k276_1]
        simp +decide (maxSteps := 4000000) (disch := omega) only [k276_0, k276_2, k276_3, k276_4, k276_5, k276_6, k276_7, k276_8, k276_9, k276_10, k276_r, k276_s, T_I, F_is5i, F_is5r, F_is5m, F_is6i, F_is6r, F_is6m, T_ft, F_il6, F_al0, T_getI, T_icge, T_getR, X_iald, F_il1, F_il2, T_iclt, T_goto, F_il5, J_ifeq, F_il3, J_icne, F_il4, F_inc6i, F_inc6r, F_inc6m, T_ret, FM F, b1, b3, d1, d2, u1, u2, ln_737, ln_738, ln_708, show ¬ m ≤ q by omega, show ¬ a ≤ f q by omega, show b ≤ g q by omega, ↓reduceIte, TK, lt_run hn, le43, Int.le_refl, Int.lt_irrefl, Option.some.injEq, exists_eq_left', true_and, and_true, if_true, if_false, decide_eq_false_iff_not, decide_eq_true_eq, Nat.reduceAdd, Nat.reduceLeDiff, Nat.reduceLT, Int.reduceAdd, Int.reduceSub, Int.reduceMul, Int.reduceNeg, not_true_eq_false, not_false_eq_true]
        exact ih'
    · rw [if_neg (fun z => u1 z.1)] at ih'
      rw [k276_1]
      simp +decide (maxSteps := 4000000) (disch := omega) only [k276_0, k276_2, k276_3, k276_4, k276_5, k276_6, k276_7, k276_8, k276_9, k276_10, k276_r, k276_s, T_I, F_is5i, F_is5r, F_is5m, F_is6i, F_is6r, F_is6m, T_ft, F_il6, F_al0, T_getI, T_icge, T_getR, X_iald, F_il1, F_il2, T_iclt, T_goto, F_il5, J_ifeq, F_il3, J_icne, F_il4, F_inc6i, F_inc6r, F_inc6m, T_ret, FM F, b1, b3, d1, d2, u1, ln_737, ln_738, ln_708, show ¬ m ≤ q by omega, show a ≤ f q by omega, ↓reduceIte, TK, lt_run hn, le43, Int.le_refl, Int.lt_irrefl, Option.some.injEq, exists_eq_left', true_and, and_true, if_true, if_false, decide_eq_false_iff_not, decide_eq_true_eq, Nat.reduceAdd, Nat.reduceLeDiff, Nat.reduceLT, Int.reduceAdd, Int.reduceSub, Int.reduceMul, Int.reduceNeg, not_true_eq_false, not_false_eq_true]
      exact ih'
  · rintro _ h' rfl
    rw [k276_1]
    simp +decide (maxSteps := 4000000) (disch := omega) only [k276_0, k276_2, k276_3, k276_4, k276_5, k276_6, k276_7, k276_8, k276_9, k276_10, k276_r, k276_s, T_I, F_is5i, F_is5r, F_is5m, F_is6i, F_is6r, F_is6m, T_ft, F_il6, F_al0, T_getI, T_icge, T_getR, X_iald, F_il1, F_il2, T_iclt, T_goto, F_il5, J_ifeq, F_il3, J_icne, F_il4, F_inc6i, F_inc6r, F_inc6m, T_ret, FM F, b1, ↓reduceIte, TK, lt_run hn, le43, Int.le_refl, Int.lt_irrefl, Option.some.injEq, exists_eq_left', true_and, and_true, if_true, if_false, decide_eq_false_iff_not, decide_eq_true_eq, Nat.reduceAdd, Nat.reduceLeDiff, Nat.reduceLT, Int.reduceAdd, Int.reduceSub, Int.reduceMul, Int.reduceNeg, not_true_eq_false, not_false_eq_true]
    exact k
theorem s277 (F : FH hr) (hn : 775 ≤ n) {d e i j S : Int} {t : Int → Int} (hd : 0 ≤ d ∧ d < 16) (he : 0 ≤ e ∧ e < 16) (hi : 0 ≤ i ∧ i < D.1) (hj : (0 ≤ j ∧ j < D'.1) ∨ j = 8) (hS : 0 ≤ S ∧ S < 256) (M : DM h d D) (M' : DM h e D') (R : DRr D) (R' : DRr D') (d2 : gA h 739 (256 * (i + 1) + (if j = 8 then S else maA S j)) = J (t (if j = 8 then S else maA S j))) : Sp E 277 [.ref 704, .int (J d), .int (J e), .int (J i), .int (J j), .int (J S)] h hr n Q ↔ Q (some (.int (J (maV (mack D D') t i S j))), h, hr, n) := by
  have r1 := R.1
  have r2 := R'.1
  unfold maV mack
  by_cases g1 : j = 8
  · subst g1
    rw [if_pos rfl] at d2 ⊢
    simp +decide (maxSteps := 4000000) (disch := omega) only [k277_0, k277_1, k277_2, k277_r, k277_s, F_il4, T_I, J_icne, F_al0, T_getR, F_il3, T_add, T_mul, F_il5, X_iald, T_goto, F_il1, F_il2, T_shl, T_or, T_ft, T_ret, c278, ↓s278, FM F, d2, ln_739, ↓reduceIte, TK, lt_run hn, le43, Int.le_refl, Int.lt_irrefl, Option.some.injEq, exists_eq_left', true_and, and_true, if_true, if_false, decide_eq_false_iff_not, decide_eq_true_eq, Nat.reduceAdd, Nat.reduceLeDiff, Nat.reduceLT, Int.reduceAdd, Int.reduceSub, Int.reduceMul, Int.reduceNeg, not_true_eq_false, not_false_eq_true]
  · rw [if_neg g1] at d2 ⊢
    have o1 := mor hS (j := j) (by omega)
    have o2 := maA_8 hS (j := j) (by omega)
    have t1 := fun {Q} => s278 (E := E) (Q := Q) F hn (x := 8 * d + i) (y := 8 * e + j) (by omega) (by omega) (M.2 i (by omega) (by omega)) (M'.2 j (by omega) (by omega)) (R.2 i) (R'.2 j)
    simp +decide (maxSteps := 4000000) (disch := omega) only [k277_0, k277_1, k277_2, k277_r, k277_s, F_il4, T_I, J_icne, F_al0, T_getR, F_il3, T_add, T_mul, F_il5, X_iald, T_goto, F_il1, F_il2, T_shl, T_or, T_ft, T_ret, c278, FM F, d2, o1, t1, g1, ln_739, ↓reduceIte, TK, lt_run hn, le43, Int.le_refl, Int.lt_irrefl, Option.some.injEq, exists_eq_left', true_and, and_true, if_true, if_false, decide_eq_false_iff_not, decide_eq_true_eq, Nat.reduceAdd, Nat.reduceLeDiff, Nat.reduceLT, Int.reduceAdd, Int.reduceSub, Int.reduceMul, Int.reduceNeg, not_true_eq_false, not_false_eq_true]
end ME
