/-! pictures: shift, fade, blur, sparks of the class -/
section PK
variable {E : AEn} {h h' : AHi} {hr : AHr} {n : Nat} {Q : ARs → Prop} {g a b : Nat} {A B : Pic}
theorem w98 (hn : 775 ≤ n) (G1 : AR E g) (G2 : AR E a) (n1 : a ≠ g) {r d : Int} (hr' : -60 ≤ r ∧ r ≤ 60) (hd : -60 ≤ d ∧ d ≤ 60) (P1 : PA h a A) (k : ∀ h', PA h' g (pcS A r d) → Ef (fun x _ => x = g) h h' → Q (none, h', hr, n)) : Sp E 98 [.ref g, .ref a, .int (J r), .int (J d)] h hr n Q := by
  obtain ⟨g1, g2, g3, g4⟩ := G1
  obtain ⟨a1, a2, a3, a4⟩ := G2
  simp +decide (maxSteps := 4000000) (disch := omega) only [k98_0, k98_3, k98_4, k98_5, k98_6, k98_r, k98_s, T_I, F_is4i, F_is4r, F_is4m, T_ft, F_il4, T_icge, F_is5i, F_is5r, F_is5m, F_il5, F_il2, T_sub, F_il3, F_is6i, F_is6r, F_is6m, F_al0, F_il6, J_ifeq, F_al1, X_iald, T_goto, T_iast, F_inc5i, F_inc5r, F_inc5m, F_inc4i, F_inc4r, F_inc4m, T_ret, c145, c151, ↓s145, ↓s151, ↓reduceIte, TK, lt_run hn, le43, Int.le_refl, Int.lt_irrefl, Option.some.injEq, exists_eq_left', true_and, and_true, if_true, if_false, decide_eq_false_iff_not, decide_eq_true_eq, Nat.reduceAdd, Nat.reduceLeDiff, Nat.reduceLT, Int.reduceAdd, Int.reduceSub, Int.reduceMul, Int.reduceNeg, not_true_eq_false, not_false_eq_true]
  refine T_for (σ := Value × Value) (fun y v => [.ref g, .ref a, .int (J r), .int (J d), .int (J y), v.1, v.2]) (fun y _ h' => Ef (fun x _ => x = g) h h' ∧ PU h' g (pcS A r d) (y * 48)) 0 32 ?_ ?_ 0 (a_mk, a_mk) h (by omega) (by omega) ⟨Ef.refl, fun q _ _ => by omega⟩
  · rintro y ⟨v5, v6⟩ h1 y0 y1 ⟨e1, c1⟩ ih
    dsimp only
    rw [k98_1]
    simp +decide (maxSteps := 4000000) (disch := omega) only [k98_0, k98_3, k98_4, k98_5, k98_6, k98_r, k98_s, T_I, F_is4i, F_is4r, F_is4m, T_ft, F_il4, T_icge, F_is5i, F_is5r, F_is5m, F_il5, F_il2, T_sub, F_il3, F_is6i, F_is6r, F_is6m, F_al0, F_il6, J_ifeq, F_al1, X_iald, T_goto, T_iast, F_inc5i, F_inc5r, F_inc5m, F_inc4i, F_inc4r, F_inc4m, T_ret, c145, c151, ↓s145, ↓s151, show ¬ 32 ≤ y by omega, ↓reduceIte, TK, lt_run hn, le43, Int.le_refl, Int.lt_irrefl, Option.some.injEq, exists_eq_left', true_and, and_true, if_true, if_false, decide_eq_false_iff_not, decide_eq_true_eq, Nat.reduceAdd, Nat.reduceLeDiff, Nat.reduceLT, Int.reduceAdd, Int.reduceSub, Int.reduceMul, Int.reduceNeg, not_true_eq_false, not_false_eq_true]
    refine T_for (σ := Value) (fun x v => [.ref g, .ref a, .int (J r), .int (J d), .int (J y), .int (J x), v]) (fun x _ h' => Ef (fun x _ => x = g) h h' ∧ PU h' g (pcS A r d) (y * 48 + x)) 0 48 ?_ ?_ 0 v6 h1 (by omega) (by omega) ⟨e1, by rw [Int.add_zero]; exact c1⟩
    · rintro x v h2 x0 x1 ⟨e2, c2⟩ ih2
      by_cases z : (0 ≤ x - r ∧ x - r ≤ 47) ∧ 0 ≤ y - d ∧ y - d ≤ 31
      · have d1 := (P1.ef e2 (fun k => n1)) ((y - d) * 48 + (x - r)) (by omega) (by omega)
        rw [k98_2]
        simp +decide (maxSteps := 4000000) (disch := omega) only [k98_0, k98_3, k98_4, k98_5, k98_6, k98_r, k98_s, T_I, F_is4i, F_is4r, F_is4m, T_ft, F_il4, T_icge, F_is5i, F_is5r, F_is5m, F_il5, F_il2, T_sub, F_il3, F_is6i, F_is6r, F_is6m, F_al0, F_il6, J_ifeq, F_al1, X_iald, T_goto, T_iast, F_inc5i, F_inc5r, F_inc5m, F_inc4i, F_inc4r, F_inc4m, T_ret, c145, c151, ↓s145, ↓s151, g1, g2, a1, a2, d1, z, Bz_t, show ¬ 48 ≤ x by omega, ↓reduceIte, TK, lt_run hn, le43, Int.le_refl, Int.lt_irrefl, Option.some.injEq, exists_eq_left', true_and, and_true, if_true, if_false, decide_eq_false_iff_not, decide_eq_true_eq, Nat.reduceAdd, Nat.reduceLeDiff, Nat.reduceLT, Int.reduceAdd, Int.reduceSub, Int.reduceMul, Int.reduceNeg, not_true_eq_false, not_false_eq_true]
        have := c2.set (v := A ((y - d) * 48 + (x - r))) (by omega) (by unfold pcS; rw [show (y * 48 + x) % 48 = x by omega, show (y * 48 + x) / 48 = y by omega, if_pos z])
        rw [show y * 48 + x + 1 = y * 48 + (x + 1) by omega] at this
        exact ih2 _ _ ⟨e2.sA rfl, this⟩
      · rw [k98_2]
        simp +decide (maxSteps := 4000000) (disch := omega) only [k98_0, k98_3, k98_4, k98_5, k98_6, k98_r, k98_s, T_I, F_is4i, F_is4r, F_is4m, T_ft, F_il4, T_icge, F_is5i, F_is5r, F_is5m, F_il5, F_il2, T_sub, F_il3, F_is6i, F_is6r, F_is6m, F_al0, F_il6, J_ifeq, F_al1, X_iald, T_goto, T_iast, F_inc5i, F_inc5r, F_inc5m, F_inc4i, F_inc4r, F_inc4m, T_ret, c145, c151, ↓s145, ↓s151, g1, g2, a1, a2, z, Bz_f, show ¬ 48 ≤ x by omega, ↓reduceIte, TK, lt_run hn, le43, Int.le_refl, Int.lt_irrefl, Option.some.injEq, exists_eq_left', true_and, and_true, if_true, if_false, decide_eq_false_iff_not, decide_eq_true_eq, Nat.reduceAdd, Nat.reduceLeDiff, Nat.reduceLT, Int.reduceAdd, Int.reduceSub, Int.reduceMul, Int.reduceNeg, not_true_eq_false, not_false_eq_true]
        have := c2.set (v := -1) (by omega) (by unfold pcS; rw [show (y * 48 + x) % 48 = x by omega, show (y * 48 + x) / 48 = y by omega, if_neg z])
        rw [show y * 48 + x + 1 = y * 48 + (x + 1) by omega] at this
        exact ih2 _ _ ⟨e2.sA rfl, this⟩
    · rintro v h2 ⟨e2, c2⟩
      rw [k98_2]
      simp +decide (maxSteps := 4000000) (disch := omega) only [k98_0, k98_3, k98_4, k98_5, k98_6, k98_r, k98_s, T_I, F_is4i, F_is4r, F_is4m, T_ft, F_il4, T_icge, F_is5i, F_is5r, F_is5m, F_il5, F_il2, T_sub, F_il3, F_is6i, F_is6r, F_is6m, F_al0, F_il6, J_ifeq, F_al1, X_iald, T_goto, T_iast, F_inc5i, F_inc5r, F_inc5m, F_inc4i, F_inc4r, F_inc4m, T_ret, c145, c151, ↓s145, ↓s151, ↓reduceIte, TK, lt_run hn, le43, Int.le_refl, Int.lt_irrefl, Option.some.injEq, exists_eq_left', true_and, and_true, if_true, if_false, decide_eq_false_iff_not, decide_eq_true_eq, Nat.reduceAdd, Nat.reduceLeDiff, Nat.reduceLT, Int.reduceAdd, Int.reduceSub, Int.reduceMul, Int.reduceNeg, not_true_eq_false, not_false_eq_true]
      exact ih (_, _) _ ⟨e2, by rw [show (y + 1) * 48 = y * 48 + 48 by omega]; exact c2⟩
  · rintro ⟨v5, v6⟩ h1 ⟨e1, c1⟩
    dsimp only
    rw [k98_1]
    simp +decide (maxSteps := 4000000) (disch := omega) only [k98_0, k98_3, k98_4, k98_5, k98_6, k98_r, k98_s, T_I, F_is4i, F_is4r, F_is4m, T_ft, F_il4, T_icge, F_is5i, F_is5r, F_is5m, F_il5, F_il2, T_sub, F_il3, F_is6i, F_is6r, F_is6m, F_al0, F_il6, J_ifeq, F_al1, X_iald, T_goto, T_iast, F_inc5i, F_inc5r, F_inc5m, F_inc4i, F_inc4r, F_inc4m, T_ret, c145, c151, ↓s145, ↓s151, ↓reduceIte, TK, lt_run hn, le43, Int.le_refl, Int.lt_irrefl, Option.some.injEq, exists_eq_left', true_and, and_true, if_true, if_false, decide_eq_false_iff_not, decide_eq_true_eq, Nat.reduceAdd, Nat.reduceLeDiff, Nat.reduceLT, Int.reduceAdd, Int.reduceSub, Int.reduceMul, Int.reduceNeg, not_true_eq_false, not_false_eq_true]
    exact k h1 c1 e1
theorem w100 (hn : 775 ≤ n) (G1 : AR E g) (G2 : AR E a) (G3 : AR E b) (n1 : a ≠ g) (n2 : b ≠ g) (P1 : PA h a A) (P2 : PA h b B) (R1 : pcR A) (R2 : pcR B) {z m : Int} (hz : -200 ≤ z ∧ z ≤ 200) (hm : 1 ≤ m ∧ m ≤ 119) (k : ∀ h', PA h' g (pcF A B z m) → Ef (fun x _ => x = g) h h' → Q (none, h', hr, n)) : Sp E 100 [.ref g, .ref a, .ref b, .int (J z), .int (J m)] h hr n Q := by
  obtain ⟨g1, g2, g3, g4⟩ := G1
  obtain ⟨a1, a2, a3, a4⟩ := G2
  obtain ⟨b1, b2, b3, b4⟩ := G3
  have sr := kpt_r z m (by omega)
  have lp : ∀ e : Bool, e = decide (2 * kpt z m < m) → Tm E 100 (a_bl 100 3) [.ref g, .ref a, .ref b, .int (J z), .int (J m), .int (J (kpt z m)), .int (Bz e), .int (J 0)] [] h hr n Q := fun e he => by
    refine T_for (σ := Unit) (fun i _ => [.ref g, .ref a, .ref b, .int (J z), .int (J m), .int (J (kpt z m)), .int (Bz e), .int (J i)]) (fun i _ h' => Ef (fun x _ => x = g) h h' ∧ PU h' g (pcF A B z m) i) 0 1536 ?_ ?_ 0 () h (by omega) (by omega) ⟨Ef.refl, fun q _ _ => by omega⟩
    · rintro i _ h1 i0 i1 ⟨e1, c1⟩ ih
      have d1 := (P1.ef e1 (fun k => n1)) i i0 i1
      have d2 := (P2.ef e1 (fun k => n2)) i i0 i1
      have r1 := R1 i i0 i1
      have r2 := R2 i i0 i1
      by_cases z1 : A i = -1
      · have zz : ¬ (A i ≠ -1 ∧ B i ≠ -1) := fun q => q.1 z1
        by_cases z3 : 2 * kpt z m < m
        · rw [he, decide_eq_true z3] at ih ⊢
          rw [k100_3]
          simp +decide (maxSteps := 4000000) (disch := omega) only [k100_0, k100_1, k100_2, k100_4, k100_5, k100_6, k100_7, k100_8, k100_r, k100_s, F_il3, F_il4, F_is5i, F_is5r, F_is5m, T_I, F_il5, T_mul, T_icge, T_goto, T_ft, F_is6i, F_is6r, F_is6m, F_is7i, F_is7r, F_is7m, F_il7, F_al1, X_iald, T_iceq, F_al2, F_al0, T_iast, F_il6, J_ifeq, F_inc7i, F_inc7r, F_inc7m, T_ret, c101, c201, ↓s101, ↓s201, g1, g2, a1, a2, b1, b2, d1, d2, z1, Bz_t, show ¬ 1536 ≤ i by omega, ↓reduceIte, TK, lt_run hn, le43, Int.le_refl, Int.lt_irrefl, Option.some.injEq, exists_eq_left', true_and, and_true, if_true, if_false, decide_eq_false_iff_not, decide_eq_true_eq, Nat.reduceAdd, Nat.reduceLeDiff, Nat.reduceLT, Int.reduceAdd, Int.reduceSub, Int.reduceMul, Int.reduceNeg, not_true_eq_false, not_false_eq_true]
          exact ih () _ ⟨e1.sA rfl, c1.set i0 (by unfold pcF; rw [if_neg zz, if_pos z3, z1])⟩
        · rw [he, decide_eq_false z3] at ih ⊢
          rw [k100_3]
          simp +decide (maxSteps := 4000000) (disch := omega) only [k100_0, k100_1, k100_2, k100_4, k100_5, k100_6, k100_7, k100_8, k100_r, k100_s, F_il3, F_il4, F_is5i, F_is5r, F_is5m, T_I, F_il5, T_mul, T_icge, T_goto, T_ft, F_is6i, F_is6r, F_is6m, F_is7i, F_is7r, F_is7m, F_il7, F_al1, X_iald, T_iceq, F_al2, F_al0, T_iast, F_il6, J_ifeq, F_inc7i, F_inc7r, F_inc7m, T_ret, c101, c201, ↓s101, ↓s201, g1, g2, a1, a2, b1, b2, d1, d2, z1, Bz_f, show ¬ 1536 ≤ i by omega, ↓reduceIte, TK, lt_run hn, le43, Int.le_refl, Int.lt_irrefl, Option.some.injEq, exists_eq_left', true_and, and_true, if_true, if_false, decide_eq_false_iff_not, decide_eq_true_eq, Nat.reduceAdd, Nat.reduceLeDiff, Nat.reduceLT, Int.reduceAdd, Int.reduceSub, Int.reduceMul, Int.reduceNeg, not_true_eq_false, not_false_eq_true]
          exact ih () _ ⟨e1.sA rfl, c1.set i0 (by unfold pcF; rw [if_neg zz, if_neg z3])⟩
      · by_cases z2 : B i = -1
        · have zz : ¬ (A i ≠ -1 ∧ B i ≠ -1) := fun q => q.2 z2
          by_cases z3 : 2 * kpt z m < m
          · rw [he, decide_eq_true z3] at ih ⊢
            rw [k100_3]
            simp +decide (maxSteps := 4000000) (disch := omega) only [k100_0, k100_1, k100_2, k100_4, k100_5, k100_6, k100_7, k100_8, k100_r, k100_s, F_il3, F_il4, F_is5i, F_is5r, F_is5m, T_I, F_il5, T_mul, T_icge, T_goto, T_ft, F_is6i, F_is6r, F_is6m, F_is7i, F_is7r, F_is7m, F_il7, F_al1, X_iald, T_iceq, F_al2, F_al0, T_iast, F_il6, J_ifeq, F_inc7i, F_inc7r, F_inc7m, T_ret, c101, c201, ↓s101, ↓s201, g1, g2, a1, a2, b1, b2, d1, d2, z1, z2, Bz_t, show ¬ 1536 ≤ i by omega, ↓reduceIte, TK, lt_run hn, le43, Int.le_refl, Int.lt_irrefl, Option.some.injEq, exists_eq_left', true_and, and_true, if_true, if_false, decide_eq_false_iff_not, decide_eq_true_eq, Nat.reduceAdd, Nat.reduceLeDiff, Nat.reduceLT, Int.reduceAdd, Int.reduceSub, Int.reduceMul, Int.reduceNeg, not_true_eq_false, not_false_eq_true]
            exact ih () _ ⟨e1.sA rfl, c1.set i0 (by unfold pcF; rw [if_neg zz, if_pos z3])⟩
          · rw [he, decide_eq_false z3] at ih ⊢
            rw [k100_3]
            simp +decide (maxSteps := 4000000) (disch := omega) only [k100_0, k100_1, k100_2, k100_4, k100_5, k100_6, k100_7, k100_8, k100_r, k100_s, F_il3, F_il4, F_is5i, F_is5r, F_is5m, T_I, F_il5, T_mul, T_icge, T_goto, T_ft, F_is6i, F_is6r, F_is6m, F_is7i, F_is7r, F_is7m, F_il7, F_al1, X_iald, T_iceq, F_al2, F_al0, T_iast, F_il6, J_ifeq, F_inc7i, F_inc7r, F_inc7m, T_ret, c101, c201, ↓s101, ↓s201, g1, g2, a1, a2, b1, b2, d1, d2, z1, z2, Bz_f, show ¬ 1536 ≤ i by omega, ↓reduceIte, TK, lt_run hn, le43, Int.le_refl, Int.lt_irrefl, Option.some.injEq, exists_eq_left', true_and, and_true, if_true, if_false, decide_eq_false_iff_not, decide_eq_true_eq, Nat.reduceAdd, Nat.reduceLeDiff, Nat.reduceLT, Int.reduceAdd, Int.reduceSub, Int.reduceMul, Int.reduceNeg, not_true_eq_false, not_false_eq_true]
            exact ih () _ ⟨e1.sA rfl, c1.set i0 (by unfold pcF; rw [if_neg zz, if_neg z3, z2])⟩
        · rw [k100_3]
          simp +decide (maxSteps := 4000000) (disch := omega) only [k100_0, k100_1, k100_2, k100_4, k100_5, k100_6, k100_7, k100_8, k100_r, k100_s, F_il3, F_il4, F_is5i, F_is5r, F_is5m, T_I, F_il5, T_mul, T_icge, T_goto, T_ft, F_is6i, F_is6r, F_is6m, F_is7i, F_is7r, F_is7m, F_il7, F_al1, X_iald, T_iceq, F_al2, F_al0, T_iast, F_il6, J_ifeq, F_inc7i, F_inc7r, F_inc7m, T_ret, c101, c201, ↓s101, ↓s201, g1, g2, a1, a2, b1, b2, d1, d2, z1, z2, show ¬ 1536 ≤ i by omega, ↓reduceIte, TK, lt_run hn, le43, Int.le_refl, Int.lt_irrefl, Option.some.injEq, exists_eq_left', true_and, and_true, if_true, if_false, decide_eq_false_iff_not, decide_eq_true_eq, Nat.reduceAdd, Nat.reduceLeDiff, Nat.reduceLT, Int.reduceAdd, Int.reduceSub, Int.reduceMul, Int.reduceNeg, not_true_eq_false, not_false_eq_true]
          exact ih () _ ⟨e1.sA rfl, c1.set i0 (by unfold pcF; rw [if_pos ⟨z1, z2⟩])⟩
    · rintro _ h1 ⟨e1, c1⟩
      rw [k100_3]
      simp +decide (maxSteps := 4000000) (disch := omega) only [k100_0, k100_1, k100_2, k100_4, k100_5, k100_6, k100_7, k100_8, k100_r, k100_s, F_il3, F_il4, F_is5i, F_is5r, F_is5m, T_I, F_il5, T_mul, T_icge, T_goto, T_ft, F_is6i, F_is6r, F_is6m, F_is7i, F_is7r, F_is7m, F_il7, F_al1, X_iald, T_iceq, F_al2, F_al0, T_iast, F_il6, J_ifeq, F_inc7i, F_inc7r, F_inc7m, T_ret, c101, c201, ↓s101, ↓s201, ↓reduceIte, TK, lt_run hn, le43, Int.le_refl, Int.lt_irrefl, Option.some.injEq, exists_eq_left', true_and, and_true, if_true, if_false, decide_eq_false_iff_not, decide_eq_true_eq, Nat.reduceAdd, Nat.reduceLeDiff, Nat.reduceLT, Int.reduceAdd, Int.reduceSub, Int.reduceMul, Int.reduceNeg, not_true_eq_false, not_false_eq_true]
      exact k h1 c1 e1
  by_cases z3 : 2 * kpt z m < m
  · simp +decide (maxSteps := 4000000) (disch := omega) only [k100_0, k100_1, k100_2, k100_4, k100_5, k100_6, k100_7, k100_8, k100_r, k100_s, F_il3, F_il4, F_is5i, F_is5r, F_is5m, T_I, F_il5, T_mul, T_icge, T_goto, T_ft, F_is6i, F_is6r, F_is6m, F_is7i, F_is7r, F_is7m, F_il7, F_al1, X_iald, T_iceq, F_al2, F_al0, T_iast, F_il6, J_ifeq, F_inc7i, F_inc7r, F_inc7m, T_ret, c101, c201, ↓s101, ↓s201, z3, show ¬ m ≤ 2 * kpt z m by omega, ↓reduceIte, TK, lt_run hn, le43, Int.le_refl, Int.lt_irrefl, Option.some.injEq, exists_eq_left', true_and, and_true, if_true, if_false, decide_eq_false_iff_not, decide_eq_true_eq, Nat.reduceAdd, Nat.reduceLeDiff, Nat.reduceLT, Int.reduceAdd, Int.reduceSub, Int.reduceMul, Int.reduceNeg, not_true_eq_false, not_false_eq_true]
    exact lp true (decide_eq_true z3).symm
  · simp +decide (maxSteps := 4000000) (disch := omega) only [k100_0, k100_1, k100_2, k100_4, k100_5, k100_6, k100_7, k100_8, k100_r, k100_s, F_il3, F_il4, F_is5i, F_is5r, F_is5m, T_I, F_il5, T_mul, T_icge, T_goto, T_ft, F_is6i, F_is6r, F_is6m, F_is7i, F_is7r, F_is7m, F_il7, F_al1, X_iald, T_iceq, F_al2, F_al0, T_iast, F_il6, J_ifeq, F_inc7i, F_inc7r, F_inc7m, T_ret, c101, c201, ↓s101, ↓s201, z3, show m ≤ 2 * kpt z m by omega, ↓reduceIte, TK, lt_run hn, le43, Int.le_refl, Int.lt_irrefl, Option.some.injEq, exists_eq_left', true_and, and_true, if_true, if_false, decide_eq_false_iff_not, decide_eq_true_eq, Nat.reduceAdd, Nat.reduceLeDiff, Nat.reduceLT, Int.reduceAdd, Int.reduceSub, Int.reduceMul, Int.reduceNeg, not_true_eq_false, not_false_eq_true]
    exact lp false (decide_eq_false z3).symm
theorem rsB_0 (k : Nat) (A : Pic) (x : Int) {v : Int} (hv : v < 0 ∨ 31 < v) : ∀ i : Nat, rsB k A x v i = 0 := by
  intro i
  induction i with
  | zero => rfl
  | succ i ih =>
    show rsB k A x v i + tmB k A (x - 1 + i) v = 0
    rw [ih]
    unfold tmB
    rw [if_neg (fun q => by omega)]
    rfl
theorem tmB_0 (k : Nat) (A : Pic) {u : Int} (v : Int) (hu : u < 0 ∨ 47 < u) : tmB k A u v = 0 := by
  unfold tmB
  rw [if_neg (fun q => by omega)]
theorem rsB_s (k : Nat) (A : Pic) (x v : Int) {u : Int} (h : x - 1 ≤ u) : rsB k A x v (u + 1 - (x - 1)).toNat = rsB k A x v (u - (x - 1)).toNat + tmB k A u v := by
  rw [show (u + 1 - (x - 1)).toNat = (u - (x - 1)).toNat + 1 by omega]
  show _ + tmB k A (x - 1 + ((u - (x - 1)).toNat : Int)) v = _
  rw [show x - 1 + ((u - (x - 1)).toNat : Int) = u by omega]
  rfl
theorem tsB_s (k : Nat) (A : Pic) (x y : Int) {v : Int} (h : y - 1 ≤ v) : tsB k A x y (v + 1 - (y - 1)).toNat = tsB k A x y (v - (y - 1)).toNat + rsB k A x v 3 := by
  rw [show (v + 1 - (y - 1)).toNat = (v - (y - 1)).toNat + 1 by omega]
  show _ + rsB k A x (y - 1 + ((v - (y - 1)).toNat : Int)) 3 = _
  rw [show y - 1 + ((v - (y - 1)).toNat : Int) = v by omega]
  rfl
theorem tsB_b (k : Nat) (A : Pic) (x : Int) {y : Int} (hy : 0 ≤ y ∧ y ≤ 31) : tsB k A x y ((if 0 < y - 1 then y - 1 else 0) - (y - 1)).toNat = 0 := by
  by_cases g : 0 < y - 1
  · rw [if_pos g, Int.sub_self]
    rfl
  · rw [if_neg g]
    by_cases g2 : y = 1
    · rw [g2]
      rfl
    · rw [show y = 0 by omega]
      show 0 + rsB k A x (0 - 1 + ((0 : Nat) : Int)) 3 = 0
      rw [rsB_0 k A x (by omega)]
      rfl
theorem tsB_e (k : Nat) (A : Pic) (x : Int) {y : Int} (hy : 0 ≤ y ∧ y ≤ 31) : tsB k A x y ((if y + 1 < 31 then y + 1 else 31) + 1 - (y - 1)).toNat = tsB k A x y 3 := by
  by_cases g : y + 1 < 31
  · rw [if_pos g, show (y + 1 + 1 - (y - 1)).toNat = 3 by omega]
  · rw [if_neg g]
    by_cases g2 : y = 30
    · rw [g2]
      rfl
    · rw [show y = 31 by omega]
      show tsB k A x 31 2 = tsB k A x 31 2 + rsB k A x (31 - 1 + ((2 : Nat) : Int)) 3
      rw [rsB_0 k A x (by omega)]
      omega
theorem rsB_b (k : Nat) (A : Pic) {x : Int} (v : Int) (hx : 0 ≤ x ∧ x ≤ 47) : rsB k A x v ((if 0 < x - 1 then x - 1 else 0) - (x - 1)).toNat = 0 := by
  by_cases g : 0 < x - 1
  · rw [if_pos g, Int.sub_self]
    rfl
  · rw [if_neg g]
    by_cases g2 : x = 1
    · rw [g2]
      rfl
    · rw [show x = 0 by omega]
      show 0 + tmB k A (0 - 1 + ((0 : Nat) : Int)) v = 0
      rw [tmB_0 k A v (by omega)]
      rfl
theorem rsB_e (k : Nat) (A : Pic) {x : Int} (v : Int) (hx : 0 ≤ x ∧ x ≤ 47) : rsB k A x v ((if x + 1 < 47 then x + 1 else 47) + 1 - (x - 1)).toNat = rsB k A x v 3 := by
  by_cases g : x + 1 < 47
  · rw [if_pos g, show (x + 1 + 1 - (x - 1)).toNat = 3 by omega]
  · rw [if_neg g]
    by_cases g2 : x = 46
    · rw [g2]
      rfl
    · rw [show x = 47 by omega]
      show rsB k A 47 v 2 = rsB k A 47 v 2 + tmB k A (47 - 1 + ((2 : Nat) : Int)) v
      rw [tmB_0 k A v (by omega)]
      omega
theorem w103 (hn : 775 ≤ n) (G2 : AR E a) (P1 : PA h a A) (R1 : pcR A) {x y : Int} (hx : 0 ≤ x ∧ x ≤ 47) (hy : 0 ≤ y ∧ y ≤ 31) (ha : A (y * 48 + x) ≠ -1) (k : Q (some (.int (J (blr A x y))), h, hr, n)) : Sp E 103 [.ref a, .int (J x), .int (J y)] h hr n Q := by
  obtain ⟨a1, a2, a3, a4⟩ := G2
  have m1 : 0 ≤ (if 0 < y - 1 then y - 1 else 0) ∧ y - 1 ≤ (if 0 < y - 1 then y - 1 else 0) ∧ (if 0 < y - 1 then y - 1 else 0) ≤ y := by split <;> omega
  have m2 : (if y + 1 < 31 then y + 1 else 31) ≤ 31 ∧ (if y + 1 < 31 then y + 1 else 31) ≤ y + 1 ∧ y ≤ (if y + 1 < 31 then y + 1 else 31) := by split <;> omega
  have m3 : 0 ≤ (if 0 < x - 1 then x - 1 else 0) ∧ x - 1 ≤ (if 0 < x - 1 then x - 1 else 0) ∧ (if 0 < x - 1 then x - 1 else 0) ≤ x := by split <;> omega
  have m4 : (if x + 1 < 47 then x + 1 else 47) ≤ 47 ∧ (if x + 1 < 47 then x + 1 else 47) ≤ x + 1 ∧ x ≤ (if x + 1 < 47 then x + 1 else 47) := by split <;> omega
  have b1 := fun k => tsB_b k A x hy
  have b2 := fun k => tsB_e k A x hy
  have b3 := fun k v => rsB_b k A v hx
  have b4 := fun k v => rsB_e k A v hx
  have p := tsB_p hx hy ha
  obtain ⟨⟨q1, q2, q3⟩, _⟩ := blr_r hx hy ha
  have t := fun k => tsB_r k A x y 3
  have t1 := t 1
  have t2 := t 2
  have t3 := t 3
  unfold blr pk3 at k
  simp +decide (maxSteps := 4000000) (disch := omega) only [k103_0, k103_3, k103_4, k103_5, k103_r, k103_s, T_I, F_is3i, F_is3r, F_is3m, F_is4i, F_is4r, F_is4m, F_is5i, F_is5r, F_is5m, F_is6i, F_is6r, F_is6m, F_il2, T_sub, F_is7i, F_is7r, F_is7m, T_ft, F_il7, T_add, T_icgt, F_il1, F_is8i, F_is8r, F_is8m, F_il8, F_al0, X_iald, F_is9i, F_is9r, F_is9m, F_il9, T_iceq, F_inc3i, F_inc3r, F_inc3m, F_il4, T_shr, T_and, F_il5, F_il6, F_inc8i, F_inc8r, F_inc8m, T_goto, F_inc7i, F_inc7r, F_inc7m, T_i2l, F_il3, T_shl, T_or, T_ret, c146, c151, c347, c349, ↓s146, ↓s151, ↓s347, ↓s349, ↓reduceIte, TK, lt_run hn, le43, Int.le_refl, Int.lt_irrefl, Option.some.injEq, exists_eq_left', true_and, and_true, if_true, if_false, decide_eq_false_iff_not, decide_eq_true_eq, Nat.reduceAdd, Nat.reduceLeDiff, Nat.reduceLT, Int.reduceAdd, Int.reduceSub, Int.reduceMul, Int.reduceNeg, not_true_eq_false, not_false_eq_true]
  generalize hy0 : (if 0 < y - 1 then y - 1 else 0) = ya at *
  have lp := T_for (E := E) (m := 103) (L := 1) (hr := hr) (n := n) (Q := Q) (σ := Value × Value) (fun v w => [.ref a, .int (J x), .int (J y), .int (J (tsB 0 A x y (v - (y - 1)).toNat)), .int (J (tsB 1 A x y (v - (y - 1)).toNat)), .int (J (tsB 2 A x y (v - (y - 1)).toNat)), .int (J (tsB 3 A x y (v - (y - 1)).toNat)), .int (J v), w.1, w.2]) (fun _ _ h' => h' = h) ya ((if y + 1 < 31 then y + 1 else 31) + 1) ?_ ?_ ya (a_mk, a_mk) h (by omega) (by omega) rfl
  · rw [b1 0, b1 1, b1 2, b1 3] at lp
    exact lp
  · rintro v ⟨w8, w9⟩ h1 v0 v1 rfl ih
    dsimp only
    have ih' := fun w => ih w _ rfl
    rw [tsB_s 0 A x y (by omega), tsB_s 1 A x y (by omega), tsB_s 2 A x y (by omega), tsB_s 3 A x y (by omega)] at ih'
    have tr := fun k => tsB_r k A x y (v - (y - 1)).toNat
    have z1 := tr 1
    have z2 := tr 2
    have z3 := tr 3
    generalize tsB 0 A x y (v - (y - 1)).toNat = s0 at *
    generalize tsB 1 A x y (v - (y - 1)).toNat = s1 at *
    generalize tsB 2 A x y (v - (y - 1)).toNat = s2 at *
    generalize tsB 3 A x y (v - (y - 1)).toNat = s3 at *
    rw [k103_1]
    simp +decide (maxSteps := 4000000) (disch := omega) only [k103_0, k103_3, k103_4, k103_5, k103_r, k103_s, T_I, F_is3i, F_is3r, F_is3m, F_is4i, F_is4r, F_is4m, F_is5i, F_is5r, F_is5m, F_is6i, F_is6r, F_is6m, F_il2, T_sub, F_is7i, F_is7r, F_is7m, T_ft, F_il7, T_add, T_icgt, F_il1, F_is8i, F_is8r, F_is8m, F_il8, F_al0, X_iald, F_is9i, F_is9r, F_is9m, F_il9, T_iceq, F_inc3i, F_inc3r, F_inc3m, F_il4, T_shr, T_and, F_il5, F_il6, F_inc8i, F_inc8r, F_inc8m, T_goto, F_inc7i, F_inc7r, F_inc7m, T_i2l, F_il3, T_shl, T_or, T_ret, c146, c151, c347, c349, ↓s146, ↓s151, ↓s347, ↓s349, show ¬ (if y + 1 < 31 then y + 1 else 31) < v by omega, ↓reduceIte, TK, lt_run hn, le43, Int.le_refl, Int.lt_irrefl, Option.some.injEq, exists_eq_left', true_and, and_true, if_true, if_false, decide_eq_false_iff_not, decide_eq_true_eq, Nat.reduceAdd, Nat.reduceLeDiff, Nat.reduceLT, Int.reduceAdd, Int.reduceSub, Int.reduceMul, Int.reduceNeg, not_true_eq_false, not_false_eq_true]
    generalize hx0 : (if 0 < x - 1 then x - 1 else 0) = xa at *
    have lq := T_for (E := E) (m := 103) (L := 2) (hr := hr) (n := n) (Q := Q) (σ := Value) (fun u w => [.ref a, .int (J x), .int (J y), .int (J (s0 + rsB 0 A x v (u - (x - 1)).toNat)), .int (J (s1 + rsB 1 A x v (u - (x - 1)).toNat)), .int (J (s2 + rsB 2 A x v (u - (x - 1)).toNat)), .int (J (s3 + rsB 3 A x v (u - (x - 1)).toNat)), .int (J v), .int (J u), w]) (fun _ _ h' => h' = h1) xa ((if x + 1 < 47 then x + 1 else 47) + 1) ?_ ?_ xa w9 h1 (by omega) (by omega) rfl
    · rw [b3 0 v, b3 1 v, b3 2 v, b3 3 v, Int.add_zero, Int.add_zero, Int.add_zero, Int.add_zero] at lq
      exact lq
    · rintro u w h2 u0 u1 rfl ihu
      have ihu' := fun w => ihu w _ rfl
      rw [rsB_s 0 A x v (by omega), rsB_s 1 A x v (by omega), rsB_s 2 A x v (by omega), rsB_s 3 A x v (by omega)] at ihu'
      have d1 := P1 (v * 48 + u) (by omega) (by omega)
      have r1 := R1 (v * 48 + u) (by omega) (by omega)
      unfold tmB at ihu'
      by_cases g : A (v * 48 + u) = -1
      · have ng : ¬ (((0 ≤ u ∧ u ≤ 47) ∧ 0 ≤ v ∧ v ≤ 31) ∧ A (v * 48 + u) ≠ -1) := fun q => q.2 g
        simp only [if_neg ng, Int.add_zero] at ihu'
        rw [k103_2]
        simp +decide (maxSteps := 4000000) (disch := omega) only [k103_0, k103_3, k103_4, k103_5, k103_r, k103_s, T_I, F_is3i, F_is3r, F_is3m, F_is4i, F_is4r, F_is4m, F_is5i, F_is5r, F_is5m, F_is6i, F_is6r, F_is6m, F_il2, T_sub, F_is7i, F_is7r, F_is7m, T_ft, F_il7, T_add, T_icgt, F_il1, F_is8i, F_is8r, F_is8m, F_il8, F_al0, X_iald, F_is9i, F_is9r, F_is9m, F_il9, T_iceq, F_inc3i, F_inc3r, F_inc3m, F_il4, T_shr, T_and, F_il5, F_il6, F_inc8i, F_inc8r, F_inc8m, T_goto, F_inc7i, F_inc7r, F_inc7m, T_i2l, F_il3, T_shl, T_or, T_ret, c146, c151, c347, c349, ↓s146, ↓s151, ↓s347, ↓s349, a1, a2, d1, g, show ¬ (if x + 1 < 47 then x + 1 else 47) < u by omega, ↓reduceIte, TK, lt_run hn, le43, Int.le_refl, Int.lt_irrefl, Option.some.injEq, exists_eq_left', true_and, and_true, if_true, if_false, decide_eq_false_iff_not, decide_eq_true_eq, Nat.reduceAdd, Nat.reduceLeDiff, Nat.reduceLT, Int.reduceAdd, Int.reduceSub, Int.reduceMul, Int.reduceNeg, not_true_eq_false, not_false_eq_true]
        exact ihu' _
      · have ng : ((0 ≤ u ∧ u ≤ 47) ∧ 0 ≤ v ∧ v ≤ 31) ∧ A (v * 48 + u) ≠ -1 := ⟨by omega, g⟩
        simp +decide only [if_pos ng, if_true, if_false, ← Int.add_assoc] at ihu'
        rw [k103_2]
        simp +decide (maxSteps := 4000000) (disch := omega) only [k103_0, k103_3, k103_4, k103_5, k103_r, k103_s, T_I, F_is3i, F_is3r, F_is3m, F_is4i, F_is4r, F_is4m, F_is5i, F_is5r, F_is5m, F_is6i, F_is6r, F_is6m, F_il2, T_sub, F_is7i, F_is7r, F_is7m, T_ft, F_il7, T_add, T_icgt, F_il1, F_is8i, F_is8r, F_is8m, F_il8, F_al0, X_iald, F_is9i, F_is9r, F_is9m, F_il9, T_iceq, F_inc3i, F_inc3r, F_inc3m, F_il4, T_shr, T_and, F_il5, F_il6, F_inc8i, F_inc8r, F_inc8m, T_goto, F_inc7i, F_inc7r, F_inc7m, T_i2l, F_il3, T_shl, T_or, T_ret, c146, c151, c347, c349, ↓s146, ↓s151, ↓s347, ↓s349, a1, a2, d1, g, sr16, sr8, an255, show ¬ (if x + 1 < 47 then x + 1 else 47) < u by omega, ↓reduceIte, TK, lt_run hn, le43, Int.le_refl, Int.lt_irrefl, Option.some.injEq, exists_eq_left', true_and, and_true, if_true, if_false, decide_eq_false_iff_not, decide_eq_true_eq, Nat.reduceAdd, Nat.reduceLeDiff, Nat.reduceLT, Int.reduceAdd, Int.reduceSub, Int.reduceMul, Int.reduceNeg, not_true_eq_false, not_false_eq_true]
        exact ihu' _
    · rintro w h2 rfl
      rw [b4 0 v, b4 1 v, b4 2 v, b4 3 v]
      rw [k103_2]
      simp +decide (maxSteps := 4000000) (disch := omega) only [k103_0, k103_3, k103_4, k103_5, k103_r, k103_s, T_I, F_is3i, F_is3r, F_is3m, F_is4i, F_is4r, F_is4m, F_is5i, F_is5r, F_is5m, F_is6i, F_is6r, F_is6m, F_il2, T_sub, F_is7i, F_is7r, F_is7m, T_ft, F_il7, T_add, T_icgt, F_il1, F_is8i, F_is8r, F_is8m, F_il8, F_al0, X_iald, F_is9i, F_is9r, F_is9m, F_il9, T_iceq, F_inc3i, F_inc3r, F_inc3m, F_il4, T_shr, T_and, F_il5, F_il6, F_inc8i, F_inc8r, F_inc8m, T_goto, F_inc7i, F_inc7r, F_inc7m, T_i2l, F_il3, T_shl, T_or, T_ret, c146, c151, c347, c349, ↓s146, ↓s151, ↓s347, ↓s349, show (if x + 1 < 47 then x + 1 else 47) < (if x + 1 < 47 then x + 1 else 47) + 1 by omega, ↓reduceIte, TK, lt_run hn, le43, Int.le_refl, Int.lt_irrefl, Option.some.injEq, exists_eq_left', true_and, and_true, if_true, if_false, decide_eq_false_iff_not, decide_eq_true_eq, Nat.reduceAdd, Nat.reduceLeDiff, Nat.reduceLT, Int.reduceAdd, Int.reduceSub, Int.reduceMul, Int.reduceNeg, not_true_eq_false, not_false_eq_true]
      exact ih' (_, _)
  · rintro ⟨w8, w9⟩ h1 rfl
    dsimp only
    rw [b2 0, b2 1, b2 2, b2 3]
    rw [k103_1]
    simp +decide (maxSteps := 4000000) (disch := omega) only [k103_0, k103_3, k103_4, k103_5, k103_r, k103_s, T_I, F_is3i, F_is3r, F_is3m, F_is4i, F_is4r, F_is4m, F_is5i, F_is5r, F_is5m, F_is6i, F_is6r, F_is6m, F_il2, T_sub, F_is7i, F_is7r, F_is7m, T_ft, F_il7, T_add, T_icgt, F_il1, F_is8i, F_is8r, F_is8m, F_il8, F_al0, X_iald, F_is9i, F_is9r, F_is9m, F_il9, T_iceq, F_inc3i, F_inc3r, F_inc3m, F_il4, T_shr, T_and, F_il5, F_il6, F_inc8i, F_inc8r, F_inc8m, T_goto, F_inc7i, F_inc7r, F_inc7m, T_i2l, F_il3, T_shl, T_or, T_ret, c146, c151, c347, c349, ↓s146, ↓s151, ↓s347, ↓s349, show (if y + 1 < 31 then y + 1 else 31) < (if y + 1 < 31 then y + 1 else 31) + 1 by omega, J_l, sl16, sl8, or16, or8', ↓reduceIte, TK, lt_run hn, le43, Int.le_refl, Int.lt_irrefl, Option.some.injEq, exists_eq_left', true_and, and_true, if_true, if_false, decide_eq_false_iff_not, decide_eq_true_eq, Nat.reduceAdd, Nat.reduceLeDiff, Nat.reduceLT, Int.reduceAdd, Int.reduceSub, Int.reduceMul, Int.reduceNeg, not_true_eq_false, not_false_eq_true]
    exact k
end PK
