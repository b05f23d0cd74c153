/-! track: the reference, both sides -/
section TS
variable {E : AEn} {h h' : AHi} {hr : AHr} {n : Nat} {Q : ARs → Prop} {l t p f m k w : Int} {b D : Int → Int}
theorem z335 (F : FH hr) (hn : 775 ≤ n) {v1 v2 : Int32} : ∀ (q : Nat) (p m : Int) (D : Int → Int) (h : AHi) (v5 : Value), m + q = 101 → 0 < q → 0 ≤ p → p ≤ t → 0 ≤ m → Rtk D → TpM h t b → Rk h 774 m D →
    (∀ h' p' m' (v4 : Int32) (v5 : Value), 0 ≤ p' → p' ≤ 1700 → Ef (fun a k => a = 774) h h' → ((trs b t q m p D).1 = -1 → m' = (trs b t q m p D).2.1 ∧ Rk h' 774 (trs b t q m p D).2.1 (trs b t q m p D).2.2) → Tm E 335 (a_bl 335 11) [.ref 704, .int v1, .int v2, .int (J m'), .int v4, v5] [] (MS h' p' (trs b t q m p D).1) hr n Q) →
    Tm E 335 (a_bl 335 5) [.ref 704, .int v1, .int v2, .int (J m), .int (J 1), v5] [] (MS h p (-1)) hr n Q := by
  intro q
  induction q with
  | zero => intro p m D h v5 q0 q1; omega
  | succ q ih =>
    intro p m D h v5 q0 _ p0 p1 m0 hD T R kk
    have t1 := T.1
    have t3 := T.2.2.1
    have ib := int_b (t := t) (f := -1) T.2.1 T.1 (-100) 100 (p := p) (by omega) (Or.inl rfl)
    have ibM := numM_b (t := t) (f := -1) T.2.1 T.1 true (lo := -100) (hi := 100) (by decide) (p := p) (by omega) (Or.inl rfl)
    have ir := int_rel (b := b) (t := t) T.2.1 (lo := -100) (hi := 100) (p := p) p0
    unfold trs at kk
    by_cases g0 : m = 100
    · rw [if_pos g0] at kk
      have f1 : p ≠ -1 := by omega
      have nf : numM b t true (-100) 100 p p = (-100, p, p) := by
        unfold numM
        rw [if_neg f1]
      subst g0
      by_cases g1 : t ≤ p
      · have fin := kk h p 100 (J 0) (.int (J (-100))) p0 (by omega) Ef.refl (fun z => absurd z f1)
        rw [k335_5]
        simp +decide (maxSteps := 4000000) (disch := omega) only [k335_0, k335_1, k335_2, k335_3, k335_4, k335_6, k335_7, k335_8, k335_9, k335_10, k335_12, k335_14, k335_r, k335_s, F_al0, F_il1, T_I, J_ifeq, F_il2, J_ifne, T_ft, T_ret, F_is3i, F_is3r, F_is3m, T_getI, J_ifle, T_goto, F_is4i, F_is4r, F_is4m, F_il4, F_il3, J_icne, F_is5i, F_is5r, F_is5m, T_getR, F_il5, T_iast, F_inc3i, F_inc3r, F_inc3m, T_icge, T_mul, T_add, X_iald, F_inc5i, F_inc5r, F_inc5m, c217, c219, c220, c221, c224, c225, c226, ↓s219, ↓s225, ↓s226, FM F, MX, ↓s221 F hn, ↓s224 F hn, y220 F hn T, nf, rf_y, f1, t3, g1, ↓reduceIte, TK, lt_run hn, le43, Int.le_refl, Int.lt_irrefl, Option.some.injEq, exists_eq_left', true_and, and_true, if_true, if_false, decide_eq_false_iff_not, decide_eq_true_eq, Nat.reduceAdd, Nat.reduceLeDiff, Nat.reduceLT, Int.reduceAdd, Int.reduceSub, Int.reduceMul, Int.reduceNeg, not_true_eq_false, not_false_eq_true]
        rw [k335_5]
        simp +decide (maxSteps := 4000000) (disch := omega) only [k335_0, k335_1, k335_2, k335_3, k335_4, k335_6, k335_7, k335_8, k335_9, k335_10, k335_12, k335_14, k335_r, k335_s, F_al0, F_il1, T_I, J_ifeq, F_il2, J_ifne, T_ft, T_ret, F_is3i, F_is3r, F_is3m, T_getI, J_ifle, T_goto, F_is4i, F_is4r, F_is4m, F_il4, F_il3, J_icne, F_is5i, F_is5r, F_is5m, T_getR, F_il5, T_iast, F_inc3i, F_inc3r, F_inc3m, T_icge, T_mul, T_add, X_iald, F_inc5i, F_inc5r, F_inc5m, c217, c219, c220, c221, c224, c225, c226, ↓s219, ↓s224, ↓s225, ↓s226, ↓s221 F hn, f1, ↓reduceIte, TK, lt_run hn, le43, Int.le_refl, Int.lt_irrefl, Option.some.injEq, exists_eq_left', true_and, and_true, if_true, if_false, decide_eq_false_iff_not, decide_eq_true_eq, Nat.reduceAdd, Nat.reduceLeDiff, Nat.reduceLT, Int.reduceAdd, Int.reduceSub, Int.reduceMul, Int.reduceNeg, not_true_eq_false, not_false_eq_true]
        exact fin
      · have fin := kk h p 100 (J 1) (.int (J (-100))) p0 (by omega) Ef.refl (fun z => absurd z f1)
        rw [k335_5]
        simp +decide (maxSteps := 4000000) (disch := omega) only [k335_0, k335_1, k335_2, k335_3, k335_4, k335_6, k335_7, k335_8, k335_9, k335_10, k335_12, k335_14, k335_r, k335_s, F_al0, F_il1, T_I, J_ifeq, F_il2, J_ifne, T_ft, T_ret, F_is3i, F_is3r, F_is3m, T_getI, J_ifle, T_goto, F_is4i, F_is4r, F_is4m, F_il4, F_il3, J_icne, F_is5i, F_is5r, F_is5m, T_getR, F_il5, T_iast, F_inc3i, F_inc3r, F_inc3m, T_icge, T_mul, T_add, X_iald, F_inc5i, F_inc5r, F_inc5m, c217, c219, c220, c221, c224, c225, c226, ↓s219, ↓s226, FM F, MX, ↓s221 F hn, ↓s224 F hn, ↓s225 F hn T, y220 F hn T, nf, rf_y, rf_n f1, f1, false_and, t3, g1, ↓reduceIte, TK, lt_run hn, le43, Int.le_refl, Int.lt_irrefl, Option.some.injEq, exists_eq_left', true_and, and_true, if_true, if_false, decide_eq_false_iff_not, decide_eq_true_eq, Nat.reduceAdd, Nat.reduceLeDiff, Nat.reduceLT, Int.reduceAdd, Int.reduceSub, Int.reduceMul, Int.reduceNeg, not_true_eq_false, not_false_eq_true]
        rw [k335_5]
        simp +decide (maxSteps := 4000000) (disch := omega) only [k335_0, k335_1, k335_2, k335_3, k335_4, k335_6, k335_7, k335_8, k335_9, k335_10, k335_12, k335_14, k335_r, k335_s, F_al0, F_il1, T_I, J_ifeq, F_il2, J_ifne, T_ft, T_ret, F_is3i, F_is3r, F_is3m, T_getI, J_ifle, T_goto, F_is4i, F_is4r, F_is4m, F_il4, F_il3, J_icne, F_is5i, F_is5r, F_is5m, T_getR, F_il5, T_iast, F_inc3i, F_inc3r, F_inc3m, T_icge, T_mul, T_add, X_iald, F_inc5i, F_inc5r, F_inc5m, c217, c219, c220, c221, c224, c225, c226, ↓s219, ↓s224, ↓s225, ↓s226, ↓s221 F hn, f1, ↓reduceIte, TK, lt_run hn, le43, Int.le_refl, Int.lt_irrefl, Option.some.injEq, exists_eq_left', true_and, and_true, if_true, if_false, decide_eq_false_iff_not, decide_eq_true_eq, Nat.reduceAdd, Nat.reduceLeDiff, Nat.reduceLT, Int.reduceAdd, Int.reduceSub, Int.reduceMul, Int.reduceNeg, not_true_eq_false, not_false_eq_true]
        exact fin
    rw [if_neg g0] at kk
    by_cases g : (intC b t (-100) 100 p (-1)).2.2 = -1
    · obtain ⟨q2, u1, u2, u3⟩ := ir.2 g
      rw [if_pos g] at kk
      rw [← q2] at kk g u1 u2 u3
      have T1 : TpM (sA h 774 m (J (numM b t true (-100) 100 p (-1)).1)) t b := T.ef (S := fun a k => a = 774) (Ef.refl.sA rfl) (by decide) (fun k => by decide)
      have R1 := Rk_u (v := (numM b t true (-100) 100 p (-1)).1) R m0
      have e1 : Ef (fun a k => a = 774) h (sA h 774 m (J (numM b t true (-100) 100 p (-1)).1)) := Ef.refl.sA rfl
      have t4 := T1.2.2.1
      have go : Tm E 335 (a_bl 335 7) [.ref 704, .int v1, .int v2, .int (J (m + 1)), .int (J 1), .int (J (numM b t true (-100) 100 p (-1)).1)] [] (MS (sA h 774 m (J (numM b t true (-100) 100 p (-1)).1)) (numM b t true (-100) 100 p (-1)).2.1 (-1)) hr n Q := by
        rw [k335_7]
        generalize numM b t true (-100) 100 p (-1) = r at *
        by_cases g1 : t ≤ r.2.1
        · rw [if_pos g1] at kk
          have fin := kk _ r.2.1 (m + 1) (J 0) (.int (J r.1)) (by omega) (by omega) e1 (fun _ => ⟨rfl, R1⟩)
          simp +decide (maxSteps := 4000000) (disch := omega) only [k335_0, k335_1, k335_2, k335_3, k335_4, k335_6, k335_7, k335_8, k335_9, k335_10, k335_11, k335_12, k335_14, k335_r, k335_s, F_al0, F_il1, T_I, J_ifeq, F_il2, J_ifne, T_ft, T_ret, F_is3i, F_is3r, F_is3m, T_getI, J_ifle, T_goto, F_is4i, F_is4r, F_is4m, F_il4, F_il3, J_icne, F_is5i, F_is5r, F_is5m, T_getR, F_il5, T_iast, F_inc3i, F_inc3r, F_inc3m, T_icge, T_mul, T_add, X_iald, F_inc5i, F_inc5r, F_inc5m, c217, c219, c220, c221, c224, c225, c226, ↓s219, ↓s221, ↓s224, ↓s225, ↓s226, MX, t4, g1, ↓reduceIte, TK, lt_run hn, le43, Int.le_refl, Int.lt_irrefl, Option.some.injEq, exists_eq_left', true_and, and_true, if_true, if_false, decide_eq_false_iff_not, decide_eq_true_eq, Nat.reduceAdd, Nat.reduceLeDiff, Nat.reduceLT, Int.reduceAdd, Int.reduceSub, Int.reduceMul, Int.reduceNeg, not_true_eq_false, not_false_eq_true]
          rw [k335_5]
          simp +decide (maxSteps := 4000000) (disch := omega) only [k335_0, k335_1, k335_2, k335_3, k335_4, k335_6, k335_7, k335_8, k335_9, k335_10, k335_12, k335_14, k335_r, k335_s, F_al0, F_il1, T_I, J_ifeq, F_il2, J_ifne, T_ft, T_ret, F_is3i, F_is3r, F_is3m, T_getI, J_ifle, T_goto, F_is4i, F_is4r, F_is4m, F_il4, F_il3, J_icne, F_is5i, F_is5r, F_is5m, T_getR, F_il5, T_iast, F_inc3i, F_inc3r, F_inc3m, T_icge, T_mul, T_add, X_iald, F_inc5i, F_inc5r, F_inc5m, c217, c219, c220, c221, c224, c225, c226, ↓s219, ↓s224, ↓s225, ↓s226, ↓s221 F hn, ↓reduceIte, TK, lt_run hn, le43, Int.le_refl, Int.lt_irrefl, Option.some.injEq, exists_eq_left', true_and, and_true, if_true, if_false, decide_eq_false_iff_not, decide_eq_true_eq, Nat.reduceAdd, Nat.reduceLeDiff, Nat.reduceLT, Int.reduceAdd, Int.reduceSub, Int.reduceMul, Int.reduceNeg, not_true_eq_false, not_false_eq_true]
          exact fin
        · rw [if_neg g1] at kk
          by_cases g2 : bt b t r.2.1 = 32
          · rw [if_pos g2] at kk
            simp +decide (maxSteps := 4000000) (disch := omega) only [k335_0, k335_1, k335_2, k335_3, k335_4, k335_6, k335_7, k335_8, k335_9, k335_10, k335_11, k335_12, k335_14, k335_r, k335_s, F_al0, F_il1, T_I, J_ifeq, F_il2, J_ifne, T_ft, T_ret, F_is3i, F_is3r, F_is3m, T_getI, J_ifle, T_goto, F_is4i, F_is4r, F_is4m, F_il4, F_il3, J_icne, F_is5i, F_is5r, F_is5m, T_getR, F_il5, T_iast, F_inc3i, F_inc3r, F_inc3m, T_icge, T_mul, T_add, X_iald, F_inc5i, F_inc5r, F_inc5m, c217, c219, c220, c221, c224, c225, c226, ↓s219, ↓s221, ↓s224, ↓s226, MX, t4, g1, ↓s225 F hn T1, g2, ↓reduceIte, TK, lt_run hn, le43, Int.le_refl, Int.lt_irrefl, Option.some.injEq, exists_eq_left', true_and, and_true, if_true, if_false, decide_eq_false_iff_not, decide_eq_true_eq, Nat.reduceAdd, Nat.reduceLeDiff, Nat.reduceLT, Int.reduceAdd, Int.reduceSub, Int.reduceMul, Int.reduceNeg, not_true_eq_false, not_false_eq_true]
            exact ih (r.2.1 + 1) (m + 1) _ _ _ (by omega) (by omega) (by omega) (by omega) (by omega) (Rtk_u hD u1) T1 R1 (fun h' p' m' v4 v5 a1 a2 a3 => kk h' p' m' v4 v5 a1 a2 (e1.trans a3))
          · rw [if_neg g2] at kk
            have f1 : r.2.1 ≠ -1 := by omega
            have fin := kk _ r.2.1 (m + 1) (J 1) (.int (J r.1)) (by omega) (by omega) e1 (fun z => by dsimp only at z; omega)
            simp +decide (maxSteps := 4000000) (disch := omega) only [k335_0, k335_1, k335_2, k335_3, k335_4, k335_6, k335_7, k335_8, k335_9, k335_10, k335_11, k335_12, k335_14, k335_r, k335_s, F_al0, F_il1, T_I, J_ifeq, F_il2, J_ifne, T_ft, T_ret, F_is3i, F_is3r, F_is3m, T_getI, J_ifle, T_goto, F_is4i, F_is4r, F_is4m, F_il4, F_il3, J_icne, F_is5i, F_is5r, F_is5m, T_getR, F_il5, T_iast, F_inc3i, F_inc3r, F_inc3m, T_icge, T_mul, T_add, X_iald, F_inc5i, F_inc5r, F_inc5m, c217, c219, c220, c221, c224, c225, c226, ↓s219, ↓s221, ↓s224, ↓s226, MX, t4, g1, ↓s225 F hn T1, g2, rf_y, ↓reduceIte, TK, lt_run hn, le43, Int.le_refl, Int.lt_irrefl, Option.some.injEq, exists_eq_left', true_and, and_true, if_true, if_false, decide_eq_false_iff_not, decide_eq_true_eq, Nat.reduceAdd, Nat.reduceLeDiff, Nat.reduceLT, Int.reduceAdd, Int.reduceSub, Int.reduceMul, Int.reduceNeg, not_true_eq_false, not_false_eq_true]
            rw [k335_5]
            simp +decide (maxSteps := 4000000) (disch := omega) only [k335_0, k335_1, k335_2, k335_3, k335_4, k335_6, k335_7, k335_8, k335_9, k335_10, k335_12, k335_14, k335_r, k335_s, F_al0, F_il1, T_I, J_ifeq, F_il2, J_ifne, T_ft, T_ret, F_is3i, F_is3r, F_is3m, T_getI, J_ifle, T_goto, F_is4i, F_is4r, F_is4m, F_il4, F_il3, J_icne, F_is5i, F_is5r, F_is5m, T_getR, F_il5, T_iast, F_inc3i, F_inc3r, F_inc3m, T_icge, T_mul, T_add, X_iald, F_inc5i, F_inc5r, F_inc5m, c217, c219, c220, c221, c224, c225, c226, ↓s219, ↓s224, ↓s225, ↓s226, ↓s221 F hn, f1, ↓reduceIte, TK, lt_run hn, le43, Int.le_refl, Int.lt_irrefl, Option.some.injEq, exists_eq_left', true_and, and_true, if_true, if_false, decide_eq_false_iff_not, decide_eq_true_eq, Nat.reduceAdd, Nat.reduceLeDiff, Nat.reduceLT, Int.reduceAdd, Int.reduceSub, Int.reduceMul, Int.reduceNeg, not_true_eq_false, not_false_eq_true]
            exact fin
      rw [k335_5]
      simp +decide (maxSteps := 4000000) (disch := omega) only [k335_0, k335_1, k335_2, k335_3, k335_4, k335_6, k335_8, k335_9, k335_10, k335_12, k335_14, k335_r, k335_s, F_al0, F_il1, T_I, J_ifeq, F_il2, J_ifne, T_ft, T_ret, F_is3i, F_is3r, F_is3m, T_getI, J_ifle, T_goto, F_is4i, F_is4r, F_is4m, F_il4, F_il3, J_icne, F_is5i, F_is5r, F_is5m, T_getR, F_il5, T_iast, F_inc3i, F_inc3r, F_inc3m, T_icge, T_mul, T_add, X_iald, F_inc5i, F_inc5r, F_inc5m, c217, c219, c220, c221, c224, c225, c226, ↓s219, ↓s224, ↓s225, ↓s226, FM F, MX, ↓s221 F hn, y220 F hn T, g0, g, ln_774, ↓reduceIte, TK, lt_run hn, le43, Int.le_refl, Int.lt_irrefl, Option.some.injEq, exists_eq_left', true_and, and_true, if_true, if_false, decide_eq_false_iff_not, decide_eq_true_eq, Nat.reduceAdd, Nat.reduceLeDiff, Nat.reduceLT, Int.reduceAdd, Int.reduceSub, Int.reduceMul, Int.reduceNeg, not_true_eq_false, not_false_eq_true]
      rw [MS_d (by decide)]
      exact go
    · rw [if_neg g, ← ir.1] at kk
      rw [← ir.1] at g
      have fb := ibM.2.1
      by_cases g1 : t ≤ (numM b t true (-100) 100 p (-1)).2.1
      · have fin := kk h (numM b t true (-100) 100 p (-1)).2.1 m (J 0) (.int (J (numM b t true (-100) 100 p (-1)).1)) (by omega) (by omega) Ef.refl (fun z => absurd z g)
        rw [k335_5]
        simp +decide (maxSteps := 4000000) (disch := omega) only [k335_0, k335_1, k335_2, k335_3, k335_4, k335_6, k335_7, k335_8, k335_9, k335_10, k335_12, k335_14, k335_r, k335_s, F_al0, F_il1, T_I, J_ifeq, F_il2, J_ifne, T_ft, T_ret, F_is3i, F_is3r, F_is3m, T_getI, J_ifle, T_goto, F_is4i, F_is4r, F_is4m, F_il4, F_il3, J_icne, F_is5i, F_is5r, F_is5m, T_getR, F_il5, T_iast, F_inc3i, F_inc3r, F_inc3m, T_icge, T_mul, T_add, X_iald, F_inc5i, F_inc5r, F_inc5m, c217, c219, c220, c221, c224, c225, c226, ↓s219, ↓s224, ↓s225, ↓s226, FM F, MX, ↓s221 F hn, y220 F hn T, g0, g, t3, g1, ↓reduceIte, TK, lt_run hn, le43, Int.le_refl, Int.lt_irrefl, Option.some.injEq, exists_eq_left', true_and, and_true, if_true, if_false, decide_eq_false_iff_not, decide_eq_true_eq, Nat.reduceAdd, Nat.reduceLeDiff, Nat.reduceLT, Int.reduceAdd, Int.reduceSub, Int.reduceMul, Int.reduceNeg, not_true_eq_false, not_false_eq_true]
        rw [k335_5]
        simp +decide (maxSteps := 4000000) (disch := omega) only [k335_0, k335_1, k335_2, k335_3, k335_4, k335_6, k335_7, k335_8, k335_9, k335_10, k335_12, k335_14, k335_r, k335_s, F_al0, F_il1, T_I, J_ifeq, F_il2, J_ifne, T_ft, T_ret, F_is3i, F_is3r, F_is3m, T_getI, J_ifle, T_goto, F_is4i, F_is4r, F_is4m, F_il4, F_il3, J_icne, F_is5i, F_is5r, F_is5m, T_getR, F_il5, T_iast, F_inc3i, F_inc3r, F_inc3m, T_icge, T_mul, T_add, X_iald, F_inc5i, F_inc5r, F_inc5m, c217, c219, c220, c221, c224, c225, c226, ↓s219, ↓s224, ↓s225, ↓s226, ↓s221 F hn, g, ↓reduceIte, TK, lt_run hn, le43, Int.le_refl, Int.lt_irrefl, Option.some.injEq, exists_eq_left', true_and, and_true, if_true, if_false, decide_eq_false_iff_not, decide_eq_true_eq, Nat.reduceAdd, Nat.reduceLeDiff, Nat.reduceLT, Int.reduceAdd, Int.reduceSub, Int.reduceMul, Int.reduceNeg, not_true_eq_false, not_false_eq_true]
        exact fin
      · have fin := kk h (numM b t true (-100) 100 p (-1)).2.1 m (J 1) (.int (J (numM b t true (-100) 100 p (-1)).1)) (by omega) (by omega) Ef.refl (fun z => absurd z g)
        rw [k335_5]
        simp +decide (maxSteps := 4000000) (disch := omega) only [k335_0, k335_1, k335_2, k335_3, k335_4, k335_6, k335_7, k335_8, k335_9, k335_10, k335_12, k335_14, k335_r, k335_s, F_al0, F_il1, T_I, J_ifeq, F_il2, J_ifne, T_ft, T_ret, F_is3i, F_is3r, F_is3m, T_getI, J_ifle, T_goto, F_is4i, F_is4r, F_is4m, F_il4, F_il3, J_icne, F_is5i, F_is5r, F_is5m, T_getR, F_il5, T_iast, F_inc3i, F_inc3r, F_inc3m, T_icge, T_mul, T_add, X_iald, F_inc5i, F_inc5r, F_inc5m, c217, c219, c220, c221, c224, c225, c226, ↓s219, ↓s224, ↓s226, FM F, MX, ↓s221 F hn, ↓s225 F hn T, y220 F hn T, g0, g, rf_n g, false_and, t3, g1, ↓reduceIte, TK, lt_run hn, le43, Int.le_refl, Int.lt_irrefl, Option.some.injEq, exists_eq_left', true_and, and_true, if_true, if_false, decide_eq_false_iff_not, decide_eq_true_eq, Nat.reduceAdd, Nat.reduceLeDiff, Nat.reduceLT, Int.reduceAdd, Int.reduceSub, Int.reduceMul, Int.reduceNeg, not_true_eq_false, not_false_eq_true]
        rw [k335_5]
        simp +decide (maxSteps := 4000000) (disch := omega) only [k335_0, k335_1, k335_2, k335_3, k335_4, k335_6, k335_7, k335_8, k335_9, k335_10, k335_12, k335_14, k335_r, k335_s, F_al0, F_il1, T_I, J_ifeq, F_il2, J_ifne, T_ft, T_ret, F_is3i, F_is3r, F_is3m, T_getI, J_ifle, T_goto, F_is4i, F_is4r, F_is4m, F_il4, F_il3, J_icne, F_is5i, F_is5r, F_is5m, T_getR, F_il5, T_iast, F_inc3i, F_inc3r, F_inc3m, T_icge, T_mul, T_add, X_iald, F_inc5i, F_inc5r, F_inc5m, c217, c219, c220, c221, c224, c225, c226, ↓s219, ↓s224, ↓s225, ↓s226, ↓s221 F hn, g, ↓reduceIte, TK, lt_run hn, le43, Int.le_refl, Int.lt_irrefl, Option.some.injEq, exists_eq_left', true_and, and_true, if_true, if_false, decide_eq_false_iff_not, decide_eq_true_eq, Nat.reduceAdd, Nat.reduceLeDiff, Nat.reduceLT, Int.reduceAdd, Int.reduceSub, Int.reduceMul, Int.reduceNeg, not_true_eq_false, not_false_eq_true]
        exact fin
/-- what the reference's reading of a track changes -/
def Stm (a k : Nat) : Prop := (a = 704 ∧ (k = 2 ∨ k = 3 ∨ k = 4 ∨ k = 5)) ∨ a = 706 ∨ a = 774
theorem sys_tm {a k : Nat} (q : Stm a k) : sys a k = 0 ∨ sys a k = 1 := by
  rcases q with ⟨rfl, rfl | rfl | rfl | rfl⟩ | rfl | rfl
  · exact Or.inr rfl
  all_goals exact Or.inl rfl
theorem sys_tr {a k : Nat} (q : Str a k) : sys a k = 0 ∨ sys a k = 1 := by
  rcases q with ⟨rfl, rfl | rfl⟩ | rfl
  all_goals exact Or.inl rfl
theorem w335 (F : FH hr) (hn : 775 ≤ n) (l0 : 0 ≤ l) (l1 : l ≤ 2) {y : Int} (hy : 0 ≤ y ∧ y ≤ 999) (ht : 0 ≤ t ∧ t ≤ 1600) (hb : ∀ i, 0 ≤ b i ∧ b i ≤ 255) (m1 : h 704 2 = J t) (m2 : ∀ i, 0 ≤ i → i < t → gA h 705 i = J (b i))
    (k1 : ∀ h', h' 704 2 = J 0 → Ef Stm h h' → (rdT b t).1 ≠ -1 → Q (some (.int (J (-1000 - (rdT b t).1))), h', hr, n))
    (k2 : ∀ h', h' 704 2 = J 0 → Ef (fun a k => Stm a k ∨ (a = 771 ∧ 100 * l.toNat ≤ k ∧ k < 100 * l.toNat + 100) ∨ (a = 772 ∧ k = l.toNat) ∨ (a = 773 ∧ k = l.toNat)) h h' → (rdT b t).1 = -1 → gA h' 772 l = J (rdT b t).2.1 → gA h' 773 l = J y → (∀ f, 0 ≤ f → f < (rdT b t).2.1 → gA h' 771 (100 * l + f) = J ((rdT b t).2.2 f)) → Q (some (.int (J (rdT b t).2.1)), h', hr, n)) : Sp E 335 [.ref 704, .int (J l), .int (J y)] h hr n Q := by
  have rb := rdT_b ht hb
  simp +decide (maxSteps := 4000000) (disch := omega) only [k335_0, k335_1, k335_2, k335_3, k335_4, k335_6, k335_7, k335_8, k335_9, k335_10, k335_11, k335_12, k335_14, k335_r, k335_s, F_al0, F_il1, T_I, J_ifeq, F_il2, J_ifne, T_ft, T_ret, F_is3i, F_is3r, F_is3m, T_getI, J_ifle, T_goto, F_is4i, F_is4r, F_is4m, F_il4, F_il3, J_icne, F_is5i, F_is5r, F_is5m, T_getR, F_il5, T_iast, F_inc3i, F_inc3r, F_inc3m, T_icge, T_mul, T_add, X_iald, F_inc5i, F_inc5r, F_inc5m, c217, c219, c220, c221, c224, c225, c226, ↓s219, ↓s221, ↓s224, ↓s225, ↓s226, ↓reduceIte, TK, lt_run hn, le43, Int.le_refl, Int.lt_irrefl, Option.some.injEq, exists_eq_left', true_and, and_true, if_true, if_false, decide_eq_false_iff_not, decide_eq_true_eq, Nat.reduceAdd, Nat.reduceLeDiff, Nat.reduceLT, Int.reduceAdd, Int.reduceSub, Int.reduceMul, Int.reduceNeg, not_true_eq_false, not_false_eq_true]
  refine w217 F hn ht hb m1 m2 (fun h1 T1 c1 e1 => ?_)
  have e1' : Ef Stm h h1 := e1.mono fun a k q => by unfold Stm; omega
  have t3 := T1.2.2.1
  have eM : ∀ {h : AHi} {p f : Int}, Ef Stm h (MS h p f) := fun {h p f} => Ef_MS.mono fun a k q => by unfold Stm; omega
  have last : ∀ h2 w m' (v4 : Int32) (v5 : Value), 0 ≤ w → w ≤ 1700 → Ef Stm h h2 → h2 704 2 = J 0 → ((rdT b t).1 = -1 → m' = (rdT b t).2.1 ∧ Rk h2 774 (rdT b t).2.1 (rdT b t).2.2) → Tm E 335 (a_bl 335 11) [.ref 704, .int (J l), .int (J y), .int (J m'), .int v4, v5] [] (MS h2 w (rdT b t).1) hr n Q := fun h2 w m' v4 v5 w0 w1 e2 y2 gd => by
    rw [k335_11]
    by_cases g : (rdT b t).1 = -1
    · obtain ⟨rfl, R2⟩ := gd g
      obtain ⟨u1, u2⟩ := rb.2 g
      have k3 := fun h' y q => k2 h' y q g
      rw [g]
      simp +decide (maxSteps := 4000000) (disch := omega) only [k335_0, k335_1, k335_2, k335_3, k335_4, k335_6, k335_7, k335_8, k335_9, k335_10, k335_11, k335_12, k335_14, k335_r, k335_s, F_al0, F_il1, T_I, J_ifeq, F_il2, J_ifne, T_ft, T_ret, F_is3i, F_is3r, F_is3m, T_getI, J_ifle, T_goto, F_is4i, F_is4r, F_is4m, F_il4, F_il3, J_icne, F_is5i, F_is5r, F_is5m, T_getR, F_il5, T_iast, F_inc3i, F_inc3r, F_inc3m, T_icge, T_mul, T_add, X_iald, F_inc5i, F_inc5r, F_inc5m, c217, c219, c220, c221, c224, c225, c226, ↓s219, ↓s224, ↓s225, ↓s226, FM F, ↓s221 F hn, ln_772, ln_773, ↓reduceIte, TK, lt_run hn, le43, Int.le_refl, Int.lt_irrefl, Option.some.injEq, exists_eq_left', true_and, and_true, if_true, if_false, decide_eq_false_iff_not, decide_eq_true_eq, Nat.reduceAdd, Nat.reduceLeDiff, Nat.reduceLT, Int.reduceAdd, Int.reduceSub, Int.reduceMul, Int.reduceNeg, not_true_eq_false, not_false_eq_true]
      have e3 : Ef (fun a k => Stm a k ∨ (a = 771 ∧ 100 * l.toNat ≤ k ∧ k < 100 * l.toNat + 100) ∨ (a = 772 ∧ k = l.toNat) ∨ (a = 773 ∧ k = l.toNat)) h (sA (sA (MS h2 w (-1)) 772 l (J (rdT b t).2.1)) 773 l (J y)) := Ef.sA (Ef.sA ((e2.trans eM).mono fun a k q => Or.inl q) (Or.inr (Or.inr (Or.inl ⟨rfl, rfl⟩)))) (Or.inr (Or.inr (Or.inr ⟨rfl, rfl⟩)))
      refine T_for (σ := Unit) (fun i _ => [.ref 704, .int (J l), .int (J y), .int (J (rdT b t).2.1), .int v4, .int (J i)]) (fun i _ h' => Ef (fun a k => a = 771 ∧ 100 * l.toNat ≤ k ∧ k < 100 * l.toNat + 100) (sA (sA (MS h2 w (-1)) 772 l (J (rdT b t).2.1)) 773 l (J y)) h' ∧ ∀ f, 0 ≤ f → f < i → gA h' 771 (100 * l + f) = J ((rdT b t).2.2 f)) 0 (rdT b t).2.1 ?_ ?_ 0 () _ (by omega) (by omega) ⟨Ef.refl, fun f _ _ => by omega⟩
      · rintro i _ h4 i0 i1 ⟨e4, d4⟩ ih
        have z3 : gA h4 774 i = J ((rdT b t).2.2 i) := by
          rw [e4.g (by omega), gs_o (by decide), gs_o (by decide), MS_g (by decide)]
          exact R2 i i0 i1
        rw [k335_13]
        simp +decide (maxSteps := 4000000) (disch := omega) only [k335_0, k335_1, k335_2, k335_3, k335_4, k335_6, k335_7, k335_8, k335_9, k335_10, k335_11, k335_12, k335_14, k335_r, k335_s, F_al0, F_il1, T_I, J_ifeq, F_il2, J_ifne, T_ft, T_ret, F_is3i, F_is3r, F_is3m, T_getI, J_ifle, T_goto, F_is4i, F_is4r, F_is4m, F_il4, F_il3, J_icne, F_is5i, F_is5r, F_is5m, T_getR, F_il5, T_iast, F_inc3i, F_inc3r, F_inc3m, T_icge, T_mul, T_add, X_iald, F_inc5i, F_inc5r, F_inc5m, c217, c219, c220, c221, c224, c225, c226, ↓s219, ↓s220, ↓s221, ↓s224, ↓s225, ↓s226, FM F, z3, ln_771, ln_774, show ¬ (rdT b t).2.1 ≤ i by omega, ↓reduceIte, TK, lt_run hn, le43, Int.le_refl, Int.lt_irrefl, Option.some.injEq, exists_eq_left', true_and, and_true, if_true, if_false, decide_eq_false_iff_not, decide_eq_true_eq, Nat.reduceAdd, Nat.reduceLeDiff, Nat.reduceLT, Int.reduceAdd, Int.reduceSub, Int.reduceMul, Int.reduceNeg, not_true_eq_false, not_false_eq_true]
        refine ih () _ ⟨e4.sA (by omega), fun f f0 f1 => ?_⟩
        by_cases e : f = i
        · rw [e, gs_s]
        · rw [gs_k (by omega) (by omega) (by omega)]
          exact d4 f f0 (by omega)
      · rintro _ h4 ⟨e4, d4⟩
        rw [k335_13]
        simp +decide (maxSteps := 4000000) (disch := omega) only [k335_0, k335_1, k335_2, k335_3, k335_4, k335_6, k335_7, k335_8, k335_9, k335_10, k335_11, k335_12, k335_14, k335_r, k335_s, F_al0, F_il1, T_I, J_ifeq, F_il2, J_ifne, T_ft, T_ret, F_is3i, F_is3r, F_is3m, T_getI, J_ifle, T_goto, F_is4i, F_is4r, F_is4m, F_il4, F_il3, J_icne, F_is5i, F_is5r, F_is5m, T_getR, F_il5, T_iast, F_inc3i, F_inc3r, F_inc3m, T_icge, T_mul, T_add, X_iald, F_inc5i, F_inc5r, F_inc5m, c217, c219, c220, c221, c224, c225, c226, ↓s219, ↓s220, ↓s221, ↓s224, ↓s225, ↓s226, FM F, ↓reduceIte, TK, lt_run hn, le43, Int.le_refl, Int.lt_irrefl, Option.some.injEq, exists_eq_left', true_and, and_true, if_true, if_false, decide_eq_false_iff_not, decide_eq_true_eq, Nat.reduceAdd, Nat.reduceLeDiff, Nat.reduceLT, Int.reduceAdd, Int.reduceSub, Int.reduceMul, Int.reduceNeg, not_true_eq_false, not_false_eq_true]
        refine k3 h4 ?_ (e3.trans (e4.mono fun a k q => Or.inr (Or.inl q))) ?_ ?_ d4
        · rw [e4 _ _ (by omega), sA_o (by decide), sA_o (by decide), MS_j (by decide)]
          exact y2
        · rw [e4.g (by omega), gs_o (by decide), gs_s]
        · rw [e4.g (by omega), gs_s]
    · have fb := rb.1
      simp +decide (maxSteps := 4000000) (disch := omega) only [k335_0, k335_1, k335_2, k335_3, k335_4, k335_6, k335_7, k335_8, k335_9, k335_10, k335_11, k335_12, k335_14, k335_r, k335_s, F_al0, F_il1, T_I, J_ifeq, F_il2, J_ifne, T_ft, T_ret, F_is3i, F_is3r, F_is3m, T_getI, J_ifle, T_goto, F_is4i, F_is4r, F_is4m, F_il4, F_il3, J_icne, F_is5i, F_is5r, F_is5m, T_getR, F_il5, T_iast, F_inc3i, F_inc3r, F_inc3m, T_icge, T_mul, T_add, X_iald, F_inc5i, F_inc5r, F_inc5m, c217, c219, c220, c221, c224, c225, c226, ↓s219, ↓s224, ↓s225, ↓s221 F hn, ↓s226 F hn, g, ↓reduceIte, TK, lt_run hn, le43, Int.le_refl, Int.lt_irrefl, Option.some.injEq, exists_eq_left', true_and, and_true, if_true, if_false, decide_eq_false_iff_not, decide_eq_true_eq, Nat.reduceAdd, Nat.reduceLeDiff, Nat.reduceLT, Int.reduceAdd, Int.reduceSub, Int.reduceMul, Int.reduceNeg, not_true_eq_false, not_false_eq_true]
      refine k1 _ ?_ (e2.trans eM) g
      rw [MS_j (by decide)]
      exact y2
  unfold rdT at last
  by_cases g : 0 < t
  · rw [if_pos g] at last
    simp +decide (maxSteps := 4000000) (disch := omega) only [k335_0, k335_1, k335_2, k335_3, k335_4, k335_6, k335_7, k335_8, k335_9, k335_10, k335_11, k335_12, k335_14, k335_r, k335_s, F_al0, F_il1, T_I, J_ifeq, F_il2, J_ifne, T_ft, T_ret, F_is3i, F_is3r, F_is3m, T_getI, J_ifle, T_goto, F_is4i, F_is4r, F_is4m, F_il4, F_il3, J_icne, F_is5i, F_is5r, F_is5m, T_getR, F_il5, T_iast, F_inc3i, F_inc3r, F_inc3m, T_icge, T_mul, T_add, X_iald, F_inc5i, F_inc5r, F_inc5m, c217, c219, c220, c221, c224, c225, c226, ↓s219, ↓s221, ↓s224, ↓s225, ↓s226, show l ≤ 2 by omega, l0, hy, MX, t3, show ¬ t ≤ 0 by omega, ↓reduceIte, TK, lt_run hn, le43, Int.le_refl, Int.lt_irrefl, Option.some.injEq, exists_eq_left', true_and, and_true, if_true, if_false, decide_eq_false_iff_not, decide_eq_true_eq, Nat.reduceAdd, Nat.reduceLeDiff, Nat.reduceLT, Int.reduceAdd, Int.reduceSub, Int.reduceMul, Int.reduceNeg, not_true_eq_false, not_false_eq_true]
    exact z335 F hn 101 0 0 (fun _ => 0) h1 a_mk (by omega) (by decide) (by decide) (by omega) (by decide) Rtk_0 T1 (fun j j0 j1 => by omega) (fun h2 w m' v4 v5 a1 a2 a3 a4 => last h2 w m' v4 v5 a1 a2 (e1'.trans (a3.mono fun a k q => by unfold Stm; omega)) (by rw [a3 _ _ (by omega)]; exact c1) a4)
  · rw [if_neg g] at last
    have fin := last h1 0 0 (J 0) a_mk (by decide) (by decide) e1' c1 (fun _ => ⟨rfl, fun j j0 j1 => by dsimp only at j1; omega⟩)
    simp +decide (maxSteps := 4000000) (disch := omega) only [k335_0, k335_1, k335_2, k335_3, k335_4, k335_6, k335_7, k335_8, k335_9, k335_10, k335_11, k335_12, k335_14, k335_r, k335_s, F_al0, F_il1, T_I, J_ifeq, F_il2, J_ifne, T_ft, T_ret, F_is3i, F_is3r, F_is3m, T_getI, J_ifle, T_goto, F_is4i, F_is4r, F_is4m, F_il4, F_il3, J_icne, F_is5i, F_is5r, F_is5m, T_getR, F_il5, T_iast, F_inc3i, F_inc3r, F_inc3m, T_icge, T_mul, T_add, X_iald, F_inc5i, F_inc5r, F_inc5m, c217, c219, c220, c221, c224, c225, c226, ↓s219, ↓s221, ↓s224, ↓s225, ↓s226, show l ≤ 2 by omega, l0, hy, MX, t3, show t ≤ 0 by omega, ↓reduceIte, TK, lt_run hn, le43, Int.le_refl, Int.lt_irrefl, Option.some.injEq, exists_eq_left', true_and, and_true, if_true, if_false, decide_eq_false_iff_not, decide_eq_true_eq, Nat.reduceAdd, Nat.reduceLeDiff, Nat.reduceLT, Int.reduceAdd, Int.reduceSub, Int.reduceMul, Int.reduceNeg, not_true_eq_false, not_false_eq_true]
    rw [k335_5]
    simp +decide (maxSteps := 4000000) (disch := omega) only [k335_0, k335_1, k335_2, k335_3, k335_4, k335_6, k335_7, k335_8, k335_9, k335_10, k335_12, k335_14, k335_r, k335_s, F_al0, F_il1, T_I, J_ifeq, F_il2, J_ifne, T_ft, T_ret, F_is3i, F_is3r, F_is3m, T_getI, J_ifle, T_goto, F_is4i, F_is4r, F_is4m, F_il4, F_il3, J_icne, F_is5i, F_is5r, F_is5m, T_getR, F_il5, T_iast, F_inc3i, F_inc3r, F_inc3m, T_icge, T_mul, T_add, X_iald, F_inc5i, F_inc5r, F_inc5m, c217, c219, c220, c221, c224, c225, c226, ↓s219, ↓s224, ↓s225, ↓s226, ↓s221 F hn, ↓reduceIte, TK, lt_run hn, le43, Int.le_refl, Int.lt_irrefl, Option.some.injEq, exists_eq_left', true_and, and_true, if_true, if_false, decide_eq_false_iff_not, decide_eq_true_eq, Nat.reduceAdd, Nat.reduceLeDiff, Nat.reduceLT, Int.reduceAdd, Int.reduceSub, Int.reduceMul, Int.reduceNeg, not_true_eq_false, not_false_eq_true]
    exact fin
def Stk18 (l a k : Nat) : Prop := a = 153 + l ∨ (a = 157 ∧ k = l) ∨ (a = 158 ∧ k = l) ∨ (a = 771 ∧ 100 * l ≤ k ∧ k < 100 * l + 100) ∨ (a = 772 ∧ k = l) ∨ (a = 773 ∧ k = l)
theorem stk18 {l a k : Nat} (hl : l < 3) (q : Stk18 l a k) : sys a k = 18 := by
  rcases q with rfl | ⟨rfl, _⟩ | ⟨rfl, _⟩ | ⟨rfl, _⟩ | ⟨rfl, _⟩ | ⟨rfl, _⟩
  · exact sys153 hl
  all_goals rfl
theorem Cp18_u (C : Cp18 h) (l0 : 0 ≤ l) (l1 : l < 3) {y m : Int} (hy : 0 ≤ y ∧ y ≤ 999) (hm : 0 ≤ m ∧ m ≤ 100) (hD : Rtk D) (e : Ef (fun a k => Stk18 l.toNat a k ∨ sys a k ≠ 18) h h') (d1 : gA h' 158 l = J y ∧ gA h' 157 l = J m) (d2 : gA h' 773 l = J y ∧ gA h' 772 l = J m) (d3 : ∀ k, 0 ≤ k → k < m → gA h' (153 + l.toNat) k = J (D k) ∧ gA h' 771 (100 * l + k) = J (D k)) : Cp18 h' := by
  obtain ⟨B, M, S, h1, h2, h3, h4⟩ := C
  refine ⟨fun x => if x = l then y else B x, fun x => if x = l then m else M x, fun x k => if x = l then D k else S x k, fun x => ?_, fun x => ?_, fun x k => ?_, fun x x0 x1 => ?_⟩
  · dsimp only
    split
    · exact hy
    · exact h1 x
  · dsimp only
    split
    · exact hm
    · exact h2 x
  · dsimp only
    split
    · exact hD k
    · exact h3 x k
  · dsimp only
    by_cases g : x = l
    · subst g
      rw [if_pos rfl, if_pos rfl]
      refine ⟨d1, d2, fun k k0 k1 => ?_⟩
      rw [if_pos rfl]
      exact d3 k k0 k1
    · rw [if_neg g, if_neg g]
      obtain ⟨a1, a2, a3⟩ := h4 x x0 x1
      have r := h2 x
      refine ⟨⟨?_, ?_⟩, ⟨?_, ?_⟩, fun k k0 k1 => ?_⟩
      · rw [e.g (fun q => q.elim (fun q => by unfold Stk18 at q; omega) (fun q => q rfl))]
        exact a1.1
      · rw [e.g (fun q => q.elim (fun q => by unfold Stk18 at q; omega) (fun q => q rfl))]
        exact a1.2
      · rw [e.g (fun q => q.elim (fun q => by unfold Stk18 at q; omega) (fun q => q rfl))]
        exact a2.1
      · rw [e.g (fun q => q.elim (fun q => by unfold Stk18 at q; omega) (fun q => q rfl))]
        exact a2.2
      · rw [if_neg g, e.g (fun q => q.elim (fun q => by unfold Stk18 at q; omega) (fun q => q (sys153 (by omega)))), e.g (fun q => q.elim (fun q => by unfold Stk18 at q; omega) (fun q => q rfl))]
        exact a3 k k0 k1
theorem Ptrack (F : FH hr) (hn : 775 ≤ n) (C : Cp18 h) (CT : CpT h) (x y : Int32) : Pr2 E 206 335 [.int x, .int y] h hr n (Po (fun h' => Cp18 h' ∧ CpT h') 1 18 h hr n) := by
  obtain ⟨t, b, T, m1, m2⟩ := CT
  obtain ⟨a, ha, ha', rfl⟩ := J_of x
  obtain ⟨c, hc, hc', rfl⟩ := J_of y
  have OT := Ob_tape (E := E) F hn
  have rb := rdT_b T.1 T.2.1
  unfold Pr2
  have bad : ¬ ((0 ≤ a ∧ a ≤ 2) ∧ 0 ≤ c ∧ c ≤ 999) → ∀ h4, h4 704 2 = J 0 → Ef (fun a k => (a = 704 ∧ (k = 2 ∨ k = 3)) ∨ a = 706) (hI h 44 1 (J 0)) h4 → (Cp18 (MS h4 0 (-1)) ∧ CpT (MS h4 0 (-1))) ∧ Kp 1 18 h (MS h4 0 (-1)) := fun _ h4 c4 e4 => by
    have e5 : Ef (fun a k => sys a k = 0 ∨ sys a k = 1) h (MS h4 0 (-1)) := Ef.trans (Ef.hI Ef.refl (show sys 44 1 = 0 ∨ sys 44 1 = 1 from Or.inr rfl)) ((e4.mono fun a k q => sys_tm (by unfold Stm; omega)).trans (Ef_MS.mono fun a k q => sys_tm (by unfold Stm; omega)))
    exact ⟨⟨C.sm (fun a k q => e5 a k (by omega)), CpT_0 (by rw [MS_o (by decide), e4 _ _ (by omega)]; exact hI_s) (by rw [MS_j (by decide)]; exact c4)⟩, e5.mono fun a k q => by omega⟩
  by_cases g1 : 0 ≤ a ∧ a ≤ 2
  case neg =>
    simp +decide (maxSteps := 4000000) (disch := omega) only [k206_0, k206_1, k206_2, k206_3, k206_4, k206_r, k206_s, F_il1, T_I, J_ifeq, F_il2, T_goto, T_ft, F_is3i, F_is3r, F_is3m, F_il3, F_al0, F_is4i, F_is4r, F_is4m, T_getR, F_il4, T_ret, c25, c138, c207, ↓s138, FX F, g1, ↓s25 OT, kd_44, ↓reduceIte, TK, lt_run hn, le43, Int.le_refl, Int.lt_irrefl, Option.some.injEq, exists_eq_left', true_and, and_true, if_true, if_false, decide_eq_false_iff_not, decide_eq_true_eq, Nat.reduceAdd, Nat.reduceLeDiff, Nat.reduceLT, Int.reduceAdd, Int.reduceSub, Int.reduceMul, Int.reduceNeg, not_true_eq_false, not_false_eq_true]
    refine ⟨_, rfl, ?_⟩
    simp +decide (maxSteps := 4000000) (disch := omega) only [k335_0, k335_1, k335_2, k335_3, k335_4, k335_6, k335_7, k335_8, k335_9, k335_10, k335_11, k335_12, k335_14, k335_r, k335_s, F_al0, F_il1, T_I, J_ifeq, F_il2, J_ifne, T_ft, T_ret, F_is3i, F_is3r, F_is3m, T_getI, J_ifle, T_goto, F_is4i, F_is4r, F_is4m, F_il4, F_il3, J_icne, F_is5i, F_is5r, F_is5m, T_getR, F_il5, T_iast, F_inc3i, F_inc3r, F_inc3m, T_icge, T_mul, T_add, X_iald, F_inc5i, F_inc5r, F_inc5m, c217, c219, c220, c221, c224, c225, c226, ↓s219, ↓s221, ↓s224, ↓s225, ↓s226, ↓reduceIte, TK, lt_run hn, le43, Int.le_refl, Int.lt_irrefl, Option.some.injEq, exists_eq_left', true_and, and_true, if_true, if_false, decide_eq_false_iff_not, decide_eq_true_eq, Nat.reduceAdd, Nat.reduceLeDiff, Nat.reduceLT, Int.reduceAdd, Int.reduceSub, Int.reduceMul, Int.reduceNeg, not_true_eq_false, not_false_eq_true]
    refine w217 F hn T.1 T.2.1 (by rw [hI_o (by decide)]; exact m1) (fun i i0 i1 => by rw [gA_o (by decide)]; exact m2 i i0 i1) (fun h4 T4 c4 e4 => ?_)
    simp +decide (maxSteps := 4000000) (disch := omega) only [k335_0, k335_1, k335_2, k335_3, k335_4, k335_6, k335_7, k335_8, k335_9, k335_10, k335_11, k335_12, k335_14, k335_r, k335_s, F_al0, F_il1, T_I, J_ifeq, F_il2, J_ifne, T_ft, T_ret, F_is3i, F_is3r, F_is3m, T_getI, J_ifle, T_goto, F_is4i, F_is4r, F_is4m, F_il4, F_il3, J_icne, F_is5i, F_is5r, F_is5m, T_getR, F_il5, T_iast, F_inc3i, F_inc3r, F_inc3m, T_icge, T_mul, T_add, X_iald, F_inc5i, F_inc5r, F_inc5m, c217, c219, c220, c221, c224, c225, c226, ↓s219, ↓s221, ↓s224, ↓s225, ↓s226, g1, ↓reduceIte, TK, lt_run hn, le43, Int.le_refl, Int.lt_irrefl, Option.some.injEq, exists_eq_left', true_and, and_true, if_true, if_false, decide_eq_false_iff_not, decide_eq_true_eq, Nat.reduceAdd, Nat.reduceLeDiff, Nat.reduceLT, Int.reduceAdd, Int.reduceSub, Int.reduceMul, Int.reduceNeg, not_true_eq_false, not_false_eq_true]
    have A := bad (fun z => g1 z.1) h4 c4 e4
    first | exact ⟨rfl, A, rfl, rfl⟩ | exact ⟨A, rfl, rfl⟩ | exact A
  by_cases g2 : 0 ≤ c ∧ c ≤ 999
  case neg =>
    simp +decide (maxSteps := 4000000) (disch := omega) only [k206_0, k206_1, k206_2, k206_3, k206_4, k206_r, k206_s, F_il1, T_I, J_ifeq, F_il2, T_goto, T_ft, F_is3i, F_is3r, F_is3m, F_il3, F_al0, F_is4i, F_is4r, F_is4m, T_getR, F_il4, T_ret, c25, c138, c207, ↓s138, FX F, g1, g2, ↓s25 OT, kd_44, ↓reduceIte, TK, lt_run hn, le43, Int.le_refl, Int.lt_irrefl, Option.some.injEq, exists_eq_left', true_and, and_true, if_true, if_false, decide_eq_false_iff_not, decide_eq_true_eq, Nat.reduceAdd, Nat.reduceLeDiff, Nat.reduceLT, Int.reduceAdd, Int.reduceSub, Int.reduceMul, Int.reduceNeg, not_true_eq_false, not_false_eq_true]
    refine ⟨_, rfl, ?_⟩
    simp +decide (maxSteps := 4000000) (disch := omega) only [k335_0, k335_1, k335_2, k335_3, k335_4, k335_6, k335_7, k335_8, k335_9, k335_10, k335_11, k335_12, k335_14, k335_r, k335_s, F_al0, F_il1, T_I, J_ifeq, F_il2, J_ifne, T_ft, T_ret, F_is3i, F_is3r, F_is3m, T_getI, J_ifle, T_goto, F_is4i, F_is4r, F_is4m, F_il4, F_il3, J_icne, F_is5i, F_is5r, F_is5m, T_getR, F_il5, T_iast, F_inc3i, F_inc3r, F_inc3m, T_icge, T_mul, T_add, X_iald, F_inc5i, F_inc5r, F_inc5m, c217, c219, c220, c221, c224, c225, c226, ↓s219, ↓s221, ↓s224, ↓s225, ↓s226, ↓reduceIte, TK, lt_run hn, le43, Int.le_refl, Int.lt_irrefl, Option.some.injEq, exists_eq_left', true_and, and_true, if_true, if_false, decide_eq_false_iff_not, decide_eq_true_eq, Nat.reduceAdd, Nat.reduceLeDiff, Nat.reduceLT, Int.reduceAdd, Int.reduceSub, Int.reduceMul, Int.reduceNeg, not_true_eq_false, not_false_eq_true]
    refine w217 F hn T.1 T.2.1 (by rw [hI_o (by decide)]; exact m1) (fun i i0 i1 => by rw [gA_o (by decide)]; exact m2 i i0 i1) (fun h4 T4 c4 e4 => ?_)
    simp +decide (maxSteps := 4000000) (disch := omega) only [k335_0, k335_1, k335_2, k335_3, k335_4, k335_6, k335_7, k335_8, k335_9, k335_10, k335_11, k335_12, k335_14, k335_r, k335_s, F_al0, F_il1, T_I, J_ifeq, F_il2, J_ifne, T_ft, T_ret, F_is3i, F_is3r, F_is3m, T_getI, J_ifle, T_goto, F_is4i, F_is4r, F_is4m, F_il4, F_il3, J_icne, F_is5i, F_is5r, F_is5m, T_getR, F_il5, T_iast, F_inc3i, F_inc3r, F_inc3m, T_icge, T_mul, T_add, X_iald, F_inc5i, F_inc5r, F_inc5m, c217, c219, c220, c221, c224, c225, c226, ↓s219, ↓s221, ↓s224, ↓s225, ↓s226, g1, g2, ↓reduceIte, TK, lt_run hn, le43, Int.le_refl, Int.lt_irrefl, Option.some.injEq, exists_eq_left', true_and, and_true, if_true, if_false, decide_eq_false_iff_not, decide_eq_true_eq, Nat.reduceAdd, Nat.reduceLeDiff, Nat.reduceLT, Int.reduceAdd, Int.reduceSub, Int.reduceMul, Int.reduceNeg, not_true_eq_false, not_false_eq_true]
    have A := bad (fun z => g2 z.2) h4 c4 e4
    first | exact ⟨rfl, A, rfl, rfl⟩ | exact ⟨A, rfl, rfl⟩ | exact A
  have mr : ∀ {h' : AHi}, Ef (fun x k => x < 700) h h' → h' 704 2 = J t ∧ (∀ i, 0 ≤ i → i < t → gA h' 705 i = J (b i)) := fun e => by
    refine ⟨?_, fun i i0 i1 => ?_⟩
    · rw [e 704 2 (by omega)]
      exact m1
    · rw [e.g (by omega)]
      exact m2 i i0 i1
  simp +decide (maxSteps := 4000000) (disch := omega) only [k206_0, k206_1, k206_2, k206_3, k206_4, k206_r, k206_s, F_il1, T_I, J_ifeq, F_il2, T_goto, T_ft, F_is3i, F_is3r, F_is3m, F_il3, F_al0, F_is4i, F_is4r, F_is4m, T_getR, F_il4, T_ret, c25, c138, c207, ↓s25, ↓s138, FX F, g1, g2, ↓reduceIte, TK, lt_run hn, le43, Int.le_refl, Int.lt_irrefl, Option.some.injEq, exists_eq_left', true_and, and_true, if_true, if_false, decide_eq_false_iff_not, decide_eq_true_eq, Nat.reduceAdd, Nat.reduceLeDiff, Nat.reduceLT, Int.reduceAdd, Int.reduceSub, Int.reduceMul, Int.reduceNeg, not_true_eq_false, not_false_eq_true]
  refine w207 F hn g1.1 (by omega) T g2 (fun h4 e4 q => ?_) (fun h4 e4 q c4 c5 d4 => ?_)
  · simp +decide (maxSteps := 4000000) (disch := omega) only [k206_0, k206_1, k206_2, k206_3, k206_4, k206_r, k206_s, F_il1, T_I, J_ifeq, F_il2, T_goto, T_ft, F_is3i, F_is3r, F_is3m, F_il3, F_al0, F_is4i, F_is4r, F_is4m, T_getR, F_il4, T_ret, c25, c138, c207, ↓s138, FX F, ↓s25 OT, kd_44, ↓reduceIte, TK, lt_run hn, le43, Int.le_refl, Int.lt_irrefl, Option.some.injEq, exists_eq_left', true_and, and_true, if_true, if_false, decide_eq_false_iff_not, decide_eq_true_eq, Nat.reduceAdd, Nat.reduceLeDiff, Nat.reduceLT, Int.reduceAdd, Int.reduceSub, Int.reduceMul, Int.reduceNeg, not_true_eq_false, not_false_eq_true]
    refine ⟨_, rfl, ?_⟩
    have e5 : Ef (fun x k => (x = 44 ∧ k = 1) ∨ Str x k) h (hI h4 44 1 (J 0)) := (e4.mono fun x k q => Or.inr q).hI (Or.inl ⟨rfl, rfl⟩)
    obtain ⟨y1, y2⟩ := mr (e5.mono fun x k q => by unfold Str at q; omega)
    refine w335 F hn g1.1 g1.2 g2 T.1 T.2.1 y1 y2 (fun h6 c6 e6 _ => ?_) (fun h6 c6 e6 q' => absurd q' q)
    have e7 : Ef (fun a k => sys a k = 0 ∨ sys a k = 1) h h6 := Ef.trans (e5.mono fun x k q => by
      rcases q with ⟨rfl, rfl⟩ | q
      · exact Or.inr rfl
      · exact sys_tr q) (e6.mono fun x k q => sys_tm q)
    dsimp only
    refine ⟨rfl, ⟨⟨C.sm (fun x k q => e7 x k (by omega)), CpT_0 ?_ c6⟩, e7.mono fun x k q => by omega⟩, rfl, rfl⟩
    rw [e6 _ _ (fun q => by unfold Stm at q; omega)]
    exact hI_s
  · simp +decide (maxSteps := 4000000) (disch := omega) only [k206_0, k206_1, k206_2, k206_3, k206_4, k206_r, k206_s, F_il1, T_I, J_ifeq, F_il2, T_goto, T_ft, F_is3i, F_is3r, F_is3m, F_il3, F_al0, F_is4i, F_is4r, F_is4m, T_getR, F_il4, T_ret, c25, c138, c207, ↓s138, FX F, ↓s25 OT, kd_44, ↓reduceIte, TK, lt_run hn, le43, Int.le_refl, Int.lt_irrefl, Option.some.injEq, exists_eq_left', true_and, and_true, if_true, if_false, decide_eq_false_iff_not, decide_eq_true_eq, Nat.reduceAdd, Nat.reduceLeDiff, Nat.reduceLT, Int.reduceAdd, Int.reduceSub, Int.reduceMul, Int.reduceNeg, not_true_eq_false, not_false_eq_true]
    refine ⟨_, rfl, ?_⟩
    have e5 : Ef (fun x k => (x = 44 ∧ k = 1) ∨ Str x k ∨ x = 153 + a.toNat ∨ (x = 157 ∧ k = a.toNat) ∨ (x = 158 ∧ k = a.toNat)) h (hI h4 44 1 (J 0)) := (e4.mono fun x k q => Or.inr q).hI (Or.inl ⟨rfl, rfl⟩)
    obtain ⟨y1, y2⟩ := mr (e5.mono fun x k q => by unfold Str at q; omega)
    refine w335 F hn g1.1 g1.2 g2 T.1 T.2.1 y1 y2 (fun h6 c6 e6 q' => absurd q q') (fun h6 c6 e6 _ d6 d7 d8 => ?_)
    obtain ⟨u1, u2⟩ := rb.2 q
    have e7 : Ef (fun x k => Stk18 a.toNat x k ∨ sys x k = 0 ∨ sys x k = 1) h h6 := Ef.trans (e5.mono fun x k q => by
      rcases q with ⟨rfl, rfl⟩ | q | q
      · exact Or.inr (Or.inr rfl)
      · exact Or.inr (sys_tr q)
      · left
        unfold Stk18
        omega) (e6.mono fun x k q => by
      rcases q with q | q
      · exact Or.inr (sys_tm q)
      · left
        unfold Stk18
        omega)
    dsimp only
    refine ⟨rfl, ⟨⟨Cp18_u C g1.1 (by omega) (y := c) (m := (rdT b t).2.1) (D := (rdT b t).2.2) g2 u1 u2 (e7.mono fun x k q => q.elim Or.inl (fun z => Or.inr (by omega))) ⟨?_, ?_⟩ ⟨d7, d6⟩ (fun f f0 f1 => ⟨?_, d8 f f0 f1⟩), CpT_0 ?_ c6⟩, e7.mono fun x k q => q.elim (fun z => Or.inr (Or.inr (stk18 (by omega) z))) (fun z => by omega)⟩, rfl, rfl⟩
    · rw [e6.g (fun q => by unfold Stm at q; omega), gA_o (by decide)]
      exact c5
    · rw [e6.g (fun q => by unfold Stm at q; omega), gA_o (by decide)]
      exact c4
    · rw [e6.g (fun q => by unfold Stm at q; omega), gA_o (by omega)]
      exact d4 f f0 f1
    · rw [e6 _ _ (fun q => by unfold Stm at q; omega)]
      exact hI_s
end TS
