/-! speech: the reference's reading -/
section SQ
variable {E : AEn} {h h' : AHi} {hr : AHr} {n : Nat} {Q : ARs → Prop} {t p f m k w e : Int} {b V : Int → Int}
theorem z302 (F : FH hr) (hn : 775 ≤ n) (hV : R7 V) : ∀ (q : Nat) (tot p : Int) (L : Spl) (h : AHi) (v4 v5 v6 : Value), (L.length : Int) + q = 121 → 0 ≤ p → p ≤ t → Lg L tot → TpM h t b → Rk h 750 26 V → LPq h 754 755 L →
    (∀ h' p' m' (v2 v3 : Int32) (v4 v5 v6 : Value), 0 ≤ p' → p' ≤ 1700 → Ef (fun a _ => a = 754 ∨ a = 755) h h' → ((sps b t V q tot p L).1 = -1 → m' = ((sps b t V q tot p L).2.length : Int) ∧ LPq h' 754 755 (sps b t V q tot p L).2) → Tm E 302 (a_bl 302 10) [.ref 704, .int (J m'), .int v2, .int v3, v4, v5, v6] [] (MS h' p' (sps b t V q tot p L).1) hr n Q) →
    Tm E 302 (a_bl 302 1) [.ref 704, .int (J L.length), .int (J tot), .int (J 1), v4, v5, v6] [] (MS h p (-1)) hr n Q := by
  intro q
  induction q with
  | zero => intro tot p L h v4 v5 v6 q0 p0 p1 G; have := Lg_len G; omega
  | succ q ih =>
    intro tot p L h v4 v5 v6 q0 p0 p1 G T R P kk
    have t1 := T.1
    have t3 := T.2.2.1
    have ll := Lg_len G
    have bp := bt_r (t := t) T.2.1 p
    have nb := num_b (t := t) (f := -1) T.2.1 T.1 1 99 (p := p + 1) (by omega) (Or.inl rfl)
    have nbM := numM_b (t := t) (f := -1) T.2.1 T.1 false (lo := 1) (hi := 99) (by decide) (p := p + 1) (by omega) (Or.inl rfl)
    have nr := num_rel (b := b) (t := t) T.2.1 (lo := 1) (hi := 99) (p := p + 1) (by omega)
    have sb := sdv_b (b := b) (t := t) (p := p) hV
    unfold sps at kk
    have bad : ∀ (w f : Int) (x y z : Int32), 0 ≤ w → w ≤ 1700 → 0 ≤ f → f ≤ 1700 → (∀ (v2 v3 : Int32) (v4 v5 v6 : Value), Tm E 302 (a_bl 302 10) [.ref 704, .int (J L.length), .int v2, .int v3, v4, v5, v6] [] (MS h w f) hr n Q) → Tm E 302 (a_bl 302 5) [.ref 704, .int (J L.length), .int (J tot), .int (J 1), .int x, .int y, .int z] [] (MS h w f) hr n Q := fun w f x y z w0 w1 f0 f1 q => by
      have f2 : f ≠ -1 := by omega
      rw [k302_5]
      by_cases g1 : t ≤ w
      · simp +decide (maxSteps := 4000000) (disch := omega) only [k302_0, k302_2, k302_3, k302_4, k302_5, k302_6, k302_7, k302_8, k302_9, k302_10, k302_11, k302_13, k302_14, k302_16, k302_17, k302_19, k302_r, k302_s, F_al0, T_I, F_is1i, F_is1r, F_is1m, F_is2i, F_is2r, F_is2m, F_is3i, F_is3r, F_is3m, T_ft, J_ifeq, F_il3, T_getI, F_is4i, F_is4r, F_is4m, F_is5i, F_is5r, F_is5m, T_getR, T_sub, X_iald, T_goto, T_iceq, T_dupI, T_dupR, T_add, T_putI, T_putZ, F_is6i, F_is6r, F_is6m, F_il2, F_il6, T_icle, F_il4, F_il1, F_il5, T_iast, F_inc1i, F_inc1r, F_inc1m, T_icge, J_ifne, T_ret, J_iflt, T_dup2, F_inc5i, F_inc5r, F_inc5m, F_inc4i, F_inc4r, F_inc4m, c217, c220, c221, c222, c224, c225, c226, c300, c303, c304, ↓s222, ↓s224, ↓s225, ↓s226, ↓s300, MX, ↓s221 F hn, f2, t3, g1, ↓reduceIte, TK, lt_run hn, le43, Int.le_refl, Int.lt_irrefl, Option.some.injEq, exists_eq_left', true_and, and_true, if_true, if_false, decide_eq_false_iff_not, decide_eq_true_eq, Nat.reduceAdd, Nat.reduceLeDiff, Nat.reduceLT, Int.reduceAdd, Int.reduceSub, Int.reduceMul, Int.reduceNeg, not_true_eq_false, not_false_eq_true]
        rw [k302_1]
        simp +decide (maxSteps := 4000000) (disch := omega) only [k302_0, k302_2, k302_3, k302_4, k302_5, k302_6, k302_7, k302_8, k302_9, k302_11, k302_13, k302_14, k302_16, k302_17, k302_19, k302_r, k302_s, F_al0, T_I, F_is1i, F_is1r, F_is1m, F_is2i, F_is2r, F_is2m, F_is3i, F_is3r, F_is3m, T_ft, J_ifeq, F_il3, T_getI, F_is4i, F_is4r, F_is4m, F_is5i, F_is5r, F_is5m, T_getR, T_sub, X_iald, T_goto, T_iceq, T_dupI, T_dupR, T_add, T_putI, T_putZ, F_is6i, F_is6r, F_is6m, F_il2, F_il6, T_icle, F_il4, F_il1, F_il5, T_iast, F_inc1i, F_inc1r, F_inc1m, T_icge, J_ifne, T_ret, J_iflt, T_dup2, F_inc5i, F_inc5r, F_inc5m, F_inc4i, F_inc4r, F_inc4m, c217, c220, c221, c222, c224, c225, c226, c300, c303, c304, ↓s222, ↓s224, ↓s225, ↓s226, ↓s300, ↓s221 F hn, f2, ↓reduceIte, TK, lt_run hn, le43, Int.le_refl, Int.lt_irrefl, Option.some.injEq, exists_eq_left', true_and, and_true, if_true, if_false, decide_eq_false_iff_not, decide_eq_true_eq, Nat.reduceAdd, Nat.reduceLeDiff, Nat.reduceLT, Int.reduceAdd, Int.reduceSub, Int.reduceMul, Int.reduceNeg, not_true_eq_false, not_false_eq_true]
        exact q _ _ _ _ _
      · simp +decide (maxSteps := 4000000) (disch := omega) only [k302_0, k302_2, k302_3, k302_4, k302_5, k302_6, k302_7, k302_8, k302_9, k302_10, k302_11, k302_13, k302_14, k302_16, k302_17, k302_19, k302_r, k302_s, F_al0, T_I, F_is1i, F_is1r, F_is1m, F_is2i, F_is2r, F_is2m, F_is3i, F_is3r, F_is3m, T_ft, J_ifeq, F_il3, T_getI, F_is4i, F_is4r, F_is4m, F_is5i, F_is5r, F_is5m, T_getR, T_sub, X_iald, T_goto, T_iceq, T_dupI, T_dupR, T_add, T_putI, T_putZ, F_is6i, F_is6r, F_is6m, F_il2, F_il6, T_icle, F_il4, F_il1, F_il5, T_iast, F_inc1i, F_inc1r, F_inc1m, T_icge, J_ifne, T_ret, J_iflt, T_dup2, F_inc5i, F_inc5r, F_inc5m, F_inc4i, F_inc4r, F_inc4m, c217, c220, c221, c222, c224, c225, c226, c300, c303, c304, ↓s222, ↓s224, ↓s226, ↓s300, MX, ↓s221 F hn, ↓s225 F hn T, f2, t3, g1, rf_n f2, false_and, ↓reduceIte, TK, lt_run hn, le43, Int.le_refl, Int.lt_irrefl, Option.some.injEq, exists_eq_left', true_and, and_true, if_true, if_false, decide_eq_false_iff_not, decide_eq_true_eq, Nat.reduceAdd, Nat.reduceLeDiff, Nat.reduceLT, Int.reduceAdd, Int.reduceSub, Int.reduceMul, Int.reduceNeg, not_true_eq_false, not_false_eq_true]
        rw [k302_1]
        simp +decide (maxSteps := 4000000) (disch := omega) only [k302_0, k302_2, k302_3, k302_4, k302_5, k302_6, k302_7, k302_8, k302_9, k302_11, k302_13, k302_14, k302_16, k302_17, k302_19, k302_r, k302_s, F_al0, T_I, F_is1i, F_is1r, F_is1m, F_is2i, F_is2r, F_is2m, F_is3i, F_is3r, F_is3m, T_ft, J_ifeq, F_il3, T_getI, F_is4i, F_is4r, F_is4m, F_is5i, F_is5r, F_is5m, T_getR, T_sub, X_iald, T_goto, T_iceq, T_dupI, T_dupR, T_add, T_putI, T_putZ, F_is6i, F_is6r, F_is6m, F_il2, F_il6, T_icle, F_il4, F_il1, F_il5, T_iast, F_inc1i, F_inc1r, F_inc1m, T_icge, J_ifne, T_ret, J_iflt, T_dup2, F_inc5i, F_inc5r, F_inc5m, F_inc4i, F_inc4r, F_inc4m, c217, c220, c221, c222, c224, c225, c226, c300, c303, c304, ↓s222, ↓s224, ↓s225, ↓s226, ↓s300, ↓s221 F hn, f2, ↓reduceIte, TK, lt_run hn, le43, Int.le_refl, Int.lt_irrefl, Option.some.injEq, exists_eq_left', true_and, and_true, if_true, if_false, decide_eq_false_iff_not, decide_eq_true_eq, Nat.reduceAdd, Nat.reduceLeDiff, Nat.reduceLT, Int.reduceAdd, Int.reduceSub, Int.reduceMul, Int.reduceNeg, not_true_eq_false, not_false_eq_true]
        exact q _ _ _ _ _
    by_cases g0 : bt b t p = 46 ∨ smb (bt b t p)
    case neg =>
      rw [if_neg g0] at kk
      have f1 : p ≠ -1 := by omega
      have a1 : ¬ bt b t p = 46 := fun z => g0 (Or.inl z)
      have a2 : ¬ (97 ≤ bt b t p ∧ bt b t p ≤ 122) := fun z => g0 (Or.inr z)
      have nf : numM b t false 1 99 p p = (1, p, p) := numM_F f1
      have fin := fun v2 v3 v4 v5 v6 => kk h p L.length v2 v3 v4 v5 v6 p0 (by omega) Ef.refl (fun z => absurd z f1)
      rw [k302_1]
      simp +decide (maxSteps := 4000000) (disch := omega) only [k302_0, k302_2, k302_3, k302_4, k302_6, k302_7, k302_8, k302_9, k302_11, k302_13, k302_14, k302_16, k302_17, k302_19, k302_r, k302_s, F_al0, T_I, F_is1i, F_is1r, F_is1m, F_is2i, F_is2r, F_is2m, F_is3i, F_is3r, F_is3m, T_ft, J_ifeq, F_il3, T_getI, F_is4i, F_is4r, F_is4m, F_is5i, F_is5r, F_is5m, T_getR, T_sub, X_iald, T_goto, T_iceq, T_dupI, T_dupR, T_add, T_putI, T_putZ, F_is6i, F_is6r, F_is6m, F_il2, F_il6, T_icle, F_il4, F_il1, F_il5, T_iast, F_inc1i, F_inc1r, F_inc1m, T_icge, J_ifne, T_ret, J_iflt, T_dup2, F_inc5i, F_inc5r, F_inc5m, F_inc4i, F_inc4r, F_inc4m, c217, c220, c221, c222, c224, c225, c226, c300, c303, c304, ↓s225, ↓s226, ↓s300, MX, ↓s221 F hn, ↓s222 F hn T, ↓s224 F hn, x220 F hn T, a1, a2, f1, nf, rf_y, ↓reduceIte, TK, lt_run hn, le43, Int.le_refl, Int.lt_irrefl, Option.some.injEq, exists_eq_left', true_and, and_true, if_true, if_false, decide_eq_false_iff_not, decide_eq_true_eq, Nat.reduceAdd, Nat.reduceLeDiff, Nat.reduceLT, Int.reduceAdd, Int.reduceSub, Int.reduceMul, Int.reduceNeg, not_true_eq_false, not_false_eq_true]
      exact bad _ _ _ _ _ (by omega) (by omega) (by omega) (by omega) fin
    rw [if_pos g0] at kk
    have four : Tm E 302 (a_bl 302 4) [.ref 704, .int (J L.length), .int (J tot), .int (J 1), .int (J p), .int (J (sdv b t V p)), v6] [] (MS h (p + 1) (-1)) hr n Q := by
      rw [k302_4]
      by_cases g : (numC b t 1 99 (p + 1) (-1)).2.2 = -1
      case neg =>
        rw [if_neg g, ← nr.1] at kk
        rw [← nr.1] at g
        have f2 := nbM.2.1.resolve_left g
        have fin := fun v2 v3 v4 v5 v6 => kk h (numM b t false 1 99 (p + 1) (-1)).2.1 L.length v2 v3 v4 v5 v6 (by omega) (by omega) Ef.refl (fun z => absurd z g)
        simp +decide (maxSteps := 4000000) (disch := omega) only [k302_0, k302_2, k302_3, k302_4, k302_6, k302_7, k302_8, k302_9, k302_10, k302_11, k302_13, k302_14, k302_16, k302_17, k302_19, k302_r, k302_s, F_al0, T_I, F_is1i, F_is1r, F_is1m, F_is2i, F_is2r, F_is2m, F_is3i, F_is3r, F_is3m, T_ft, J_ifeq, F_il3, T_getI, F_is4i, F_is4r, F_is4m, F_is5i, F_is5r, F_is5m, T_getR, T_sub, X_iald, T_goto, T_iceq, T_dupI, T_dupR, T_add, T_putI, T_putZ, F_is6i, F_is6r, F_is6m, F_il2, F_il6, T_icle, F_il4, F_il1, F_il5, T_iast, F_inc1i, F_inc1r, F_inc1m, T_icge, J_ifne, T_ret, J_iflt, T_dup2, F_inc5i, F_inc5r, F_inc5m, F_inc4i, F_inc4r, F_inc4m, c217, c220, c221, c222, c224, c225, c226, c300, c303, c304, ↓s222, ↓s224, ↓s225, ↓s226, ↓s300, ↓s221 F hn, x220 F hn T, g, ↓reduceIte, TK, lt_run hn, le43, Int.le_refl, Int.lt_irrefl, Option.some.injEq, exists_eq_left', true_and, and_true, if_true, if_false, decide_eq_false_iff_not, decide_eq_true_eq, Nat.reduceAdd, Nat.reduceLeDiff, Nat.reduceLT, Int.reduceAdd, Int.reduceSub, Int.reduceMul, Int.reduceNeg, not_true_eq_false, not_false_eq_true]
        exact bad _ _ _ _ _ (by omega) (by omega) f2.1 f2.2 fin
      obtain ⟨q2, u1, u2, u3⟩ := nr.2 g
      rw [if_pos g] at kk
      rw [← q2] at kk u1 u2 u3 g
      by_cases g1 : tot + (numM b t false 1 99 (p + 1) (-1)).1 ≤ 120
      case neg =>
        rw [if_neg g1] at kk
        have f1 : p ≠ -1 := by omega
        have fin := fun v2 v3 v4 v5 v6 => kk h (numM b t false 1 99 (p + 1) (-1)).2.1 L.length v2 v3 v4 v5 v6 (by omega) (by omega) Ef.refl (fun z => absurd z f1)
        simp +decide (maxSteps := 4000000) (disch := omega) only [k302_0, k302_2, k302_3, k302_4, k302_6, k302_7, k302_8, k302_9, k302_10, k302_11, k302_13, k302_14, k302_16, k302_17, k302_19, k302_r, k302_s, F_al0, T_I, F_is1i, F_is1r, F_is1m, F_is2i, F_is2r, F_is2m, F_is3i, F_is3r, F_is3m, T_ft, J_ifeq, F_il3, T_getI, F_is4i, F_is4r, F_is4m, F_is5i, F_is5r, F_is5m, T_getR, T_sub, X_iald, T_goto, T_iceq, T_dupI, T_dupR, T_add, T_putI, T_putZ, F_is6i, F_is6r, F_is6m, F_il2, F_il6, T_icle, F_il4, F_il1, F_il5, T_iast, F_inc1i, F_inc1r, F_inc1m, T_icge, J_ifne, T_ret, J_iflt, T_dup2, F_inc5i, F_inc5r, F_inc5m, F_inc4i, F_inc4r, F_inc4m, c217, c220, c221, c222, c224, c225, c226, c300, c303, c304, ↓s222, ↓s225, ↓s226, ↓s300, ↓s221 F hn, ↓s224 F hn, x220 F hn T, rf_y, g, g1, ↓reduceIte, TK, lt_run hn, le43, Int.le_refl, Int.lt_irrefl, Option.some.injEq, exists_eq_left', true_and, and_true, if_true, if_false, decide_eq_false_iff_not, decide_eq_true_eq, Nat.reduceAdd, Nat.reduceLeDiff, Nat.reduceLT, Int.reduceAdd, Int.reduceSub, Int.reduceMul, Int.reduceNeg, not_true_eq_false, not_false_eq_true]
        exact bad _ _ _ _ _ (by omega) (by omega) (by omega) (by omega) fin
      rw [if_pos g1] at kk
      have G2 := Lg_a (v := sdv b t V p) (k := (numM b t false 1 99 (p + 1) (-1)).1) G sb (by omega) g1
      have e1 : Ef (fun a _ => a = 754 ∨ a = 755) h (sA (sA h 754 (L.length : Int) (J (sdv b t V p))) 755 (L.length : Int) (J (numM b t false 1 99 (p + 1) (-1)).1)) := Ef.sA (Ef.sA Ef.refl (Or.inl rfl)) (Or.inr rfl)
      have T1 := T.ef e1 (by decide) (fun k => by omega)
      have P1 := LPq_a (v := sdv b t V p) (k := (numM b t false 1 99 (p + 1) (-1)).1) P (by decide)
      have R1 : Rk (sA (sA h 754 (L.length : Int) (J (sdv b t V p))) 755 (L.length : Int) (J (numM b t false 1 99 (p + 1) (-1)).1)) 750 26 V := fun j j0 j1 => by
        rw [gs_o (by decide), gs_o (by decide)]
        exact R j j0 j1
      have t4 := T1.2.2.1
      have eL : ((L ++ [(sdv b t V p, (numM b t false 1 99 (p + 1) (-1)).1)]).length : Int) = L.length + 1 := by
        rw [List.length_append]
        rfl
      simp +decide (maxSteps := 4000000) (disch := omega) only [k302_0, k302_2, k302_3, k302_4, k302_5, k302_7, k302_8, k302_9, k302_10, k302_11, k302_13, k302_14, k302_16, k302_17, k302_19, k302_r, k302_s, F_al0, T_I, F_is1i, F_is1r, F_is1m, F_is2i, F_is2r, F_is2m, F_is3i, F_is3r, F_is3m, T_ft, J_ifeq, F_il3, T_getI, F_is4i, F_is4r, F_is4m, F_is5i, F_is5r, F_is5m, T_getR, T_sub, X_iald, T_goto, T_iceq, T_dupI, T_dupR, T_add, T_putI, T_putZ, F_is6i, F_is6r, F_is6m, F_il2, F_il6, T_icle, F_il4, F_il1, F_il5, T_iast, F_inc1i, F_inc1r, F_inc1m, T_icge, J_ifne, T_ret, J_iflt, T_dup2, F_inc5i, F_inc5r, F_inc5m, F_inc4i, F_inc4r, F_inc4m, c217, c220, c221, c222, c224, c225, c226, c300, c303, c304, ↓s222, ↓s224, ↓s225, ↓s226, ↓s300, FM F, ↓s221 F hn, x220 F hn T, g, g1, ln_754, ln_755, ↓reduceIte, TK, lt_run hn, le43, Int.le_refl, Int.lt_irrefl, Option.some.injEq, exists_eq_left', true_and, and_true, if_true, if_false, decide_eq_false_iff_not, decide_eq_true_eq, Nat.reduceAdd, Nat.reduceLeDiff, Nat.reduceLT, Int.reduceAdd, Int.reduceSub, Int.reduceMul, Int.reduceNeg, not_true_eq_false, not_false_eq_true]
      rw [MS_d (by decide), MS_d (by decide), k302_6]
      generalize numM b t false 1 99 (p + 1) (-1) = r at *
      by_cases g2 : t ≤ r.2.1
      · rw [if_pos g2] at kk
        have fin := fun v2 v3 v4 v5 v6 => kk _ r.2.1 ((L.length : Int) + 1) v2 v3 v4 v5 v6 (by omega) (by omega) e1 (fun _ => ⟨eL.symm, P1⟩)
        simp +decide (maxSteps := 4000000) (disch := omega) only [k302_0, k302_2, k302_3, k302_4, k302_5, k302_6, k302_7, k302_8, k302_9, k302_10, k302_11, k302_13, k302_14, k302_16, k302_17, k302_19, k302_r, k302_s, F_al0, T_I, F_is1i, F_is1r, F_is1m, F_is2i, F_is2r, F_is2m, F_is3i, F_is3r, F_is3m, T_ft, J_ifeq, F_il3, T_getI, F_is4i, F_is4r, F_is4m, F_is5i, F_is5r, F_is5m, T_getR, T_sub, X_iald, T_goto, T_iceq, T_dupI, T_dupR, T_add, T_putI, T_putZ, F_is6i, F_is6r, F_is6m, F_il2, F_il6, T_icle, F_il4, F_il1, F_il5, T_iast, F_inc1i, F_inc1r, F_inc1m, T_icge, J_ifne, T_ret, J_iflt, T_dup2, F_inc5i, F_inc5r, F_inc5m, F_inc4i, F_inc4r, F_inc4m, c217, c220, c221, c222, c224, c225, c226, c300, c303, c304, ↓s221, ↓s222, ↓s224, ↓s225, ↓s226, ↓s300, MX, t4, g2, ↓reduceIte, TK, lt_run hn, le43, Int.le_refl, Int.lt_irrefl, Option.some.injEq, exists_eq_left', true_and, and_true, if_true, if_false, decide_eq_false_iff_not, decide_eq_true_eq, Nat.reduceAdd, Nat.reduceLeDiff, Nat.reduceLT, Int.reduceAdd, Int.reduceSub, Int.reduceMul, Int.reduceNeg, not_true_eq_false, not_false_eq_true]
        rw [k302_1]
        simp +decide (maxSteps := 4000000) (disch := omega) only [k302_0, k302_2, k302_3, k302_4, k302_5, k302_6, k302_7, k302_8, k302_9, k302_11, k302_13, k302_14, k302_16, k302_17, k302_19, k302_r, k302_s, F_al0, T_I, F_is1i, F_is1r, F_is1m, F_is2i, F_is2r, F_is2m, F_is3i, F_is3r, F_is3m, T_ft, J_ifeq, F_il3, T_getI, F_is4i, F_is4r, F_is4m, F_is5i, F_is5r, F_is5m, T_getR, T_sub, X_iald, T_goto, T_iceq, T_dupI, T_dupR, T_add, T_putI, T_putZ, F_is6i, F_is6r, F_is6m, F_il2, F_il6, T_icle, F_il4, F_il1, F_il5, T_iast, F_inc1i, F_inc1r, F_inc1m, T_icge, J_ifne, T_ret, J_iflt, T_dup2, F_inc5i, F_inc5r, F_inc5m, F_inc4i, F_inc4r, F_inc4m, c217, c220, c221, c222, c224, c225, c226, c300, c303, c304, ↓s222, ↓s224, ↓s225, ↓s226, ↓s300, ↓s221 F hn, ↓reduceIte, TK, lt_run hn, le43, Int.le_refl, Int.lt_irrefl, Option.some.injEq, exists_eq_left', true_and, and_true, if_true, if_false, decide_eq_false_iff_not, decide_eq_true_eq, Nat.reduceAdd, Nat.reduceLeDiff, Nat.reduceLT, Int.reduceAdd, Int.reduceSub, Int.reduceMul, Int.reduceNeg, not_true_eq_false, not_false_eq_true]
        exact fin _ _ _ _ _
      · rw [if_neg g2] at kk
        by_cases g3 : bt b t r.2.1 = 32
        · rw [if_pos g3] at kk
          have fin := ih (tot + r.1) (r.2.1 + 1) _ _ (.int (J p)) (.int (J (sdv b t V p))) (.int (J r.1)) (by omega) (by omega) (by omega) G2 T1 R1 P1 (fun h' p' m' v2 v3 v4 v5 v6 a1 a2 a3 => kk h' p' m' v2 v3 v4 v5 v6 a1 a2 (e1.trans a3))
          rw [eL] at fin
          simp +decide (maxSteps := 4000000) (disch := omega) only [k302_0, k302_2, k302_3, k302_4, k302_5, k302_6, k302_7, k302_8, k302_9, k302_10, k302_11, k302_13, k302_14, k302_16, k302_17, k302_19, k302_r, k302_s, F_al0, T_I, F_is1i, F_is1r, F_is1m, F_is2i, F_is2r, F_is2m, F_is3i, F_is3r, F_is3m, T_ft, J_ifeq, F_il3, T_getI, F_is4i, F_is4r, F_is4m, F_is5i, F_is5r, F_is5m, T_getR, T_sub, X_iald, T_goto, T_iceq, T_dupI, T_dupR, T_add, T_putI, T_putZ, F_is6i, F_is6r, F_is6m, F_il2, F_il6, T_icle, F_il4, F_il1, F_il5, T_iast, F_inc1i, F_inc1r, F_inc1m, T_icge, J_ifne, T_ret, J_iflt, T_dup2, F_inc5i, F_inc5r, F_inc5m, F_inc4i, F_inc4r, F_inc4m, c217, c220, c221, c222, c224, c225, c226, c300, c303, c304, ↓s221, ↓s222, ↓s224, ↓s226, ↓s300, MX, t4, g2, ↓s225 F hn T1, g3, ↓reduceIte, TK, lt_run hn, le43, Int.le_refl, Int.lt_irrefl, Option.some.injEq, exists_eq_left', true_and, and_true, if_true, if_false, decide_eq_false_iff_not, decide_eq_true_eq, Nat.reduceAdd, Nat.reduceLeDiff, Nat.reduceLT, Int.reduceAdd, Int.reduceSub, Int.reduceMul, Int.reduceNeg, not_true_eq_false, not_false_eq_true]
          exact fin
        · rw [if_neg g3] at kk
          have f1 : r.2.1 ≠ -1 := by omega
          have fin := fun v2 v3 v4 v5 v6 => kk _ r.2.1 ((L.length : Int) + 1) v2 v3 v4 v5 v6 (by omega) (by omega) e1 (fun z => absurd z f1)
          simp +decide (maxSteps := 4000000) (disch := omega) only [k302_0, k302_2, k302_3, k302_4, k302_5, k302_6, k302_7, k302_8, k302_9, k302_10, k302_11, k302_13, k302_14, k302_16, k302_17, k302_19, k302_r, k302_s, F_al0, T_I, F_is1i, F_is1r, F_is1m, F_is2i, F_is2r, F_is2m, F_is3i, F_is3r, F_is3m, T_ft, J_ifeq, F_il3, T_getI, F_is4i, F_is4r, F_is4m, F_is5i, F_is5r, F_is5m, T_getR, T_sub, X_iald, T_goto, T_iceq, T_dupI, T_dupR, T_add, T_putI, T_putZ, F_is6i, F_is6r, F_is6m, F_il2, F_il6, T_icle, F_il4, F_il1, F_il5, T_iast, F_inc1i, F_inc1r, F_inc1m, T_icge, J_ifne, T_ret, J_iflt, T_dup2, F_inc5i, F_inc5r, F_inc5m, F_inc4i, F_inc4r, F_inc4m, c217, c220, c221, c222, c224, c225, c226, c300, c303, c304, ↓s221, ↓s222, ↓s224, ↓s226, ↓s300, MX, t4, g2, ↓s225 F hn T1, g3, rf_y, ↓reduceIte, TK, lt_run hn, le43, Int.le_refl, Int.lt_irrefl, Option.some.injEq, exists_eq_left', true_and, and_true, if_true, if_false, decide_eq_false_iff_not, decide_eq_true_eq, Nat.reduceAdd, Nat.reduceLeDiff, Nat.reduceLT, Int.reduceAdd, Int.reduceSub, Int.reduceMul, Int.reduceNeg, not_true_eq_false, not_false_eq_true]
          rw [k302_1]
          simp +decide (maxSteps := 4000000) (disch := omega) only [k302_0, k302_2, k302_3, k302_4, k302_5, k302_6, k302_7, k302_8, k302_9, k302_11, k302_13, k302_14, k302_16, k302_17, k302_19, k302_r, k302_s, F_al0, T_I, F_is1i, F_is1r, F_is1m, F_is2i, F_is2r, F_is2m, F_is3i, F_is3r, F_is3m, T_ft, J_ifeq, F_il3, T_getI, F_is4i, F_is4r, F_is4m, F_is5i, F_is5r, F_is5m, T_getR, T_sub, X_iald, T_goto, T_iceq, T_dupI, T_dupR, T_add, T_putI, T_putZ, F_is6i, F_is6r, F_is6m, F_il2, F_il6, T_icle, F_il4, F_il1, F_il5, T_iast, F_inc1i, F_inc1r, F_inc1m, T_icge, J_ifne, T_ret, J_iflt, T_dup2, F_inc5i, F_inc5r, F_inc5m, F_inc4i, F_inc4r, F_inc4m, c217, c220, c221, c222, c224, c225, c226, c300, c303, c304, ↓s222, ↓s224, ↓s225, ↓s226, ↓s300, ↓s221 F hn, f1, ↓reduceIte, TK, lt_run hn, le43, Int.le_refl, Int.lt_irrefl, Option.some.injEq, exists_eq_left', true_and, and_true, if_true, if_false, decide_eq_false_iff_not, decide_eq_true_eq, Nat.reduceAdd, Nat.reduceLeDiff, Nat.reduceLT, Int.reduceAdd, Int.reduceSub, Int.reduceMul, Int.reduceNeg, not_true_eq_false, not_false_eq_true]
          exact fin _ _ _ _ _
    unfold sdv at four
    by_cases a2 : smb (bt b t p)
    · have a1 : ¬ bt b t p = 46 := fun z => by unfold smb at a2; omega
      rw [if_neg a1] at four
      have g' : 97 ≤ bt b t p ∧ bt b t p ≤ 122 := a2
      have d1 : gA (MS h p (-1)) 750 (bt b t p - 97) = J (V (bt b t p - 97)) := by
        rw [MS_g (by decide)]
        exact R _ (by omega) (by omega)
      rw [k302_1]
      simp +decide (maxSteps := 4000000) (disch := omega) only [k302_0, k302_2, k302_3, k302_5, k302_6, k302_7, k302_8, k302_9, k302_11, k302_13, k302_14, k302_16, k302_17, k302_19, k302_r, k302_s, F_al0, T_I, F_is1i, F_is1r, F_is1m, F_is2i, F_is2r, F_is2m, F_is3i, F_is3r, F_is3m, T_ft, J_ifeq, F_il3, T_getI, F_is4i, F_is4r, F_is4m, F_is5i, F_is5r, F_is5m, T_getR, T_sub, X_iald, T_goto, T_iceq, T_dupI, T_dupR, T_add, T_putI, T_putZ, F_is6i, F_is6r, F_is6m, F_il2, F_il6, T_icle, F_il4, F_il1, F_il5, T_iast, F_inc1i, F_inc1r, F_inc1m, T_icge, J_ifne, T_ret, J_iflt, T_dup2, F_inc5i, F_inc5r, F_inc5m, F_inc4i, F_inc4r, F_inc4m, c217, c220, c221, c222, c224, c225, c226, c300, c303, c304, ↓s224, ↓s225, ↓s226, ↓s300, FM F, MX, ↓s221 F hn, ↓s222 F hn T, g', d1, ln_750, ↓reduceIte, TK, lt_run hn, le43, Int.le_refl, Int.lt_irrefl, Option.some.injEq, exists_eq_left', true_and, and_true, if_true, if_false, decide_eq_false_iff_not, decide_eq_true_eq, Nat.reduceAdd, Nat.reduceLeDiff, Nat.reduceLT, Int.reduceAdd, Int.reduceSub, Int.reduceMul, Int.reduceNeg, not_true_eq_false, not_false_eq_true]
      exact four
    · have a1 : bt b t p = 46 := g0.resolve_right a2
      rw [if_pos a1] at four
      rw [k302_1]
      simp +decide (maxSteps := 4000000) (disch := omega) only [k302_0, k302_2, k302_3, k302_5, k302_6, k302_7, k302_8, k302_9, k302_11, k302_13, k302_14, k302_16, k302_17, k302_19, k302_r, k302_s, F_al0, T_I, F_is1i, F_is1r, F_is1m, F_is2i, F_is2r, F_is2m, F_is3i, F_is3r, F_is3m, T_ft, J_ifeq, F_il3, T_getI, F_is4i, F_is4r, F_is4m, F_is5i, F_is5r, F_is5m, T_getR, T_sub, X_iald, T_goto, T_iceq, T_dupI, T_dupR, T_add, T_putI, T_putZ, F_is6i, F_is6r, F_is6m, F_il2, F_il6, T_icle, F_il4, F_il1, F_il5, T_iast, F_inc1i, F_inc1r, F_inc1m, T_icge, J_ifne, T_ret, J_iflt, T_dup2, F_inc5i, F_inc5r, F_inc5m, F_inc4i, F_inc4r, F_inc4m, c217, c220, c221, c222, c224, c225, c226, c300, c303, c304, ↓s224, ↓s225, ↓s226, ↓s300, FM F, MX, ↓s221 F hn, ↓s222 F hn T, a1, ↓reduceIte, TK, lt_run hn, le43, Int.le_refl, Int.lt_irrefl, Option.some.injEq, exists_eq_left', true_and, and_true, if_true, if_false, decide_eq_false_iff_not, decide_eq_true_eq, Nat.reduceAdd, Nat.reduceLeDiff, Nat.reduceLT, Int.reduceAdd, Int.reduceSub, Int.reduceMul, Int.reduceNeg, not_true_eq_false, not_false_eq_true]
      exact four
end SQ
