/-! speech: the reference, both sides -/
theorem LPq_p {h : AHi} {a c : Nat} {A B : Spl} (P : LPq h a c (A ++ B)) : LPq h a c A := fun i x q => P i x (by rw [List.getElem?_append_left (some_lt q)]; exact q)
section SR
variable {E : AEn} {h h' : AHi} {hr : AHr} {n : Nat} {Q : ARs → Prop} {t p f m k w e : Int} {b V : Int → Int}
theorem shl (F : FH hr) (hn : 775 ≤ n) {v2 v3 v4 : Int32} {v6 : Value} {P S : Spl} {x : Int × Int} (C : LPq h 754 755 (P ++ x :: S)) (hl : P.length + S.length ≤ 119) (k : ∀ h' v5, LPq h' 754 755 (P ++ S) → Ef Spq h h' → Tm E 302 (a_bl 302 16) [.ref 704, .int (J (P.length + S.length + 1)), .int v2, .int v3, .int v4, v5, v6] [] h' hr n Q) : Tm E 302 (a_bl 302 15) [.ref 704, .int (J (P.length + S.length + 1)), .int v2, .int v3, .int v4, .int (J P.length), v6] [] h hr n Q := by
  have e1 : (P.length : Int) + S.length + 1 - 1 = P.length + S.length := by omega
  refine T_for (σ := Unit) (fun j _ => [.ref 704, .int (J (P.length + S.length + 1)), .int v2, .int v3, .int v4, .int (J j), v6]) (fun j _ h' => Ef Spq h h' ∧ (∀ (i : Nat) y, (i : Int) < j → (P ++ S)[i]? = some y → gA h' 754 (i : Int) = J y.1 ∧ gA h' 755 (i : Int) = J y.2) ∧ ∀ (i : Nat) y, j < i → (P ++ x :: S)[i]? = some y → gA h' 754 (i : Int) = J y.1 ∧ gA h' 755 (i : Int) = J y.2) P.length (P.length + S.length) ?_ ?_ P.length () h (by omega) (by omega) ⟨Ef.refl, fun i y q z => C i y (by rw [sh2 (by omega)]; exact z), fun i y q z => C i y z⟩
  · rintro j _ h1 j0 j1 ⟨e2, a1, a2⟩ ih
    obtain ⟨y, hy, _⟩ := el (P ++ S) (i := j) (by omega) (by rw [List.length_append]; omega)
    have r := a2 (j.toNat + 1) y (by omega) (by rw [sh1 (by omega)]; exact hy)
    rw [show ((j.toNat + 1 : Nat) : Int) = j + 1 by omega] at r
    have z1 : gA (sA h1 754 j (J y.1)) 755 (j + 1) = J y.2 := by rw [gs_o (by decide)]; exact r.2
    rw [k302_15]
    simp +decide (maxSteps := 4000000) (disch := omega) only [k302_0, k302_2, k302_3, k302_4, k302_5, k302_6, k302_7, k302_8, k302_9, k302_10, k302_11, k302_13, k302_14, k302_17, k302_19, k302_r, k302_s, F_al0, T_I, F_is1i, F_is1r, F_is1m, F_is2i, F_is2r, F_is2m, F_is3i, F_is3r, F_is3m, T_ft, J_ifeq, F_il3, T_getI, F_is4i, F_is4r, F_is4m, F_is5i, F_is5r, F_is5m, T_getR, T_sub, X_iald, T_goto, T_iceq, T_dupI, T_dupR, T_add, T_putI, T_putZ, F_is6i, F_is6r, F_is6m, F_il2, F_il6, T_icle, F_il4, F_il1, F_il5, T_iast, F_inc1i, F_inc1r, F_inc1m, T_icge, J_ifne, T_ret, J_iflt, T_dup2, F_inc5i, F_inc5r, F_inc5m, F_inc4i, F_inc4r, F_inc4m, c217, c220, c221, c222, c224, c225, c226, c300, c303, c304, ↓s221, ↓s222, ↓s224, ↓s225, ↓s226, ↓s300, FM F, r, z1, e1, ln_754, ln_755, show ¬ (P.length : Int) + S.length ≤ j by omega, ↓reduceIte, TK, lt_run hn, le43, Int.le_refl, Int.lt_irrefl, Option.some.injEq, exists_eq_left', true_and, and_true, if_true, if_false, decide_eq_false_iff_not, decide_eq_true_eq, Nat.reduceAdd, Nat.reduceLeDiff, Nat.reduceLT, Int.reduceAdd, Int.reduceSub, Int.reduceMul, Int.reduceNeg, not_true_eq_false, not_false_eq_true]
    refine ih () _ ⟨Ef.sA (Ef.sA e2 (Or.inl rfl)) (Or.inr rfl), fun i w q z => ?_, fun i w q z => ?_⟩
    · rw [gs_o (by decide)]
      rcases (show (i : Int) < j ∨ i = j.toNat by omega) with q | q
      · rw [gs_k (by omega) (by omega) (by omega), gs_k (by omega) (by omega) (by omega), gs_o (by decide)]
        exact a1 i w q z
      · subst q
        rw [hy] at z
        rw [← Option.some.inj z, show ((j.toNat : Nat) : Int) = j by omega, gs_s, gs_s]
        exact ⟨rfl, rfl⟩
    · rw [gs_o (by decide), gs_k (by omega) (by omega) (by omega), gs_k (by omega) (by omega) (by omega), gs_o (by decide)]
      exact a2 i w (by omega) z
  · rintro _ h1 ⟨e2, a1, a2⟩
    have fin := k h1 (.int (J (P.length + S.length))) (fun i y z => a1 i y (by have := some_lt z; rw [List.length_append] at this; omega) z) e2
    rw [k302_15]
    simp +decide (maxSteps := 4000000) (disch := omega) only [k302_0, k302_2, k302_3, k302_4, k302_5, k302_6, k302_7, k302_8, k302_9, k302_10, k302_11, k302_13, k302_14, k302_17, k302_19, k302_r, k302_s, F_al0, T_I, F_is1i, F_is1r, F_is1m, F_is2i, F_is2r, F_is2m, F_is3i, F_is3r, F_is3m, T_ft, J_ifeq, F_il3, T_getI, F_is4i, F_is4r, F_is4m, F_is5i, F_is5r, F_is5m, T_getR, T_sub, X_iald, T_goto, T_iceq, T_dupI, T_dupR, T_add, T_putI, T_putZ, F_is6i, F_is6r, F_is6m, F_il2, F_il6, T_icle, F_il4, F_il1, F_il5, T_iast, F_inc1i, F_inc1r, F_inc1m, T_icge, J_ifne, T_ret, J_iflt, T_dup2, F_inc5i, F_inc5r, F_inc5m, F_inc4i, F_inc4r, F_inc4m, c217, c220, c221, c222, c224, c225, c226, c300, c303, c304, ↓s221, ↓s222, ↓s224, ↓s225, ↓s226, ↓s300, e1, ↓reduceIte, TK, lt_run hn, le43, Int.le_refl, Int.lt_irrefl, Option.some.injEq, exists_eq_left', true_and, and_true, if_true, if_false, decide_eq_false_iff_not, decide_eq_true_eq, Nat.reduceAdd, Nat.reduceLeDiff, Nat.reduceLT, Int.reduceAdd, Int.reduceSub, Int.reduceMul, Int.reduceNeg, not_true_eq_false, not_false_eq_true]
    exact fin
theorem z302b (F : FH hr) (hn : 775 ≤ n) {s : Int} {v2 v3 : Int32} {v6 : Value} : ∀ (q : Nat) (L : Spl) (h : AHi) (v4 v5 : Value), L.length ≤ q + 1 → LPq h 754 755 L → Lg L s → (∀ h' v4 v5, LPq h' 754 755 (smth q L) → Lg (smth q L) s → Ef Spq h h' → Tm E 302 (a_bl 302 17) [.ref 704, .int (J (smth q L).length), .int v2, .int v3, v4, v5, v6] [] h' hr n Q) → Tm E 302 (a_bl 302 12) [.ref 704, .int (J L.length), .int v2, .int v3, v4, v5, v6] [] h hr n Q := by
  intro q
  induction q with
  | zero =>
    intro L h v4 v5 q0 C G k
    have fin := k h v4 v5 C G Ef.refl
    rw [k302_12]
    simp +decide (maxSteps := 4000000) (disch := omega) only [k302_0, k302_2, k302_3, k302_4, k302_5, k302_6, k302_7, k302_8, k302_9, k302_10, k302_11, k302_13, k302_14, k302_16, k302_19, k302_r, k302_s, F_al0, T_I, F_is1i, F_is1r, F_is1m, F_is2i, F_is2r, F_is2m, F_is3i, F_is3r, F_is3m, T_ft, J_ifeq, F_il3, T_getI, F_is4i, F_is4r, F_is4m, F_is5i, F_is5r, F_is5m, T_getR, T_sub, X_iald, T_goto, T_iceq, T_dupI, T_dupR, T_add, T_putI, T_putZ, F_is6i, F_is6r, F_is6m, F_il2, F_il6, T_icle, F_il4, F_il1, F_il5, T_iast, F_inc1i, F_inc1r, F_inc1m, T_icge, J_ifne, T_ret, J_iflt, T_dup2, F_inc5i, F_inc5r, F_inc5m, F_inc4i, F_inc4r, F_inc4m, c217, c220, c221, c222, c224, c225, c226, c300, c303, c304, ↓s221, ↓s222, ↓s224, ↓s225, ↓s226, ↓s300, show (L.length : Int) ≤ 1 by omega, ↓reduceIte, TK, lt_run hn, le43, Int.le_refl, Int.lt_irrefl, Option.some.injEq, exists_eq_left', true_and, and_true, if_true, if_false, decide_eq_false_iff_not, decide_eq_true_eq, Nat.reduceAdd, Nat.reduceLeDiff, Nat.reduceLT, Int.reduceAdd, Int.reduceSub, Int.reduceMul, Int.reduceNeg, not_true_eq_false, not_false_eq_true]
    exact fin
  | succ q ih =>
    intro L h v4 v5 q0 C G k
    have lg := Lg_len G
    unfold smth at k
    by_cases g1 : 2 ≤ L.length
    case neg =>
      rw [if_neg (fun z => g1 z.1)] at k
      have fin := k h v4 v5 C G Ef.refl
      rw [k302_12]
      simp +decide (maxSteps := 4000000) (disch := omega) only [k302_0, k302_2, k302_3, k302_4, k302_5, k302_6, k302_7, k302_8, k302_9, k302_10, k302_11, k302_13, k302_14, k302_16, k302_19, k302_r, k302_s, F_al0, T_I, F_is1i, F_is1r, F_is1m, F_is2i, F_is2r, F_is2m, F_is3i, F_is3r, F_is3m, T_ft, J_ifeq, F_il3, T_getI, F_is4i, F_is4r, F_is4m, F_is5i, F_is5r, F_is5m, T_getR, T_sub, X_iald, T_goto, T_iceq, T_dupI, T_dupR, T_add, T_putI, T_putZ, F_is6i, F_is6r, F_is6m, F_il2, F_il6, T_icle, F_il4, F_il1, F_il5, T_iast, F_inc1i, F_inc1r, F_inc1m, T_icge, J_ifne, T_ret, J_iflt, T_dup2, F_inc5i, F_inc5r, F_inc5m, F_inc4i, F_inc4r, F_inc4m, c217, c220, c221, c222, c224, c225, c226, c300, c303, c304, ↓s221, ↓s222, ↓s224, ↓s225, ↓s226, ↓s300, show (L.length : Int) ≤ 1 by omega, ↓reduceIte, TK, lt_run hn, le43, Int.le_refl, Int.lt_irrefl, Option.some.injEq, exists_eq_left', true_and, and_true, if_true, if_false, decide_eq_false_iff_not, decide_eq_true_eq, Nat.reduceAdd, Nat.reduceLeDiff, Nat.reduceLT, Int.reduceAdd, Int.reduceSub, Int.reduceMul, Int.reduceNeg, not_true_eq_false, not_false_eq_true]
      exact fin
    rw [k302_12]
    simp +decide (maxSteps := 4000000) (disch := omega) only [k302_0, k302_2, k302_3, k302_4, k302_5, k302_6, k302_7, k302_8, k302_9, k302_10, k302_11, k302_13, k302_14, k302_16, k302_19, k302_r, k302_s, F_al0, T_I, F_is1i, F_is1r, F_is1m, F_is2i, F_is2r, F_is2m, F_is3i, F_is3r, F_is3m, T_ft, J_ifeq, F_il3, T_getI, F_is4i, F_is4r, F_is4m, F_is5i, F_is5r, F_is5m, T_getR, T_sub, X_iald, T_goto, T_iceq, T_dupI, T_dupR, T_add, T_putI, T_putZ, F_is6i, F_is6r, F_is6m, F_il2, F_il6, T_icle, F_il4, F_il1, F_il5, T_iast, F_inc1i, F_inc1r, F_inc1m, T_icge, J_ifne, T_ret, J_iflt, T_dup2, F_inc5i, F_inc5r, F_inc5m, F_inc4i, F_inc4r, F_inc4m, c217, c220, c221, c222, c224, c225, c226, c300, c303, c304, ↓s221, ↓s222, ↓s224, ↓s225, ↓s226, ↓s300, show ¬ (L.length : Int) ≤ 1 by omega, ↓reduceIte, TK, lt_run hn, le43, Int.le_refl, Int.lt_irrefl, Option.some.injEq, exists_eq_left', true_and, and_true, if_true, if_false, decide_eq_false_iff_not, decide_eq_true_eq, Nat.reduceAdd, Nat.reduceLeDiff, Nat.reduceLT, Int.reduceAdd, Int.reduceSub, Int.reduceMul, Int.reduceNeg, not_true_eq_false, not_false_eq_true]
    refine w304 F hn C G (fun g2 => ?_) (fun g2 => ?_)
    · rw [if_neg (fun z => z.2 g2)] at k
      have fin := k h v4 v5 C G Ef.refl
      simp +decide (maxSteps := 4000000) (disch := omega) only [k302_0, k302_2, k302_3, k302_4, k302_5, k302_6, k302_7, k302_8, k302_9, k302_10, k302_11, k302_13, k302_14, k302_16, k302_19, k302_r, k302_s, F_al0, T_I, F_is1i, F_is1r, F_is1m, F_is2i, F_is2r, F_is2m, F_is3i, F_is3r, F_is3m, T_ft, J_ifeq, F_il3, T_getI, F_is4i, F_is4r, F_is4m, F_is5i, F_is5r, F_is5m, T_getR, T_sub, X_iald, T_goto, T_iceq, T_dupI, T_dupR, T_add, T_putI, T_putZ, F_is6i, F_is6r, F_is6m, F_il2, F_il6, T_icle, F_il4, F_il1, F_il5, T_iast, F_inc1i, F_inc1r, F_inc1m, T_icge, J_ifne, T_ret, J_iflt, T_dup2, F_inc5i, F_inc5r, F_inc5m, F_inc4i, F_inc4r, F_inc4m, c217, c220, c221, c222, c224, c225, c226, c300, c303, c304, ↓s221, ↓s222, ↓s224, ↓s225, ↓s226, ↓s300, ↓reduceIte, TK, lt_run hn, le43, Int.le_refl, Int.lt_irrefl, Option.some.injEq, exists_eq_left', true_and, and_true, if_true, if_false, decide_eq_false_iff_not, decide_eq_true_eq, Nat.reduceAdd, Nat.reduceLeDiff, Nat.reduceLT, Int.reduceAdd, Int.reduceSub, Int.reduceMul, Int.reduceNeg, not_true_eq_false, not_false_eq_true]
      exact fin
    rw [if_pos ⟨g1, g2⟩] at k
    have fl : (fsp L).1.length ≤ L.length := by
      have := congrArg List.length (fsp_e L)
      rw [List.length_append] at this
      omega
    simp +decide (maxSteps := 4000000) (disch := omega) only [k302_0, k302_2, k302_3, k302_4, k302_5, k302_6, k302_7, k302_8, k302_9, k302_10, k302_11, k302_13, k302_14, k302_16, k302_19, k302_r, k302_s, F_al0, T_I, F_is1i, F_is1r, F_is1m, F_is2i, F_is2r, F_is2m, F_is3i, F_is3r, F_is3m, T_ft, J_ifeq, F_il3, T_getI, F_is4i, F_is4r, F_is4m, F_is5i, F_is5r, F_is5m, T_getR, T_sub, X_iald, T_goto, T_iceq, T_dupI, T_dupR, T_add, T_putI, T_putZ, F_is6i, F_is6r, F_is6m, F_il2, F_il6, T_icle, F_il4, F_il1, F_il5, T_iast, F_inc1i, F_inc1r, F_inc1m, T_icge, J_ifne, T_ret, J_iflt, T_dup2, F_inc5i, F_inc5r, F_inc5m, F_inc4i, F_inc4r, F_inc4m, c217, c220, c221, c222, c224, c225, c226, c300, c303, c304, ↓s221, ↓s222, ↓s224, ↓s225, ↓s226, ↓s300, show ¬ ((fsp L).1.length : Int) < 0 by omega, ↓reduceIte, TK, lt_run hn, le43, Int.le_refl, Int.lt_irrefl, Option.some.injEq, exists_eq_left', true_and, and_true, if_true, if_false, decide_eq_false_iff_not, decide_eq_true_eq, Nat.reduceAdd, Nat.reduceLeDiff, Nat.reduceLT, Int.reduceAdd, Int.reduceSub, Int.reduceMul, Int.reduceNeg, not_true_eq_false, not_false_eq_true]
    refine w304 F hn C G (fun g3 => absurd g3 g2) (fun _ => ?_)
    have fe := fsp_e L
    have f1 := fsp_1 L
    generalize (fsp L).1 = P at *
    generalize (fsp L).2 = R at *
    obtain ⟨G2, nl⟩ := nx_Lg G g1 fe g2 f1
    have G3 := jn_Lg G2
    have jl := (jn_k _ G2.1).2.2.1
    subst fe
    have six : ∀ h1 (v4 v5 : Value), LPq h1 754 755 (nx P R) → Ef Spq h h1 → Tm E 302 (a_bl 302 16) [.ref 704, .int (J ((P ++ R).length : Nat)), .int v2, .int v3, v4, v5, v6] [] h1 hr n Q := fun h1 v4 v5 C1 e1 => by
      have en : ((P ++ R).length : Int) - 1 = ((nx P R).length : Nat) := by omega
      rw [k302_16]
      simp +decide (maxSteps := 4000000) (disch := omega) only [k302_0, k302_2, k302_3, k302_4, k302_5, k302_6, k302_7, k302_8, k302_9, k302_10, k302_11, k302_13, k302_14, k302_16, k302_17, k302_19, k302_r, k302_s, F_al0, T_I, F_is1i, F_is1r, F_is1m, F_is2i, F_is2r, F_is2m, F_is3i, F_is3r, F_is3m, T_ft, J_ifeq, F_il3, T_getI, F_is4i, F_is4r, F_is4m, F_is5i, F_is5r, F_is5m, T_getR, T_sub, X_iald, T_goto, T_iceq, T_dupI, T_dupR, T_add, T_putI, T_putZ, F_is6i, F_is6r, F_is6m, F_il2, F_il6, T_icle, F_il4, F_il1, F_il5, T_iast, F_inc1i, F_inc1r, F_inc1m, T_icge, J_ifne, T_ret, J_iflt, T_dup2, F_inc5i, F_inc5r, F_inc5m, F_inc4i, F_inc4r, F_inc4m, c217, c220, c221, c222, c224, c225, c226, c300, c303, c304, ↓s221, ↓s222, ↓s224, ↓s225, ↓s226, ↓s300, en, ↓reduceIte, TK, lt_run hn, le43, Int.le_refl, Int.lt_irrefl, Option.some.injEq, exists_eq_left', true_and, and_true, if_true, if_false, decide_eq_false_iff_not, decide_eq_true_eq, Nat.reduceAdd, Nat.reduceLeDiff, Nat.reduceLT, Int.reduceAdd, Int.reduceSub, Int.reduceMul, Int.reduceNeg, not_true_eq_false, not_false_eq_true]
      refine w303 F hn C1 G2 (fun h2 C2 e2 => ?_)
      simp +decide (maxSteps := 4000000) (disch := omega) only [k302_0, k302_2, k302_3, k302_4, k302_5, k302_6, k302_7, k302_8, k302_9, k302_10, k302_11, k302_13, k302_14, k302_16, k302_17, k302_19, k302_r, k302_s, F_al0, T_I, F_is1i, F_is1r, F_is1m, F_is2i, F_is2r, F_is2m, F_is3i, F_is3r, F_is3m, T_ft, J_ifeq, F_il3, T_getI, F_is4i, F_is4r, F_is4m, F_is5i, F_is5r, F_is5m, T_getR, T_sub, X_iald, T_goto, T_iceq, T_dupI, T_dupR, T_add, T_putI, T_putZ, F_is6i, F_is6r, F_is6m, F_il2, F_il6, T_icle, F_il4, F_il1, F_il5, T_iast, F_inc1i, F_inc1r, F_inc1m, T_icge, J_ifne, T_ret, J_iflt, T_dup2, F_inc5i, F_inc5r, F_inc5m, F_inc4i, F_inc4r, F_inc4m, c217, c220, c221, c222, c224, c225, c226, c300, c303, c304, ↓s221, ↓s222, ↓s224, ↓s225, ↓s226, ↓s300, ↓reduceIte, TK, lt_run hn, le43, Int.le_refl, Int.lt_irrefl, Option.some.injEq, exists_eq_left', true_and, and_true, if_true, if_false, decide_eq_false_iff_not, decide_eq_true_eq, Nat.reduceAdd, Nat.reduceLeDiff, Nat.reduceLT, Int.reduceAdd, Int.reduceSub, Int.reduceMul, Int.reduceNeg, not_true_eq_false, not_false_eq_true]
      exact ih _ h2 _ _ (by omega) C2 G3 (fun h' v4 v5 a1 a2 a3 => k h' v4 v5 a1 a2 ((e1.trans e2).trans a3))
    cases R with
    | nil => exact absurd rfl g2
    | cons x S =>
      cases S with
      | nil =>
        rcases snoc P with e | ⟨P', z, e⟩
        · subst e
          exact absurd g1 (by show ¬ 2 ≤ 1; decide)
        · subst e
          have e0 : ((P' ++ [z]).length : Int) = P'.length + 1 := by
            rw [List.length_append]
            rfl
          have e1 : (((P' ++ [z]) ++ [x]).length : Int) = P'.length + 2 := by
            rw [List.length_append, List.length_append]
            show ((P'.length + 1 + 1 : Nat) : Int) = P'.length + 2
            omega
          have C' := C
          rw [List.append_assoc] at C'
          have r := LPq_r (P := P') (x := z) (S := [x]) C'
          have zb := Lg_e G (List.mem_append.mpr (Or.inl (List.mem_append.mpr (Or.inr (List.mem_singleton.mpr rfl)))))
          have W := LPq_w (v := z.2 + 1) (by decide) C'
          have eb : nx (P' ++ [z]) [x] = P' ++ [(z.1, z.2 + 1)] := bl_s P' z
          rw [eb] at six
          rw [e1] at lg six
          have W2 : LPq (sA h 755 P'.length (J (z.2 + 1))) 754 755 ((P' ++ [(z.1, z.2 + 1)]) ++ x :: []) := by
            rw [List.append_assoc]
            exact W
          have ea : ((P' ++ [(z.1, z.2 + 1)]).length : Int) = P'.length + 1 := by
            rw [List.length_append]
            rfl
          have fin := shl (E := E) (Q := Q) (hr := hr) (n := n) (v2 := v2) (v3 := v3) (v4 := J (P'.length + 1)) (v6 := v6) F hn W2 (by rw [List.length_append]; show P'.length + 1 + 0 ≤ 119; omega) (fun h4 v5 C4 e4 => by
            rw [List.append_nil] at C4
            have g := six h4 (.int (J (P'.length + 1))) v5 C4 (Ef.trans (Ef.refl.sA (Or.inr rfl)) e4)
            rw [show ((P' ++ [(z.1, z.2 + 1)]).length : Int) + (([] : Spl).length : Int) + 1 = P'.length + 2 by rw [ea]; show (P'.length : Int) + 1 + 0 + 1 = P'.length + 2; omega]
            exact g)
          rw [show ((P' ++ [(z.1, z.2 + 1)]).length : Int) + (([] : Spl).length : Int) + 1 = P'.length + 2 by rw [ea]; show (P'.length : Int) + 1 + 0 + 1 = P'.length + 2; omega, ea] at fin
          have e3 : (P'.length : Int) + 1 - 1 = P'.length := by omega
          rw [e1, e0]
          simp +decide (maxSteps := 4000000) (disch := omega) only [k302_0, k302_2, k302_3, k302_4, k302_5, k302_6, k302_7, k302_8, k302_9, k302_10, k302_11, k302_13, k302_14, k302_17, k302_19, k302_r, k302_s, F_al0, T_I, F_is1i, F_is1r, F_is1m, F_is2i, F_is2r, F_is2m, F_is3i, F_is3r, F_is3m, T_ft, J_ifeq, F_il3, T_getI, F_is4i, F_is4r, F_is4m, F_is5i, F_is5r, F_is5m, T_getR, T_sub, X_iald, T_goto, T_iceq, T_dupI, T_dupR, T_add, T_putI, T_putZ, F_is6i, F_is6r, F_is6m, F_il2, F_il6, T_icle, F_il4, F_il1, F_il5, T_iast, F_inc1i, F_inc1r, F_inc1m, T_icge, J_ifne, T_ret, J_iflt, T_dup2, F_inc5i, F_inc5r, F_inc5m, F_inc4i, F_inc4r, F_inc4m, c217, c220, c221, c222, c224, c225, c226, c300, c303, c304, ↓s221, ↓s222, ↓s224, ↓s225, ↓s226, ↓s300, FM F, r, e3, ln_755, show (P'.length : Int) + 2 - 1 ≤ P'.length + 1 by omega, ↓reduceIte, TK, lt_run hn, le43, Int.le_refl, Int.lt_irrefl, Option.some.injEq, exists_eq_left', true_and, and_true, if_true, if_false, decide_eq_false_iff_not, decide_eq_true_eq, Nat.reduceAdd, Nat.reduceLeDiff, Nat.reduceLT, Int.reduceAdd, Int.reduceSub, Int.reduceMul, Int.reduceNeg, not_true_eq_false, not_false_eq_true]
          exact fin
      | cons y ys =>
        have e1 : ((P ++ x :: y :: ys).length : Int) = P.length + ((ys.length : Int) + 1) + 1 := by
          rw [List.length_append]
          show ((P.length + (ys.length + 1 + 1) : Nat) : Int) = _
          omega
        have C' : LPq h 754 755 ((P ++ [x]) ++ y :: ys) := by
          rw [List.append_assoc]
          exact C
        have e0 : ((P ++ [x]).length : Int) = P.length + 1 := by
          rw [List.length_append]
          rfl
        have r := LPq_r C'
        have yb := Lg_e G (List.mem_append.mpr (Or.inr (List.mem_cons_of_mem x List.mem_cons_self)))
        have W := LPq_w (v := y.2 + 1) (by decide) C'
        rw [e0] at r W
        rw [e1] at lg six
        rw [List.append_assoc] at W
        have W2 : LPq (sA h 755 (P.length + 1) (J (y.2 + 1))) 754 755 (P ++ x :: (y.1, y.2 + 1) :: ys) := W
        have fin := shl (E := E) (Q := Q) (hr := hr) (n := n) (v2 := v2) (v3 := v3) (v4 := J P.length) (v6 := v6) F hn W2 (by show P.length + (ys.length + 1) ≤ 119; omega) (fun h4 v5 C4 e4 => six h4 (.int (J P.length)) v5 C4 (Ef.trans (Ef.refl.sA (Or.inr rfl)) e4))
        have fin2 : Tm E 302 (a_bl 302 15) [.ref 704, .int (J (P.length + ((ys.length : Int) + 1) + 1)), .int v2, .int v3, .int (J P.length), .int (J P.length), v6] [] (sA h 755 (P.length + 1) (J (y.2 + 1))) hr n Q := fin
        rw [e1]
        simp +decide (maxSteps := 4000000) (disch := omega) only [k302_0, k302_2, k302_3, k302_4, k302_5, k302_6, k302_7, k302_8, k302_9, k302_10, k302_11, k302_13, k302_14, k302_17, k302_19, k302_r, k302_s, F_al0, T_I, F_is1i, F_is1r, F_is1m, F_is2i, F_is2r, F_is2m, F_is3i, F_is3r, F_is3m, T_ft, J_ifeq, F_il3, T_getI, F_is4i, F_is4r, F_is4m, F_is5i, F_is5r, F_is5m, T_getR, T_sub, X_iald, T_goto, T_iceq, T_dupI, T_dupR, T_add, T_putI, T_putZ, F_is6i, F_is6r, F_is6m, F_il2, F_il6, T_icle, F_il4, F_il1, F_il5, T_iast, F_inc1i, F_inc1r, F_inc1m, T_icge, J_ifne, T_ret, J_iflt, T_dup2, F_inc5i, F_inc5r, F_inc5m, F_inc4i, F_inc4r, F_inc4m, c217, c220, c221, c222, c224, c225, c226, c300, c303, c304, ↓s221, ↓s222, ↓s224, ↓s225, ↓s226, ↓s300, FM F, r, ln_755, show ¬ (P.length : Int) + ((ys.length : Int) + 1) + 1 - 1 ≤ P.length by omega, ↓reduceIte, TK, lt_run hn, le43, Int.le_refl, Int.lt_irrefl, Option.some.injEq, exists_eq_left', true_and, and_true, if_true, if_false, decide_eq_false_iff_not, decide_eq_true_eq, Nat.reduceAdd, Nat.reduceLeDiff, Nat.reduceLT, Int.reduceAdd, Int.reduceSub, Int.reduceMul, Int.reduceNeg, not_true_eq_false, not_false_eq_true]
        exact fin2
/-- what the reference's reading of a speech changes -/
def Svq (a k : Nat) : Prop := (a = 704 ∧ (k = 2 ∨ k = 3 ∨ k = 4 ∨ k = 5)) ∨ a = 706 ∨ a = 754 ∨ a = 755
def Svs (a k : Nat) : Prop := (a = 704 ∧ k = 65) ∨ a = 752 ∨ a = 753
theorem w302 (F : FH hr) (hn : 775 ≤ n) (hV : R7 V) (ht : 0 ≤ t ∧ t ≤ 1600) (hb : ∀ i, 0 ≤ b i ∧ b i ≤ 255) (m1 : h 704 2 = J t) (m2 : ∀ i, 0 ≤ i → i < t → gA h 705 i = J (b i)) (R : Rk h 750 26 V)
    (k1 : ∀ h', h' 704 2 = J 0 → Ef Svq h h' → (sps b t V 121 0 0 []).1 ≠ -1 → Q (some (.int (J (-1000 - (sps b t V 121 0 0 []).1))), h', hr, n))
    (k2 : ∀ h', h' 704 2 = J 0 → Ef (fun a k => Svq a k ∨ Svs a k) h h' → (sps b t V 121 0 0 []).1 = -1 → h' 704 65 = J (smth 120 (jn (sps b t V 121 0 0 []).2)).length → LPq h' 752 753 (smth 120 (jn (sps b t V 121 0 0 []).2)) → Q (some (.int (J (smth 120 (jn (sps b t V 121 0 0 []).2)).length)), h', hr, n)) : Sp E 302 [.ref 704] h hr n Q := by
  have rb := sps_b ht hb hV 121 0 0 [] (by decide) (by decide) (by omega) Lg_0
  have eM : ∀ {h : AHi} {p f : Int}, Ef Svq h (MS h p f) := fun {h p f} => Ef_MS.mono fun a k q => by unfold Svq; omega
  simp +decide (maxSteps := 4000000) (disch := omega) only [k302_0, k302_2, k302_3, k302_4, k302_5, k302_6, k302_7, k302_8, k302_9, k302_10, k302_11, k302_13, k302_14, k302_16, k302_17, k302_19, k302_r, k302_s, F_al0, T_I, F_is1i, F_is1r, F_is1m, F_is2i, F_is2r, F_is2m, F_is3i, F_is3r, F_is3m, T_ft, J_ifeq, F_il3, T_getI, F_is4i, F_is4r, F_is4m, F_is5i, F_is5r, F_is5m, T_getR, T_sub, X_iald, T_goto, T_iceq, T_dupI, T_dupR, T_add, T_putI, T_putZ, F_is6i, F_is6r, F_is6m, F_il2, F_il6, T_icle, F_il4, F_il1, F_il5, T_iast, F_inc1i, F_inc1r, F_inc1m, T_icge, J_ifne, T_ret, J_iflt, T_dup2, F_inc5i, F_inc5r, F_inc5m, F_inc4i, F_inc4r, F_inc4m, c217, c220, c221, c222, c224, c225, c226, c300, c303, c304, ↓s221, ↓s222, ↓s224, ↓s225, ↓s226, ↓s300, ↓reduceIte, TK, lt_run hn, le43, Int.le_refl, Int.lt_irrefl, Option.some.injEq, exists_eq_left', true_and, and_true, if_true, if_false, decide_eq_false_iff_not, decide_eq_true_eq, Nat.reduceAdd, Nat.reduceLeDiff, Nat.reduceLT, Int.reduceAdd, Int.reduceSub, Int.reduceMul, Int.reduceNeg, not_true_eq_false, not_false_eq_true]
  refine w217 F hn ht hb m1 m2 (fun h1 T1 c1 e1 => ?_)
  have e1' : Ef Svq h h1 := e1.mono fun a k q => by unfold Svq; omega
  simp +decide (maxSteps := 4000000) (disch := omega) only [k302_0, k302_2, k302_3, k302_4, k302_5, k302_6, k302_7, k302_8, k302_9, k302_10, k302_11, k302_13, k302_14, k302_16, k302_17, k302_19, k302_r, k302_s, F_al0, T_I, F_is1i, F_is1r, F_is1m, F_is2i, F_is2r, F_is2m, F_is3i, F_is3r, F_is3m, T_ft, J_ifeq, F_il3, T_getI, F_is4i, F_is4r, F_is4m, F_is5i, F_is5r, F_is5m, T_getR, T_sub, X_iald, T_goto, T_iceq, T_dupI, T_dupR, T_add, T_putI, T_putZ, F_is6i, F_is6r, F_is6m, F_il2, F_il6, T_icle, F_il4, F_il1, F_il5, T_iast, F_inc1i, F_inc1r, F_inc1m, T_icge, J_ifne, T_ret, J_iflt, T_dup2, F_inc5i, F_inc5r, F_inc5m, F_inc4i, F_inc4r, F_inc4m, c217, c220, c221, c222, c224, c225, c226, c300, c303, c304, ↓s221, ↓s222, ↓s224, ↓s225, ↓s226, ↓s300, ↓reduceIte, TK, lt_run hn, le43, Int.le_refl, Int.lt_irrefl, Option.some.injEq, exists_eq_left', true_and, and_true, if_true, if_false, decide_eq_false_iff_not, decide_eq_true_eq, Nat.reduceAdd, Nat.reduceLeDiff, Nat.reduceLT, Int.reduceAdd, Int.reduceSub, Int.reduceMul, Int.reduceNeg, not_true_eq_false, not_false_eq_true]
  refine z302 F hn hV 121 0 0 [] h1 _ _ _ (by decide) (by decide) (by omega) Lg_0 T1 (fun j j0 j1 => by rw [e1.g (by omega)]; exact R j j0 j1) LPq_0 (fun h2 w m' v2 v3 v4 v5 v6 w0 w1 e2 gd => ?_)
  have e3 : Ef Svq h h2 := e1'.trans (e2.mono fun a k q => by unfold Svq; omega)
  have c2 : h2 704 2 = J 0 := by rw [e2 _ _ (by omega)]; exact c1
  rw [k302_10]
  generalize sps b t V 121 0 0 [] = r at *
  by_cases g : r.1 = -1
  case neg =>
    have fb := rb.1
    simp +decide (maxSteps := 4000000) (disch := omega) only [k302_0, k302_2, k302_3, k302_4, k302_5, k302_6, k302_7, k302_8, k302_9, k302_10, k302_11, k302_13, k302_14, k302_16, k302_17, k302_19, k302_r, k302_s, F_al0, T_I, F_is1i, F_is1r, F_is1m, F_is2i, F_is2r, F_is2m, F_is3i, F_is3r, F_is3m, T_ft, J_ifeq, F_il3, T_getI, F_is4i, F_is4r, F_is4m, F_is5i, F_is5r, F_is5m, T_getR, T_sub, X_iald, T_goto, T_iceq, T_dupI, T_dupR, T_add, T_putI, T_putZ, F_is6i, F_is6r, F_is6m, F_il2, F_il6, T_icle, F_il4, F_il1, F_il5, T_iast, F_inc1i, F_inc1r, F_inc1m, T_icge, J_ifne, T_ret, J_iflt, T_dup2, F_inc5i, F_inc5r, F_inc5m, F_inc4i, F_inc4r, F_inc4m, c217, c220, c221, c222, c224, c225, c226, c300, c303, c304, ↓s222, ↓s224, ↓s225, ↓s300, ↓s221 F hn, ↓s226 F hn, g, ↓reduceIte, TK, lt_run hn, le43, Int.le_refl, Int.lt_irrefl, Option.some.injEq, exists_eq_left', true_and, and_true, if_true, if_false, decide_eq_false_iff_not, decide_eq_true_eq, Nat.reduceAdd, Nat.reduceLeDiff, Nat.reduceLT, Int.reduceAdd, Int.reduceSub, Int.reduceMul, Int.reduceNeg, not_true_eq_false, not_false_eq_true]
    refine k1 _ ?_ (e3.trans eM) g
    rw [MS_j (by decide)]
    exact c2
  obtain ⟨rfl, P1⟩ := gd g
  obtain ⟨s, G, l0⟩ := rb.2 g
  have lg := Lg_len G
  have jl := (jn_k _ G.1).2.2.1
  have k3 := fun h' y q => k2 h' y q g
  rw [g]
  simp +decide (maxSteps := 4000000) (disch := omega) only [k302_0, k302_2, k302_3, k302_4, k302_5, k302_6, k302_7, k302_8, k302_9, k302_10, k302_11, k302_13, k302_14, k302_16, k302_17, k302_19, k302_r, k302_s, F_al0, T_I, F_is1i, F_is1r, F_is1m, F_is2i, F_is2r, F_is2m, F_is3i, F_is3r, F_is3m, T_ft, J_ifeq, F_il3, T_getI, F_is4i, F_is4r, F_is4m, F_is5i, F_is5r, F_is5m, T_getR, T_sub, X_iald, T_goto, T_iceq, T_dupI, T_dupR, T_add, T_putI, T_putZ, F_is6i, F_is6r, F_is6m, F_il2, F_il6, T_icle, F_il4, F_il1, F_il5, T_iast, F_inc1i, F_inc1r, F_inc1m, T_icge, J_ifne, T_ret, J_iflt, T_dup2, F_inc5i, F_inc5r, F_inc5m, F_inc4i, F_inc4r, F_inc4m, c217, c220, c221, c222, c224, c225, c226, c300, c303, c304, ↓s222, ↓s224, ↓s225, ↓s226, ↓s300, ↓s221 F hn, ↓reduceIte, TK, lt_run hn, le43, Int.le_refl, Int.lt_irrefl, Option.some.injEq, exists_eq_left', true_and, and_true, if_true, if_false, decide_eq_false_iff_not, decide_eq_true_eq, Nat.reduceAdd, Nat.reduceLeDiff, Nat.reduceLT, Int.reduceAdd, Int.reduceSub, Int.reduceMul, Int.reduceNeg, not_true_eq_false, not_false_eq_true]
  refine w303 F hn (P1.ef Ef_MS (fun k q => by omega) (fun k q => by omega)) G (fun h4 C4 e4 => ?_)
  simp +decide (maxSteps := 4000000) (disch := omega) only [k302_0, k302_2, k302_3, k302_4, k302_5, k302_6, k302_7, k302_8, k302_9, k302_10, k302_11, k302_13, k302_14, k302_16, k302_17, k302_19, k302_r, k302_s, F_al0, T_I, F_is1i, F_is1r, F_is1m, F_is2i, F_is2r, F_is2m, F_is3i, F_is3r, F_is3m, T_ft, J_ifeq, F_il3, T_getI, F_is4i, F_is4r, F_is4m, F_is5i, F_is5r, F_is5m, T_getR, T_sub, X_iald, T_goto, T_iceq, T_dupI, T_dupR, T_add, T_putI, T_putZ, F_is6i, F_is6r, F_is6m, F_il2, F_il6, T_icle, F_il4, F_il1, F_il5, T_iast, F_inc1i, F_inc1r, F_inc1m, T_icge, J_ifne, T_ret, J_iflt, T_dup2, F_inc5i, F_inc5r, F_inc5m, F_inc4i, F_inc4r, F_inc4m, c217, c220, c221, c222, c224, c225, c226, c300, c303, c304, ↓s221, ↓s222, ↓s224, ↓s225, ↓s226, ↓s300, ↓reduceIte, TK, lt_run hn, le43, Int.le_refl, Int.lt_irrefl, Option.some.injEq, exists_eq_left', true_and, and_true, if_true, if_false, decide_eq_false_iff_not, decide_eq_true_eq, Nat.reduceAdd, Nat.reduceLeDiff, Nat.reduceLT, Int.reduceAdd, Int.reduceSub, Int.reduceMul, Int.reduceNeg, not_true_eq_false, not_false_eq_true]
  refine z302b F hn 120 _ h4 _ _ (by omega) C4 (jn_Lg G) (fun h5 v4 v5 C5 G5 e5 => ?_)
  have e6 : Ef Svq h h5 := (e3.trans eM).trans ((e4.trans e5).mono fun a k q => by unfold Spq at q; unfold Svq; omega)
  have c5 : h5 704 2 = J 0 := by
    rw [(e4.trans e5) _ _ (by unfold Spq; omega), MS_j (by decide)]
    exact c2
  have lg5 := Lg_len G5
  generalize smth 120 (jn r.2) = L at *
  rw [k302_17]
  simp +decide (maxSteps := 4000000) (disch := omega) only [k302_0, k302_2, k302_3, k302_4, k302_5, k302_6, k302_7, k302_8, k302_9, k302_10, k302_11, k302_13, k302_14, k302_16, k302_17, k302_19, k302_r, k302_s, F_al0, T_I, F_is1i, F_is1r, F_is1m, F_is2i, F_is2r, F_is2m, F_is3i, F_is3r, F_is3m, T_ft, J_ifeq, F_il3, T_getI, F_is4i, F_is4r, F_is4m, F_is5i, F_is5r, F_is5m, T_getR, T_sub, X_iald, T_goto, T_iceq, T_dupI, T_dupR, T_add, T_putI, T_putZ, F_is6i, F_is6r, F_is6m, F_il2, F_il6, T_icle, F_il4, F_il1, F_il5, T_iast, F_inc1i, F_inc1r, F_inc1m, T_icge, J_ifne, T_ret, J_iflt, T_dup2, F_inc5i, F_inc5r, F_inc5m, F_inc4i, F_inc4r, F_inc4m, c217, c220, c221, c222, c224, c225, c226, c300, c303, c304, ↓s221, ↓s222, ↓s224, ↓s225, ↓s226, ↓s300, ↓reduceIte, TK, lt_run hn, le43, Int.le_refl, Int.lt_irrefl, Option.some.injEq, exists_eq_left', true_and, and_true, if_true, if_false, decide_eq_false_iff_not, decide_eq_true_eq, Nat.reduceAdd, Nat.reduceLeDiff, Nat.reduceLT, Int.reduceAdd, Int.reduceSub, Int.reduceMul, Int.reduceNeg, not_true_eq_false, not_false_eq_true]
  refine T_for (σ := Unit) (fun i _ => [.ref 704, .int (J L.length), .int v2, .int v3, .int (J i), v5, v6]) (fun i _ h' => Ef Svs h5 h' ∧ h' 704 65 = J L.length ∧ ∀ (j : Nat) y, (j : Int) < i → L[j]? = some y → gA h' 752 (j : Int) = J y.1 ∧ gA h' 753 (j : Int) = J y.2) 0 L.length ?_ ?_ 0 () _ (by omega) (by omega) ⟨Ef.refl.hI (Or.inl ⟨rfl, rfl⟩), hI_s, fun j y q => by omega⟩
  · rintro i _ h7 i0 i1 ⟨e7, d7, a7⟩ ih
    obtain ⟨x, hx, _⟩ := el L i0 i1
    have r := LPq_i C5 i0 hx
    have r1 : gA h7 754 i = J x.1 := by rw [e7.g (by unfold Svs; omega)]; exact r.1
    have r2 : gA (sA h7 752 i (J x.1)) 755 i = J x.2 := by rw [gs_o (by decide), e7.g (by unfold Svs; omega)]; exact r.2
    rw [k302_18]
    simp +decide (maxSteps := 4000000) (disch := omega) only [k302_0, k302_2, k302_3, k302_4, k302_5, k302_6, k302_7, k302_8, k302_9, k302_10, k302_11, k302_13, k302_14, k302_16, k302_17, k302_19, k302_r, k302_s, F_al0, T_I, F_is1i, F_is1r, F_is1m, F_is2i, F_is2r, F_is2m, F_is3i, F_is3r, F_is3m, T_ft, J_ifeq, F_il3, T_getI, F_is4i, F_is4r, F_is4m, F_is5i, F_is5r, F_is5m, T_getR, T_sub, X_iald, T_goto, T_iceq, T_dupI, T_dupR, T_add, T_putI, T_putZ, F_is6i, F_is6r, F_is6m, F_il2, F_il6, T_icle, F_il4, F_il1, F_il5, T_iast, F_inc1i, F_inc1r, F_inc1m, T_icge, J_ifne, T_ret, J_iflt, T_dup2, F_inc5i, F_inc5r, F_inc5m, F_inc4i, F_inc4r, F_inc4m, c217, c220, c221, c222, c224, c225, c226, c300, c303, c304, ↓s221, ↓s222, ↓s224, ↓s225, ↓s226, ↓s300, FM F, r1, r2, ln_752, ln_753, ln_754, ln_755, show ¬ (L.length : Int) ≤ i by omega, ↓reduceIte, TK, lt_run hn, le43, Int.le_refl, Int.lt_irrefl, Option.some.injEq, exists_eq_left', true_and, and_true, if_true, if_false, decide_eq_false_iff_not, decide_eq_true_eq, Nat.reduceAdd, Nat.reduceLeDiff, Nat.reduceLT, Int.reduceAdd, Int.reduceSub, Int.reduceMul, Int.reduceNeg, not_true_eq_false, not_false_eq_true]
    refine ih () _ ⟨Ef.sA (Ef.sA e7 (Or.inr (Or.inl rfl))) (Or.inr (Or.inr rfl)), by rw [sA_o (by decide), sA_o (by decide)]; exact d7, fun j y q z => ?_⟩
    rw [gs_o (by decide)]
    rcases (show (j : Int) < i ∨ j = i.toNat by omega) with q | q
    · rw [gs_k (by omega) (by omega) (by omega), gs_k (by omega) (by omega) (by omega), gs_o (by decide)]
      exact a7 j y q z
    · subst q
      rw [hx] at z
      rw [← Option.some.inj z, show ((i.toNat : Nat) : Int) = i by omega, gs_s, gs_s]
      exact ⟨rfl, rfl⟩
  · rintro _ h7 ⟨e7, d7, a7⟩
    rw [k302_18]
    simp +decide (maxSteps := 4000000) (disch := omega) only [k302_0, k302_2, k302_3, k302_4, k302_5, k302_6, k302_7, k302_8, k302_9, k302_10, k302_11, k302_13, k302_14, k302_16, k302_17, k302_19, k302_r, k302_s, F_al0, T_I, F_is1i, F_is1r, F_is1m, F_is2i, F_is2r, F_is2m, F_is3i, F_is3r, F_is3m, T_ft, J_ifeq, F_il3, T_getI, F_is4i, F_is4r, F_is4m, F_is5i, F_is5r, F_is5m, T_getR, T_sub, X_iald, T_goto, T_iceq, T_dupI, T_dupR, T_add, T_putI, T_putZ, F_is6i, F_is6r, F_is6m, F_il2, F_il6, T_icle, F_il4, F_il1, F_il5, T_iast, F_inc1i, F_inc1r, F_inc1m, T_icge, J_ifne, T_ret, J_iflt, T_dup2, F_inc5i, F_inc5r, F_inc5m, F_inc4i, F_inc4r, F_inc4m, c217, c220, c221, c222, c224, c225, c226, c300, c303, c304, ↓s221, ↓s222, ↓s224, ↓s225, ↓s226, ↓s300, ↓reduceIte, TK, lt_run hn, le43, Int.le_refl, Int.lt_irrefl, Option.some.injEq, exists_eq_left', true_and, and_true, if_true, if_false, decide_eq_false_iff_not, decide_eq_true_eq, Nat.reduceAdd, Nat.reduceLeDiff, Nat.reduceLT, Int.reduceAdd, Int.reduceSub, Int.reduceMul, Int.reduceNeg, not_true_eq_false, not_false_eq_true]
    refine k3 h7 ?_ ((e6.mono fun a k q => Or.inl q).trans (e7.mono fun a k q => Or.inr q)) d7 (fun j y z => a7 j y (by have := some_lt z; omega) z)
    rw [e7 _ _ (by unfold Svs; omega)]
    exact c5
end SR
