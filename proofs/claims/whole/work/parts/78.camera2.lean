/-! camera -/
section CB
variable {E : AEn} {h h' : AHi} {hr : AHr} {n : Nat} {Q : ARs → Prop} {m : Int} {F X Y Z F' X' Y' Z' : Int → Int}
theorem kput_sh (X Y : Int → Int) (f x y : Int) : kput (m, F, Y) f y = ((kput (m, F, X) f x).1, (kput (m, F, X) f x).2.1, (kput (m, F, Y) f y).2.2) := by
  have e : kth (m, F, Y) f = kth (m, F, X) f := rfl
  unfold kput
  rw [e]
  cases kth (m, F, X) f <;> rfl
theorem kdrop_sh (X Y : Int → Int) (f : Int) : kdrop (m, F, Y) f = ((kdrop (m, F, X) f).1, (kdrop (m, F, X) f).2.1, (kdrop (m, F, Y) f).2.2) := by
  have e : kth (m, F, Y) f = kth (m, F, X) f := rfl
  unfold kdrop
  rw [e]
  cases kth (m, F, X) f <;> rfl
theorem lput_sh (X Y X' Y' : Int → Int) (f x y : Int) : lput (m, F, Y) (m, F', Y') f y = ((lput (m, F, X) (m, F', X') f x).1, (lput (m, F, X) (m, F', X') f x).2.1, (lput (m, F, Y) (m, F', Y') f y).2.2) := by
  have e : kth (m, F, Y) f = kth (m, F, X) f := rfl
  unfold lput
  rw [e]
  cases kth (m, F, X) f <;> rfl
/-- which key of the reference has the frame -/
theorem z307 (H : FH hr) (hn : 775 ≤ n) (hm : 0 ≤ m ∧ m ≤ 8) (LR : ∀ j, 0 ≤ j → j < m → 0 ≤ F' j ∧ F' j ≤ 119) (c4 : h 704 70 = J m) (c5 : ∀ j, 0 ≤ j → j < m → gA h 756 j = J (F' j)) {f a b z : Int} (hf : 0 ≤ f ∧ f ≤ 119)
    (k1 : (∀ j, 0 ≤ j → j < m → F' j ≠ f) → Tm E 307 (a_bl 307 6) [.ref 704, .int (J f), .int (J a), .int (J b), .int (J z), .int (J (-1)), .int (J m)] [] h hr n Q)
    (k2 : ∀ j, 0 ≤ j → j < m → F' j = f → Tm E 307 (a_bl 307 6) [.ref 704, .int (J f), .int (J a), .int (J b), .int (J z), .int (J j), .int (J m)] [] h hr n Q) :
    Tm E 307 (a_bl 307 3) [.ref 704, .int (J f), .int (J a), .int (J b), .int (J z), .int (J (-1)), .int (J 0)] [] h hr n Q := by
  refine T_for (σ := Int) (fun q s => [.ref 704, .int (J f), .int (J a), .int (J b), .int (J z), .int (J s), .int (J q)]) (fun q s h' => h' = h ∧ ((s = -1 ∧ ∀ j, 0 ≤ j → j < q → F' j ≠ f) ∨ (0 ≤ s ∧ s < q ∧ F' s = f))) 0 m ?_ ?_ 0 (-1) h (by omega) (by omega) ⟨rfl, Or.inl ⟨rfl, fun j _ _ => by omega⟩⟩
  · rintro q s h' q0 q1 ⟨rfl, hs⟩ ih
    have d1 := c5 q q0 q1
    have lr := LR q q0 q1
    by_cases g : F' q = f
    · rw [g] at d1
      rw [k307_3]
      simp +decide (maxSteps := 4000000) (disch := omega) only [k307_0, k307_1, k307_2, k307_4, k307_5, k307_6, k307_8, k307_9, k307_10, k307_11, k307_12, k307_13, k307_r, k307_s, F_il1, J_ifeq, F_il2, T_I, F_il3, F_il4, J_ifne, T_ft, T_ret, F_is5i, F_is5r, F_is5m, F_is6i, F_is6r, F_is6m, F_il6, F_al0, T_getI, T_icge, T_getR, X_iald, J_icne, T_goto, F_il5, F_inc6i, F_inc6r, F_inc6m, J_iflt, T_sub, T_add, T_iast, T_dupI, T_dupR, T_putI, T_putZ, J_ifge, c219, c287, ↓s219, ↓s287, FM H, c4, d1, ln_756, show ¬ m ≤ q by omega, ↓reduceIte, TK, lt_run hn, le43, Int.le_refl, Int.lt_irrefl, Option.some.injEq, exists_eq_left', true_and, and_true, if_true, if_false, decide_eq_false_iff_not, decide_eq_true_eq, Nat.reduceAdd, Nat.reduceLeDiff, Nat.reduceLT, Int.reduceAdd, Int.reduceSub, Int.reduceMul, Int.reduceNeg, not_true_eq_false, not_false_eq_true]
      exact ih _ _ ⟨rfl, Or.inr ⟨q0, by omega, g⟩⟩
    · rw [k307_3]
      simp +decide (maxSteps := 4000000) (disch := omega) only [k307_0, k307_1, k307_2, k307_4, k307_5, k307_6, k307_8, k307_9, k307_10, k307_11, k307_12, k307_13, k307_r, k307_s, F_il1, J_ifeq, F_il2, T_I, F_il3, F_il4, J_ifne, T_ft, T_ret, F_is5i, F_is5r, F_is5m, F_is6i, F_is6r, F_is6m, F_il6, F_al0, T_getI, T_icge, T_getR, X_iald, J_icne, T_goto, F_il5, F_inc6i, F_inc6r, F_inc6m, J_iflt, T_sub, T_add, T_iast, T_dupI, T_dupR, T_putI, T_putZ, J_ifge, c219, c287, ↓s219, ↓s287, FM H, c4, d1, g, ln_756, show ¬ m ≤ q by omega, ↓reduceIte, TK, lt_run hn, le43, Int.le_refl, Int.lt_irrefl, Option.some.injEq, exists_eq_left', true_and, and_true, if_true, if_false, decide_eq_false_iff_not, decide_eq_true_eq, Nat.reduceAdd, Nat.reduceLeDiff, Nat.reduceLT, Int.reduceAdd, Int.reduceSub, Int.reduceMul, Int.reduceNeg, not_true_eq_false, not_false_eq_true]
      refine ih _ _ ⟨rfl, ?_⟩
      rcases hs with ⟨a1, a2⟩ | ⟨a1, a2, a3⟩
      · refine Or.inl ⟨a1, fun t t0 t1 => ?_⟩
        rcases (show t < q ∨ t = q by omega) with y | y
        · exact a2 t t0 y
        · rw [y]
          exact g
      · exact Or.inr ⟨a1, by omega, a3⟩
  · rintro s h' ⟨rfl, hs⟩
    rw [k307_3]
    simp +decide (maxSteps := 4000000) (disch := omega) only [k307_0, k307_1, k307_2, k307_4, k307_5, k307_8, k307_9, k307_10, k307_11, k307_12, k307_13, k307_r, k307_s, F_il1, J_ifeq, F_il2, T_I, F_il3, F_il4, J_ifne, T_ft, T_ret, F_is5i, F_is5r, F_is5m, F_is6i, F_is6r, F_is6m, F_il6, F_al0, T_getI, T_icge, T_getR, X_iald, J_icne, T_goto, F_il5, F_inc6i, F_inc6r, F_inc6m, J_iflt, T_sub, T_add, T_iast, T_dupI, T_dupR, T_putI, T_putZ, J_ifge, c219, c287, ↓s219, ↓s287, FM H, c4, ↓reduceIte, TK, lt_run hn, le43, Int.le_refl, Int.lt_irrefl, Option.some.injEq, exists_eq_left', true_and, and_true, if_true, if_false, decide_eq_false_iff_not, decide_eq_true_eq, Nat.reduceAdd, Nat.reduceLeDiff, Nat.reduceLT, Int.reduceAdd, Int.reduceSub, Int.reduceMul, Int.reduceNeg, not_true_eq_false, not_false_eq_true]
    rcases hs with ⟨a1, a2⟩ | ⟨a1, a2, a3⟩
    · rw [a1]
      exact k1 a2
    · exact k2 s a1 a2 a3
def Scm (a k : Nat) : Prop := (756 ≤ a ∧ a ≤ 759) ∨ (a = 704 ∧ k = 70)
theorem scm15 {a k : Nat} (q : Scm a k) : sys a k = 15 := by
  rcases q with q | ⟨rfl, rfl⟩
  · rcases (show a = 756 ∨ a = 757 ∨ a = 758 ∨ a = 759 by omega) with rfl | rfl | rfl | rfl <;> rfl
  · rfl
theorem Cm.new {m m2 : Int} {G X Y Z G' X' Y' Z' : Int → Int} (r : KR 8 (-400) 400 (m2, G, X) ∧ KR 8 (-400) 400 (m2, G, Y) ∧ KR 8 16 256 (m2, G, Z)) (k : KE (m2, G, X) (m2, G', X') ∧ KE (m2, G, Y) (m2, G', Y') ∧ KE (m2, G, Z) (m2, G', Z')) (c1 : KC h 695 (m2, G, X)) (c2 : KC h 698 (m2, G, Y)) (c3 : KC h 701 (m2, G, Z)) (c4 : h' 704 70 = J m2) (c5 : ∀ j, 0 ≤ j → j < m2 → (gA h' 756 j = J (G' j) ∧ gA h' 757 j = J (X' j)) ∧ gA h' 758 j = J (Y' j) ∧ gA h' 759 j = J (Z' j)) (e : Ef Scm h h') : Cp15 h' :=
  ⟨m2, G, X, Y, Z, G', X', Y', Z', r, k, ⟨c1.ef e (fun x k h1 h2 q => by unfold Scm at q; omega), c2.ef e (fun x k h1 h2 q => by unfold Scm at q; omega), c3.ef e (fun x k h1 h2 q => by unfold Scm at q; omega)⟩, c4, c5⟩
theorem kpsky {o : Nat} {h h' : AHi} (e : Ef (Sky o) h h') (h1 : 695 ≤ o) (h2 : o ≤ 701) : Kp 15 15 h h' := Kp.of e (fun x k q => Or.inr (Or.inl (sys_15 (by unfold Sky at q; omega) (by unfold Sky at q; omega))))
set_option maxHeartbeats 4000000 in
theorem Pcamera (H : FH hr) (hn : 775 ≤ n) (C : Cp15 h) (x y z w : Int32) : Pr2 E 185 307 [.int x, .int y, .int z, .int w] h hr n (Po Cp15 15 15 h hr n) := by
  have C0 := C
  obtain ⟨m, F, X, Y, Z, F', X', Y', Z', C⟩ := C
  obtain ⟨f, hf, hf', rfl⟩ := J_of x
  obtain ⟨a, ha, ha', rfl⟩ := J_of y
  obtain ⟨b, hb, hb', rfl⟩ := J_of z
  obtain ⟨u, hu, hu', rfl⟩ := J_of w
  unfold Pr2
  by_cases g1 : 0 ≤ f ∧ f ≤ 119
  case neg =>
    simp +decide (maxSteps := 4000000) (disch := omega) only [k185_0, k185_1, k185_2, k185_4, k185_5, k185_6, k185_r, k185_s, F_il1, J_ifeq, F_il2, F_il3, F_il4, T_I, J_ifne, T_ft, T_ret, F_is5i, F_is5r, F_is5m, F_il5, F_al0, T_getR, J_alen, T_icge, X_aald, F_inc5i, F_inc5r, F_inc5m, T_goto, T_getI, c51, c54, c56, c138, c171, c173, ↓s51, ↓s138, ↓s171, ↓s173, FX H, g1, ↓reduceIte, TK, lt_run hn, le43, Int.le_refl, Int.lt_irrefl, Option.some.injEq, exists_eq_left', true_and, and_true, if_true, if_false, decide_eq_false_iff_not, decide_eq_true_eq, Nat.reduceAdd, Nat.reduceLeDiff, Nat.reduceLT, Int.reduceAdd, Int.reduceSub, Int.reduceMul, Int.reduceNeg, not_true_eq_false, not_false_eq_true]
    refine ⟨_, rfl, ?_⟩
    simp +decide (maxSteps := 4000000) (disch := omega) only [k307_0, k307_1, k307_2, k307_4, k307_5, k307_6, k307_8, k307_9, k307_10, k307_11, k307_12, k307_13, k307_r, k307_s, F_il1, J_ifeq, F_il2, T_I, F_il3, F_il4, J_ifne, T_ft, T_ret, F_is5i, F_is5r, F_is5m, F_is6i, F_is6r, F_is6m, F_il6, F_al0, T_getI, T_icge, T_getR, X_iald, J_icne, T_goto, F_il5, F_inc6i, F_inc6r, F_inc6m, J_iflt, T_sub, T_add, T_iast, T_dupI, T_dupR, T_putI, T_putZ, J_ifge, c219, c287, ↓s219, ↓s287, FM H, g1, ↓reduceIte, TK, lt_run hn, le43, Int.le_refl, Int.lt_irrefl, Option.some.injEq, exists_eq_left', true_and, and_true, if_true, if_false, decide_eq_false_iff_not, decide_eq_true_eq, Nat.reduceAdd, Nat.reduceLeDiff, Nat.reduceLT, Int.reduceAdd, Int.reduceSub, Int.reduceMul, Int.reduceNeg, not_true_eq_false, not_false_eq_true]
    first | exact ⟨rfl, ⟨C0, Kp.refl⟩, rfl, rfl⟩ | exact ⟨⟨C0, Kp.refl⟩, rfl, rfl⟩ | exact ⟨C0, Kp.refl⟩
  by_cases g2 : -400 ≤ a ∧ a ≤ 400
  case neg =>
    simp +decide (maxSteps := 4000000) (disch := omega) only [k185_0, k185_1, k185_2, k185_4, k185_5, k185_6, k185_r, k185_s, F_il1, J_ifeq, F_il2, F_il3, F_il4, T_I, J_ifne, T_ft, T_ret, F_is5i, F_is5r, F_is5m, F_il5, F_al0, T_getR, J_alen, T_icge, X_aald, F_inc5i, F_inc5r, F_inc5m, T_goto, T_getI, c51, c54, c56, c138, c171, c173, ↓s51, ↓s138, ↓s171, ↓s173, FX H, g1, g2, ↓reduceIte, TK, lt_run hn, le43, Int.le_refl, Int.lt_irrefl, Option.some.injEq, exists_eq_left', true_and, and_true, if_true, if_false, decide_eq_false_iff_not, decide_eq_true_eq, Nat.reduceAdd, Nat.reduceLeDiff, Nat.reduceLT, Int.reduceAdd, Int.reduceSub, Int.reduceMul, Int.reduceNeg, not_true_eq_false, not_false_eq_true]
    refine ⟨_, rfl, ?_⟩
    simp +decide (maxSteps := 4000000) (disch := omega) only [k307_0, k307_1, k307_2, k307_4, k307_5, k307_6, k307_8, k307_9, k307_10, k307_11, k307_12, k307_13, k307_r, k307_s, F_il1, J_ifeq, F_il2, T_I, F_il3, F_il4, J_ifne, T_ft, T_ret, F_is5i, F_is5r, F_is5m, F_is6i, F_is6r, F_is6m, F_il6, F_al0, T_getI, T_icge, T_getR, X_iald, J_icne, T_goto, F_il5, F_inc6i, F_inc6r, F_inc6m, J_iflt, T_sub, T_add, T_iast, T_dupI, T_dupR, T_putI, T_putZ, J_ifge, c219, c287, ↓s219, ↓s287, FM H, g1, g2, ↓reduceIte, TK, lt_run hn, le43, Int.le_refl, Int.lt_irrefl, Option.some.injEq, exists_eq_left', true_and, and_true, if_true, if_false, decide_eq_false_iff_not, decide_eq_true_eq, Nat.reduceAdd, Nat.reduceLeDiff, Nat.reduceLT, Int.reduceAdd, Int.reduceSub, Int.reduceMul, Int.reduceNeg, not_true_eq_false, not_false_eq_true]
    first | exact ⟨rfl, ⟨C0, Kp.refl⟩, rfl, rfl⟩ | exact ⟨⟨C0, Kp.refl⟩, rfl, rfl⟩ | exact ⟨C0, Kp.refl⟩
  by_cases g3 : -400 ≤ b ∧ b ≤ 400
  case neg =>
    simp +decide (maxSteps := 4000000) (disch := omega) only [k185_0, k185_1, k185_2, k185_4, k185_5, k185_6, k185_r, k185_s, F_il1, J_ifeq, F_il2, F_il3, F_il4, T_I, J_ifne, T_ft, T_ret, F_is5i, F_is5r, F_is5m, F_il5, F_al0, T_getR, J_alen, T_icge, X_aald, F_inc5i, F_inc5r, F_inc5m, T_goto, T_getI, c51, c54, c56, c138, c171, c173, ↓s51, ↓s138, ↓s171, ↓s173, FX H, g1, g2, g3, ↓reduceIte, TK, lt_run hn, le43, Int.le_refl, Int.lt_irrefl, Option.some.injEq, exists_eq_left', true_and, and_true, if_true, if_false, decide_eq_false_iff_not, decide_eq_true_eq, Nat.reduceAdd, Nat.reduceLeDiff, Nat.reduceLT, Int.reduceAdd, Int.reduceSub, Int.reduceMul, Int.reduceNeg, not_true_eq_false, not_false_eq_true]
    refine ⟨_, rfl, ?_⟩
    simp +decide (maxSteps := 4000000) (disch := omega) only [k307_0, k307_1, k307_2, k307_4, k307_5, k307_6, k307_8, k307_9, k307_10, k307_11, k307_12, k307_13, k307_r, k307_s, F_il1, J_ifeq, F_il2, T_I, F_il3, F_il4, J_ifne, T_ft, T_ret, F_is5i, F_is5r, F_is5m, F_is6i, F_is6r, F_is6m, F_il6, F_al0, T_getI, T_icge, T_getR, X_iald, J_icne, T_goto, F_il5, F_inc6i, F_inc6r, F_inc6m, J_iflt, T_sub, T_add, T_iast, T_dupI, T_dupR, T_putI, T_putZ, J_ifge, c219, c287, ↓s219, ↓s287, FM H, g1, g2, g3, ↓reduceIte, TK, lt_run hn, le43, Int.le_refl, Int.lt_irrefl, Option.some.injEq, exists_eq_left', true_and, and_true, if_true, if_false, decide_eq_false_iff_not, decide_eq_true_eq, Nat.reduceAdd, Nat.reduceLeDiff, Nat.reduceLT, Int.reduceAdd, Int.reduceSub, Int.reduceMul, Int.reduceNeg, not_true_eq_false, not_false_eq_true]
    first | exact ⟨rfl, ⟨C0, Kp.refl⟩, rfl, rfl⟩ | exact ⟨⟨C0, Kp.refl⟩, rfl, rfl⟩ | exact ⟨C0, Kp.refl⟩
  have CC := C
  obtain ⟨⟨r1, r2, r3⟩, ⟨e1, e2, e3⟩, ⟨c1, c2, c3⟩, c4, c5⟩ := C
  have m0 : 0 ≤ m := r1.1.1
  have m1 : m ≤ 8 := r1.1.2
  have x1 := f112 H
  by_cases g4 : u = 0
  · subst g4
    simp +decide (maxSteps := 4000000) (disch := omega) only [k185_0, k185_1, k185_2, k185_4, k185_5, k185_6, k185_r, k185_s, F_il1, J_ifeq, F_il2, F_il3, F_il4, T_I, J_ifne, T_ft, T_ret, F_is5i, F_is5r, F_is5m, F_il5, F_al0, T_getR, J_alen, T_icge, X_aald, F_inc5i, F_inc5r, F_inc5m, T_goto, T_getI, c51, c54, c56, c138, c171, c173, ↓s51, ↓s138, ↓s171, ↓s173, FX H, g1, g2, g3, ↓reduceIte, TK, lt_run hn, le43, Int.le_refl, Int.lt_irrefl, Option.some.injEq, exists_eq_left', true_and, and_true, if_true, if_false, decide_eq_false_iff_not, decide_eq_true_eq, Nat.reduceAdd, Nat.reduceLeDiff, Nat.reduceLT, Int.reduceAdd, Int.reduceSub, Int.reduceMul, Int.reduceNeg, not_true_eq_false, not_false_eq_true]
    have l3 : ((3 : Nat) : Int) = 3 := rfl
    rw [k185_3]
    simp +decide (maxSteps := 4000000) (disch := omega) only [k185_0, k185_1, k185_2, k185_5, k185_6, k185_r, k185_s, F_il1, J_ifeq, F_il2, F_il3, F_il4, T_I, J_ifne, T_ft, T_ret, F_is5i, F_is5r, F_is5m, F_il5, F_al0, T_getR, J_alen, T_icge, X_aald, F_inc5i, F_inc5r, F_inc5m, T_goto, T_getI, c51, c54, c56, c138, c171, c173, ↓s51, ↓s138, ↓s171, ↓s173, FX H, x1, kd_112, ln_112, l3, ↓reduceIte, TK, lt_run hn, le43, Int.le_refl, Int.lt_irrefl, Option.some.injEq, exists_eq_left', true_and, and_true, if_true, if_false, decide_eq_false_iff_not, decide_eq_true_eq, Nat.reduceAdd, Nat.reduceLeDiff, Nat.reduceLT, Int.reduceAdd, Int.reduceSub, Int.reduceMul, Int.reduceNeg, not_true_eq_false, not_false_eq_true]
    refine w56 hn (Kb695 H) r1 c1 g1 (fun h1 p1 t1 => ?_)
    simp +decide (maxSteps := 4000000) (disch := omega) only [k185_0, k185_1, k185_2, k185_4, k185_5, k185_6, k185_r, k185_s, F_il1, J_ifeq, F_il2, F_il3, F_il4, T_I, J_ifne, T_ft, T_ret, F_is5i, F_is5r, F_is5m, F_il5, F_al0, T_getR, J_alen, T_icge, X_aald, F_inc5i, F_inc5r, F_inc5m, T_goto, T_getI, c51, c54, c56, c138, c171, c173, ↓s51, ↓s138, ↓s171, ↓s173, FX H, ↓reduceIte, TK, lt_run hn, le43, Int.le_refl, Int.lt_irrefl, Option.some.injEq, exists_eq_left', true_and, and_true, if_true, if_false, decide_eq_false_iff_not, decide_eq_true_eq, Nat.reduceAdd, Nat.reduceLeDiff, Nat.reduceLT, Int.reduceAdd, Int.reduceSub, Int.reduceMul, Int.reduceNeg, not_true_eq_false, not_false_eq_true]
    rw [k185_3]
    simp +decide (maxSteps := 4000000) (disch := omega) only [k185_0, k185_1, k185_2, k185_5, k185_6, k185_r, k185_s, F_il1, J_ifeq, F_il2, F_il3, F_il4, T_I, J_ifne, T_ft, T_ret, F_is5i, F_is5r, F_is5m, F_il5, F_al0, T_getR, J_alen, T_icge, X_aald, F_inc5i, F_inc5r, F_inc5m, T_goto, T_getI, c51, c54, c56, c138, c171, c173, ↓s51, ↓s138, ↓s171, ↓s173, FX H, x1, kd_112, ln_112, l3, ↓reduceIte, TK, lt_run hn, le43, Int.le_refl, Int.lt_irrefl, Option.some.injEq, exists_eq_left', true_and, and_true, if_true, if_false, decide_eq_false_iff_not, decide_eq_true_eq, Nat.reduceAdd, Nat.reduceLeDiff, Nat.reduceLT, Int.reduceAdd, Int.reduceSub, Int.reduceMul, Int.reduceNeg, not_true_eq_false, not_false_eq_true]
    refine w56 hn (Kb698 H) r2 (c2.ef t1 (fun x k h1 h2 q => by unfold Sky at q; omega)) g1 (fun h2 p2 t2 => ?_)
    simp +decide (maxSteps := 4000000) (disch := omega) only [k185_0, k185_1, k185_2, k185_4, k185_5, k185_6, k185_r, k185_s, F_il1, J_ifeq, F_il2, F_il3, F_il4, T_I, J_ifne, T_ft, T_ret, F_is5i, F_is5r, F_is5m, F_il5, F_al0, T_getR, J_alen, T_icge, X_aald, F_inc5i, F_inc5r, F_inc5m, T_goto, T_getI, c51, c54, c56, c138, c171, c173, ↓s51, ↓s138, ↓s171, ↓s173, FX H, ↓reduceIte, TK, lt_run hn, le43, Int.le_refl, Int.lt_irrefl, Option.some.injEq, exists_eq_left', true_and, and_true, if_true, if_false, decide_eq_false_iff_not, decide_eq_true_eq, Nat.reduceAdd, Nat.reduceLeDiff, Nat.reduceLT, Int.reduceAdd, Int.reduceSub, Int.reduceMul, Int.reduceNeg, not_true_eq_false, not_false_eq_true]
    rw [k185_3]
    simp +decide (maxSteps := 4000000) (disch := omega) only [k185_0, k185_1, k185_2, k185_5, k185_6, k185_r, k185_s, F_il1, J_ifeq, F_il2, F_il3, F_il4, T_I, J_ifne, T_ft, T_ret, F_is5i, F_is5r, F_is5m, F_il5, F_al0, T_getR, J_alen, T_icge, X_aald, F_inc5i, F_inc5r, F_inc5m, T_goto, T_getI, c51, c54, c56, c138, c171, c173, ↓s51, ↓s138, ↓s171, ↓s173, FX H, x1, kd_112, ln_112, l3, ↓reduceIte, TK, lt_run hn, le43, Int.le_refl, Int.lt_irrefl, Option.some.injEq, exists_eq_left', true_and, and_true, if_true, if_false, decide_eq_false_iff_not, decide_eq_true_eq, Nat.reduceAdd, Nat.reduceLeDiff, Nat.reduceLT, Int.reduceAdd, Int.reduceSub, Int.reduceMul, Int.reduceNeg, not_true_eq_false, not_false_eq_true]
    refine w56 hn (Kb701 H) r3 ((c3.ef t1 (fun x k h1 h2 q => by unfold Sky at q; omega)).ef t2 (fun x k h1 h2 q => by unfold Sky at q; omega)) g1 (fun h3 p3 t3 => ?_)
    have p1' := (p1.ef t2 (fun x k h1 h2 q => by unfold Sky at q; omega)).ef t3 (fun x k h1 h2 q => by unfold Sky at q; omega)
    have p2' := p2.ef t3 (fun x k h1 h2 q => by unfold Sky at q; omega)
    have p10 := p1'.1
    simp +decide (maxSteps := 4000000) (disch := omega) only [k185_0, k185_1, k185_2, k185_4, k185_5, k185_6, k185_r, k185_s, F_il1, J_ifeq, F_il2, F_il3, F_il4, T_I, J_ifne, T_ft, T_ret, F_is5i, F_is5r, F_is5m, F_il5, F_al0, T_getR, J_alen, T_icge, X_aald, F_inc5i, F_inc5r, F_inc5m, T_goto, T_getI, c51, c54, c56, c138, c171, c173, ↓s51, ↓s138, ↓s171, ↓s173, FX H, ↓reduceIte, TK, lt_run hn, le43, Int.le_refl, Int.lt_irrefl, Option.some.injEq, exists_eq_left', true_and, and_true, if_true, if_false, decide_eq_false_iff_not, decide_eq_true_eq, Nat.reduceAdd, Nat.reduceLeDiff, Nat.reduceLT, Int.reduceAdd, Int.reduceSub, Int.reduceMul, Int.reduceNeg, not_true_eq_false, not_false_eq_true]
    rw [k185_3]
    simp +decide (maxSteps := 4000000) (disch := omega) only [k185_0, k185_1, k185_2, k185_4, k185_5, k185_6, k185_r, k185_s, F_il1, J_ifeq, F_il2, F_il3, F_il4, T_I, J_ifne, T_ft, T_ret, F_is5i, F_is5r, F_is5m, F_il5, F_al0, T_getR, J_alen, T_icge, X_aald, F_inc5i, F_inc5r, F_inc5m, T_goto, T_getI, c51, c54, c56, c138, c171, c173, ↓s51, ↓s138, ↓s171, ↓s173, FX H, x1, kd_112, ln_112, l3, p10, ↓reduceIte, TK, lt_run hn, le43, Int.le_refl, Int.lt_irrefl, Option.some.injEq, exists_eq_left', true_and, and_true, if_true, if_false, decide_eq_false_iff_not, decide_eq_true_eq, Nat.reduceAdd, Nat.reduceLeDiff, Nat.reduceLT, Int.reduceAdd, Int.reduceSub, Int.reduceMul, Int.reduceNeg, not_true_eq_false, not_false_eq_true]
    refine ⟨_, rfl, ?_⟩
    have tt : Ef (fun a k => 695 ≤ a ∧ a < 704) h h3 := ((t1.mono fun a k q => by unfold Sky at q; omega).trans (t2.mono fun a k q => by unfold Sky at q; omega)).trans (t3.mono fun a k q => by unfold Sky at q; omega)
    have kk : Kp 15 15 h h3 := Kp.of tt (fun a k q => Or.inr (Or.inl (sys_15 q.1 q.2)))
    have d4 : h3 704 70 = J m := by
      rw [tt _ _ (by omega)]
      exact c4
    have d5 : ∀ j, 0 ≤ j → j < m → (gA h3 756 j = J (F' j) ∧ gA h3 757 j = J (X' j)) ∧ gA h3 758 j = J (Y' j) ∧ gA h3 759 j = J (Z' j) := fun j j0 j1 => by
      rw [tt.g (by omega), tt.g (by omega), tt.g (by omega), tt.g (by omega)]
      exact c5 j j0 j1
    have sY := kdrop_sh (m := m) (F := F) X Y f
    have sZ := kdrop_sh (m := m) (F := F) X Z f
    have R1 := kdrop_r (f := f) r1
    have R2 := kdrop_r (f := f) r2
    have R3 := kdrop_r (f := f) r3
    have LR : ∀ j, 0 ≤ j → j < m → 0 ≤ F' j ∧ F' j ≤ 119 := fun j j0 j1 => (e1.r r1 j j0 j1).1
    simp +decide (maxSteps := 4000000) (disch := omega) only [k307_0, k307_1, k307_2, k307_4, k307_5, k307_6, k307_8, k307_9, k307_10, k307_11, k307_12, k307_13, k307_r, k307_s, F_il1, J_ifeq, F_il2, T_I, F_il3, F_il4, J_ifne, T_ft, T_ret, F_is5i, F_is5r, F_is5m, F_is6i, F_is6r, F_is6m, F_il6, F_al0, T_getI, T_icge, T_getR, X_iald, J_icne, T_goto, F_il5, F_inc6i, F_inc6r, F_inc6m, J_iflt, T_sub, T_add, T_iast, T_dupI, T_dupR, T_putI, T_putZ, J_ifge, c219, c287, ↓s219, ↓s287, FM H, g1, g2, g3, ↓reduceIte, TK, lt_run hn, le43, Int.le_refl, Int.lt_irrefl, Option.some.injEq, exists_eq_left', true_and, and_true, if_true, if_false, decide_eq_false_iff_not, decide_eq_true_eq, Nat.reduceAdd, Nat.reduceLeDiff, Nat.reduceLT, Int.reduceAdd, Int.reduceSub, Int.reduceMul, Int.reduceNeg, not_true_eq_false, not_false_eq_true]
    refine z307 H hn ⟨m0, m1⟩ LR d4 (fun j j0 j1 => (d5 j j0 j1).1.1) g1 (fun q => ?_) (fun r q0 q1 q => ?_)
    · have t : kth (m, F, X) f = false := kth_f e1 r1 q
      have nt : ¬ (kth (m, F, X) f = true) := by rw [t]; decide
      have kX : kdrop (m, F, X) f = (m, F, X) := if_neg nt
      have kY : kdrop (m, F, Y) f = (m, F, Y) := if_neg nt
      have kZ : kdrop (m, F, Z) f = (m, F, Z) := if_neg nt
      rw [kX] at p1' ⊢
      rw [kY] at p2'
      rw [kZ] at p3
      rw [k307_6]
      simp +decide (maxSteps := 4000000) (disch := omega) only [k307_0, k307_1, k307_2, k307_4, k307_5, k307_6, k307_8, k307_9, k307_10, k307_11, k307_12, k307_13, k307_r, k307_s, F_il1, J_ifeq, F_il2, T_I, F_il3, F_il4, J_ifne, T_ft, T_ret, F_is5i, F_is5r, F_is5m, F_is6i, F_is6r, F_is6m, F_il6, F_al0, T_getI, T_icge, T_getR, X_iald, J_icne, T_goto, F_il5, F_inc6i, F_inc6r, F_inc6m, J_iflt, T_sub, T_add, T_iast, T_dupI, T_dupR, T_putI, T_putZ, J_ifge, c219, c287, ↓s219, ↓s287, FM H, ↓reduceIte, TK, lt_run hn, le43, Int.le_refl, Int.lt_irrefl, Option.some.injEq, exists_eq_left', true_and, and_true, if_true, if_false, decide_eq_false_iff_not, decide_eq_true_eq, Nat.reduceAdd, Nat.reduceLeDiff, Nat.reduceLT, Int.reduceAdd, Int.reduceSub, Int.reduceMul, Int.reduceNeg, not_true_eq_false, not_false_eq_true]
      rw [k307_7]
      simp +decide (maxSteps := 4000000) (disch := omega) only [k307_0, k307_1, k307_2, k307_4, k307_5, k307_6, k307_8, k307_9, k307_10, k307_11, k307_12, k307_13, k307_r, k307_s, F_il1, J_ifeq, F_il2, T_I, F_il3, F_il4, J_ifne, T_ft, T_ret, F_is5i, F_is5r, F_is5m, F_is6i, F_is6r, F_is6m, F_il6, F_al0, T_getI, T_icge, T_getR, X_iald, J_icne, T_goto, F_il5, F_inc6i, F_inc6r, F_inc6m, J_iflt, T_sub, T_add, T_iast, T_dupI, T_dupR, T_putI, T_putZ, J_ifge, c219, c287, ↓s219, ↓s287, FM H, d4, hI_s, Int.sub_zero, ↓reduceIte, TK, lt_run hn, le43, Int.le_refl, Int.lt_irrefl, Option.some.injEq, exists_eq_left', true_and, and_true, if_true, if_false, decide_eq_false_iff_not, decide_eq_true_eq, Nat.reduceAdd, Nat.reduceLeDiff, Nat.reduceLT, Int.reduceAdd, Int.reduceSub, Int.reduceMul, Int.reduceNeg, not_true_eq_false, not_false_eq_true]
      have e4 : Ef Scm h3 (hI h3 704 70 (J m)) := Ef.hI Ef.refl (Or.inr ⟨rfl, rfl⟩)
      exact ⟨⟨Cm.new (m := m) ⟨r1, r2, r3⟩ ⟨e1, e2, e3⟩ p1' p2' p3 hI_s (fun j j0 j1 => by rw [gA_o (by decide), gA_o (by decide), gA_o (by decide), gA_o (by decide)]; exact d5 j j0 j1) e4, kk.trans (Kp.of e4 (fun a k q => Or.inr (Or.inl (scm15 q))))⟩, rfl, rfl⟩
    · have t : kth (m, F, X) f = true := kth_t e1 r1 q0 q1 q
      have kX1 : (kdrop (m, F, X) f).1 = m - 1 := by
        unfold kdrop
        rw [if_pos t]
      have E1 := e1.drop r1 q0 q1 q
      have E2 := e2.drop r2 q0 q1 q
      have E3 := e3.drop r3 q0 q1 q
      rw [sY] at p2' R2 E2
      rw [sZ] at p3 R3 E3
      rw [kX1] at p2' p3 R2 R3 E2 E3 ⊢
      have X3 : kdrop (m, F, X) f = (m - 1, (kdrop (m, F, X) f).2.1, (kdrop (m, F, X) f).2.2) := by rw [← kX1]
      rw [X3] at p1' R1 E1
      rw [k307_6]
      simp +decide (maxSteps := 4000000) (disch := omega) only [k307_0, k307_1, k307_2, k307_4, k307_5, k307_6, k307_8, k307_9, k307_10, k307_11, k307_12, k307_13, k307_r, k307_s, F_il1, J_ifeq, F_il2, T_I, F_il3, F_il4, J_ifne, T_ft, T_ret, F_is5i, F_is5r, F_is5m, F_is6i, F_is6r, F_is6m, F_il6, F_al0, T_getI, T_icge, T_getR, X_iald, J_icne, T_goto, F_il5, F_inc6i, F_inc6r, F_inc6m, J_iflt, T_sub, T_add, T_iast, T_dupI, T_dupR, T_putI, T_putZ, J_ifge, c219, c287, ↓s219, ↓s287, FM H, ↓reduceIte, TK, lt_run hn, le43, Int.le_refl, Int.lt_irrefl, Option.some.injEq, exists_eq_left', true_and, and_true, if_true, if_false, decide_eq_false_iff_not, decide_eq_true_eq, Nat.reduceAdd, Nat.reduceLeDiff, Nat.reduceLT, Int.reduceAdd, Int.reduceSub, Int.reduceMul, Int.reduceNeg, not_true_eq_false, not_false_eq_true]
      refine T_for (σ := Unit) (fun k _ => [.ref 704, .int (J f), .int (J a), .int (J b), .int (J 0), .int (J r), .int (J k)]) (fun k _ h' => Ef (fun a _ => 756 ≤ a ∧ a ≤ 759) h3 h' ∧ ∀ j, 0 ≤ j → j < m → (gA h' 756 j = J (if r ≤ j ∧ j < k then F' (j + 1) else F' j) ∧ gA h' 757 j = J (if r ≤ j ∧ j < k then X' (j + 1) else X' j)) ∧ gA h' 758 j = J (if r ≤ j ∧ j < k then Y' (j + 1) else Y' j) ∧ gA h' 759 j = J (if r ≤ j ∧ j < k then Z' (j + 1) else Z' j)) r (m - 1) ?_ ?_ r () h3 (by omega) (by omega) ⟨Ef.refl, fun j j0 j1 => by
        have z : ¬ (r ≤ j ∧ j < r) := by omega
        rw [if_neg z, if_neg z, if_neg z, if_neg z]
        exact d5 j j0 j1⟩
      · rintro k _ h4 k0 k1 ⟨t4, b4⟩ ih
        have y4 : h4 704 70 = J m := by
          rw [t4 _ _ (by omega)]
          exact d4
        obtain ⟨⟨o1, o2⟩, o3, o4⟩ := b4 (k + 1) (by omega) (by omega)
        have z : ¬ (r ≤ k + 1 ∧ k + 1 < k) := by omega
        rw [if_neg z] at o1 o2 o3 o4
        rw [k307_7]
        simp +decide (maxSteps := 4000000) (disch := omega) only [k307_0, k307_1, k307_2, k307_4, k307_5, k307_6, k307_8, k307_9, k307_10, k307_11, k307_12, k307_13, k307_r, k307_s, F_il1, J_ifeq, F_il2, T_I, F_il3, F_il4, J_ifne, T_ft, T_ret, F_is5i, F_is5r, F_is5m, F_is6i, F_is6r, F_is6m, F_il6, F_al0, T_getI, T_icge, T_getR, X_iald, J_icne, T_goto, F_il5, F_inc6i, F_inc6r, F_inc6m, J_iflt, T_sub, T_add, T_iast, T_dupI, T_dupR, T_putI, T_putZ, J_ifge, c219, c287, ↓s219, ↓s287, FM H, y4, o1, o2, o3, o4, gs_o, ln_756, ln_757, ln_758, ln_759, show ¬ r < 0 by omega, show ¬ m - 1 ≤ k by omega, ↓reduceIte, TK, lt_run hn, le43, Int.le_refl, Int.lt_irrefl, Option.some.injEq, exists_eq_left', true_and, and_true, if_true, if_false, decide_eq_false_iff_not, decide_eq_true_eq, Nat.reduceAdd, Nat.reduceLeDiff, Nat.reduceLT, Int.reduceAdd, Int.reduceSub, Int.reduceMul, Int.reduceNeg, not_true_eq_false, not_false_eq_true]
        refine ih () _ ⟨Ef.sA (Ef.sA (Ef.sA (Ef.sA t4 (by omega)) (by omega)) (by omega)) (by omega), fun j j0 j1 => ?_⟩
        obtain ⟨⟨v1, v2⟩, v3, v4⟩ := b4 j j0 j1
        rw [gs_o (a := 759) (b := 756) (by decide), gs_o (a := 758) (b := 756) (by decide), gs_o (a := 757) (b := 756) (by decide), gs_o (a := 759) (b := 757) (by decide), gs_o (a := 758) (b := 757) (by decide), gs_o (a := 759) (b := 758) (by decide)]
        by_cases y : j = k
        · subst y
          rw [gs_s, gs_s, gs_s, gs_s]
          have w : r ≤ j ∧ j < j + 1 := by omega
          rw [if_pos w, if_pos w, if_pos w, if_pos w]
          exact ⟨⟨rfl, rfl⟩, rfl, rfl⟩
        · rw [gs_k (by omega) j0 y, gs_k (by omega) j0 y, gs_k (by omega) j0 y, gs_k (by omega) j0 y, gs_o (by decide), gs_o (by decide), gs_o (by decide), gs_o (by decide), gs_o (by decide), gs_o (by decide)]
          by_cases w : r ≤ j ∧ j < k
          · have w2 : r ≤ j ∧ j < k + 1 := by omega
            rw [if_pos w] at v1 v2 v3 v4
            rw [if_pos w2, if_pos w2, if_pos w2, if_pos w2]
            exact ⟨⟨v1, v2⟩, v3, v4⟩
          · have w2 : ¬ (r ≤ j ∧ j < k + 1) := by omega
            rw [if_neg w] at v1 v2 v3 v4
            rw [if_neg w2, if_neg w2, if_neg w2, if_neg w2]
            exact ⟨⟨v1, v2⟩, v3, v4⟩
      · rintro _ h4 ⟨t4, b4⟩
        have y4 : h4 704 70 = J m := by
          rw [t4 _ _ (by omega)]
          exact d4
        rw [k307_7]
        simp +decide (maxSteps := 4000000) (disch := omega) only [k307_0, k307_1, k307_2, k307_4, k307_5, k307_6, k307_8, k307_9, k307_10, k307_11, k307_12, k307_13, k307_r, k307_s, F_il1, J_ifeq, F_il2, T_I, F_il3, F_il4, J_ifne, T_ft, T_ret, F_is5i, F_is5r, F_is5m, F_is6i, F_is6r, F_is6m, F_il6, F_al0, T_getI, T_icge, T_getR, X_iald, J_icne, T_goto, F_il5, F_inc6i, F_inc6r, F_inc6m, J_iflt, T_sub, T_add, T_iast, T_dupI, T_dupR, T_putI, T_putZ, J_ifge, c219, c287, ↓s219, ↓s287, FM H, y4, hI_s, show ¬ r < 0 by omega, ↓reduceIte, TK, lt_run hn, le43, Int.le_refl, Int.lt_irrefl, Option.some.injEq, exists_eq_left', true_and, and_true, if_true, if_false, decide_eq_false_iff_not, decide_eq_true_eq, Nat.reduceAdd, Nat.reduceLeDiff, Nat.reduceLT, Int.reduceAdd, Int.reduceSub, Int.reduceMul, Int.reduceNeg, not_true_eq_false, not_false_eq_true]
        have e4 : Ef Scm h3 (hI h4 704 70 (J (m - 1))) := Ef.hI (t4.mono fun a k q => Or.inl q) (Or.inr ⟨rfl, rfl⟩)
        refine ⟨⟨Cm.new (m := m) ⟨R1, R2, R3⟩ ⟨E1, E2, E3⟩ p1' p2' p3 hI_s (fun j j0 j1 => ?_) e4, kk.trans (Kp.of e4 (fun a k q => Or.inr (Or.inl (scm15 q))))⟩, rfl, rfl⟩
        rw [gA_o (by decide), gA_o (by decide), gA_o (by decide), gA_o (by decide)]
        obtain ⟨⟨v1, v2⟩, v3, v4⟩ := b4 j j0 (by omega)
        rw [v1, v2, v3, v4]
        by_cases w : j < r
        · have w2 : ¬ (r ≤ j ∧ j < m - 1) := by omega
          rw [if_neg w2, if_neg w2, if_neg w2, if_neg w2, if_pos w, if_pos w, if_pos w, if_pos w]
          exact ⟨⟨rfl, rfl⟩, rfl, rfl⟩
        · have w2 : r ≤ j ∧ j < m - 1 := by omega
          rw [if_pos w2, if_pos w2, if_pos w2, if_pos w2, if_neg w, if_neg w, if_neg w, if_neg w]
          exact ⟨⟨rfl, rfl⟩, rfl, rfl⟩
  by_cases g5 : 16 ≤ u ∧ u ≤ 256
  case neg =>
    simp +decide (maxSteps := 4000000) (disch := omega) only [k185_0, k185_1, k185_2, k185_4, k185_5, k185_6, k185_r, k185_s, F_il1, J_ifeq, F_il2, F_il3, F_il4, T_I, J_ifne, T_ft, T_ret, F_is5i, F_is5r, F_is5m, F_il5, F_al0, T_getR, J_alen, T_icge, X_aald, F_inc5i, F_inc5r, F_inc5m, T_goto, T_getI, c51, c54, c56, c138, c171, c173, ↓s51, ↓s138, ↓s171, ↓s173, FX H, g1, g2, g3, g4, g5, ↓reduceIte, TK, lt_run hn, le43, Int.le_refl, Int.lt_irrefl, Option.some.injEq, exists_eq_left', true_and, and_true, if_true, if_false, decide_eq_false_iff_not, decide_eq_true_eq, Nat.reduceAdd, Nat.reduceLeDiff, Nat.reduceLT, Int.reduceAdd, Int.reduceSub, Int.reduceMul, Int.reduceNeg, not_true_eq_false, not_false_eq_true]
    refine ⟨_, rfl, ?_⟩
    simp +decide (maxSteps := 4000000) (disch := omega) only [k307_0, k307_1, k307_2, k307_4, k307_5, k307_6, k307_8, k307_9, k307_10, k307_11, k307_12, k307_13, k307_r, k307_s, F_il1, J_ifeq, F_il2, T_I, F_il3, F_il4, J_ifne, T_ft, T_ret, F_is5i, F_is5r, F_is5m, F_is6i, F_is6r, F_is6m, F_il6, F_al0, T_getI, T_icge, T_getR, X_iald, J_icne, T_goto, F_il5, F_inc6i, F_inc6r, F_inc6m, J_iflt, T_sub, T_add, T_iast, T_dupI, T_dupR, T_putI, T_putZ, J_ifge, c219, c287, ↓s219, ↓s287, FM H, g1, g2, g3, g4, g5, ↓reduceIte, TK, lt_run hn, le43, Int.le_refl, Int.lt_irrefl, Option.some.injEq, exists_eq_left', true_and, and_true, if_true, if_false, decide_eq_false_iff_not, decide_eq_true_eq, Nat.reduceAdd, Nat.reduceLeDiff, Nat.reduceLT, Int.reduceAdd, Int.reduceSub, Int.reduceMul, Int.reduceNeg, not_true_eq_false, not_false_eq_true]
    first | exact ⟨rfl, ⟨C0, Kp.refl⟩, rfl, rfl⟩ | exact ⟨⟨C0, Kp.refl⟩, rfl, rfl⟩ | exact ⟨C0, Kp.refl⟩
  have LR : ∀ j, 0 ≤ j → j < m → 0 ≤ F' j ∧ F' j ≤ 119 := fun j j0 j1 => (e1.r r1 j j0 j1).1
  have S := fun Q => s51 (E := E) (Q := Q) hn (Kb695 H) r1 c1 g1
  have l8 : ((8 : Nat) : Int) = 8 := rfl
  by_cases room : m < 8 ∨ kth (m, F, X) f = true
  case neg =>
    rw [l8, decide_eq_false room, Bz_f] at S
    simp +decide (maxSteps := 4000000) (disch := omega) only [k185_0, k185_1, k185_2, k185_4, k185_5, k185_6, k185_r, k185_s, F_il1, J_ifeq, F_il2, F_il3, F_il4, T_I, J_ifne, T_ft, T_ret, F_is5i, F_is5r, F_is5m, F_il5, F_al0, T_getR, J_alen, T_icge, X_aald, F_inc5i, F_inc5r, F_inc5m, T_goto, T_getI, c51, c54, c56, c138, c171, c173, ↓s138, ↓s171, ↓s173, FX H, g1, g2, g3, g4, g5, x1, S, kd_112, ln_112, ↓reduceIte, TK, lt_run hn, le43, Int.le_refl, Int.lt_irrefl, Option.some.injEq, exists_eq_left', true_and, and_true, if_true, if_false, decide_eq_false_iff_not, decide_eq_true_eq, Nat.reduceAdd, Nat.reduceLeDiff, Nat.reduceLT, Int.reduceAdd, Int.reduceSub, Int.reduceMul, Int.reduceNeg, not_true_eq_false, not_false_eq_true]
    refine ⟨_, rfl, ?_⟩
    simp +decide (maxSteps := 4000000) (disch := omega) only [k307_0, k307_1, k307_2, k307_4, k307_5, k307_6, k307_8, k307_9, k307_10, k307_11, k307_12, k307_13, k307_r, k307_s, F_il1, J_ifeq, F_il2, T_I, F_il3, F_il4, J_ifne, T_ft, T_ret, F_is5i, F_is5r, F_is5m, F_is6i, F_is6r, F_is6m, F_il6, F_al0, T_getI, T_icge, T_getR, X_iald, J_icne, T_goto, F_il5, F_inc6i, F_inc6r, F_inc6m, J_iflt, T_sub, T_add, T_iast, T_dupI, T_dupR, T_putI, T_putZ, J_ifge, c219, c287, ↓s219, ↓s287, FM H, g1, g2, g3, g4, g5, ↓reduceIte, TK, lt_run hn, le43, Int.le_refl, Int.lt_irrefl, Option.some.injEq, exists_eq_left', true_and, and_true, if_true, if_false, decide_eq_false_iff_not, decide_eq_true_eq, Nat.reduceAdd, Nat.reduceLeDiff, Nat.reduceLT, Int.reduceAdd, Int.reduceSub, Int.reduceMul, Int.reduceNeg, not_true_eq_false, not_false_eq_true]
    refine z307 H hn ⟨m0, m1⟩ LR c4 (fun j j0 j1 => (c5 j j0 j1).1.1) g1 (fun q => ?_) (fun r q0 q1 q => absurd (Or.inr (kth_t e1 r1 q0 q1 q)) room)
    have e8 : m = 8 := by
      have : ¬ m < 8 := fun z => room (Or.inl z)
      omega
    rw [e8] at c4
    rw [k307_6]
    simp +decide (maxSteps := 4000000) (disch := omega) only [k307_0, k307_1, k307_2, k307_4, k307_5, k307_6, k307_8, k307_9, k307_10, k307_11, k307_12, k307_13, k307_r, k307_s, F_il1, J_ifeq, F_il2, T_I, F_il3, F_il4, J_ifne, T_ft, T_ret, F_is5i, F_is5r, F_is5m, F_is6i, F_is6r, F_is6m, F_il6, F_al0, T_getI, T_icge, T_getR, X_iald, J_icne, T_goto, F_il5, F_inc6i, F_inc6r, F_inc6m, J_iflt, T_sub, T_add, T_iast, T_dupI, T_dupR, T_putI, T_putZ, J_ifge, c219, c287, ↓s219, ↓s287, FM H, c4, g4, ↓reduceIte, TK, lt_run hn, le43, Int.le_refl, Int.lt_irrefl, Option.some.injEq, exists_eq_left', true_and, and_true, if_true, if_false, decide_eq_false_iff_not, decide_eq_true_eq, Nat.reduceAdd, Nat.reduceLeDiff, Nat.reduceLT, Int.reduceAdd, Int.reduceSub, Int.reduceMul, Int.reduceNeg, not_true_eq_false, not_false_eq_true]
    exact ⟨⟨C0, Kp.refl⟩, rfl, rfl⟩
  rw [l8, decide_eq_true room, Bz_t] at S
  simp +decide (maxSteps := 4000000) (disch := omega) only [k185_0, k185_1, k185_2, k185_4, k185_5, k185_6, k185_r, k185_s, F_il1, J_ifeq, F_il2, F_il3, F_il4, T_I, J_ifne, T_ft, T_ret, F_is5i, F_is5r, F_is5m, F_il5, F_al0, T_getR, J_alen, T_icge, X_aald, F_inc5i, F_inc5r, F_inc5m, T_goto, T_getI, c51, c54, c56, c138, c171, c173, ↓s138, ↓s171, ↓s173, FX H, g1, g2, g3, g4, g5, x1, S, kd_112, ln_112, ↓reduceIte, TK, lt_run hn, le43, Int.le_refl, Int.lt_irrefl, Option.some.injEq, exists_eq_left', true_and, and_true, if_true, if_false, decide_eq_false_iff_not, decide_eq_true_eq, Nat.reduceAdd, Nat.reduceLeDiff, Nat.reduceLT, Int.reduceAdd, Int.reduceSub, Int.reduceMul, Int.reduceNeg, not_true_eq_false, not_false_eq_true]
  refine w54 hn (Kb695 H) r1 c1 g1 room (fun h1 p1 t1 => ?_)
  simp +decide (maxSteps := 4000000) (disch := omega) only [k185_0, k185_1, k185_2, k185_4, k185_5, k185_6, k185_r, k185_s, F_il1, J_ifeq, F_il2, F_il3, F_il4, T_I, J_ifne, T_ft, T_ret, F_is5i, F_is5r, F_is5m, F_il5, F_al0, T_getR, J_alen, T_icge, X_aald, F_inc5i, F_inc5r, F_inc5m, T_goto, T_getI, c51, c54, c56, c138, c171, c173, ↓s51, ↓s138, ↓s171, ↓s173, FX H, x1, kd_112, ln_112, ↓reduceIte, TK, lt_run hn, le43, Int.le_refl, Int.lt_irrefl, Option.some.injEq, exists_eq_left', true_and, and_true, if_true, if_false, decide_eq_false_iff_not, decide_eq_true_eq, Nat.reduceAdd, Nat.reduceLeDiff, Nat.reduceLT, Int.reduceAdd, Int.reduceSub, Int.reduceMul, Int.reduceNeg, not_true_eq_false, not_false_eq_true]
  refine w54 hn (Kb698 H) r2 (c2.ef t1 (fun x k h1 h2 q => by unfold Sky at q; omega)) g1 room (fun h2 p2 t2 => ?_)
  simp +decide (maxSteps := 4000000) (disch := omega) only [k185_0, k185_1, k185_2, k185_4, k185_5, k185_6, k185_r, k185_s, F_il1, J_ifeq, F_il2, F_il3, F_il4, T_I, J_ifne, T_ft, T_ret, F_is5i, F_is5r, F_is5m, F_il5, F_al0, T_getR, J_alen, T_icge, X_aald, F_inc5i, F_inc5r, F_inc5m, T_goto, T_getI, c51, c54, c56, c138, c171, c173, ↓s51, ↓s138, ↓s171, ↓s173, FX H, x1, kd_112, ln_112, ↓reduceIte, TK, lt_run hn, le43, Int.le_refl, Int.lt_irrefl, Option.some.injEq, exists_eq_left', true_and, and_true, if_true, if_false, decide_eq_false_iff_not, decide_eq_true_eq, Nat.reduceAdd, Nat.reduceLeDiff, Nat.reduceLT, Int.reduceAdd, Int.reduceSub, Int.reduceMul, Int.reduceNeg, not_true_eq_false, not_false_eq_true]
  refine w54 hn (Kb701 H) r3 ((c3.ef t1 (fun x k h1 h2 q => by unfold Sky at q; omega)).ef t2 (fun x k h1 h2 q => by unfold Sky at q; omega)) g1 room (fun h3 p3 t3 => ?_)
  have p1' := (p1.ef t2 (fun x k h1 h2 q => by unfold Sky at q; omega)).ef t3 (fun x k h1 h2 q => by unfold Sky at q; omega)
  have p2' := p2.ef t3 (fun x k h1 h2 q => by unfold Sky at q; omega)
  have p10 := p1'.1
  simp +decide (maxSteps := 4000000) (disch := omega) only [k185_0, k185_1, k185_2, k185_4, k185_5, k185_6, k185_r, k185_s, F_il1, J_ifeq, F_il2, F_il3, F_il4, T_I, J_ifne, T_ft, T_ret, F_is5i, F_is5r, F_is5m, F_il5, F_al0, T_getR, J_alen, T_icge, X_aald, F_inc5i, F_inc5r, F_inc5m, T_goto, T_getI, c51, c54, c56, c138, c171, c173, ↓s51, ↓s138, ↓s171, ↓s173, FX H, x1, kd_112, ln_112, p10, ↓reduceIte, TK, lt_run hn, le43, Int.le_refl, Int.lt_irrefl, Option.some.injEq, exists_eq_left', true_and, and_true, if_true, if_false, decide_eq_false_iff_not, decide_eq_true_eq, Nat.reduceAdd, Nat.reduceLeDiff, Nat.reduceLT, Int.reduceAdd, Int.reduceSub, Int.reduceMul, Int.reduceNeg, not_true_eq_false, not_false_eq_true]
  refine ⟨_, rfl, ?_⟩
  have tt : Ef (fun a k => 695 ≤ a ∧ a < 704) h h3 := ((t1.mono fun a k q => by unfold Sky at q; omega).trans (t2.mono fun a k q => by unfold Sky at q; omega)).trans (t3.mono fun a k q => by unfold Sky at q; omega)
  have kk : Kp 15 15 h h3 := Kp.of tt (fun a k q => Or.inr (Or.inl (sys_15 q.1 q.2)))
  have d4 : h3 704 70 = J m := by
    rw [tt _ _ (by omega)]
    exact c4
  have d5 : ∀ j, 0 ≤ j → j < m → (gA h3 756 j = J (F' j) ∧ gA h3 757 j = J (X' j)) ∧ gA h3 758 j = J (Y' j) ∧ gA h3 759 j = J (Z' j) := fun j j0 j1 => by
    rw [tt.g (by omega), tt.g (by omega), tt.g (by omega), tt.g (by omega)]
    exact c5 j j0 j1
  have R1 := kput_r r1 g1 g2 room
  have R2 := kput_r r2 g1 g3 room
  have R3 := kput_r r3 g1 g5 room
  have E1 := e1.put (f := f) (v := a) r1
  have E2 := e2.put (f := f) (v := b) r2
  have E3 := e3.put (f := f) (v := u) r3
  simp +decide (maxSteps := 4000000) (disch := omega) only [k307_0, k307_1, k307_2, k307_4, k307_5, k307_6, k307_8, k307_9, k307_10, k307_11, k307_12, k307_13, k307_r, k307_s, F_il1, J_ifeq, F_il2, T_I, F_il3, F_il4, J_ifne, T_ft, T_ret, F_is5i, F_is5r, F_is5m, F_is6i, F_is6r, F_is6m, F_il6, F_al0, T_getI, T_icge, T_getR, X_iald, J_icne, T_goto, F_il5, F_inc6i, F_inc6r, F_inc6m, J_iflt, T_sub, T_add, T_iast, T_dupI, T_dupR, T_putI, T_putZ, J_ifge, c219, c287, ↓s219, ↓s287, FM H, g1, g2, g3, g4, g5, ↓reduceIte, TK, lt_run hn, le43, Int.le_refl, Int.lt_irrefl, Option.some.injEq, exists_eq_left', true_and, and_true, if_true, if_false, decide_eq_false_iff_not, decide_eq_true_eq, Nat.reduceAdd, Nat.reduceLeDiff, Nat.reduceLT, Int.reduceAdd, Int.reduceSub, Int.reduceMul, Int.reduceNeg, not_true_eq_false, not_false_eq_true]
  refine z307 H hn ⟨m0, m1⟩ LR d4 (fun j j0 j1 => (d5 j j0 j1).1.1) g1 (fun q => ?_) (fun r q0 q1 q => ?_)
  · have t : kth (m, F, X) f = false := kth_f e1 r1 q
    have nt : ¬ (kth (m, F, X) f = true) := by rw [t]; decide
    have rm := room.resolve_right nt
    have kX : (kput (m, F, X) f a).1 = m + 1 := by
      unfold kput
      rw [if_neg nt]
    have lX : lput (m, F, X) (m, F', X') f a = (m + 1, fun i => if i = m then f else F' i, fun i => if i = m then a else X' i) := if_neg nt
    have lY : lput (m, F, Y) (m, F', Y') f b = (m + 1, fun i => if i = m then f else F' i, fun i => if i = m then b else Y' i) := if_neg nt
    have lZ : lput (m, F, Z) (m, F', Z') f u = (m + 1, fun i => if i = m then f else F' i, fun i => if i = m then u else Z' i) := if_neg nt
    have sY := kput_sh (m := m) (F := F) X Y f a b
    have sZ := kput_sh (m := m) (F := F) X Z f a u
    rw [sY] at p2' R2 E2
    rw [sZ] at p3 R3 E3
    have X3 : kput (m, F, X) f a = (m + 1, (kput (m, F, X) f a).2.1, (kput (m, F, X) f a).2.2) := by rw [← kX]
    rw [kX] at p2' p3 R2 R3 E2 E3 ⊢
    rw [X3] at p1' R1 E1
    rw [lX] at E1
    rw [lY] at E2
    rw [lZ] at E3
    rw [k307_6]
    simp +decide (maxSteps := 4000000) (disch := omega) only [k307_0, k307_1, k307_2, k307_4, k307_5, k307_6, k307_8, k307_9, k307_10, k307_11, k307_12, k307_13, k307_r, k307_s, F_il1, J_ifeq, F_il2, T_I, F_il3, F_il4, J_ifne, T_ft, T_ret, F_is5i, F_is5r, F_is5m, F_is6i, F_is6r, F_is6m, F_il6, F_al0, T_getI, T_icge, T_getR, X_iald, J_icne, T_goto, F_il5, F_inc6i, F_inc6r, F_inc6m, J_iflt, T_sub, T_add, T_iast, T_dupI, T_dupR, T_putI, T_putZ, J_ifge, c219, c287, ↓s219, ↓s287, FM H, d4, g4, sA_o, hI_s, ln_756, ln_757, ln_758, ln_759, show ¬ m = 8 by omega, ↓reduceIte, TK, lt_run hn, le43, Int.le_refl, Int.lt_irrefl, Option.some.injEq, exists_eq_left', true_and, and_true, if_true, if_false, decide_eq_false_iff_not, decide_eq_true_eq, Nat.reduceAdd, Nat.reduceLeDiff, Nat.reduceLT, Int.reduceAdd, Int.reduceSub, Int.reduceMul, Int.reduceNeg, not_true_eq_false, not_false_eq_true]
    have e4 : Ef Scm h3 (sA (sA (sA (sA (hI h3 704 70 (J (m + 1))) 756 m (J f)) 757 m (J a)) 758 m (J b)) 759 m (J u)) := Ef.sA (Ef.sA (Ef.sA (Ef.sA (Ef.hI Ef.refl (Or.inr ⟨rfl, rfl⟩)) (Or.inl (by omega))) (Or.inl (by omega))) (Or.inl (by omega))) (Or.inl (by omega))
    refine ⟨⟨Cm.new (m := m) ⟨R1, R2, R3⟩ ⟨E1, E2, E3⟩ p1' p2' p3 ?_ (fun j j0 j1 => ?_) e4, kk.trans (Kp.of e4 (fun a k q => Or.inr (Or.inl (scm15 q))))⟩, rfl, rfl⟩
    · rw [sA_o (by decide), sA_o (by decide), sA_o (by decide), sA_o (by decide), hI_s]
    · refine ⟨⟨?_, ?_⟩, ?_, ?_⟩
      · rw [gs_o (by decide), gs_o (by decide), gs_o (by decide)]
        by_cases y : j = m
        · rw [if_pos y, y, gs_s]
        · rw [if_neg y, gs_k m0 j0 y, gA_o (by decide)]
          exact (d5 j j0 (by omega)).1.1
      · rw [gs_o (by decide), gs_o (by decide)]
        by_cases y : j = m
        · rw [if_pos y, y, gs_s]
        · rw [if_neg y, gs_k m0 j0 y, gs_o (by decide), gA_o (by decide)]
          exact (d5 j j0 (by omega)).1.2
      · rw [gs_o (by decide)]
        by_cases y : j = m
        · rw [if_pos y, y, gs_s]
        · rw [if_neg y, gs_k m0 j0 y, gs_o (by decide), gs_o (by decide), gA_o (by decide)]
          exact (d5 j j0 (by omega)).2.1
      · by_cases y : j = m
        · rw [if_pos y, y, gs_s]
        · rw [if_neg y, gs_k m0 j0 y, gs_o (by decide), gs_o (by decide), gs_o (by decide), gA_o (by decide)]
          exact (d5 j j0 (by omega)).2.2
  · have t : kth (m, F, X) f = true := kth_t e1 r1 q0 q1 q
    have kX : (kput (m, F, X) f a).1 = m := by
      unfold kput
      rw [if_pos t]
    have lX : lput (m, F, X) (m, F', X') f a = (m, F', fun i => if F' i = f then a else X' i) := if_pos t
    have lY : lput (m, F, Y) (m, F', Y') f b = (m, F', fun i => if F' i = f then b else Y' i) := if_pos t
    have lZ : lput (m, F, Z) (m, F', Z') f u = (m, F', fun i => if F' i = f then u else Z' i) := if_pos t
    have ne : ∀ i, 0 ≤ i → i < m → i ≠ r → F' i ≠ f := fun i i0 i1 ir z => by
      rcases Int.lt_trichotomy i r with y | y | y
      · exact e1.2.2.2 i r i0 y q1 (z.trans q.symm)
      · exact ir y
      · exact e1.2.2.2 r i q0 y i1 (q.trans z.symm)
    have sY := kput_sh (m := m) (F := F) X Y f a b
    have sZ := kput_sh (m := m) (F := F) X Z f a u
    rw [sY] at p2' R2 E2
    rw [sZ] at p3 R3 E3
    have X3 : kput (m, F, X) f a = (m, (kput (m, F, X) f a).2.1, (kput (m, F, X) f a).2.2) := Prod.ext kX rfl
    rw [kX] at p2' p3 R2 R3 E2 E3 ⊢
    rw [X3] at p1' R1 E1
    rw [lX] at E1
    rw [lY] at E2
    rw [lZ] at E3
    rw [k307_6]
    simp +decide (maxSteps := 4000000) (disch := omega) only [k307_0, k307_1, k307_2, k307_4, k307_5, k307_6, k307_8, k307_9, k307_10, k307_11, k307_12, k307_13, k307_r, k307_s, F_il1, J_ifeq, F_il2, T_I, F_il3, F_il4, J_ifne, T_ft, T_ret, F_is5i, F_is5r, F_is5m, F_is6i, F_is6r, F_is6m, F_il6, F_al0, T_getI, T_icge, T_getR, X_iald, J_icne, T_goto, F_il5, F_inc6i, F_inc6r, F_inc6m, J_iflt, T_sub, T_add, T_iast, T_dupI, T_dupR, T_putI, T_putZ, J_ifge, c219, c287, ↓s219, ↓s287, FM H, d4, g4, sA_o, ln_756, ln_757, ln_758, ln_759, q0, ↓reduceIte, TK, lt_run hn, le43, Int.le_refl, Int.lt_irrefl, Option.some.injEq, exists_eq_left', true_and, and_true, if_true, if_false, decide_eq_false_iff_not, decide_eq_true_eq, Nat.reduceAdd, Nat.reduceLeDiff, Nat.reduceLT, Int.reduceAdd, Int.reduceSub, Int.reduceMul, Int.reduceNeg, not_true_eq_false, not_false_eq_true]
    have e4 : Ef Scm h3 (sA (sA (sA (sA h3 756 r (J f)) 757 r (J a)) 758 r (J b)) 759 r (J u)) := Ef.sA (Ef.sA (Ef.sA (Ef.sA Ef.refl (Or.inl (by omega))) (Or.inl (by omega))) (Or.inl (by omega))) (Or.inl (by omega))
    refine ⟨⟨Cm.new (m := m) ⟨R1, R2, R3⟩ ⟨E1, E2, E3⟩ p1' p2' p3 ?_ (fun j j0 j1 => ?_) e4, kk.trans (Kp.of e4 (fun a k q => Or.inr (Or.inl (scm15 q))))⟩, rfl, rfl⟩
    · rw [sA_o (by decide), sA_o (by decide), sA_o (by decide), sA_o (by decide)]
      exact d4
    · have d6 := d5 j j0 j1
      refine ⟨⟨?_, ?_⟩, ?_, ?_⟩
      · rw [gs_o (by decide), gs_o (by decide), gs_o (by decide)]
        by_cases y : j = r
        · rw [y, gs_s, q]
        · rw [gs_k q0 j0 y]
          exact d6.1.1
      · rw [gs_o (by decide), gs_o (by decide)]
        by_cases y : j = r
        · rw [y, gs_s, if_pos q]
        · rw [if_neg (ne j j0 j1 y), gs_k q0 j0 y, gs_o (by decide)]
          exact d6.1.2
      · rw [gs_o (by decide)]
        by_cases y : j = r
        · rw [y, gs_s, if_pos q]
        · rw [if_neg (ne j j0 j1 y), gs_k q0 j0 y, gs_o (by decide), gs_o (by decide)]
          exact d6.2.1
      · by_cases y : j = r
        · rw [y, gs_s, if_pos q]
        · rw [if_neg (ne j j0 j1 y), gs_k q0 j0 y, gs_o (by decide), gs_o (by decide), gs_o (by decide)]
          exact d6.2.2
end CB
