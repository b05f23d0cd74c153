/-! mark, unmark, partner, pivot, letter, clear, played, mouth, mix, blink -/
section SN
variable {E : AEn} {h h' : AHi} {hr : AHr} {n : Nat} {Q : ARs → Prop}
/-- MARKS -/
def Mk (m : Int) (f g : Int → Int) (h : AHi) : Prop := (h 91 2 = J m ∧ h 704 45 = J m) ∧ ∀ i, 0 ≤ i → i < m → (gA h 92 i = J (f i) ∧ gA h 93 i = J (g i)) ∧ gA h 737 i = J (f i) ∧ gA h 738 i = J (g i)
def Cp9 (h : AHi) : Prop := ∃ (m : Int) (f g : Int → Int), (0 ≤ m ∧ m ≤ 4) ∧ (∀ i, 0 ≤ f i ∧ f i ≤ 7) ∧ (∀ i, 0 ≤ g i ∧ g i ≤ 7) ∧ (∀ i j, 0 ≤ i → i < j → j < m → f i ≠ f j ∧ g i ≠ g j) ∧ Mk m f g h
theorem Cp9.sm (C : Cp9 h) (e : Sm 9 h h') : Cp9 h' := by
  obtain ⟨m, f, g, h1, h2, h3, h4, h5, h6⟩ := C
  refine ⟨m, f, g, h1, h2, h3, h4, ?_, fun i i1 i2 => ?_⟩
  · rw [e 91 2 rfl, e 704 45 rfl]
    exact h5
  · rw [e.g rfl, e.g rfl, e.g rfl, e.g rfl]
    exact h6 i i1 i2
theorem w80 (F : FH hr) (hn : 775 ≤ n) {a b m : Int} {f g : Int → Int} (ha : 0 ≤ a ∧ a ≤ 7) (hb : 0 ≤ b ∧ b ≤ 7) (hm : 0 ≤ m ∧ m ≤ 4) (hf : ∀ i, 0 ≤ f i ∧ f i ≤ 7) (hg : ∀ i, 0 ≤ g i ∧ g i ≤ 7) (b1 : h 91 2 = J m) (b2 : ∀ i, 0 ≤ i → i < m → gA h 92 i = J (f i) ∧ gA h 93 i = J (g i))
    (k1 : (∃ k, 0 ≤ k ∧ k < m ∧ (f k = a ∨ g k = b)) → Q (some (.int (J (-3))), h, hr, n))
    (k2 : (∀ k, 0 ≤ k → k < m → ¬ (f k = a ∨ g k = b)) → m = 4 → Q (some (.int (J (-4))), h, hr, n))
    (k3 : (∀ k, 0 ≤ k → k < m → ¬ (f k = a ∨ g k = b)) → m < 4 → Q (some (.int (J (m + 1))), hI (sA (sA h 92 m (J a)) 93 m (J b)) 91 2 (J (m + 1)), hr, n)) : Sp E 80 [.ref 91, .int (J a), .int (J b)] h hr n Q := by
  simp +decide (maxSteps := 4000000) (disch := omega) only [k80_0, k80_2, k80_3, k80_4, k80_5, k80_r, k80_s, T_I, F_is3i, F_is3r, F_is3m, T_ft, F_il3, F_al0, T_getI, T_icge, T_getR, X_iald, F_il1, T_iceq, F_il2, J_icne, T_ret, F_inc3i, F_inc3r, F_inc3m, T_goto, T_iclt, T_iast, T_dupI, T_dupR, T_add, T_putI, T_putZ, TK, lt_run hn, le43, Int.le_refl, Int.lt_irrefl, Option.some.injEq, exists_eq_left', true_and, and_true, if_true, if_false, decide_eq_false_iff_not, decide_eq_true_eq, Nat.reduceAdd, Nat.reduceLeDiff, Nat.reduceLT, Int.reduceAdd, Int.reduceSub, Int.reduceMul, Int.reduceNeg, not_true_eq_false, not_false_eq_true]
  refine T_for (σ := Unit) (fun i _ => [.ref 91, .int (J a), .int (J b), .int (J i)]) (fun i _ h' => h' = h ∧ ∀ k, 0 ≤ k → k < i → ¬ (f k = a ∨ g k = b)) 0 m ?_ ?_ 0 () h (by omega) (by omega) ⟨rfl, fun k _ _ => by omega⟩
  · rintro i _ h' i0 i1 ⟨rfl, hp⟩ ih
    have c1 := b2 i i0 i1
    have c2 := hf i
    have c3 := hg i
    rw [k80_1]
    simp +decide (maxSteps := 4000000) (disch := omega) only [k80_0, k80_2, k80_3, k80_4, k80_5, k80_r, k80_s, T_I, F_is3i, F_is3r, F_is3m, T_ft, F_il3, F_al0, T_getI, T_icge, T_getR, X_iald, F_il1, T_iceq, F_il2, J_icne, T_ret, F_inc3i, F_inc3r, F_inc3m, T_goto, T_iclt, T_iast, T_dupI, T_dupR, T_add, T_putI, T_putZ, FX F, b1, c1, ln_92, ln_93, show ¬ m ≤ i by omega, TK, lt_run hn, le43, Int.le_refl, Int.lt_irrefl, Option.some.injEq, exists_eq_left', true_and, and_true, if_true, if_false, decide_eq_false_iff_not, decide_eq_true_eq, Nat.reduceAdd, Nat.reduceLeDiff, Nat.reduceLT, Int.reduceAdd, Int.reduceSub, Int.reduceMul, Int.reduceNeg, not_true_eq_false, not_false_eq_true]
    by_cases e1 : f i = a
    · rw [if_pos e1]
      exact k1 ⟨i, i0, i1, Or.inl e1⟩
    · rw [if_neg e1]
      by_cases e2 : g i = b
      · rw [if_pos e2]
        exact k1 ⟨i, i0, i1, Or.inr e2⟩
      · rw [if_neg e2]
        refine ih () _ ⟨rfl, fun k q1 q2 => ?_⟩
        by_cases e3 : k = i
        · subst e3
          omega
        · exact hp k q1 (by omega)
  · rintro _ h' ⟨rfl, hp⟩
    by_cases e1 : m = 4
    · rw [k80_1]
      simp +decide (maxSteps := 4000000) (disch := omega) only [k80_0, k80_2, k80_3, k80_4, k80_5, k80_r, k80_s, T_I, F_is3i, F_is3r, F_is3m, T_ft, F_il3, F_al0, T_getI, T_icge, T_getR, X_iald, F_il1, T_iceq, F_il2, J_icne, T_ret, F_inc3i, F_inc3r, F_inc3m, T_goto, T_iclt, T_iast, T_dupI, T_dupR, T_add, T_putI, T_putZ, FX F, b1, e1, show ¬ m < 4 by omega, TK, lt_run hn, le43, Int.le_refl, Int.lt_irrefl, Option.some.injEq, exists_eq_left', true_and, and_true, if_true, if_false, decide_eq_false_iff_not, decide_eq_true_eq, Nat.reduceAdd, Nat.reduceLeDiff, Nat.reduceLT, Int.reduceAdd, Int.reduceSub, Int.reduceMul, Int.reduceNeg, not_true_eq_false, not_false_eq_true]
      exact k2 hp e1
    · have b3 : sA (sA h' 92 m (J a)) 93 m (J b) 91 2 = J m := by rw [sA_o (by decide), sA_o (by decide)]; exact b1
      have b4 : sA h' 92 m (J a) 91 2 = J m := by rw [sA_o (by decide)]; exact b1
      rw [k80_1]
      simp +decide (maxSteps := 4000000) (disch := omega) only [k80_0, k80_2, k80_3, k80_4, k80_5, k80_r, k80_s, T_I, F_is3i, F_is3r, F_is3m, T_ft, F_il3, F_al0, T_getI, T_icge, T_getR, X_iald, F_il1, T_iceq, F_il2, J_icne, T_ret, F_inc3i, F_inc3r, F_inc3m, T_goto, T_iclt, T_iast, T_dupI, T_dupR, T_add, T_putI, T_putZ, FX F, b1, b3, b4, ln_92, ln_93, show m < 4 by omega, hI_s, TK, lt_run hn, le43, Int.le_refl, Int.lt_irrefl, Option.some.injEq, exists_eq_left', true_and, and_true, if_true, if_false, decide_eq_false_iff_not, decide_eq_true_eq, Nat.reduceAdd, Nat.reduceLeDiff, Nat.reduceLT, Int.reduceAdd, Int.reduceSub, Int.reduceMul, Int.reduceNeg, not_true_eq_false, not_false_eq_true]
      exact k3 hp (by omega)
theorem w271 (F : FH hr) (hn : 775 ≤ n) {a b m : Int} {f g : Int → Int} (ha : 0 ≤ a ∧ a ≤ 7) (hb : 0 ≤ b ∧ b ≤ 7) (hm : 0 ≤ m ∧ m ≤ 4) (hf : ∀ i, 0 ≤ f i ∧ f i ≤ 7) (hg : ∀ i, 0 ≤ g i ∧ g i ≤ 7) (b1 : h 704 45 = J m) (b2 : ∀ i, 0 ≤ i → i < m → gA h 737 i = J (f i) ∧ gA h 738 i = J (g i))
    (k1 : (∃ k, 0 ≤ k ∧ k < m ∧ (f k = a ∨ g k = b)) → Q (some (.int (J (-3))), h, hr, n))
    (k2 : (∀ k, 0 ≤ k → k < m → ¬ (f k = a ∨ g k = b)) → m = 4 → Q (some (.int (J (-4))), h, hr, n))
    (k3 : (∀ k, 0 ≤ k → k < m → ¬ (f k = a ∨ g k = b)) → m < 4 → Q (some (.int (J (m + 1))), hI (sA (sA h 737 m (J a)) 738 m (J b)) 704 45 (J (m + 1)), hr, n)) : Sp E 271 [.ref 704, .int (J a), .int (J b)] h hr n Q := by
  simp +decide (maxSteps := 4000000) (disch := omega) only [k271_0, k271_1, k271_2, k271_4, k271_5, k271_6, k271_7, k271_r, k271_s, F_il1, T_I, J_ifeq, F_il2, J_ifne, T_ft, T_ret, F_is3i, F_is3r, F_is3m, F_il3, F_al0, T_getI, T_icge, T_getR, X_iald, T_iceq, J_icne, F_inc3i, F_inc3r, F_inc3m, T_goto, T_iast, T_dupI, T_dupR, T_add, T_putI, T_putZ, c219, ↓s219, ha, hb, TK, lt_run hn, le43, Int.le_refl, Int.lt_irrefl, Option.some.injEq, exists_eq_left', true_and, and_true, if_true, if_false, decide_eq_false_iff_not, decide_eq_true_eq, Nat.reduceAdd, Nat.reduceLeDiff, Nat.reduceLT, Int.reduceAdd, Int.reduceSub, Int.reduceMul, Int.reduceNeg, not_true_eq_false, not_false_eq_true]
  refine T_for (σ := Unit) (fun i _ => [.ref 704, .int (J a), .int (J b), .int (J i)]) (fun i _ h' => h' = h ∧ ∀ k, 0 ≤ k → k < i → ¬ (f k = a ∨ g k = b)) 0 m ?_ ?_ 0 () h (by omega) (by omega) ⟨rfl, fun k _ _ => by omega⟩
  · rintro i _ h' i0 i1 ⟨rfl, hp⟩ ih
    have c1 := b2 i i0 i1
    have c2 := hf i
    have c3 := hg i
    rw [k271_3]
    simp +decide (maxSteps := 4000000) (disch := omega) only [k271_0, k271_1, k271_2, k271_4, k271_5, k271_6, k271_7, k271_r, k271_s, F_il1, T_I, J_ifeq, F_il2, J_ifne, T_ft, T_ret, F_is3i, F_is3r, F_is3m, F_il3, F_al0, T_getI, T_icge, T_getR, X_iald, T_iceq, J_icne, F_inc3i, F_inc3r, F_inc3m, T_goto, T_iast, T_dupI, T_dupR, T_add, T_putI, T_putZ, c219, ↓s219, FM F, b1, c1, ln_737, ln_738, show ¬ m ≤ i by omega, TK, lt_run hn, le43, Int.le_refl, Int.lt_irrefl, Option.some.injEq, exists_eq_left', true_and, and_true, if_true, if_false, decide_eq_false_iff_not, decide_eq_true_eq, Nat.reduceAdd, Nat.reduceLeDiff, Nat.reduceLT, Int.reduceAdd, Int.reduceSub, Int.reduceMul, Int.reduceNeg, not_true_eq_false, not_false_eq_true]
    by_cases e1 : f i = a
    · rw [if_pos e1]
      exact k1 ⟨i, i0, i1, Or.inl e1⟩
    · rw [if_neg e1]
      by_cases e2 : g i = b
      · rw [if_pos e2]
        exact k1 ⟨i, i0, i1, Or.inr e2⟩
      · rw [if_neg e2]
        refine ih () _ ⟨rfl, fun k q1 q2 => ?_⟩
        by_cases e3 : k = i
        · subst e3
          omega
        · exact hp k q1 (by omega)
  · rintro _ h' ⟨rfl, hp⟩
    by_cases e1 : m = 4
    · rw [k271_3]
      simp +decide (maxSteps := 4000000) (disch := omega) only [k271_0, k271_1, k271_2, k271_4, k271_5, k271_6, k271_7, k271_r, k271_s, F_il1, T_I, J_ifeq, F_il2, J_ifne, T_ft, T_ret, F_is3i, F_is3r, F_is3m, F_il3, F_al0, T_getI, T_icge, T_getR, X_iald, T_iceq, J_icne, F_inc3i, F_inc3r, F_inc3m, T_goto, T_iast, T_dupI, T_dupR, T_add, T_putI, T_putZ, c219, ↓s219, FM F, b1, e1, TK, lt_run hn, le43, Int.le_refl, Int.lt_irrefl, Option.some.injEq, exists_eq_left', true_and, and_true, if_true, if_false, decide_eq_false_iff_not, decide_eq_true_eq, Nat.reduceAdd, Nat.reduceLeDiff, Nat.reduceLT, Int.reduceAdd, Int.reduceSub, Int.reduceMul, Int.reduceNeg, not_true_eq_false, not_false_eq_true]
      exact k2 hp e1
    · have b3 : sA (sA h' 737 m (J a)) 738 m (J b) 704 45 = J m := by rw [sA_o (by decide), sA_o (by decide)]; exact b1
      have b4 : sA h' 737 m (J a) 704 45 = J m := by rw [sA_o (by decide)]; exact b1
      rw [k271_3]
      simp +decide (maxSteps := 4000000) (disch := omega) only [k271_0, k271_1, k271_2, k271_4, k271_5, k271_6, k271_7, k271_r, k271_s, F_il1, T_I, J_ifeq, F_il2, J_ifne, T_ft, T_ret, F_is3i, F_is3r, F_is3m, F_il3, F_al0, T_getI, T_icge, T_getR, X_iald, T_iceq, J_icne, F_inc3i, F_inc3r, F_inc3m, T_goto, T_iast, T_dupI, T_dupR, T_add, T_putI, T_putZ, c219, ↓s219, FM F, b1, b3, b4, ln_737, ln_738, e1, hI_s, TK, lt_run hn, le43, Int.le_refl, Int.lt_irrefl, Option.some.injEq, exists_eq_left', true_and, and_true, if_true, if_false, decide_eq_false_iff_not, decide_eq_true_eq, Nat.reduceAdd, Nat.reduceLeDiff, Nat.reduceLT, Int.reduceAdd, Int.reduceSub, Int.reduceMul, Int.reduceNeg, not_true_eq_false, not_false_eq_true]
      exact k3 hp (by omega)
theorem Pmark (F : FH hr) (hn : 775 ≤ n) (C : Cp9 h) (x y : Int32) : Pr2 E 162 271 [.int x, .int y] h hr n (Po Cp9 9 9 h hr n) := by
  have C0 := C
  obtain ⟨m, f, g, h1, h2, h3, h4, h5, h6⟩ := C
  obtain ⟨a, ha, ha', rfl⟩ := J_of x
  obtain ⟨b, hb, hb', rfl⟩ := J_of y
  unfold Pr2
  by_cases g1 : 0 ≤ a ∧ a ≤ 7
  case neg =>
    simp +decide (maxSteps := 4000000) (disch := omega) only [k162_0, k162_1, k162_2, k162_r, k162_s, F_il1, T_I, J_ifeq, F_il2, J_ifne, T_ft, T_ret, F_al0, T_getR, c80, c138, ↓s138, FX F, g1, TK, lt_run hn, le43, Int.le_refl, Int.lt_irrefl, Option.some.injEq, exists_eq_left', true_and, and_true, if_true, if_false, decide_eq_false_iff_not, decide_eq_true_eq, Nat.reduceAdd, Nat.reduceLeDiff, Nat.reduceLT, Int.reduceAdd, Int.reduceSub, Int.reduceMul, Int.reduceNeg, not_true_eq_false, not_false_eq_true]
    refine ⟨_, rfl, ?_⟩
    simp +decide (maxSteps := 4000000) (disch := omega) only [k271_0, k271_1, k271_2, k271_4, k271_5, k271_6, k271_7, k271_r, k271_s, F_il1, T_I, J_ifeq, F_il2, J_ifne, T_ft, T_ret, F_is3i, F_is3r, F_is3m, F_il3, F_al0, T_getI, T_icge, T_getR, X_iald, T_iceq, J_icne, F_inc3i, F_inc3r, F_inc3m, T_goto, T_iast, T_dupI, T_dupR, T_add, T_putI, T_putZ, c219, ↓s219, FM F, g1, TK, lt_run hn, le43, Int.le_refl, Int.lt_irrefl, Option.some.injEq, exists_eq_left', true_and, and_true, if_true, if_false, decide_eq_false_iff_not, decide_eq_true_eq, Nat.reduceAdd, Nat.reduceLeDiff, Nat.reduceLT, Int.reduceAdd, Int.reduceSub, Int.reduceMul, Int.reduceNeg, not_true_eq_false, not_false_eq_true]
    first | exact ⟨rfl, ⟨C0, Kp.refl⟩, rfl, rfl⟩ | exact ⟨⟨C0, Kp.refl⟩, rfl, rfl⟩ | exact ⟨C0, Kp.refl⟩
  by_cases g2 : 0 ≤ b ∧ b ≤ 7
  case neg =>
    simp +decide (maxSteps := 4000000) (disch := omega) only [k162_0, k162_1, k162_2, k162_r, k162_s, F_il1, T_I, J_ifeq, F_il2, J_ifne, T_ft, T_ret, F_al0, T_getR, c80, c138, ↓s138, FX F, g1, g2, TK, lt_run hn, le43, Int.le_refl, Int.lt_irrefl, Option.some.injEq, exists_eq_left', true_and, and_true, if_true, if_false, decide_eq_false_iff_not, decide_eq_true_eq, Nat.reduceAdd, Nat.reduceLeDiff, Nat.reduceLT, Int.reduceAdd, Int.reduceSub, Int.reduceMul, Int.reduceNeg, not_true_eq_false, not_false_eq_true]
    refine ⟨_, rfl, ?_⟩
    simp +decide (maxSteps := 4000000) (disch := omega) only [k271_0, k271_1, k271_2, k271_4, k271_5, k271_6, k271_7, k271_r, k271_s, F_il1, T_I, J_ifeq, F_il2, J_ifne, T_ft, T_ret, F_is3i, F_is3r, F_is3m, F_il3, F_al0, T_getI, T_icge, T_getR, X_iald, T_iceq, J_icne, F_inc3i, F_inc3r, F_inc3m, T_goto, T_iast, T_dupI, T_dupR, T_add, T_putI, T_putZ, c219, ↓s219, FM F, g1, g2, TK, lt_run hn, le43, Int.le_refl, Int.lt_irrefl, Option.some.injEq, exists_eq_left', true_and, and_true, if_true, if_false, decide_eq_false_iff_not, decide_eq_true_eq, Nat.reduceAdd, Nat.reduceLeDiff, Nat.reduceLT, Int.reduceAdd, Int.reduceSub, Int.reduceMul, Int.reduceNeg, not_true_eq_false, not_false_eq_true]
    first | exact ⟨rfl, ⟨C0, Kp.refl⟩, rfl, rfl⟩ | exact ⟨⟨C0, Kp.refl⟩, rfl, rfl⟩ | exact ⟨C0, Kp.refl⟩
  simp +decide (maxSteps := 4000000) (disch := omega) only [k162_0, k162_1, k162_2, k162_r, k162_s, F_il1, T_I, J_ifeq, F_il2, J_ifne, T_ft, T_ret, F_al0, T_getR, c80, c138, ↓s138, FX F, g1, g2, TK, lt_run hn, le43, Int.le_refl, Int.lt_irrefl, Option.some.injEq, exists_eq_left', true_and, and_true, if_true, if_false, decide_eq_false_iff_not, decide_eq_true_eq, Nat.reduceAdd, Nat.reduceLeDiff, Nat.reduceLT, Int.reduceAdd, Int.reduceSub, Int.reduceMul, Int.reduceNeg, not_true_eq_false, not_false_eq_true]
  refine w80 F hn g1 g2 h1 h2 h3 h5.1 (fun i i1 i2 => (h6 i i1 i2).1) (fun q => ?_) (fun q q2 => ?_) (fun q q2 => ?_)
  · simp +decide (maxSteps := 4000000) (disch := omega) only [k162_0, k162_1, k162_2, k162_r, k162_s, F_il1, T_I, J_ifeq, F_il2, J_ifne, T_ft, T_ret, F_al0, T_getR, c80, c138, ↓s138, TK, lt_run hn, le43, Int.le_refl, Int.lt_irrefl, Option.some.injEq, exists_eq_left', true_and, and_true, if_true, if_false, decide_eq_false_iff_not, decide_eq_true_eq, Nat.reduceAdd, Nat.reduceLeDiff, Nat.reduceLT, Int.reduceAdd, Int.reduceSub, Int.reduceMul, Int.reduceNeg, not_true_eq_false, not_false_eq_true]
    refine ⟨_, rfl, ?_⟩
    refine w271 F hn g1 g2 h1 h2 h3 h5.2 (fun i i1 i2 => (h6 i i1 i2).2) (fun _ => ⟨rfl, ⟨C0, Kp.refl⟩, rfl, rfl⟩) (fun p _ => ?_) (fun p _ => ?_)
    all_goals
      obtain ⟨k, q1, q2, q3⟩ := q
      exact absurd q3 (p k q1 q2)
  · simp +decide (maxSteps := 4000000) (disch := omega) only [k162_0, k162_1, k162_2, k162_r, k162_s, F_il1, T_I, J_ifeq, F_il2, J_ifne, T_ft, T_ret, F_al0, T_getR, c80, c138, ↓s138, TK, lt_run hn, le43, Int.le_refl, Int.lt_irrefl, Option.some.injEq, exists_eq_left', true_and, and_true, if_true, if_false, decide_eq_false_iff_not, decide_eq_true_eq, Nat.reduceAdd, Nat.reduceLeDiff, Nat.reduceLT, Int.reduceAdd, Int.reduceSub, Int.reduceMul, Int.reduceNeg, not_true_eq_false, not_false_eq_true]
    refine ⟨_, rfl, ?_⟩
    refine w271 F hn g1 g2 h1 h2 h3 h5.2 (fun i i1 i2 => (h6 i i1 i2).2) (fun p => ?_) (fun p _ => ⟨rfl, ⟨C0, Kp.refl⟩, rfl, rfl⟩) (fun p _ => ?_)
    · obtain ⟨k, q1, q2, q3⟩ := p
      exact absurd q3 (q k q1 q2)
    · omega
  · simp +decide (maxSteps := 4000000) (disch := omega) only [k162_0, k162_1, k162_2, k162_r, k162_s, F_il1, T_I, J_ifeq, F_il2, J_ifne, T_ft, T_ret, F_al0, T_getR, c80, c138, ↓s138, TK, lt_run hn, le43, Int.le_refl, Int.lt_irrefl, Option.some.injEq, exists_eq_left', true_and, and_true, if_true, if_false, decide_eq_false_iff_not, decide_eq_true_eq, Nat.reduceAdd, Nat.reduceLeDiff, Nat.reduceLT, Int.reduceAdd, Int.reduceSub, Int.reduceMul, Int.reduceNeg, not_true_eq_false, not_false_eq_true]
    refine ⟨_, rfl, ?_⟩
    refine w271 F hn g1 g2 h1 h2 h3 ?_ (fun i i1 i2 => ?_) (fun p => ?_) (fun p _ => ?_) (fun p _ => ?_)
    · rw [hI_o (by decide), sA_o (by decide), sA_o (by decide)]
      exact h5.2
    · rw [gA_o (by decide), gs_o (by decide), gs_o (by decide), gA_o (by decide), gs_o (by decide), gs_o (by decide)]
      exact (h6 i i1 i2).2
    · obtain ⟨k, q1, q2, q3⟩ := p
      exact absurd q3 (q k q1 q2)
    · omega
    dsimp only
    refine ⟨rfl, ⟨⟨m + 1, fun i => if i = m then a else f i, fun i => if i = m then b else g i, ?_, fun i => ?_, fun i => ?_, fun i j i1 i2 i3 => ?_, ⟨?_, hI_s⟩, fun i i1 i2 => ?_⟩, ?_⟩, rfl, rfl⟩
    · omega
    · dsimp only
      split
      · omega
      · exact h2 i
    · dsimp only
      split
      · omega
      · exact h3 i
    · dsimp only
      rw [if_neg (show ¬ i = m by omega), if_neg (show ¬ i = m by omega)]
      by_cases e : j = m
      · have := q i i1 (by omega)
        rw [if_pos e, if_pos e]
        omega
      · rw [if_neg e, if_neg e]
        exact h4 i j i1 i2 (by omega)
    · rw [hI_o (by decide), sA_o (by decide), sA_o (by decide), hI_s]
    · dsimp only
      by_cases e : i = m
      · subst e
        rw [if_pos rfl, if_pos rfl]
        refine ⟨⟨?_, ?_⟩, ?_, ?_⟩
        · rw [gA_o (by decide), gs_o (by decide), gs_o (by decide), gA_o (by decide), gs_o (by decide), gs_s]
        · rw [gA_o (by decide), gs_o (by decide), gs_o (by decide), gA_o (by decide), gs_s]
        · rw [gA_o (by decide), gs_o (by decide), gs_s]
        · rw [gA_o (by decide), gs_s]
      · rw [if_neg e, if_neg e]
        have h7 := h6 i i1 (by omega)
        refine ⟨⟨?_, ?_⟩, ?_, ?_⟩
        · rw [gA_o (by decide), gs_o (by decide), gs_o (by decide), gA_o (by decide), gs_o (by decide), gs_k (by omega) i1 e]
          exact h7.1.1
        · rw [gA_o (by decide), gs_o (by decide), gs_o (by decide), gA_o (by decide), gs_k (by omega) i1 e, gs_o (by decide)]
          exact h7.1.2
        · rw [gA_o (by decide), gs_o (by decide), gs_k (by omega) i1 e, gA_o (by decide), gs_o (by decide), gs_o (by decide)]
          exact h7.2.1
        · rw [gA_o (by decide), gs_k (by omega) i1 e, gs_o (by decide), gA_o (by decide), gs_o (by decide), gs_o (by decide)]
          exact h7.2.2
    · exact Kp.hI1 (Kp.sA1 (Kp.sA1 (Kp.hI1 (Kp.sA1 (Kp.sA1 Kp.refl rfl) rfl) rfl) rfl) rfl) rfl
theorem Punmark (F : FH hr) (hn : 775 ≤ n) (C : Cp9 h) : Pr2 E 163 272 [] h hr n (Po Cp9 9 9 h hr n) := by
  obtain ⟨m, f, g, h1, h2, h3, h4, h5, h6⟩ := C
  unfold Pr2
  have b1 := h5.1
  simp +decide (maxSteps := 4000000) (disch := omega) only [k163_0, k163_r, k163_s, F_al0, T_getR, T_getI, F_is1i, F_is1r, F_is1m, T_I, T_putI, T_putZ, F_il1, T_ret, FX F, b1, TK, lt_run hn, le43, Int.le_refl, Int.lt_irrefl, Option.some.injEq, exists_eq_left', true_and, and_true, if_true, if_false, decide_eq_false_iff_not, decide_eq_true_eq, Nat.reduceAdd, Nat.reduceLeDiff, Nat.reduceLT, Int.reduceAdd, Int.reduceSub, Int.reduceMul, Int.reduceNeg, not_true_eq_false, not_false_eq_true]
  refine ⟨_, rfl, ?_⟩
  have b2 : hI h 91 2 (J 0) 704 45 = J m := by rw [hI_o (by decide)]; exact h5.2
  simp +decide (maxSteps := 4000000) (disch := omega) only [k272_0, k272_r, k272_s, F_al0, T_getI, F_is1i, F_is1r, F_is1m, T_I, T_putI, T_putZ, F_il1, T_ret, FM F, b2, TK, lt_run hn, le43, Int.le_refl, Int.lt_irrefl, Option.some.injEq, exists_eq_left', true_and, and_true, if_true, if_false, decide_eq_false_iff_not, decide_eq_true_eq, Nat.reduceAdd, Nat.reduceLeDiff, Nat.reduceLT, Int.reduceAdd, Int.reduceSub, Int.reduceMul, Int.reduceNeg, not_true_eq_false, not_false_eq_true]
  refine ⟨⟨⟨0, f, g, by omega, h2, h3, fun i j _ _ _ => by omega, ⟨?_, hI_s⟩, fun i _ _ => by omega⟩, Kp.hI1 (Kp.hI1 Kp.refl rfl) rfl⟩, rfl, rfl⟩
  rw [hI_o (by decide), hI_s]
/-- PARTNERS -/
def Cp10 (h : AHi) : Prop := ∃ (m : Int) (f : Int → Int), (0 ≤ m ∧ m ≤ 8) ∧ (∀ i, 0 ≤ f i ∧ f i ≤ 8) ∧ (h 91 7 = J m ∧ h 704 49 = J m) ∧ ∀ i, 0 ≤ i → i < m → gA h 97 i = J (f i) ∧ gA h 740 i = J (f i)
theorem Cp10.sm (C : Cp10 h) (e : Sm 10 h h') : Cp10 h' := by
  obtain ⟨m, f, h1, h2, h5, h6⟩ := C
  refine ⟨m, f, h1, h2, ?_, fun i i1 i2 => ?_⟩
  · rw [e 91 7 rfl, e 704 49 rfl]
    exact h5
  · rw [e.g rfl, e.g rfl]
    exact h6 i i1 i2
theorem Ppartner (F : FH hr) (hn : 775 ≤ n) (C : Cp10 h) (x : Int32) : Pr2 E 165 279 [.int x] h hr n (Po Cp10 10 10 h hr n) := by
  have C0 := C
  obtain ⟨m, f, h1, h2, h5, h6⟩ := C
  obtain ⟨a, ha, ha', rfl⟩ := J_of x
  obtain ⟨b1, b2⟩ := h5
  unfold Pr2
  simp +decide (maxSteps := 4000000) (disch := omega) only [k165_0, k165_r, k165_s, F_al0, T_getR, F_il1, T_ret, c88, FX F, TK, lt_run hn, le43, Int.le_refl, Int.lt_irrefl, Option.some.injEq, exists_eq_left', true_and, and_true, if_true, if_false, decide_eq_false_iff_not, decide_eq_true_eq, Nat.reduceAdd, Nat.reduceLeDiff, Nat.reduceLT, Int.reduceAdd, Int.reduceSub, Int.reduceMul, Int.reduceNeg, not_true_eq_false, not_false_eq_true]
  by_cases g1 : a < 0
  · simp +decide (maxSteps := 4000000) (disch := omega) only [k88_0, k88_1, k88_2, k88_r, k88_s, F_il1, J_iflt, F_al0, T_getI, T_icge, T_getR, X_iald, T_I, T_iclt, T_ft, T_ret, FX F, b1, g1, TK, lt_run hn, le43, Int.le_refl, Int.lt_irrefl, Option.some.injEq, exists_eq_left', true_and, and_true, if_true, if_false, decide_eq_false_iff_not, decide_eq_true_eq, Nat.reduceAdd, Nat.reduceLeDiff, Nat.reduceLT, Int.reduceAdd, Int.reduceSub, Int.reduceMul, Int.reduceNeg, not_true_eq_false, not_false_eq_true]
    try simp +decide (maxSteps := 4000000) (disch := omega) only [k165_0, k165_r, k165_s, F_al0, T_getR, F_il1, T_ret, c88, FX F, TK, lt_run hn, le43, Int.le_refl, Int.lt_irrefl, Option.some.injEq, exists_eq_left', true_and, and_true, if_true, if_false, decide_eq_false_iff_not, decide_eq_true_eq, Nat.reduceAdd, Nat.reduceLeDiff, Nat.reduceLT, Int.reduceAdd, Int.reduceSub, Int.reduceMul, Int.reduceNeg, not_true_eq_false, not_false_eq_true]
    refine ⟨_, rfl, ?_⟩
    simp +decide (maxSteps := 4000000) (disch := omega) only [k279_0, k279_1, k279_2, k279_r, k279_s, F_il1, T_I, F_al0, T_getI, T_sub, J_ifeq, T_getR, X_iald, T_icge, T_goto, T_ft, T_ret, c219, ↓s219, FM F, b2, show ¬ (0 ≤ a ∧ a ≤ m - 1) by omega, TK, lt_run hn, le43, Int.le_refl, Int.lt_irrefl, Option.some.injEq, exists_eq_left', true_and, and_true, if_true, if_false, decide_eq_false_iff_not, decide_eq_true_eq, Nat.reduceAdd, Nat.reduceLeDiff, Nat.reduceLT, Int.reduceAdd, Int.reduceSub, Int.reduceMul, Int.reduceNeg, not_true_eq_false, not_false_eq_true]
    first | exact ⟨rfl, ⟨C0, Kp.refl⟩, rfl, rfl⟩ | exact ⟨⟨C0, Kp.refl⟩, rfl, rfl⟩ | exact ⟨C0, Kp.refl⟩
  by_cases g2 : m ≤ a
  · simp +decide (maxSteps := 4000000) (disch := omega) only [k88_0, k88_1, k88_2, k88_r, k88_s, F_il1, J_iflt, F_al0, T_getI, T_icge, T_getR, X_iald, T_I, T_iclt, T_ft, T_ret, FX F, b1, g1, g2, TK, lt_run hn, le43, Int.le_refl, Int.lt_irrefl, Option.some.injEq, exists_eq_left', true_and, and_true, if_true, if_false, decide_eq_false_iff_not, decide_eq_true_eq, Nat.reduceAdd, Nat.reduceLeDiff, Nat.reduceLT, Int.reduceAdd, Int.reduceSub, Int.reduceMul, Int.reduceNeg, not_true_eq_false, not_false_eq_true]
    try simp +decide (maxSteps := 4000000) (disch := omega) only [k165_0, k165_r, k165_s, F_al0, T_getR, F_il1, T_ret, c88, FX F, TK, lt_run hn, le43, Int.le_refl, Int.lt_irrefl, Option.some.injEq, exists_eq_left', true_and, and_true, if_true, if_false, decide_eq_false_iff_not, decide_eq_true_eq, Nat.reduceAdd, Nat.reduceLeDiff, Nat.reduceLT, Int.reduceAdd, Int.reduceSub, Int.reduceMul, Int.reduceNeg, not_true_eq_false, not_false_eq_true]
    refine ⟨_, rfl, ?_⟩
    simp +decide (maxSteps := 4000000) (disch := omega) only [k279_0, k279_1, k279_2, k279_r, k279_s, F_il1, T_I, F_al0, T_getI, T_sub, J_ifeq, T_getR, X_iald, T_icge, T_goto, T_ft, T_ret, c219, ↓s219, FM F, b2, show ¬ (0 ≤ a ∧ a ≤ m - 1) by omega, TK, lt_run hn, le43, Int.le_refl, Int.lt_irrefl, Option.some.injEq, exists_eq_left', true_and, and_true, if_true, if_false, decide_eq_false_iff_not, decide_eq_true_eq, Nat.reduceAdd, Nat.reduceLeDiff, Nat.reduceLT, Int.reduceAdd, Int.reduceSub, Int.reduceMul, Int.reduceNeg, not_true_eq_false, not_false_eq_true]
    first | exact ⟨rfl, ⟨C0, Kp.refl⟩, rfl, rfl⟩ | exact ⟨⟨C0, Kp.refl⟩, rfl, rfl⟩ | exact ⟨C0, Kp.refl⟩
  have c1 := h6 a (by omega) (by omega)
  have c2 := h2 a
  by_cases g3 : f a < 8
  · simp +decide (maxSteps := 4000000) (disch := omega) only [k88_0, k88_1, k88_2, k88_r, k88_s, F_il1, J_iflt, F_al0, T_getI, T_icge, T_getR, X_iald, T_I, T_iclt, T_ft, T_ret, FX F, b1, g1, g2, g3, c1, ln_97, TK, lt_run hn, le43, Int.le_refl, Int.lt_irrefl, Option.some.injEq, exists_eq_left', true_and, and_true, if_true, if_false, decide_eq_false_iff_not, decide_eq_true_eq, Nat.reduceAdd, Nat.reduceLeDiff, Nat.reduceLT, Int.reduceAdd, Int.reduceSub, Int.reduceMul, Int.reduceNeg, not_true_eq_false, not_false_eq_true]
    try simp +decide (maxSteps := 4000000) (disch := omega) only [k165_0, k165_r, k165_s, F_al0, T_getR, F_il1, T_ret, c88, FX F, TK, lt_run hn, le43, Int.le_refl, Int.lt_irrefl, Option.some.injEq, exists_eq_left', true_and, and_true, if_true, if_false, decide_eq_false_iff_not, decide_eq_true_eq, Nat.reduceAdd, Nat.reduceLeDiff, Nat.reduceLT, Int.reduceAdd, Int.reduceSub, Int.reduceMul, Int.reduceNeg, not_true_eq_false, not_false_eq_true]
    refine ⟨_, rfl, ?_⟩
    simp +decide (maxSteps := 4000000) (disch := omega) only [k279_0, k279_1, k279_2, k279_r, k279_s, F_il1, T_I, F_al0, T_getI, T_sub, J_ifeq, T_getR, X_iald, T_icge, T_goto, T_ft, T_ret, c219, ↓s219, FM F, b2, c1, ln_740, show (0 ≤ a ∧ a ≤ m - 1) by omega, show ¬ 8 ≤ f a by omega, TK, lt_run hn, le43, Int.le_refl, Int.lt_irrefl, Option.some.injEq, exists_eq_left', true_and, and_true, if_true, if_false, decide_eq_false_iff_not, decide_eq_true_eq, Nat.reduceAdd, Nat.reduceLeDiff, Nat.reduceLT, Int.reduceAdd, Int.reduceSub, Int.reduceMul, Int.reduceNeg, not_true_eq_false, not_false_eq_true]
    first | exact ⟨rfl, ⟨C0, Kp.refl⟩, rfl, rfl⟩ | exact ⟨⟨C0, Kp.refl⟩, rfl, rfl⟩ | exact ⟨C0, Kp.refl⟩
  · simp +decide (maxSteps := 4000000) (disch := omega) only [k88_0, k88_1, k88_2, k88_r, k88_s, F_il1, J_iflt, F_al0, T_getI, T_icge, T_getR, X_iald, T_I, T_iclt, T_ft, T_ret, FX F, b1, g1, g2, g3, c1, ln_97, TK, lt_run hn, le43, Int.le_refl, Int.lt_irrefl, Option.some.injEq, exists_eq_left', true_and, and_true, if_true, if_false, decide_eq_false_iff_not, decide_eq_true_eq, Nat.reduceAdd, Nat.reduceLeDiff, Nat.reduceLT, Int.reduceAdd, Int.reduceSub, Int.reduceMul, Int.reduceNeg, not_true_eq_false, not_false_eq_true]
    try simp +decide (maxSteps := 4000000) (disch := omega) only [k165_0, k165_r, k165_s, F_al0, T_getR, F_il1, T_ret, c88, FX F, TK, lt_run hn, le43, Int.le_refl, Int.lt_irrefl, Option.some.injEq, exists_eq_left', true_and, and_true, if_true, if_false, decide_eq_false_iff_not, decide_eq_true_eq, Nat.reduceAdd, Nat.reduceLeDiff, Nat.reduceLT, Int.reduceAdd, Int.reduceSub, Int.reduceMul, Int.reduceNeg, not_true_eq_false, not_false_eq_true]
    refine ⟨_, rfl, ?_⟩
    simp +decide (maxSteps := 4000000) (disch := omega) only [k279_0, k279_1, k279_2, k279_r, k279_s, F_il1, T_I, F_al0, T_getI, T_sub, J_ifeq, T_getR, X_iald, T_icge, T_goto, T_ft, T_ret, c219, ↓s219, FM F, b2, c1, ln_740, show (0 ≤ a ∧ a ≤ m - 1) by omega, show 8 ≤ f a by omega, TK, lt_run hn, le43, Int.le_refl, Int.lt_irrefl, Option.some.injEq, exists_eq_left', true_and, and_true, if_true, if_false, decide_eq_false_iff_not, decide_eq_true_eq, Nat.reduceAdd, Nat.reduceLeDiff, Nat.reduceLT, Int.reduceAdd, Int.reduceSub, Int.reduceMul, Int.reduceNeg, not_true_eq_false, not_false_eq_true]
    first | exact ⟨rfl, ⟨C0, Kp.refl⟩, rfl, rfl⟩ | exact ⟨⟨C0, Kp.refl⟩, rfl, rfl⟩ | exact ⟨C0, Kp.refl⟩
/-- PIVOT -/
def Cp11 (h : AHi) : Prop := ∃ x y : Int, ((-400 ≤ x ∧ x ≤ 400) ∧ -400 ≤ y ∧ y ≤ 400) ∧ (h 43 11 = J x ∧ h 43 12 = J y) ∧ h 704 51 = J x ∧ h 704 52 = J y
theorem Cp11.sm (C : Cp11 h) (e : Sm 11 h h') : Cp11 h' := by
  obtain ⟨x, y, h1, h2⟩ := C
  refine ⟨x, y, h1, ?_⟩
  rw [e 43 11 rfl, e 43 12 rfl, e 704 51 rfl, e 704 52 rfl]
  exact h2
theorem Ppivot (F : FH hr) (hn : 775 ≤ n) (C : Cp11 h) (x y : Int32) : Pr2 E 170 284 [.int x, .int y] h hr n (Po Cp11 11 11 h hr n) := by
  obtain ⟨a, ha, ha', rfl⟩ := J_of x
  obtain ⟨b, hb, hb', rfl⟩ := J_of y
  unfold Pr2
  by_cases g1 : -400 ≤ a ∧ a ≤ 400
  case neg =>
    simp +decide (maxSteps := 4000000) (disch := omega) only [k170_0, k170_1, k170_r, k170_s, F_il1, F_il2, J_ifne, T_I, T_ret, F_al0, T_putI, T_putZ, c171, ↓s171, FX F, g1, TK, lt_run hn, le43, Int.le_refl, Int.lt_irrefl, Option.some.injEq, exists_eq_left', true_and, and_true, if_true, if_false, decide_eq_false_iff_not, decide_eq_true_eq, Nat.reduceAdd, Nat.reduceLeDiff, Nat.reduceLT, Int.reduceAdd, Int.reduceSub, Int.reduceMul, Int.reduceNeg, not_true_eq_false, not_false_eq_true]
    refine ⟨_, rfl, ?_⟩
    simp +decide (maxSteps := 4000000) (disch := omega) only [k284_0, k284_1, k284_2, k284_r, k284_s, F_il1, T_I, J_ifeq, F_il2, J_ifne, T_ft, T_ret, F_al0, T_putI, T_putZ, c219, ↓s219, FM F, g1, TK, lt_run hn, le43, Int.le_refl, Int.lt_irrefl, Option.some.injEq, exists_eq_left', true_and, and_true, if_true, if_false, decide_eq_false_iff_not, decide_eq_true_eq, Nat.reduceAdd, Nat.reduceLeDiff, Nat.reduceLT, Int.reduceAdd, Int.reduceSub, Int.reduceMul, Int.reduceNeg, not_true_eq_false, not_false_eq_true]
    first | exact ⟨rfl, ⟨C, Kp.refl⟩, rfl, rfl⟩ | exact ⟨⟨C, Kp.refl⟩, rfl, rfl⟩ | exact ⟨C, Kp.refl⟩
  by_cases g2 : -400 ≤ b ∧ b ≤ 400
  case neg =>
    simp +decide (maxSteps := 4000000) (disch := omega) only [k170_0, k170_1, k170_r, k170_s, F_il1, F_il2, J_ifne, T_I, T_ret, F_al0, T_putI, T_putZ, c171, ↓s171, FX F, g1, g2, TK, lt_run hn, le43, Int.le_refl, Int.lt_irrefl, Option.some.injEq, exists_eq_left', true_and, and_true, if_true, if_false, decide_eq_false_iff_not, decide_eq_true_eq, Nat.reduceAdd, Nat.reduceLeDiff, Nat.reduceLT, Int.reduceAdd, Int.reduceSub, Int.reduceMul, Int.reduceNeg, not_true_eq_false, not_false_eq_true]
    refine ⟨_, rfl, ?_⟩
    simp +decide (maxSteps := 4000000) (disch := omega) only [k284_0, k284_1, k284_2, k284_r, k284_s, F_il1, T_I, J_ifeq, F_il2, J_ifne, T_ft, T_ret, F_al0, T_putI, T_putZ, c219, ↓s219, FM F, g1, g2, TK, lt_run hn, le43, Int.le_refl, Int.lt_irrefl, Option.some.injEq, exists_eq_left', true_and, and_true, if_true, if_false, decide_eq_false_iff_not, decide_eq_true_eq, Nat.reduceAdd, Nat.reduceLeDiff, Nat.reduceLT, Int.reduceAdd, Int.reduceSub, Int.reduceMul, Int.reduceNeg, not_true_eq_false, not_false_eq_true]
    first | exact ⟨rfl, ⟨C, Kp.refl⟩, rfl, rfl⟩ | exact ⟨⟨C, Kp.refl⟩, rfl, rfl⟩ | exact ⟨C, Kp.refl⟩
  simp +decide (maxSteps := 4000000) (disch := omega) only [k170_0, k170_1, k170_r, k170_s, F_il1, F_il2, J_ifne, T_I, T_ret, F_al0, T_putI, T_putZ, c171, ↓s171, FX F, g1, g2, TK, lt_run hn, le43, Int.le_refl, Int.lt_irrefl, Option.some.injEq, exists_eq_left', true_and, and_true, if_true, if_false, decide_eq_false_iff_not, decide_eq_true_eq, Nat.reduceAdd, Nat.reduceLeDiff, Nat.reduceLT, Int.reduceAdd, Int.reduceSub, Int.reduceMul, Int.reduceNeg, not_true_eq_false, not_false_eq_true]
  refine ⟨_, rfl, ?_⟩
  simp +decide (maxSteps := 4000000) (disch := omega) only [k284_0, k284_1, k284_2, k284_r, k284_s, F_il1, T_I, J_ifeq, F_il2, J_ifne, T_ft, T_ret, F_al0, T_putI, T_putZ, c219, ↓s219, FM F, g1, g2, TK, lt_run hn, le43, Int.le_refl, Int.lt_irrefl, Option.some.injEq, exists_eq_left', true_and, and_true, if_true, if_false, decide_eq_false_iff_not, decide_eq_true_eq, Nat.reduceAdd, Nat.reduceLeDiff, Nat.reduceLT, Int.reduceAdd, Int.reduceSub, Int.reduceMul, Int.reduceNeg, not_true_eq_false, not_false_eq_true]
  refine ⟨⟨⟨a, b, ⟨g1, g2⟩, ⟨?_, ?_⟩, ?_, hI_s⟩, Kp.hI1 (Kp.hI1 (Kp.hI1 (Kp.hI1 Kp.refl rfl) rfl) rfl) rfl⟩, rfl, rfl⟩
  · rw [hI_o (by decide), hI_o (by decide), hI_k (by decide), hI_s]
  · rw [hI_o (by decide), hI_o (by decide), hI_s]
  · rw [hI_k (by decide), hI_s]
/-- LETTERS -/
def Cp13 (h : AHi) : Prop := ∃ f : Int → Int, (∀ i, 0 ≤ f i ∧ f i ≤ 7) ∧ ∀ i, 0 ≤ i → i < 26 → gA h 106 i = J (f i) ∧ gA h 750 i = J (f i)
theorem Cp13.sm (C : Cp13 h) (e : Sm 13 h h') : Cp13 h' := by
  obtain ⟨f, h1, h2⟩ := C
  refine ⟨f, h1, fun i i1 i2 => ?_⟩
  rw [e.g rfl, e.g rfl]
  exact h2 i i1 i2
theorem Pletter (F : FH hr) (hn : 775 ≤ n) (C : Cp13 h) (x : Int32) : Pr2 E 181 301 [.int x] h hr n (Po Cp13 13 13 h hr n) := by
  have C0 := C
  obtain ⟨f, h1, h2⟩ := C
  obtain ⟨a, ha, ha', rfl⟩ := J_of x
  unfold Pr2
  by_cases g1 : 0 ≤ a ∧ a ≤ 25
  case neg =>
    simp +decide (maxSteps := 4000000) (disch := omega) only [k181_0, k181_1, k181_2, k181_r, k181_s, F_il1, T_I, J_ifeq, F_al0, T_getR, X_iald, T_goto, T_ft, T_ret, c138, ↓s138, FX F, g1, TK, lt_run hn, le43, Int.le_refl, Int.lt_irrefl, Option.some.injEq, exists_eq_left', true_and, and_true, if_true, if_false, decide_eq_false_iff_not, decide_eq_true_eq, Nat.reduceAdd, Nat.reduceLeDiff, Nat.reduceLT, Int.reduceAdd, Int.reduceSub, Int.reduceMul, Int.reduceNeg, not_true_eq_false, not_false_eq_true]
    refine ⟨_, rfl, ?_⟩
    simp +decide (maxSteps := 4000000) (disch := omega) only [k301_0, k301_1, k301_2, k301_r, k301_s, F_il1, T_I, J_ifeq, F_al0, T_getR, X_iald, T_goto, T_ft, T_ret, c219, ↓s219, FM F, g1, TK, lt_run hn, le43, Int.le_refl, Int.lt_irrefl, Option.some.injEq, exists_eq_left', true_and, and_true, if_true, if_false, decide_eq_false_iff_not, decide_eq_true_eq, Nat.reduceAdd, Nat.reduceLeDiff, Nat.reduceLT, Int.reduceAdd, Int.reduceSub, Int.reduceMul, Int.reduceNeg, not_true_eq_false, not_false_eq_true]
    first | exact ⟨rfl, ⟨C0, Kp.refl⟩, rfl, rfl⟩ | exact ⟨⟨C0, Kp.refl⟩, rfl, rfl⟩ | exact ⟨C0, Kp.refl⟩
  have c1 := h2 a g1.1 (by omega)
  simp +decide (maxSteps := 4000000) (disch := omega) only [k181_0, k181_1, k181_2, k181_r, k181_s, F_il1, T_I, J_ifeq, F_al0, T_getR, X_iald, T_goto, T_ft, T_ret, c138, ↓s138, FX F, g1, c1, ln_106, ln_750, TK, lt_run hn, le43, Int.le_refl, Int.lt_irrefl, Option.some.injEq, exists_eq_left', true_and, and_true, if_true, if_false, decide_eq_false_iff_not, decide_eq_true_eq, Nat.reduceAdd, Nat.reduceLeDiff, Nat.reduceLT, Int.reduceAdd, Int.reduceSub, Int.reduceMul, Int.reduceNeg, not_true_eq_false, not_false_eq_true]
  refine ⟨_, rfl, ?_⟩
  simp +decide (maxSteps := 4000000) (disch := omega) only [k301_0, k301_1, k301_2, k301_r, k301_s, F_il1, T_I, J_ifeq, F_al0, T_getR, X_iald, T_goto, T_ft, T_ret, c219, ↓s219, FM F, g1, c1, ln_106, ln_750, TK, lt_run hn, le43, Int.le_refl, Int.lt_irrefl, Option.some.injEq, exists_eq_left', true_and, and_true, if_true, if_false, decide_eq_false_iff_not, decide_eq_true_eq, Nat.reduceAdd, Nat.reduceLeDiff, Nat.reduceLT, Int.reduceAdd, Int.reduceSub, Int.reduceMul, Int.reduceNeg, not_true_eq_false, not_false_eq_true]
  first | exact ⟨rfl, ⟨C0, Kp.refl⟩, rfl, rfl⟩ | exact ⟨⟨C0, Kp.refl⟩, rfl, rfl⟩ | exact ⟨C0, Kp.refl⟩
/-- MOUTHS -/
def Cp14 (h : AHi) : Prop := ∃ (m : Int) (f g : Int → Int), (0 ≤ m ∧ m ≤ 120) ∧ (∀ i, 0 ≤ f i ∧ f i ≤ 7) ∧ (∀ i, 0 ≤ g i ∧ g i ≤ 120) ∧ (h 105 4 = J m ∧ h 704 65 = J m) ∧ ∀ i, 0 ≤ i → i < m → (gA h 108 i = J (f i) ∧ gA h 109 i = J (g i)) ∧ gA h 752 i = J (f i) ∧ gA h 753 i = J (g i)
theorem Cp14.sm (C : Cp14 h) (e : Sm 14 h h') : Cp14 h' := by
  obtain ⟨m, f, g, h1, h2, h3, h5, h6⟩ := C
  refine ⟨m, f, g, h1, h2, h3, ?_, fun i i1 i2 => ?_⟩
  · rw [e 105 4 rfl, e 704 65 rfl]
    exact h5
  · rw [e.g rfl, e.g rfl, e.g rfl, e.g rfl]
    exact h6 i i1 i2
theorem w78 (F : FH hr) (hn : 775 ≤ n) {a m : Int} {g : Int → Int} (ha : 0 ≤ a ∧ a < m) (hm : m ≤ 120) (b2 : ∀ i, 0 ≤ i → i < m → gA h 109 i = J (g i)) (hQ : Q (some (.int (J (acc g a.toNat))), h, hr, n)) : Sp E 78 [.ref 105, .int (J a)] h hr n Q := by
  simp +decide (maxSteps := 4000000) (disch := omega) only [k78_0, k78_2, k78_r, k78_s, T_I, F_is2i, F_is2r, F_is2m, F_is3i, F_is3r, F_is3m, T_ft, F_il3, F_il1, T_icge, F_il2, F_al0, T_getR, X_iald, T_add, F_inc3i, F_inc3r, F_inc3m, T_goto, T_ret, TK, lt_run hn, le43, Int.le_refl, Int.lt_irrefl, Option.some.injEq, exists_eq_left', true_and, and_true, if_true, if_false, decide_eq_false_iff_not, decide_eq_true_eq, Nat.reduceAdd, Nat.reduceLeDiff, Nat.reduceLT, Int.reduceAdd, Int.reduceSub, Int.reduceMul, Int.reduceNeg, not_true_eq_false, not_false_eq_true]
  refine T_for (σ := Int32) (fun i s => [.ref 105, .int (J a), .int s, .int (J i)]) (fun i s h' => h' = h ∧ s = J (acc g i.toNat)) 0 a ?_ ?_ 0 (J 0) h (by omega) (by omega) ⟨rfl, rfl⟩
  · rintro i s h' i0 i1 ⟨rfl, rfl⟩ ih
    have c1 := b2 i i0 (by omega)
    rw [k78_1]
    simp +decide (maxSteps := 4000000) (disch := omega) only [k78_0, k78_2, k78_r, k78_s, T_I, F_is2i, F_is2r, F_is2m, F_is3i, F_is3r, F_is3m, T_ft, F_il3, F_il1, T_icge, F_il2, F_al0, T_getR, X_iald, T_add, F_inc3i, F_inc3r, F_inc3m, T_goto, T_ret, FX F, c1, ln_109, show ¬ a ≤ i by omega, TK, lt_run hn, le43, Int.le_refl, Int.lt_irrefl, Option.some.injEq, exists_eq_left', true_and, and_true, if_true, if_false, decide_eq_false_iff_not, decide_eq_true_eq, Nat.reduceAdd, Nat.reduceLeDiff, Nat.reduceLT, Int.reduceAdd, Int.reduceSub, Int.reduceMul, Int.reduceNeg, not_true_eq_false, not_false_eq_true]
    exact ih _ _ ⟨rfl, by rw [acc_s g i0]⟩
  · rintro s h' ⟨rfl, rfl⟩
    rw [k78_1]
    simp +decide (maxSteps := 4000000) (disch := omega) only [k78_0, k78_2, k78_r, k78_s, T_I, F_is2i, F_is2r, F_is2m, F_is3i, F_is3r, F_is3m, T_ft, F_il3, F_il1, T_icge, F_il2, F_al0, T_getR, X_iald, T_add, F_inc3i, F_inc3r, F_inc3m, T_goto, T_ret, FX F, TK, lt_run hn, le43, Int.le_refl, Int.lt_irrefl, Option.some.injEq, exists_eq_left', true_and, and_true, if_true, if_false, decide_eq_false_iff_not, decide_eq_true_eq, Nat.reduceAdd, Nat.reduceLeDiff, Nat.reduceLT, Int.reduceAdd, Int.reduceSub, Int.reduceMul, Int.reduceNeg, not_true_eq_false, not_false_eq_true]
    exact hQ
theorem z305 (F : FH hr) (hn : 775 ≤ n) {a m : Int} {v : Int32} {g : Int → Int} (ha : 0 ≤ a ∧ a < m) (hm : m ≤ 120) (b2 : ∀ i, 0 ≤ i → i < m → gA h 753 i = J (g i)) (hQ : Tm E 305 (a_bl 305 3) [.ref 704, .int (J a), .int v, .int (J (acc g a.toNat)), .int (J a)] [] h hr n Q) : Tm E 305 (a_bl 305 2) [.ref 704, .int (J a), .int v, .int (J 0), .int (J 0)] [] h hr n Q := by
  refine T_for (σ := Int32) (fun i s => [.ref 704, .int (J a), .int v, .int s, .int (J i)]) (fun i s h' => h' = h ∧ s = J (acc g i.toNat)) 0 a ?_ ?_ 0 (J 0) h (by omega) (by omega) ⟨rfl, rfl⟩
  · rintro i s h' i0 i1 ⟨rfl, rfl⟩ ih
    have c1 := b2 i i0 (by omega)
    rw [k305_2]
    simp +decide (maxSteps := 4000000) (disch := omega) only [k305_0, k305_1, k305_3, k305_4, k305_5, k305_6, k305_7, k305_r, k305_s, F_il1, T_I, F_al0, T_getI, T_sub, J_ifne, T_ret, F_is3i, F_is3r, F_is3m, F_is4i, F_is4r, F_is4m, T_ft, F_il4, T_icge, F_il3, T_getR, X_iald, T_add, F_inc4i, F_inc4r, F_inc4m, T_goto, F_il2, J_icne, c219, ↓s219, FM F, c1, ln_753, show ¬ a ≤ i by omega, TK, lt_run hn, le43, Int.le_refl, Int.lt_irrefl, Option.some.injEq, exists_eq_left', true_and, and_true, if_true, if_false, decide_eq_false_iff_not, decide_eq_true_eq, Nat.reduceAdd, Nat.reduceLeDiff, Nat.reduceLT, Int.reduceAdd, Int.reduceSub, Int.reduceMul, Int.reduceNeg, not_true_eq_false, not_false_eq_true]
    exact ih _ _ ⟨rfl, by rw [acc_s g i0]⟩
  · rintro s h' ⟨rfl, rfl⟩
    rw [k305_2]
    simp +decide (maxSteps := 4000000) (disch := omega) only [k305_0, k305_1, k305_4, k305_5, k305_6, k305_7, k305_r, k305_s, F_il1, T_I, F_al0, T_getI, T_sub, J_ifne, T_ret, F_is3i, F_is3r, F_is3m, F_is4i, F_is4r, F_is4m, T_ft, F_il4, T_icge, F_il3, T_getR, X_iald, T_add, F_inc4i, F_inc4r, F_inc4m, T_goto, F_il2, J_icne, c219, ↓s219, TK, lt_run hn, le43, Int.le_refl, Int.lt_irrefl, Option.some.injEq, exists_eq_left', true_and, and_true, if_true, if_false, decide_eq_false_iff_not, decide_eq_true_eq, Nat.reduceAdd, Nat.reduceLeDiff, Nat.reduceLT, Int.reduceAdd, Int.reduceSub, Int.reduceMul, Int.reduceNeg, not_true_eq_false, not_false_eq_true]
    exact hQ
theorem Pmouth (F : FH hr) (hn : 775 ≤ n) (C : Cp14 h) (x y : Int32) : Pr2 E 183 305 [.int x, .int y] h hr n (Po Cp14 14 14 h hr n) := by
  have C0 := C
  obtain ⟨m, f, g, h1, h2, h3, h5, h6⟩ := C
  obtain ⟨a, ha, ha', rfl⟩ := J_of x
  obtain ⟨b, hb, hb', rfl⟩ := J_of y
  obtain ⟨b1, b2⟩ := h5
  unfold Pr2
  simp +decide (maxSteps := 4000000) (disch := omega) only [k183_0, k183_r, k183_s, F_al0, T_getR, F_il1, F_il2, T_ret, c77, FX F, TK, lt_run hn, le43, Int.le_refl, Int.lt_irrefl, Option.some.injEq, exists_eq_left', true_and, and_true, if_true, if_false, decide_eq_false_iff_not, decide_eq_true_eq, Nat.reduceAdd, Nat.reduceLeDiff, Nat.reduceLT, Int.reduceAdd, Int.reduceSub, Int.reduceMul, Int.reduceNeg, not_true_eq_false, not_false_eq_true]
  by_cases g1 : 0 ≤ a ∧ a < m
  case neg =>
    by_cases g2 : a < 0
    · simp +decide (maxSteps := 4000000) (disch := omega) only [k77_0, k77_1, k77_2, k77_3, k77_4, k77_5, k77_6, k77_r, k77_s, F_il1, J_iflt, F_al0, T_getI, T_iclt, T_ft, T_I, T_ret, F_il2, T_sw, T_getR, X_iald, c78, FX F, b1, g2, TK, lt_run hn, le43, Int.le_refl, Int.lt_irrefl, Option.some.injEq, exists_eq_left', true_and, and_true, if_true, if_false, decide_eq_false_iff_not, decide_eq_true_eq, Nat.reduceAdd, Nat.reduceLeDiff, Nat.reduceLT, Int.reduceAdd, Int.reduceSub, Int.reduceMul, Int.reduceNeg, not_true_eq_false, not_false_eq_true]
      try simp +decide (maxSteps := 4000000) (disch := omega) only [k183_0, k183_r, k183_s, F_al0, T_getR, F_il1, F_il2, T_ret, c77, FX F, TK, lt_run hn, le43, Int.le_refl, Int.lt_irrefl, Option.some.injEq, exists_eq_left', true_and, and_true, if_true, if_false, decide_eq_false_iff_not, decide_eq_true_eq, Nat.reduceAdd, Nat.reduceLeDiff, Nat.reduceLT, Int.reduceAdd, Int.reduceSub, Int.reduceMul, Int.reduceNeg, not_true_eq_false, not_false_eq_true]
      refine ⟨_, rfl, ?_⟩
      simp +decide (maxSteps := 4000000) (disch := omega) only [k305_0, k305_1, k305_3, k305_4, k305_5, k305_6, k305_7, k305_r, k305_s, F_il1, T_I, F_al0, T_getI, T_sub, J_ifne, T_ret, F_is3i, F_is3r, F_is3m, F_is4i, F_is4r, F_is4m, T_ft, F_il4, T_icge, F_il3, T_getR, X_iald, T_add, F_inc4i, F_inc4r, F_inc4m, T_goto, F_il2, J_icne, c219, ↓s219, FM F, b2, show ¬ (0 ≤ a ∧ a ≤ m - 1) by omega, TK, lt_run hn, le43, Int.le_refl, Int.lt_irrefl, Option.some.injEq, exists_eq_left', true_and, and_true, if_true, if_false, decide_eq_false_iff_not, decide_eq_true_eq, Nat.reduceAdd, Nat.reduceLeDiff, Nat.reduceLT, Int.reduceAdd, Int.reduceSub, Int.reduceMul, Int.reduceNeg, not_true_eq_false, not_false_eq_true]
      first | exact ⟨rfl, ⟨C0, Kp.refl⟩, rfl, rfl⟩ | exact ⟨⟨C0, Kp.refl⟩, rfl, rfl⟩ | exact ⟨C0, Kp.refl⟩
    · simp +decide (maxSteps := 4000000) (disch := omega) only [k77_0, k77_1, k77_2, k77_3, k77_4, k77_5, k77_6, k77_r, k77_s, F_il1, J_iflt, F_al0, T_getI, T_iclt, T_ft, T_I, T_ret, F_il2, T_sw, T_getR, X_iald, c78, FX F, b1, g2, show ¬ a < m by omega, TK, lt_run hn, le43, Int.le_refl, Int.lt_irrefl, Option.some.injEq, exists_eq_left', true_and, and_true, if_true, if_false, decide_eq_false_iff_not, decide_eq_true_eq, Nat.reduceAdd, Nat.reduceLeDiff, Nat.reduceLT, Int.reduceAdd, Int.reduceSub, Int.reduceMul, Int.reduceNeg, not_true_eq_false, not_false_eq_true]
      try simp +decide (maxSteps := 4000000) (disch := omega) only [k183_0, k183_r, k183_s, F_al0, T_getR, F_il1, F_il2, T_ret, c77, FX F, TK, lt_run hn, le43, Int.le_refl, Int.lt_irrefl, Option.some.injEq, exists_eq_left', true_and, and_true, if_true, if_false, decide_eq_false_iff_not, decide_eq_true_eq, Nat.reduceAdd, Nat.reduceLeDiff, Nat.reduceLT, Int.reduceAdd, Int.reduceSub, Int.reduceMul, Int.reduceNeg, not_true_eq_false, not_false_eq_true]
      refine ⟨_, rfl, ?_⟩
      simp +decide (maxSteps := 4000000) (disch := omega) only [k305_0, k305_1, k305_3, k305_4, k305_5, k305_6, k305_7, k305_r, k305_s, F_il1, T_I, F_al0, T_getI, T_sub, J_ifne, T_ret, F_is3i, F_is3r, F_is3m, F_is4i, F_is4r, F_is4m, T_ft, F_il4, T_icge, F_il3, T_getR, X_iald, T_add, F_inc4i, F_inc4r, F_inc4m, T_goto, F_il2, J_icne, c219, ↓s219, FM F, b2, show ¬ (0 ≤ a ∧ a ≤ m - 1) by omega, TK, lt_run hn, le43, Int.le_refl, Int.lt_irrefl, Option.some.injEq, exists_eq_left', true_and, and_true, if_true, if_false, decide_eq_false_iff_not, decide_eq_true_eq, Nat.reduceAdd, Nat.reduceLeDiff, Nat.reduceLT, Int.reduceAdd, Int.reduceSub, Int.reduceMul, Int.reduceNeg, not_true_eq_false, not_false_eq_true]
      first | exact ⟨rfl, ⟨C0, Kp.refl⟩, rfl, rfl⟩ | exact ⟨⟨C0, Kp.refl⟩, rfl, rfl⟩ | exact ⟨C0, Kp.refl⟩
  obtain ⟨c1, c2⟩ := h6 a g1.1 g1.2
  have key : ∀ v, Tm E 305 (a_bl 305 3) [.ref 704, .int (J a), .int (J b), .int (J (acc g a.toNat)), .int (J a)] [] h hr n (fun q => q.1 = some (.int v) ∧ Po Cp14 14 14 h hr n q.2.1 q.2.2.1 q.2.2.2) → Sp E 305 [.ref 704, .int (J a), .int (J b)] h hr n (fun q => q.1 = some (.int v) ∧ Po Cp14 14 14 h hr n q.2.1 q.2.2.1 q.2.2.2) := fun v hv => by
    simp +decide (maxSteps := 4000000) (disch := omega) only [k305_0, k305_1, k305_3, k305_4, k305_5, k305_6, k305_7, k305_r, k305_s, F_il1, T_I, F_al0, T_getI, T_sub, J_ifne, T_ret, F_is3i, F_is3r, F_is3m, F_is4i, F_is4r, F_is4m, T_ft, F_il4, T_icge, F_il3, T_getR, X_iald, T_add, F_inc4i, F_inc4r, F_inc4m, T_goto, F_il2, J_icne, c219, ↓s219, FM F, b2, show (0 ≤ a ∧ a ≤ m - 1) by omega, TK, lt_run hn, le43, Int.le_refl, Int.lt_irrefl, Option.some.injEq, exists_eq_left', true_and, and_true, if_true, if_false, decide_eq_false_iff_not, decide_eq_true_eq, Nat.reduceAdd, Nat.reduceLeDiff, Nat.reduceLT, Int.reduceAdd, Int.reduceSub, Int.reduceMul, Int.reduceNeg, not_true_eq_false, not_false_eq_true]
    exact z305 F hn g1 h1.2 (fun i i1 i2 => (h6 i i1 i2).2.2) hv
  have sw0 : a_sw 0 6 [3, 4, 5] (J 0) = 3 := rfl
  have sw1 : a_sw 0 6 [3, 4, 5] (J 1) = 4 := rfl
  have sw2 : a_sw 0 6 [3, 4, 5] (J 2) = 5 := rfl
  have sw3 : 3 ≤ b → a_sw 0 6 [3, 4, 5] (J b) = 6 := fun e => sw_hi hb hb' e
  rcases (show b < 0 ∨ b = 0 ∨ b = 1 ∨ b = 2 ∨ 3 ≤ b by omega) with e | e | e | e | e
  · simp +decide (maxSteps := 4000000) (disch := omega) only [k77_0, k77_1, k77_2, k77_3, k77_4, k77_5, k77_6, k77_r, k77_s, F_il1, J_iflt, F_al0, T_getI, T_iclt, T_ft, T_I, T_ret, F_il2, T_sw, T_getR, X_iald, c78, FX F, b1, show ¬ a < 0 by omega, g1.2, sw_lo hb hb' e, TK, lt_run hn, le43, Int.le_refl, Int.lt_irrefl, Option.some.injEq, exists_eq_left', true_and, and_true, if_true, if_false, decide_eq_false_iff_not, decide_eq_true_eq, Nat.reduceAdd, Nat.reduceLeDiff, Nat.reduceLT, Int.reduceAdd, Int.reduceSub, Int.reduceMul, Int.reduceNeg, not_true_eq_false, not_false_eq_true]
    try simp +decide (maxSteps := 4000000) (disch := omega) only [k183_0, k183_r, k183_s, F_al0, T_getR, F_il1, F_il2, T_ret, c77, FX F, TK, lt_run hn, le43, Int.le_refl, Int.lt_irrefl, Option.some.injEq, exists_eq_left', true_and, and_true, if_true, if_false, decide_eq_false_iff_not, decide_eq_true_eq, Nat.reduceAdd, Nat.reduceLeDiff, Nat.reduceLT, Int.reduceAdd, Int.reduceSub, Int.reduceMul, Int.reduceNeg, not_true_eq_false, not_false_eq_true]
    refine ⟨_, rfl, key _ ?_⟩
    simp +decide (maxSteps := 4000000) (disch := omega) only [k305_0, k305_1, k305_3, k305_4, k305_5, k305_6, k305_7, k305_r, k305_s, F_il1, T_I, F_al0, T_getI, T_sub, J_ifne, T_ret, F_is3i, F_is3r, F_is3m, F_is4i, F_is4r, F_is4m, T_ft, F_il4, T_icge, F_il3, T_getR, X_iald, T_add, F_inc4i, F_inc4r, F_inc4m, T_goto, F_il2, J_icne, c219, ↓s219, FM F, show ¬ b = 0 by omega, show ¬ b = 1 by omega, show ¬ b = 2 by omega, TK, lt_run hn, le43, Int.le_refl, Int.lt_irrefl, Option.some.injEq, exists_eq_left', true_and, and_true, if_true, if_false, decide_eq_false_iff_not, decide_eq_true_eq, Nat.reduceAdd, Nat.reduceLeDiff, Nat.reduceLT, Int.reduceAdd, Int.reduceSub, Int.reduceMul, Int.reduceNeg, not_true_eq_false, not_false_eq_true]
    first | exact ⟨rfl, ⟨C0, Kp.refl⟩, rfl, rfl⟩ | exact ⟨⟨C0, Kp.refl⟩, rfl, rfl⟩ | exact ⟨C0, Kp.refl⟩
  · subst e
    simp +decide (maxSteps := 4000000) (disch := omega) only [k77_0, k77_1, k77_2, k77_3, k77_4, k77_5, k77_6, k77_r, k77_s, F_il1, J_iflt, F_al0, T_getI, T_iclt, T_ft, T_I, T_ret, F_il2, T_sw, T_getR, X_iald, c78, FX F, b1, c1, ln_108, show ¬ a < 0 by omega, g1.2, sw0, TK, lt_run hn, le43, Int.le_refl, Int.lt_irrefl, Option.some.injEq, exists_eq_left', true_and, and_true, if_true, if_false, decide_eq_false_iff_not, decide_eq_true_eq, Nat.reduceAdd, Nat.reduceLeDiff, Nat.reduceLT, Int.reduceAdd, Int.reduceSub, Int.reduceMul, Int.reduceNeg, not_true_eq_false, not_false_eq_true]
    try simp +decide (maxSteps := 4000000) (disch := omega) only [k183_0, k183_r, k183_s, F_al0, T_getR, F_il1, F_il2, T_ret, c77, FX F, TK, lt_run hn, le43, Int.le_refl, Int.lt_irrefl, Option.some.injEq, exists_eq_left', true_and, and_true, if_true, if_false, decide_eq_false_iff_not, decide_eq_true_eq, Nat.reduceAdd, Nat.reduceLeDiff, Nat.reduceLT, Int.reduceAdd, Int.reduceSub, Int.reduceMul, Int.reduceNeg, not_true_eq_false, not_false_eq_true]
    refine ⟨_, rfl, key _ ?_⟩
    simp +decide (maxSteps := 4000000) (disch := omega) only [k305_0, k305_1, k305_3, k305_4, k305_5, k305_6, k305_7, k305_r, k305_s, F_il1, T_I, F_al0, T_getI, T_sub, J_ifne, T_ret, F_is3i, F_is3r, F_is3m, F_is4i, F_is4r, F_is4m, T_ft, F_il4, T_icge, F_il3, T_getR, X_iald, T_add, F_inc4i, F_inc4r, F_inc4m, T_goto, F_il2, J_icne, c219, ↓s219, FM F, c2, ln_752, TK, lt_run hn, le43, Int.le_refl, Int.lt_irrefl, Option.some.injEq, exists_eq_left', true_and, and_true, if_true, if_false, decide_eq_false_iff_not, decide_eq_true_eq, Nat.reduceAdd, Nat.reduceLeDiff, Nat.reduceLT, Int.reduceAdd, Int.reduceSub, Int.reduceMul, Int.reduceNeg, not_true_eq_false, not_false_eq_true]
    first | exact ⟨rfl, ⟨C0, Kp.refl⟩, rfl, rfl⟩ | exact ⟨⟨C0, Kp.refl⟩, rfl, rfl⟩ | exact ⟨C0, Kp.refl⟩
  · subst e
    simp +decide (maxSteps := 4000000) (disch := omega) only [k77_0, k77_1, k77_2, k77_3, k77_4, k77_5, k77_6, k77_r, k77_s, F_il1, J_iflt, F_al0, T_getI, T_iclt, T_ft, T_I, T_ret, F_il2, T_sw, T_getR, X_iald, c78, FX F, b1, c1, ln_108, show ¬ a < 0 by omega, g1.2, sw1, TK, lt_run hn, le43, Int.le_refl, Int.lt_irrefl, Option.some.injEq, exists_eq_left', true_and, and_true, if_true, if_false, decide_eq_false_iff_not, decide_eq_true_eq, Nat.reduceAdd, Nat.reduceLeDiff, Nat.reduceLT, Int.reduceAdd, Int.reduceSub, Int.reduceMul, Int.reduceNeg, not_true_eq_false, not_false_eq_true]
    refine w78 F hn g1 h1.2 (fun i i1 i2 => (h6 i i1 i2).1.2) ?_
    simp +decide (maxSteps := 4000000) (disch := omega) only [k77_0, k77_1, k77_2, k77_3, k77_4, k77_5, k77_6, k77_r, k77_s, F_il1, J_iflt, F_al0, T_getI, T_iclt, T_ft, T_I, T_ret, F_il2, T_sw, T_getR, X_iald, c78, FX F, TK, lt_run hn, le43, Int.le_refl, Int.lt_irrefl, Option.some.injEq, exists_eq_left', true_and, and_true, if_true, if_false, decide_eq_false_iff_not, decide_eq_true_eq, Nat.reduceAdd, Nat.reduceLeDiff, Nat.reduceLT, Int.reduceAdd, Int.reduceSub, Int.reduceMul, Int.reduceNeg, not_true_eq_false, not_false_eq_true]
    try simp +decide (maxSteps := 4000000) (disch := omega) only [k183_0, k183_r, k183_s, F_al0, T_getR, F_il1, F_il2, T_ret, c77, FX F, TK, lt_run hn, le43, Int.le_refl, Int.lt_irrefl, Option.some.injEq, exists_eq_left', true_and, and_true, if_true, if_false, decide_eq_false_iff_not, decide_eq_true_eq, Nat.reduceAdd, Nat.reduceLeDiff, Nat.reduceLT, Int.reduceAdd, Int.reduceSub, Int.reduceMul, Int.reduceNeg, not_true_eq_false, not_false_eq_true]
    refine ⟨_, rfl, key _ ?_⟩
    simp +decide (maxSteps := 4000000) (disch := omega) only [k305_0, k305_1, k305_3, k305_4, k305_5, k305_6, k305_7, k305_r, k305_s, F_il1, T_I, F_al0, T_getI, T_sub, J_ifne, T_ret, F_is3i, F_is3r, F_is3m, F_is4i, F_is4r, F_is4m, T_ft, F_il4, T_icge, F_il3, T_getR, X_iald, T_add, F_inc4i, F_inc4r, F_inc4m, T_goto, F_il2, J_icne, c219, ↓s219, FM F, c2, ln_752, TK, lt_run hn, le43, Int.le_refl, Int.lt_irrefl, Option.some.injEq, exists_eq_left', true_and, and_true, if_true, if_false, decide_eq_false_iff_not, decide_eq_true_eq, Nat.reduceAdd, Nat.reduceLeDiff, Nat.reduceLT, Int.reduceAdd, Int.reduceSub, Int.reduceMul, Int.reduceNeg, not_true_eq_false, not_false_eq_true]
    first | exact ⟨rfl, ⟨C0, Kp.refl⟩, rfl, rfl⟩ | exact ⟨⟨C0, Kp.refl⟩, rfl, rfl⟩ | exact ⟨C0, Kp.refl⟩
  · subst e
    simp +decide (maxSteps := 4000000) (disch := omega) only [k77_0, k77_1, k77_2, k77_3, k77_4, k77_5, k77_6, k77_r, k77_s, F_il1, J_iflt, F_al0, T_getI, T_iclt, T_ft, T_I, T_ret, F_il2, T_sw, T_getR, X_iald, c78, FX F, b1, c1, ln_109, show ¬ a < 0 by omega, g1.2, sw2, TK, lt_run hn, le43, Int.le_refl, Int.lt_irrefl, Option.some.injEq, exists_eq_left', true_and, and_true, if_true, if_false, decide_eq_false_iff_not, decide_eq_true_eq, Nat.reduceAdd, Nat.reduceLeDiff, Nat.reduceLT, Int.reduceAdd, Int.reduceSub, Int.reduceMul, Int.reduceNeg, not_true_eq_false, not_false_eq_true]
    try simp +decide (maxSteps := 4000000) (disch := omega) only [k183_0, k183_r, k183_s, F_al0, T_getR, F_il1, F_il2, T_ret, c77, FX F, TK, lt_run hn, le43, Int.le_refl, Int.lt_irrefl, Option.some.injEq, exists_eq_left', true_and, and_true, if_true, if_false, decide_eq_false_iff_not, decide_eq_true_eq, Nat.reduceAdd, Nat.reduceLeDiff, Nat.reduceLT, Int.reduceAdd, Int.reduceSub, Int.reduceMul, Int.reduceNeg, not_true_eq_false, not_false_eq_true]
    refine ⟨_, rfl, key _ ?_⟩
    simp +decide (maxSteps := 4000000) (disch := omega) only [k305_0, k305_1, k305_3, k305_4, k305_5, k305_6, k305_7, k305_r, k305_s, F_il1, T_I, F_al0, T_getI, T_sub, J_ifne, T_ret, F_is3i, F_is3r, F_is3m, F_is4i, F_is4r, F_is4m, T_ft, F_il4, T_icge, F_il3, T_getR, X_iald, T_add, F_inc4i, F_inc4r, F_inc4m, T_goto, F_il2, J_icne, c219, ↓s219, FM F, c2, ln_753, TK, lt_run hn, le43, Int.le_refl, Int.lt_irrefl, Option.some.injEq, exists_eq_left', true_and, and_true, if_true, if_false, decide_eq_false_iff_not, decide_eq_true_eq, Nat.reduceAdd, Nat.reduceLeDiff, Nat.reduceLT, Int.reduceAdd, Int.reduceSub, Int.reduceMul, Int.reduceNeg, not_true_eq_false, not_false_eq_true]
    first | exact ⟨rfl, ⟨C0, Kp.refl⟩, rfl, rfl⟩ | exact ⟨⟨C0, Kp.refl⟩, rfl, rfl⟩ | exact ⟨C0, Kp.refl⟩
  · simp +decide (maxSteps := 4000000) (disch := omega) only [k77_0, k77_1, k77_2, k77_3, k77_4, k77_5, k77_6, k77_r, k77_s, F_il1, J_iflt, F_al0, T_getI, T_iclt, T_ft, T_I, T_ret, F_il2, T_sw, T_getR, X_iald, c78, FX F, b1, show ¬ a < 0 by omega, g1.2, sw3 e, TK, lt_run hn, le43, Int.le_refl, Int.lt_irrefl, Option.some.injEq, exists_eq_left', true_and, and_true, if_true, if_false, decide_eq_false_iff_not, decide_eq_true_eq, Nat.reduceAdd, Nat.reduceLeDiff, Nat.reduceLT, Int.reduceAdd, Int.reduceSub, Int.reduceMul, Int.reduceNeg, not_true_eq_false, not_false_eq_true]
    try simp +decide (maxSteps := 4000000) (disch := omega) only [k183_0, k183_r, k183_s, F_al0, T_getR, F_il1, F_il2, T_ret, c77, FX F, TK, lt_run hn, le43, Int.le_refl, Int.lt_irrefl, Option.some.injEq, exists_eq_left', true_and, and_true, if_true, if_false, decide_eq_false_iff_not, decide_eq_true_eq, Nat.reduceAdd, Nat.reduceLeDiff, Nat.reduceLT, Int.reduceAdd, Int.reduceSub, Int.reduceMul, Int.reduceNeg, not_true_eq_false, not_false_eq_true]
    refine ⟨_, rfl, key _ ?_⟩
    simp +decide (maxSteps := 4000000) (disch := omega) only [k305_0, k305_1, k305_3, k305_4, k305_5, k305_6, k305_7, k305_r, k305_s, F_il1, T_I, F_al0, T_getI, T_sub, J_ifne, T_ret, F_is3i, F_is3r, F_is3m, F_is4i, F_is4r, F_is4m, T_ft, F_il4, T_icge, F_il3, T_getR, X_iald, T_add, F_inc4i, F_inc4r, F_inc4m, T_goto, F_il2, J_icne, c219, ↓s219, FM F, show ¬ b = 0 by omega, show ¬ b = 1 by omega, show ¬ b = 2 by omega, TK, lt_run hn, le43, Int.le_refl, Int.lt_irrefl, Option.some.injEq, exists_eq_left', true_and, and_true, if_true, if_false, decide_eq_false_iff_not, decide_eq_true_eq, Nat.reduceAdd, Nat.reduceLeDiff, Nat.reduceLT, Int.reduceAdd, Int.reduceSub, Int.reduceMul, Int.reduceNeg, not_true_eq_false, not_false_eq_true]
    first | exact ⟨rfl, ⟨C0, Kp.refl⟩, rfl, rfl⟩ | exact ⟨⟨C0, Kp.refl⟩, rfl, rfl⟩ | exact ⟨C0, Kp.refl⟩
end SN
