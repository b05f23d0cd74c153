/-! node: the sort, one thing -/
section TH
variable {E : AEn} {h h' : AHi} {hr : AHr} {n : Nat} {Q : ARs → Prop} {t p f m w e v : Int} {b V : Int → Int} {k : Nat}
theorem w316 (F : FH hr) (hn : 775 ≤ n) (T : TpM h t b) (he : 0 ≤ e ∧ e ≤ t) (k1 : ∀ k : Nat, k < 8 → isNm b t k 0 e → (∀ j, j < k → ¬ isNm b t j 0 e) → Q (some (.int (J k)), MS h e f, hr, n)) (k2 : (∀ j, j < 8 → ¬ isNm b t j 0 e) → Q (some (.int (J (-1))), MS h e f, hr, n)) : Sp E 316 [.ref 704, .int (J 0)] (MS h e f) hr n Q := by
  simp +decide (maxSteps := 4000000) (disch := omega) only [k316_0, k316_1, k316_2, k316_3, k316_4, k316_5, k316_6, k316_7, k316_8, k316_r, k316_s, F_al0, F_il1, T_I, J_ifeq, T_ret, c317, ↓reduceIte, TK, lt_run hn, le43, Int.le_refl, Int.lt_irrefl, Option.some.injEq, exists_eq_left', true_and, and_true, if_true, if_false, decide_eq_false_iff_not, decide_eq_true_eq, Nat.reduceAdd, Nat.reduceLeDiff, Nat.reduceLT, Int.reduceAdd, Int.reduceSub, Int.reduceMul, Int.reduceNeg, not_true_eq_false, not_false_eq_true]
  refine w317 (k := 0) F hn (by decide) T he (fun g0 => ?_) (fun g0 => ?_)
  · simp +decide (maxSteps := 4000000) (disch := omega) only [k316_0, k316_1, k316_2, k316_3, k316_4, k316_5, k316_6, k316_7, k316_8, k316_r, k316_s, F_al0, F_il1, T_I, J_ifeq, T_ret, c317, ↓reduceIte, TK, lt_run hn, le43, Int.le_refl, Int.lt_irrefl, Option.some.injEq, exists_eq_left', true_and, and_true, if_true, if_false, decide_eq_false_iff_not, decide_eq_true_eq, Nat.reduceAdd, Nat.reduceLeDiff, Nat.reduceLT, Int.reduceAdd, Int.reduceSub, Int.reduceMul, Int.reduceNeg, not_true_eq_false, not_false_eq_true]
    exact k1 0 (by decide) g0 (fun j jj => by omega)
  simp +decide (maxSteps := 4000000) (disch := omega) only [k316_0, k316_1, k316_2, k316_3, k316_4, k316_5, k316_6, k316_7, k316_8, k316_r, k316_s, F_al0, F_il1, T_I, J_ifeq, T_ret, c317, ↓reduceIte, TK, lt_run hn, le43, Int.le_refl, Int.lt_irrefl, Option.some.injEq, exists_eq_left', true_and, and_true, if_true, if_false, decide_eq_false_iff_not, decide_eq_true_eq, Nat.reduceAdd, Nat.reduceLeDiff, Nat.reduceLT, Int.reduceAdd, Int.reduceSub, Int.reduceMul, Int.reduceNeg, not_true_eq_false, not_false_eq_true]
  refine w317 (k := 1) F hn (by decide) T he (fun g1 => ?_) (fun g1 => ?_)
  · simp +decide (maxSteps := 4000000) (disch := omega) only [k316_0, k316_1, k316_2, k316_3, k316_4, k316_5, k316_6, k316_7, k316_8, k316_r, k316_s, F_al0, F_il1, T_I, J_ifeq, T_ret, c317, ↓reduceIte, TK, lt_run hn, le43, Int.le_refl, Int.lt_irrefl, Option.some.injEq, exists_eq_left', true_and, and_true, if_true, if_false, decide_eq_false_iff_not, decide_eq_true_eq, Nat.reduceAdd, Nat.reduceLeDiff, Nat.reduceLT, Int.reduceAdd, Int.reduceSub, Int.reduceMul, Int.reduceNeg, not_true_eq_false, not_false_eq_true]
    exact k1 1 (by decide) g1 (fun j jj => by rw [show j = 0 by omega]; exact g0)
  simp +decide (maxSteps := 4000000) (disch := omega) only [k316_0, k316_1, k316_2, k316_3, k316_4, k316_5, k316_6, k316_7, k316_8, k316_r, k316_s, F_al0, F_il1, T_I, J_ifeq, T_ret, c317, ↓reduceIte, TK, lt_run hn, le43, Int.le_refl, Int.lt_irrefl, Option.some.injEq, exists_eq_left', true_and, and_true, if_true, if_false, decide_eq_false_iff_not, decide_eq_true_eq, Nat.reduceAdd, Nat.reduceLeDiff, Nat.reduceLT, Int.reduceAdd, Int.reduceSub, Int.reduceMul, Int.reduceNeg, not_true_eq_false, not_false_eq_true]
  refine w317 (k := 2) F hn (by decide) T he (fun g2 => ?_) (fun g2 => ?_)
  · simp +decide (maxSteps := 4000000) (disch := omega) only [k316_0, k316_1, k316_2, k316_3, k316_4, k316_5, k316_6, k316_7, k316_8, k316_r, k316_s, F_al0, F_il1, T_I, J_ifeq, T_ret, c317, ↓reduceIte, TK, lt_run hn, le43, Int.le_refl, Int.lt_irrefl, Option.some.injEq, exists_eq_left', true_and, and_true, if_true, if_false, decide_eq_false_iff_not, decide_eq_true_eq, Nat.reduceAdd, Nat.reduceLeDiff, Nat.reduceLT, Int.reduceAdd, Int.reduceSub, Int.reduceMul, Int.reduceNeg, not_true_eq_false, not_false_eq_true]
    exact k1 2 (by decide) g2 (fun j jj => by
      rcases (show j = 0 ∨ j = 1 by omega) with rfl | rfl
      · exact g0
      · exact g1)
  simp +decide (maxSteps := 4000000) (disch := omega) only [k316_0, k316_1, k316_2, k316_3, k316_4, k316_5, k316_6, k316_7, k316_8, k316_r, k316_s, F_al0, F_il1, T_I, J_ifeq, T_ret, c317, ↓reduceIte, TK, lt_run hn, le43, Int.le_refl, Int.lt_irrefl, Option.some.injEq, exists_eq_left', true_and, and_true, if_true, if_false, decide_eq_false_iff_not, decide_eq_true_eq, Nat.reduceAdd, Nat.reduceLeDiff, Nat.reduceLT, Int.reduceAdd, Int.reduceSub, Int.reduceMul, Int.reduceNeg, not_true_eq_false, not_false_eq_true]
  refine w317 (k := 3) F hn (by decide) T he (fun g3 => ?_) (fun g3 => ?_)
  · simp +decide (maxSteps := 4000000) (disch := omega) only [k316_0, k316_1, k316_2, k316_3, k316_4, k316_5, k316_6, k316_7, k316_8, k316_r, k316_s, F_al0, F_il1, T_I, J_ifeq, T_ret, c317, ↓reduceIte, TK, lt_run hn, le43, Int.le_refl, Int.lt_irrefl, Option.some.injEq, exists_eq_left', true_and, and_true, if_true, if_false, decide_eq_false_iff_not, decide_eq_true_eq, Nat.reduceAdd, Nat.reduceLeDiff, Nat.reduceLT, Int.reduceAdd, Int.reduceSub, Int.reduceMul, Int.reduceNeg, not_true_eq_false, not_false_eq_true]
    exact k1 3 (by decide) g3 (fun j jj => by
      rcases (show j = 0 ∨ j = 1 ∨ j = 2 by omega) with rfl | rfl | rfl
      · exact g0
      · exact g1
      · exact g2)
  simp +decide (maxSteps := 4000000) (disch := omega) only [k316_0, k316_1, k316_2, k316_3, k316_4, k316_5, k316_6, k316_7, k316_8, k316_r, k316_s, F_al0, F_il1, T_I, J_ifeq, T_ret, c317, ↓reduceIte, TK, lt_run hn, le43, Int.le_refl, Int.lt_irrefl, Option.some.injEq, exists_eq_left', true_and, and_true, if_true, if_false, decide_eq_false_iff_not, decide_eq_true_eq, Nat.reduceAdd, Nat.reduceLeDiff, Nat.reduceLT, Int.reduceAdd, Int.reduceSub, Int.reduceMul, Int.reduceNeg, not_true_eq_false, not_false_eq_true]
  refine w317 (k := 4) F hn (by decide) T he (fun g4 => ?_) (fun g4 => ?_)
  · simp +decide (maxSteps := 4000000) (disch := omega) only [k316_0, k316_1, k316_2, k316_3, k316_4, k316_5, k316_6, k316_7, k316_8, k316_r, k316_s, F_al0, F_il1, T_I, J_ifeq, T_ret, c317, ↓reduceIte, TK, lt_run hn, le43, Int.le_refl, Int.lt_irrefl, Option.some.injEq, exists_eq_left', true_and, and_true, if_true, if_false, decide_eq_false_iff_not, decide_eq_true_eq, Nat.reduceAdd, Nat.reduceLeDiff, Nat.reduceLT, Int.reduceAdd, Int.reduceSub, Int.reduceMul, Int.reduceNeg, not_true_eq_false, not_false_eq_true]
    exact k1 4 (by decide) g4 (fun j jj => by
      rcases (show j = 0 ∨ j = 1 ∨ j = 2 ∨ j = 3 by omega) with rfl | rfl | rfl | rfl
      · exact g0
      · exact g1
      · exact g2
      · exact g3)
  simp +decide (maxSteps := 4000000) (disch := omega) only [k316_0, k316_1, k316_2, k316_3, k316_4, k316_5, k316_6, k316_7, k316_8, k316_r, k316_s, F_al0, F_il1, T_I, J_ifeq, T_ret, c317, ↓reduceIte, TK, lt_run hn, le43, Int.le_refl, Int.lt_irrefl, Option.some.injEq, exists_eq_left', true_and, and_true, if_true, if_false, decide_eq_false_iff_not, decide_eq_true_eq, Nat.reduceAdd, Nat.reduceLeDiff, Nat.reduceLT, Int.reduceAdd, Int.reduceSub, Int.reduceMul, Int.reduceNeg, not_true_eq_false, not_false_eq_true]
  refine w317 (k := 5) F hn (by decide) T he (fun g5 => ?_) (fun g5 => ?_)
  · simp +decide (maxSteps := 4000000) (disch := omega) only [k316_0, k316_1, k316_2, k316_3, k316_4, k316_5, k316_6, k316_7, k316_8, k316_r, k316_s, F_al0, F_il1, T_I, J_ifeq, T_ret, c317, ↓reduceIte, TK, lt_run hn, le43, Int.le_refl, Int.lt_irrefl, Option.some.injEq, exists_eq_left', true_and, and_true, if_true, if_false, decide_eq_false_iff_not, decide_eq_true_eq, Nat.reduceAdd, Nat.reduceLeDiff, Nat.reduceLT, Int.reduceAdd, Int.reduceSub, Int.reduceMul, Int.reduceNeg, not_true_eq_false, not_false_eq_true]
    exact k1 5 (by decide) g5 (fun j jj => by
      rcases (show j = 0 ∨ j = 1 ∨ j = 2 ∨ j = 3 ∨ j = 4 by omega) with rfl | rfl | rfl | rfl | rfl
      · exact g0
      · exact g1
      · exact g2
      · exact g3
      · exact g4)
  simp +decide (maxSteps := 4000000) (disch := omega) only [k316_0, k316_1, k316_2, k316_3, k316_4, k316_5, k316_6, k316_7, k316_8, k316_r, k316_s, F_al0, F_il1, T_I, J_ifeq, T_ret, c317, ↓reduceIte, TK, lt_run hn, le43, Int.le_refl, Int.lt_irrefl, Option.some.injEq, exists_eq_left', true_and, and_true, if_true, if_false, decide_eq_false_iff_not, decide_eq_true_eq, Nat.reduceAdd, Nat.reduceLeDiff, Nat.reduceLT, Int.reduceAdd, Int.reduceSub, Int.reduceMul, Int.reduceNeg, not_true_eq_false, not_false_eq_true]
  refine w317 (k := 6) F hn (by decide) T he (fun g6 => ?_) (fun g6 => ?_)
  · simp +decide (maxSteps := 4000000) (disch := omega) only [k316_0, k316_1, k316_2, k316_3, k316_4, k316_5, k316_6, k316_7, k316_8, k316_r, k316_s, F_al0, F_il1, T_I, J_ifeq, T_ret, c317, ↓reduceIte, TK, lt_run hn, le43, Int.le_refl, Int.lt_irrefl, Option.some.injEq, exists_eq_left', true_and, and_true, if_true, if_false, decide_eq_false_iff_not, decide_eq_true_eq, Nat.reduceAdd, Nat.reduceLeDiff, Nat.reduceLT, Int.reduceAdd, Int.reduceSub, Int.reduceMul, Int.reduceNeg, not_true_eq_false, not_false_eq_true]
    exact k1 6 (by decide) g6 (fun j jj => by
      rcases (show j = 0 ∨ j = 1 ∨ j = 2 ∨ j = 3 ∨ j = 4 ∨ j = 5 by omega) with rfl | rfl | rfl | rfl | rfl | rfl
      · exact g0
      · exact g1
      · exact g2
      · exact g3
      · exact g4
      · exact g5)
  simp +decide (maxSteps := 4000000) (disch := omega) only [k316_0, k316_1, k316_2, k316_3, k316_4, k316_5, k316_6, k316_7, k316_8, k316_r, k316_s, F_al0, F_il1, T_I, J_ifeq, T_ret, c317, ↓reduceIte, TK, lt_run hn, le43, Int.le_refl, Int.lt_irrefl, Option.some.injEq, exists_eq_left', true_and, and_true, if_true, if_false, decide_eq_false_iff_not, decide_eq_true_eq, Nat.reduceAdd, Nat.reduceLeDiff, Nat.reduceLT, Int.reduceAdd, Int.reduceSub, Int.reduceMul, Int.reduceNeg, not_true_eq_false, not_false_eq_true]
  refine w317 (k := 7) F hn (by decide) T he (fun g7 => ?_) (fun g7 => ?_)
  · simp +decide (maxSteps := 4000000) (disch := omega) only [k316_0, k316_1, k316_2, k316_3, k316_4, k316_5, k316_6, k316_7, k316_8, k316_r, k316_s, F_al0, F_il1, T_I, J_ifeq, T_ret, c317, ↓reduceIte, TK, lt_run hn, le43, Int.le_refl, Int.lt_irrefl, Option.some.injEq, exists_eq_left', true_and, and_true, if_true, if_false, decide_eq_false_iff_not, decide_eq_true_eq, Nat.reduceAdd, Nat.reduceLeDiff, Nat.reduceLT, Int.reduceAdd, Int.reduceSub, Int.reduceMul, Int.reduceNeg, not_true_eq_false, not_false_eq_true]
    exact k1 7 (by decide) g7 (fun j jj => by
      rcases (show j = 0 ∨ j = 1 ∨ j = 2 ∨ j = 3 ∨ j = 4 ∨ j = 5 ∨ j = 6 by omega) with rfl | rfl | rfl | rfl | rfl | rfl | rfl
      · exact g0
      · exact g1
      · exact g2
      · exact g3
      · exact g4
      · exact g5
      · exact g6)
  simp +decide (maxSteps := 4000000) (disch := omega) only [k316_0, k316_1, k316_2, k316_3, k316_4, k316_5, k316_6, k316_7, k316_8, k316_r, k316_s, F_al0, F_il1, T_I, J_ifeq, T_ret, c317, ↓reduceIte, TK, lt_run hn, le43, Int.le_refl, Int.lt_irrefl, Option.some.injEq, exists_eq_left', true_and, and_true, if_true, if_false, decide_eq_false_iff_not, decide_eq_true_eq, Nat.reduceAdd, Nat.reduceLeDiff, Nat.reduceLT, Int.reduceAdd, Int.reduceSub, Int.reduceMul, Int.reduceNeg, not_true_eq_false, not_false_eq_true]
  exact k2 (fun j jj => by
    rcases (show j = 0 ∨ j = 1 ∨ j = 2 ∨ j = 3 ∨ j = 4 ∨ j = 5 ∨ j = 6 ∨ j = 7 by omega) with rfl | rfl | rfl | rfl | rfl | rfl | rfl | rfl
    · exact g0
    · exact g1
    · exact g2
    · exact g3
    · exact g4
    · exact g5
    · exact g6
    · exact g7)
/-- is the number of a thing an int; from where; to where: by its letter, how many nodes stand, and the thing ahead -/
def thS (c : Int) : Bool := decide (c = 115 ∨ c = 104)
def thL (c v : Int) : Int := if c = 115 then -60 else if c = 103 then v + 1 else if c = 104 then -99999 else if c = 107 then 1 else 0
def thH (c m : Int) : Int := if c = 110 then m - 1 else if c = 108 then 3 else if c = 115 then 60 else if c = 102 then 119 else if c = 103 then 119 else if c = 104 then 99999 else if c = 120 then 47 else if c = 121 then 31 else if c = 107 then 20 else 16777215
def thC (b : Int → Int) (t c m v p f : Int) : Int × Int × Int := if thS c = true then intC b t (thL c v) (thH c m) p f else numC b t (thL c v) (thH c m) p f
theorem w92 (F : FH hr) (hn : 775 ≤ n) (T : TpC h t b) {c : Int} (hc : c = 99 ∨ c = 102 ∨ c = 103 ∨ c = 104 ∨ c = 107 ∨ c = 108 ∨ c = 110 ∨ c = 115 ∨ c = 120 ∨ c = 121) (hm : h 113 2 = J m) (hm1 : 0 ≤ m ∧ m ≤ 10) (hv : -1000000000 < v ∧ v < 1000000000) (hp : 0 ≤ p ∧ p ≤ 1700) (hf : f = -1 ∨ 0 ≤ f ∧ f ≤ 1700) : Sp E 92 [.ref 113, .ref 44, .int (J c), .int (J v)] (RS h p f) hr n Q ↔ Q (some (.int (J (thC b t c m v p f).1)), RS h (thC b t c m v p f).2.1 (thC b t c m v p f).2.2, hr, n) := by
  have z1 : RS h p f 113 2 = J m := by rw [RS_o (by decide)]; exact hm
  rcases hc with rfl | rfl | rfl | rfl | rfl | rfl | rfl | rfl | rfl | rfl
  · have sw : a_sw 102 10 [4, 5, 6, 10, 10, 9, 2, 10, 1, 10, 10, 10, 10, 3, 10, 10, 10, 10, 7, 8] (J 99) = 10 := rfl
    simp +decide (maxSteps := 4000000) (disch := omega) only [k92_0, k92_1, k92_2, k92_3, k92_4, k92_5, k92_6, k92_7, k92_8, k92_9, k92_10, k92_r, k92_s, F_il2, T_sw, F_al1, T_I, F_al0, T_getI, T_sub, T_ret, F_il3, T_add, c14, c27, ↓s27, FX F, sw, ↓s14 F hn T, kd_44, ↓reduceIte, TK, lt_run hn, le43, Int.le_refl, Int.lt_irrefl, Option.some.injEq, exists_eq_left', true_and, and_true, if_true, if_false, decide_eq_false_iff_not, decide_eq_true_eq, Nat.reduceAdd, Nat.reduceLeDiff, Nat.reduceLT, Int.reduceAdd, Int.reduceSub, Int.reduceMul, Int.reduceNeg, not_true_eq_false, not_false_eq_true]
    exact Iff.rfl
  · have sw : a_sw 102 10 [4, 5, 6, 10, 10, 9, 2, 10, 1, 10, 10, 10, 10, 3, 10, 10, 10, 10, 7, 8] (J 102) = 4 := rfl
    simp +decide (maxSteps := 4000000) (disch := omega) only [k92_0, k92_1, k92_2, k92_3, k92_4, k92_5, k92_6, k92_7, k92_8, k92_9, k92_10, k92_r, k92_s, F_il2, T_sw, F_al1, T_I, F_al0, T_getI, T_sub, T_ret, F_il3, T_add, c14, c27, ↓s27, FX F, sw, ↓s14 F hn T, kd_44, ↓reduceIte, TK, lt_run hn, le43, Int.le_refl, Int.lt_irrefl, Option.some.injEq, exists_eq_left', true_and, and_true, if_true, if_false, decide_eq_false_iff_not, decide_eq_true_eq, Nat.reduceAdd, Nat.reduceLeDiff, Nat.reduceLT, Int.reduceAdd, Int.reduceSub, Int.reduceMul, Int.reduceNeg, not_true_eq_false, not_false_eq_true]
    exact Iff.rfl
  · have sw : a_sw 102 10 [4, 5, 6, 10, 10, 9, 2, 10, 1, 10, 10, 10, 10, 3, 10, 10, 10, 10, 7, 8] (J 103) = 5 := rfl
    simp +decide (maxSteps := 4000000) (disch := omega) only [k92_0, k92_1, k92_2, k92_3, k92_4, k92_5, k92_6, k92_7, k92_8, k92_9, k92_10, k92_r, k92_s, F_il2, T_sw, F_al1, T_I, F_al0, T_getI, T_sub, T_ret, F_il3, T_add, c14, c27, ↓s27, FX F, sw, ↓s14 F hn T, kd_44, ↓reduceIte, TK, lt_run hn, le43, Int.le_refl, Int.lt_irrefl, Option.some.injEq, exists_eq_left', true_and, and_true, if_true, if_false, decide_eq_false_iff_not, decide_eq_true_eq, Nat.reduceAdd, Nat.reduceLeDiff, Nat.reduceLT, Int.reduceAdd, Int.reduceSub, Int.reduceMul, Int.reduceNeg, not_true_eq_false, not_false_eq_true]
    exact Iff.rfl
  · have sw : a_sw 102 10 [4, 5, 6, 10, 10, 9, 2, 10, 1, 10, 10, 10, 10, 3, 10, 10, 10, 10, 7, 8] (J 104) = 6 := rfl
    simp +decide (maxSteps := 4000000) (disch := omega) only [k92_0, k92_1, k92_2, k92_3, k92_4, k92_5, k92_6, k92_7, k92_8, k92_9, k92_10, k92_r, k92_s, F_il2, T_sw, F_al1, T_I, F_al0, T_getI, T_sub, T_ret, F_il3, T_add, c14, c27, ↓s14, FX F, sw, ↓s27 F hn T, kd_44, ↓reduceIte, TK, lt_run hn, le43, Int.le_refl, Int.lt_irrefl, Option.some.injEq, exists_eq_left', true_and, and_true, if_true, if_false, decide_eq_false_iff_not, decide_eq_true_eq, Nat.reduceAdd, Nat.reduceLeDiff, Nat.reduceLT, Int.reduceAdd, Int.reduceSub, Int.reduceMul, Int.reduceNeg, not_true_eq_false, not_false_eq_true]
    exact Iff.rfl
  · have sw : a_sw 102 10 [4, 5, 6, 10, 10, 9, 2, 10, 1, 10, 10, 10, 10, 3, 10, 10, 10, 10, 7, 8] (J 107) = 9 := rfl
    simp +decide (maxSteps := 4000000) (disch := omega) only [k92_0, k92_1, k92_2, k92_3, k92_4, k92_5, k92_6, k92_7, k92_8, k92_9, k92_10, k92_r, k92_s, F_il2, T_sw, F_al1, T_I, F_al0, T_getI, T_sub, T_ret, F_il3, T_add, c14, c27, ↓s27, FX F, sw, ↓s14 F hn T, kd_44, ↓reduceIte, TK, lt_run hn, le43, Int.le_refl, Int.lt_irrefl, Option.some.injEq, exists_eq_left', true_and, and_true, if_true, if_false, decide_eq_false_iff_not, decide_eq_true_eq, Nat.reduceAdd, Nat.reduceLeDiff, Nat.reduceLT, Int.reduceAdd, Int.reduceSub, Int.reduceMul, Int.reduceNeg, not_true_eq_false, not_false_eq_true]
    exact Iff.rfl
  · have sw : a_sw 102 10 [4, 5, 6, 10, 10, 9, 2, 10, 1, 10, 10, 10, 10, 3, 10, 10, 10, 10, 7, 8] (J 108) = 2 := rfl
    simp +decide (maxSteps := 4000000) (disch := omega) only [k92_0, k92_1, k92_2, k92_3, k92_4, k92_5, k92_6, k92_7, k92_8, k92_9, k92_10, k92_r, k92_s, F_il2, T_sw, F_al1, T_I, F_al0, T_getI, T_sub, T_ret, F_il3, T_add, c14, c27, ↓s27, FX F, sw, ↓s14 F hn T, kd_44, ↓reduceIte, TK, lt_run hn, le43, Int.le_refl, Int.lt_irrefl, Option.some.injEq, exists_eq_left', true_and, and_true, if_true, if_false, decide_eq_false_iff_not, decide_eq_true_eq, Nat.reduceAdd, Nat.reduceLeDiff, Nat.reduceLT, Int.reduceAdd, Int.reduceSub, Int.reduceMul, Int.reduceNeg, not_true_eq_false, not_false_eq_true]
    exact Iff.rfl
  · have sw : a_sw 102 10 [4, 5, 6, 10, 10, 9, 2, 10, 1, 10, 10, 10, 10, 3, 10, 10, 10, 10, 7, 8] (J 110) = 1 := rfl
    simp +decide (maxSteps := 4000000) (disch := omega) only [k92_0, k92_1, k92_2, k92_3, k92_4, k92_5, k92_6, k92_7, k92_8, k92_9, k92_10, k92_r, k92_s, F_il2, T_sw, F_al1, T_I, F_al0, T_getI, T_sub, T_ret, F_il3, T_add, c14, c27, ↓s27, FX F, sw, z1, ↓s14 F hn T, kd_44, kd_113, ↓reduceIte, TK, lt_run hn, le43, Int.le_refl, Int.lt_irrefl, Option.some.injEq, exists_eq_left', true_and, and_true, if_true, if_false, decide_eq_false_iff_not, decide_eq_true_eq, Nat.reduceAdd, Nat.reduceLeDiff, Nat.reduceLT, Int.reduceAdd, Int.reduceSub, Int.reduceMul, Int.reduceNeg, not_true_eq_false, not_false_eq_true]
    exact Iff.rfl
  · have sw : a_sw 102 10 [4, 5, 6, 10, 10, 9, 2, 10, 1, 10, 10, 10, 10, 3, 10, 10, 10, 10, 7, 8] (J 115) = 3 := rfl
    simp +decide (maxSteps := 4000000) (disch := omega) only [k92_0, k92_1, k92_2, k92_3, k92_4, k92_5, k92_6, k92_7, k92_8, k92_9, k92_10, k92_r, k92_s, F_il2, T_sw, F_al1, T_I, F_al0, T_getI, T_sub, T_ret, F_il3, T_add, c14, c27, ↓s14, FX F, sw, ↓s27 F hn T, kd_44, ↓reduceIte, TK, lt_run hn, le43, Int.le_refl, Int.lt_irrefl, Option.some.injEq, exists_eq_left', true_and, and_true, if_true, if_false, decide_eq_false_iff_not, decide_eq_true_eq, Nat.reduceAdd, Nat.reduceLeDiff, Nat.reduceLT, Int.reduceAdd, Int.reduceSub, Int.reduceMul, Int.reduceNeg, not_true_eq_false, not_false_eq_true]
    exact Iff.rfl
  · have sw : a_sw 102 10 [4, 5, 6, 10, 10, 9, 2, 10, 1, 10, 10, 10, 10, 3, 10, 10, 10, 10, 7, 8] (J 120) = 7 := rfl
    simp +decide (maxSteps := 4000000) (disch := omega) only [k92_0, k92_1, k92_2, k92_3, k92_4, k92_5, k92_6, k92_7, k92_8, k92_9, k92_10, k92_r, k92_s, F_il2, T_sw, F_al1, T_I, F_al0, T_getI, T_sub, T_ret, F_il3, T_add, c14, c27, ↓s27, FX F, sw, ↓s14 F hn T, kd_44, ↓reduceIte, TK, lt_run hn, le43, Int.le_refl, Int.lt_irrefl, Option.some.injEq, exists_eq_left', true_and, and_true, if_true, if_false, decide_eq_false_iff_not, decide_eq_true_eq, Nat.reduceAdd, Nat.reduceLeDiff, Nat.reduceLT, Int.reduceAdd, Int.reduceSub, Int.reduceMul, Int.reduceNeg, not_true_eq_false, not_false_eq_true]
    exact Iff.rfl
  · have sw : a_sw 102 10 [4, 5, 6, 10, 10, 9, 2, 10, 1, 10, 10, 10, 10, 3, 10, 10, 10, 10, 7, 8] (J 121) = 8 := rfl
    simp +decide (maxSteps := 4000000) (disch := omega) only [k92_0, k92_1, k92_2, k92_3, k92_4, k92_5, k92_6, k92_7, k92_8, k92_9, k92_10, k92_r, k92_s, F_il2, T_sw, F_al1, T_I, F_al0, T_getI, T_sub, T_ret, F_il3, T_add, c14, c27, ↓s27, FX F, sw, ↓s14 F hn T, kd_44, ↓reduceIte, TK, lt_run hn, le43, Int.le_refl, Int.lt_irrefl, Option.some.injEq, exists_eq_left', true_and, and_true, if_true, if_false, decide_eq_false_iff_not, decide_eq_true_eq, Nat.reduceAdd, Nat.reduceLeDiff, Nat.reduceLT, Int.reduceAdd, Int.reduceSub, Int.reduceMul, Int.reduceNeg, not_true_eq_false, not_false_eq_true]
    exact Iff.rfl
end TH
