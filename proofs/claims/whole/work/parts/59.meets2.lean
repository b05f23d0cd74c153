/-! meets: the reference's side, the call -/
section MU
variable {E : AEn} {h h' : AHi} {hr : AHr} {n : Nat} {Q : ARs → Prop} {s o : Stk}
theorem w246 (F : FH hr) (hn : 775 ≤ n) (R : SR s) (R' : SR o) {m m' : Int} (hm : 0 ≤ m ∧ m < 128) (hm' : 0 ≤ m' ∧ m' < 128) (C : SM h m s) (C' : SM h m' o) {i j : Int} (hi : 0 ≤ i ∧ i < s.2.1 - 1) (hj : 0 ≤ j ∧ j < o.2.1 - 1)
    (k : Q (some (.int (Bz (mtB (s.2.2.1 i) (s.2.2.2 i) (s.2.2.1 (i + 1)) (s.2.2.2 (i + 1)) (o.2.2.1 j) (o.2.2.2 j) (o.2.2.1 (j + 1)) (o.2.2.2 (j + 1))))), h, hr, n)) : Sp E 246 [.ref 704, .int (J (10 * m + i)), .int (J (10 * m' + j))] h hr n Q := by
  have r2 := R.2.1
  have r3 := R'.2.1
  have c1 := C.2 i hi.1 (by omega)
  have c2 := C.2 (i + 1) (by omega) (by omega)
  have c3 := C'.2 j hj.1 (by omega)
  have c4 := C'.2 (j + 1) (by omega) (by omega)
  have b1 := R.2.2 i
  have b2 := R.2.2 (i + 1)
  have b3 := R'.2.2 j
  have b4 := R'.2.2 (j + 1)
  rw [← Int.add_assoc] at c2 c4
  rw [mt_iff] at k
  generalize s.2.2.1 i = ax at *
  generalize s.2.2.2 i = ay at *
  generalize s.2.2.1 (i + 1) = bx at *
  generalize s.2.2.2 (i + 1) = bY at *
  generalize o.2.2.1 j = cx at *
  generalize o.2.2.2 j = cy at *
  generalize o.2.2.1 (j + 1) = dx at *
  generalize o.2.2.2 (j + 1) = dy at *
  have g1 := sgn_r (sid ax ay bx bY cx cy)
  have g2 := sgn_r (sid ax ay bx bY dx dy)
  have g3 := sgn_r (sid cx cy dx dy ax ay)
  have g4 := sgn_r (sid cx cy dx dy bx bY)
  have m1 := mulb g1 g2
  have m2 := mulb g3 g4
  have e1 := sgn_m (sid ax ay bx bY cx cy) (sid ax ay bx bY dx dy)
  have e2 := sgn_m (sid cx cy dx dy ax ay) (sid cx cy dx dy bx bY)
  have z1 := sgn_0 (sid ax ay bx bY cx cy)
  have z2 := sgn_0 (sid ax ay bx bY dx dy)
  have z3 := sgn_0 (sid cx cy dx dy ax ay)
  have z4 := sgn_0 (sid cx cy dx dy bx bY)
  simp +decide (maxSteps := 4000000) (disch := omega) only [k246_0, k246_3, k246_4, k246_5, k246_6, k246_7, k246_8, k246_9, k246_10, k246_r, k246_s, F_al0, T_getR, F_il1, X_iald, F_is3i, F_is3r, F_is3m, F_is4i, F_is4r, F_is4m, T_I, T_add, F_is5i, F_is5r, F_is5m, F_is6i, F_is6r, F_is6m, F_il2, F_is7i, F_is7r, F_is7m, F_is8i, F_is8r, F_is8m, F_is9i, F_is9r, F_is9m, F_is10i, F_is10r, F_is10m, F_il3, F_il4, F_il5, F_il6, F_il7, F_il8, F_is11i, F_is11r, F_is11m, F_il9, F_il10, F_is12i, F_is12r, F_is12m, F_is13i, F_is13r, F_is13m, F_is14i, F_is14r, F_is14m, F_il11, F_il12, T_mul, J_ifge, F_il13, F_il14, T_goto, T_ft, F_is15i, F_is15r, F_is15m, J_ifne, J_ifeq, F_is16i, F_is16r, F_is16m, F_il15, F_il16, T_ret, c247, c248, FM F, ln_711, ln_712, c1, c2, c3, c4, ↓s247 hn, TK, lt_run hn, le43, Int.le_refl, Int.lt_irrefl, Option.some.injEq, exists_eq_left', true_and, and_true, if_true, if_false, decide_eq_false_iff_not, decide_eq_true_eq, Nat.reduceAdd, Nat.reduceLeDiff, Nat.reduceLT, Int.reduceAdd, Int.reduceSub, Int.reduceMul, Int.reduceNeg, not_true_eq_false, not_false_eq_true]
  have k' : ∀ cr en : Bool, cr = (decide (sid ax ay bx bY cx cy * sid ax ay bx bY dx dy < 0) && decide (sid cx cy dx dy ax ay * sid cx cy dx dy bx bY < 0)) → en = ((decide (sid ax ay bx bY cx cy = 0) && (bwB ax bx cx && bwB ay bY cy)) || (decide (sid ax ay bx bY dx dy = 0) && (bwB ax bx dx && bwB ay bY dy))) → Q (some (.int (Bz (cr || en || (decide (sid cx cy dx dy ax ay = 0) && (bwB cx dx ax && bwB cy dy ay)) || (decide (sid cx cy dx dy bx bY = 0) && (bwB cx dx bx && bwB cy dy bY))))), h, hr, n) := fun cr en h1 h2 => by rw [h1, h2]; exact k
  have d1 : decide (sgn (sid ax ay bx bY cx cy) = 0) = decide (sid ax ay bx bY cx cy = 0) := by rw [decide_eq_decide]; exact z1
  have d2 : decide (sgn (sid ax ay bx bY dx dy) = 0) = decide (sid ax ay bx bY dx dy = 0) := by rw [decide_eq_decide]; exact z2
  have d3 : decide (sgn (sid cx cy dx dy ax ay) = 0) = decide (sid cx cy dx dy ax ay = 0) := by rw [decide_eq_decide]; exact z3
  have d4 : decide (sgn (sid cx cy dx dy bx bY) = 0) = decide (sid cx cy dx dy bx bY = 0) := by rw [decide_eq_decide]; exact z4
  have d5 : decide (sgn (sid ax ay bx bY cx cy) * sgn (sid ax ay bx bY dx dy) < 0) = decide (sid ax ay bx bY cx cy * sid ax ay bx bY dx dy < 0) := by rw [decide_eq_decide]; exact e1
  have d6 : decide (sgn (sid cx cy dx dy ax ay) * sgn (sid cx cy dx dy bx bY) < 0) = decide (sid cx cy dx dy ax ay * sid cx cy dx dy bx bY < 0) := by rw [decide_eq_decide]; exact e2
  rw [← d1, ← d2, ← d3, ← d4, ← d5, ← d6] at k'
  clear k d1 d2 d3 d4 d5 d6 e1 e2 z1 z2 z3 z4
  generalize sgn (sid ax ay bx bY cx cy) = u1 at *
  generalize sgn (sid ax ay bx bY dx dy) = u2 at *
  generalize sgn (sid cx cy dx dy ax ay) = u3 at *
  generalize sgn (sid cx cy dx dy bx bY) = u4 at *
  have f6 : ∀ cr en : Bool, cr = (decide (u1 * u2 < 0) && decide (u3 * u4 < 0)) → en = ((decide (u1 = 0) && (bwB ax bx cx && bwB ay bY cy)) || (decide (u2 = 0) && (bwB ax bx dx && bwB ay bY dy))) → Tm E 246 (a_bl 246 6) [.ref 704, .int (J (10 * m + i)), .int (J (10 * m' + j)), .int (J ax), .int (J ay), .int (J bx), .int (J bY), .int (J cx), .int (J cy), .int (J dx), .int (J dy), .int (J u1), .int (J u2), .int (J u3), .int (J u4), .int (Bz cr), a_mk] [.int (Bz en)] h hr n Q := fun cr en h1 h2 => by
    have kk := k' cr en h1 h2
    rw [k246_6]
    cases cr with
    | true =>
      simp +decide (maxSteps := 4000000) (disch := omega) only [k246_0, k246_1, k246_2, k246_3, k246_4, k246_5, k246_6, k246_7, k246_8, k246_9, k246_10, k246_r, k246_s, F_al0, T_getR, F_il1, X_iald, F_is3i, F_is3r, F_is3m, F_is4i, F_is4r, F_is4m, T_I, T_add, F_is5i, F_is5r, F_is5m, F_is6i, F_is6r, F_is6m, F_il2, F_is7i, F_is7r, F_is7m, F_is8i, F_is8r, F_is8m, F_is9i, F_is9r, F_is9m, F_is10i, F_is10r, F_is10m, F_il3, F_il4, F_il5, F_il6, F_il7, F_il8, F_is11i, F_is11r, F_is11m, F_il9, F_il10, F_is12i, F_is12r, F_is12m, F_is13i, F_is13r, F_is13m, F_is14i, F_is14r, F_is14m, F_il11, F_il12, T_mul, J_ifge, F_il13, F_il14, T_goto, T_ft, F_is15i, F_is15r, F_is15m, J_ifne, J_ifeq, F_is16i, F_is16r, F_is16m, F_il15, F_il16, T_ret, c247, c248, ↓s247, Bz_t, TK, lt_run hn, le43, Int.le_refl, Int.lt_irrefl, Option.some.injEq, exists_eq_left', true_and, and_true, if_true, if_false, decide_eq_false_iff_not, decide_eq_true_eq, Nat.reduceAdd, Nat.reduceLeDiff, Nat.reduceLT, Int.reduceAdd, Int.reduceSub, Int.reduceMul, Int.reduceNeg, not_true_eq_false, not_false_eq_true]
      exact kk
    | false =>
      cases en with
      | true =>
        simp +decide (maxSteps := 4000000) (disch := omega) only [k246_0, k246_1, k246_2, k246_3, k246_4, k246_5, k246_6, k246_7, k246_8, k246_9, k246_10, k246_r, k246_s, F_al0, T_getR, F_il1, X_iald, F_is3i, F_is3r, F_is3m, F_is4i, F_is4r, F_is4m, T_I, T_add, F_is5i, F_is5r, F_is5m, F_is6i, F_is6r, F_is6m, F_il2, F_is7i, F_is7r, F_is7m, F_is8i, F_is8r, F_is8m, F_is9i, F_is9r, F_is9m, F_is10i, F_is10r, F_is10m, F_il3, F_il4, F_il5, F_il6, F_il7, F_il8, F_is11i, F_is11r, F_is11m, F_il9, F_il10, F_is12i, F_is12r, F_is12m, F_is13i, F_is13r, F_is13m, F_is14i, F_is14r, F_is14m, F_il11, F_il12, T_mul, J_ifge, F_il13, F_il14, T_goto, T_ft, F_is15i, F_is15r, F_is15m, J_ifne, J_ifeq, F_is16i, F_is16r, F_is16m, F_il15, F_il16, T_ret, c247, c248, ↓s247, Bz_f, Bz_t, TK, lt_run hn, le43, Int.le_refl, Int.lt_irrefl, Option.some.injEq, exists_eq_left', true_and, and_true, if_true, if_false, decide_eq_false_iff_not, decide_eq_true_eq, Nat.reduceAdd, Nat.reduceLeDiff, Nat.reduceLT, Int.reduceAdd, Int.reduceSub, Int.reduceMul, Int.reduceNeg, not_true_eq_false, not_false_eq_true]
        exact kk
      | false =>
        have f7 : (decide (u3 = 0) && (bwB cx dx ax && bwB cy dy ay)) = false → Tm E 246 (a_bl 246 7) [.ref 704, .int (J (10 * m + i)), .int (J (10 * m' + j)), .int (J ax), .int (J ay), .int (J bx), .int (J bY), .int (J cx), .int (J cy), .int (J dx), .int (J dy), .int (J u1), .int (J u2), .int (J u3), .int (J u4), .int (J 0), .int (J 0)] [] h hr n Q := fun h3 => by
          rw [h3] at kk
          rw [k246_7]
          by_cases q : u4 = 0
          · cases hb : (bwB cx dx bx && bwB cy dy bY) with
            | true =>
              rw [hb, decide_eq_true q] at kk
              simp +decide (maxSteps := 4000000) (disch := omega) only [k246_0, k246_1, k246_2, k246_3, k246_4, k246_5, k246_6, k246_7, k246_8, k246_9, k246_10, k246_r, k246_s, F_al0, T_getR, F_il1, X_iald, F_is3i, F_is3r, F_is3m, F_is4i, F_is4r, F_is4m, T_I, T_add, F_is5i, F_is5r, F_is5m, F_is6i, F_is6r, F_is6m, F_il2, F_is7i, F_is7r, F_is7m, F_is8i, F_is8r, F_is8m, F_is9i, F_is9r, F_is9m, F_is10i, F_is10r, F_is10m, F_il3, F_il4, F_il5, F_il6, F_il7, F_il8, F_is11i, F_is11r, F_is11m, F_il9, F_il10, F_is12i, F_is12r, F_is12m, F_is13i, F_is13r, F_is13m, F_is14i, F_is14r, F_is14m, F_il11, F_il12, T_mul, J_ifge, F_il13, F_il14, T_goto, T_ft, F_is15i, F_is15r, F_is15m, J_ifne, J_ifeq, F_is16i, F_is16r, F_is16m, F_il15, F_il16, T_ret, c247, c248, ↓s247, q, ↓s248 hn, hb, Bz_t, TK, lt_run hn, le43, Int.le_refl, Int.lt_irrefl, Option.some.injEq, exists_eq_left', true_and, and_true, if_true, if_false, decide_eq_false_iff_not, decide_eq_true_eq, Nat.reduceAdd, Nat.reduceLeDiff, Nat.reduceLT, Int.reduceAdd, Int.reduceSub, Int.reduceMul, Int.reduceNeg, not_true_eq_false, not_false_eq_true]
              exact kk
            | false =>
              rw [hb, Bool.and_false] at kk
              simp +decide (maxSteps := 4000000) (disch := omega) only [k246_0, k246_1, k246_2, k246_3, k246_4, k246_5, k246_6, k246_7, k246_8, k246_9, k246_10, k246_r, k246_s, F_al0, T_getR, F_il1, X_iald, F_is3i, F_is3r, F_is3m, F_is4i, F_is4r, F_is4m, T_I, T_add, F_is5i, F_is5r, F_is5m, F_is6i, F_is6r, F_is6m, F_il2, F_is7i, F_is7r, F_is7m, F_is8i, F_is8r, F_is8m, F_is9i, F_is9r, F_is9m, F_is10i, F_is10r, F_is10m, F_il3, F_il4, F_il5, F_il6, F_il7, F_il8, F_is11i, F_is11r, F_is11m, F_il9, F_il10, F_is12i, F_is12r, F_is12m, F_is13i, F_is13r, F_is13m, F_is14i, F_is14r, F_is14m, F_il11, F_il12, T_mul, J_ifge, F_il13, F_il14, T_goto, T_ft, F_is15i, F_is15r, F_is15m, J_ifne, J_ifeq, F_is16i, F_is16r, F_is16m, F_il15, F_il16, T_ret, c247, c248, ↓s247, q, ↓s248 hn, hb, Bz_f, TK, lt_run hn, le43, Int.le_refl, Int.lt_irrefl, Option.some.injEq, exists_eq_left', true_and, and_true, if_true, if_false, decide_eq_false_iff_not, decide_eq_true_eq, Nat.reduceAdd, Nat.reduceLeDiff, Nat.reduceLT, Int.reduceAdd, Int.reduceSub, Int.reduceMul, Int.reduceNeg, not_true_eq_false, not_false_eq_true]
              exact kk
          · rw [decide_eq_false q] at kk
            simp +decide (maxSteps := 4000000) (disch := omega) only [k246_0, k246_1, k246_2, k246_3, k246_4, k246_5, k246_6, k246_7, k246_8, k246_9, k246_10, k246_r, k246_s, F_al0, T_getR, F_il1, X_iald, F_is3i, F_is3r, F_is3m, F_is4i, F_is4r, F_is4m, T_I, T_add, F_is5i, F_is5r, F_is5m, F_is6i, F_is6r, F_is6m, F_il2, F_is7i, F_is7r, F_is7m, F_is8i, F_is8r, F_is8m, F_is9i, F_is9r, F_is9m, F_is10i, F_is10r, F_is10m, F_il3, F_il4, F_il5, F_il6, F_il7, F_il8, F_is11i, F_is11r, F_is11m, F_il9, F_il10, F_is12i, F_is12r, F_is12m, F_is13i, F_is13r, F_is13m, F_is14i, F_is14r, F_is14m, F_il11, F_il12, T_mul, J_ifge, F_il13, F_il14, T_goto, T_ft, F_is15i, F_is15r, F_is15m, J_ifne, J_ifeq, F_is16i, F_is16r, F_is16m, F_il15, F_il16, T_ret, c247, c248, ↓s247, q, TK, lt_run hn, le43, Int.le_refl, Int.lt_irrefl, Option.some.injEq, exists_eq_left', true_and, and_true, if_true, if_false, decide_eq_false_iff_not, decide_eq_true_eq, Nat.reduceAdd, Nat.reduceLeDiff, Nat.reduceLT, Int.reduceAdd, Int.reduceSub, Int.reduceMul, Int.reduceNeg, not_true_eq_false, not_false_eq_true]
            exact kk
        by_cases q : u3 = 0
        · cases hb : (bwB cx dx ax && bwB cy dy ay) with
          | true =>
            rw [hb, decide_eq_true q] at kk
            simp +decide (maxSteps := 4000000) (disch := omega) only [k246_0, k246_1, k246_2, k246_3, k246_4, k246_5, k246_6, k246_8, k246_9, k246_10, k246_r, k246_s, F_al0, T_getR, F_il1, X_iald, F_is3i, F_is3r, F_is3m, F_is4i, F_is4r, F_is4m, T_I, T_add, F_is5i, F_is5r, F_is5m, F_is6i, F_is6r, F_is6m, F_il2, F_is7i, F_is7r, F_is7m, F_is8i, F_is8r, F_is8m, F_is9i, F_is9r, F_is9m, F_is10i, F_is10r, F_is10m, F_il3, F_il4, F_il5, F_il6, F_il7, F_il8, F_is11i, F_is11r, F_is11m, F_il9, F_il10, F_is12i, F_is12r, F_is12m, F_is13i, F_is13r, F_is13m, F_is14i, F_is14r, F_is14m, F_il11, F_il12, T_mul, J_ifge, F_il13, F_il14, T_goto, T_ft, F_is15i, F_is15r, F_is15m, J_ifne, J_ifeq, F_is16i, F_is16r, F_is16m, F_il15, F_il16, T_ret, c247, c248, ↓s247, q, ↓s248 hn, hb, Bz_t, Bz_f, TK, lt_run hn, le43, Int.le_refl, Int.lt_irrefl, Option.some.injEq, exists_eq_left', true_and, and_true, if_true, if_false, decide_eq_false_iff_not, decide_eq_true_eq, Nat.reduceAdd, Nat.reduceLeDiff, Nat.reduceLT, Int.reduceAdd, Int.reduceSub, Int.reduceMul, Int.reduceNeg, not_true_eq_false, not_false_eq_true]
            exact kk
          | false =>
            simp +decide (maxSteps := 4000000) (disch := omega) only [k246_0, k246_1, k246_2, k246_3, k246_4, k246_5, k246_6, k246_8, k246_9, k246_10, k246_r, k246_s, F_al0, T_getR, F_il1, X_iald, F_is3i, F_is3r, F_is3m, F_is4i, F_is4r, F_is4m, T_I, T_add, F_is5i, F_is5r, F_is5m, F_is6i, F_is6r, F_is6m, F_il2, F_is7i, F_is7r, F_is7m, F_is8i, F_is8r, F_is8m, F_is9i, F_is9r, F_is9m, F_is10i, F_is10r, F_is10m, F_il3, F_il4, F_il5, F_il6, F_il7, F_il8, F_is11i, F_is11r, F_is11m, F_il9, F_il10, F_is12i, F_is12r, F_is12m, F_is13i, F_is13r, F_is13m, F_is14i, F_is14r, F_is14m, F_il11, F_il12, T_mul, J_ifge, F_il13, F_il14, T_goto, T_ft, F_is15i, F_is15r, F_is15m, J_ifne, J_ifeq, F_is16i, F_is16r, F_is16m, F_il15, F_il16, T_ret, c247, c248, ↓s247, q, ↓s248 hn, hb, Bz_f, TK, lt_run hn, le43, Int.le_refl, Int.lt_irrefl, Option.some.injEq, exists_eq_left', true_and, and_true, if_true, if_false, decide_eq_false_iff_not, decide_eq_true_eq, Nat.reduceAdd, Nat.reduceLeDiff, Nat.reduceLT, Int.reduceAdd, Int.reduceSub, Int.reduceMul, Int.reduceNeg, not_true_eq_false, not_false_eq_true]
            have := f7 (by rw [hb, Bool.and_false])
            rw [q] at this
            exact this
        · simp +decide (maxSteps := 4000000) (disch := omega) only [k246_0, k246_1, k246_2, k246_3, k246_4, k246_5, k246_6, k246_8, k246_9, k246_10, k246_r, k246_s, F_al0, T_getR, F_il1, X_iald, F_is3i, F_is3r, F_is3m, F_is4i, F_is4r, F_is4m, T_I, T_add, F_is5i, F_is5r, F_is5m, F_is6i, F_is6r, F_is6m, F_il2, F_is7i, F_is7r, F_is7m, F_is8i, F_is8r, F_is8m, F_is9i, F_is9r, F_is9m, F_is10i, F_is10r, F_is10m, F_il3, F_il4, F_il5, F_il6, F_il7, F_il8, F_is11i, F_is11r, F_is11m, F_il9, F_il10, F_is12i, F_is12r, F_is12m, F_is13i, F_is13r, F_is13m, F_is14i, F_is14r, F_is14m, F_il11, F_il12, T_mul, J_ifge, F_il13, F_il14, T_goto, T_ft, F_is15i, F_is15r, F_is15m, J_ifne, J_ifeq, F_is16i, F_is16r, F_is16m, F_il15, F_il16, T_ret, c247, c248, ↓s247, q, Bz_f, TK, lt_run hn, le43, Int.le_refl, Int.lt_irrefl, Option.some.injEq, exists_eq_left', true_and, and_true, if_true, if_false, decide_eq_false_iff_not, decide_eq_true_eq, Nat.reduceAdd, Nat.reduceLeDiff, Nat.reduceLT, Int.reduceAdd, Int.reduceSub, Int.reduceMul, Int.reduceNeg, not_true_eq_false, not_false_eq_true]
          exact f7 (by rw [decide_eq_false q, Bool.false_and])
  have f2 : ∀ cr : Bool, cr = (decide (u1 * u2 < 0) && decide (u3 * u4 < 0)) → Tm E 246 (a_bl 246 2) [.ref 704, .int (J (10 * m + i)), .int (J (10 * m' + j)), .int (J ax), .int (J ay), .int (J bx), .int (J bY), .int (J cx), .int (J cy), .int (J dx), .int (J dy), .int (J u1), .int (J u2), .int (J u3), .int (J u4), a_mk, a_mk] [.int (Bz cr)] h hr n Q := fun cr h1 => by
    have f3 : (decide (u1 = 0) && (bwB ax bx cx && bwB ay bY cy)) = false → Tm E 246 (a_bl 246 3) [.ref 704, .int (J (10 * m + i)), .int (J (10 * m' + j)), .int (J ax), .int (J ay), .int (J bx), .int (J bY), .int (J cx), .int (J cy), .int (J dx), .int (J dy), .int (J u1), .int (J u2), .int (J u3), .int (J u4), .int (Bz cr), a_mk] [] h hr n Q := fun h3 => by
      rw [k246_3]
      by_cases q : u2 = 0
      · cases hb : (bwB ax bx dx && bwB ay bY dy) with
        | true =>
          simp +decide (maxSteps := 4000000) (disch := omega) only [k246_0, k246_1, k246_2, k246_3, k246_4, k246_5, k246_7, k246_8, k246_9, k246_10, k246_r, k246_s, F_al0, T_getR, F_il1, X_iald, F_is3i, F_is3r, F_is3m, F_is4i, F_is4r, F_is4m, T_I, T_add, F_is5i, F_is5r, F_is5m, F_is6i, F_is6r, F_is6m, F_il2, F_is7i, F_is7r, F_is7m, F_is8i, F_is8r, F_is8m, F_is9i, F_is9r, F_is9m, F_is10i, F_is10r, F_is10m, F_il3, F_il4, F_il5, F_il6, F_il7, F_il8, F_is11i, F_is11r, F_is11m, F_il9, F_il10, F_is12i, F_is12r, F_is12m, F_is13i, F_is13r, F_is13m, F_is14i, F_is14r, F_is14m, F_il11, F_il12, T_mul, J_ifge, F_il13, F_il14, T_goto, T_ft, F_is15i, F_is15r, F_is15m, J_ifne, J_ifeq, F_is16i, F_is16r, F_is16m, F_il15, F_il16, T_ret, c247, c248, ↓s247, q, ↓s248 hn, hb, Bz_t, TK, lt_run hn, le43, Int.le_refl, Int.lt_irrefl, Option.some.injEq, exists_eq_left', true_and, and_true, if_true, if_false, decide_eq_false_iff_not, decide_eq_true_eq, Nat.reduceAdd, Nat.reduceLeDiff, Nat.reduceLT, Int.reduceAdd, Int.reduceSub, Int.reduceMul, Int.reduceNeg, not_true_eq_false, not_false_eq_true]
          have := f6 cr true h1 (by rw [h3, hb, decide_eq_true q]; rfl)
          rw [q] at this
          exact this
        | false =>
          simp +decide (maxSteps := 4000000) (disch := omega) only [k246_0, k246_1, k246_2, k246_3, k246_4, k246_5, k246_7, k246_8, k246_9, k246_10, k246_r, k246_s, F_al0, T_getR, F_il1, X_iald, F_is3i, F_is3r, F_is3m, F_is4i, F_is4r, F_is4m, T_I, T_add, F_is5i, F_is5r, F_is5m, F_is6i, F_is6r, F_is6m, F_il2, F_is7i, F_is7r, F_is7m, F_is8i, F_is8r, F_is8m, F_is9i, F_is9r, F_is9m, F_is10i, F_is10r, F_is10m, F_il3, F_il4, F_il5, F_il6, F_il7, F_il8, F_is11i, F_is11r, F_is11m, F_il9, F_il10, F_is12i, F_is12r, F_is12m, F_is13i, F_is13r, F_is13m, F_is14i, F_is14r, F_is14m, F_il11, F_il12, T_mul, J_ifge, F_il13, F_il14, T_goto, T_ft, F_is15i, F_is15r, F_is15m, J_ifne, J_ifeq, F_is16i, F_is16r, F_is16m, F_il15, F_il16, T_ret, c247, c248, ↓s247, q, ↓s248 hn, hb, Bz_f, TK, lt_run hn, le43, Int.le_refl, Int.lt_irrefl, Option.some.injEq, exists_eq_left', true_and, and_true, if_true, if_false, decide_eq_false_iff_not, decide_eq_true_eq, Nat.reduceAdd, Nat.reduceLeDiff, Nat.reduceLT, Int.reduceAdd, Int.reduceSub, Int.reduceMul, Int.reduceNeg, not_true_eq_false, not_false_eq_true]
          have := f6 cr false h1 (by rw [h3, hb, Bool.and_false]; rfl)
          rw [q] at this
          exact this
      · simp +decide (maxSteps := 4000000) (disch := omega) only [k246_0, k246_1, k246_2, k246_3, k246_4, k246_5, k246_7, k246_8, k246_9, k246_10, k246_r, k246_s, F_al0, T_getR, F_il1, X_iald, F_is3i, F_is3r, F_is3m, F_is4i, F_is4r, F_is4m, T_I, T_add, F_is5i, F_is5r, F_is5m, F_is6i, F_is6r, F_is6m, F_il2, F_is7i, F_is7r, F_is7m, F_is8i, F_is8r, F_is8m, F_is9i, F_is9r, F_is9m, F_is10i, F_is10r, F_is10m, F_il3, F_il4, F_il5, F_il6, F_il7, F_il8, F_is11i, F_is11r, F_is11m, F_il9, F_il10, F_is12i, F_is12r, F_is12m, F_is13i, F_is13r, F_is13m, F_is14i, F_is14r, F_is14m, F_il11, F_il12, T_mul, J_ifge, F_il13, F_il14, T_goto, T_ft, F_is15i, F_is15r, F_is15m, J_ifne, J_ifeq, F_is16i, F_is16r, F_is16m, F_il15, F_il16, T_ret, c247, c248, ↓s247, q, TK, lt_run hn, le43, Int.le_refl, Int.lt_irrefl, Option.some.injEq, exists_eq_left', true_and, and_true, if_true, if_false, decide_eq_false_iff_not, decide_eq_true_eq, Nat.reduceAdd, Nat.reduceLeDiff, Nat.reduceLT, Int.reduceAdd, Int.reduceSub, Int.reduceMul, Int.reduceNeg, not_true_eq_false, not_false_eq_true]
        exact f6 cr false h1 (by rw [h3, decide_eq_false q]; rfl)
    rw [k246_2]
    by_cases q : u1 = 0
    · cases hb : (bwB ax bx cx && bwB ay bY cy) with
      | true =>
        simp +decide (maxSteps := 4000000) (disch := omega) only [k246_0, k246_1, k246_2, k246_4, k246_5, k246_7, k246_8, k246_9, k246_10, k246_r, k246_s, F_al0, T_getR, F_il1, X_iald, F_is3i, F_is3r, F_is3m, F_is4i, F_is4r, F_is4m, T_I, T_add, F_is5i, F_is5r, F_is5m, F_is6i, F_is6r, F_is6m, F_il2, F_is7i, F_is7r, F_is7m, F_is8i, F_is8r, F_is8m, F_is9i, F_is9r, F_is9m, F_is10i, F_is10r, F_is10m, F_il3, F_il4, F_il5, F_il6, F_il7, F_il8, F_is11i, F_is11r, F_is11m, F_il9, F_il10, F_is12i, F_is12r, F_is12m, F_is13i, F_is13r, F_is13m, F_is14i, F_is14r, F_is14m, F_il11, F_il12, T_mul, J_ifge, F_il13, F_il14, T_goto, T_ft, F_is15i, F_is15r, F_is15m, J_ifne, J_ifeq, F_is16i, F_is16r, F_is16m, F_il15, F_il16, T_ret, c247, c248, ↓s247, q, ↓s248 hn, hb, Bz_t, TK, lt_run hn, le43, Int.le_refl, Int.lt_irrefl, Option.some.injEq, exists_eq_left', true_and, and_true, if_true, if_false, decide_eq_false_iff_not, decide_eq_true_eq, Nat.reduceAdd, Nat.reduceLeDiff, Nat.reduceLT, Int.reduceAdd, Int.reduceSub, Int.reduceMul, Int.reduceNeg, not_true_eq_false, not_false_eq_true]
        have := f6 cr true h1 (by rw [hb, decide_eq_true q]; rfl)
        rw [q] at this
        exact this
      | false =>
        simp +decide (maxSteps := 4000000) (disch := omega) only [k246_0, k246_1, k246_2, k246_4, k246_5, k246_7, k246_8, k246_9, k246_10, k246_r, k246_s, F_al0, T_getR, F_il1, X_iald, F_is3i, F_is3r, F_is3m, F_is4i, F_is4r, F_is4m, T_I, T_add, F_is5i, F_is5r, F_is5m, F_is6i, F_is6r, F_is6m, F_il2, F_is7i, F_is7r, F_is7m, F_is8i, F_is8r, F_is8m, F_is9i, F_is9r, F_is9m, F_is10i, F_is10r, F_is10m, F_il3, F_il4, F_il5, F_il6, F_il7, F_il8, F_is11i, F_is11r, F_is11m, F_il9, F_il10, F_is12i, F_is12r, F_is12m, F_is13i, F_is13r, F_is13m, F_is14i, F_is14r, F_is14m, F_il11, F_il12, T_mul, J_ifge, F_il13, F_il14, T_goto, T_ft, F_is15i, F_is15r, F_is15m, J_ifne, J_ifeq, F_is16i, F_is16r, F_is16m, F_il15, F_il16, T_ret, c247, c248, ↓s247, q, ↓s248 hn, hb, Bz_f, TK, lt_run hn, le43, Int.le_refl, Int.lt_irrefl, Option.some.injEq, exists_eq_left', true_and, and_true, if_true, if_false, decide_eq_false_iff_not, decide_eq_true_eq, Nat.reduceAdd, Nat.reduceLeDiff, Nat.reduceLT, Int.reduceAdd, Int.reduceSub, Int.reduceMul, Int.reduceNeg, not_true_eq_false, not_false_eq_true]
        have := f3 (by rw [hb, Bool.and_false])
        rw [q] at this
        exact this
    · simp +decide (maxSteps := 4000000) (disch := omega) only [k246_0, k246_1, k246_2, k246_4, k246_5, k246_7, k246_8, k246_9, k246_10, k246_r, k246_s, F_al0, T_getR, F_il1, X_iald, F_is3i, F_is3r, F_is3m, F_is4i, F_is4r, F_is4m, T_I, T_add, F_is5i, F_is5r, F_is5m, F_is6i, F_is6r, F_is6m, F_il2, F_is7i, F_is7r, F_is7m, F_is8i, F_is8r, F_is8m, F_is9i, F_is9r, F_is9m, F_is10i, F_is10r, F_is10m, F_il3, F_il4, F_il5, F_il6, F_il7, F_il8, F_is11i, F_is11r, F_is11m, F_il9, F_il10, F_is12i, F_is12r, F_is12m, F_is13i, F_is13r, F_is13m, F_is14i, F_is14r, F_is14m, F_il11, F_il12, T_mul, J_ifge, F_il13, F_il14, T_goto, T_ft, F_is15i, F_is15r, F_is15m, J_ifne, J_ifeq, F_is16i, F_is16r, F_is16m, F_il15, F_il16, T_ret, c247, c248, ↓s247, q, TK, lt_run hn, le43, Int.le_refl, Int.lt_irrefl, Option.some.injEq, exists_eq_left', true_and, and_true, if_true, if_false, decide_eq_false_iff_not, decide_eq_true_eq, Nat.reduceAdd, Nat.reduceLeDiff, Nat.reduceLT, Int.reduceAdd, Int.reduceSub, Int.reduceMul, Int.reduceNeg, not_true_eq_false, not_false_eq_true]
      exact f3 (by rw [decide_eq_false q, Bool.false_and])
  by_cases q1 : u1 * u2 < 0
  · by_cases q2 : u3 * u4 < 0
    · try simp +decide (maxSteps := 4000000) (disch := omega) only [k246_0, k246_1, k246_3, k246_4, k246_5, k246_6, k246_7, k246_8, k246_9, k246_10, k246_r, k246_s, F_al0, T_getR, F_il1, X_iald, F_is3i, F_is3r, F_is3m, F_is4i, F_is4r, F_is4m, T_I, T_add, F_is5i, F_is5r, F_is5m, F_is6i, F_is6r, F_is6m, F_il2, F_is7i, F_is7r, F_is7m, F_is8i, F_is8r, F_is8m, F_is9i, F_is9r, F_is9m, F_is10i, F_is10r, F_is10m, F_il3, F_il4, F_il5, F_il6, F_il7, F_il8, F_is11i, F_is11r, F_is11m, F_il9, F_il10, F_is12i, F_is12r, F_is12m, F_is13i, F_is13r, F_is13m, F_is14i, F_is14r, F_is14m, F_il11, F_il12, T_mul, J_ifge, F_il13, F_il14, T_goto, T_ft, F_is15i, F_is15r, F_is15m, J_ifne, J_ifeq, F_is16i, F_is16r, F_is16m, F_il15, F_il16, T_ret, c247, c248, ↓s247, show ¬ 0 ≤ u1 * u2 by omega, show ¬ 0 ≤ u3 * u4 by omega, TK, lt_run hn, le43, Int.le_refl, Int.lt_irrefl, Option.some.injEq, exists_eq_left', true_and, and_true, if_true, if_false, decide_eq_false_iff_not, decide_eq_true_eq, Nat.reduceAdd, Nat.reduceLeDiff, Nat.reduceLT, Int.reduceAdd, Int.reduceSub, Int.reduceMul, Int.reduceNeg, not_true_eq_false, not_false_eq_true]
      exact f2 true (by rw [decide_eq_true q1, decide_eq_true q2]; rfl)
    · try simp +decide (maxSteps := 4000000) (disch := omega) only [k246_0, k246_1, k246_3, k246_4, k246_5, k246_6, k246_7, k246_8, k246_9, k246_10, k246_r, k246_s, F_al0, T_getR, F_il1, X_iald, F_is3i, F_is3r, F_is3m, F_is4i, F_is4r, F_is4m, T_I, T_add, F_is5i, F_is5r, F_is5m, F_is6i, F_is6r, F_is6m, F_il2, F_is7i, F_is7r, F_is7m, F_is8i, F_is8r, F_is8m, F_is9i, F_is9r, F_is9m, F_is10i, F_is10r, F_is10m, F_il3, F_il4, F_il5, F_il6, F_il7, F_il8, F_is11i, F_is11r, F_is11m, F_il9, F_il10, F_is12i, F_is12r, F_is12m, F_is13i, F_is13r, F_is13m, F_is14i, F_is14r, F_is14m, F_il11, F_il12, T_mul, J_ifge, F_il13, F_il14, T_goto, T_ft, F_is15i, F_is15r, F_is15m, J_ifne, J_ifeq, F_is16i, F_is16r, F_is16m, F_il15, F_il16, T_ret, c247, c248, ↓s247, show ¬ 0 ≤ u1 * u2 by omega, show 0 ≤ u3 * u4 by omega, TK, lt_run hn, le43, Int.le_refl, Int.lt_irrefl, Option.some.injEq, exists_eq_left', true_and, and_true, if_true, if_false, decide_eq_false_iff_not, decide_eq_true_eq, Nat.reduceAdd, Nat.reduceLeDiff, Nat.reduceLT, Int.reduceAdd, Int.reduceSub, Int.reduceMul, Int.reduceNeg, not_true_eq_false, not_false_eq_true]
      exact f2 false (by rw [decide_eq_true q1, decide_eq_false q2]; rfl)
  · try simp +decide (maxSteps := 4000000) (disch := omega) only [k246_0, k246_1, k246_3, k246_4, k246_5, k246_6, k246_7, k246_8, k246_9, k246_10, k246_r, k246_s, F_al0, T_getR, F_il1, X_iald, F_is3i, F_is3r, F_is3m, F_is4i, F_is4r, F_is4m, T_I, T_add, F_is5i, F_is5r, F_is5m, F_is6i, F_is6r, F_is6m, F_il2, F_is7i, F_is7r, F_is7m, F_is8i, F_is8r, F_is8m, F_is9i, F_is9r, F_is9m, F_is10i, F_is10r, F_is10m, F_il3, F_il4, F_il5, F_il6, F_il7, F_il8, F_is11i, F_is11r, F_is11m, F_il9, F_il10, F_is12i, F_is12r, F_is12m, F_is13i, F_is13r, F_is13m, F_is14i, F_is14r, F_is14m, F_il11, F_il12, T_mul, J_ifge, F_il13, F_il14, T_goto, T_ft, F_is15i, F_is15r, F_is15m, J_ifne, J_ifeq, F_is16i, F_is16r, F_is16m, F_il15, F_il16, T_ret, c247, c248, ↓s247, show 0 ≤ u1 * u2 by omega, TK, lt_run hn, le43, Int.le_refl, Int.lt_irrefl, Option.some.injEq, exists_eq_left', true_and, and_true, if_true, if_false, decide_eq_false_iff_not, decide_eq_true_eq, Nat.reduceAdd, Nat.reduceLeDiff, Nat.reduceLT, Int.reduceAdd, Int.reduceSub, Int.reduceMul, Int.reduceNeg, not_true_eq_false, not_false_eq_true]
    exact f2 false (by rw [decide_eq_false q1]; rfl)
/-- one row of a count of meetings -/
def mtR (s o : Stk) (i : Int) : Int := acc (fun j => b01 (mtB (s.2.2.1 i) (s.2.2.2 i) (s.2.2.1 (i + 1)) (s.2.2.2 (i + 1)) (o.2.2.1 j) (o.2.2.2 j) (o.2.2.1 (j + 1)) (o.2.2.2 (j + 1)))) (o.2.1 - 1).toNat
theorem w122 (F : FH hr) (hn : 775 ≤ n) {a b : Nat} (A : SB a) (B : SB b) (R : SR s) (R' : SR o) (C : SC h a s) (C' : SC h b o)
    (k : Q (some (.int (J (acc (mtR s o) (s.2.1 - 1).toNat))), h, hr, n)) : Sp E 122 [.ref a, .ref b] h hr n Q := by
  have x1 := A.x E F
  have x2 := A.r
  have y1 := B.x E F
  have y2 := B.r
  have r2 := R.2.1
  have r3 := R'.2.1
  have c1 := C.1.2
  have c2 := C'.1.2
  simp +decide (maxSteps := 4000000) (disch := omega) only [k122_0, k122_3, k122_4, k122_5, k122_r, k122_s, T_I, F_is2i, F_is2r, F_is2m, F_is3i, F_is3r, F_is3m, T_ft, F_il3, F_al0, T_getI, T_sub, T_icge, F_is4i, F_is4r, F_is4m, F_il4, F_al1, J_ifeq, F_inc2i, F_inc2r, F_inc2m, F_inc4i, F_inc4r, F_inc4m, T_goto, F_inc3i, F_inc3r, F_inc3m, F_il2, T_ret, c123, TK, lt_run hn, le43, Int.le_refl, Int.lt_irrefl, Option.some.injEq, exists_eq_left', true_and, and_true, if_true, if_false, decide_eq_false_iff_not, decide_eq_true_eq, Nat.reduceAdd, Nat.reduceLeDiff, Nat.reduceLT, Int.reduceAdd, Int.reduceSub, Int.reduceMul, Int.reduceNeg, not_true_eq_false, not_false_eq_true]
  refine T_for (σ := Int × Value) (fun i v => [.ref a, .ref b, .int (J v.1), .int (J i), v.2]) (fun i v h' => h' = h ∧ v.1 = acc (mtR s o) i.toNat) 0 (s.2.1 - 1) ?_ ?_ 0 (0, a_mk) h (by omega) (by omega) ⟨rfl, rfl⟩
  · rintro i ⟨v, w⟩ h' i0 i1 ⟨rfl, hv⟩ ih
    dsimp only at hv ⊢
    rw [k122_1]
    simp +decide (maxSteps := 4000000) (disch := omega) only [k122_0, k122_3, k122_4, k122_5, k122_r, k122_s, T_I, F_is2i, F_is2r, F_is2m, F_is3i, F_is3r, F_is3m, T_ft, F_il3, F_al0, T_getI, T_sub, T_icge, F_is4i, F_is4r, F_is4m, F_il4, F_al1, J_ifeq, F_inc2i, F_inc2r, F_inc2m, F_inc4i, F_inc4r, F_inc4m, T_goto, F_inc3i, F_inc3r, F_inc3m, F_il2, T_ret, c123, x1, c1, show ¬ s.2.1 - 1 ≤ i by omega, TK, lt_run hn, le43, Int.le_refl, Int.lt_irrefl, Option.some.injEq, exists_eq_left', true_and, and_true, if_true, if_false, decide_eq_false_iff_not, decide_eq_true_eq, Nat.reduceAdd, Nat.reduceLeDiff, Nat.reduceLT, Int.reduceAdd, Int.reduceSub, Int.reduceMul, Int.reduceNeg, not_true_eq_false, not_false_eq_true]
    refine T_for (σ := Int) (fun j u => [.ref a, .ref b, .int (J u), .int (J i), .int (J j)]) (fun j u h'' => h'' = h' ∧ u = v + acc (fun j => b01 (mtB (s.2.2.1 i) (s.2.2.2 i) (s.2.2.1 (i + 1)) (s.2.2.2 (i + 1)) (o.2.2.1 j) (o.2.2.2 j) (o.2.2.1 (j + 1)) (o.2.2.2 (j + 1)))) j.toNat) 0 (o.2.1 - 1) ?_ ?_ 0 v h' (by omega) (by omega) ⟨rfl, by show v = v + 0; omega⟩
    · rintro j u h'' j0 j1 ⟨rfl, hu⟩ ih2
      have ac := acc_s (fun j => b01 (mtB (s.2.2.1 i) (s.2.2.2 i) (s.2.2.1 (i + 1)) (s.2.2.2 (i + 1)) (o.2.2.1 j) (o.2.2.2 j) (o.2.2.1 (j + 1)) (o.2.2.2 (j + 1)))) j0
      rw [k122_2]
      simp +decide (maxSteps := 4000000) (disch := omega) only [k122_0, k122_3, k122_4, k122_5, k122_r, k122_s, T_I, F_is2i, F_is2r, F_is2m, F_is3i, F_is3r, F_is3m, T_ft, F_il3, F_al0, T_getI, T_sub, T_icge, F_is4i, F_is4r, F_is4m, F_il4, F_al1, J_ifeq, F_inc2i, F_inc2r, F_inc2m, F_inc4i, F_inc4r, F_inc4m, T_goto, F_inc3i, F_inc3r, F_inc3m, F_il2, T_ret, c123, x1, y1, c2, show ¬ o.2.1 - 1 ≤ j by omega, TK, lt_run hn, le43, Int.le_refl, Int.lt_irrefl, Option.some.injEq, exists_eq_left', true_and, and_true, if_true, if_false, decide_eq_false_iff_not, decide_eq_true_eq, Nat.reduceAdd, Nat.reduceLeDiff, Nat.reduceLT, Int.reduceAdd, Int.reduceSub, Int.reduceMul, Int.reduceNeg, not_true_eq_false, not_false_eq_true]
      refine w123 F hn A B R R' C C' ⟨i0, i1⟩ ⟨j0, j1⟩ ?_
      cases hm : mtB (s.2.2.1 i) (s.2.2.2 i) (s.2.2.1 (i + 1)) (s.2.2.2 (i + 1)) (o.2.2.1 j) (o.2.2.2 j) (o.2.2.1 (j + 1)) (o.2.2.2 (j + 1)) with
      | true =>
        rw [hm] at ac
        simp +decide (maxSteps := 4000000) (disch := omega) only [k122_0, k122_3, k122_4, k122_5, k122_r, k122_s, T_I, F_is2i, F_is2r, F_is2m, F_is3i, F_is3r, F_is3m, T_ft, F_il3, F_al0, T_getI, T_sub, T_icge, F_is4i, F_is4r, F_is4m, F_il4, F_al1, J_ifeq, F_inc2i, F_inc2r, F_inc2m, F_inc4i, F_inc4r, F_inc4m, T_goto, F_inc3i, F_inc3r, F_inc3m, F_il2, T_ret, c123, Bz_t, TK, lt_run hn, le43, Int.le_refl, Int.lt_irrefl, Option.some.injEq, exists_eq_left', true_and, and_true, if_true, if_false, decide_eq_false_iff_not, decide_eq_true_eq, Nat.reduceAdd, Nat.reduceLeDiff, Nat.reduceLT, Int.reduceAdd, Int.reduceSub, Int.reduceMul, Int.reduceNeg, not_true_eq_false, not_false_eq_true]
        refine ih2 (u + 1) _ ⟨rfl, ?_⟩
        rw [ac, hu]
        show _ = _ + (_ + 1)
        omega
      | false =>
        rw [hm] at ac
        simp +decide (maxSteps := 4000000) (disch := omega) only [k122_0, k122_3, k122_4, k122_5, k122_r, k122_s, T_I, F_is2i, F_is2r, F_is2m, F_is3i, F_is3r, F_is3m, T_ft, F_il3, F_al0, T_getI, T_sub, T_icge, F_is4i, F_is4r, F_is4m, F_il4, F_al1, J_ifeq, F_inc2i, F_inc2r, F_inc2m, F_inc4i, F_inc4r, F_inc4m, T_goto, F_inc3i, F_inc3r, F_inc3m, F_il2, T_ret, c123, Bz_f, TK, lt_run hn, le43, Int.le_refl, Int.lt_irrefl, Option.some.injEq, exists_eq_left', true_and, and_true, if_true, if_false, decide_eq_false_iff_not, decide_eq_true_eq, Nat.reduceAdd, Nat.reduceLeDiff, Nat.reduceLT, Int.reduceAdd, Int.reduceSub, Int.reduceMul, Int.reduceNeg, not_true_eq_false, not_false_eq_true]
        refine ih2 u _ ⟨rfl, ?_⟩
        rw [ac, hu]
        show _ = _ + (_ + 0)
        omega
    · rintro u h'' ⟨rfl, hu⟩
      rw [k122_2]
      simp +decide (maxSteps := 4000000) (disch := omega) only [k122_0, k122_3, k122_4, k122_5, k122_r, k122_s, T_I, F_is2i, F_is2r, F_is2m, F_is3i, F_is3r, F_is3m, T_ft, F_il3, F_al0, T_getI, T_sub, T_icge, F_is4i, F_is4r, F_is4m, F_il4, F_al1, J_ifeq, F_inc2i, F_inc2r, F_inc2m, F_inc4i, F_inc4r, F_inc4m, T_goto, F_inc3i, F_inc3r, F_inc3m, F_il2, T_ret, c123, y1, c2, TK, lt_run hn, le43, Int.le_refl, Int.lt_irrefl, Option.some.injEq, exists_eq_left', true_and, and_true, if_true, if_false, decide_eq_false_iff_not, decide_eq_true_eq, Nat.reduceAdd, Nat.reduceLeDiff, Nat.reduceLT, Int.reduceAdd, Int.reduceSub, Int.reduceMul, Int.reduceNeg, not_true_eq_false, not_false_eq_true]
      refine ih (u, _) _ ⟨rfl, ?_⟩
      rw [acc_s _ i0, hu, hv]
      rfl
  · rintro ⟨v, w⟩ h' ⟨rfl, hv⟩
    dsimp only at hv ⊢
    subst hv
    rw [k122_1]
    simp +decide (maxSteps := 4000000) (disch := omega) only [k122_0, k122_3, k122_4, k122_5, k122_r, k122_s, T_I, F_is2i, F_is2r, F_is2m, F_is3i, F_is3r, F_is3m, T_ft, F_il3, F_al0, T_getI, T_sub, T_icge, F_is4i, F_is4r, F_is4m, F_il4, F_al1, J_ifeq, F_inc2i, F_inc2r, F_inc2m, F_inc4i, F_inc4r, F_inc4m, T_goto, F_inc3i, F_inc3r, F_inc3m, F_il2, T_ret, c123, x1, c1, TK, lt_run hn, le43, Int.le_refl, Int.lt_irrefl, Option.some.injEq, exists_eq_left', true_and, and_true, if_true, if_false, decide_eq_false_iff_not, decide_eq_true_eq, Nat.reduceAdd, Nat.reduceLeDiff, Nat.reduceLT, Int.reduceAdd, Int.reduceSub, Int.reduceMul, Int.reduceNeg, not_true_eq_false, not_false_eq_true]
    exact k
theorem z245 (F : FH hr) (hn : 775 ≤ n) (R : SR s) (R' : SR o) {m m' : Int} {v1 v2 v3 : Value} (hm : 0 ≤ m ∧ m < 128) (hm' : 0 ≤ m' ∧ m' < 128) (C : SM h m s) (C' : SM h m' o)
    (k : Q (some (.int (J (acc (mtR s o) (s.2.1 - 1).toNat))), h, hr, n)) : Tm E 245 (a_bl 245 3) [.ref 704, v1, v2, v3, .int (J m), .int (J m'), .int (J 0), .int (J 0), a_mk] [] h hr n Q := by
  have r2 := R.2.1
  have r3 := R'.2.1
  have c1 := C.1.2
  have c2 := C'.1.2
  refine T_for (σ := Int × Value) (fun i v => [.ref 704, v1, v2, v3, .int (J m), .int (J m'), .int (J v.1), .int (J i), v.2]) (fun i v h' => h' = h ∧ v.1 = acc (mtR s o) i.toNat) 0 (s.2.1 - 1) ?_ ?_ 0 (0, a_mk) h (by omega) (by omega) ⟨rfl, rfl⟩
  · rintro i ⟨v, w⟩ h' i0 i1 ⟨rfl, hv⟩ ih
    dsimp only at hv ⊢
    rw [k245_3]
    simp +decide (maxSteps := 4000000) (disch := omega) only [k245_0, k245_1, k245_2, k245_5, k245_6, k245_7, k245_8, k245_r, k245_s, F_al0, F_il1, F_il2, J_ifeq, F_il3, J_icne, T_ft, T_I, T_ret, T_mul, T_add, F_is4i, F_is4r, F_is4m, F_is5i, F_is5r, F_is5m, F_is6i, F_is6r, F_is6m, F_is7i, F_is7r, F_is7m, F_il7, T_getR, F_il4, X_iald, T_sub, T_icge, F_is8i, F_is8r, F_is8m, F_il8, F_il5, F_il6, T_goto, F_inc8i, F_inc8r, F_inc8m, F_inc7i, F_inc7r, F_inc7m, c229, c246, ↓s229, FM F, ln_710, c1, show ¬ s.2.1 - 1 ≤ i by omega, TK, lt_run hn, le43, Int.le_refl, Int.lt_irrefl, Option.some.injEq, exists_eq_left', true_and, and_true, if_true, if_false, decide_eq_false_iff_not, decide_eq_true_eq, Nat.reduceAdd, Nat.reduceLeDiff, Nat.reduceLT, Int.reduceAdd, Int.reduceSub, Int.reduceMul, Int.reduceNeg, not_true_eq_false, not_false_eq_true]
    refine T_for (σ := Int) (fun j u => [.ref 704, v1, v2, v3, .int (J m), .int (J m'), .int (J u), .int (J i), .int (J j)]) (fun j u h'' => h'' = h' ∧ u = v + acc (fun j => b01 (mtB (s.2.2.1 i) (s.2.2.2 i) (s.2.2.1 (i + 1)) (s.2.2.2 (i + 1)) (o.2.2.1 j) (o.2.2.2 j) (o.2.2.1 (j + 1)) (o.2.2.2 (j + 1)))) j.toNat) 0 (o.2.1 - 1) ?_ ?_ 0 v h' (by omega) (by omega) ⟨rfl, by show v = v + 0; omega⟩
    · rintro j u h'' j0 j1 ⟨rfl, hu⟩ ih2
      have ac := acc_s (fun j => b01 (mtB (s.2.2.1 i) (s.2.2.2 i) (s.2.2.1 (i + 1)) (s.2.2.2 (i + 1)) (o.2.2.1 j) (o.2.2.2 j) (o.2.2.1 (j + 1)) (o.2.2.2 (j + 1)))) j0
      rw [k245_4]
      simp +decide (maxSteps := 4000000) (disch := omega) only [k245_0, k245_1, k245_2, k245_5, k245_6, k245_7, k245_8, k245_r, k245_s, F_al0, F_il1, F_il2, J_ifeq, F_il3, J_icne, T_ft, T_I, T_ret, T_mul, T_add, F_is4i, F_is4r, F_is4m, F_is5i, F_is5r, F_is5m, F_is6i, F_is6r, F_is6m, F_is7i, F_is7r, F_is7m, F_il7, T_getR, F_il4, X_iald, T_sub, T_icge, F_is8i, F_is8r, F_is8m, F_il8, F_il5, F_il6, T_goto, F_inc8i, F_inc8r, F_inc8m, F_inc7i, F_inc7r, F_inc7m, c229, c246, ↓s229, FM F, ln_710, c2, show ¬ o.2.1 - 1 ≤ j by omega, TK, lt_run hn, le43, Int.le_refl, Int.lt_irrefl, Option.some.injEq, exists_eq_left', true_and, and_true, if_true, if_false, decide_eq_false_iff_not, decide_eq_true_eq, Nat.reduceAdd, Nat.reduceLeDiff, Nat.reduceLT, Int.reduceAdd, Int.reduceSub, Int.reduceMul, Int.reduceNeg, not_true_eq_false, not_false_eq_true]
      refine w246 F hn R R' hm hm' C C' ⟨i0, i1⟩ ⟨j0, j1⟩ ?_
      cases hm : mtB (s.2.2.1 i) (s.2.2.2 i) (s.2.2.1 (i + 1)) (s.2.2.2 (i + 1)) (o.2.2.1 j) (o.2.2.2 j) (o.2.2.1 (j + 1)) (o.2.2.2 (j + 1)) with
      | true =>
        rw [hm] at ac
        simp +decide (maxSteps := 4000000) (disch := omega) only [k245_0, k245_1, k245_2, k245_5, k245_6, k245_7, k245_8, k245_r, k245_s, F_al0, F_il1, F_il2, J_ifeq, F_il3, J_icne, T_ft, T_I, T_ret, T_mul, T_add, F_is4i, F_is4r, F_is4m, F_is5i, F_is5r, F_is5m, F_is6i, F_is6r, F_is6m, F_is7i, F_is7r, F_is7m, F_il7, T_getR, F_il4, X_iald, T_sub, T_icge, F_is8i, F_is8r, F_is8m, F_il8, F_il5, F_il6, T_goto, F_inc8i, F_inc8r, F_inc8m, F_inc7i, F_inc7r, F_inc7m, c229, c246, ↓s229, Bz_t, TK, lt_run hn, le43, Int.le_refl, Int.lt_irrefl, Option.some.injEq, exists_eq_left', true_and, and_true, if_true, if_false, decide_eq_false_iff_not, decide_eq_true_eq, Nat.reduceAdd, Nat.reduceLeDiff, Nat.reduceLT, Int.reduceAdd, Int.reduceSub, Int.reduceMul, Int.reduceNeg, not_true_eq_false, not_false_eq_true]
        refine ih2 (u + 1) _ ⟨rfl, ?_⟩
        rw [ac, hu]
        show _ = _ + (_ + 1)
        omega
      | false =>
        rw [hm] at ac
        simp +decide (maxSteps := 4000000) (disch := omega) only [k245_0, k245_1, k245_2, k245_5, k245_6, k245_7, k245_8, k245_r, k245_s, F_al0, F_il1, F_il2, J_ifeq, F_il3, J_icne, T_ft, T_I, T_ret, T_mul, T_add, F_is4i, F_is4r, F_is4m, F_is5i, F_is5r, F_is5m, F_is6i, F_is6r, F_is6m, F_is7i, F_is7r, F_is7m, F_il7, T_getR, F_il4, X_iald, T_sub, T_icge, F_is8i, F_is8r, F_is8m, F_il8, F_il5, F_il6, T_goto, F_inc8i, F_inc8r, F_inc8m, F_inc7i, F_inc7r, F_inc7m, c229, c246, ↓s229, Bz_f, Int.add_zero, TK, lt_run hn, le43, Int.le_refl, Int.lt_irrefl, Option.some.injEq, exists_eq_left', true_and, and_true, if_true, if_false, decide_eq_false_iff_not, decide_eq_true_eq, Nat.reduceAdd, Nat.reduceLeDiff, Nat.reduceLT, Int.reduceAdd, Int.reduceSub, Int.reduceMul, Int.reduceNeg, not_true_eq_false, not_false_eq_true]
        refine ih2 u _ ⟨rfl, ?_⟩
        rw [ac, hu]
        show _ = _ + (_ + 0)
        omega
    · rintro u h'' ⟨rfl, hu⟩
      rw [k245_4]
      simp +decide (maxSteps := 4000000) (disch := omega) only [k245_0, k245_1, k245_2, k245_5, k245_6, k245_7, k245_8, k245_r, k245_s, F_al0, F_il1, F_il2, J_ifeq, F_il3, J_icne, T_ft, T_I, T_ret, T_mul, T_add, F_is4i, F_is4r, F_is4m, F_is5i, F_is5r, F_is5m, F_is6i, F_is6r, F_is6m, F_is7i, F_is7r, F_is7m, F_il7, T_getR, F_il4, X_iald, T_sub, T_icge, F_is8i, F_is8r, F_is8m, F_il8, F_il5, F_il6, T_goto, F_inc8i, F_inc8r, F_inc8m, F_inc7i, F_inc7r, F_inc7m, c229, c246, ↓s229, FM F, ln_710, c2, TK, lt_run hn, le43, Int.le_refl, Int.lt_irrefl, Option.some.injEq, exists_eq_left', true_and, and_true, if_true, if_false, decide_eq_false_iff_not, decide_eq_true_eq, Nat.reduceAdd, Nat.reduceLeDiff, Nat.reduceLT, Int.reduceAdd, Int.reduceSub, Int.reduceMul, Int.reduceNeg, not_true_eq_false, not_false_eq_true]
      refine ih (u, _) _ ⟨rfl, ?_⟩
      rw [acc_s _ i0, hu, hv]
      rfl
  · rintro ⟨v, w⟩ h' ⟨rfl, hv⟩
    dsimp only at hv ⊢
    subst hv
    rw [k245_3]
    simp +decide (maxSteps := 4000000) (disch := omega) only [k245_0, k245_1, k245_2, k245_5, k245_6, k245_7, k245_8, k245_r, k245_s, F_al0, F_il1, F_il2, J_ifeq, F_il3, J_icne, T_ft, T_I, T_ret, T_mul, T_add, F_is4i, F_is4r, F_is4m, F_is5i, F_is5r, F_is5m, F_is6i, F_is6r, F_is6m, F_is7i, F_is7r, F_is7m, F_il7, T_getR, F_il4, X_iald, T_sub, T_icge, F_is8i, F_is8r, F_is8m, F_il8, F_il5, F_il6, T_goto, F_inc8i, F_inc8r, F_inc8m, F_inc7i, F_inc7r, F_inc7m, c229, c246, ↓s229, FM F, ln_710, c1, TK, lt_run hn, le43, Int.le_refl, Int.lt_irrefl, Option.some.injEq, exists_eq_left', true_and, and_true, if_true, if_false, decide_eq_false_iff_not, decide_eq_true_eq, Nat.reduceAdd, Nat.reduceLeDiff, Nat.reduceLT, Int.reduceAdd, Int.reduceSub, Int.reduceMul, Int.reduceNeg, not_true_eq_false, not_false_eq_true]
    exact k
theorem Pmeets (F : FH hr) (hn : 775 ≤ n) (C : Cp3 h hr) (x y z : Int32) : Pr2 E 147 245 [.int x, .int y, .int z] h hr n (Po (fun h' => Cp3 h' hr) 0 0 h hr n) := by
  have C0 := C
  obtain ⟨D, ρ, C⟩ := C
  obtain ⟨a, ha, ha', rfl⟩ := J_of x
  obtain ⟨b, hb, hb', rfl⟩ := J_of y
  obtain ⟨e, he, he', rfl⟩ := J_of z
  unfold Pr2
  by_cases g : (0 ≤ a ∧ a ≤ 15) ∧ 0 ≤ b ∧ b ≤ (D a).1 - 1
  case neg =>
    simp +decide (maxSteps := 4000000) (disch := omega) only [k147_0, k147_1, k147_2, k147_r, k147_s, F_al0, F_il1, F_il2, J_ifeq, F_il3, J_icne, T_ft, T_I, T_ret, T_getR, X_aald, c122, c141, FX F, ↓s141 F hn C.1 C.cc, ↓s229 F hn C.1 C.mc, g, TK, lt_run hn, le43, Int.le_refl, Int.lt_irrefl, Option.some.injEq, exists_eq_left', true_and, and_true, if_true, if_false, decide_eq_false_iff_not, decide_eq_true_eq, Nat.reduceAdd, Nat.reduceLeDiff, Nat.reduceLT, Int.reduceAdd, Int.reduceSub, Int.reduceMul, Int.reduceNeg, not_true_eq_false, not_false_eq_true]
    refine ⟨_, rfl, ?_⟩
    simp +decide (maxSteps := 4000000) (disch := omega) only [k245_0, k245_1, k245_2, k245_5, k245_6, k245_7, k245_8, k245_r, k245_s, F_al0, F_il1, F_il2, J_ifeq, F_il3, J_icne, T_ft, T_I, T_ret, T_mul, T_add, F_is4i, F_is4r, F_is4m, F_is5i, F_is5r, F_is5m, F_is6i, F_is6r, F_is6m, F_is7i, F_is7r, F_is7m, F_il7, T_getR, F_il4, X_iald, T_sub, T_icge, F_is8i, F_is8r, F_is8m, F_il8, F_il5, F_il6, T_goto, F_inc8i, F_inc8r, F_inc8m, F_inc7i, F_inc7r, F_inc7m, c229, c246, FM F, ↓s141 F hn C.1 C.cc, ↓s229 F hn C.1 C.mc, g, TK, lt_run hn, le43, Int.le_refl, Int.lt_irrefl, Option.some.injEq, exists_eq_left', true_and, and_true, if_true, if_false, decide_eq_false_iff_not, decide_eq_true_eq, Nat.reduceAdd, Nat.reduceLeDiff, Nat.reduceLT, Int.reduceAdd, Int.reduceSub, Int.reduceMul, Int.reduceNeg, not_true_eq_false, not_false_eq_true]
    first | exact ⟨rfl, ⟨C0, Kp.refl⟩, rfl, rfl⟩ | exact ⟨⟨C0, Kp.refl⟩, rfl, rfl⟩ | exact ⟨C0, Kp.refl⟩
  by_cases g2 : 0 ≤ e ∧ e ≤ (D a).1 - 1
  case neg =>
    simp +decide (maxSteps := 4000000) (disch := omega) only [k147_0, k147_1, k147_2, k147_r, k147_s, F_al0, F_il1, F_il2, J_ifeq, F_il3, J_icne, T_ft, T_I, T_ret, T_getR, X_aald, c122, c141, FX F, ↓s141 F hn C.1 C.cc, ↓s229 F hn C.1 C.mc, g, g2, TK, lt_run hn, le43, Int.le_refl, Int.lt_irrefl, Option.some.injEq, exists_eq_left', true_and, and_true, if_true, if_false, decide_eq_false_iff_not, decide_eq_true_eq, Nat.reduceAdd, Nat.reduceLeDiff, Nat.reduceLT, Int.reduceAdd, Int.reduceSub, Int.reduceMul, Int.reduceNeg, not_true_eq_false, not_false_eq_true]
    refine ⟨_, rfl, ?_⟩
    simp +decide (maxSteps := 4000000) (disch := omega) only [k245_0, k245_1, k245_2, k245_5, k245_6, k245_7, k245_8, k245_r, k245_s, F_al0, F_il1, F_il2, J_ifeq, F_il3, J_icne, T_ft, T_I, T_ret, T_mul, T_add, F_is4i, F_is4r, F_is4m, F_is5i, F_is5r, F_is5m, F_is6i, F_is6r, F_is6m, F_is7i, F_is7r, F_is7m, F_il7, T_getR, F_il4, X_iald, T_sub, T_icge, F_is8i, F_is8r, F_is8m, F_il8, F_il5, F_il6, T_goto, F_inc8i, F_inc8r, F_inc8m, F_inc7i, F_inc7r, F_inc7m, c229, c246, FM F, ↓s141 F hn C.1 C.cc, ↓s229 F hn C.1 C.mc, g, g2, TK, lt_run hn, le43, Int.le_refl, Int.lt_irrefl, Option.some.injEq, exists_eq_left', true_and, and_true, if_true, if_false, decide_eq_false_iff_not, decide_eq_true_eq, Nat.reduceAdd, Nat.reduceLeDiff, Nat.reduceLT, Int.reduceAdd, Int.reduceSub, Int.reduceMul, Int.reduceNeg, not_true_eq_false, not_false_eq_true]
    first | exact ⟨rfl, ⟨C0, Kp.refl⟩, rfl, rfl⟩ | exact ⟨⟨C0, Kp.refl⟩, rfl, rfl⟩ | exact ⟨C0, Kp.refl⟩
  by_cases g3 : b = e
  · subst g3
    simp +decide (maxSteps := 4000000) (disch := omega) only [k147_0, k147_1, k147_2, k147_r, k147_s, F_al0, F_il1, F_il2, J_ifeq, F_il3, J_icne, T_ft, T_I, T_ret, T_getR, X_aald, c122, c141, FX F, ↓s141 F hn C.1 C.cc, ↓s229 F hn C.1 C.mc, g, TK, lt_run hn, le43, Int.le_refl, Int.lt_irrefl, Option.some.injEq, exists_eq_left', true_and, and_true, if_true, if_false, decide_eq_false_iff_not, decide_eq_true_eq, Nat.reduceAdd, Nat.reduceLeDiff, Nat.reduceLT, Int.reduceAdd, Int.reduceSub, Int.reduceMul, Int.reduceNeg, not_true_eq_false, not_false_eq_true]
    refine ⟨_, rfl, ?_⟩
    simp +decide (maxSteps := 4000000) (disch := omega) only [k245_0, k245_1, k245_2, k245_5, k245_6, k245_7, k245_8, k245_r, k245_s, F_al0, F_il1, F_il2, J_ifeq, F_il3, J_icne, T_ft, T_I, T_ret, T_mul, T_add, F_is4i, F_is4r, F_is4m, F_is5i, F_is5r, F_is5m, F_is6i, F_is6r, F_is6m, F_is7i, F_is7r, F_is7m, F_il7, T_getR, F_il4, X_iald, T_sub, T_icge, F_is8i, F_is8r, F_is8m, F_il8, F_il5, F_il6, T_goto, F_inc8i, F_inc8r, F_inc8m, F_inc7i, F_inc7r, F_inc7m, c229, c246, FM F, ↓s141 F hn C.1 C.cc, ↓s229 F hn C.1 C.mc, g, TK, lt_run hn, le43, Int.le_refl, Int.lt_irrefl, Option.some.injEq, exists_eq_left', true_and, and_true, if_true, if_false, decide_eq_false_iff_not, decide_eq_true_eq, Nat.reduceAdd, Nat.reduceLeDiff, Nat.reduceLT, Int.reduceAdd, Int.reduceSub, Int.reduceMul, Int.reduceNeg, not_true_eq_false, not_false_eq_true]
    first | exact ⟨rfl, ⟨C0, Kp.refl⟩, rfl, rfl⟩ | exact ⟨⟨C0, Kp.refl⟩, rfl, rfl⟩ | exact ⟨C0, Kp.refl⟩
  obtain ⟨P, c, m⟩ := C.2 a g.1.1 (by omega)
  have r := C.1 a
  have r1 := r.1
  have x1 := X48 F g.1.1 (show a < 16 by omega)
  have B := DB_d g.1.1 (show a < 16 by omega)
  have x2 := B.x E F
  have p1 := (P.1 b.toNat (by omega)).1
  have A := P.sb B (s := b.toNat) (by omega)
  have x3 := A.x E F
  have x4 := A.r
  have p2 := (P.1 e.toNat (by omega)).1
  have A2 := P.sb B (s := e.toNat) (by omega)
  have x5 := A2.x E F
  have x6 := A2.r
  simp +decide (maxSteps := 4000000) (disch := omega) only [k147_0, k147_1, k147_2, k147_r, k147_s, F_al0, F_il1, F_il2, J_ifeq, F_il3, J_icne, T_ft, T_I, T_ret, T_getR, X_aald, c122, c141, FX F, ↓s141 F hn C.1 C.cc, g, g2, g3, x1, x2, p1, x3, p2, x5, kd_48, ln_48, TK, lt_run hn, le43, Int.le_refl, Int.lt_irrefl, Option.some.injEq, exists_eq_left', true_and, and_true, if_true, if_false, decide_eq_false_iff_not, decide_eq_true_eq, Nat.reduceAdd, Nat.reduceLeDiff, Nat.reduceLT, Int.reduceAdd, Int.reduceSub, Int.reduceMul, Int.reduceNeg, not_true_eq_false, not_false_eq_true]
  refine w122 F hn A A2 (r.2 b) (r.2 e) (c.2 b (by omega) (by omega)) (c.2 e (by omega) (by omega)) ?_
  simp +decide (maxSteps := 4000000) (disch := omega) only [k147_0, k147_1, k147_2, k147_r, k147_s, F_al0, F_il1, F_il2, J_ifeq, F_il3, J_icne, T_ft, T_I, T_ret, T_getR, X_aald, c122, c141, ↓s141, TK, lt_run hn, le43, Int.le_refl, Int.lt_irrefl, Option.some.injEq, exists_eq_left', true_and, and_true, if_true, if_false, decide_eq_false_iff_not, decide_eq_true_eq, Nat.reduceAdd, Nat.reduceLeDiff, Nat.reduceLT, Int.reduceAdd, Int.reduceSub, Int.reduceMul, Int.reduceNeg, not_true_eq_false, not_false_eq_true]
  refine ⟨_, rfl, ?_⟩
  simp +decide (maxSteps := 4000000) (disch := omega) only [k245_0, k245_1, k245_2, k245_5, k245_6, k245_7, k245_8, k245_r, k245_s, F_al0, F_il1, F_il2, J_ifeq, F_il3, J_icne, T_ft, T_I, T_ret, T_mul, T_add, F_is4i, F_is4r, F_is4m, F_is5i, F_is5r, F_is5m, F_is6i, F_is6r, F_is6m, F_is7i, F_is7r, F_is7m, F_il7, T_getR, F_il4, X_iald, T_sub, T_icge, F_is8i, F_is8r, F_is8m, F_il8, F_il5, F_il6, T_goto, F_inc8i, F_inc8r, F_inc8m, F_inc7i, F_inc7r, F_inc7m, c229, c246, FM F, ↓s229 F hn C.1 C.mc, g, g2, g3, TK, lt_run hn, le43, Int.le_refl, Int.lt_irrefl, Option.some.injEq, exists_eq_left', true_and, and_true, if_true, if_false, decide_eq_false_iff_not, decide_eq_true_eq, Nat.reduceAdd, Nat.reduceLeDiff, Nat.reduceLT, Int.reduceAdd, Int.reduceSub, Int.reduceMul, Int.reduceNeg, not_true_eq_false, not_false_eq_true]
  exact z245 F hn (r.2 b) (r.2 e) (by omega) (by omega) (m.2 b (by omega) (by omega)) (m.2 e (by omega) (by omega)) ⟨rfl, ⟨C0, Kp.refl⟩, rfl, rfl⟩
end MU
