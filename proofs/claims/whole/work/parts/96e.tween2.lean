/-! tween: the reference's stroke between two -/
section TB
variable {E : AEn} {h h' : AHi} {hr : AHr} {n : Nat} {Q : ARs → Prop} {s o : Stk} {j l a b m : Int} {X Y : Int → Int}
theorem s282x (F : FH hr) (hn : 775 ≤ n) {k : Int} (hk : 0 ≤ k ∧ k < 128) (C : SM h k s) (R : SR s) (hl : 1 ≤ l ∧ l ≤ 9) (hj : 0 ≤ j ∧ j ≤ l) : Sp E 282 [.ref 704, .int (J k), .int (J j), .int (J (l + 1)), .int (J 0)] h hr n Q ↔ Q (some (.long (L (tsp s.2.2.1 s.2.1 j l))), h, hr, n) := by
  have r2 := R.2.1
  obtain ⟨q1, q2, q3, q4⟩ := tspq hl r2 hj
  have d0 := C.1.2
  have d1 := (C.2 _ q2.1 q2.2).1
  have e1 : l + 1 - 1 = l := by omega
  have ln := eq_true (J_n0 (a := l) (by omega))
  have b1 := (R.2.2 (j * (s.2.1 - 1) / l)).1
  unfold tsp
  by_cases g : j * (s.2.1 - 1) % l = 0
  · rw [if_pos g]
    simp +decide (maxSteps := 4000000) (disch := omega) only [k282_0, k282_1, k282_2, k282_3, k282_4, k282_5, k282_r, k282_s, F_il2, F_al0, T_getR, F_il1, X_iald, T_I, T_sub, T_mul, F_il3, T_div, F_is5i, F_is5r, F_is5m, T_rem, F_is6i, F_is6r, F_is6m, F_il4, J_ifne, F_il5, T_add, T_goto, T_ft, F_is7i, F_is7r, F_is7m, F_il6, F_il7, F_is8i, F_is8r, F_is8m, T_i2l, T_mulL, F_il8, T_addL, T_ret, FM F, d0, d1, g, e1, ln, J_divp, J_remp, J_l, L_mul, L_add, L_sub, ln_710, ln_711, ↓reduceIte, TK, lt_run hn, le43, Int.le_refl, Int.lt_irrefl, Option.some.injEq, exists_eq_left', true_and, and_true, if_true, if_false, decide_eq_false_iff_not, decide_eq_true_eq, Nat.reduceAdd, Nat.reduceLeDiff, Nat.reduceLT, Int.reduceAdd, Int.reduceSub, Int.reduceMul, Int.reduceNeg, not_true_eq_false, not_false_eq_true]
    rw [show s.2.2.1 (j * (s.2.1 - 1) / l) * l + (s.2.2.1 (j * (s.2.1 - 1) / l) - s.2.2.1 (j * (s.2.1 - 1) / l)) * 0 = s.2.2.1 (j * (s.2.1 - 1) / l) * l by grind]
  · rw [if_neg g]
    have d2 := (C.2 _ (show 0 ≤ j * (s.2.1 - 1) / l + 1 by omega) (q4 g)).1
    rw [← Int.add_assoc] at d2
    have b2 := (R.2.2 (j * (s.2.1 - 1) / l + 1)).1
    simp +decide (maxSteps := 4000000) (disch := omega) only [k282_0, k282_1, k282_2, k282_3, k282_4, k282_5, k282_r, k282_s, F_il2, F_al0, T_getR, F_il1, X_iald, T_I, T_sub, T_mul, F_il3, T_div, F_is5i, F_is5r, F_is5m, T_rem, F_is6i, F_is6r, F_is6m, F_il4, J_ifne, F_il5, T_add, T_goto, T_ft, F_is7i, F_is7r, F_is7m, F_il6, F_il7, F_is8i, F_is8r, F_is8m, T_i2l, T_mulL, F_il8, T_addL, T_ret, FM F, d0, d1, d2, g, e1, ln, J_divp, J_remp, J_l, L_mul, L_add, L_sub, ln_710, ln_711, ↓reduceIte, TK, lt_run hn, le43, Int.le_refl, Int.lt_irrefl, Option.some.injEq, exists_eq_left', true_and, and_true, if_true, if_false, decide_eq_false_iff_not, decide_eq_true_eq, Nat.reduceAdd, Nat.reduceLeDiff, Nat.reduceLT, Int.reduceAdd, Int.reduceSub, Int.reduceMul, Int.reduceNeg, not_true_eq_false, not_false_eq_true]
theorem s282y (F : FH hr) (hn : 775 ≤ n) {k : Int} (hk : 0 ≤ k ∧ k < 128) (C : SM h k s) (R : SR s) (hl : 1 ≤ l ∧ l ≤ 9) (hj : 0 ≤ j ∧ j ≤ l) : Sp E 282 [.ref 704, .int (J k), .int (J j), .int (J (l + 1)), .int (J 1)] h hr n Q ↔ Q (some (.long (L (tsp s.2.2.2 s.2.1 j l))), h, hr, n) := by
  have r2 := R.2.1
  obtain ⟨q1, q2, q3, q4⟩ := tspq hl r2 hj
  have d0 := C.1.2
  have d1 := (C.2 _ q2.1 q2.2).2
  have e1 : l + 1 - 1 = l := by omega
  have ln := eq_true (J_n0 (a := l) (by omega))
  have b1 := (R.2.2 (j * (s.2.1 - 1) / l)).2
  unfold tsp
  by_cases g : j * (s.2.1 - 1) % l = 0
  · rw [if_pos g]
    simp +decide (maxSteps := 4000000) (disch := omega) only [k282_0, k282_1, k282_2, k282_3, k282_4, k282_5, k282_r, k282_s, F_il2, F_al0, T_getR, F_il1, X_iald, T_I, T_sub, T_mul, F_il3, T_div, F_is5i, F_is5r, F_is5m, T_rem, F_is6i, F_is6r, F_is6m, F_il4, J_ifne, F_il5, T_add, T_goto, T_ft, F_is7i, F_is7r, F_is7m, F_il6, F_il7, F_is8i, F_is8r, F_is8m, T_i2l, T_mulL, F_il8, T_addL, T_ret, FM F, d0, d1, g, e1, ln, J_divp, J_remp, J_l, L_mul, L_add, L_sub, ln_710, ln_712, ↓reduceIte, TK, lt_run hn, le43, Int.le_refl, Int.lt_irrefl, Option.some.injEq, exists_eq_left', true_and, and_true, if_true, if_false, decide_eq_false_iff_not, decide_eq_true_eq, Nat.reduceAdd, Nat.reduceLeDiff, Nat.reduceLT, Int.reduceAdd, Int.reduceSub, Int.reduceMul, Int.reduceNeg, not_true_eq_false, not_false_eq_true]
    rw [show s.2.2.2 (j * (s.2.1 - 1) / l) * l + (s.2.2.2 (j * (s.2.1 - 1) / l) - s.2.2.2 (j * (s.2.1 - 1) / l)) * 0 = s.2.2.2 (j * (s.2.1 - 1) / l) * l by grind]
  · rw [if_neg g]
    have d2 := (C.2 _ (show 0 ≤ j * (s.2.1 - 1) / l + 1 by omega) (q4 g)).2
    rw [← Int.add_assoc] at d2
    have b2 := (R.2.2 (j * (s.2.1 - 1) / l + 1)).2
    simp +decide (maxSteps := 4000000) (disch := omega) only [k282_0, k282_1, k282_2, k282_3, k282_4, k282_5, k282_r, k282_s, F_il2, F_al0, T_getR, F_il1, X_iald, T_I, T_sub, T_mul, F_il3, T_div, F_is5i, F_is5r, F_is5m, T_rem, F_is6i, F_is6r, F_is6m, F_il4, J_ifne, F_il5, T_add, T_goto, T_ft, F_is7i, F_is7r, F_is7m, F_il6, F_il7, F_is8i, F_is8r, F_is8m, T_i2l, T_mulL, F_il8, T_addL, T_ret, FM F, d0, d1, d2, g, e1, ln, J_divp, J_remp, J_l, L_mul, L_add, L_sub, ln_710, ln_712, ↓reduceIte, TK, lt_run hn, le43, Int.le_refl, Int.lt_irrefl, Option.some.injEq, exists_eq_left', true_and, and_true, if_true, if_false, decide_eq_false_iff_not, decide_eq_true_eq, Nat.reduceAdd, Nat.reduceLeDiff, Nat.reduceLT, Int.reduceAdd, Int.reduceSub, Int.reduceMul, Int.reduceNeg, not_true_eq_false, not_false_eq_true]
theorem w281 (F : FH hr) (hn : 775 ≤ n) {k q : Int} (hk : 0 ≤ k ∧ k < 128) (hq : 0 ≤ q ∧ q < 128) (C : SM h k s) (C' : SM h q o) (R : SR s) (R' : SR o) (ha : 0 ≤ a ∧ a ≤ b) (hb : 1 ≤ b ∧ b ≤ 24)
    (kk : ∀ h', Ef Sn h h' → Rm h' (btw s o a b).2.1 (btw s o a b).2.2.1 (btw s o a b).2.2.2 → Q (none, h', hr, n)) : Sp E 281 [.ref 704, .int (J k), .int (J q), .int (J a), .int (J b)] h hr n Q := by
  have r2 := R.2.1
  have r3 := R'.2.1
  have hl := btl_r R R'
  have H : bH s o (btl s o) a b := ⟨R, R', hl, ha, hb⟩
  have d0 := C.1.2
  have d0' := C'.1.2
  have el : (if s.2.1 ≤ o.2.1 then o.2.1 else s.2.1) = btl s o + 1 := by
    unfold btl
    split <;> split <;> omega
  have fr : ∀ {h'}, Ef Sn h h' → SM h' k s ∧ SM h' q o := fun e => ⟨C.ef hk.1 r2.2 e (fun q => by unfold Sn at q; omega) (fun q => by unfold Sn at q; omega) (fun i _ _ => ⟨fun q => by unfold Sn at q; omega, fun q => by unfold Sn at q; omega⟩), C'.ef hq.1 r3.2 e (fun q => by unfold Sn at q; omega) (fun q => by unfold Sn at q; omega) (fun i _ _ => ⟨fun q => by unfold Sn at q; omega, fun q => by unfold Sn at q; omega⟩)⟩
  simp +decide (maxSteps := 4000000) (disch := omega) only [k281_0, k281_3, k281_4, k281_5, k281_6, k281_7, k281_8, k281_9, k281_10, k281_r, k281_s, F_al0, T_getR, F_il1, X_iald, F_il2, F_is5i, F_is5r, F_is5m, T_I, T_putI, T_putZ, F_is6i, F_is6r, F_is6m, T_ft, F_il6, F_il5, T_icge, F_is7i, F_is7r, F_is7m, F_is8i, F_is8r, F_is8m, F_is9i, F_is9r, F_is9m, F_il9, T_lst, F_ll10, F_il4, T_i2l, T_mulL, F_ll12, T_subL, F_il3, T_addL, T_sub, F_is14i, F_is14r, F_is14m, J_ifne, F_il14, T_goto, F_il7, F_il8, F_inc9i, F_inc9r, F_inc9m, T_getI, J_ifle, J_icne, T_iast, T_dupI, T_dupR, T_add, F_inc6i, F_inc6r, F_inc6m, T_ret, c241, c243, c282, ↓s241, ↓s243, FM F, d0, d0', el, ln_710, ↓reduceIte, TK, lt_run hn, le43, Int.le_refl, Int.lt_irrefl, Option.some.injEq, exists_eq_left', true_and, and_true, if_true, if_false, decide_eq_false_iff_not, decide_eq_true_eq, Nat.reduceAdd, Nat.reduceLeDiff, Nat.reduceLT, Int.reduceAdd, Int.reduceSub, Int.reduceMul, Int.reduceNeg, not_true_eq_false, not_false_eq_true]
  refine T_for (σ := Value × Value × Value × Value × Value × Value × Value × Value) (fun j v => [.ref 704, .int (J k), .int (J q), .int (J a), .int (J b), .int (J (btl s o + 1)), .int (J j), v.1, v.2.1, v.2.2.1, v.2.2.2.1, v.2.2.2.2.1, v.2.2.2.2.2.1, v.2.2.2.2.2.2.1, v.2.2.2.2.2.2.2]) (fun j _ h' => Ef Sn h h' ∧ Rm h' (tpt s o (btl s o) a b j.toNat).1 (tpt s o (btl s o) a b j.toNat).2.1 (tpt s o (btl s o) a b j.toNat).2.2) 0 (btl s o + 1) ?_ ?_ 0 (a_mk, a_mk, a_mk, a_mk, a_mk, a_mk, a_mk, a_mk) _ (by omega) (by omega) ⟨Ef.hI Ef.refl (Or.inl ⟨rfl, rfl⟩), hI_s, fun j j0 j1 => by have : j < 0 := j1; omega⟩
  · rintro j ⟨v7, v8, v9, v10, v11, v12, v13, v14⟩ h' j0 j1 ⟨e1, e3⟩ ih
    dsimp only
    obtain ⟨S1, S2⟩ := fr e1
    have b1 := bwx_r (j := j) (l := btl s o) (a := a) (b := b) (M := 47) (fun i => (R.2.2 i).1) (fun i => (R'.2.2 i).1) hl r2 r3 (by omega) ha hb.1
    have b2 := bwx_r (j := j) (l := btl s o) (a := a) (b := b) (M := 31) (fun i => (R.2.2 i).2) (fun i => (R'.2.2 i).2) hl r2 r3 (by omega) ha hb.1
    have lb := mulb (a := btl s o) (b := b) (A := 9) (B := 24) (by omega) (by omega)
    have lp := Int.mul_pos (show 0 < btl s o by omega) (show 0 < b by omega)
    have t1 := fun {Q} => s282x (E := E) (Q := Q) F hn hk S1 R hl (show 0 ≤ j ∧ j ≤ btl s o by omega)
    have t2 := fun {Q} => s282y (E := E) (Q := Q) F hn hk S1 R hl (show 0 ≤ j ∧ j ≤ btl s o by omega)
    have t3 := fun {Q} => s282x (E := E) (Q := Q) F hn hq S2 R' hl (show 0 ≤ j ∧ j ≤ btl s o by omega)
    have t4 := fun {Q} => s282y (E := E) (Q := Q) F hn hq S2 R' hl (show 0 ≤ j ∧ j ≤ btl s o by omega)
    obtain ⟨m1, m2, m3⟩ := tpt_r H j.toNat (by omega)
    have st := tpt_s (s := s) (o := o) (l := btl s o) (a := a) (b := b) j0
    have f1 : bwx s.2.2.1 s.2.1 o.2.2.1 o.2.1 j (btl s o) a b = rd (tsp s.2.2.1 s.2.1 j (btl s o) * b + (tsp o.2.2.1 o.2.1 j (btl s o) - tsp s.2.2.1 s.2.1 j (btl s o)) * a) (btl s o * b) := by rw [← bwx_s]; rfl
    have f2 : bwx s.2.2.2 s.2.1 o.2.2.2 o.2.1 j (btl s o) a b = rd (tsp s.2.2.2 s.2.1 j (btl s o) * b + (tsp o.2.2.2 o.2.1 j (btl s o) - tsp s.2.2.2 s.2.1 j (btl s o)) * a) (btl s o * b) := by rw [← bwx_s]; rfl
    rw [f1, bwx_s] at b1
    rw [f2, bwx_s] at b2
    rw [f1, f2] at st
    have e9 : btl s o + 1 - 1 = btl s o := by omega
    generalize tsp s.2.2.1 s.2.1 j (btl s o) = A1 at *
    generalize tsp s.2.2.2 s.2.1 j (btl s o) = A2 at *
    generalize tsp o.2.2.1 o.2.1 j (btl s o) = A3 at *
    generalize tsp o.2.2.2 o.2.1 j (btl s o) = A4 at *
    generalize hu1 : A1 * b + (A3 - A1) * a = U1 at *
    generalize hu2 : A2 * b + (A4 - A2) * a = U2 at *
    generalize hlb : btl s o * b = LB at *
    rw [k281_1]
    simp +decide (maxSteps := 4000000) (disch := omega) only [k281_0, k281_3, k281_4, k281_5, k281_6, k281_7, k281_8, k281_9, k281_10, k281_r, k281_s, F_al0, T_getR, F_il1, X_iald, F_il2, F_is5i, F_is5r, F_is5m, T_I, T_putI, T_putZ, F_is6i, F_is6r, F_is6m, T_ft, F_il6, F_il5, T_icge, F_is7i, F_is7r, F_is7m, F_is8i, F_is8r, F_is8m, F_is9i, F_is9r, F_is9m, F_il9, T_lst, F_ll10, F_il4, T_i2l, T_mulL, F_ll12, T_subL, F_il3, T_addL, T_sub, F_is14i, F_is14r, F_is14m, J_ifne, F_il14, T_goto, F_il7, F_il8, F_inc9i, F_inc9r, F_inc9m, T_getI, J_ifle, J_icne, T_iast, T_dupI, T_dupR, T_add, F_inc6i, F_inc6r, F_inc6m, T_ret, c241, c243, c282, ↓s241, ↓s243, show ¬ btl s o + 1 ≤ j by omega, ↓reduceIte, TK, lt_run hn, le43, Int.le_refl, Int.lt_irrefl, Option.some.injEq, exists_eq_left', true_and, and_true, if_true, if_false, decide_eq_false_iff_not, decide_eq_true_eq, Nat.reduceAdd, Nat.reduceLeDiff, Nat.reduceLT, Int.reduceAdd, Int.reduceSub, Int.reduceMul, Int.reduceNeg, not_true_eq_false, not_false_eq_true]
    rw [k281_2]
    simp +decide (maxSteps := 4000000) (disch := omega) only [k281_0, k281_3, k281_4, k281_5, k281_6, k281_7, k281_8, k281_9, k281_10, k281_r, k281_s, F_al0, T_getR, F_il1, X_iald, F_il2, F_is5i, F_is5r, F_is5m, T_I, T_putI, T_putZ, F_is6i, F_is6r, F_is6m, T_ft, F_il6, F_il5, T_icge, F_is7i, F_is7r, F_is7m, F_is8i, F_is8r, F_is8m, F_is9i, F_is9r, F_is9m, F_il9, T_lst, F_ll10, F_il4, T_i2l, T_mulL, F_ll12, T_subL, F_il3, T_addL, T_sub, F_is14i, F_is14r, F_is14m, J_ifne, F_il14, T_goto, F_il7, F_il8, F_inc9i, F_inc9r, F_inc9m, T_getI, J_ifle, J_icne, T_iast, T_dupI, T_dupR, T_add, F_inc6i, F_inc6r, F_inc6m, T_ret, c241, c243, c282, ↓s241, ↓s243, FM F, t1, t3, e9, hu1, hlb, J_l, L_mul, L_add, L_sub, ↓reduceIte, TK, lt_run hn, le43, Int.le_refl, Int.lt_irrefl, Option.some.injEq, exists_eq_left', true_and, and_true, if_true, if_false, decide_eq_false_iff_not, decide_eq_true_eq, Nat.reduceAdd, Nat.reduceLeDiff, Nat.reduceLT, Int.reduceAdd, Int.reduceSub, Int.reduceMul, Int.reduceNeg, not_true_eq_false, not_false_eq_true]
    rw [k281_2]
    simp +decide (maxSteps := 4000000) (disch := omega) only [k281_0, k281_3, k281_4, k281_5, k281_6, k281_7, k281_8, k281_9, k281_10, k281_r, k281_s, F_al0, T_getR, F_il1, X_iald, F_il2, F_is5i, F_is5r, F_is5m, T_I, T_putI, T_putZ, F_is6i, F_is6r, F_is6m, T_ft, F_il6, F_il5, T_icge, F_is7i, F_is7r, F_is7m, F_is8i, F_is8r, F_is8m, F_is9i, F_is9r, F_is9m, F_il9, T_lst, F_ll10, F_il4, T_i2l, T_mulL, F_ll12, T_subL, F_il3, T_addL, T_sub, F_is14i, F_is14r, F_is14m, J_ifne, F_il14, T_goto, F_il7, F_il8, F_inc9i, F_inc9r, F_inc9m, T_getI, J_ifle, J_icne, T_iast, T_dupI, T_dupR, T_add, F_inc6i, F_inc6r, F_inc6m, T_ret, c241, c243, c282, ↓s241, ↓s243, FM F, t2, t4, e9, hu2, hlb, J_l, L_mul, L_add, L_sub, ↓reduceIte, TK, lt_run hn, le43, Int.le_refl, Int.lt_irrefl, Option.some.injEq, exists_eq_left', true_and, and_true, if_true, if_false, decide_eq_false_iff_not, decide_eq_true_eq, Nat.reduceAdd, Nat.reduceLeDiff, Nat.reduceLT, Int.reduceAdd, Int.reduceSub, Int.reduceMul, Int.reduceNeg, not_true_eq_false, not_false_eq_true]
    generalize rd U1 LB = px at *
    generalize rd U2 LB = py at *
    obtain ⟨m, hm⟩ : ∃ m, m = (tpt s o (btl s o) a b j.toNat).1 := ⟨_, rfl⟩
    obtain ⟨X, hX⟩ : ∃ X, X = (tpt s o (btl s o) a b j.toNat).2.1 := ⟨_, rfl⟩
    obtain ⟨Y, hY⟩ : ∃ Y, Y = (tpt s o (btl s o) a b j.toNat).2.2 := ⟨_, rfl⟩
    rw [← hm, ← hX, ← hY] at e3 st
    rw [← hm] at m1
    rw [← hX] at m2
    rw [← hY] at m3
    have d := e3.1
    have same : 0 < m ∧ X (m - 1) = px ∧ Y (m - 1) = py → tpt s o (btl s o) a b (j + 1).toNat = tpt s o (btl s o) a b j.toNat := fun g => by rw [st, if_pos g]
    have more : ¬ (0 < m ∧ X (m - 1) = px ∧ Y (m - 1) = py) → tpt s o (btl s o) a b (j + 1).toNat = (m + 1, upd1 X m px, upd1 Y m py) := fun g => by rw [st, if_neg g]
    have z3 : sA h' 713 m (J px) 704 15 = J m := by rw [sA_o (by decide)]; exact d
    have z4 : sA (sA h' 713 m (J px)) 714 m (J py) 704 15 = J m := by rw [sA_o (by decide)]; exact z3
    have new : ¬ (0 < m ∧ X (m - 1) = px ∧ Y (m - 1) = py) → Ef Sn h (hI (sA (sA h' 713 m (J px)) 714 m (J py)) 704 15 (J (m + 1))) ∧ Rm (hI (sA (sA h' 713 m (J px)) 714 m (J py)) 704 15 (J (m + 1))) (tpt s o (btl s o) a b (j + 1).toNat).1 (tpt s o (btl s o) a b (j + 1).toNat).2.1 (tpt s o (btl s o) a b (j + 1).toNat).2.2 := fun g => by
      rw [more g]
      refine ⟨Ef.hI (Ef.sA (Ef.sA e1 (Or.inr (Or.inl rfl))) (Or.inr (Or.inr rfl))) (Or.inl ⟨rfl, rfl⟩), hI_s, fun i i0 i1 => ?_⟩
      try dsimp only at i1 ⊢
      unfold upd1
      rw [gA_o (by decide), gA_o (by decide), gs_o (by decide)]
      by_cases e : i = m
      · subst e
        rw [gs_s, gs_s, if_pos rfl, if_pos rfl]
        exact ⟨rfl, rfl⟩
      · rw [gs_k m1.1 i0 e, gs_k m1.1 i0 e, gs_o (by decide), if_neg e, if_neg e]
        exact e3.2 i i0 (by omega)
    by_cases g : 0 < m
    · have r1 := e3.2 (m - 1) (by omega) (by omega)
      have bx := m2 (m - 1)
      have bY := m3 (m - 1)
      by_cases g1 : X (m - 1) = px
      · by_cases g2 : Y (m - 1) = py
        · rw [k281_2]
          simp +decide (maxSteps := 4000000) (disch := omega) only [k281_0, k281_3, k281_4, k281_5, k281_6, k281_7, k281_8, k281_9, k281_10, k281_r, k281_s, F_al0, T_getR, F_il1, X_iald, F_il2, F_is5i, F_is5r, F_is5m, T_I, T_putI, T_putZ, F_is6i, F_is6r, F_is6m, T_ft, F_il6, F_il5, T_icge, F_is7i, F_is7r, F_is7m, F_is8i, F_is8r, F_is8m, F_is9i, F_is9r, F_is9m, F_il9, T_lst, F_ll10, F_il4, T_i2l, T_mulL, F_ll12, T_subL, F_il3, T_addL, T_sub, F_is14i, F_is14r, F_is14m, J_ifne, F_il14, T_goto, F_il7, F_il8, F_inc9i, F_inc9r, F_inc9m, T_getI, J_ifle, J_icne, T_iast, T_dupI, T_dupR, T_add, F_inc6i, F_inc6r, F_inc6m, T_ret, c241, c243, c282, ↓s241, ↓s243, FM F, d, r1, g1, g2, ln_713, ln_714, show ¬ m ≤ 0 by omega, ↓reduceIte, TK, lt_run hn, le43, Int.le_refl, Int.lt_irrefl, Option.some.injEq, exists_eq_left', true_and, and_true, if_true, if_false, decide_eq_false_iff_not, decide_eq_true_eq, Nat.reduceAdd, Nat.reduceLeDiff, Nat.reduceLT, Int.reduceAdd, Int.reduceSub, Int.reduceMul, Int.reduceNeg, not_true_eq_false, not_false_eq_true]
          refine ih (_, _, _, _, _, _, _, _) _ ⟨e1, ?_⟩
          rw [same ⟨g, g1, g2⟩, ← hm, ← hX, ← hY]
          exact e3
        · rw [k281_2]
          simp +decide (maxSteps := 4000000) (disch := omega) only [k281_0, k281_3, k281_4, k281_5, k281_6, k281_7, k281_8, k281_9, k281_10, k281_r, k281_s, F_al0, T_getR, F_il1, X_iald, F_il2, F_is5i, F_is5r, F_is5m, T_I, T_putI, T_putZ, F_is6i, F_is6r, F_is6m, T_ft, F_il6, F_il5, T_icge, F_is7i, F_is7r, F_is7m, F_is8i, F_is8r, F_is8m, F_is9i, F_is9r, F_is9m, F_il9, T_lst, F_ll10, F_il4, T_i2l, T_mulL, F_ll12, T_subL, F_il3, T_addL, T_sub, F_is14i, F_is14r, F_is14m, J_ifne, F_il14, T_goto, F_il7, F_il8, F_inc9i, F_inc9r, F_inc9m, T_getI, J_ifle, J_icne, T_iast, T_dupI, T_dupR, T_add, F_inc6i, F_inc6r, F_inc6m, T_ret, c241, c243, c282, ↓s241, ↓s243, FM F, d, r1, g1, g2, z3, z4, ln_713, ln_714, show ¬ m ≤ 0 by omega, ↓reduceIte, TK, lt_run hn, le43, Int.le_refl, Int.lt_irrefl, Option.some.injEq, exists_eq_left', true_and, and_true, if_true, if_false, decide_eq_false_iff_not, decide_eq_true_eq, Nat.reduceAdd, Nat.reduceLeDiff, Nat.reduceLT, Int.reduceAdd, Int.reduceSub, Int.reduceMul, Int.reduceNeg, not_true_eq_false, not_false_eq_true]
          exact ih (_, _, _, _, _, _, _, _) _ (new (fun z => g2 z.2.2))
      · rw [k281_2]
        simp +decide (maxSteps := 4000000) (disch := omega) only [k281_0, k281_3, k281_4, k281_5, k281_6, k281_7, k281_8, k281_9, k281_10, k281_r, k281_s, F_al0, T_getR, F_il1, X_iald, F_il2, F_is5i, F_is5r, F_is5m, T_I, T_putI, T_putZ, F_is6i, F_is6r, F_is6m, T_ft, F_il6, F_il5, T_icge, F_is7i, F_is7r, F_is7m, F_is8i, F_is8r, F_is8m, F_is9i, F_is9r, F_is9m, F_il9, T_lst, F_ll10, F_il4, T_i2l, T_mulL, F_ll12, T_subL, F_il3, T_addL, T_sub, F_is14i, F_is14r, F_is14m, J_ifne, F_il14, T_goto, F_il7, F_il8, F_inc9i, F_inc9r, F_inc9m, T_getI, J_ifle, J_icne, T_iast, T_dupI, T_dupR, T_add, F_inc6i, F_inc6r, F_inc6m, T_ret, c241, c243, c282, ↓s241, ↓s243, FM F, d, r1, g1, z3, z4, ln_713, ln_714, show ¬ m ≤ 0 by omega, ↓reduceIte, TK, lt_run hn, le43, Int.le_refl, Int.lt_irrefl, Option.some.injEq, exists_eq_left', true_and, and_true, if_true, if_false, decide_eq_false_iff_not, decide_eq_true_eq, Nat.reduceAdd, Nat.reduceLeDiff, Nat.reduceLT, Int.reduceAdd, Int.reduceSub, Int.reduceMul, Int.reduceNeg, not_true_eq_false, not_false_eq_true]
        exact ih (_, _, _, _, _, _, _, _) _ (new (fun z => g1 z.2.1))
    · rw [k281_2]
      simp +decide (maxSteps := 4000000) (disch := omega) only [k281_0, k281_3, k281_4, k281_5, k281_6, k281_7, k281_8, k281_9, k281_10, k281_r, k281_s, F_al0, T_getR, F_il1, X_iald, F_il2, F_is5i, F_is5r, F_is5m, T_I, T_putI, T_putZ, F_is6i, F_is6r, F_is6m, T_ft, F_il6, F_il5, T_icge, F_is7i, F_is7r, F_is7m, F_is8i, F_is8r, F_is8m, F_is9i, F_is9r, F_is9m, F_il9, T_lst, F_ll10, F_il4, T_i2l, T_mulL, F_ll12, T_subL, F_il3, T_addL, T_sub, F_is14i, F_is14r, F_is14m, J_ifne, F_il14, T_goto, F_il7, F_il8, F_inc9i, F_inc9r, F_inc9m, T_getI, J_ifle, J_icne, T_iast, T_dupI, T_dupR, T_add, F_inc6i, F_inc6r, F_inc6m, T_ret, c241, c243, c282, ↓s241, ↓s243, FM F, d, z3, z4, ln_713, ln_714, show m ≤ 0 by omega, ↓reduceIte, TK, lt_run hn, le43, Int.le_refl, Int.lt_irrefl, Option.some.injEq, exists_eq_left', true_and, and_true, if_true, if_false, decide_eq_false_iff_not, decide_eq_true_eq, Nat.reduceAdd, Nat.reduceLeDiff, Nat.reduceLT, Int.reduceAdd, Int.reduceSub, Int.reduceMul, Int.reduceNeg, not_true_eq_false, not_false_eq_true]
      exact ih (_, _, _, _, _, _, _, _) _ (new (fun z => g z.1))
  · rintro ⟨v7, v8, v9, v10, v11, v12, v13, v14⟩ h' ⟨e1, e3⟩
    dsimp only
    rw [k281_1]
    simp +decide (maxSteps := 4000000) (disch := omega) only [k281_0, k281_3, k281_4, k281_5, k281_6, k281_7, k281_8, k281_9, k281_10, k281_r, k281_s, F_al0, T_getR, F_il1, X_iald, F_il2, F_is5i, F_is5r, F_is5m, T_I, T_putI, T_putZ, F_is6i, F_is6r, F_is6m, T_ft, F_il6, F_il5, T_icge, F_is7i, F_is7r, F_is7m, F_is8i, F_is8r, F_is8m, F_is9i, F_is9r, F_is9m, F_il9, T_lst, F_ll10, F_il4, T_i2l, T_mulL, F_ll12, T_subL, F_il3, T_addL, T_sub, F_is14i, F_is14r, F_is14m, J_ifne, F_il14, T_goto, F_il7, F_il8, F_inc9i, F_inc9r, F_inc9m, T_getI, J_ifle, J_icne, T_iast, T_dupI, T_dupR, T_add, F_inc6i, F_inc6r, F_inc6m, T_ret, c241, c243, c282, ↓s241, ↓s243, ↓reduceIte, TK, lt_run hn, le43, Int.le_refl, Int.lt_irrefl, Option.some.injEq, exists_eq_left', true_and, and_true, if_true, if_false, decide_eq_false_iff_not, decide_eq_true_eq, Nat.reduceAdd, Nat.reduceLeDiff, Nat.reduceLT, Int.reduceAdd, Int.reduceSub, Int.reduceMul, Int.reduceNeg, not_true_eq_false, not_false_eq_true]
    exact kk h' e1 e3
end TB
