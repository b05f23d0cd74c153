/-! pictures: the camera's view -/
section PN
variable {E : AEn} {h h' : AHi} {hr : AHr} {n : Nat} {Q : ARs → Prop} {g a b : Nat} {A B : Pic}
theorem w94 (F : FH hr) (hn : 775 ≤ n) {i : Int} (hi : 0 ≤ i ∧ i < 10) {P pal : Pic} {D cx cy z : Int} {pa : Nat} (p1 : a_kd pa = 20) (p2 : a_ln E pa = 16) (p3 : 43 ≤ pa ∧ pa < 128) (hP : ∀ q, 0 ≤ P q ∧ P q ≤ 15) (P1 : PA h 80 P) (P2 : ∀ c, 1 ≤ c → c < 16 → gA h pa c = J (pal c)) (hD : 16 ≤ D ∧ D ≤ 1024) (hcx : -400 ≤ cx ∧ cx ≤ 400) (hcy : -400 ≤ cy ∧ cy ≤ 400) (hz : 16 ≤ z ∧ z ≤ 256) (c1 : ∀ x, 0 ≤ x → x < 48 → gA h 139 x = J (plc 24 D cx z x)) (c2 : ∀ y, 0 ≤ y → y < 32 → gA h 140 y = J (plc 16 D cy z y)) (P3 : PA h (128 + i.toNat) (fun _ => -1))
    (k : ∀ h', PA h' (128 + i.toNat) (pcL P pal D cx cy z) → Ef (fun x _ => x = 128 + i.toNat) h h' → Q (none, h', hr, n)) : Sp E 94 [.ref 113, .int (J i), .ref 80, .ref pa] h hr n Q := by
  have x1 := X127 E F hi.1 hi.2
  simp +decide (maxSteps := 4000000) (disch := omega) only [k94_0, k94_3, k94_4, k94_5, k94_6, k94_7, k94_r, k94_s, F_al0, T_getR, F_il1, X_aald, F_as4i, F_as4r, F_as4m, T_I, F_is5i, F_is5r, F_is5m, T_ft, F_il5, T_icge, F_is6i, F_is6r, F_is6m, F_il6, X_iald, J_ifeq, F_al2, F_is7i, F_is7r, F_is7m, F_al4, F_il7, J_ifne, T_goto, F_al3, T_iast, F_inc6i, F_inc6r, F_inc6m, F_inc5i, F_inc5r, F_inc5m, T_ret, c145, c151, ↓s145, ↓s151, FX F, x1, kd_127, ln_127, ↓reduceIte, TK, lt_run hn, le43, Int.le_refl, Int.lt_irrefl, Option.some.injEq, exists_eq_left', true_and, and_true, if_true, if_false, decide_eq_false_iff_not, decide_eq_true_eq, Nat.reduceAdd, Nat.reduceLeDiff, Nat.reduceLT, Int.reduceAdd, Int.reduceSub, Int.reduceMul, Int.reduceNeg, not_true_eq_false, not_false_eq_true]
  have inv : ∀ h' (p : Int), (∀ q, 0 ≤ q → q < 1536 → gA h' (128 + i.toNat) q = J (if q < p then pcL P pal D cx cy z q else -1)) → 0 ≤ p → p < 1536 → ∀ v, v = pcL P pal D cx cy z p → ∀ q, 0 ≤ q → q < 1536 → gA (sA h' (128 + i.toNat) p (J v)) (128 + i.toNat) q = J (if q < p + 1 then pcL P pal D cx cy z q else -1) := fun h' p I p0 p1 v ev q q0 q1 => by
    by_cases w : q = p
    · rw [w, gs_s, ev, if_pos (by omega)]
    · rw [gs_k p0 q0 w, I q q0 q1]
      by_cases w2 : q < p
      · rw [if_pos w2, if_pos (by omega)]
      · rw [if_neg w2, if_neg (by omega)]
  refine T_for (σ := Value × Value) (fun y v => [.ref 113, .int (J i), .ref 80, .ref pa, .ref (128 + i.toNat), .int (J y), v.1, v.2]) (fun y _ h' => Ef (fun x _ => x = 128 + i.toNat) h h' ∧ ∀ q, 0 ≤ q → q < 1536 → gA h' (128 + i.toNat) q = J (if q < y * 48 then pcL P pal D cx cy z q else -1)) 0 32 ?_ ?_ 0 (a_mk, a_mk) h (by omega) (by omega) ⟨Ef.refl, fun q q0 q1 => by rw [if_neg (by omega)]; exact P3 q q0 q1⟩
  · rintro y ⟨v5, v6⟩ h1 y0 y1 ⟨e1, i1⟩ ih
    dsimp only
    rw [k94_1]
    simp +decide (maxSteps := 4000000) (disch := omega) only [k94_0, k94_3, k94_4, k94_5, k94_6, k94_7, k94_r, k94_s, F_al0, T_getR, F_il1, X_aald, F_as4i, F_as4r, F_as4m, T_I, F_is5i, F_is5r, F_is5m, T_ft, F_il5, T_icge, F_is6i, F_is6r, F_is6m, F_il6, X_iald, J_ifeq, F_al2, F_is7i, F_is7r, F_is7m, F_al4, F_il7, J_ifne, T_goto, F_al3, T_iast, F_inc6i, F_inc6r, F_inc6m, F_inc5i, F_inc5r, F_inc5m, T_ret, c145, c151, ↓s145, ↓s151, show ¬ 32 ≤ y by omega, ↓reduceIte, TK, lt_run hn, le43, Int.le_refl, Int.lt_irrefl, Option.some.injEq, exists_eq_left', true_and, and_true, if_true, if_false, decide_eq_false_iff_not, decide_eq_true_eq, Nat.reduceAdd, Nat.reduceLeDiff, Nat.reduceLT, Int.reduceAdd, Int.reduceSub, Int.reduceMul, Int.reduceNeg, not_true_eq_false, not_false_eq_true]
    refine T_for (σ := Value) (fun x v => [.ref 113, .int (J i), .ref 80, .ref pa, .ref (128 + i.toNat), .int (J y), .int (J x), v]) (fun x _ h' => Ef (fun x _ => x = 128 + i.toNat) h h' ∧ ∀ q, 0 ≤ q → q < 1536 → gA h' (128 + i.toNat) q = J (if q < y * 48 + x then pcL P pal D cx cy z q else -1)) 0 48 ?_ ?_ 0 v6 h1 (by omega) (by omega) ⟨e1, by rw [Int.add_zero]; exact i1⟩
    · rintro x v h2 x0 x1' ⟨e2, i2⟩ ih2
      have ex : (y * 48 + x) % 48 = x := by omega
      have ey : (y * 48 + x) / 48 = y := by omega
      have d1 : gA h2 139 x = J (plc 24 D cx z x) := (e2.g (by omega)).trans (c1 x x0 x1')
      have d2 : gA h2 140 y = J (plc 16 D cy z y) := (e2.g (by omega)).trans (c2 y y0 y1)
      have pr1 := (plc_r (mid := 24) (x := x) (by omega) hD hcx hz (by omega)).2.2
      have pr2 := (plc_r (mid := 16) (x := y) (by omega) hD hcy hz (by omega)).2.2
      have same : pcL P pal D cx cy z (y * 48 + x) = -1 → ∀ q, 0 ≤ q → q < 1536 → gA h2 (128 + i.toNat) q = J (if q < y * 48 + (x + 1) then pcL P pal D cx cy z q else -1) := fun w q q0 q1 => by
        rw [i2 q q0 q1]
        by_cases w2 : q < y * 48 + x
        · rw [if_pos w2, if_pos (by omega)]
        · rw [if_neg w2]
          by_cases w3 : q = y * 48 + x
          · rw [if_pos (by omega), w3, w]
          · rw [if_neg (by omega)]
      have hv : pcL P pal D cx cy z (y * 48 + x) = if ((0 ≤ plc 24 D cx z x ∧ plc 24 D cx z x ≤ 47) ∧ 0 ≤ plc 16 D cy z y ∧ plc 16 D cy z y ≤ 31) ∧ P (plc 16 D cy z y * 48 + plc 24 D cx z x) ≠ 0 then pal (P (plc 16 D cy z y * 48 + plc 24 D cx z x)) else -1 := by
        unfold pcL
        rw [ex, ey]
      generalize plc 24 D cx z x = px at *
      generalize plc 16 D cy z y = py at *
      by_cases z1 : (0 ≤ px ∧ px ≤ 47) ∧ 0 ≤ py ∧ py ≤ 31
      · have d3 : gA h2 80 (py * 48 + px) = J (P (py * 48 + px)) := (e2.g (by omega)).trans (P1 _ (by omega) (by omega))
        have pp := hP (py * 48 + px)
        by_cases z2 : P (py * 48 + px) = 0
        · rw [if_neg (fun q => q.2 z2)] at hv
          rw [k94_2]
          simp +decide (maxSteps := 4000000) (disch := omega) only [k94_0, k94_3, k94_4, k94_5, k94_6, k94_7, k94_r, k94_s, F_al0, T_getR, F_il1, X_aald, F_as4i, F_as4r, F_as4m, T_I, F_is5i, F_is5r, F_is5m, T_ft, F_il5, T_icge, F_is6i, F_is6r, F_is6m, F_il6, X_iald, J_ifeq, F_al2, F_is7i, F_is7r, F_is7m, F_al4, F_il7, J_ifne, T_goto, F_al3, T_iast, F_inc6i, F_inc6r, F_inc6m, F_inc5i, F_inc5r, F_inc5m, T_ret, c145, c151, ↓s145, ↓s151, FX F, x1, d1, d2, d3, z1, z2, Bz_t, ln_80, ln_139, ln_140, show ¬ 48 ≤ x by omega, ↓reduceIte, TK, lt_run hn, le43, Int.le_refl, Int.lt_irrefl, Option.some.injEq, exists_eq_left', true_and, and_true, if_true, if_false, decide_eq_false_iff_not, decide_eq_true_eq, Nat.reduceAdd, Nat.reduceLeDiff, Nat.reduceLT, Int.reduceAdd, Int.reduceSub, Int.reduceMul, Int.reduceNeg, not_true_eq_false, not_false_eq_true]
          refine ih2 _ _ ⟨e2.sA rfl, fun q q0 q1 => ?_⟩
          have := inv h2 (y * 48 + x) i2 (by omega) (by omega) (-1) hv.symm q q0 q1
          rw [show y * 48 + (x + 1) = y * 48 + x + 1 by omega]
          exact this
        · rw [if_pos ⟨z1, z2⟩] at hv
          have d4 : gA h2 pa (P (py * 48 + px)) = J (pal (P (py * 48 + px))) := (e2.g (by omega)).trans (P2 _ (by omega) (by omega))
          rw [k94_2]
          simp +decide (maxSteps := 4000000) (disch := omega) only [k94_0, k94_3, k94_4, k94_5, k94_6, k94_7, k94_r, k94_s, F_al0, T_getR, F_il1, X_aald, F_as4i, F_as4r, F_as4m, T_I, F_is5i, F_is5r, F_is5m, T_ft, F_il5, T_icge, F_is6i, F_is6r, F_is6m, F_il6, X_iald, J_ifeq, F_al2, F_is7i, F_is7r, F_is7m, F_al4, F_il7, J_ifne, T_goto, F_al3, T_iast, F_inc6i, F_inc6r, F_inc6m, F_inc5i, F_inc5r, F_inc5m, T_ret, c145, c151, ↓s145, ↓s151, FX F, x1, d1, d2, d3, d4, p1, p2, z1, z2, Bz_t, ln_80, ln_139, ln_140, show ¬ 48 ≤ x by omega, ↓reduceIte, TK, lt_run hn, le43, Int.le_refl, Int.lt_irrefl, Option.some.injEq, exists_eq_left', true_and, and_true, if_true, if_false, decide_eq_false_iff_not, decide_eq_true_eq, Nat.reduceAdd, Nat.reduceLeDiff, Nat.reduceLT, Int.reduceAdd, Int.reduceSub, Int.reduceMul, Int.reduceNeg, not_true_eq_false, not_false_eq_true]
          refine ih2 _ _ ⟨e2.sA rfl, fun q q0 q1 => ?_⟩
          have := inv h2 (y * 48 + x) i2 (by omega) (by omega) _ hv.symm q q0 q1
          rw [show y * 48 + (x + 1) = y * 48 + x + 1 by omega]
          exact this
      · rw [if_neg (fun q => z1 q.1)] at hv
        rw [k94_2]
        simp +decide (maxSteps := 4000000) (disch := omega) only [k94_0, k94_3, k94_4, k94_5, k94_6, k94_7, k94_r, k94_s, F_al0, T_getR, F_il1, X_aald, F_as4i, F_as4r, F_as4m, T_I, F_is5i, F_is5r, F_is5m, T_ft, F_il5, T_icge, F_is6i, F_is6r, F_is6m, F_il6, X_iald, J_ifeq, F_al2, F_is7i, F_is7r, F_is7m, F_al4, F_il7, J_ifne, T_goto, F_al3, T_iast, F_inc6i, F_inc6r, F_inc6m, F_inc5i, F_inc5r, F_inc5m, T_ret, c145, c151, ↓s145, ↓s151, FX F, x1, d1, d2, z1, Bz_f, ln_139, ln_140, show ¬ 48 ≤ x by omega, ↓reduceIte, TK, lt_run hn, le43, Int.le_refl, Int.lt_irrefl, Option.some.injEq, exists_eq_left', true_and, and_true, if_true, if_false, decide_eq_false_iff_not, decide_eq_true_eq, Nat.reduceAdd, Nat.reduceLeDiff, Nat.reduceLT, Int.reduceAdd, Int.reduceSub, Int.reduceMul, Int.reduceNeg, not_true_eq_false, not_false_eq_true]
        exact ih2 _ _ ⟨e2, same hv⟩
    · rintro v h2 ⟨e2, i2⟩
      rw [k94_2]
      simp +decide (maxSteps := 4000000) (disch := omega) only [k94_0, k94_3, k94_4, k94_5, k94_6, k94_7, k94_r, k94_s, F_al0, T_getR, F_il1, X_aald, F_as4i, F_as4r, F_as4m, T_I, F_is5i, F_is5r, F_is5m, T_ft, F_il5, T_icge, F_is6i, F_is6r, F_is6m, F_il6, X_iald, J_ifeq, F_al2, F_is7i, F_is7r, F_is7m, F_al4, F_il7, J_ifne, T_goto, F_al3, T_iast, F_inc6i, F_inc6r, F_inc6m, F_inc5i, F_inc5r, F_inc5m, T_ret, c145, c151, ↓s145, ↓s151, ↓reduceIte, TK, lt_run hn, le43, Int.le_refl, Int.lt_irrefl, Option.some.injEq, exists_eq_left', true_and, and_true, if_true, if_false, decide_eq_false_iff_not, decide_eq_true_eq, Nat.reduceAdd, Nat.reduceLeDiff, Nat.reduceLT, Int.reduceAdd, Int.reduceSub, Int.reduceMul, Int.reduceNeg, not_true_eq_false, not_false_eq_true]
      exact ih (_, _) _ ⟨e2, by rw [show (y + 1) * 48 = y * 48 + 48 by omega]; exact i2⟩
  · rintro ⟨v5, v6⟩ h1 ⟨e1, i1⟩
    dsimp only
    rw [k94_1]
    simp +decide (maxSteps := 4000000) (disch := omega) only [k94_0, k94_3, k94_4, k94_5, k94_6, k94_7, k94_r, k94_s, F_al0, T_getR, F_il1, X_aald, F_as4i, F_as4r, F_as4m, T_I, F_is5i, F_is5r, F_is5m, T_ft, F_il5, T_icge, F_is6i, F_is6r, F_is6m, F_il6, X_iald, J_ifeq, F_al2, F_is7i, F_is7r, F_is7m, F_al4, F_il7, J_ifne, T_goto, F_al3, T_iast, F_inc6i, F_inc6r, F_inc6m, F_inc5i, F_inc5r, F_inc5m, T_ret, c145, c151, ↓s145, ↓s151, ↓reduceIte, TK, lt_run hn, le43, Int.le_refl, Int.lt_irrefl, Option.some.injEq, exists_eq_left', true_and, and_true, if_true, if_false, decide_eq_false_iff_not, decide_eq_true_eq, Nat.reduceAdd, Nat.reduceLeDiff, Nat.reduceLT, Int.reduceAdd, Int.reduceSub, Int.reduceMul, Int.reduceNeg, not_true_eq_false, not_false_eq_true]
    refine k h1 (fun q q0 q1 => ?_) e1
    have := i1 q q0 q1
    rw [if_pos (by omega)] at this
    exact this
end PN
