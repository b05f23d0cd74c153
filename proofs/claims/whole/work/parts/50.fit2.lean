/-! fit: the reference's side, the call -/
section FU
variable {E : AEn} {h h' : AHi} {hr : AHr} {n : Nat} {Q : ARs → Prop} {s : Stk} {e i j : Int}
theorem w235 (F : FH hr) (hn : 775 ≤ n) (R : SR s) {m : Int} (hm : 0 ≤ m ∧ m < 128) (he : 0 ≤ e ∧ e ≤ 20) (hi : 0 ≤ i) (hj : i < j ∧ j < s.2.1) (C : SM h m s) (k : Q (some (.int (Bz (clo s e i j))), h, hr, n)) : Sp E 235 [.ref 704, .int (J m), .int (J i), .int (J j), .int (J e)] h hr n Q := by
  have r2 := R.2.1
  have ci := C.2 i (by omega) (by omega)
  have cj := C.2 j (by omega) (by omega)
  have mr := mst_r (e := e) R he i j
  have ri := R.2.2 i
  have rj := R.2.2 j
  simp +decide (maxSteps := 4000000) (disch := omega) only [k235_0, k235_2, k235_3, k235_4, k235_r, k235_s, F_al0, T_getR, T_I, F_il1, T_mul, F_il3, T_add, X_iald, F_il2, T_sub, T_i2l, T_lst, F_is9i, F_is9r, F_is9m, F_is10i, F_is10r, F_is10m, T_ft, F_il10, T_icge, F_ll5, T_mulL, F_ll7, T_subL, F_il9, J_ifeq, F_ll11, F_il4, T_addL, T_lcmp, J_ifgt, T_goto, F_inc10i, F_inc10r, F_inc10m, T_ret, FM F, ln_711, ln_712, ci, cj, J_l, TK, lt_run hn, le43, Int.le_refl, Int.lt_irrefl, Option.some.injEq, exists_eq_left', true_and, and_true, if_true, if_false, decide_eq_false_iff_not, decide_eq_true_eq, Nat.reduceAdd, Nat.reduceLeDiff, Nat.reduceLT, Int.reduceAdd, Int.reduceSub, Int.reduceMul, Int.reduceNeg, not_true_eq_false, not_false_eq_true]
  refine T_for (σ := Bool × Value × Value) (fun q v => [.ref 704, .int (J m), .int (J i), .int (J j), .int (J e), .long (L (s.2.2.1 j - s.2.2.1 i)), a_mk, .long (L (s.2.2.2 j - s.2.2.2 i)), a_mk, .int (Bz v.1), .int (J q), v.2.1, v.2.2]) (fun q v h' => h' = h ∧ v.1 = clB s e i j (q - i - 1).toNat) (i + 1) j ?_ ?_ (i + 1) (true, a_mk, a_mk) h (by omega) (by omega) ⟨rfl, by rw [show (i + 1 - i - 1).toNat = 0 by omega]; rfl⟩
  · rintro q ⟨cl, v11, v12⟩ h' q0 q1 ⟨rfl, hp⟩ ih
    dsimp only at hp ⊢
    have cq := C.2 q (by omega) (by omega)
    have rq := R.2.2 q
    have cr := crs_r R i q j
    have cm := mulb (a := crs s i q j) (b := crs s i q j) (A := 3000) (B := 3000) (by omega) (by omega)
    have ec : crs s i q j = (s.2.2.1 j - s.2.2.1 i) * (s.2.2.2 q - s.2.2.2 i) - (s.2.2.2 j - s.2.2.2 i) * (s.2.2.1 q - s.2.2.1 i) := rfl
    have em : mst s e i j = e * e * ((s.2.2.1 j - s.2.2.1 i) * (s.2.2.1 j - s.2.2.1 i) + (s.2.2.2 j - s.2.2.2 i) * (s.2.2.2 j - s.2.2.2 i)) := rfl
    have cs := clB_s (s := s) (e := e) hj.1 q0
    rw [← hp] at cs
    cases cl with
    | false =>
      rw [k235_1]
      simp +decide (maxSteps := 4000000) (disch := omega) only [k235_0, k235_2, k235_3, k235_4, k235_r, k235_s, F_al0, T_getR, T_I, F_il1, T_mul, F_il3, T_add, X_iald, F_il2, T_sub, T_i2l, T_lst, F_is9i, F_is9r, F_is9m, F_is10i, F_is10r, F_is10m, T_ft, F_il10, T_icge, F_ll5, T_mulL, F_ll7, T_subL, F_il9, J_ifeq, F_ll11, F_il4, T_addL, T_lcmp, J_ifgt, T_goto, F_inc10i, F_inc10r, F_inc10m, T_ret, FM F, ln_711, ln_712, ci, cj, cq, J_l, Bz_f, show ¬ j ≤ q by omega, TK, lt_run hn, le43, Int.le_refl, Int.lt_irrefl, Option.some.injEq, exists_eq_left', true_and, and_true, if_true, if_false, decide_eq_false_iff_not, decide_eq_true_eq, Nat.reduceAdd, Nat.reduceLeDiff, Nat.reduceLT, Int.reduceAdd, Int.reduceSub, Int.reduceMul, Int.reduceNeg, not_true_eq_false, not_false_eq_true]
      refine ih (false, _, _) _ ⟨rfl, ?_⟩
      rw [cs]
      rfl
    | true =>
      by_cases g : crs s i q j * crs s i q j ≤ mst s e i j
      · rw [k235_1]
        simp +decide (maxSteps := 4000000) (disch := omega) only [k235_0, k235_2, k235_3, k235_4, k235_r, k235_s, F_al0, T_getR, T_I, F_il1, T_mul, F_il3, T_add, X_iald, F_il2, T_sub, T_i2l, T_lst, F_is9i, F_is9r, F_is9m, F_is10i, F_is10r, F_is10m, T_ft, F_il10, T_icge, F_ll5, T_mulL, F_ll7, T_subL, F_il9, J_ifeq, F_ll11, F_il4, T_addL, T_lcmp, J_ifgt, T_goto, F_inc10i, F_inc10r, F_inc10m, T_ret, FM F, ln_711, ln_712, ci, cj, cq, J_l, Bz_t, ← ec, ← em, lc_gt, L_cmp_lt, show ¬ mst s e i j < crs s i q j * crs s i q j by omega, show ¬ j ≤ q by omega, TK, lt_run hn, le43, Int.le_refl, Int.lt_irrefl, Option.some.injEq, exists_eq_left', true_and, and_true, if_true, if_false, decide_eq_false_iff_not, decide_eq_true_eq, Nat.reduceAdd, Nat.reduceLeDiff, Nat.reduceLT, Int.reduceAdd, Int.reduceSub, Int.reduceMul, Int.reduceNeg, not_true_eq_false, not_false_eq_true]
        refine ih (true, _, _) _ ⟨rfl, ?_⟩
        rw [cs, decide_eq_true g]
        rfl
      · rw [k235_1]
        simp +decide (maxSteps := 4000000) (disch := omega) only [k235_0, k235_2, k235_3, k235_4, k235_r, k235_s, F_al0, T_getR, T_I, F_il1, T_mul, F_il3, T_add, X_iald, F_il2, T_sub, T_i2l, T_lst, F_is9i, F_is9r, F_is9m, F_is10i, F_is10r, F_is10m, T_ft, F_il10, T_icge, F_ll5, T_mulL, F_ll7, T_subL, F_il9, J_ifeq, F_ll11, F_il4, T_addL, T_lcmp, J_ifgt, T_goto, F_inc10i, F_inc10r, F_inc10m, T_ret, FM F, ln_711, ln_712, ci, cj, cq, J_l, Bz_t, ← ec, ← em, lc_gt, L_cmp_lt, show mst s e i j < crs s i q j * crs s i q j by omega, show ¬ j ≤ q by omega, TK, lt_run hn, le43, Int.le_refl, Int.lt_irrefl, Option.some.injEq, exists_eq_left', true_and, and_true, if_true, if_false, decide_eq_false_iff_not, decide_eq_true_eq, Nat.reduceAdd, Nat.reduceLeDiff, Nat.reduceLT, Int.reduceAdd, Int.reduceSub, Int.reduceMul, Int.reduceNeg, not_true_eq_false, not_false_eq_true]
        refine ih (false, _, _) _ ⟨rfl, ?_⟩
        rw [cs, decide_eq_false g]
        rfl
  · rintro ⟨cl, v11, v12⟩ h' ⟨rfl, hp⟩
    dsimp only at hp ⊢
    rw [k235_1]
    simp +decide (maxSteps := 4000000) (disch := omega) only [k235_0, k235_2, k235_3, k235_4, k235_r, k235_s, F_al0, T_getR, T_I, F_il1, T_mul, F_il3, T_add, X_iald, F_il2, T_sub, T_i2l, T_lst, F_is9i, F_is9r, F_is9m, F_is10i, F_is10r, F_is10m, T_ft, F_il10, T_icge, F_ll5, T_mulL, F_ll7, T_subL, F_il9, J_ifeq, F_ll11, F_il4, T_addL, T_lcmp, J_ifgt, T_goto, F_inc10i, F_inc10r, F_inc10m, T_ret, TK, lt_run hn, le43, Int.le_refl, Int.lt_irrefl, Option.some.injEq, exists_eq_left', true_and, and_true, if_true, if_false, decide_eq_false_iff_not, decide_eq_true_eq, Nat.reduceAdd, Nat.reduceLeDiff, Nat.reduceLT, Int.reduceAdd, Int.reduceSub, Int.reduceMul, Int.reduceNeg, not_true_eq_false, not_false_eq_true]
    rw [hp]
    exact k
theorem z234a (F : FH hr) (hn : 775 ≤ n) (R : SR s) {m : Int} {v1 v2 : Value} (hm : 0 ≤ m ∧ m < 128) (he : 0 ≤ e ∧ e ≤ 20) (hi : 0 ≤ i ∧ i < s.2.1 - 1) (C : SM h m s) (v8 : Value)
    (k : ∀ v8, Tm E 234 (a_bl 234 9) [.ref 704, v1, v2, .int (J e), .int (J m), .int (J i), .int (J (nxt s e i)), .int (J s.2.1), v8] [] h hr n Q) : Tm E 234 (a_bl 234 4) [.ref 704, v1, v2, .int (J e), .int (J m), .int (J i), .int (J (i + 1)), .int (J (i + 1)), v8] [] h hr n Q := by
  have r2 := R.2.1
  have ci := C.2 i (by omega) (by omega)
  have c1 := C.1.2
  have ri := R.2.2 i
  refine T_for (σ := Int × Value) (fun q v => [.ref 704, v1, v2, .int (J e), .int (J m), .int (J i), .int (J v.1), .int (J q), v.2]) (fun q v h' => h' = h ∧ v.1 = nxd s e i (q - 1 - i - 1).toNat) (i + 1) s.2.1 ?_ ?_ (i + 1) (i + 1, v8) h (by omega) (by omega) ⟨rfl, by dsimp only; rw [show (i + 1 - 1 - i - 1).toNat = 0 by omega]; rfl⟩
  · rintro q ⟨nx, v8⟩ h' q0 q1 ⟨rfl, hp⟩ ih
    dsimp only at hp ⊢
    have cq := C.2 q (by omega) (by omega)
    have rq := R.2.2 q
    have nr := nxd_r (s := s) (e := e) (i := i) (q - 1 - i - 1).toNat
    have step : ∀ g : Bool, gd s e i q = g → nxd s e i (q + 1 - 1 - i - 1).toNat = bif g then q else nx := fun g hg => by
      rw [show (q + 1 - 1 - i - 1).toNat = (q - i - 1).toNat by omega]
      by_cases eq : q = i + 1
      · rw [show (q - i - 1).toNat = 0 by omega, hp, show (q - 1 - i - 1).toNat = 0 by omega]
        cases g with
        | true => show i + 1 = q; omega
        | false => rfl
      · rw [nxd_s hi.1 (by omega), hg, hp]
    by_cases g1 : s.2.2.1 q = s.2.2.1 i ∧ s.2.2.2 q = s.2.2.2 i
    · have gf : gd s e i q = false := by
        unfold gd
        rw [decide_eq_true (⟨g1.1.symm, g1.2.symm⟩ : s.2.2.1 i = s.2.2.1 q ∧ s.2.2.2 i = s.2.2.2 q)]
        rfl
      rw [k234_4]
      simp +decide (maxSteps := 4000000) (disch := omega) only [k234_0, k234_1, k234_2, k234_5, k234_6, k234_7, k234_8, k234_9, k234_10, k234_r, k234_s, F_al0, F_il1, F_il2, J_ifeq, F_il3, T_I, J_ifne, T_ft, T_ret, T_mul, T_add, F_is4i, F_is4r, F_is4m, T_putI, T_putZ, T_getR, F_il4, X_iald, T_iast, F_is5i, F_is5r, F_is5m, F_il5, T_sub, T_icge, F_is6i, F_is6r, F_is6m, F_is7i, F_is7r, F_is7m, F_il7, J_icne, T_iceq, T_goto, F_is8i, F_is8r, F_is8m, F_il8, F_inc7i, F_inc7r, F_inc7m, F_il6, T_getI, T_dupI, T_dupR, c219, c227, c229, c235, ↓s219, ↓s229, FM F, c1, ci, cq, ln_710, ln_711, ln_712, g1, show ¬ s.2.1 ≤ q by omega, TK, lt_run hn, le43, Int.le_refl, Int.lt_irrefl, Option.some.injEq, exists_eq_left', true_and, and_true, if_true, if_false, decide_eq_false_iff_not, decide_eq_true_eq, Nat.reduceAdd, Nat.reduceLeDiff, Nat.reduceLT, Int.reduceAdd, Int.reduceSub, Int.reduceMul, Int.reduceNeg, not_true_eq_false, not_false_eq_true]
      refine ih (nx, _) _ ⟨rfl, ?_⟩
      rw [step false gf]
      rfl
    · have gf : gd s e i q = clo s e i q := by
        unfold gd
        rw [decide_eq_false (fun q' : s.2.2.1 i = s.2.2.1 q ∧ s.2.2.2 i = s.2.2.2 q => g1 ⟨q'.1.symm, q'.2.symm⟩)]
        rfl
      have go : Tm E 234 (a_bl 234 7) [.ref 704, v1, v2, .int (J e), .int (J m), .int (J i), .int (J nx), .int (J q), v8] [.int (J 1)] h' hr n Q := by
        simp +decide (maxSteps := 4000000) (disch := omega) only [k234_0, k234_1, k234_2, k234_5, k234_6, k234_7, k234_8, k234_9, k234_10, k234_r, k234_s, F_al0, F_il1, F_il2, J_ifeq, F_il3, T_I, J_ifne, T_ft, T_ret, T_mul, T_add, F_is4i, F_is4r, F_is4m, T_putI, T_putZ, T_getR, F_il4, X_iald, T_iast, F_is5i, F_is5r, F_is5m, F_il5, T_sub, T_icge, F_is6i, F_is6r, F_is6m, F_is7i, F_is7r, F_is7m, F_il7, J_icne, T_iceq, T_goto, F_is8i, F_is8r, F_is8m, F_il8, F_inc7i, F_inc7r, F_inc7m, F_il6, T_getI, T_dupI, T_dupR, c219, c227, c229, c235, ↓s219, ↓s229, TK, lt_run hn, le43, Int.le_refl, Int.lt_irrefl, Option.some.injEq, exists_eq_left', true_and, and_true, if_true, if_false, decide_eq_false_iff_not, decide_eq_true_eq, Nat.reduceAdd, Nat.reduceLeDiff, Nat.reduceLT, Int.reduceAdd, Int.reduceSub, Int.reduceMul, Int.reduceNeg, not_true_eq_false, not_false_eq_true]
        refine w235 F hn R hm he hi.1 (by omega) C ?_
        cases hc : clo s e i q with
        | true =>
          simp +decide (maxSteps := 4000000) (disch := omega) only [k234_0, k234_1, k234_2, k234_5, k234_6, k234_7, k234_8, k234_9, k234_10, k234_r, k234_s, F_al0, F_il1, F_il2, J_ifeq, F_il3, T_I, J_ifne, T_ft, T_ret, T_mul, T_add, F_is4i, F_is4r, F_is4m, T_putI, T_putZ, T_getR, F_il4, X_iald, T_iast, F_is5i, F_is5r, F_is5m, F_il5, T_sub, T_icge, F_is6i, F_is6r, F_is6m, F_is7i, F_is7r, F_is7m, F_il7, J_icne, T_iceq, T_goto, F_is8i, F_is8r, F_is8m, F_il8, F_inc7i, F_inc7r, F_inc7m, F_il6, T_getI, T_dupI, T_dupR, c219, c227, c229, c235, ↓s219, ↓s229, Bz_t, TK, lt_run hn, le43, Int.le_refl, Int.lt_irrefl, Option.some.injEq, exists_eq_left', true_and, and_true, if_true, if_false, decide_eq_false_iff_not, decide_eq_true_eq, Nat.reduceAdd, Nat.reduceLeDiff, Nat.reduceLT, Int.reduceAdd, Int.reduceSub, Int.reduceMul, Int.reduceNeg, not_true_eq_false, not_false_eq_true]
          refine ih (q, _) _ ⟨rfl, ?_⟩
          rw [step true (gf.trans hc)]
          rfl
        | false =>
          simp +decide (maxSteps := 4000000) (disch := omega) only [k234_0, k234_1, k234_2, k234_5, k234_6, k234_7, k234_8, k234_9, k234_10, k234_r, k234_s, F_al0, F_il1, F_il2, J_ifeq, F_il3, T_I, J_ifne, T_ft, T_ret, T_mul, T_add, F_is4i, F_is4r, F_is4m, T_putI, T_putZ, T_getR, F_il4, X_iald, T_iast, F_is5i, F_is5r, F_is5m, F_il5, T_sub, T_icge, F_is6i, F_is6r, F_is6m, F_is7i, F_is7r, F_is7m, F_il7, J_icne, T_iceq, T_goto, F_is8i, F_is8r, F_is8m, F_il8, F_inc7i, F_inc7r, F_inc7m, F_il6, T_getI, T_dupI, T_dupR, c219, c227, c229, c235, ↓s219, ↓s229, Bz_f, TK, lt_run hn, le43, Int.le_refl, Int.lt_irrefl, Option.some.injEq, exists_eq_left', true_and, and_true, if_true, if_false, decide_eq_false_iff_not, decide_eq_true_eq, Nat.reduceAdd, Nat.reduceLeDiff, Nat.reduceLT, Int.reduceAdd, Int.reduceSub, Int.reduceMul, Int.reduceNeg, not_true_eq_false, not_false_eq_true]
          refine ih (nx, _) _ ⟨rfl, ?_⟩
          rw [step false (gf.trans hc)]
          rfl
      by_cases g2 : s.2.2.1 q = s.2.2.1 i
      · rw [k234_4]
        simp +decide (maxSteps := 4000000) (disch := omega) only [k234_0, k234_1, k234_2, k234_5, k234_6, k234_8, k234_9, k234_10, k234_r, k234_s, F_al0, F_il1, F_il2, J_ifeq, F_il3, T_I, J_ifne, T_ft, T_ret, T_mul, T_add, F_is4i, F_is4r, F_is4m, T_putI, T_putZ, T_getR, F_il4, X_iald, T_iast, F_is5i, F_is5r, F_is5m, F_il5, T_sub, T_icge, F_is6i, F_is6r, F_is6m, F_is7i, F_is7r, F_is7m, F_il7, J_icne, T_iceq, T_goto, F_is8i, F_is8r, F_is8m, F_il8, F_inc7i, F_inc7r, F_inc7m, F_il6, T_getI, T_dupI, T_dupR, c219, c227, c229, c235, ↓s219, ↓s229, FM F, c1, ci, cq, ln_710, ln_711, ln_712, g2, show ¬ s.2.2.2 q = s.2.2.2 i from fun q' => g1 ⟨g2, q'⟩, show ¬ s.2.1 ≤ q by omega, TK, lt_run hn, le43, Int.le_refl, Int.lt_irrefl, Option.some.injEq, exists_eq_left', true_and, and_true, if_true, if_false, decide_eq_false_iff_not, decide_eq_true_eq, Nat.reduceAdd, Nat.reduceLeDiff, Nat.reduceLT, Int.reduceAdd, Int.reduceSub, Int.reduceMul, Int.reduceNeg, not_true_eq_false, not_false_eq_true]
        exact go
      · rw [k234_4]
        simp +decide (maxSteps := 4000000) (disch := omega) only [k234_0, k234_1, k234_2, k234_5, k234_6, k234_8, k234_9, k234_10, k234_r, k234_s, F_al0, F_il1, F_il2, J_ifeq, F_il3, T_I, J_ifne, T_ft, T_ret, T_mul, T_add, F_is4i, F_is4r, F_is4m, T_putI, T_putZ, T_getR, F_il4, X_iald, T_iast, F_is5i, F_is5r, F_is5m, F_il5, T_sub, T_icge, F_is6i, F_is6r, F_is6m, F_is7i, F_is7r, F_is7m, F_il7, J_icne, T_iceq, T_goto, F_is8i, F_is8r, F_is8m, F_il8, F_inc7i, F_inc7r, F_inc7m, F_il6, T_getI, T_dupI, T_dupR, c219, c227, c229, c235, ↓s219, ↓s229, FM F, c1, ci, cq, ln_710, ln_711, ln_712, g2, show ¬ s.2.1 ≤ q by omega, TK, lt_run hn, le43, Int.le_refl, Int.lt_irrefl, Option.some.injEq, exists_eq_left', true_and, and_true, if_true, if_false, decide_eq_false_iff_not, decide_eq_true_eq, Nat.reduceAdd, Nat.reduceLeDiff, Nat.reduceLT, Int.reduceAdd, Int.reduceSub, Int.reduceMul, Int.reduceNeg, not_true_eq_false, not_false_eq_true]
        exact go
  · rintro ⟨nx, v8⟩ h' ⟨rfl, hp⟩
    dsimp only at hp ⊢
    rw [k234_4]
    simp +decide (maxSteps := 4000000) (disch := omega) only [k234_0, k234_1, k234_2, k234_5, k234_6, k234_7, k234_8, k234_10, k234_r, k234_s, F_al0, F_il1, F_il2, J_ifeq, F_il3, T_I, J_ifne, T_ft, T_ret, T_mul, T_add, F_is4i, F_is4r, F_is4m, T_putI, T_putZ, T_getR, F_il4, X_iald, T_iast, F_is5i, F_is5r, F_is5m, F_il5, T_sub, T_icge, F_is6i, F_is6r, F_is6m, F_is7i, F_is7r, F_is7m, F_il7, J_icne, T_iceq, T_goto, F_is8i, F_is8r, F_is8m, F_il8, F_inc7i, F_inc7r, F_inc7m, F_il6, T_getI, T_dupI, T_dupR, c219, c227, c229, c235, ↓s219, ↓s229, FM F, c1, ln_710, TK, lt_run hn, le43, Int.le_refl, Int.lt_irrefl, Option.some.injEq, exists_eq_left', true_and, and_true, if_true, if_false, decide_eq_false_iff_not, decide_eq_true_eq, Nat.reduceAdd, Nat.reduceLeDiff, Nat.reduceLT, Int.reduceAdd, Int.reduceSub, Int.reduceMul, Int.reduceNeg, not_true_eq_false, not_false_eq_true]
    have e1 : nx = nxt s e i := by
      rw [hp]
      unfold nxt
      rw [show (s.2.1 - 1 - i - 1).toNat = (s.2.1 - 2 - i).toNat by omega]
    rw [e1]
    exact k _
theorem fitS_r (R : SR s) {m : Int} (hm : fitE s e m) : SR (fitS s e m) := by
  have r2 := R.2.1
  obtain ⟨m0, m1, m2, m3⟩ := hm
  refine ⟨R.1, ⟨?_, ?_⟩, fun j => R.2.2 _⟩
  · show 2 ≤ m + 1
    by_cases q : m = 0
    · rw [q] at m2
      have : (0 : Int) = s.2.1 - 1 := m2
      omega
    · omega
  · show m + 1 ≤ 10
    omega
theorem w234 (F : FH hr) (hn : 775 ≤ n) (R : SR s) {d u m : Int} (hd : 0 ≤ d ∧ d < 16) (hu : 0 ≤ u ∧ u < 8) (he : 0 ≤ e ∧ e ≤ 20) (hm : fitE s e m) (C : SM h (8 * d + u) s)
    (k : ∀ h', SM h' (8 * d + u) (fitS s e m) → Ef (fun a k => Sn a k ∨ Sk (8 * d + u).toNat a k) h h' → Q (some (.int (J (m + 1))), h', hr, n)) : Tm E 234 (a_bl 234 2) [.ref 704, .int (J d), .int (J u), .int (J e), a_mk, a_mk, a_mk, a_mk, a_mk] [] h hr n Q := by
  have r2 := R.2.1
  have c0 := C.2 0 (by omega) (by omega)
  rw [Int.add_zero] at c0
  obtain ⟨m0, m1, m2, m3⟩ := id hm
  have cx : gA (hI h 704 15 (J 1)) 711 (10 * (8 * d + u)) = J (s.2.2.1 0) := by rw [gA_o (by decide)]; exact c0.1
  have cy : gA (sA (hI h 704 15 (J 1)) 713 0 (J (s.2.2.1 0))) 712 (10 * (8 * d + u)) = J (s.2.2.2 0) := by rw [gs_o (by decide), gA_o (by decide)]; exact c0.2
  rw [k234_2]
  simp +decide (maxSteps := 4000000) (disch := omega) only [k234_0, k234_1, k234_2, k234_5, k234_6, k234_7, k234_8, k234_9, k234_10, k234_r, k234_s, F_al0, F_il1, F_il2, J_ifeq, F_il3, T_I, J_ifne, T_ft, T_ret, T_mul, T_add, F_is4i, F_is4r, F_is4m, T_putI, T_putZ, T_getR, F_il4, X_iald, T_iast, F_is5i, F_is5r, F_is5m, F_il5, T_sub, T_icge, F_is6i, F_is6r, F_is6m, F_is7i, F_is7r, F_is7m, F_il7, J_icne, T_iceq, T_goto, F_is8i, F_is8r, F_is8m, F_il8, F_inc7i, F_inc7r, F_inc7m, F_il6, T_getI, T_dupI, T_dupR, c219, c227, c229, c235, ↓s219, ↓s229, FM F, ln_711, ln_712, ln_713, ln_714, cx, cy, TK, lt_run hn, le43, Int.le_refl, Int.lt_irrefl, Option.some.injEq, exists_eq_left', true_and, and_true, if_true, if_false, decide_eq_false_iff_not, decide_eq_true_eq, Nat.reduceAdd, Nat.reduceLeDiff, Nat.reduceLT, Int.reduceAdd, Int.reduceSub, Int.reduceMul, Int.reduceNeg, not_true_eq_false, not_false_eq_true]
  have fr : ∀ {h'}, Ef Sn h h' → SM h' (8 * d + u) s := fun e1 => C.ef (by omega) r2.2 e1 (fun q => by unfold Sn at q; omega) (fun q => by unfold Sn at q; omega) (fun i _ _ => ⟨fun q => by unfold Sn at q; omega, fun q => by unfold Sn at q; omega⟩)
  refine T_for (σ := Value × Value × Value) (fun q v => [.ref 704, .int (J d), .int (J u), .int (J e), .int (J (8 * d + u)), .int (J (stN s e q.toNat)), v.1, v.2.1, v.2.2]) (fun q v h' => Ef Sn h h' ∧ Rm h' (q + 1) (fun j => s.2.2.1 (stN s e j.toNat)) (fun j => s.2.2.2 (stN s e j.toNat))) 0 m ?_ ?_ 0 (a_mk, a_mk, a_mk) _ (by omega) (by omega) ⟨?_, ?_, fun j j0 j1 => ?_⟩
  · rintro q ⟨v6, v7, v8⟩ h1 q0 q1 ⟨e1, R1⟩ ih
    dsimp only
    have C1 := fr e1
    have c1 := C1.1.2
    have mq := m3 q q0 (by omega)
    have mq2 := mq.2 q1
    have nr := nxt_r (s := s) (e := e) mq2
    have ss := stN_s (s := s) (e := e) q0
    rw [k234_3]
    simp +decide (maxSteps := 4000000) (disch := omega) only [k234_0, k234_1, k234_2, k234_5, k234_6, k234_7, k234_8, k234_9, k234_10, k234_r, k234_s, F_al0, F_il1, F_il2, J_ifeq, F_il3, T_I, J_ifne, T_ft, T_ret, T_mul, T_add, F_is4i, F_is4r, F_is4m, T_putI, T_putZ, T_getR, F_il4, X_iald, T_iast, F_is5i, F_is5r, F_is5m, F_il5, T_sub, T_icge, F_is6i, F_is6r, F_is6m, F_is7i, F_is7r, F_is7m, F_il7, J_icne, T_iceq, T_goto, F_is8i, F_is8r, F_is8m, F_il8, F_inc7i, F_inc7r, F_inc7m, F_il6, T_getI, T_dupI, T_dupR, c219, c227, c229, c235, ↓s219, ↓s229, FM F, c1, ln_710, show ¬ s.2.1 - 1 ≤ stN s e q.toNat by omega, TK, lt_run hn, le43, Int.le_refl, Int.lt_irrefl, Option.some.injEq, exists_eq_left', true_and, and_true, if_true, if_false, decide_eq_false_iff_not, decide_eq_true_eq, Nat.reduceAdd, Nat.reduceLeDiff, Nat.reduceLT, Int.reduceAdd, Int.reduceSub, Int.reduceMul, Int.reduceNeg, not_true_eq_false, not_false_eq_true]
    refine z234a F hn R (by omega) he ⟨by omega, mq2⟩ C1 _ (fun v8' => ?_)
    have cn := C1.2 (nxt s e (stN s e q.toNat)) (by omega) (by omega)
    have r15 := R1.1
    have r16 : sA h1 713 (q + 1) (J (s.2.2.1 (nxt s e (stN s e q.toNat)))) 704 15 = J (q + 1) := by rw [sA_o (by decide)]; exact r15
    have r17 : sA (sA h1 713 (q + 1) (J (s.2.2.1 (nxt s e (stN s e q.toNat))))) 714 (q + 1) (J (s.2.2.2 (nxt s e (stN s e q.toNat)))) 704 15 = J (q + 1) := by rw [sA_o (by decide)]; exact r16
    have cn2 : gA (sA h1 713 (q + 1) (J (s.2.2.1 (nxt s e (stN s e q.toNat))))) 712 (10 * (8 * d + u) + nxt s e (stN s e q.toNat)) = J (s.2.2.2 (nxt s e (stN s e q.toNat))) := by rw [gs_o (by decide)]; exact cn.2
    rw [k234_9]
    simp +decide (maxSteps := 4000000) (disch := omega) only [k234_0, k234_1, k234_2, k234_5, k234_6, k234_7, k234_8, k234_9, k234_10, k234_r, k234_s, F_al0, F_il1, F_il2, J_ifeq, F_il3, T_I, J_ifne, T_ft, T_ret, T_mul, T_add, F_is4i, F_is4r, F_is4m, T_putI, T_putZ, T_getR, F_il4, X_iald, T_iast, F_is5i, F_is5r, F_is5m, F_il5, T_sub, T_icge, F_is6i, F_is6r, F_is6m, F_is7i, F_is7r, F_is7m, F_il7, J_icne, T_iceq, T_goto, F_is8i, F_is8r, F_is8m, F_il8, F_inc7i, F_inc7r, F_inc7m, F_il6, T_getI, T_dupI, T_dupR, c219, c227, c229, c235, ↓s219, ↓s229, FM F, ln_711, ln_712, ln_713, ln_714, cn.1, cn2, r15, r16, r17, TK, lt_run hn, le43, Int.le_refl, Int.lt_irrefl, Option.some.injEq, exists_eq_left', true_and, and_true, if_true, if_false, decide_eq_false_iff_not, decide_eq_true_eq, Nat.reduceAdd, Nat.reduceLeDiff, Nat.reduceLT, Int.reduceAdd, Int.reduceSub, Int.reduceMul, Int.reduceNeg, not_true_eq_false, not_false_eq_true]
    rw [← ss]
    refine ih (_, _, _) _ ⟨((e1.sA (Or.inr (Or.inl rfl))).sA (Or.inr (Or.inr rfl))).hI (Or.inl ⟨rfl, rfl⟩), hI_s, fun j j0 j1 => ?_⟩
    rw [gA_o (by decide), gA_o (by decide), gs_o (by decide)]
    by_cases ej : j = q + 1
    · rw [ej, gs_s, gs_s]
      exact ⟨rfl, rfl⟩
    · rw [gs_k (by omega) j0 ej, gs_k (by omega) j0 ej, gs_o (by decide)]
      exact R1.2 j j0 (by omega)
  · rintro ⟨v6, v7, v8⟩ h1 ⟨e1, R1⟩
    dsimp only
    have C1 := fr e1
    have c1 := C1.1.2
    have c2 := C1.1.1
    rw [k234_3]
    simp +decide (maxSteps := 4000000) (disch := omega) only [k234_0, k234_1, k234_2, k234_5, k234_6, k234_7, k234_8, k234_9, k234_10, k234_r, k234_s, F_al0, F_il1, F_il2, J_ifeq, F_il3, T_I, J_ifne, T_ft, T_ret, T_mul, T_add, F_is4i, F_is4r, F_is4m, T_putI, T_putZ, T_getR, F_il4, X_iald, T_iast, F_is5i, F_is5r, F_is5m, F_il5, T_sub, T_icge, F_is6i, F_is6r, F_is6m, F_is7i, F_is7r, F_is7m, F_il7, J_icne, T_iceq, T_goto, F_is8i, F_is8r, F_is8m, F_il8, F_inc7i, F_inc7r, F_inc7m, F_il6, T_getI, T_dupI, T_dupR, c219, c227, c229, c235, ↓s219, ↓s229, FM F, c1, c2, ln_710, ln_709, m2, show s.2.1 - 1 ≤ s.2.1 - 1 by omega, TK, lt_run hn, le43, Int.le_refl, Int.lt_irrefl, Option.some.injEq, exists_eq_left', true_and, and_true, if_true, if_false, decide_eq_false_iff_not, decide_eq_true_eq, Nat.reduceAdd, Nat.reduceLeDiff, Nat.reduceLT, Int.reduceAdd, Int.reduceSub, Int.reduceMul, Int.reduceNeg, not_true_eq_false, not_false_eq_true]
    refine w227 F hn hd hu (by omega) R1 (fun h2 C2 e2 => ?_)
    have r15 : h2 704 15 = J (m + 1) := by rw [e2 704 15 (fun q => by unfold Sk at q; omega)]; exact R1.1
    simp +decide (maxSteps := 4000000) (disch := omega) only [k234_0, k234_1, k234_2, k234_5, k234_6, k234_7, k234_8, k234_9, k234_10, k234_r, k234_s, F_al0, F_il1, F_il2, J_ifeq, F_il3, T_I, J_ifne, T_ft, T_ret, T_mul, T_add, F_is4i, F_is4r, F_is4m, T_putI, T_putZ, T_getR, F_il4, X_iald, T_iast, F_is5i, F_is5r, F_is5m, F_il5, T_sub, T_icge, F_is6i, F_is6r, F_is6m, F_is7i, F_is7r, F_is7m, F_il7, J_icne, T_iceq, T_goto, F_is8i, F_is8r, F_is8m, F_il8, F_inc7i, F_inc7r, F_inc7m, F_il6, T_getI, T_dupI, T_dupR, c219, c227, c229, c235, ↓s219, ↓s229, FM F, r15, TK, lt_run hn, le43, Int.le_refl, Int.lt_irrefl, Option.some.injEq, exists_eq_left', true_and, and_true, if_true, if_false, decide_eq_false_iff_not, decide_eq_true_eq, Nat.reduceAdd, Nat.reduceLeDiff, Nat.reduceLT, Int.reduceAdd, Int.reduceSub, Int.reduceMul, Int.reduceNeg, not_true_eq_false, not_false_eq_true]
    exact k h2 C2 (Ef.trans (e1.mono fun x k q => Or.inl q) (e2.mono fun x k q => Or.inr q))
  · exact ((Ef.refl.hI (Or.inl ⟨rfl, rfl⟩)).sA (Or.inr (Or.inl rfl))).sA (Or.inr (Or.inr rfl))
  · rw [sA_o (by decide), sA_o (by decide), hI_s]
    rfl
  · have ej : j = 0 := by omega
    subst ej
    rw [gs_o (by decide), gs_s, gs_s]
    exact ⟨rfl, rfl⟩
/-- one stroke is another -/
def setS (D : Drw) (u : Int) (s : Stk) : Drw := (D.1, fun i => if i = u then s else D.2 i)
theorem Pfit (F : FH hr) (hn : 775 ≤ n) (C : Cp3 h hr) (x y z : Int32) : Pr2 E 143 234 [.int x, .int y, .int z] h hr n (Po (fun h' => Cp3 h' hr) 3 3 h hr n) := by
  have C0 := C
  obtain ⟨D, ρ, C⟩ := C
  obtain ⟨a, ha, ha', rfl⟩ := J_of x
  obtain ⟨b, hb, hb', rfl⟩ := J_of y
  obtain ⟨e, he, he', rfl⟩ := J_of z
  unfold Pr2
  by_cases g : (0 ≤ a ∧ a ≤ 15) ∧ 0 ≤ b ∧ b ≤ (D a).1 - 1
  case neg =>
    simp +decide (maxSteps := 4000000) (disch := omega) only [k143_0, k143_1, k143_2, k143_r, k143_s, F_al0, F_il1, F_il2, J_ifeq, F_il3, T_I, J_ifne, T_ft, T_ret, T_getR, X_aald, F_as4i, F_as4r, F_as4m, F_al4, T_getI, c117, c138, c141, ↓s138, FX F, ↓s141 F hn C.1 C.cc, ↓s229 F hn C.1 C.mc, g, TK, lt_run hn, le43, Int.le_refl, Int.lt_irrefl, Option.some.injEq, exists_eq_left', true_and, and_true, if_true, if_false, decide_eq_false_iff_not, decide_eq_true_eq, Nat.reduceAdd, Nat.reduceLeDiff, Nat.reduceLT, Int.reduceAdd, Int.reduceSub, Int.reduceMul, Int.reduceNeg, not_true_eq_false, not_false_eq_true]
    refine ⟨_, rfl, ?_⟩
    simp +decide (maxSteps := 4000000) (disch := omega) only [k234_0, k234_1, k234_2, k234_5, k234_6, k234_7, k234_8, k234_9, k234_10, k234_r, k234_s, F_al0, F_il1, F_il2, J_ifeq, F_il3, T_I, J_ifne, T_ft, T_ret, T_mul, T_add, F_is4i, F_is4r, F_is4m, T_putI, T_putZ, T_getR, F_il4, X_iald, T_iast, F_is5i, F_is5r, F_is5m, F_il5, T_sub, T_icge, F_is6i, F_is6r, F_is6m, F_is7i, F_is7r, F_is7m, F_il7, J_icne, T_iceq, T_goto, F_is8i, F_is8r, F_is8m, F_il8, F_inc7i, F_inc7r, F_inc7m, F_il6, T_getI, T_dupI, T_dupR, c219, c227, c229, c235, ↓s219, FM F, ↓s141 F hn C.1 C.cc, ↓s229 F hn C.1 C.mc, g, TK, lt_run hn, le43, Int.le_refl, Int.lt_irrefl, Option.some.injEq, exists_eq_left', true_and, and_true, if_true, if_false, decide_eq_false_iff_not, decide_eq_true_eq, Nat.reduceAdd, Nat.reduceLeDiff, Nat.reduceLT, Int.reduceAdd, Int.reduceSub, Int.reduceMul, Int.reduceNeg, not_true_eq_false, not_false_eq_true]
    first | exact ⟨rfl, ⟨C0, Kp.refl⟩, rfl, rfl⟩ | exact ⟨⟨C0, Kp.refl⟩, rfl, rfl⟩ | exact ⟨C0, Kp.refl⟩
  by_cases g2 : 0 ≤ e ∧ e ≤ 20
  case neg =>
    simp +decide (maxSteps := 4000000) (disch := omega) only [k143_0, k143_1, k143_2, k143_r, k143_s, F_al0, F_il1, F_il2, J_ifeq, F_il3, T_I, J_ifne, T_ft, T_ret, T_getR, X_aald, F_as4i, F_as4r, F_as4m, F_al4, T_getI, c117, c138, c141, ↓s138, FX F, ↓s141 F hn C.1 C.cc, ↓s229 F hn C.1 C.mc, g, g2, TK, lt_run hn, le43, Int.le_refl, Int.lt_irrefl, Option.some.injEq, exists_eq_left', true_and, and_true, if_true, if_false, decide_eq_false_iff_not, decide_eq_true_eq, Nat.reduceAdd, Nat.reduceLeDiff, Nat.reduceLT, Int.reduceAdd, Int.reduceSub, Int.reduceMul, Int.reduceNeg, not_true_eq_false, not_false_eq_true]
    refine ⟨_, rfl, ?_⟩
    simp +decide (maxSteps := 4000000) (disch := omega) only [k234_0, k234_1, k234_2, k234_5, k234_6, k234_7, k234_8, k234_9, k234_10, k234_r, k234_s, F_al0, F_il1, F_il2, J_ifeq, F_il3, T_I, J_ifne, T_ft, T_ret, T_mul, T_add, F_is4i, F_is4r, F_is4m, T_putI, T_putZ, T_getR, F_il4, X_iald, T_iast, F_is5i, F_is5r, F_is5m, F_il5, T_sub, T_icge, F_is6i, F_is6r, F_is6m, F_is7i, F_is7r, F_is7m, F_il7, J_icne, T_iceq, T_goto, F_is8i, F_is8r, F_is8m, F_il8, F_inc7i, F_inc7r, F_inc7m, F_il6, T_getI, T_dupI, T_dupR, c219, c227, c229, c235, ↓s219, FM F, ↓s141 F hn C.1 C.cc, ↓s229 F hn C.1 C.mc, g, g2, TK, lt_run hn, le43, Int.le_refl, Int.lt_irrefl, Option.some.injEq, exists_eq_left', true_and, and_true, if_true, if_false, decide_eq_false_iff_not, decide_eq_true_eq, Nat.reduceAdd, Nat.reduceLeDiff, Nat.reduceLT, Int.reduceAdd, Int.reduceSub, Int.reduceMul, Int.reduceNeg, not_true_eq_false, not_false_eq_true]
    first | exact ⟨rfl, ⟨C0, Kp.refl⟩, rfl, rfl⟩ | exact ⟨⟨C0, Kp.refl⟩, rfl, rfl⟩ | exact ⟨C0, Kp.refl⟩
  obtain ⟨P, c, m⟩ := C.2 a g.1.1 (by omega)
  have r := C.1 a
  have r1 := r.1
  have x1 := X48 F g.1.1 (show a < 16 by omega)
  have B := DB_d g.1.1 (show a < 16 by omega)
  have x2 := B.x E F
  have p1 := (P.1 b.toNat (by omega)).1
  have pr := P.r (s := b.toNat) (by omega)
  have A := P.sb B (s := b.toNat) (by omega)
  have x3 := A.x E F
  have x4 := A.r
  simp +decide (maxSteps := 4000000) (disch := omega) only [k143_0, k143_1, k143_2, k143_r, k143_s, F_al0, F_il1, F_il2, J_ifeq, F_il3, T_I, J_ifne, T_ft, T_ret, T_getR, X_aald, F_as4i, F_as4r, F_as4m, F_al4, T_getI, c117, c138, c141, ↓s138, FX F, ↓s141 F hn C.1 C.cc, g, g2, x1, x2, p1, x3, kd_48, ln_48, TK, lt_run hn, le43, Int.le_refl, Int.lt_irrefl, Option.some.injEq, exists_eq_left', true_and, and_true, if_true, if_false, decide_eq_false_iff_not, decide_eq_true_eq, Nat.reduceAdd, Nat.reduceLeDiff, Nat.reduceLT, Int.reduceAdd, Int.reduceSub, Int.reduceMul, Int.reduceNeg, not_true_eq_false, not_false_eq_true]
  refine w117 F hn A (r.2 b) g2 (c.2 b (by omega) (by omega)) (fun q h1 fe C1 e1 => ?_)
  have c2 := C1.1.2
  have fr := fitS_r (r.2 b) fe
  simp +decide (maxSteps := 4000000) (disch := omega) only [k143_0, k143_1, k143_2, k143_r, k143_s, F_al0, F_il1, F_il2, J_ifeq, F_il3, T_I, J_ifne, T_ft, T_ret, T_getR, X_aald, F_as4i, F_as4r, F_as4m, F_al4, T_getI, c117, c138, c141, ↓s138, ↓s141, x3, c2, TK, lt_run hn, le43, Int.le_refl, Int.lt_irrefl, Option.some.injEq, exists_eq_left', true_and, and_true, if_true, if_false, decide_eq_false_iff_not, decide_eq_true_eq, Nat.reduceAdd, Nat.reduceLeDiff, Nat.reduceLT, Int.reduceAdd, Int.reduceSub, Int.reduceMul, Int.reduceNeg, not_true_eq_false, not_false_eq_true]
  refine ⟨_, rfl, ?_⟩
  have mc : ∀ d, 0 ≤ d → d < 16 → gA h1 708 d = J (D d).1 := fun d d1 d2 => by
    rw [e1.g (fun q => by unfold Sa at q; omega)]
    exact C.mc d d1 d2
  simp +decide (maxSteps := 4000000) (disch := omega) only [k234_0, k234_1, k234_5, k234_6, k234_7, k234_8, k234_9, k234_10, k234_r, k234_s, F_al0, F_il1, F_il2, J_ifeq, F_il3, T_I, J_ifne, T_ft, T_ret, T_mul, T_add, F_is4i, F_is4r, F_is4m, T_putI, T_putZ, T_getR, F_il4, X_iald, T_iast, F_is5i, F_is5r, F_is5m, F_il5, T_sub, T_icge, F_is6i, F_is6r, F_is6m, F_is7i, F_is7r, F_is7m, F_il7, J_icne, T_iceq, T_goto, F_is8i, F_is8r, F_is8m, F_il8, F_inc7i, F_inc7r, F_inc7m, F_il6, T_getI, T_dupI, T_dupR, c219, c227, c229, c235, ↓s219, FM F, ↓s229 F hn C.1 mc, g, g2, TK, lt_run hn, le43, Int.le_refl, Int.lt_irrefl, Option.some.injEq, exists_eq_left', true_and, and_true, if_true, if_false, decide_eq_false_iff_not, decide_eq_true_eq, Nat.reduceAdd, Nat.reduceLeDiff, Nat.reduceLT, Int.reduceAdd, Int.reduceSub, Int.reduceMul, Int.reduceNeg, not_true_eq_false, not_false_eq_true]
  refine w234 F hn (r.2 b) (by omega) (by omega) g2 fe ((m.2 b (by omega) (by omega)).ef (by omega) (r.2 b).2.1.2 e1 (fun q => by unfold Sa at q; omega) (fun q => by unfold Sa at q; omega) (fun i _ _ => ⟨fun q => by unfold Sa at q; omega, fun q => by unfold Sa at q; omega⟩)) (fun h2 C2 e2 => ?_)
  dsimp only
  refine ⟨rfl, ⟨⟨_, _, C.upd g.1.1 (by omega) (D' := setS (D a) b (fitS ((D a).2 b) e q)) (ρ' := ρ a) ?_ (fun _ _ _ => rfl) ⟨r1, fun i => ?_⟩ P ⟨?_, fun s s1 s2 => ?_⟩ ⟨?_, fun s s1 s2 => ?_⟩⟩, ?_⟩, rfl, rfl⟩
  · refine Ef.trans (e1.mono fun x k q => Or.inl (Or.inl ?_)) (e2.mono fun x k q => ?_)
    · unfold Sa at q
      omega
    · rcases q with q | q
      · right
        unfold Sn at q
        rcases q with ⟨rfl, rfl⟩ | rfl | rfl <;> exact fun z => by cases (show (0 : Nat) = 3 from z)
      · left
        unfold Sk at q
        unfold Sdc
        omega
  · show SR (if i = b then _ else _)
    split
    · exact fr
    · exact r.2 i
  · rw [e2 _ 1 (fun q => by unfold Sn Sk at q; omega), e1 _ 1 (fun q => by unfold Sa at q; omega)]
    exact c.1
  · have s2' : s < (D a).1 := s2
    have prs := P.r (s := s.toNat) (by omega)
    have step : ∀ st, SC h1 (ρ a s.toNat) st → SC h2 (ρ a s.toNat) st := fun st q => q.ef e2 (fun x k q1 q2 q => by unfold Sn Sk at q; omega)
    show SC h2 (ρ a s.toNat) (if s = b then _ else _)
    by_cases es : s = b
    · rw [if_pos es]
      refine step _ ?_
      rw [es]
      exact C1
    · rw [if_neg es]
      have ap := P.ap (s := s.toNat) (t := b.toNat) (by omega) (by omega) (by omega)
      exact step _ ((c.2 s s1 s2').ef e1 (fun x k q1 q2 q => by unfold Sa at q; omega))
  · rw [e2.g (fun q => by unfold Sn Sk at q; omega)]
    exact mc a (by omega) (by omega)
  · have s2' : s < (D a).1 := s2
    show SM h2 (8 * a + s) (if s = b then _ else _)
    by_cases es : s = b
    · rw [if_pos es, es]
      exact C2
    · rw [if_neg es]
      refine ((m.2 s s1 s2').ef (by omega) (r.2 s).2.1.2 e1 (fun q => by unfold Sa at q; omega) (fun q => by unfold Sa at q; omega) (fun i _ _ => ⟨fun q => by unfold Sa at q; omega, fun q => by unfold Sa at q; omega⟩)).ef (by omega) (r.2 s).2.1.2 e2 (fun q => ?_) (fun q => ?_) (fun i _ _ => ⟨fun q => ?_, fun q => ?_⟩)
      all_goals
        unfold Sn Sk at q
        omega
  · refine Ef.trans (e1.mono fun x k q => Or.inr (Or.inl ?_)) (e2.mono fun x k q => ?_)
    · unfold Sa at q
      exact sysS (d := a.toNat) (by omega) (by omega) (by omega)
    · rcases q with q | q
      · unfold Sn at q
        rcases q with ⟨rfl, rfl⟩ | rfl | rfl <;> exact Or.inl rfl
      · refine Or.inr (Or.inl ?_)
        unfold Sk at q
        rcases (show x = 709 ∨ x = 710 ∨ x = 711 ∨ x = 712 by omega) with rfl | rfl | rfl | rfl <;> rfl
end FU
