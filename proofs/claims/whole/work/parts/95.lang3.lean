/-! language: both sides -/
section LI
variable {E : AEn} {h h' : AHi} {hr : AHr} {n : Nat} {Q : ARs → Prop} {t p f m k w e : Int} {b D : Int → Int}
/-- what the reference's reading of a language changes -/
def Slm (a k : Nat) : Prop := (a = 704 ∧ (k = 2 ∨ k = 3 ∨ k = 4 ∨ k = 5)) ∨ a = 706 ∨ a = 751
theorem sys_lm {a k : Nat} (q : Slm a k) : sys a k = 0 ∨ sys a k = 1 := by
  rcases q with ⟨rfl, rfl | rfl | rfl | rfl⟩ | rfl | rfl
  · exact Or.inr rfl
  all_goals exact Or.inl rfl
theorem sys_lc {a k : Nat} (q : Slc a k) : sys a k = 0 ∨ sys a k = 1 := by
  rcases q with ⟨rfl, rfl | rfl⟩ | rfl
  all_goals exact Or.inl rfl
theorem w299 (F : FH hr) (hn : 775 ≤ n) (ht : 0 ≤ t ∧ t ≤ 1600) (hb : ∀ i, 0 ≤ b i ∧ b i ≤ 255) (m1 : h 704 2 = J t) (m2 : ∀ i, 0 ≤ i → i < t → gA h 705 i = J (b i)) (R : Rk h 750 26 D) (hD : R7 D)
    (k1 : ∀ h', h' 704 2 = J 0 → Ef Slm h h' → (grs b t 1602 0 0 D).1 ≠ -1 → Q (some (.int (J (-1000 - (grs b t 1602 0 0 D).1))), h', hr, n))
    (k2 : ∀ h', h' 704 2 = J 0 → Ef (fun a k => Slm a k ∨ a = 750) h h' → (grs b t 1602 0 0 D).1 = -1 → Rk h' 750 26 (grs b t 1602 0 0 D).2.2 → Q (some (.int (J (grs b t 1602 0 0 D).2.1)), h', hr, n)) : Sp E 299 [.ref 704] h hr n Q := by
  have rb := grs_b ht hb 1602 0 0 D (by omega) (by decide) (by omega) (by decide) (by decide) hD
  have eM : ∀ {h : AHi} {p f : Int}, Ef Slm h (MS h p f) := fun {h p f} => Ef_MS.mono fun a k q => by unfold Slm; omega
  simp +decide (maxSteps := 4000000) (disch := omega) only [k299_0, k299_2, k299_5, k299_6, k299_8, k299_9, k299_10, k299_11, k299_12, k299_13, k299_14, k299_16, k299_r, k299_s, F_al0, T_I, F_is1i, F_is1r, F_is1m, T_ft, F_il1, T_icge, T_getR, X_iald, T_iast, F_inc1i, F_inc1r, F_inc1m, T_goto, F_is2i, F_is2r, F_is2m, J_ifeq, F_il2, T_getI, F_is3i, F_is3r, F_is3m, J_ifne, T_dupI, T_dupR, T_add, T_putI, T_putZ, F_is4i, F_is4r, F_is4m, F_il3, F_is5i, F_is5r, F_is5m, F_il5, F_il4, T_sub, F_inc5i, F_inc5r, F_inc5m, T_ret, F_inc3i, F_inc3r, F_inc3m, c217, c219, c221, c222, c224, c225, c226, c300, ↓s219, ↓s221, ↓s222, ↓s224, ↓s225, ↓s226, ↓s300, ↓reduceIte, TK, lt_run hn, le43, Int.le_refl, Int.lt_irrefl, Option.some.injEq, exists_eq_left', true_and, and_true, if_true, if_false, decide_eq_false_iff_not, decide_eq_true_eq, Nat.reduceAdd, Nat.reduceLeDiff, Nat.reduceLT, Int.reduceAdd, Int.reduceSub, Int.reduceMul, Int.reduceNeg, not_true_eq_false, not_false_eq_true]
  refine w217 F hn ht hb m1 m2 (fun h1 T1 c1 e1 => ?_)
  have e1' : Ef Slm h h1 := e1.mono fun a k q => by unfold Slm; omega
  simp +decide (maxSteps := 4000000) (disch := omega) only [k299_0, k299_2, k299_5, k299_6, k299_8, k299_9, k299_10, k299_11, k299_12, k299_13, k299_14, k299_16, k299_r, k299_s, F_al0, T_I, F_is1i, F_is1r, F_is1m, T_ft, F_il1, T_icge, T_getR, X_iald, T_iast, F_inc1i, F_inc1r, F_inc1m, T_goto, F_is2i, F_is2r, F_is2m, J_ifeq, F_il2, T_getI, F_is3i, F_is3r, F_is3m, J_ifne, T_dupI, T_dupR, T_add, T_putI, T_putZ, F_is4i, F_is4r, F_is4m, F_il3, F_is5i, F_is5r, F_is5m, F_il5, F_il4, T_sub, F_inc5i, F_inc5r, F_inc5m, T_ret, F_inc3i, F_inc3r, F_inc3m, c217, c219, c221, c222, c224, c225, c226, c300, ↓s219, ↓s221, ↓s222, ↓s224, ↓s225, ↓s226, ↓s300, ↓reduceIte, TK, lt_run hn, le43, Int.le_refl, Int.lt_irrefl, Option.some.injEq, exists_eq_left', true_and, and_true, if_true, if_false, decide_eq_false_iff_not, decide_eq_true_eq, Nat.reduceAdd, Nat.reduceLeDiff, Nat.reduceLT, Int.reduceAdd, Int.reduceSub, Int.reduceMul, Int.reduceNeg, not_true_eq_false, not_false_eq_true]
  refine T_for (σ := Unit) (fun i _ => [.ref 704, .int (J i), a_mk, a_mk, a_mk, a_mk]) (fun i _ h' => ∃ h2, h' = MS h2 0 (-1) ∧ Ef (fun a _ => a = 751) h1 h2 ∧ Rk h2 751 i D) 0 26 ?_ ?_ 0 () _ (by omega) (by omega) ⟨h1, rfl, Ef.refl, fun j _ _ => by omega⟩
  · rintro i _ _ i0 i1 ⟨h2, rfl, e2, R2⟩ ih
    have d1 : gA (MS h2 0 (-1)) 750 i = J (D i) := by
      rw [MS_g (by decide), e2.g (by omega), e1.g (by omega)]
      exact R i i0 i1
    rw [k299_1]
    simp +decide (maxSteps := 4000000) (disch := omega) only [k299_0, k299_2, k299_5, k299_6, k299_8, k299_9, k299_10, k299_11, k299_12, k299_13, k299_14, k299_16, k299_r, k299_s, F_al0, T_I, F_is1i, F_is1r, F_is1m, T_ft, F_il1, T_icge, T_getR, X_iald, T_iast, F_inc1i, F_inc1r, F_inc1m, T_goto, F_is2i, F_is2r, F_is2m, J_ifeq, F_il2, T_getI, F_is3i, F_is3r, F_is3m, J_ifne, T_dupI, T_dupR, T_add, T_putI, T_putZ, F_is4i, F_is4r, F_is4m, F_il3, F_is5i, F_is5r, F_is5m, F_il5, F_il4, T_sub, F_inc5i, F_inc5r, F_inc5m, T_ret, F_inc3i, F_inc3r, F_inc3m, c217, c219, c221, c222, c224, c225, c226, c300, ↓s219, ↓s221, ↓s222, ↓s224, ↓s225, ↓s226, ↓s300, FM F, d1, ln_750, ln_751, show ¬ 26 ≤ i by omega, ↓reduceIte, TK, lt_run hn, le43, Int.le_refl, Int.lt_irrefl, Option.some.injEq, exists_eq_left', true_and, and_true, if_true, if_false, decide_eq_false_iff_not, decide_eq_true_eq, Nat.reduceAdd, Nat.reduceLeDiff, Nat.reduceLT, Int.reduceAdd, Int.reduceSub, Int.reduceMul, Int.reduceNeg, not_true_eq_false, not_false_eq_true]
    rw [MS_d (by decide)]
    refine ih () _ ⟨_, rfl, e2.sA rfl, fun j j0 j1 => ?_⟩
    by_cases g : j = i
    · rw [g, gs_s]
    · rw [gs_k i0 j0 g]
      exact R2 j j0 (by omega)
  rintro _ _ ⟨h2, rfl, e2, R2⟩
  have e3 : Ef Slm h h2 := e1'.trans (e2.mono fun a k q => by unfold Slm; omega)
  have c2 : h2 704 2 = J 0 := by rw [e2 _ _ (by omega)]; exact c1
  rw [k299_1]
  simp +decide (maxSteps := 4000000) (disch := omega) only [k299_0, k299_2, k299_5, k299_6, k299_8, k299_9, k299_10, k299_11, k299_12, k299_13, k299_14, k299_16, k299_r, k299_s, F_al0, T_I, F_is1i, F_is1r, F_is1m, T_ft, F_il1, T_icge, T_getR, X_iald, T_iast, F_inc1i, F_inc1r, F_inc1m, T_goto, F_is2i, F_is2r, F_is2m, J_ifeq, F_il2, T_getI, F_is3i, F_is3r, F_is3m, J_ifne, T_dupI, T_dupR, T_add, T_putI, T_putZ, F_is4i, F_is4r, F_is4m, F_il3, F_is5i, F_is5r, F_is5m, F_il5, F_il4, T_sub, F_inc5i, F_inc5r, F_inc5m, T_ret, F_inc3i, F_inc3r, F_inc3m, c217, c219, c221, c222, c224, c225, c226, c300, ↓s219, ↓s221, ↓s222, ↓s224, ↓s225, ↓s226, ↓s300, ↓reduceIte, TK, lt_run hn, le43, Int.le_refl, Int.lt_irrefl, Option.some.injEq, exists_eq_left', true_and, and_true, if_true, if_false, decide_eq_false_iff_not, decide_eq_true_eq, Nat.reduceAdd, Nat.reduceLeDiff, Nat.reduceLT, Int.reduceAdd, Int.reduceSub, Int.reduceMul, Int.reduceNeg, not_true_eq_false, not_false_eq_true]
  refine z299 F hn 1602 0 0 D h2 _ _ _ (by omega) (by decide) (by omega) (by decide) (by decide) hD (T1.ef e2 (by decide) (fun k => by omega)) R2 (fun h4 w m' v2 v3 v4 v5 w0 w1 e4 gd => ?_)
  have e5 : Ef Slm h h4 := e3.trans (e4.mono fun a k q => by unfold Slm; omega)
  have c4 : h4 704 2 = J 0 := by rw [e4 _ _ (by omega)]; exact c2
  rw [k299_13]
  by_cases g : (grs b t 1602 0 0 D).1 = -1
  · obtain ⟨rfl, R4⟩ := gd g
    have k3 := fun h' y q => k2 h' y q g
    rw [g]
    simp +decide (maxSteps := 4000000) (disch := omega) only [k299_0, k299_2, k299_5, k299_6, k299_8, k299_9, k299_10, k299_11, k299_12, k299_13, k299_14, k299_16, k299_r, k299_s, F_al0, T_I, F_is1i, F_is1r, F_is1m, T_ft, F_il1, T_icge, T_getR, X_iald, T_iast, F_inc1i, F_inc1r, F_inc1m, T_goto, F_is2i, F_is2r, F_is2m, J_ifeq, F_il2, T_getI, F_is3i, F_is3r, F_is3m, J_ifne, T_dupI, T_dupR, T_add, T_putI, T_putZ, F_is4i, F_is4r, F_is4m, F_il3, F_is5i, F_is5r, F_is5m, F_il5, F_il4, T_sub, F_inc5i, F_inc5r, F_inc5m, T_ret, F_inc3i, F_inc3r, F_inc3m, c217, c219, c221, c222, c224, c225, c226, c300, ↓s219, ↓s222, ↓s224, ↓s225, ↓s226, ↓s300, FM F, ↓s221 F hn, ↓reduceIte, TK, lt_run hn, le43, Int.le_refl, Int.lt_irrefl, Option.some.injEq, exists_eq_left', true_and, and_true, if_true, if_false, decide_eq_false_iff_not, decide_eq_true_eq, Nat.reduceAdd, Nat.reduceLeDiff, Nat.reduceLT, Int.reduceAdd, Int.reduceSub, Int.reduceMul, Int.reduceNeg, not_true_eq_false, not_false_eq_true]
    refine T_for (σ := Unit) (fun i _ => [.ref 704, .int (J (grs b t 1602 0 0 D).2.1), .int v2, .int (J i), v4, v5]) (fun i _ h' => Ef (fun a _ => a = 750) (MS h4 w (-1)) h' ∧ Rk h' 750 i (grs b t 1602 0 0 D).2.2) 0 26 ?_ ?_ 0 () _ (by omega) (by omega) ⟨Ef.refl, fun j _ _ => by omega⟩
    · rintro i _ h6 i0 i1 ⟨e6, R6⟩ ih
      have d1 : gA h6 751 i = J ((grs b t 1602 0 0 D).2.2 i) := by
        rw [e6.g (by omega), MS_g (by decide)]
        exact R4 i i0 i1
      rw [k299_15]
      simp +decide (maxSteps := 4000000) (disch := omega) only [k299_0, k299_2, k299_5, k299_6, k299_8, k299_9, k299_10, k299_11, k299_12, k299_13, k299_14, k299_16, k299_r, k299_s, F_al0, T_I, F_is1i, F_is1r, F_is1m, T_ft, F_il1, T_icge, T_getR, X_iald, T_iast, F_inc1i, F_inc1r, F_inc1m, T_goto, F_is2i, F_is2r, F_is2m, J_ifeq, F_il2, T_getI, F_is3i, F_is3r, F_is3m, J_ifne, T_dupI, T_dupR, T_add, T_putI, T_putZ, F_is4i, F_is4r, F_is4m, F_il3, F_is5i, F_is5r, F_is5m, F_il5, F_il4, T_sub, F_inc5i, F_inc5r, F_inc5m, T_ret, F_inc3i, F_inc3r, F_inc3m, c217, c219, c221, c222, c224, c225, c226, c300, ↓s219, ↓s221, ↓s222, ↓s224, ↓s225, ↓s226, ↓s300, FM F, d1, ln_750, ln_751, show ¬ 26 ≤ i by omega, ↓reduceIte, TK, lt_run hn, le43, Int.le_refl, Int.lt_irrefl, Option.some.injEq, exists_eq_left', true_and, and_true, if_true, if_false, decide_eq_false_iff_not, decide_eq_true_eq, Nat.reduceAdd, Nat.reduceLeDiff, Nat.reduceLT, Int.reduceAdd, Int.reduceSub, Int.reduceMul, Int.reduceNeg, not_true_eq_false, not_false_eq_true]
      refine ih () _ ⟨e6.sA rfl, fun j j0 j1 => ?_⟩
      by_cases g : j = i
      · rw [g, gs_s]
      · rw [gs_k i0 j0 g]
        exact R6 j j0 (by omega)
    · rintro _ h6 ⟨e6, R6⟩
      rw [k299_15]
      simp +decide (maxSteps := 4000000) (disch := omega) only [k299_0, k299_2, k299_5, k299_6, k299_8, k299_9, k299_10, k299_11, k299_12, k299_13, k299_14, k299_16, k299_r, k299_s, F_al0, T_I, F_is1i, F_is1r, F_is1m, T_ft, F_il1, T_icge, T_getR, X_iald, T_iast, F_inc1i, F_inc1r, F_inc1m, T_goto, F_is2i, F_is2r, F_is2m, J_ifeq, F_il2, T_getI, F_is3i, F_is3r, F_is3m, J_ifne, T_dupI, T_dupR, T_add, T_putI, T_putZ, F_is4i, F_is4r, F_is4m, F_il3, F_is5i, F_is5r, F_is5m, F_il5, F_il4, T_sub, F_inc5i, F_inc5r, F_inc5m, T_ret, F_inc3i, F_inc3r, F_inc3m, c217, c219, c221, c222, c224, c225, c226, c300, ↓s219, ↓s221, ↓s222, ↓s224, ↓s225, ↓s226, ↓s300, ↓reduceIte, TK, lt_run hn, le43, Int.le_refl, Int.lt_irrefl, Option.some.injEq, exists_eq_left', true_and, and_true, if_true, if_false, decide_eq_false_iff_not, decide_eq_true_eq, Nat.reduceAdd, Nat.reduceLeDiff, Nat.reduceLT, Int.reduceAdd, Int.reduceSub, Int.reduceMul, Int.reduceNeg, not_true_eq_false, not_false_eq_true]
      refine k3 h6 ?_ (((e5.trans eM).mono fun a k q => Or.inl q).trans (e6.mono fun a k q => Or.inr q)) R6
      rw [e6 _ _ (by omega), MS_j (by decide)]
      exact c4
  · have fb := rb.1
    simp +decide (maxSteps := 4000000) (disch := omega) only [k299_0, k299_2, k299_5, k299_6, k299_8, k299_9, k299_10, k299_11, k299_12, k299_13, k299_14, k299_16, k299_r, k299_s, F_al0, T_I, F_is1i, F_is1r, F_is1m, T_ft, F_il1, T_icge, T_getR, X_iald, T_iast, F_inc1i, F_inc1r, F_inc1m, T_goto, F_is2i, F_is2r, F_is2m, J_ifeq, F_il2, T_getI, F_is3i, F_is3r, F_is3m, J_ifne, T_dupI, T_dupR, T_add, T_putI, T_putZ, F_is4i, F_is4r, F_is4m, F_il3, F_is5i, F_is5r, F_is5m, F_il5, F_il4, T_sub, F_inc5i, F_inc5r, F_inc5m, T_ret, F_inc3i, F_inc3r, F_inc3m, c217, c219, c221, c222, c224, c225, c226, c300, ↓s219, ↓s222, ↓s224, ↓s225, ↓s300, ↓s221 F hn, ↓s226 F hn, g, ↓reduceIte, TK, lt_run hn, le43, Int.le_refl, Int.lt_irrefl, Option.some.injEq, exists_eq_left', true_and, and_true, if_true, if_false, decide_eq_false_iff_not, decide_eq_true_eq, Nat.reduceAdd, Nat.reduceLeDiff, Nat.reduceLT, Int.reduceAdd, Int.reduceSub, Int.reduceMul, Int.reduceNeg, not_true_eq_false, not_false_eq_true]
    refine k1 _ ?_ (e5.trans eM) g
    rw [MS_j (by decide)]
    exact c4
theorem Planguage (F : FH hr) (hn : 775 ≤ n) (C : Cp13 h) (CT : CpT h) : Pr2 E 180 299 [] h hr n (Po (fun h' => Cp13 h' ∧ CpT h') 1 13 h hr n) := by
  obtain ⟨D, hD, R⟩ := C
  obtain ⟨t, b, T, m1, m2⟩ := CT
  have OT := Ob_tape (E := E) F hn
  have rb := grs_b T.1 T.2.1 1602 0 0 D (by have := T.1; omega) (by decide) (by have := T.1; omega) (by decide) (by decide) hD
  have mr : ∀ {h' : AHi}, Ef (fun x k => x < 700 ∧ x ≠ 106) h h' → h' 704 2 = J t ∧ (∀ i, 0 ≤ i → i < t → gA h' 705 i = J (b i)) ∧ Rk h' 750 26 D := fun e => by
    refine ⟨?_, fun i i0 i1 => ?_, fun j j0 j1 => ?_⟩
    · rw [e 704 2 (by omega)]
      exact m1
    · rw [e.g (by omega)]
      exact m2 i i0 i1
    · rw [e.g (by omega)]
      exact (R j j0 j1).2
  have mr' : ∀ {h' : AHi}, Ef (fun x k => x < 700) h h' → h' 704 2 = J t ∧ (∀ i, 0 ≤ i → i < t → gA h' 705 i = J (b i)) ∧ Rk h' 750 26 D := fun e => by
    refine ⟨?_, fun i i0 i1 => ?_, fun j j0 j1 => ?_⟩
    · rw [e 704 2 (by omega)]
      exact m1
    · rw [e.g (by omega)]
      exact m2 i i0 i1
    · rw [e.g (by omega)]
      exact (R j j0 j1).2
  unfold Pr2
  simp +decide (maxSteps := 4000000) (disch := omega) only [k180_0, k180_r, k180_s, F_al0, T_getR, F_is1i, F_is1r, F_is1m, F_il1, T_ret, c25, c69, ↓s25, FX F, kd_44, kd_105, ↓reduceIte, TK, lt_run hn, le43, Int.le_refl, Int.lt_irrefl, Option.some.injEq, exists_eq_left', true_and, and_true, if_true, if_false, decide_eq_false_iff_not, decide_eq_true_eq, Nat.reduceAdd, Nat.reduceLeDiff, Nat.reduceLT, Int.reduceAdd, Int.reduceSub, Int.reduceMul, Int.reduceNeg, not_true_eq_false, not_false_eq_true]
  refine w69 F hn T (fun j j0 j1 => (R j j0 j1).1) hD (fun h4 e4 q => ?_) (fun h4 e4 q R4 => ?_)
  · simp +decide (maxSteps := 4000000) (disch := omega) only [k180_0, k180_r, k180_s, F_al0, T_getR, F_is1i, F_is1r, F_is1m, F_il1, T_ret, c25, c69, FX F, ↓s25 OT, kd_44, ↓reduceIte, TK, lt_run hn, le43, Int.le_refl, Int.lt_irrefl, Option.some.injEq, exists_eq_left', true_and, and_true, if_true, if_false, decide_eq_false_iff_not, decide_eq_true_eq, Nat.reduceAdd, Nat.reduceLeDiff, Nat.reduceLT, Int.reduceAdd, Int.reduceSub, Int.reduceMul, Int.reduceNeg, not_true_eq_false, not_false_eq_true]
    refine ⟨_, rfl, ?_⟩
    have e5 : Ef (fun x k => (x = 44 ∧ k = 1) ∨ Slc x k) h (hI h4 44 1 (J 0)) := (e4.mono fun x k q => Or.inr q).hI (Or.inl ⟨rfl, rfl⟩)
    obtain ⟨y1, y2, y3⟩ := mr' (e5.mono fun x k q => by unfold Slc at q; omega)
    refine w299 F hn T.1 T.2.1 y1 y2 y3 hD (fun h6 c6 e6 _ => ?_) (fun h6 c6 e6 q' => absurd q' q)
    have e7 : Ef (fun a k => sys a k = 0 ∨ sys a k = 1) h h6 := Ef.trans (e5.mono fun x k q => by
      rcases q with ⟨rfl, rfl⟩ | q
      · exact Or.inr rfl
      · exact sys_lc q) (e6.mono fun x k q => sys_lm q)
    dsimp only
    refine ⟨rfl, ⟨⟨⟨D, hD, fun j j0 j1 => ?_⟩, CpT_0 ?_ c6⟩, e7.mono fun x k q => by omega⟩, rfl, rfl⟩
    · have n1 : sys 106 j.toNat = 13 := rfl
      have n2 : sys 750 j.toNat = 13 := rfl
      rw [e7.g (by omega), e7.g (by omega)]
      exact R j j0 j1
    · rw [e6 _ _ (fun q => by unfold Slm at q; omega)]
      exact hI_s
  · simp +decide (maxSteps := 4000000) (disch := omega) only [k180_0, k180_r, k180_s, F_al0, T_getR, F_is1i, F_is1r, F_is1m, F_il1, T_ret, c25, c69, FX F, ↓s25 OT, kd_44, ↓reduceIte, TK, lt_run hn, le43, Int.le_refl, Int.lt_irrefl, Option.some.injEq, exists_eq_left', true_and, and_true, if_true, if_false, decide_eq_false_iff_not, decide_eq_true_eq, Nat.reduceAdd, Nat.reduceLeDiff, Nat.reduceLT, Int.reduceAdd, Int.reduceSub, Int.reduceMul, Int.reduceNeg, not_true_eq_false, not_false_eq_true]
    refine ⟨_, rfl, ?_⟩
    have e5 : Ef (fun x k => (x = 44 ∧ k = 1) ∨ Slc x k ∨ x = 106) h (hI h4 44 1 (J 0)) := (e4.mono fun x k q => Or.inr q).hI (Or.inl ⟨rfl, rfl⟩)
    obtain ⟨y1, y2, y3⟩ := mr' (e5.mono fun x k q => by unfold Slc at q; omega)
    refine w299 F hn T.1 T.2.1 y1 y2 y3 hD (fun h6 c6 e6 q' => absurd q q') (fun h6 c6 e6 _ R6 => ?_)
    obtain ⟨u1, u2⟩ := rb.2 q
    have e7 : Kp 1 13 h h6 := Ef.trans (e5.mono fun x k q => by
      rcases q with ⟨rfl, rfl⟩ | q | rfl
      · exact Or.inr (Or.inl rfl)
      · have := sys_lc q
        omega
      · exact Or.inr (Or.inr rfl)) (e6.mono fun x k q => by
      rcases q with q | rfl
      · have := sys_lm q
        omega
      · exact Or.inr (Or.inr rfl))
    dsimp only
    refine ⟨rfl, ⟨⟨⟨(grs b t 1602 0 0 D).2.2, u2, fun j j0 j1 => ⟨?_, R6 j j0 j1⟩⟩, CpT_0 ?_ c6⟩, e7⟩, rfl, rfl⟩
    · rw [e6.g (fun q => by unfold Slm at q; omega), gA_o (by decide)]
      exact R4 j j0 j1
    · rw [e6 _ _ (fun q => by unfold Slm at q; omega)]
      exact hI_s
end LI
