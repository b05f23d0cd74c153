/-! node: the class -/
def Nk (b : Int → Int) (t : Int) (k : Nat) (e : Int) : Prop := k < 8 ∧ isNm b t k 0 e ∧ ∀ j, j < k → ¬ isNm b t j 0 e
def nR (b : Int → Int) (t m : Int) (k : Nat) (e : Int) : Int × Int × (Int → Int) := ars b t m (sgK k) 0 0 e (fun _ => 0)
def nF (b : Int → Int) (t m : Int) (k : Nat) (e : Int) : Int := if (nR b t m k e).1 = -1 then (if (nR b t m k e).2.1 < t then (nR b t m k e).2.1 else -1) else (nR b t m k e).1
section ND
variable {E : AEn} {h h' : AHi} {hr : AHr} {n : Nat} {Q : ARs → Prop} {t p f m i : Int} {b : Int → Int}
def Snk (m : Int) (a k : Nat) : Prop := (a = 44 ∧ (k = 2 ∨ k = 3)) ∨ a = 116 + m.toNat
theorem w90 (F : FH hr) (hn : 775 ≤ n) (T : TpC h t b) (hm : 0 ≤ m ∧ m ≤ 10) (h2 : h 113 2 = J m)
    (k0 : ∀ h' e, e = ane b t 1601 0 → (∀ j, j < 8 → ¬ isNm b t j 0 e) → Ef (Snk m) h h' → Q (some (.int (J (-1000 - 0))), h', hr, n))
    (k1 : ∀ h' k e, e = ane b t 1601 0 → (0 ≤ e ∧ e ≤ t) → Nk b t k e → nF b t m k e ≠ -1 → Ef (Snk m) h h' → Q (some (.int (J (-1000 - nF b t m k e))), h', hr, n))
    (k2 : ∀ h' k e, e = ane b t 1601 0 → (0 ≤ e ∧ e ≤ t) → Nk b t k e → nF b t m k e = -1 → m = 10 → Ef (Snk m) h h' → Q (some (.int (J (-4))), h', hr, n))
    (k3 : ∀ h' k e, e = ane b t 1601 0 → (0 ≤ e ∧ e ≤ t) → Nk b t k e → nF b t m k e = -1 → m < 10 → Ef (fun a q => Snk m a q ∨ (a = 113 ∧ q = 2)) h h' → h' 113 2 = J (m + 1) → (∀ j : Int, 0 ≤ j → j < (sgK k).length → gA h' (116 + m.toNat) j = J ((nR b t m k e).2.2 j)) → Q (some (.int (J m)), h', hR hr 114 m.toNat (some (4 + k)), n)) : Sp E 90 [.ref 113, .ref 44] h hr n Q := by
  have t1 := T.1
  have x1 := X115 E F hm.1 (show m < 11 by omega)
  have eR : ∀ {h : AHi} {p f : Int}, Ef (Snk m) h (RS h p f) := fun {h p f} => Ef_RS.mono fun a k q => Or.inl q
  have z1 : ∀ p f, RS h p f 113 2 = J m := fun p f => by rw [RS_o (by decide)]; exact h2
  simp +decide (maxSteps := 4000000) (disch := omega) only [k90_0, k90_2, k90_3, k90_4, k90_5, k90_6, k90_7, k90_r, k90_s, F_al1, F_as2i, F_as2r, F_as2m, F_al0, T_getR, T_getI, X_aald, F_as3i, F_as3r, F_as3m, T_I, F_is4i, F_is4r, F_is4m, T_ft, F_il4, F_al2, T_icge, F_al3, J_ifle, T_sub, X_iald, T_goto, T_iast, F_inc4i, F_inc4r, F_inc4m, J_ifeq, J_ifne, T_ret, T_iclt, T_aast, T_dupI, T_dupR, T_add, T_putI, T_putZ, c13, c16, c18, c21, c22, c24, c91, c92, c339, c341, ↓s16, ↓s18, ↓s21, ↓s22, ↓s24, ↓s13 F hn, kd_44, ↓reduceIte, TK, lt_run hn, le43, Int.le_refl, Int.lt_irrefl, Option.some.injEq, exists_eq_left', true_and, and_true, if_true, if_false, decide_eq_false_iff_not, decide_eq_true_eq, Nat.reduceAdd, Nat.reduceLeDiff, Nat.reduceLT, Int.reduceAdd, Int.reduceSub, Int.reduceMul, Int.reduceNeg, not_true_eq_false, not_false_eq_true]
  refine w91 F hn T (fun k e hk he e0 e1 g1 g2 => ?_) (fun e he e0 e1 g1 => ?_)
  · have N : Nk b t k e := ⟨hk, g1, g2⟩
    have kd := (nm_t k hk).1.1
    have y1 : 4 + k < n := by omega
    have z2 := z1 e (-1)
    simp +decide (maxSteps := 4000000) (disch := omega) only [k90_0, k90_2, k90_3, k90_4, k90_5, k90_6, k90_7, k90_r, k90_s, F_al1, F_as2i, F_as2r, F_as2m, F_al0, T_getR, T_getI, X_aald, F_as3i, F_as3r, F_as3m, T_I, F_is4i, F_is4r, F_is4m, T_ft, F_il4, F_al2, T_icge, F_al3, J_ifle, T_sub, X_iald, T_goto, T_iast, F_inc4i, F_inc4r, F_inc4m, J_ifeq, J_ifne, T_ret, T_iclt, T_aast, T_dupI, T_dupR, T_add, T_putI, T_putZ, c13, c16, c18, c21, c22, c24, c91, c92, c339, c341, ↓s13, ↓s16, ↓s18, ↓s21, ↓s22, ↓s24, FX F, x1, z2, kd_113, kd_115, ln_115, ↓reduceIte, TK, lt_run hn, le43, Int.le_refl, Int.lt_irrefl, Option.some.injEq, exists_eq_left', true_and, and_true, if_true, if_false, decide_eq_false_iff_not, decide_eq_true_eq, Nat.reduceAdd, Nat.reduceLeDiff, Nat.reduceLT, Int.reduceAdd, Int.reduceSub, Int.reduceMul, Int.reduceNeg, not_true_eq_false, not_false_eq_true]
    refine z90 (R := nR b t m k e) F hn hk hm (sgK k) 0 e (-1) h rfl (by decide) (by omega) e0 e1 (Or.inl rfl) T h2 (fun z => by omega) (Or.inl ⟨rfl, 0, fun _ => 0, rfl, fun j j0 j1 => by omega, fun _ => rfl, fun z => by omega⟩) (fun h4 p4 f4 p0 p1 hf e4 A => ?_)
    have T4 : TpC h4 t b := T.ef e4 (by omega) (fun k => by omega)
    have e5 : ∀ {p f : Int}, Ef (Snk m) h (RS h4 p f) := fun {p f} => (e4.mono fun a k q => Or.inr q).trans eR
    have z4 : ∀ p f, RS h4 p f 113 2 = J m := fun p f => by rw [RS_o (by decide), e4 _ _ (by omega)]; exact h2
    have bad : ∀ f, (0 ≤ f ∧ f ≤ 1700) → nF b t m k e = f → Tm E 90 (a_bl 90 5) [.ref 113, .ref 44, .ref (4 + k), .ref (116 + m.toNat), .int (J (sgK k).length)] [] (RS h4 p4 f) hr n Q := fun f hf q => by
      have f1 : f ≠ -1 := by omega
      have fin := k1 (RS h4 p4 f) k e he ⟨e0, e1⟩ N (by omega) e5
      rw [q] at fin
      rw [k90_5]
      simp +decide (maxSteps := 4000000) (disch := omega) only [k90_0, k90_2, k90_3, k90_4, k90_5, k90_6, k90_7, k90_r, k90_s, F_al1, F_as2i, F_as2r, F_as2m, F_al0, T_getR, T_getI, X_aald, F_as3i, F_as3r, F_as3m, T_I, F_is4i, F_is4r, F_is4m, T_ft, F_il4, F_al2, T_icge, F_al3, J_ifle, T_sub, X_iald, T_goto, T_iast, F_inc4i, F_inc4r, F_inc4m, J_ifeq, J_ifne, T_ret, T_iclt, T_aast, T_dupI, T_dupR, T_add, T_putI, T_putZ, c13, c16, c18, c21, c22, c24, c91, c92, c339, c341, ↓s13, ↓s18, ↓s21, ↓s22, ↓s16 F hn, ↓s24 F hn, f1, kd_44, ↓reduceIte, TK, lt_run hn, le43, Int.le_refl, Int.lt_irrefl, Option.some.injEq, exists_eq_left', true_and, and_true, if_true, if_false, decide_eq_false_iff_not, decide_eq_true_eq, Nat.reduceAdd, Nat.reduceLeDiff, Nat.reduceLT, Int.reduceAdd, Int.reduceSub, Int.reduceMul, Int.reduceNeg, not_true_eq_false, not_false_eq_true]
      exact fin
    rw [k90_4]
    rcases A with ⟨rfl, v, T0, r1, r2, _, _⟩ | ⟨hf2, r1⟩
    · have r1' : (-1, p4, T0) = nR b t m k e := r1
      have q1 : (nR b t m k e).1 = -1 := by rw [← r1']
      have q2 : (nR b t m k e).2.1 = p4 := by rw [← r1']
      have q3 : (nR b t m k e).2.2 = T0 := by rw [← r1']
      by_cases g3 : p4 < t
      · have fin := bad p4 (by omega) (by unfold nF; rw [if_pos q1, q2, if_pos g3])
        simp +decide (maxSteps := 4000000) (disch := omega) only [k90_0, k90_2, k90_3, k90_4, k90_6, k90_7, k90_r, k90_s, F_al1, F_as2i, F_as2r, F_as2m, F_al0, T_getR, T_getI, X_aald, F_as3i, F_as3r, F_as3m, T_I, F_is4i, F_is4r, F_is4m, T_ft, F_il4, F_al2, T_icge, F_al3, J_ifle, T_sub, X_iald, T_goto, T_iast, F_inc4i, F_inc4r, F_inc4m, J_ifeq, J_ifne, T_ret, T_iclt, T_aast, T_dupI, T_dupR, T_add, T_putI, T_putZ, c13, c16, c18, c21, c22, c24, c91, c92, c339, c341, ↓s13, ↓s16, ↓s22, ↓s24, RX, ↓s18 F hn, ↓s21 F hn T4, g3, rf_y, kd_44, ↓reduceIte, TK, lt_run hn, le43, Int.le_refl, Int.lt_irrefl, Option.some.injEq, exists_eq_left', true_and, and_true, if_true, if_false, decide_eq_false_iff_not, decide_eq_true_eq, Nat.reduceAdd, Nat.reduceLeDiff, Nat.reduceLT, Int.reduceAdd, Int.reduceSub, Int.reduceMul, Int.reduceNeg, not_true_eq_false, not_false_eq_true]
        exact fin
      · have nf : nF b t m k e = -1 := by unfold nF; rw [if_pos q1, q2, if_neg g3]
        by_cases g4 : m < 10
        · have z5 := z4 p4 (-1)
          have fin := k3 (hI (RS h4 p4 (-1)) 113 2 (J (m + 1))) k e he ⟨e0, e1⟩ N nf g4 ((e5.mono fun a k q => Or.inl q).hI (Or.inr ⟨rfl, rfl⟩)) hI_s (fun j j0 j1 => by
            rw [gA_o (by omega), RS_g (by omega), q3]
            exact r2 j j0 j1)
          have e6 : m + 1 - 1 = m := by omega
          have z6 : hI (RS h4 p4 (-1)) 113 2 (J (m + 1)) 113 2 = J (m + 1) := hI_s
          simp +decide (maxSteps := 4000000) (disch := omega) only [k90_0, k90_2, k90_3, k90_4, k90_5, k90_6, k90_7, k90_r, k90_s, F_al1, F_as2i, F_as2r, F_as2m, F_al0, T_getR, T_getI, X_aald, F_as3i, F_as3r, F_as3m, T_I, F_is4i, F_is4r, F_is4m, T_ft, F_il4, F_al2, T_icge, F_al3, J_ifle, T_sub, X_iald, T_goto, T_iast, F_inc4i, F_inc4r, F_inc4m, J_ifeq, J_ifne, T_ret, T_iclt, T_aast, T_dupI, T_dupR, T_add, T_putI, T_putZ, c13, c16, c18, c21, c22, c24, c91, c92, c339, c341, ↓s13, ↓s18, ↓s22, ↓s24, FX F, ↓s16 F hn, ↓s21 F hn T4, g3, g4, z5, z6, kd, y1, e6, kd_44, kd_113, kd_114, ln_114, ↓reduceIte, TK, lt_run hn, le43, Int.le_refl, Int.lt_irrefl, Option.some.injEq, exists_eq_left', true_and, and_true, if_true, if_false, decide_eq_false_iff_not, decide_eq_true_eq, Nat.reduceAdd, Nat.reduceLeDiff, Nat.reduceLT, Int.reduceAdd, Int.reduceSub, Int.reduceMul, Int.reduceNeg, not_true_eq_false, not_false_eq_true]
          exact fin
        · have z5 := z4 p4 (-1)
          have fin := k2 (RS h4 p4 (-1)) k e he ⟨e0, e1⟩ N nf (by omega) e5
          simp +decide (maxSteps := 4000000) (disch := omega) only [k90_0, k90_2, k90_3, k90_4, k90_5, k90_6, k90_7, k90_r, k90_s, F_al1, F_as2i, F_as2r, F_as2m, F_al0, T_getR, T_getI, X_aald, F_as3i, F_as3r, F_as3m, T_I, F_is4i, F_is4r, F_is4m, T_ft, F_il4, F_al2, T_icge, F_al3, J_ifle, T_sub, X_iald, T_goto, T_iast, F_inc4i, F_inc4r, F_inc4m, J_ifeq, J_ifne, T_ret, T_iclt, T_aast, T_dupI, T_dupR, T_add, T_putI, T_putZ, c13, c16, c18, c21, c22, c24, c91, c92, c339, c341, ↓s13, ↓s18, ↓s22, ↓s24, FX F, ↓s16 F hn, ↓s21 F hn T4, g3, g4, z5, kd_44, kd_113, ↓reduceIte, TK, lt_run hn, le43, Int.le_refl, Int.lt_irrefl, Option.some.injEq, exists_eq_left', true_and, and_true, if_true, if_false, decide_eq_false_iff_not, decide_eq_true_eq, Nat.reduceAdd, Nat.reduceLeDiff, Nat.reduceLT, Int.reduceAdd, Int.reduceSub, Int.reduceMul, Int.reduceNeg, not_true_eq_false, not_false_eq_true]
          exact fin
    · have f1 : f4 ≠ -1 := by omega
      have fin := bad f4 hf2 (by unfold nF; rw [if_neg (by rw [r1]; exact f1), r1])
      simp +decide (maxSteps := 4000000) (disch := omega) only [k90_0, k90_2, k90_3, k90_4, k90_6, k90_7, k90_r, k90_s, F_al1, F_as2i, F_as2r, F_as2m, F_al0, T_getR, T_getI, X_aald, F_as3i, F_as3r, F_as3m, T_I, F_is4i, F_is4r, F_is4m, T_ft, F_il4, F_al2, T_icge, F_al3, J_ifle, T_sub, X_iald, T_goto, T_iast, F_inc4i, F_inc4r, F_inc4m, J_ifeq, J_ifne, T_ret, T_iclt, T_aast, T_dupI, T_dupR, T_add, T_putI, T_putZ, c13, c16, c18, c21, c22, c24, c91, c92, c339, c341, ↓s13, ↓s16, ↓s18, ↓s22, ↓s24, ↓s21 F hn T4, f1, false_and, kd_44, ↓reduceIte, TK, lt_run hn, le43, Int.le_refl, Int.lt_irrefl, Option.some.injEq, exists_eq_left', true_and, and_true, if_true, if_false, decide_eq_false_iff_not, decide_eq_true_eq, Nat.reduceAdd, Nat.reduceLeDiff, Nat.reduceLT, Int.reduceAdd, Int.reduceSub, Int.reduceMul, Int.reduceNeg, not_true_eq_false, not_false_eq_true]
      exact fin
  · have z2 := z1 e 0
    simp +decide (maxSteps := 4000000) (disch := omega) only [k90_0, k90_2, k90_3, k90_4, k90_5, k90_6, k90_7, k90_r, k90_s, F_al1, F_as2i, F_as2r, F_as2m, F_al0, T_getR, T_getI, X_aald, F_as3i, F_as3r, F_as3m, T_I, F_is4i, F_is4r, F_is4m, T_ft, F_il4, F_al2, T_icge, F_al3, J_ifle, T_sub, X_iald, T_goto, T_iast, F_inc4i, F_inc4r, F_inc4m, J_ifeq, J_ifne, T_ret, T_iclt, T_aast, T_dupI, T_dupR, T_add, T_putI, T_putZ, c13, c16, c18, c21, c22, c24, c91, c92, c339, c341, ↓s13, ↓s16, ↓s18, ↓s21, ↓s22, ↓s24, FX F, x1, z2, kd_113, kd_115, ln_115, ↓reduceIte, TK, lt_run hn, le43, Int.le_refl, Int.lt_irrefl, Option.some.injEq, exists_eq_left', true_and, and_true, if_true, if_false, decide_eq_false_iff_not, decide_eq_true_eq, Nat.reduceAdd, Nat.reduceLeDiff, Nat.reduceLT, Int.reduceAdd, Int.reduceSub, Int.reduceMul, Int.reduceNeg, not_true_eq_false, not_false_eq_true]
    refine z90 (k := 0) (R := (0, 0, fun _ => 0)) F hn (by decide) hm (sgK 0) 0 e 0 h rfl (by decide) (by omega) e0 e1 (Or.inr (by decide)) T h2 (fun z => by omega) (Or.inr ⟨by decide, rfl⟩) (fun h4 p4 f4 p0 p1 hf e4 A => ?_)
    have T4 : TpC h4 t b := T.ef e4 (by omega) (fun k => by omega)
    have e5 : ∀ {p f : Int}, Ef (Snk m) h (RS h4 p f) := fun {p f} => (e4.mono fun a k q => Or.inr q).trans eR
    have ef : f4 = 0 := by
      rcases A with ⟨rfl, v, T0, r1, _⟩ | ⟨hf2, r1⟩
      · have r1' : (-1, p4, T0) = ((0 : Int), (0 : Int), fun _ : Int => (0 : Int)) := r1
        have q : (-1 : Int) = 0 := congrArg Prod.fst r1'
        omega
      · exact r1.symm
    subst ef
    have fin := k0 (RS h4 p4 0) e he g1 e5
    have f1 : ¬ (0 : Int) = -1 := by decide
    rw [k90_4]
    simp +decide (maxSteps := 4000000) (disch := omega) only [k90_0, k90_2, k90_3, k90_4, k90_5, k90_6, k90_7, k90_r, k90_s, F_al1, F_as2i, F_as2r, F_as2m, F_al0, T_getR, T_getI, X_aald, F_as3i, F_as3r, F_as3m, T_I, F_is4i, F_is4r, F_is4m, T_ft, F_il4, F_al2, T_icge, F_al3, J_ifle, T_sub, X_iald, T_goto, T_iast, F_inc4i, F_inc4r, F_inc4m, J_ifeq, J_ifne, T_ret, T_iclt, T_aast, T_dupI, T_dupR, T_add, T_putI, T_putZ, c13, c16, c18, c21, c22, c24, c91, c92, c339, c341, ↓s13, ↓s18, ↓s22, ↓s16 F hn, ↓s21 F hn T4, ↓s24 F hn, f1, false_and, kd_44, ↓reduceIte, TK, lt_run hn, le43, Int.le_refl, Int.lt_irrefl, Option.some.injEq, exists_eq_left', true_and, and_true, if_true, if_false, decide_eq_false_iff_not, decide_eq_true_eq, Nat.reduceAdd, Nat.reduceLeDiff, Nat.reduceLT, Int.reduceAdd, Int.reduceSub, Int.reduceMul, Int.reduceNeg, not_true_eq_false, not_false_eq_true]
    exact fin
end ND
