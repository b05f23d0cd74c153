/-! the law: its loop -/
section LZ
variable {E : AEn} {h h' : AHi} {hr : AHr} {n : Nat}
theorem swl_hi {z : Int} (h1 : 51 ≤ z) (h2 : z ≤ 63) : a_sw 0 53 [2, 3, 4, 5, 6, 7, 8, 9, 10, 11, 12, 13, 14, 15, 16, 17, 18, 19, 20, 21, 22, 23, 24, 25, 26, 27, 28, 29, 30, 31, 32, 33, 34, 35, 36, 37, 38, 39, 40, 41, 42, 43, 44, 45, 46, 47, 48, 49, 50, 51, 52] (J z) = 53 := sw_hi (by omega) (by omega) (by show (0 : Int) + 51 ≤ z; omega)
theorem law_lp (hN : a_ln E 0 ≤ 384) : ∀ (q : Nat) (i : Int) (h : AHi) (hr : AHr) (n : Nat), (a_ln E 0 : Int) - i ≤ 6 * q → 0 ≤ i → i ≤ 400 → INV E h hr n → Tm E 359 (a_bl 359 1) [.ref 0, .ref 43, .ref 704, .int (J i)] [] h hr n (fun r => r.1 = some (.int 1) ∧ r.2.2.2 ≤ 776) := by
  intro q
  induction q with
  | zero =>
    intro i h hr n hq i0 i9 I
    have hn := I.1.1.h
    have nn : n ≤ 776 := by rcases I.1.1 with w | w <;> omega
    rw [k359_1]
    simp +decide (maxSteps := 4000000) (disch := omega) only [k359_0, k359_2, k359_3, k359_4, k359_5, k359_6, k359_7, k359_8, k359_9, k359_10, k359_11, k359_12, k359_13, k359_14, k359_15, k359_16, k359_17, k359_18, k359_19, k359_20, k359_21, k359_22, k359_23, k359_24, k359_25, k359_26, k359_27, k359_28, k359_29, k359_30, k359_31, k359_32, k359_33, k359_34, k359_35, k359_36, k359_37, k359_38, k359_39, k359_40, k359_41, k359_42, k359_43, k359_44, k359_45, k359_46, k359_47, k359_48, k359_49, k359_50, k359_51, k359_52, k359_53, k359_54, k359_r, k359_s, T_dupI, T_dupR, F_as1i, F_as1r, F_as1m, F_as2i, F_as2r, F_as2m, T_I, F_is3i, F_is3r, F_is3m, T_ft, F_il3, F_al0, J_alen, T_sub, T_icgt, X_iald, T_and, T_sw, F_al1, T_add, F_al2, T_iceq, T_ret, F_inc3i, F_inc3r, F_inc3m, T_goto, c132, c133, c134, c135, c136, c140, c142, c143, c144, c147, c148, c149, c152, c154, c155, c156, c157, c159, c160, c161, c162, c163, c164, c165, c166, c167, c170, c172, c174, c175, c176, c179, c180, c181, c182, c183, c184, c185, c186, c187, c190, c192, c193, c194, c195, c202, c203, c204, c205, c206, c208, c209, c212, c213, c214, c215, c216, c228, c231, c234, c236, c245, c249, c250, c256, c259, c260, c262, c263, c268, c269, c270, c271, c272, c273, c279, c280, c283, c284, c285, c290, c293, c297, c298, c299, c301, c302, c305, c306, c307, c308, c309, c311, c314, c315, c322, c323, c330, c331, c333, c334, c335, c336, c337, show (a_ln E 0 : Int) - 6 < i by omega, ↓reduceIte, TK, lt_run hn, le43, Int.le_refl, Int.lt_irrefl, Option.some.injEq, exists_eq_left', true_and, and_true, if_true, if_false, decide_eq_false_iff_not, decide_eq_true_eq, Nat.reduceAdd, Nat.reduceLeDiff, Nat.reduceLT, Int.reduceAdd, Int.reduceSub, Int.reduceMul, Int.reduceNeg, not_true_eq_false, not_false_eq_true]
    first | exact ⟨rfl, nn⟩ | exact nn
  | succ q ih =>
    intro i h hr n hq i0 i9 I
    have hn := I.1.1.h
    have nn : n ≤ 776 := by rcases I.1.1 with w | w <;> omega
    by_cases g : (a_ln E 0 : Int) - 6 < i
    · rw [k359_1]
      simp +decide (maxSteps := 4000000) (disch := omega) only [k359_0, k359_2, k359_3, k359_4, k359_5, k359_6, k359_7, k359_8, k359_9, k359_10, k359_11, k359_12, k359_13, k359_14, k359_15, k359_16, k359_17, k359_18, k359_19, k359_20, k359_21, k359_22, k359_23, k359_24, k359_25, k359_26, k359_27, k359_28, k359_29, k359_30, k359_31, k359_32, k359_33, k359_34, k359_35, k359_36, k359_37, k359_38, k359_39, k359_40, k359_41, k359_42, k359_43, k359_44, k359_45, k359_46, k359_47, k359_48, k359_49, k359_50, k359_51, k359_52, k359_53, k359_54, k359_r, k359_s, T_dupI, T_dupR, F_as1i, F_as1r, F_as1m, F_as2i, F_as2r, F_as2m, T_I, F_is3i, F_is3r, F_is3m, T_ft, F_il3, F_al0, J_alen, T_sub, T_icgt, X_iald, T_and, T_sw, F_al1, T_add, F_al2, T_iceq, T_ret, F_inc3i, F_inc3r, F_inc3m, T_goto, c132, c133, c134, c135, c136, c140, c142, c143, c144, c147, c148, c149, c152, c154, c155, c156, c157, c159, c160, c161, c162, c163, c164, c165, c166, c167, c170, c172, c174, c175, c176, c179, c180, c181, c182, c183, c184, c185, c186, c187, c190, c192, c193, c194, c195, c202, c203, c204, c205, c206, c208, c209, c212, c213, c214, c215, c216, c228, c231, c234, c236, c245, c249, c250, c256, c259, c260, c262, c263, c268, c269, c270, c271, c272, c273, c279, c280, c283, c284, c285, c290, c293, c297, c298, c299, c301, c302, c305, c306, c307, c308, c309, c311, c314, c315, c322, c323, c330, c331, c333, c334, c335, c336, c337, g, ↓reduceIte, TK, lt_run hn, le43, Int.le_refl, Int.lt_irrefl, Option.some.injEq, exists_eq_left', true_and, and_true, if_true, if_false, decide_eq_false_iff_not, decide_eq_true_eq, Nat.reduceAdd, Nat.reduceLeDiff, Nat.reduceLT, Int.reduceAdd, Int.reduceSub, Int.reduceMul, Int.reduceNeg, not_true_eq_false, not_false_eq_true]
      first | exact ⟨rfl, nn⟩ | exact nn
    have i1 : i + 6 ≤ (a_ln E 0 : Int) := by omega
    obtain ⟨z, hz, ez⟩ := an63 (E.2 (J i).toNatClampNeg)
    have ih' := fun h' hr' n' I' => ih (i + 6) h' hr' n' (by omega) (by omega) (by omega) I'
    rw [k359_1]
    simp +decide (maxSteps := 4000000) (disch := omega) only [k359_0, k359_2, k359_3, k359_4, k359_5, k359_6, k359_7, k359_8, k359_9, k359_10, k359_11, k359_12, k359_13, k359_14, k359_15, k359_16, k359_17, k359_18, k359_19, k359_20, k359_21, k359_22, k359_23, k359_24, k359_25, k359_26, k359_27, k359_28, k359_29, k359_30, k359_31, k359_32, k359_33, k359_34, k359_35, k359_36, k359_37, k359_38, k359_39, k359_40, k359_41, k359_42, k359_43, k359_44, k359_45, k359_46, k359_47, k359_48, k359_49, k359_50, k359_51, k359_52, k359_53, k359_54, k359_r, k359_s, T_dupI, T_dupR, F_as1i, F_as1r, F_as1m, F_as2i, F_as2r, F_as2m, T_I, F_is3i, F_is3r, F_is3m, T_ft, F_il3, F_al0, J_alen, T_sub, T_icgt, X_iald, T_and, T_sw, F_al1, T_add, F_al2, T_iceq, T_ret, F_inc3i, F_inc3r, F_inc3m, T_goto, c132, c133, c134, c135, c136, c140, c142, c143, c144, c147, c148, c149, c152, c154, c155, c156, c157, c159, c160, c161, c162, c163, c164, c165, c166, c167, c170, c172, c174, c175, c176, c179, c180, c181, c182, c183, c184, c185, c186, c187, c190, c192, c193, c194, c195, c202, c203, c204, c205, c206, c208, c209, c212, c213, c214, c215, c216, c228, c231, c234, c236, c245, c249, c250, c256, c259, c260, c262, c263, c268, c269, c270, c271, c272, c273, c279, c280, c283, c284, c285, c290, c293, c297, c298, c299, c301, c302, c305, c306, c307, c308, c309, c311, c314, c315, c322, c323, c330, c331, c333, c334, c335, c336, c337, g, rx0, ez, ↓reduceIte, TK, lt_run hn, le43, Int.le_refl, Int.lt_irrefl, Option.some.injEq, exists_eq_left', true_and, and_true, if_true, if_false, decide_eq_false_iff_not, decide_eq_true_eq, Nat.reduceAdd, Nat.reduceLeDiff, Nat.reduceLT, Int.reduceAdd, Int.reduceSub, Int.reduceMul, Int.reduceNeg, not_true_eq_false, not_false_eq_true]
    by_cases g51 : 51 ≤ z
    · rw [swl_hi g51 hz.2]
      rw [k359_53]
      simp +decide (maxSteps := 4000000) (disch := omega) only [k359_0, k359_2, k359_3, k359_4, k359_5, k359_6, k359_7, k359_8, k359_9, k359_10, k359_11, k359_12, k359_13, k359_14, k359_15, k359_16, k359_17, k359_18, k359_19, k359_20, k359_21, k359_22, k359_23, k359_24, k359_25, k359_26, k359_27, k359_28, k359_29, k359_30, k359_31, k359_32, k359_33, k359_34, k359_35, k359_36, k359_37, k359_38, k359_39, k359_40, k359_41, k359_42, k359_43, k359_44, k359_45, k359_46, k359_47, k359_48, k359_49, k359_50, k359_51, k359_52, k359_53, k359_54, k359_r, k359_s, T_dupI, T_dupR, F_as1i, F_as1r, F_as1m, F_as2i, F_as2r, F_as2m, T_I, F_is3i, F_is3r, F_is3m, T_ft, F_il3, F_al0, J_alen, T_sub, T_icgt, X_iald, T_and, T_sw, F_al1, T_add, F_al2, T_iceq, T_ret, F_inc3i, F_inc3r, F_inc3m, T_goto, c132, c133, c134, c135, c136, c140, c142, c143, c144, c147, c148, c149, c152, c154, c155, c156, c157, c159, c160, c161, c162, c163, c164, c165, c166, c167, c170, c172, c174, c175, c176, c179, c180, c181, c182, c183, c184, c185, c186, c187, c190, c192, c193, c194, c195, c202, c203, c204, c205, c206, c208, c209, c212, c213, c214, c215, c216, c228, c231, c234, c236, c245, c249, c250, c256, c259, c260, c262, c263, c268, c269, c270, c271, c272, c273, c279, c280, c283, c284, c285, c290, c293, c297, c298, c299, c301, c302, c305, c306, c307, c308, c309, c311, c314, c315, c322, c323, c330, c331, c333, c334, c335, c336, c337, ↓reduceIte, TK, lt_run hn, le43, Int.le_refl, Int.lt_irrefl, Option.some.injEq, exists_eq_left', true_and, and_true, if_true, if_false, decide_eq_false_iff_not, decide_eq_true_eq, Nat.reduceAdd, Nat.reduceLeDiff, Nat.reduceLT, Int.reduceAdd, Int.reduceSub, Int.reduceMul, Int.reduceNeg, not_true_eq_false, not_false_eq_true]
      exact ih' h hr n I
    rcases (show z = 0 ∨ z = 1 ∨ z = 2 ∨ z = 3 ∨ z = 4 ∨ z = 5 ∨ z = 6 ∨ z = 7 ∨ z = 8 ∨ z = 9 ∨ z = 10 ∨ z = 11 ∨ z = 12 ∨ z = 13 ∨ z = 14 ∨ z = 15 ∨ z = 16 ∨ z = 17 ∨ z = 18 ∨ z = 19 ∨ z = 20 ∨ z = 21 ∨ z = 22 ∨ z = 23 ∨ z = 24 ∨ z = 25 ∨ z = 26 ∨ z = 27 ∨ z = 28 ∨ z = 29 ∨ z = 30 ∨ z = 31 ∨ z = 32 ∨ z = 33 ∨ z = 34 ∨ z = 35 ∨ z = 36 ∨ z = 37 ∨ z = 38 ∨ z = 39 ∨ z = 40 ∨ z = 41 ∨ z = 42 ∨ z = 43 ∨ z = 44 ∨ z = 45 ∨ z = 46 ∨ z = 47 ∨ z = 48 ∨ z = 49 ∨ z = 50 by omega) with rfl | rfl | rfl | rfl | rfl | rfl | rfl | rfl | rfl | rfl | rfl | rfl | rfl | rfl | rfl | rfl | rfl | rfl | rfl | rfl | rfl | rfl | rfl | rfl | rfl | rfl | rfl | rfl | rfl | rfl | rfl | rfl | rfl | rfl | rfl | rfl | rfl | rfl | rfl | rfl | rfl | rfl | rfl | rfl | rfl | rfl | rfl | rfl | rfl | rfl | rfl
    · rw [swl_0]
      exact lw_2 hN I i0 i1 ih'
    · rw [swl_1]
      exact lw_3 hN I i0 i1 ih'
    · rw [swl_2]
      exact lw_4 hN I i0 i1 ih'
    · rw [swl_3]
      exact lw_5 hN I i0 i1 ih'
    · rw [swl_4]
      exact lw_6 hN I i0 i1 ih'
    · rw [swl_5]
      exact lw_7 hN I i0 i1 ih'
    · rw [swl_6]
      exact lw_8 hN I i0 i1 ih'
    · rw [swl_7]
      exact lw_9 hN I i0 i1 ih'
    · rw [swl_8]
      exact lw_10 hN I i0 i1 ih'
    · rw [swl_9]
      exact lw_11 hN I i0 i1 ih'
    · rw [swl_10]
      exact lw_12 hN I i0 i1 ih'
    · rw [swl_11]
      exact lw_13 hN I i0 i1 ih'
    · rw [swl_12]
      exact lw_14 hN I i0 i1 ih'
    · rw [swl_13]
      exact lw_15 hN I i0 i1 ih'
    · rw [swl_14]
      exact lw_16 hN I i0 i1 ih'
    · rw [swl_15]
      exact lw_17 hN I i0 i1 ih'
    · rw [swl_16]
      exact lw_18 hN I i0 i1 ih'
    · rw [swl_17]
      exact lw_19 hN I i0 i1 ih'
    · rw [swl_18]
      exact lw_20 hN I i0 i1 ih'
    · rw [swl_19]
      exact lw_21 hN I i0 i1 ih'
    · rw [swl_20]
      exact lw_22 hN I i0 i1 ih'
    · rw [swl_21]
      exact lw_23 hN I i0 i1 ih'
    · rw [swl_22]
      exact lw_24 hN I i0 i1 ih'
    · rw [swl_23]
      exact lw_25 hN I i0 i1 ih'
    · rw [swl_24]
      exact lw_26 hN I i0 i1 ih'
    · rw [swl_25]
      exact lw_27 hN I i0 i1 ih'
    · rw [swl_26]
      exact lw_28 hN I i0 i1 ih'
    · rw [swl_27]
      exact lw_29 hN I i0 i1 ih'
    · rw [swl_28]
      exact lw_30 hN I i0 i1 ih'
    · rw [swl_29]
      exact lw_31 hN I i0 i1 ih'
    · rw [swl_30]
      exact lw_32 hN I i0 i1 ih'
    · rw [swl_31]
      exact lw_33 hN I i0 i1 ih'
    · rw [swl_32]
      exact lw_34 hN I i0 i1 ih'
    · rw [swl_33]
      exact lw_35 hN I i0 i1 ih'
    · rw [swl_34]
      exact lw_36 hN I i0 i1 ih'
    · rw [swl_35]
      exact lw_37 hN I i0 i1 ih'
    · rw [swl_36]
      exact lw_38 hN I i0 i1 ih'
    · rw [swl_37]
      exact lw_39 hN I i0 i1 ih'
    · rw [swl_38]
      exact lw_40 hN I i0 i1 ih'
    · rw [swl_39]
      exact lw_41 hN I i0 i1 ih'
    · rw [swl_40]
      exact lw_42 hN I i0 i1 ih'
    · rw [swl_41]
      exact lw_43 hN I i0 i1 ih'
    · rw [swl_42]
      exact lw_44 hN I i0 i1 ih'
    · rw [swl_43]
      exact lw_45 hN I i0 i1 ih'
    · rw [swl_44]
      exact lw_46 hN I i0 i1 ih'
    · rw [swl_45]
      exact lw_47 hN I i0 i1 ih'
    · rw [swl_46]
      exact lw_48 hN I i0 i1 ih'
    · rw [swl_47]
      exact lw_49 hN I i0 i1 ih'
    · rw [swl_48]
      exact lw_50 hN I i0 i1 ih'
    · rw [swl_49]
      exact lw_51 hN I i0 i1 ih'
    · rw [swl_50]
      exact lw_52 hN I i0 i1 ih'
theorem law_all (L : Nat) (xs : Nat → Int32) (hL : L ≤ 384) : LawRun (L, xs) := by
  have hN : a_ln (L, xs) 0 ≤ 384 := hL
  obtain ⟨i, r, hf, r1, r2⟩ := new_run (L, xs)
  have e1 : va_up hi0 43 (fun _ => 0) = LI [] := by
    funext x
    by_cases w : x = 43
    · rw [w, va_up_self]
      rfl
    · rw [va_up_ne _ _ w]
      rfl
  have e2 : va_up hr0 43 (fun _ => none) = LR [] := by
    funext x
    by_cases w : x = 43
    · rw [w, va_up_self]
      rfl
    · rw [va_up_ne _ _ w]
      rfl
  have kd43 : a_kd 43 = 10 := by decide +kernel
  have kd704 : a_kd 704 = 11 := by decide +kernel
  have fin : Tm (L, xs) 359 (a_bl 359 1) [.ref 0, .ref 43, .ref 704, .int (J 0)] [] (LI litI) (LR litR) 775 (fun r => r.1 = some (.int 1) ∧ r.2.2.2 ≤ 776) := law_lp hN 400 0 _ _ _ (by omega) (by decide) (by decide) (INV_new _)
  have main : Sp (L, xs) 359 [.ref 0] hi0 hr0 43 (fun r => r.1 = some (.int 1) ∧ r.2.2.2 ≤ 776) := by
    simp +decide (maxSteps := 4000000) (disch := omega) only [k359_0, k359_2, k359_3, k359_4, k359_5, k359_6, k359_7, k359_8, k359_9, k359_10, k359_11, k359_12, k359_13, k359_14, k359_15, k359_16, k359_17, k359_18, k359_19, k359_20, k359_21, k359_22, k359_23, k359_24, k359_25, k359_26, k359_27, k359_28, k359_29, k359_30, k359_31, k359_32, k359_33, k359_34, k359_35, k359_36, k359_37, k359_38, k359_39, k359_40, k359_41, k359_42, k359_43, k359_44, k359_45, k359_46, k359_47, k359_48, k359_49, k359_50, k359_51, k359_52, k359_53, k359_54, k359_r, k359_s, T_dupI, T_dupR, F_as1i, F_as1r, F_as1m, F_as2i, F_as2r, F_as2m, T_I, F_is3i, F_is3r, F_is3m, T_ft, F_il3, F_al0, J_alen, T_sub, T_icgt, X_iald, T_and, T_sw, F_al1, T_add, F_al2, T_iceq, T_ret, F_inc3i, F_inc3r, F_inc3m, T_goto, c132, c133, c134, c135, c136, c140, c142, c143, c144, c147, c148, c149, c152, c154, c155, c156, c157, c159, c160, c161, c162, c163, c164, c165, c166, c167, c170, c172, c174, c175, c176, c179, c180, c181, c182, c183, c184, c185, c186, c187, c190, c192, c193, c194, c195, c202, c203, c204, c205, c206, c208, c209, c212, c213, c214, c215, c216, c228, c231, c234, c236, c245, c249, c250, c256, c259, c260, c262, c263, c268, c269, c270, c271, c272, c273, c279, c280, c283, c284, c285, c290, c293, c297, c298, c299, c301, c302, c305, c306, c307, c308, c309, c311, c314, c315, c322, c323, c330, c331, c333, c334, c335, c336, c337, T_new, e1, e2, kd43, ↓reduceIte, TK, le43, Int.le_refl, Int.lt_irrefl, Option.some.injEq, exists_eq_left', true_and, and_true, if_true, if_false, decide_eq_false_iff_not, decide_eq_true_eq, Nat.reduceAdd, Nat.reduceLeDiff, Nat.reduceLT, Int.reduceAdd, Int.reduceSub, Int.reduceMul, Int.reduceNeg, not_true_eq_false, not_false_eq_true]
    refine Sp.mo r1 ?_
    rintro _ _ rfl
    simp +decide (maxSteps := 4000000) (disch := omega) only [k359_0, k359_2, k359_3, k359_4, k359_5, k359_6, k359_7, k359_8, k359_9, k359_10, k359_11, k359_12, k359_13, k359_14, k359_15, k359_16, k359_17, k359_18, k359_19, k359_20, k359_21, k359_22, k359_23, k359_24, k359_25, k359_26, k359_27, k359_28, k359_29, k359_30, k359_31, k359_32, k359_33, k359_34, k359_35, k359_36, k359_37, k359_38, k359_39, k359_40, k359_41, k359_42, k359_43, k359_44, k359_45, k359_46, k359_47, k359_48, k359_49, k359_50, k359_51, k359_52, k359_53, k359_54, k359_r, k359_s, T_dupI, T_dupR, F_as1i, F_as1r, F_as1m, F_as2i, F_as2r, F_as2m, T_I, F_is3i, F_is3r, F_is3m, T_ft, F_il3, F_al0, J_alen, T_sub, T_icgt, X_iald, T_and, T_sw, F_al1, T_add, F_al2, T_iceq, T_ret, F_inc3i, F_inc3r, F_inc3m, T_goto, c132, c133, c134, c135, c136, c140, c142, c143, c144, c147, c148, c149, c152, c154, c155, c156, c157, c159, c160, c161, c162, c163, c164, c165, c166, c167, c170, c172, c174, c175, c176, c179, c180, c181, c182, c183, c184, c185, c186, c187, c190, c192, c193, c194, c195, c202, c203, c204, c205, c206, c208, c209, c212, c213, c214, c215, c216, c228, c231, c234, c236, c245, c249, c250, c256, c259, c260, c262, c263, c268, c269, c270, c271, c272, c273, c279, c280, c283, c284, c285, c290, c293, c297, c298, c299, c301, c302, c305, c306, c307, c308, c309, c311, c314, c315, c322, c323, c330, c331, c333, c334, c335, c336, c337, T_new, va_id (LI_f hf (Nat.le_refl _)), va_id (LR_f hf (Nat.le_refl _)), kd704, ↓reduceIte, TK, le43, Int.le_refl, Int.lt_irrefl, Option.some.injEq, exists_eq_left', true_and, and_true, if_true, if_false, decide_eq_false_iff_not, decide_eq_true_eq, Nat.reduceAdd, Nat.reduceLeDiff, Nat.reduceLT, Int.reduceAdd, Int.reduceSub, Int.reduceMul, Int.reduceNeg, not_true_eq_false, not_false_eq_true]
    refine Sp.mo r2 ?_
    rintro _ _ rfl
    simp +decide (maxSteps := 4000000) (disch := omega) only [k359_0, k359_2, k359_3, k359_4, k359_5, k359_6, k359_7, k359_8, k359_9, k359_10, k359_11, k359_12, k359_13, k359_14, k359_15, k359_16, k359_17, k359_18, k359_19, k359_20, k359_21, k359_22, k359_23, k359_24, k359_25, k359_26, k359_27, k359_28, k359_29, k359_30, k359_31, k359_32, k359_33, k359_34, k359_35, k359_36, k359_37, k359_38, k359_39, k359_40, k359_41, k359_42, k359_43, k359_44, k359_45, k359_46, k359_47, k359_48, k359_49, k359_50, k359_51, k359_52, k359_53, k359_54, k359_r, k359_s, T_dupI, T_dupR, F_as1i, F_as1r, F_as1m, F_as2i, F_as2r, F_as2m, T_I, F_is3i, F_is3r, F_is3m, T_ft, F_il3, F_al0, J_alen, T_sub, T_icgt, X_iald, T_and, T_sw, F_al1, T_add, F_al2, T_iceq, T_ret, F_inc3i, F_inc3r, F_inc3m, T_goto, c132, c133, c134, c135, c136, c140, c142, c143, c144, c147, c148, c149, c152, c154, c155, c156, c157, c159, c160, c161, c162, c163, c164, c165, c166, c167, c170, c172, c174, c175, c176, c179, c180, c181, c182, c183, c184, c185, c186, c187, c190, c192, c193, c194, c195, c202, c203, c204, c205, c206, c208, c209, c212, c213, c214, c215, c216, c228, c231, c234, c236, c245, c249, c250, c256, c259, c260, c262, c263, c268, c269, c270, c271, c272, c273, c279, c280, c283, c284, c285, c290, c293, c297, c298, c299, c301, c302, c305, c306, c307, c308, c309, c311, c314, c315, c322, c323, c330, c331, c333, c334, c335, c336, c337, ↓reduceIte, TK, le43, Int.le_refl, Int.lt_irrefl, Option.some.injEq, exists_eq_left', true_and, and_true, if_true, if_false, decide_eq_false_iff_not, decide_eq_true_eq, Nat.reduceAdd, Nat.reduceLeDiff, Nat.reduceLT, Int.reduceAdd, Int.reduceSub, Int.reduceMul, Int.reduceNeg, not_true_eq_false, not_false_eq_true]
    exact fin
  exact main
end LZ
