/-! tween: the reference's call; tween -/
section TH
variable {E : AEn} {h h' : AHi} {hr : AHr} {n : Nat} {Q : ARs → Prop} {D D' : Drw} {m : Int} {f g : Int → Int} {a b d e t : Int}
theorem w280 (F : FH hr) (hn : 775 ≤ n) (hd : 0 ≤ d ∧ d ≤ 15) (he : 0 ≤ e ∧ e ≤ 15) (ht : 0 ≤ t ∧ t ≤ 15) (n1 : t ≠ d) (n2 : t ≠ e) (ha : 0 ≤ a ∧ a ≤ b) (hb : 1 ≤ b ∧ b ≤ 24) (M : DM h d D) (M' : DM h e D') (R : DRr D) (R' : DRr D') (H : maH (mack D D') D.1 D'.1 m f g) (b1 : h 704 45 = J m) (b2 : ∀ i, 0 ≤ i → i < m → gA h 737 i = J (f i) ∧ gA h 738 i = J (g i)) {G G' : Fils} (Rg : FRr G) (Rg' : FRr G') (Cg : FD h d G) (Cg' : FD h e G')
    (k : ∀ h', Ef (fun x k => Smb x k ∨ Sy t.toNat x k ∨ Stt t.toNat x k) h h' → DM h' t (twX D D' m f g a b) → FD h' t (if 2 * a < b then G else G') → Q (some (.int (J (twX D D' m f g a b).1)), h', hr, n)) : Sp E 280 [.ref 704, .int (J d), .int (J e), .int (J a), .int (J b), .int (J t)] h hr n Q := by
  have RX := twX_r R R' ha hb H
  have rx := RX.1
  have sr := maR_r H (P := maPP D.1 D'.1 m f g) D.1.toNat 0
  have fin : ∀ (ea : Bool) (N : Int) (v9 v10 : Int32) (v11 v12 v13 : Value) (h1 : AHi), ea = decide (2 * a < b) → N = (twX D D' m f g a b).1 → Ef (fun x k => Smb x k ∨ Sy t.toNat x k) h h1 → (∀ s, 0 ≤ s → s < (twX D D' m f g a b).1 → SM h1 (8 * t + s) ((twX D D' m f g a b).2 s)) → Tm E 280 (a_bl 280 30) [.ref 704, .int (J d), .int (J e), .int (J a), .int (J b), .int (J t), .int (Bz ea), .int (J N), .int (J (maR (mack D D') (maPP D.1 D'.1 m f g) D.1 D'.1 D.1.toNat 0)), .int v9, .int v10, v11, v12, v13] [] h1 hr n Q := fun ea N v9 v10 v11 v12 v13 h1 q1 q2 q3 q4 => by
    have nf : ∀ x k, 719 ≤ x → x ≤ 723 → ¬ (Smb x k ∨ Sy t.toNat x k) := fun x k w1 w2 z => by
      unfold Smb Sy Sn at z
      omega
    have C1 := Cg.ef q3 nf
    have C2 := Cg'.ef q3 nf
    have ks : ∀ h' G0, G0 = (if 2 * a < b then G else G') → Ef (Stt t.toNat) h1 h' → gA h' 708 t = J N → FD h' t G0 → Q (some (.int (J N)), h', hr, n) := fun h' G0 w0 w1 w2 w3 => by
      rw [q2] at w2 ⊢
      refine k h' (Ef.trans (q3.mono fun x k q => ?_) (w1.mono fun x k q => Or.inr (Or.inr q))) ⟨w2, fun s s0 s1 => ?_⟩ (w0 ▸ w3)
      · rcases q with q | q
        · exact Or.inl q
        · exact Or.inr (Or.inl q)
      · exact (q4 s s0 s1).ef (by omega) (RX.2 s).2.1.2 w1 (fun q => by unfold Stt at q; omega) (fun q => by unfold Stt at q; omega) (fun i _ _ => ⟨fun q => by unfold Stt at q; omega, fun q => by unfold Stt at q; omega⟩)
    by_cases g1 : 2 * a < b
    · rw [q1, decide_eq_true g1]
      exact z280t F hn (fm := d) (by omega) (by omega) (by omega) rfl (by omega) (by omega) Rg C1 (fun h' w1 w2 w3 => ks h' G (by rw [if_pos g1]) w1 w2 w3)
    · rw [q1, decide_eq_false g1]
      exact z280t F hn (fm := e) (by omega) (by omega) (by omega) rfl (by omega) (by omega) Rg' C2 (fun h' w1 w2 w3 => ks h' G' (by rw [if_neg g1]) w1 w2 w3)
  have key : ∀ (ea : Bool) (h1 : AHi), ea = decide (2 * a < b) → Ef Smb h h1 → (∀ i, 0 ≤ i → i < D.1 → gA h1 741 i = J (maZ (mack D D') D.1 D'.1 m f g i)) → (a = 0 → Tm E 280 (a_bl 280 10) [.ref 704, .int (J d), .int (J e), .int (J a), .int (J b), .int (J t), .int (Bz ea), .int (J 0), .int (J (maR (mack D D') (maPP D.1 D'.1 m f g) D.1 D'.1 D.1.toNat 0)), .int (J 1), .int (J d), .int (J 0), a_mk, a_mk] [] h1 hr n Q) ∧ (a ≠ 0 → a = b → Tm E 280 (a_bl 280 10) [.ref 704, .int (J d), .int (J e), .int (J a), .int (J b), .int (J t), .int (Bz ea), .int (J 0), .int (J (maR (mack D D') (maPP D.1 D'.1 m f g) D.1 D'.1 D.1.toNat 0)), .int (J 1), .int (J e), .int (J 0), a_mk, a_mk] [] h1 hr n Q) ∧ (a ≠ 0 → a ≠ b → Tm E 280 (a_bl 280 10) [.ref 704, .int (J d), .int (J e), .int (J a), .int (J b), .int (J t), .int (Bz ea), .int (J 0), .int (J (maR (mack D D') (maPP D.1 D'.1 m f g) D.1 D'.1 D.1.toNat 0)), .int (J 0), .int (J e), .int (J 0), a_mk, a_mk] [] h1 hr n Q) := fun ea h1 q1 q2 q3 => by
    have M1 := M.mb hd.1 R q2
    have M2 := M'.mb he.1 R' q2
    have e2 : ∀ h2, Ef (Sy t.toNat) h1 h2 → Ef (fun x k => Smb x k ∨ Sy t.toNat x k) h h2 := fun h2 w => Ef.trans (q2.mono fun x k q => Or.inl q) (w.mono fun x k q => Or.inr q)
    refine ⟨fun g0 => ?_, fun g0 g1 => ?_, fun g0 g1 => ?_⟩
    · have ex : twX D D' m f g a b = D := by unfold twX; rw [if_pos g0]
      rw [ex] at fin
      exact z280a F hn (by omega) (by omega) (by omega) R M1 (fun h2 v11 w1 w2 => fin ea D.1 _ _ _ _ _ h2 q1 rfl (e2 h2 w1) w2)
    · have ex : twX D D' m f g a b = D' := by unfold twX; rw [if_neg g0, if_pos g1]
      rw [ex] at fin
      exact z280a F hn (by omega) (by omega) (by omega) R' M2 (fun h2 v11 w1 w2 => fin ea D'.1 _ _ _ _ _ h2 q1 rfl (e2 h2 w1) w2)
    · have ex : twX D D' m f g a b = lsD (twF D D' (maZ (mack D D') D.1 D'.1 m f g) (maS (maX (maCC (mack D D') D.1 D'.1 m f g) D.1 D'.1)) a b) := by unfold twX; rw [if_neg g0, if_neg g1]
      rw [ex] at fin
      exact z280b F hn (by omega) (by omega) (by omega) (by omega) (by omega) q1 R R' M1 M2 H.tw q3 ha hb (fun h2 v11 v12 v13 w1 w2 => fin ea _ _ _ _ _ _ h2 q1 rfl (e2 h2 w1) w2)
  by_cases g2 : 2 * a < b
  · simp +decide (maxSteps := 4000000) (disch := omega) only [k280_0, k280_1, k280_2, k280_3, k280_4, k280_5, k280_6, k280_7, k280_8, k280_9, k280_11, k280_13, k280_14, k280_15, k280_16, k280_17, k280_18, k280_19, k280_20, k280_21, k280_24, k280_25, k280_26, k280_27, k280_28, k280_29, k280_30, k280_31, k280_32, k280_34, k280_35, k280_36, k280_r, k280_s, F_il1, J_ifeq, F_il2, F_il4, T_I, F_il3, F_il5, T_iceq, J_icne, T_ft, T_ret, T_mul, T_icge, T_goto, F_is6i, F_is6r, F_is6m, F_is7i, F_is7r, F_is7m, F_al0, F_is8i, F_is8r, F_is8m, F_is9i, F_is9r, F_is9m, J_ifne, F_is10i, F_is10r, F_is10m, F_is11i, F_is11r, F_is11m, F_il9, F_il11, T_getR, F_il10, X_iald, T_add, F_il7, F_inc7i, F_inc7r, F_inc7m, F_inc11i, F_inc11r, F_inc11m, F_is12i, F_is12r, F_is12m, F_il6, F_il12, F_is13i, F_is13r, F_is13m, F_il13, T_getI, F_inc13i, F_inc13r, F_inc13m, T_iast, F_inc12i, F_inc12r, F_inc12m, F_il8, J_ifge, c218, c219, c227, c230, c258, c274, c281, ↓s218, ↓s219, FM F, hd, he, ht, hb, ha, n1, n2, g2, show ¬ b ≤ 2 * a by omega, ↓reduceIte, TK, lt_run hn, le43, Int.le_refl, Int.lt_irrefl, Option.some.injEq, exists_eq_left', true_and, and_true, if_true, if_false, decide_eq_false_iff_not, decide_eq_true_eq, Nat.reduceAdd, Nat.reduceLeDiff, Nat.reduceLT, Int.reduceAdd, Int.reduceSub, Int.reduceMul, Int.reduceNeg, not_true_eq_false, not_false_eq_true]
    refine w274 F hn (by omega) (by omega) M M' R R' H b1 b2 (fun h1 e1 e2 => ?_)
    obtain ⟨k1, k2, k3⟩ := key true h1 (decide_eq_true g2).symm e1 e2
    by_cases g0 : a = 0
    · simp +decide (maxSteps := 4000000) (disch := omega) only [k280_0, k280_1, k280_2, k280_3, k280_4, k280_5, k280_6, k280_7, k280_8, k280_9, k280_11, k280_13, k280_14, k280_15, k280_16, k280_17, k280_18, k280_19, k280_20, k280_21, k280_24, k280_25, k280_26, k280_27, k280_28, k280_29, k280_30, k280_31, k280_32, k280_34, k280_35, k280_36, k280_r, k280_s, F_il1, J_ifeq, F_il2, F_il4, T_I, F_il3, F_il5, T_iceq, J_icne, T_ft, T_ret, T_mul, T_icge, T_goto, F_is6i, F_is6r, F_is6m, F_is7i, F_is7r, F_is7m, F_al0, F_is8i, F_is8r, F_is8m, F_is9i, F_is9r, F_is9m, J_ifne, F_is10i, F_is10r, F_is10m, F_is11i, F_is11r, F_is11m, F_il9, F_il11, T_getR, F_il10, X_iald, T_add, F_il7, F_inc7i, F_inc7r, F_inc7m, F_inc11i, F_inc11r, F_inc11m, F_is12i, F_is12r, F_is12m, F_il6, F_il12, F_is13i, F_is13r, F_is13m, F_il13, T_getI, F_inc13i, F_inc13r, F_inc13m, T_iast, F_inc12i, F_inc12r, F_inc12m, F_il8, J_ifge, c218, c219, c227, c230, c258, c274, c281, ↓s218, ↓s219, eq_true g0, ↓reduceIte, TK, lt_run hn, le43, Int.le_refl, Int.lt_irrefl, Option.some.injEq, exists_eq_left', true_and, and_true, if_true, if_false, decide_eq_false_iff_not, decide_eq_true_eq, Nat.reduceAdd, Nat.reduceLeDiff, Nat.reduceLT, Int.reduceAdd, Int.reduceSub, Int.reduceMul, Int.reduceNeg, not_true_eq_false, not_false_eq_true]
      exact k1 g0
    · by_cases g1 : a = b
      · simp +decide (maxSteps := 4000000) (disch := omega) only [k280_0, k280_1, k280_2, k280_3, k280_4, k280_5, k280_6, k280_7, k280_8, k280_9, k280_11, k280_13, k280_14, k280_15, k280_16, k280_17, k280_18, k280_19, k280_20, k280_21, k280_24, k280_25, k280_26, k280_27, k280_28, k280_29, k280_30, k280_31, k280_32, k280_34, k280_35, k280_36, k280_r, k280_s, F_il1, J_ifeq, F_il2, F_il4, T_I, F_il3, F_il5, T_iceq, J_icne, T_ft, T_ret, T_mul, T_icge, T_goto, F_is6i, F_is6r, F_is6m, F_is7i, F_is7r, F_is7m, F_al0, F_is8i, F_is8r, F_is8m, F_is9i, F_is9r, F_is9m, J_ifne, F_is10i, F_is10r, F_is10m, F_is11i, F_is11r, F_is11m, F_il9, F_il11, T_getR, F_il10, X_iald, T_add, F_il7, F_inc7i, F_inc7r, F_inc7m, F_inc11i, F_inc11r, F_inc11m, F_is12i, F_is12r, F_is12m, F_il6, F_il12, F_is13i, F_is13r, F_is13m, F_il13, T_getI, F_inc13i, F_inc13r, F_inc13m, T_iast, F_inc12i, F_inc12r, F_inc12m, F_il8, J_ifge, c218, c219, c227, c230, c258, c274, c281, ↓s218, ↓s219, g0, eq_true g1, ↓reduceIte, TK, lt_run hn, le43, Int.le_refl, Int.lt_irrefl, Option.some.injEq, exists_eq_left', true_and, and_true, if_true, if_false, decide_eq_false_iff_not, decide_eq_true_eq, Nat.reduceAdd, Nat.reduceLeDiff, Nat.reduceLT, Int.reduceAdd, Int.reduceSub, Int.reduceMul, Int.reduceNeg, not_true_eq_false, not_false_eq_true]
        exact k2 g0 g1
      · simp +decide (maxSteps := 4000000) (disch := omega) only [k280_0, k280_1, k280_2, k280_3, k280_4, k280_5, k280_6, k280_7, k280_8, k280_9, k280_11, k280_13, k280_14, k280_15, k280_16, k280_17, k280_18, k280_19, k280_20, k280_21, k280_24, k280_25, k280_26, k280_27, k280_28, k280_29, k280_30, k280_31, k280_32, k280_34, k280_35, k280_36, k280_r, k280_s, F_il1, J_ifeq, F_il2, F_il4, T_I, F_il3, F_il5, T_iceq, J_icne, T_ft, T_ret, T_mul, T_icge, T_goto, F_is6i, F_is6r, F_is6m, F_is7i, F_is7r, F_is7m, F_al0, F_is8i, F_is8r, F_is8m, F_is9i, F_is9r, F_is9m, J_ifne, F_is10i, F_is10r, F_is10m, F_is11i, F_is11r, F_is11m, F_il9, F_il11, T_getR, F_il10, X_iald, T_add, F_il7, F_inc7i, F_inc7r, F_inc7m, F_inc11i, F_inc11r, F_inc11m, F_is12i, F_is12r, F_is12m, F_il6, F_il12, F_is13i, F_is13r, F_is13m, F_il13, T_getI, F_inc13i, F_inc13r, F_inc13m, T_iast, F_inc12i, F_inc12r, F_inc12m, F_il8, J_ifge, c218, c219, c227, c230, c258, c274, c281, ↓s218, ↓s219, g0, g1, ↓reduceIte, TK, lt_run hn, le43, Int.le_refl, Int.lt_irrefl, Option.some.injEq, exists_eq_left', true_and, and_true, if_true, if_false, decide_eq_false_iff_not, decide_eq_true_eq, Nat.reduceAdd, Nat.reduceLeDiff, Nat.reduceLT, Int.reduceAdd, Int.reduceSub, Int.reduceMul, Int.reduceNeg, not_true_eq_false, not_false_eq_true]
        exact k3 g0 g1
  · simp +decide (maxSteps := 4000000) (disch := omega) only [k280_0, k280_1, k280_2, k280_3, k280_4, k280_5, k280_6, k280_7, k280_8, k280_9, k280_11, k280_13, k280_14, k280_15, k280_16, k280_17, k280_18, k280_19, k280_20, k280_21, k280_24, k280_25, k280_26, k280_27, k280_28, k280_29, k280_30, k280_31, k280_32, k280_34, k280_35, k280_36, k280_r, k280_s, F_il1, J_ifeq, F_il2, F_il4, T_I, F_il3, F_il5, T_iceq, J_icne, T_ft, T_ret, T_mul, T_icge, T_goto, F_is6i, F_is6r, F_is6m, F_is7i, F_is7r, F_is7m, F_al0, F_is8i, F_is8r, F_is8m, F_is9i, F_is9r, F_is9m, J_ifne, F_is10i, F_is10r, F_is10m, F_is11i, F_is11r, F_is11m, F_il9, F_il11, T_getR, F_il10, X_iald, T_add, F_il7, F_inc7i, F_inc7r, F_inc7m, F_inc11i, F_inc11r, F_inc11m, F_is12i, F_is12r, F_is12m, F_il6, F_il12, F_is13i, F_is13r, F_is13m, F_il13, T_getI, F_inc13i, F_inc13r, F_inc13m, T_iast, F_inc12i, F_inc12r, F_inc12m, F_il8, J_ifge, c218, c219, c227, c230, c258, c274, c281, ↓s218, ↓s219, FM F, hd, he, ht, hb, ha, n1, n2, g2, show b ≤ 2 * a by omega, ↓reduceIte, TK, lt_run hn, le43, Int.le_refl, Int.lt_irrefl, Option.some.injEq, exists_eq_left', true_and, and_true, if_true, if_false, decide_eq_false_iff_not, decide_eq_true_eq, Nat.reduceAdd, Nat.reduceLeDiff, Nat.reduceLT, Int.reduceAdd, Int.reduceSub, Int.reduceMul, Int.reduceNeg, not_true_eq_false, not_false_eq_true]
    refine w274 F hn (by omega) (by omega) M M' R R' H b1 b2 (fun h1 e1 e2 => ?_)
    obtain ⟨k1, k2, k3⟩ := key false h1 (decide_eq_false g2).symm e1 e2
    by_cases g0 : a = 0
    · simp +decide (maxSteps := 4000000) (disch := omega) only [k280_0, k280_1, k280_2, k280_3, k280_4, k280_5, k280_6, k280_7, k280_8, k280_9, k280_11, k280_13, k280_14, k280_15, k280_16, k280_17, k280_18, k280_19, k280_20, k280_21, k280_24, k280_25, k280_26, k280_27, k280_28, k280_29, k280_30, k280_31, k280_32, k280_34, k280_35, k280_36, k280_r, k280_s, F_il1, J_ifeq, F_il2, F_il4, T_I, F_il3, F_il5, T_iceq, J_icne, T_ft, T_ret, T_mul, T_icge, T_goto, F_is6i, F_is6r, F_is6m, F_is7i, F_is7r, F_is7m, F_al0, F_is8i, F_is8r, F_is8m, F_is9i, F_is9r, F_is9m, J_ifne, F_is10i, F_is10r, F_is10m, F_is11i, F_is11r, F_is11m, F_il9, F_il11, T_getR, F_il10, X_iald, T_add, F_il7, F_inc7i, F_inc7r, F_inc7m, F_inc11i, F_inc11r, F_inc11m, F_is12i, F_is12r, F_is12m, F_il6, F_il12, F_is13i, F_is13r, F_is13m, F_il13, T_getI, F_inc13i, F_inc13r, F_inc13m, T_iast, F_inc12i, F_inc12r, F_inc12m, F_il8, J_ifge, c218, c219, c227, c230, c258, c274, c281, ↓s218, ↓s219, eq_true g0, ↓reduceIte, TK, lt_run hn, le43, Int.le_refl, Int.lt_irrefl, Option.some.injEq, exists_eq_left', true_and, and_true, if_true, if_false, decide_eq_false_iff_not, decide_eq_true_eq, Nat.reduceAdd, Nat.reduceLeDiff, Nat.reduceLT, Int.reduceAdd, Int.reduceSub, Int.reduceMul, Int.reduceNeg, not_true_eq_false, not_false_eq_true]
      exact k1 g0
    · by_cases g1 : a = b
      · simp +decide (maxSteps := 4000000) (disch := omega) only [k280_0, k280_1, k280_2, k280_3, k280_4, k280_5, k280_6, k280_7, k280_8, k280_9, k280_11, k280_13, k280_14, k280_15, k280_16, k280_17, k280_18, k280_19, k280_20, k280_21, k280_24, k280_25, k280_26, k280_27, k280_28, k280_29, k280_30, k280_31, k280_32, k280_34, k280_35, k280_36, k280_r, k280_s, F_il1, J_ifeq, F_il2, F_il4, T_I, F_il3, F_il5, T_iceq, J_icne, T_ft, T_ret, T_mul, T_icge, T_goto, F_is6i, F_is6r, F_is6m, F_is7i, F_is7r, F_is7m, F_al0, F_is8i, F_is8r, F_is8m, F_is9i, F_is9r, F_is9m, J_ifne, F_is10i, F_is10r, F_is10m, F_is11i, F_is11r, F_is11m, F_il9, F_il11, T_getR, F_il10, X_iald, T_add, F_il7, F_inc7i, F_inc7r, F_inc7m, F_inc11i, F_inc11r, F_inc11m, F_is12i, F_is12r, F_is12m, F_il6, F_il12, F_is13i, F_is13r, F_is13m, F_il13, T_getI, F_inc13i, F_inc13r, F_inc13m, T_iast, F_inc12i, F_inc12r, F_inc12m, F_il8, J_ifge, c218, c219, c227, c230, c258, c274, c281, ↓s218, ↓s219, g0, eq_true g1, ↓reduceIte, TK, lt_run hn, le43, Int.le_refl, Int.lt_irrefl, Option.some.injEq, exists_eq_left', true_and, and_true, if_true, if_false, decide_eq_false_iff_not, decide_eq_true_eq, Nat.reduceAdd, Nat.reduceLeDiff, Nat.reduceLT, Int.reduceAdd, Int.reduceSub, Int.reduceMul, Int.reduceNeg, not_true_eq_false, not_false_eq_true]
        exact k2 g0 g1
      · simp +decide (maxSteps := 4000000) (disch := omega) only [k280_0, k280_1, k280_2, k280_3, k280_4, k280_5, k280_6, k280_7, k280_8, k280_9, k280_11, k280_13, k280_14, k280_15, k280_16, k280_17, k280_18, k280_19, k280_20, k280_21, k280_24, k280_25, k280_26, k280_27, k280_28, k280_29, k280_30, k280_31, k280_32, k280_34, k280_35, k280_36, k280_r, k280_s, F_il1, J_ifeq, F_il2, F_il4, T_I, F_il3, F_il5, T_iceq, J_icne, T_ft, T_ret, T_mul, T_icge, T_goto, F_is6i, F_is6r, F_is6m, F_is7i, F_is7r, F_is7m, F_al0, F_is8i, F_is8r, F_is8m, F_is9i, F_is9r, F_is9m, J_ifne, F_is10i, F_is10r, F_is10m, F_is11i, F_is11r, F_is11m, F_il9, F_il11, T_getR, F_il10, X_iald, T_add, F_il7, F_inc7i, F_inc7r, F_inc7m, F_inc11i, F_inc11r, F_inc11m, F_is12i, F_is12r, F_is12m, F_il6, F_il12, F_is13i, F_is13r, F_is13m, F_il13, T_getI, F_inc13i, F_inc13r, F_inc13m, T_iast, F_inc12i, F_inc12r, F_inc12m, F_il8, J_ifge, c218, c219, c227, c230, c258, c274, c281, ↓s218, ↓s219, g0, g1, ↓reduceIte, TK, lt_run hn, le43, Int.le_refl, Int.lt_irrefl, Option.some.injEq, exists_eq_left', true_and, and_true, if_true, if_false, decide_eq_false_iff_not, decide_eq_true_eq, Nat.reduceAdd, Nat.reduceLeDiff, Nat.reduceLT, Int.reduceAdd, Int.reduceSub, Int.reduceMul, Int.reduceNeg, not_true_eq_false, not_false_eq_true]
        exact k3 g0 g1
theorem Ptween (F : FH hr) (hn : 775 ≤ n) (C3 : Cp3 h hr) (C4 : Cp4 h) (C9 : Cp9 h) (x y z u v : Int32) : Pr2 E 166 280 [.int x, .int y, .int z, .int u, .int v] h hr n (Po (fun h' => Cp3 h' hr ∧ Cp4 h') 3 4 h hr n) := by
  have C30 := C3
  have C40 := C4
  obtain ⟨D, ρ, C⟩ := C3
  obtain ⟨G, W⟩ := C4
  obtain ⟨m, f, g, h1, h2, h3, h4, h5, h6⟩ := C9
  obtain ⟨d, hd, hd', rfl⟩ := J_of x
  obtain ⟨e, he, he', rfl⟩ := J_of y
  obtain ⟨a, ha, ha', rfl⟩ := J_of z
  obtain ⟨b, hb, hb', rfl⟩ := J_of u
  obtain ⟨t, ht, ht', rfl⟩ := J_of v
  unfold Pr2
  by_cases g1 : 0 ≤ d ∧ d ≤ 15
  case neg =>
    simp +decide (maxSteps := 4000000) (disch := omega) only [k166_0, k166_1, k166_2, k166_3, k166_4, k166_5, k166_6, k166_7, k166_8, k166_9, k166_r, k166_s, F_il1, J_ifeq, F_il2, F_il5, J_ifne, T_ft, T_I, T_ret, F_il4, F_il3, T_iceq, J_icne, F_al0, T_getR, X_aald, F_as6i, F_as6r, F_as6m, F_al6, T_goto, T_popI, T_mul, T_icge, T_getI, c43, c46, c48, c81, c137, c138, ↓s137, ↓s138, FX F, g1, ↓reduceIte, TK, lt_run hn, le43, Int.le_refl, Int.lt_irrefl, Option.some.injEq, exists_eq_left', true_and, and_true, if_true, if_false, decide_eq_false_iff_not, decide_eq_true_eq, Nat.reduceAdd, Nat.reduceLeDiff, Nat.reduceLT, Int.reduceAdd, Int.reduceSub, Int.reduceMul, Int.reduceNeg, not_true_eq_false, not_false_eq_true]
    refine ⟨_, rfl, ?_⟩
    simp +decide (maxSteps := 4000000) (disch := omega) only [k280_0, k280_1, k280_2, k280_3, k280_4, k280_5, k280_6, k280_7, k280_8, k280_9, k280_11, k280_13, k280_14, k280_15, k280_16, k280_17, k280_18, k280_19, k280_20, k280_21, k280_24, k280_25, k280_26, k280_27, k280_28, k280_29, k280_30, k280_31, k280_32, k280_34, k280_35, k280_36, k280_r, k280_s, F_il1, J_ifeq, F_il2, F_il4, T_I, F_il3, F_il5, T_iceq, J_icne, T_ft, T_ret, T_mul, T_icge, T_goto, F_is6i, F_is6r, F_is6m, F_is7i, F_is7r, F_is7m, F_al0, F_is8i, F_is8r, F_is8m, F_is9i, F_is9r, F_is9m, J_ifne, F_is10i, F_is10r, F_is10m, F_is11i, F_is11r, F_is11m, F_il9, F_il11, T_getR, F_il10, X_iald, T_add, F_il7, F_inc7i, F_inc7r, F_inc7m, F_inc11i, F_inc11r, F_inc11m, F_is12i, F_is12r, F_is12m, F_il6, F_il12, F_is13i, F_is13r, F_is13m, F_il13, T_getI, F_inc13i, F_inc13r, F_inc13m, T_iast, F_inc12i, F_inc12r, F_inc12m, F_il8, J_ifge, c218, c219, c227, c230, c258, c274, c281, ↓s218, ↓s219, FM F, g1, ↓reduceIte, TK, lt_run hn, le43, Int.le_refl, Int.lt_irrefl, Option.some.injEq, exists_eq_left', true_and, and_true, if_true, if_false, decide_eq_false_iff_not, decide_eq_true_eq, Nat.reduceAdd, Nat.reduceLeDiff, Nat.reduceLT, Int.reduceAdd, Int.reduceSub, Int.reduceMul, Int.reduceNeg, not_true_eq_false, not_false_eq_true]
    first | exact ⟨rfl, ⟨⟨C30, C40⟩, Kp.refl⟩, rfl, rfl⟩ | exact ⟨⟨⟨C30, C40⟩, Kp.refl⟩, rfl, rfl⟩ | exact ⟨⟨C30, C40⟩, Kp.refl⟩
  by_cases g2 : 0 ≤ e ∧ e ≤ 15
  case neg =>
    simp +decide (maxSteps := 4000000) (disch := omega) only [k166_0, k166_1, k166_2, k166_3, k166_4, k166_5, k166_6, k166_7, k166_8, k166_9, k166_r, k166_s, F_il1, J_ifeq, F_il2, F_il5, J_ifne, T_ft, T_I, T_ret, F_il4, F_il3, T_iceq, J_icne, F_al0, T_getR, X_aald, F_as6i, F_as6r, F_as6m, F_al6, T_goto, T_popI, T_mul, T_icge, T_getI, c43, c46, c48, c81, c137, c138, ↓s137, ↓s138, FX F, g1, g2, ↓reduceIte, TK, lt_run hn, le43, Int.le_refl, Int.lt_irrefl, Option.some.injEq, exists_eq_left', true_and, and_true, if_true, if_false, decide_eq_false_iff_not, decide_eq_true_eq, Nat.reduceAdd, Nat.reduceLeDiff, Nat.reduceLT, Int.reduceAdd, Int.reduceSub, Int.reduceMul, Int.reduceNeg, not_true_eq_false, not_false_eq_true]
    refine ⟨_, rfl, ?_⟩
    simp +decide (maxSteps := 4000000) (disch := omega) only [k280_0, k280_1, k280_2, k280_3, k280_4, k280_5, k280_6, k280_7, k280_8, k280_9, k280_11, k280_13, k280_14, k280_15, k280_16, k280_17, k280_18, k280_19, k280_20, k280_21, k280_24, k280_25, k280_26, k280_27, k280_28, k280_29, k280_30, k280_31, k280_32, k280_34, k280_35, k280_36, k280_r, k280_s, F_il1, J_ifeq, F_il2, F_il4, T_I, F_il3, F_il5, T_iceq, J_icne, T_ft, T_ret, T_mul, T_icge, T_goto, F_is6i, F_is6r, F_is6m, F_is7i, F_is7r, F_is7m, F_al0, F_is8i, F_is8r, F_is8m, F_is9i, F_is9r, F_is9m, J_ifne, F_is10i, F_is10r, F_is10m, F_is11i, F_is11r, F_is11m, F_il9, F_il11, T_getR, F_il10, X_iald, T_add, F_il7, F_inc7i, F_inc7r, F_inc7m, F_inc11i, F_inc11r, F_inc11m, F_is12i, F_is12r, F_is12m, F_il6, F_il12, F_is13i, F_is13r, F_is13m, F_il13, T_getI, F_inc13i, F_inc13r, F_inc13m, T_iast, F_inc12i, F_inc12r, F_inc12m, F_il8, J_ifge, c218, c219, c227, c230, c258, c274, c281, ↓s218, ↓s219, FM F, g1, g2, ↓reduceIte, TK, lt_run hn, le43, Int.le_refl, Int.lt_irrefl, Option.some.injEq, exists_eq_left', true_and, and_true, if_true, if_false, decide_eq_false_iff_not, decide_eq_true_eq, Nat.reduceAdd, Nat.reduceLeDiff, Nat.reduceLT, Int.reduceAdd, Int.reduceSub, Int.reduceMul, Int.reduceNeg, not_true_eq_false, not_false_eq_true]
    first | exact ⟨rfl, ⟨⟨C30, C40⟩, Kp.refl⟩, rfl, rfl⟩ | exact ⟨⟨⟨C30, C40⟩, Kp.refl⟩, rfl, rfl⟩ | exact ⟨⟨C30, C40⟩, Kp.refl⟩
  by_cases g3 : 0 ≤ t ∧ t ≤ 15
  case neg =>
    by_cases g4 : 1 ≤ b ∧ b ≤ 24
    case neg =>
      simp +decide (maxSteps := 4000000) (disch := omega) only [k166_0, k166_1, k166_2, k166_3, k166_4, k166_5, k166_6, k166_7, k166_8, k166_9, k166_r, k166_s, F_il1, J_ifeq, F_il2, F_il5, J_ifne, T_ft, T_I, T_ret, F_il4, F_il3, T_iceq, J_icne, F_al0, T_getR, X_aald, F_as6i, F_as6r, F_as6m, F_al6, T_goto, T_popI, T_mul, T_icge, T_getI, c43, c46, c48, c81, c137, c138, ↓s137, ↓s138, FX F, g1, g2, g3, g4, ↓reduceIte, TK, lt_run hn, le43, Int.le_refl, Int.lt_irrefl, Option.some.injEq, exists_eq_left', true_and, and_true, if_true, if_false, decide_eq_false_iff_not, decide_eq_true_eq, Nat.reduceAdd, Nat.reduceLeDiff, Nat.reduceLT, Int.reduceAdd, Int.reduceSub, Int.reduceMul, Int.reduceNeg, not_true_eq_false, not_false_eq_true]
      refine ⟨_, rfl, ?_⟩
      simp +decide (maxSteps := 4000000) (disch := omega) only [k280_0, k280_1, k280_2, k280_3, k280_4, k280_5, k280_6, k280_7, k280_8, k280_9, k280_11, k280_13, k280_14, k280_15, k280_16, k280_17, k280_18, k280_19, k280_20, k280_21, k280_24, k280_25, k280_26, k280_27, k280_28, k280_29, k280_30, k280_31, k280_32, k280_34, k280_35, k280_36, k280_r, k280_s, F_il1, J_ifeq, F_il2, F_il4, T_I, F_il3, F_il5, T_iceq, J_icne, T_ft, T_ret, T_mul, T_icge, T_goto, F_is6i, F_is6r, F_is6m, F_is7i, F_is7r, F_is7m, F_al0, F_is8i, F_is8r, F_is8m, F_is9i, F_is9r, F_is9m, J_ifne, F_is10i, F_is10r, F_is10m, F_is11i, F_is11r, F_is11m, F_il9, F_il11, T_getR, F_il10, X_iald, T_add, F_il7, F_inc7i, F_inc7r, F_inc7m, F_inc11i, F_inc11r, F_inc11m, F_is12i, F_is12r, F_is12m, F_il6, F_il12, F_is13i, F_is13r, F_is13m, F_il13, T_getI, F_inc13i, F_inc13r, F_inc13m, T_iast, F_inc12i, F_inc12r, F_inc12m, F_il8, J_ifge, c218, c219, c227, c230, c258, c274, c281, ↓s218, ↓s219, FM F, g1, g2, g3, g4, ↓reduceIte, TK, lt_run hn, le43, Int.le_refl, Int.lt_irrefl, Option.some.injEq, exists_eq_left', true_and, and_true, if_true, if_false, decide_eq_false_iff_not, decide_eq_true_eq, Nat.reduceAdd, Nat.reduceLeDiff, Nat.reduceLT, Int.reduceAdd, Int.reduceSub, Int.reduceMul, Int.reduceNeg, not_true_eq_false, not_false_eq_true]
      first | exact ⟨rfl, ⟨⟨C30, C40⟩, Kp.refl⟩, rfl, rfl⟩ | exact ⟨⟨⟨C30, C40⟩, Kp.refl⟩, rfl, rfl⟩ | exact ⟨⟨C30, C40⟩, Kp.refl⟩
    by_cases g5 : 0 ≤ a ∧ a ≤ b
    case neg =>
      simp +decide (maxSteps := 4000000) (disch := omega) only [k166_0, k166_1, k166_2, k166_3, k166_4, k166_5, k166_6, k166_7, k166_8, k166_9, k166_r, k166_s, F_il1, J_ifeq, F_il2, F_il5, J_ifne, T_ft, T_I, T_ret, F_il4, F_il3, T_iceq, J_icne, F_al0, T_getR, X_aald, F_as6i, F_as6r, F_as6m, F_al6, T_goto, T_popI, T_mul, T_icge, T_getI, c43, c46, c48, c81, c137, c138, ↓s137, ↓s138, FX F, g1, g2, g3, g4, g5, ↓reduceIte, TK, lt_run hn, le43, Int.le_refl, Int.lt_irrefl, Option.some.injEq, exists_eq_left', true_and, and_true, if_true, if_false, decide_eq_false_iff_not, decide_eq_true_eq, Nat.reduceAdd, Nat.reduceLeDiff, Nat.reduceLT, Int.reduceAdd, Int.reduceSub, Int.reduceMul, Int.reduceNeg, not_true_eq_false, not_false_eq_true]
      refine ⟨_, rfl, ?_⟩
      simp +decide (maxSteps := 4000000) (disch := omega) only [k280_0, k280_1, k280_2, k280_3, k280_4, k280_5, k280_6, k280_7, k280_8, k280_9, k280_11, k280_13, k280_14, k280_15, k280_16, k280_17, k280_18, k280_19, k280_20, k280_21, k280_24, k280_25, k280_26, k280_27, k280_28, k280_29, k280_30, k280_31, k280_32, k280_34, k280_35, k280_36, k280_r, k280_s, F_il1, J_ifeq, F_il2, F_il4, T_I, F_il3, F_il5, T_iceq, J_icne, T_ft, T_ret, T_mul, T_icge, T_goto, F_is6i, F_is6r, F_is6m, F_is7i, F_is7r, F_is7m, F_al0, F_is8i, F_is8r, F_is8m, F_is9i, F_is9r, F_is9m, J_ifne, F_is10i, F_is10r, F_is10m, F_is11i, F_is11r, F_is11m, F_il9, F_il11, T_getR, F_il10, X_iald, T_add, F_il7, F_inc7i, F_inc7r, F_inc7m, F_inc11i, F_inc11r, F_inc11m, F_is12i, F_is12r, F_is12m, F_il6, F_il12, F_is13i, F_is13r, F_is13m, F_il13, T_getI, F_inc13i, F_inc13r, F_inc13m, T_iast, F_inc12i, F_inc12r, F_inc12m, F_il8, J_ifge, c218, c219, c227, c230, c258, c274, c281, ↓s218, ↓s219, FM F, g1, g2, g3, g4, g5, ↓reduceIte, TK, lt_run hn, le43, Int.le_refl, Int.lt_irrefl, Option.some.injEq, exists_eq_left', true_and, and_true, if_true, if_false, decide_eq_false_iff_not, decide_eq_true_eq, Nat.reduceAdd, Nat.reduceLeDiff, Nat.reduceLT, Int.reduceAdd, Int.reduceSub, Int.reduceMul, Int.reduceNeg, not_true_eq_false, not_false_eq_true]
      first | exact ⟨rfl, ⟨⟨C30, C40⟩, Kp.refl⟩, rfl, rfl⟩ | exact ⟨⟨⟨C30, C40⟩, Kp.refl⟩, rfl, rfl⟩ | exact ⟨⟨C30, C40⟩, Kp.refl⟩
    simp +decide (maxSteps := 4000000) (disch := omega) only [k166_0, k166_1, k166_2, k166_3, k166_4, k166_5, k166_6, k166_7, k166_8, k166_9, k166_r, k166_s, F_il1, J_ifeq, F_il2, F_il5, J_ifne, T_ft, T_I, T_ret, F_il4, F_il3, T_iceq, J_icne, F_al0, T_getR, X_aald, F_as6i, F_as6r, F_as6m, F_al6, T_goto, T_popI, T_mul, T_icge, T_getI, c43, c46, c48, c81, c137, c138, ↓s137, ↓s138, FX F, g1, g2, g3, g4, g5, ↓reduceIte, TK, lt_run hn, le43, Int.le_refl, Int.lt_irrefl, Option.some.injEq, exists_eq_left', true_and, and_true, if_true, if_false, decide_eq_false_iff_not, decide_eq_true_eq, Nat.reduceAdd, Nat.reduceLeDiff, Nat.reduceLT, Int.reduceAdd, Int.reduceSub, Int.reduceMul, Int.reduceNeg, not_true_eq_false, not_false_eq_true]
    refine ⟨_, rfl, ?_⟩
    simp +decide (maxSteps := 4000000) (disch := omega) only [k280_0, k280_1, k280_2, k280_3, k280_4, k280_5, k280_6, k280_7, k280_8, k280_9, k280_11, k280_13, k280_14, k280_15, k280_16, k280_17, k280_18, k280_19, k280_20, k280_21, k280_24, k280_25, k280_26, k280_27, k280_28, k280_29, k280_30, k280_31, k280_32, k280_34, k280_35, k280_36, k280_r, k280_s, F_il1, J_ifeq, F_il2, F_il4, T_I, F_il3, F_il5, T_iceq, J_icne, T_ft, T_ret, T_mul, T_icge, T_goto, F_is6i, F_is6r, F_is6m, F_is7i, F_is7r, F_is7m, F_al0, F_is8i, F_is8r, F_is8m, F_is9i, F_is9r, F_is9m, J_ifne, F_is10i, F_is10r, F_is10m, F_is11i, F_is11r, F_is11m, F_il9, F_il11, T_getR, F_il10, X_iald, T_add, F_il7, F_inc7i, F_inc7r, F_inc7m, F_inc11i, F_inc11r, F_inc11m, F_is12i, F_is12r, F_is12m, F_il6, F_il12, F_is13i, F_is13r, F_is13m, F_il13, T_getI, F_inc13i, F_inc13r, F_inc13m, T_iast, F_inc12i, F_inc12r, F_inc12m, F_il8, J_ifge, c218, c219, c227, c230, c258, c274, c281, ↓s218, ↓s219, FM F, g1, g2, g3, g4, g5, ↓reduceIte, TK, lt_run hn, le43, Int.le_refl, Int.lt_irrefl, Option.some.injEq, exists_eq_left', true_and, and_true, if_true, if_false, decide_eq_false_iff_not, decide_eq_true_eq, Nat.reduceAdd, Nat.reduceLeDiff, Nat.reduceLT, Int.reduceAdd, Int.reduceSub, Int.reduceMul, Int.reduceNeg, not_true_eq_false, not_false_eq_true]
    first | exact ⟨rfl, ⟨⟨C30, C40⟩, Kp.refl⟩, rfl, rfl⟩ | exact ⟨⟨⟨C30, C40⟩, Kp.refl⟩, rfl, rfl⟩ | exact ⟨⟨C30, C40⟩, Kp.refl⟩
  by_cases g4 : 1 ≤ b ∧ b ≤ 24
  case neg =>
    simp +decide (maxSteps := 4000000) (disch := omega) only [k166_0, k166_1, k166_2, k166_3, k166_4, k166_5, k166_6, k166_7, k166_8, k166_9, k166_r, k166_s, F_il1, J_ifeq, F_il2, F_il5, J_ifne, T_ft, T_I, T_ret, F_il4, F_il3, T_iceq, J_icne, F_al0, T_getR, X_aald, F_as6i, F_as6r, F_as6m, F_al6, T_goto, T_popI, T_mul, T_icge, T_getI, c43, c46, c48, c81, c137, c138, ↓s137, ↓s138, FX F, g1, g2, g3, g4, ↓reduceIte, TK, lt_run hn, le43, Int.le_refl, Int.lt_irrefl, Option.some.injEq, exists_eq_left', true_and, and_true, if_true, if_false, decide_eq_false_iff_not, decide_eq_true_eq, Nat.reduceAdd, Nat.reduceLeDiff, Nat.reduceLT, Int.reduceAdd, Int.reduceSub, Int.reduceMul, Int.reduceNeg, not_true_eq_false, not_false_eq_true]
    refine ⟨_, rfl, ?_⟩
    simp +decide (maxSteps := 4000000) (disch := omega) only [k280_0, k280_1, k280_2, k280_3, k280_4, k280_5, k280_6, k280_7, k280_8, k280_9, k280_11, k280_13, k280_14, k280_15, k280_16, k280_17, k280_18, k280_19, k280_20, k280_21, k280_24, k280_25, k280_26, k280_27, k280_28, k280_29, k280_30, k280_31, k280_32, k280_34, k280_35, k280_36, k280_r, k280_s, F_il1, J_ifeq, F_il2, F_il4, T_I, F_il3, F_il5, T_iceq, J_icne, T_ft, T_ret, T_mul, T_icge, T_goto, F_is6i, F_is6r, F_is6m, F_is7i, F_is7r, F_is7m, F_al0, F_is8i, F_is8r, F_is8m, F_is9i, F_is9r, F_is9m, J_ifne, F_is10i, F_is10r, F_is10m, F_is11i, F_is11r, F_is11m, F_il9, F_il11, T_getR, F_il10, X_iald, T_add, F_il7, F_inc7i, F_inc7r, F_inc7m, F_inc11i, F_inc11r, F_inc11m, F_is12i, F_is12r, F_is12m, F_il6, F_il12, F_is13i, F_is13r, F_is13m, F_il13, T_getI, F_inc13i, F_inc13r, F_inc13m, T_iast, F_inc12i, F_inc12r, F_inc12m, F_il8, J_ifge, c218, c219, c227, c230, c258, c274, c281, ↓s218, ↓s219, FM F, g1, g2, g3, g4, ↓reduceIte, TK, lt_run hn, le43, Int.le_refl, Int.lt_irrefl, Option.some.injEq, exists_eq_left', true_and, and_true, if_true, if_false, decide_eq_false_iff_not, decide_eq_true_eq, Nat.reduceAdd, Nat.reduceLeDiff, Nat.reduceLT, Int.reduceAdd, Int.reduceSub, Int.reduceMul, Int.reduceNeg, not_true_eq_false, not_false_eq_true]
    first | exact ⟨rfl, ⟨⟨C30, C40⟩, Kp.refl⟩, rfl, rfl⟩ | exact ⟨⟨⟨C30, C40⟩, Kp.refl⟩, rfl, rfl⟩ | exact ⟨⟨C30, C40⟩, Kp.refl⟩
  by_cases g5 : 0 ≤ a ∧ a ≤ b
  case neg =>
    simp +decide (maxSteps := 4000000) (disch := omega) only [k166_0, k166_1, k166_2, k166_3, k166_4, k166_5, k166_6, k166_7, k166_8, k166_9, k166_r, k166_s, F_il1, J_ifeq, F_il2, F_il5, J_ifne, T_ft, T_I, T_ret, F_il4, F_il3, T_iceq, J_icne, F_al0, T_getR, X_aald, F_as6i, F_as6r, F_as6m, F_al6, T_goto, T_popI, T_mul, T_icge, T_getI, c43, c46, c48, c81, c137, c138, ↓s137, ↓s138, FX F, g1, g2, g3, g4, g5, ↓reduceIte, TK, lt_run hn, le43, Int.le_refl, Int.lt_irrefl, Option.some.injEq, exists_eq_left', true_and, and_true, if_true, if_false, decide_eq_false_iff_not, decide_eq_true_eq, Nat.reduceAdd, Nat.reduceLeDiff, Nat.reduceLT, Int.reduceAdd, Int.reduceSub, Int.reduceMul, Int.reduceNeg, not_true_eq_false, not_false_eq_true]
    refine ⟨_, rfl, ?_⟩
    simp +decide (maxSteps := 4000000) (disch := omega) only [k280_0, k280_1, k280_2, k280_3, k280_4, k280_5, k280_6, k280_7, k280_8, k280_9, k280_11, k280_13, k280_14, k280_15, k280_16, k280_17, k280_18, k280_19, k280_20, k280_21, k280_24, k280_25, k280_26, k280_27, k280_28, k280_29, k280_30, k280_31, k280_32, k280_34, k280_35, k280_36, k280_r, k280_s, F_il1, J_ifeq, F_il2, F_il4, T_I, F_il3, F_il5, T_iceq, J_icne, T_ft, T_ret, T_mul, T_icge, T_goto, F_is6i, F_is6r, F_is6m, F_is7i, F_is7r, F_is7m, F_al0, F_is8i, F_is8r, F_is8m, F_is9i, F_is9r, F_is9m, J_ifne, F_is10i, F_is10r, F_is10m, F_is11i, F_is11r, F_is11m, F_il9, F_il11, T_getR, F_il10, X_iald, T_add, F_il7, F_inc7i, F_inc7r, F_inc7m, F_inc11i, F_inc11r, F_inc11m, F_is12i, F_is12r, F_is12m, F_il6, F_il12, F_is13i, F_is13r, F_is13m, F_il13, T_getI, F_inc13i, F_inc13r, F_inc13m, T_iast, F_inc12i, F_inc12r, F_inc12m, F_il8, J_ifge, c218, c219, c227, c230, c258, c274, c281, ↓s218, ↓s219, FM F, g1, g2, g3, g4, g5, ↓reduceIte, TK, lt_run hn, le43, Int.le_refl, Int.lt_irrefl, Option.some.injEq, exists_eq_left', true_and, and_true, if_true, if_false, decide_eq_false_iff_not, decide_eq_true_eq, Nat.reduceAdd, Nat.reduceLeDiff, Nat.reduceLT, Int.reduceAdd, Int.reduceSub, Int.reduceMul, Int.reduceNeg, not_true_eq_false, not_false_eq_true]
    first | exact ⟨rfl, ⟨⟨C30, C40⟩, Kp.refl⟩, rfl, rfl⟩ | exact ⟨⟨⟨C30, C40⟩, Kp.refl⟩, rfl, rfl⟩ | exact ⟨⟨C30, C40⟩, Kp.refl⟩
  by_cases g6 : t = d
  case pos =>
    simp +decide (maxSteps := 4000000) (disch := omega) only [k166_0, k166_1, k166_2, k166_3, k166_4, k166_5, k166_6, k166_7, k166_8, k166_9, k166_r, k166_s, F_il1, J_ifeq, F_il2, F_il5, J_ifne, T_ft, T_I, T_ret, F_il4, F_il3, T_iceq, J_icne, F_al0, T_getR, X_aald, F_as6i, F_as6r, F_as6m, F_al6, T_goto, T_popI, T_mul, T_icge, T_getI, c43, c46, c48, c81, c137, c138, ↓s137, ↓s138, FX F, g1, g2, g3, g4, g5, eq_true g6, ↓reduceIte, TK, lt_run hn, le43, Int.le_refl, Int.lt_irrefl, Option.some.injEq, exists_eq_left', true_and, and_true, if_true, if_false, decide_eq_false_iff_not, decide_eq_true_eq, Nat.reduceAdd, Nat.reduceLeDiff, Nat.reduceLT, Int.reduceAdd, Int.reduceSub, Int.reduceMul, Int.reduceNeg, not_true_eq_false, not_false_eq_true]
    refine ⟨_, rfl, ?_⟩
    simp +decide (maxSteps := 4000000) (disch := omega) only [k280_0, k280_1, k280_2, k280_3, k280_4, k280_5, k280_6, k280_7, k280_8, k280_9, k280_11, k280_13, k280_14, k280_15, k280_16, k280_17, k280_18, k280_19, k280_20, k280_21, k280_24, k280_25, k280_26, k280_27, k280_28, k280_29, k280_30, k280_31, k280_32, k280_34, k280_35, k280_36, k280_r, k280_s, F_il1, J_ifeq, F_il2, F_il4, T_I, F_il3, F_il5, T_iceq, J_icne, T_ft, T_ret, T_mul, T_icge, T_goto, F_is6i, F_is6r, F_is6m, F_is7i, F_is7r, F_is7m, F_al0, F_is8i, F_is8r, F_is8m, F_is9i, F_is9r, F_is9m, J_ifne, F_is10i, F_is10r, F_is10m, F_is11i, F_is11r, F_is11m, F_il9, F_il11, T_getR, F_il10, X_iald, T_add, F_il7, F_inc7i, F_inc7r, F_inc7m, F_inc11i, F_inc11r, F_inc11m, F_is12i, F_is12r, F_is12m, F_il6, F_il12, F_is13i, F_is13r, F_is13m, F_il13, T_getI, F_inc13i, F_inc13r, F_inc13m, T_iast, F_inc12i, F_inc12r, F_inc12m, F_il8, J_ifge, c218, c219, c227, c230, c258, c274, c281, ↓s218, ↓s219, FM F, g1, g2, g3, g4, g5, eq_true g6, ↓reduceIte, TK, lt_run hn, le43, Int.le_refl, Int.lt_irrefl, Option.some.injEq, exists_eq_left', true_and, and_true, if_true, if_false, decide_eq_false_iff_not, decide_eq_true_eq, Nat.reduceAdd, Nat.reduceLeDiff, Nat.reduceLT, Int.reduceAdd, Int.reduceSub, Int.reduceMul, Int.reduceNeg, not_true_eq_false, not_false_eq_true]
    first | exact ⟨rfl, ⟨⟨C30, C40⟩, Kp.refl⟩, rfl, rfl⟩ | exact ⟨⟨⟨C30, C40⟩, Kp.refl⟩, rfl, rfl⟩ | exact ⟨⟨C30, C40⟩, Kp.refl⟩
  by_cases g7 : t = e
  case pos =>
    simp +decide (maxSteps := 4000000) (disch := omega) only [k166_0, k166_1, k166_2, k166_3, k166_4, k166_5, k166_6, k166_7, k166_8, k166_9, k166_r, k166_s, F_il1, J_ifeq, F_il2, F_il5, J_ifne, T_ft, T_I, T_ret, F_il4, F_il3, T_iceq, J_icne, F_al0, T_getR, X_aald, F_as6i, F_as6r, F_as6m, F_al6, T_goto, T_popI, T_mul, T_icge, T_getI, c43, c46, c48, c81, c137, c138, ↓s137, ↓s138, FX F, g1, g2, g3, g4, g5, g6, eq_true g7, ↓reduceIte, TK, lt_run hn, le43, Int.le_refl, Int.lt_irrefl, Option.some.injEq, exists_eq_left', true_and, and_true, if_true, if_false, decide_eq_false_iff_not, decide_eq_true_eq, Nat.reduceAdd, Nat.reduceLeDiff, Nat.reduceLT, Int.reduceAdd, Int.reduceSub, Int.reduceMul, Int.reduceNeg, not_true_eq_false, not_false_eq_true]
    refine ⟨_, rfl, ?_⟩
    simp +decide (maxSteps := 4000000) (disch := omega) only [k280_0, k280_1, k280_2, k280_3, k280_4, k280_5, k280_6, k280_7, k280_8, k280_9, k280_11, k280_13, k280_14, k280_15, k280_16, k280_17, k280_18, k280_19, k280_20, k280_21, k280_24, k280_25, k280_26, k280_27, k280_28, k280_29, k280_30, k280_31, k280_32, k280_34, k280_35, k280_36, k280_r, k280_s, F_il1, J_ifeq, F_il2, F_il4, T_I, F_il3, F_il5, T_iceq, J_icne, T_ft, T_ret, T_mul, T_icge, T_goto, F_is6i, F_is6r, F_is6m, F_is7i, F_is7r, F_is7m, F_al0, F_is8i, F_is8r, F_is8m, F_is9i, F_is9r, F_is9m, J_ifne, F_is10i, F_is10r, F_is10m, F_is11i, F_is11r, F_is11m, F_il9, F_il11, T_getR, F_il10, X_iald, T_add, F_il7, F_inc7i, F_inc7r, F_inc7m, F_inc11i, F_inc11r, F_inc11m, F_is12i, F_is12r, F_is12m, F_il6, F_il12, F_is13i, F_is13r, F_is13m, F_il13, T_getI, F_inc13i, F_inc13r, F_inc13m, T_iast, F_inc12i, F_inc12r, F_inc12m, F_il8, J_ifge, c218, c219, c227, c230, c258, c274, c281, ↓s218, ↓s219, FM F, g1, g2, g3, g4, g5, g6, eq_true g7, ↓reduceIte, TK, lt_run hn, le43, Int.le_refl, Int.lt_irrefl, Option.some.injEq, exists_eq_left', true_and, and_true, if_true, if_false, decide_eq_false_iff_not, decide_eq_true_eq, Nat.reduceAdd, Nat.reduceLeDiff, Nat.reduceLT, Int.reduceAdd, Int.reduceSub, Int.reduceMul, Int.reduceNeg, not_true_eq_false, not_false_eq_true]
    first | exact ⟨rfl, ⟨⟨C30, C40⟩, Kp.refl⟩, rfl, rfl⟩ | exact ⟨⟨⟨C30, C40⟩, Kp.refl⟩, rfl, rfl⟩ | exact ⟨⟨C30, C40⟩, Kp.refl⟩
  obtain ⟨P, c, M⟩ := C.2 d g1.1 (by omega)
  obtain ⟨P', c', M'⟩ := C.2 e g2.1 (by omega)
  obtain ⟨Pt, ct, Mt⟩ := C.2 t g3.1 (by omega)
  obtain ⟨q1, q2⟩ := W.2 d g1.1 (by omega)
  obtain ⟨q3, q4⟩ := W.2 e g2.1 (by omega)
  have R := C.1 d
  have R' := C.1 e
  have H := mack_H R R' h1 h2 h3 h4
  have RX := twX_r R R' g5 g4 H
  have rx := RX.1
  have RG : FRr (if 2 * a < b then G d else G e) := by
    split
    · exact W.1 d
    · exact W.1 e
  have rg := RG.1
  refine w166 F hn g1 g2 g3 g6 g7 g5 g4 P P' Pt c c' R R' H h5.1 (fun i i0 i1 => (h6 i i0 i1).1) (W.1 d) (W.1 e) q1 q3 (fun k1 e1 d1 f1 => ?_)
  refine ⟨_, rfl, ?_⟩
  have nS : ∀ x k, 700 ≤ x → ¬ Stc (159 + 29 * t.toNat) x k := fun x k q z => by unfold Stc Sma Sb at z; omega
  have MM : ∀ q, 0 ≤ q → q < 16 → DM k1 q (D q) := fun q q0 q1 => by
    have m0 := (C.2 q q0 q1).2.2
    refine ⟨(e1.g (nS _ _ (by omega))).trans m0.1, fun s s0 s1 => ?_⟩
    have := (C.1 q).1
    exact (m0.2 s s0 s1).ef (by omega) ((C.1 q).2 s).2.1.2 e1 (nS _ _ (by omega)) (nS _ _ (by omega)) (fun i _ _ => ⟨nS _ _ (by omega), nS _ _ (by omega)⟩)
  refine w280 F hn g1 g2 g3 g6 g7 g5 g4 (MM d g1.1 (by omega)) (MM e g2.1 (by omega)) R R' H ((e1 _ _ (nS _ _ (by omega))).trans h5.2) (fun i i0 i1 => ?_) (W.1 d) (W.1 e) (q2.ef e1 (fun x k w1 w2 => nS x k (by omega))) (q4.ef e1 (fun x k w1 w2 => nS x k (by omega))) (fun k2 e2 d2 f2 => ?_)
  · rw [e1.g (nS _ _ (by omega)), e1.g (nS _ _ (by omega))]
    exact (h6 i i0 i1).2
  have sm0 : ∀ {x k : Nat}, Stc (159 + 29 * t.toNat) x k → sys x k = 0 ∨ (Sdc t.toNat x k ∧ sys x k = 3) ∨ (Sfc t.toNat x k ∧ sys x k = 4) := fun {x k} q => by
    unfold Stc at q
    rcases q with q | q | ⟨rfl, rfl⟩ | q
    · exact Or.inl (Sma_0 q)
    · unfold Sb at q
      rcases q with ⟨rfl, rfl⟩ | q
      · exact Or.inr (Or.inl ⟨Or.inl (by omega), sysS1 (by omega) (by decide)⟩)
      · exact Or.inr (Or.inl ⟨Or.inl (by omega), sysS (d := t.toNat) (by omega) (by omega) (by omega)⟩)
    · exact Or.inr (Or.inr ⟨Or.inl ⟨rfl, rfl⟩, sysF5 (by omega)⟩)
    · exact Or.inr (Or.inr ⟨Or.inr (Or.inl (by omega)), sysF (d := t.toNat) (by omega) (by omega) (by omega)⟩)
  have sm1 : ∀ {x k : Nat}, (Smb x k ∨ Sy t.toNat x k ∨ Stt t.toNat x k) → sys x k = 0 ∨ (Sdc t.toNat x k ∧ sys x k = 3) ∨ (Sfc t.toNat x k ∧ sys x k = 4) := fun {x k} q => by
    rcases q with q | q | q
    · exact Or.inl (Smb_0 q)
    · unfold Sy at q
      rcases q with q | q
      · unfold Sn at q
        rcases q with ⟨rfl, rfl⟩ | rfl | rfl
        · exact Or.inl rfl
        · exact Or.inl rfl
        · exact Or.inl rfl
      · refine Or.inr (Or.inl ⟨?_, ?_⟩)
        · unfold Sdc
          omega
        · rcases (show x = 709 ∨ x = 710 ∨ x = 711 ∨ x = 712 by omega) with rfl | rfl | rfl | rfl <;> rfl
    · unfold Stt at q
      rcases q with ⟨rfl, rfl⟩ | q
      · exact Or.inr (Or.inl ⟨Or.inr (Or.inl ⟨rfl, rfl⟩), rfl⟩)
      · refine Or.inr (Or.inr ⟨?_, sysF7 (by omega) (by omega)⟩)
        unfold Sfc
        omega
  have all : Ef (fun x k => sys x k = 0 ∨ (Sdc t.toNat x k ∧ sys x k = 3) ∨ (Sfc t.toNat x k ∧ sys x k = 4)) h k2 := Ef.trans (e1.mono fun x k q => sm0 q) (e2.mono fun x k q => sm1 q)
  have nT : ∀ x k, x < 700 → ¬ (Smb x k ∨ Sy t.toNat x k ∨ Stt t.toNat x k) := fun x k w z => by unfold Smb Sy Sn Stt at z; omega
  refine ⟨rfl, ⟨⟨⟨_, _, C.upd g3.1 (by omega) (D' := twX (D d) (D e) m f g a b) (ρ' := ρ t) (all.mono fun x k q => ?_) (fun _ _ _ => rfl) RX Pt ⟨?_, fun s s0 s1 => ?_⟩ d2⟩, ⟨_, W.upd g3.1 (by omega) (D' := if 2 * a < b then G d else G e) (all.mono fun x k q => ?_) RG (f1.ef e2 (fun x k w1 w2 => nT x k (by omega))) f2⟩⟩, all.mono fun x k q => ?_⟩, rfl, rfl⟩
  · rcases q with q | q | q
    · right
      omega
    · exact Or.inl q.1
    · right
      omega
  · exact (e2 _ _ (nT _ _ (by omega))).trans d1.1
  · have pr := Pt.r (s := s.toNat) (by omega)
    exact (d1.2 s s0 s1).ef e2 (fun x k w1 w2 => nT x k (by omega))
  · rcases q with q | q | q
    · right
      omega
    · right
      omega
    · exact Or.inl q.1
  · rcases q with q | q | q
    · exact Or.inl q
    · exact Or.inr (Or.inl q.2)
    · exact Or.inr (Or.inr q.2)
end TH
