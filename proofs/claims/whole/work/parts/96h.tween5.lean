/-! tween: the reference's drawing between two, the call -/
section TE
variable {E : AEn} {h h' : AHi} {hr : AHr} {n : Nat} {Q : ARs → Prop} {a b : Int} {D D' : Drw} {Z : Int → Int} {T : Nat → Int} {l : List Stk}
theorem Sk_y {t s : Int} (ht : 0 ≤ t) (hs : 0 ≤ s ∧ s < 8) {x k : Nat} (q : Sk (8 * t + s).toNat x k) : Sy t.toNat x k := by
  unfold Sk at q
  unfold Sy
  omega
theorem z280b (F : FH hr) (hn : 775 ≤ n) {d e t fm sm : Int} {ea : Bool} {w12 w13 : Value} (hd : 0 ≤ d ∧ d < 16) (he : 0 ≤ e ∧ e < 16) (ht : 0 ≤ t ∧ t < 16) (hdt : d ≠ t) (het : e ≠ t) (hea : ea = decide (2 * a < b)) (R : DRr D) (R' : DRr D') (M : DM h d D) (M' : DM h e D') (H : twH D.1 D'.1 Z T) (z : ∀ i, 0 ≤ i → i < D.1 → gA h 741 i = J (Z i)) (ha : 0 ≤ a ∧ a ≤ b) (hb : 1 ≤ b ∧ b ≤ 24)
    (k : ∀ h' v11 v12 v13, Ef (Sy t.toNat) h h' → LSm h' t (twF D D' Z T a b) → Tm E 280 (a_bl 280 30) [.ref 704, .int (J d), .int (J e), .int (J a), .int (J b), .int (J t), .int (Bz ea), .int (J ((twF D D' Z T a b).length : Int)), .int (J sm), .int (J 0), .int (J fm), v11, v12, v13] [] h' hr n Q) : Tm E 280 (a_bl 280 10) [.ref 704, .int (J d), .int (J e), .int (J a), .int (J b), .int (J t), .int (Bz ea), .int (J 0), .int (J sm), .int (J 0), .int (J fm), .int (J 0), w12, w13] [] h hr n Q := by
  have r1 := R.1
  have r2 := R'.1
  have w := maW_r R'.1
  have fr : ∀ {h'}, Ef (Sy t.toNat) h h' → (gA h' 708 d = J D.1 ∧ gA h' 708 e = J D'.1) ∧ (∀ i, 0 ≤ i → i < D.1 → SM h' (8 * d + i) (D.2 i) ∧ gA h' 741 i = J (Z i)) ∧ ∀ i, 0 ≤ i → i < D'.1 → SM h' (8 * e + i) (D'.2 i) := fun q0 => by
    refine ⟨⟨(q0.g (fun q => by unfold Sy Sn at q; omega)).trans M.1, (q0.g (fun q => by unfold Sy Sn at q; omega)).trans M'.1⟩, fun i i0 i1 => ⟨?_, (q0.g (fun q => by unfold Sy Sn at q; omega)).trans (z i i0 i1)⟩, fun i i0 i1 => ?_⟩
    · exact (M.2 i i0 i1).ef (by omega) (R.2 i).2.1.2 q0 (fun q => by unfold Sy Sn at q; omega) (fun q => by unfold Sy Sn at q; omega) (fun i _ _ => ⟨fun q => by unfold Sy Sn at q; omega, fun q => by unfold Sy Sn at q; omega⟩)
    · exact (M'.2 i i0 i1).ef (by omega) (R'.2 i).2.1.2 q0 (fun q => by unfold Sy Sn at q; omega) (fun q => by unfold Sy Sn at q; omega) (fun i _ _ => ⟨fun q => by unfold Sy Sn at q; omega, fun q => by unfold Sy Sn at q; omega⟩)
  rw [k280_10]
  simp +decide (maxSteps := 4000000) (disch := omega) only [k280_0, k280_1, k280_2, k280_3, k280_4, k280_5, k280_6, k280_7, k280_8, k280_9, k280_11, k280_13, k280_14, k280_15, k280_16, k280_17, k280_18, k280_19, k280_20, k280_21, k280_24, k280_25, k280_26, k280_27, k280_28, k280_29, k280_30, k280_31, k280_32, k280_34, k280_35, k280_36, k280_r, k280_s, F_il1, J_ifeq, F_il2, F_il4, T_I, F_il3, F_il5, T_iceq, J_icne, T_ft, T_ret, T_mul, T_icge, T_goto, F_is6i, F_is6r, F_is6m, F_is7i, F_is7r, F_is7m, F_al0, F_is8i, F_is8r, F_is8m, F_is9i, F_is9r, F_is9m, J_ifne, F_is10i, F_is10r, F_is10m, F_is11i, F_is11r, F_is11m, F_il9, F_il11, T_getR, F_il10, X_iald, T_add, F_il7, F_inc7i, F_inc7r, F_inc7m, F_inc11i, F_inc11r, F_inc11m, F_is12i, F_is12r, F_is12m, F_il6, F_il12, F_is13i, F_is13r, F_is13m, F_il13, T_getI, F_inc13i, F_inc13r, F_inc13m, T_iast, F_inc12i, F_inc12r, F_inc12m, F_il8, J_ifge, c218, c219, c227, c230, c258, c274, c281, ↓s218, ↓s219, ↓reduceIte, TK, lt_run hn, le43, Int.le_refl, Int.lt_irrefl, Option.some.injEq, exists_eq_left', true_and, and_true, if_true, if_false, decide_eq_false_iff_not, decide_eq_true_eq, Nat.reduceAdd, Nat.reduceLeDiff, Nat.reduceLT, Int.reduceAdd, Int.reduceSub, Int.reduceMul, Int.reduceNeg, not_true_eq_false, not_false_eq_true]
  have lp := T_for (E := E) (m := 280) (L := 12) (hr := hr) (n := n) (Q := Q) (σ := Value × Value) (fun i v => [.ref 704, .int (J d), .int (J e), .int (J a), .int (J b), .int (J t), .int (Bz ea), .int (J ((twR D D' Z a b i.toNat).length : Int)), .int (J sm), .int (J 0), .int (J fm), .int (J i), v.1, v.2]) (fun i _ h' => Ef (Sy t.toNat) h h' ∧ LSm h' t (twR D D' Z a b i.toNat)) 0 D.1 ?_ ?_ 0 (w12, w13) h (by omega) (by omega) ⟨Ef.refl, fun s s0 s1 => by have : s < ((0 : Nat) : Int) := s1; omega⟩
  · exact lp
  · rintro i ⟨v12, v13⟩ h' i0 i1 ⟨e1, c1⟩ ih
    dsimp only
    obtain ⟨⟨f1, f2⟩, f3, f4⟩ := fr e1
    obtain ⟨f5, f6⟩ := f3 i i0 i1
    have ll := twR_l (D := D) (D' := D') (Z := Z) (a := a) (b := b) i.toNat
    have lm := twR_m (Z := Z) R R' ha hb i.toNat
    have zr := H.2.2.2 i.toNat (by omega)
    rw [Int.toNat_of_nonneg i0] at zr
    have es := twR_s (D := D) (D' := D') (Z := Z) (a := a) (b := b) i0
    have ih' := fun v h2 => ih v h2
    try dsimp only at ih'
    rw [es] at ih'
    unfold twP at ih'
    generalize twR D D' Z a b i.toNat = l at *
    rcases zr with zr | zr
    · simp only [if_pos (show Z i < 8 by omega)] at ih'
      have g1 := (f4 _ zr.1 zr.2.1)
      have bt := btw_r (R.2 i) (R'.2 (Z i)) ha hb
      rw [k280_12]
      simp +decide (maxSteps := 4000000) (disch := omega) only [k280_0, k280_1, k280_2, k280_3, k280_4, k280_5, k280_6, k280_7, k280_8, k280_9, k280_11, k280_13, k280_14, k280_15, k280_16, k280_17, k280_18, k280_19, k280_20, k280_21, k280_24, k280_25, k280_26, k280_27, k280_28, k280_29, k280_30, k280_31, k280_32, k280_34, k280_35, k280_36, k280_r, k280_s, F_il1, J_ifeq, F_il2, F_il4, T_I, F_il3, F_il5, T_iceq, J_icne, T_ft, T_ret, T_mul, T_icge, T_goto, F_is6i, F_is6r, F_is6m, F_is7i, F_is7r, F_is7m, F_al0, F_is8i, F_is8r, F_is8m, F_is9i, F_is9r, F_is9m, J_ifne, F_is10i, F_is10r, F_is10m, F_is11i, F_is11r, F_is11m, F_il9, F_il11, T_getR, F_il10, X_iald, T_add, F_il7, F_inc7i, F_inc7r, F_inc7m, F_inc11i, F_inc11r, F_inc11m, F_is12i, F_is12r, F_is12m, F_il6, F_il12, F_is13i, F_is13r, F_is13m, F_il13, T_getI, F_inc13i, F_inc13r, F_inc13m, T_iast, F_inc12i, F_inc12r, F_inc12m, F_il8, J_ifge, c218, c219, c227, c230, c258, c274, c281, ↓s218, ↓s219, FM F, f1, f6, ln_708, ln_741, show ¬ D.1 ≤ i by omega, show ¬ Z i = 8 by omega, ↓reduceIte, TK, lt_run hn, le43, Int.le_refl, Int.lt_irrefl, Option.some.injEq, exists_eq_left', true_and, and_true, if_true, if_false, decide_eq_false_iff_not, decide_eq_true_eq, Nat.reduceAdd, Nat.reduceLeDiff, Nat.reduceLT, Int.reduceAdd, Int.reduceSub, Int.reduceMul, Int.reduceNeg, not_true_eq_false, not_false_eq_true]
      refine w281 F hn (by omega) (by omega) f5 g1 (R.2 i) (R'.2 _) ha hb (fun h2 e2 c2 => ?_)
      have e2' : Ef (Sy t.toNat) h' h2 := e2.mono fun x k q => Or.inl q
      obtain ⟨_, f3', f4'⟩ := fr (e1.trans e2')
      have t1 := (f3' i i0 i1).1.1.1
      have t2 := (f4' _ zr.1 zr.2.1).1.1
      have d1 := c2.1
      have ls2 := c1.sn ht.1 (by omega) lm e2
      have eb : ∀ c0, c0 = (btw (D.2 i) (D'.2 (Z i)) a b).1 → (c0, (btw (D.2 i) (D'.2 (Z i)) a b).2.1, (btw (D.2 i) (D'.2 (Z i)) a b).2.2.1, (btw (D.2 i) (D'.2 (Z i)) a b).2.2.2) = btw (D.2 i) (D'.2 (Z i)) a b := fun c0 q => by rw [q]
      by_cases g2 : 2 ≤ (btw (D.2 i) (D'.2 (Z i)) a b).2.1
      · rw [if_pos g2] at ih'
        by_cases g : 2 * a < b
        · rw [hea, decide_eq_true g] at ih' ⊢
          simp +decide (maxSteps := 4000000) (disch := omega) only [k280_0, k280_1, k280_2, k280_3, k280_4, k280_5, k280_6, k280_7, k280_8, k280_9, k280_11, k280_13, k280_14, k280_15, k280_16, k280_17, k280_18, k280_19, k280_20, k280_21, k280_24, k280_25, k280_26, k280_27, k280_28, k280_29, k280_30, k280_31, k280_32, k280_34, k280_35, k280_36, k280_r, k280_s, F_il1, J_ifeq, F_il2, F_il4, T_I, F_il3, F_il5, T_iceq, J_icne, T_ft, T_ret, T_mul, T_icge, T_goto, F_is6i, F_is6r, F_is6m, F_is7i, F_is7r, F_is7m, F_al0, F_is8i, F_is8r, F_is8m, F_is9i, F_is9r, F_is9m, J_ifne, F_is10i, F_is10r, F_is10m, F_is11i, F_is11r, F_is11m, F_il9, F_il11, T_getR, F_il10, X_iald, T_add, F_il7, F_inc7i, F_inc7r, F_inc7m, F_inc11i, F_inc11r, F_inc11m, F_is12i, F_is12r, F_is12m, F_il6, F_il12, F_is13i, F_is13r, F_is13m, F_il13, T_getI, F_inc13i, F_inc13r, F_inc13m, T_iast, F_inc12i, F_inc12r, F_inc12m, F_il8, J_ifge, c218, c219, c227, c230, c258, c274, c281, ↓s218, ↓s219, FM F, d1, t1, Bz_t, ln_709, show ¬ (btw (D.2 i) (D'.2 (Z i)) a b).2.1 < 2 by omega, g2, ↓reduceIte, TK, lt_run hn, le43, Int.le_refl, Int.lt_irrefl, Option.some.injEq, exists_eq_left', true_and, and_true, if_true, if_false, decide_eq_false_iff_not, decide_eq_true_eq, Nat.reduceAdd, Nat.reduceLeDiff, Nat.reduceLT, Int.reduceAdd, Int.reduceSub, Int.reduceMul, Int.reduceNeg, not_true_eq_false, not_false_eq_true]
          refine w227 F hn ht (by omega) (by omega) c2 (fun h3 c3 e3 => ?_)
          rw [eb _ (by unfold btw; rw [if_pos g])] at c3
          simp +decide (maxSteps := 4000000) (disch := omega) only [k280_0, k280_1, k280_2, k280_3, k280_4, k280_5, k280_6, k280_7, k280_8, k280_9, k280_11, k280_13, k280_14, k280_15, k280_16, k280_17, k280_18, k280_19, k280_20, k280_21, k280_24, k280_25, k280_26, k280_27, k280_28, k280_29, k280_30, k280_31, k280_32, k280_34, k280_35, k280_36, k280_r, k280_s, F_il1, J_ifeq, F_il2, F_il4, T_I, F_il3, F_il5, T_iceq, J_icne, T_ft, T_ret, T_mul, T_icge, T_goto, F_is6i, F_is6r, F_is6m, F_is7i, F_is7r, F_is7m, F_al0, F_is8i, F_is8r, F_is8m, F_is9i, F_is9r, F_is9m, J_ifne, F_is10i, F_is10r, F_is10m, F_is11i, F_is11r, F_is11m, F_il9, F_il11, T_getR, F_il10, X_iald, T_add, F_il7, F_inc7i, F_inc7r, F_inc7m, F_inc11i, F_inc11r, F_inc11m, F_is12i, F_is12r, F_is12m, F_il6, F_il12, F_is13i, F_is13r, F_is13m, F_il13, T_getI, F_inc13i, F_inc13r, F_inc13m, T_iast, F_inc12i, F_inc12r, F_inc12m, F_il8, J_ifge, c218, c219, c227, c230, c258, c274, c281, ↓s218, ↓s219, ↓reduceIte, TK, lt_run hn, le43, Int.le_refl, Int.lt_irrefl, Option.some.injEq, exists_eq_left', true_and, and_true, if_true, if_false, decide_eq_false_iff_not, decide_eq_true_eq, Nat.reduceAdd, Nat.reduceLeDiff, Nat.reduceLT, Int.reduceAdd, Int.reduceSub, Int.reduceMul, Int.reduceNeg, not_true_eq_false, not_false_eq_true]
          have this := fun v => ih' v h3 ⟨(e1.trans e2').trans (e3.mono fun x k q => Sk_y ht.1 (by omega) q), LSm_a ht.1 (by omega) lm ls2 e3 c3⟩
          rw [List.length_append] at this
          exact this (_, _)
        · rw [hea, decide_eq_false g] at ih' ⊢
          simp +decide (maxSteps := 4000000) (disch := omega) only [k280_0, k280_1, k280_2, k280_3, k280_4, k280_5, k280_6, k280_7, k280_8, k280_9, k280_11, k280_13, k280_14, k280_15, k280_16, k280_17, k280_18, k280_19, k280_20, k280_21, k280_24, k280_25, k280_26, k280_27, k280_28, k280_29, k280_30, k280_31, k280_32, k280_34, k280_35, k280_36, k280_r, k280_s, F_il1, J_ifeq, F_il2, F_il4, T_I, F_il3, F_il5, T_iceq, J_icne, T_ft, T_ret, T_mul, T_icge, T_goto, F_is6i, F_is6r, F_is6m, F_is7i, F_is7r, F_is7m, F_al0, F_is8i, F_is8r, F_is8m, F_is9i, F_is9r, F_is9m, J_ifne, F_is10i, F_is10r, F_is10m, F_is11i, F_is11r, F_is11m, F_il9, F_il11, T_getR, F_il10, X_iald, T_add, F_il7, F_inc7i, F_inc7r, F_inc7m, F_inc11i, F_inc11r, F_inc11m, F_is12i, F_is12r, F_is12m, F_il6, F_il12, F_is13i, F_is13r, F_is13m, F_il13, T_getI, F_inc13i, F_inc13r, F_inc13m, T_iast, F_inc12i, F_inc12r, F_inc12m, F_il8, J_ifge, c218, c219, c227, c230, c258, c274, c281, ↓s218, ↓s219, FM F, d1, t2, Bz_f, ln_709, show ¬ (btw (D.2 i) (D'.2 (Z i)) a b).2.1 < 2 by omega, g2, ↓reduceIte, TK, lt_run hn, le43, Int.le_refl, Int.lt_irrefl, Option.some.injEq, exists_eq_left', true_and, and_true, if_true, if_false, decide_eq_false_iff_not, decide_eq_true_eq, Nat.reduceAdd, Nat.reduceLeDiff, Nat.reduceLT, Int.reduceAdd, Int.reduceSub, Int.reduceMul, Int.reduceNeg, not_true_eq_false, not_false_eq_true]
          refine w227 F hn ht (by omega) (by omega) c2 (fun h3 c3 e3 => ?_)
          rw [eb _ (by unfold btw; rw [if_neg g])] at c3
          simp +decide (maxSteps := 4000000) (disch := omega) only [k280_0, k280_1, k280_2, k280_3, k280_4, k280_5, k280_6, k280_7, k280_8, k280_9, k280_11, k280_13, k280_14, k280_15, k280_16, k280_17, k280_18, k280_19, k280_20, k280_21, k280_24, k280_25, k280_26, k280_27, k280_28, k280_29, k280_30, k280_31, k280_32, k280_34, k280_35, k280_36, k280_r, k280_s, F_il1, J_ifeq, F_il2, F_il4, T_I, F_il3, F_il5, T_iceq, J_icne, T_ft, T_ret, T_mul, T_icge, T_goto, F_is6i, F_is6r, F_is6m, F_is7i, F_is7r, F_is7m, F_al0, F_is8i, F_is8r, F_is8m, F_is9i, F_is9r, F_is9m, J_ifne, F_is10i, F_is10r, F_is10m, F_is11i, F_is11r, F_is11m, F_il9, F_il11, T_getR, F_il10, X_iald, T_add, F_il7, F_inc7i, F_inc7r, F_inc7m, F_inc11i, F_inc11r, F_inc11m, F_is12i, F_is12r, F_is12m, F_il6, F_il12, F_is13i, F_is13r, F_is13m, F_il13, T_getI, F_inc13i, F_inc13r, F_inc13m, T_iast, F_inc12i, F_inc12r, F_inc12m, F_il8, J_ifge, c218, c219, c227, c230, c258, c274, c281, ↓s218, ↓s219, ↓reduceIte, TK, lt_run hn, le43, Int.le_refl, Int.lt_irrefl, Option.some.injEq, exists_eq_left', true_and, and_true, if_true, if_false, decide_eq_false_iff_not, decide_eq_true_eq, Nat.reduceAdd, Nat.reduceLeDiff, Nat.reduceLT, Int.reduceAdd, Int.reduceSub, Int.reduceMul, Int.reduceNeg, not_true_eq_false, not_false_eq_true]
          have this := fun v => ih' v h3 ⟨(e1.trans e2').trans (e3.mono fun x k q => Sk_y ht.1 (by omega) q), LSm_a ht.1 (by omega) lm ls2 e3 c3⟩
          rw [List.length_append] at this
          exact this (_, _)
      · rw [if_neg g2, List.append_nil] at ih'
        simp +decide (maxSteps := 4000000) (disch := omega) only [k280_0, k280_1, k280_2, k280_3, k280_4, k280_5, k280_6, k280_7, k280_8, k280_9, k280_11, k280_13, k280_14, k280_15, k280_16, k280_17, k280_18, k280_19, k280_20, k280_21, k280_24, k280_25, k280_26, k280_27, k280_28, k280_29, k280_30, k280_31, k280_32, k280_34, k280_35, k280_36, k280_r, k280_s, F_il1, J_ifeq, F_il2, F_il4, T_I, F_il3, F_il5, T_iceq, J_icne, T_ft, T_ret, T_mul, T_icge, T_goto, F_is6i, F_is6r, F_is6m, F_is7i, F_is7r, F_is7m, F_al0, F_is8i, F_is8r, F_is8m, F_is9i, F_is9r, F_is9m, J_ifne, F_is10i, F_is10r, F_is10m, F_is11i, F_is11r, F_is11m, F_il9, F_il11, T_getR, F_il10, X_iald, T_add, F_il7, F_inc7i, F_inc7r, F_inc7m, F_inc11i, F_inc11r, F_inc11m, F_is12i, F_is12r, F_is12m, F_il6, F_il12, F_is13i, F_is13r, F_is13m, F_il13, T_getI, F_inc13i, F_inc13r, F_inc13m, T_iast, F_inc12i, F_inc12r, F_inc12m, F_il8, J_ifge, c218, c219, c227, c230, c258, c274, c281, ↓s218, ↓s219, FM F, d1, show (btw (D.2 i) (D'.2 (Z i)) a b).2.1 < 2 by omega, g2, ↓reduceIte, TK, lt_run hn, le43, Int.le_refl, Int.lt_irrefl, Option.some.injEq, exists_eq_left', true_and, and_true, if_true, if_false, decide_eq_false_iff_not, decide_eq_true_eq, Nat.reduceAdd, Nat.reduceLeDiff, Nat.reduceLT, Int.reduceAdd, Int.reduceSub, Int.reduceMul, Int.reduceNeg, not_true_eq_false, not_false_eq_true]
        exact ih' (_, _) h2 ⟨e1.trans e2', ls2⟩
    · simp only [if_neg (show ¬ Z i < 8 by omega)] at ih'
      by_cases g : 2 * a < b
      · rw [if_pos g] at ih'
        rw [hea, decide_eq_true g] at ih' ⊢
        rw [k280_12]
        simp +decide (maxSteps := 4000000) (disch := omega) only [k280_0, k280_1, k280_2, k280_3, k280_4, k280_5, k280_6, k280_7, k280_8, k280_9, k280_11, k280_13, k280_14, k280_15, k280_16, k280_17, k280_18, k280_19, k280_20, k280_21, k280_24, k280_25, k280_26, k280_27, k280_28, k280_29, k280_30, k280_31, k280_32, k280_34, k280_35, k280_36, k280_r, k280_s, F_il1, J_ifeq, F_il2, F_il4, T_I, F_il3, F_il5, T_iceq, J_icne, T_ft, T_ret, T_mul, T_icge, T_goto, F_is6i, F_is6r, F_is6m, F_is7i, F_is7r, F_is7m, F_al0, F_is8i, F_is8r, F_is8m, F_is9i, F_is9r, F_is9m, J_ifne, F_is10i, F_is10r, F_is10m, F_is11i, F_is11r, F_is11m, F_il9, F_il11, T_getR, F_il10, X_iald, T_add, F_il7, F_inc7i, F_inc7r, F_inc7m, F_inc11i, F_inc11r, F_inc11m, F_is12i, F_is12r, F_is12m, F_il6, F_il12, F_is13i, F_is13r, F_is13m, F_il13, T_getI, F_inc13i, F_inc13r, F_inc13m, T_iast, F_inc12i, F_inc12r, F_inc12m, F_il8, J_ifge, c218, c219, c227, c230, c258, c274, c281, ↓s218, ↓s219, FM F, f1, f6, zr, Bz_t, ln_708, ln_741, show ¬ D.1 ≤ i by omega, ↓reduceIte, TK, lt_run hn, le43, Int.le_refl, Int.lt_irrefl, Option.some.injEq, exists_eq_left', true_and, and_true, if_true, if_false, decide_eq_false_iff_not, decide_eq_true_eq, Nat.reduceAdd, Nat.reduceLeDiff, Nat.reduceLT, Int.reduceAdd, Int.reduceSub, Int.reduceMul, Int.reduceNeg, not_true_eq_false, not_false_eq_true]
        refine w230 F hn (by omega) (by omega) (by omega) (fun h2 e2 c2 => ?_)
        simp +decide (maxSteps := 4000000) (disch := omega) only [k280_0, k280_1, k280_2, k280_3, k280_4, k280_5, k280_6, k280_7, k280_8, k280_9, k280_11, k280_13, k280_14, k280_15, k280_16, k280_17, k280_18, k280_19, k280_20, k280_21, k280_24, k280_25, k280_26, k280_27, k280_28, k280_29, k280_30, k280_31, k280_32, k280_34, k280_35, k280_36, k280_r, k280_s, F_il1, J_ifeq, F_il2, F_il4, T_I, F_il3, F_il5, T_iceq, J_icne, T_ft, T_ret, T_mul, T_icge, T_goto, F_is6i, F_is6r, F_is6m, F_is7i, F_is7r, F_is7m, F_al0, F_is8i, F_is8r, F_is8m, F_is9i, F_is9r, F_is9m, J_ifne, F_is10i, F_is10r, F_is10m, F_is11i, F_is11r, F_is11m, F_il9, F_il11, T_getR, F_il10, X_iald, T_add, F_il7, F_inc7i, F_inc7r, F_inc7m, F_inc11i, F_inc11r, F_inc11m, F_is12i, F_is12r, F_is12m, F_il6, F_il12, F_is13i, F_is13r, F_is13m, F_il13, T_getI, F_inc13i, F_inc13r, F_inc13m, T_iast, F_inc12i, F_inc12r, F_inc12m, F_il8, J_ifge, c218, c219, c227, c230, c258, c274, c281, ↓s218, ↓s219, Bz_t, ↓reduceIte, TK, lt_run hn, le43, Int.le_refl, Int.lt_irrefl, Option.some.injEq, exists_eq_left', true_and, and_true, if_true, if_false, decide_eq_false_iff_not, decide_eq_true_eq, Nat.reduceAdd, Nat.reduceLeDiff, Nat.reduceLT, Int.reduceAdd, Int.reduceSub, Int.reduceMul, Int.reduceNeg, not_true_eq_false, not_false_eq_true]
        have this := fun v => ih' v h2 ⟨e1.trans (e2.mono fun x k q => Sk_y ht.1 (by omega) q), LSm_a ht.1 (by omega) lm c1 e2 (c2 _ f5 (R.2 i).2.1.2)⟩
        rw [List.length_append] at this
        exact this (_, _)
      · rw [if_neg g, List.append_nil] at ih'
        rw [hea, decide_eq_false g] at ih' ⊢
        rw [k280_12]
        simp +decide (maxSteps := 4000000) (disch := omega) only [k280_0, k280_1, k280_2, k280_3, k280_4, k280_5, k280_6, k280_7, k280_8, k280_9, k280_11, k280_13, k280_14, k280_15, k280_16, k280_17, k280_18, k280_19, k280_20, k280_21, k280_24, k280_25, k280_26, k280_27, k280_28, k280_29, k280_30, k280_31, k280_32, k280_34, k280_35, k280_36, k280_r, k280_s, F_il1, J_ifeq, F_il2, F_il4, T_I, F_il3, F_il5, T_iceq, J_icne, T_ft, T_ret, T_mul, T_icge, T_goto, F_is6i, F_is6r, F_is6m, F_is7i, F_is7r, F_is7m, F_al0, F_is8i, F_is8r, F_is8m, F_is9i, F_is9r, F_is9m, J_ifne, F_is10i, F_is10r, F_is10m, F_is11i, F_is11r, F_is11m, F_il9, F_il11, T_getR, F_il10, X_iald, T_add, F_il7, F_inc7i, F_inc7r, F_inc7m, F_inc11i, F_inc11r, F_inc11m, F_is12i, F_is12r, F_is12m, F_il6, F_il12, F_is13i, F_is13r, F_is13m, F_il13, T_getI, F_inc13i, F_inc13r, F_inc13m, T_iast, F_inc12i, F_inc12r, F_inc12m, F_il8, J_ifge, c218, c219, c227, c230, c258, c274, c281, ↓s218, ↓s219, FM F, f1, f6, zr, Bz_f, ln_708, ln_741, show ¬ D.1 ≤ i by omega, ↓reduceIte, TK, lt_run hn, le43, Int.le_refl, Int.lt_irrefl, Option.some.injEq, exists_eq_left', true_and, and_true, if_true, if_false, decide_eq_false_iff_not, decide_eq_true_eq, Nat.reduceAdd, Nat.reduceLeDiff, Nat.reduceLT, Int.reduceAdd, Int.reduceSub, Int.reduceMul, Int.reduceNeg, not_true_eq_false, not_false_eq_true]
        exact ih' (_, _) h' ⟨e1, c1⟩
  · rintro ⟨v12, v13⟩ h' ⟨e1, c1⟩
    dsimp only
    obtain ⟨⟨f1, f2⟩, f3, f4⟩ := fr e1
    have tr := H.2.2.1 D.1.toNat (by omega)
    rw [k280_12]
    simp +decide (maxSteps := 4000000) (disch := omega) only [k280_0, k280_1, k280_2, k280_3, k280_4, k280_5, k280_6, k280_7, k280_8, k280_9, k280_11, k280_13, k280_14, k280_15, k280_16, k280_17, k280_18, k280_19, k280_20, k280_21, k280_24, k280_25, k280_26, k280_27, k280_28, k280_29, k280_30, k280_31, k280_32, k280_34, k280_35, k280_36, k280_r, k280_s, F_il1, J_ifeq, F_il2, F_il4, T_I, F_il3, F_il5, T_iceq, J_icne, T_ft, T_ret, T_mul, T_icge, T_goto, F_is6i, F_is6r, F_is6m, F_is7i, F_is7r, F_is7m, F_al0, F_is8i, F_is8r, F_is8m, F_is9i, F_is9r, F_is9m, J_ifne, F_is10i, F_is10r, F_is10m, F_is11i, F_is11r, F_is11m, F_il9, F_il11, T_getR, F_il10, X_iald, T_add, F_il7, F_inc7i, F_inc7r, F_inc7m, F_inc11i, F_inc11r, F_inc11m, F_is12i, F_is12r, F_is12m, F_il6, F_il12, F_is13i, F_is13r, F_is13m, F_il13, T_getI, F_inc13i, F_inc13r, F_inc13m, T_iast, F_inc12i, F_inc12r, F_inc12m, F_il8, J_ifge, c218, c219, c227, c230, c258, c274, c281, ↓s218, ↓s219, FM F, f1, ln_708, ↓reduceIte, TK, lt_run hn, le43, Int.le_refl, Int.lt_irrefl, Option.some.injEq, exists_eq_left', true_and, and_true, if_true, if_false, decide_eq_false_iff_not, decide_eq_true_eq, Nat.reduceAdd, Nat.reduceLeDiff, Nat.reduceLT, Int.reduceAdd, Int.reduceSub, Int.reduceMul, Int.reduceNeg, not_true_eq_false, not_false_eq_true]
    unfold twF at k
    by_cases g : 2 * a < b
    · rw [if_pos g] at k
      rw [hea, decide_eq_true g] at k ⊢
      rw [k280_22]
      simp +decide (maxSteps := 4000000) (disch := omega) only [k280_0, k280_1, k280_2, k280_3, k280_4, k280_5, k280_6, k280_7, k280_8, k280_9, k280_11, k280_13, k280_14, k280_15, k280_16, k280_17, k280_18, k280_19, k280_20, k280_21, k280_24, k280_25, k280_26, k280_27, k280_28, k280_29, k280_31, k280_32, k280_34, k280_35, k280_36, k280_r, k280_s, F_il1, J_ifeq, F_il2, F_il4, T_I, F_il3, F_il5, T_iceq, J_icne, T_ft, T_ret, T_mul, T_icge, T_goto, F_is6i, F_is6r, F_is6m, F_is7i, F_is7r, F_is7m, F_al0, F_is8i, F_is8r, F_is8m, F_is9i, F_is9r, F_is9m, J_ifne, F_is10i, F_is10r, F_is10m, F_is11i, F_is11r, F_is11m, F_il9, F_il11, T_getR, F_il10, X_iald, T_add, F_il7, F_inc7i, F_inc7r, F_inc7m, F_inc11i, F_inc11r, F_inc11m, F_is12i, F_is12r, F_is12m, F_il6, F_il12, F_is13i, F_is13r, F_is13m, F_il13, T_getI, F_inc13i, F_inc13r, F_inc13m, T_iast, F_inc12i, F_inc12r, F_inc12m, F_il8, J_ifge, c218, c219, c227, c230, c258, c274, c281, ↓s218, ↓s219, Bz_t, ↓reduceIte, TK, lt_run hn, le43, Int.le_refl, Int.lt_irrefl, Option.some.injEq, exists_eq_left', true_and, and_true, if_true, if_false, decide_eq_false_iff_not, decide_eq_true_eq, Nat.reduceAdd, Nat.reduceLeDiff, Nat.reduceLT, Int.reduceAdd, Int.reduceSub, Int.reduceMul, Int.reduceNeg, not_true_eq_false, not_false_eq_true]
      exact k h' _ _ _ e1 c1
    · rw [if_neg g] at k
      rw [hea, decide_eq_false g] at k ⊢
      have rb := twR_b (D := D) (D' := D') (a := a) (b := b) R'.1 H g D.1.toNat (by omega)
      have lm := twR_m (Z := Z) R R' ha hb D.1.toNat
      refine T_for (σ := Value × Value) (fun j v => [.ref 704, .int (J d), .int (J e), .int (J a), .int (J b), .int (J t), .int (Bz false), .int (J ((twS D' (T D.1.toNat) (twR D D' Z a b D.1.toNat) j.toNat).length : Int)), .int (J sm), .int (J 0), .int (J fm), .int (J j), v.1, v.2]) (fun j _ h' => Ef (Sy t.toNat) h h' ∧ LSm h' t (twS D' (T D.1.toNat) (twR D D' Z a b D.1.toNat) j.toNat)) 0 D'.1 ?_ ?_ 0 (v12, v13) h' (by omega) (by omega) ⟨e1, c1⟩
      · rintro j ⟨v12, v13⟩ h' j0 j1 ⟨e1, c1⟩ ih
        dsimp only
        obtain ⟨⟨f1, f2⟩, f3, f4⟩ := fr e1
        have f5 := f4 j j0 j1
        have sb := twS_b (D' := D') (t := T D.1.toNat) (l := twR D D' Z a b D.1.toNat) j.toNat
        have sm2 := twS_m (t := T D.1.toNat) R' lm j.toNat
        have es := twS_s (D' := D') (t := T D.1.toNat) (l := twR D D' Z a b D.1.toNat) j0
        have qe := twQ_e (j := j) R'.1 H (by omega) D.1.toNat (by omega)
        have ih' := fun v h2 => ih v h2
        try dsimp only at ih'
        rw [es] at ih'
        generalize twS D' (T D.1.toNat) (twR D D' Z a b D.1.toNat) j.toNat = l at *
        rw [k280_22]
        simp +decide (maxSteps := 4000000) (disch := omega) only [k280_0, k280_1, k280_2, k280_3, k280_4, k280_5, k280_6, k280_7, k280_8, k280_9, k280_11, k280_13, k280_14, k280_15, k280_16, k280_17, k280_18, k280_19, k280_20, k280_21, k280_24, k280_25, k280_26, k280_27, k280_28, k280_29, k280_30, k280_31, k280_32, k280_34, k280_35, k280_36, k280_r, k280_s, F_il1, J_ifeq, F_il2, F_il4, T_I, F_il3, F_il5, T_iceq, J_icne, T_ft, T_ret, T_mul, T_icge, T_goto, F_is6i, F_is6r, F_is6m, F_is7i, F_is7r, F_is7m, F_al0, F_is8i, F_is8r, F_is8m, F_is9i, F_is9r, F_is9m, J_ifne, F_is10i, F_is10r, F_is10m, F_is11i, F_is11r, F_is11m, F_il9, F_il11, T_getR, F_il10, X_iald, T_add, F_il7, F_inc7i, F_inc7r, F_inc7m, F_inc11i, F_inc11r, F_inc11m, F_is12i, F_is12r, F_is12m, F_il6, F_il12, F_is13i, F_is13r, F_is13m, F_il13, T_getI, F_inc13i, F_inc13r, F_inc13m, T_iast, F_inc12i, F_inc12r, F_inc12m, F_il8, J_ifge, c218, c219, c227, c230, c258, c274, c281, ↓s218, ↓s219, FM F, f2, Bz_f, ln_708, show ¬ D'.1 ≤ j by omega, ↓reduceIte, TK, lt_run hn, le43, Int.le_refl, Int.lt_irrefl, Option.some.injEq, exists_eq_left', true_and, and_true, if_true, if_false, decide_eq_false_iff_not, decide_eq_true_eq, Nat.reduceAdd, Nat.reduceLeDiff, Nat.reduceLT, Int.reduceAdd, Int.reduceSub, Int.reduceMul, Int.reduceNeg, not_true_eq_false, not_false_eq_true]
        refine T_for (σ := Unit) (fun i _ => [.ref 704, .int (J d), .int (J e), .int (J a), .int (J b), .int (J t), .int (Bz false), .int (J (l.length : Int)), .int (J sm), .int (J 0), .int (J fm), .int (J j), .int (Bz (twQ Z j i.toNat)), .int (J i)]) (fun _ _ h'' => h'' = h') 0 D.1 ?_ ?_ 0 () h' (by omega) (by omega) rfl
        · rintro i _ h2 i0 i1 rfl ihi
          obtain ⟨_, f6⟩ := f3 i i0 i1
          have zr := H.2.2.2 i.toNat (by omega)
          rw [Int.toNat_of_nonneg i0] at zr
          have eq : twQ Z j (i + 1).toNat = (twQ Z j i.toNat || decide (Z i = j)) := by
            rw [show (i + 1).toNat = i.toNat + 1 by omega]
            show (_ || decide (Z (i.toNat : Int) = j)) = _
            rw [Int.toNat_of_nonneg i0]
          have ihi' := ihi () _ rfl
          rw [eq] at ihi'
          cases hq : twQ Z j i.toNat with
          | true =>
            rw [hq, Bool.true_or] at ihi'
            rw [k280_23]
            simp +decide (maxSteps := 4000000) (disch := omega) only [k280_0, k280_1, k280_2, k280_3, k280_4, k280_5, k280_6, k280_7, k280_8, k280_9, k280_11, k280_13, k280_14, k280_15, k280_16, k280_17, k280_18, k280_19, k280_20, k280_21, k280_24, k280_25, k280_26, k280_27, k280_28, k280_29, k280_30, k280_31, k280_32, k280_34, k280_35, k280_36, k280_r, k280_s, F_il1, J_ifeq, F_il2, F_il4, T_I, F_il3, F_il5, T_iceq, J_icne, T_ft, T_ret, T_mul, T_icge, T_goto, F_is6i, F_is6r, F_is6m, F_is7i, F_is7r, F_is7m, F_al0, F_is8i, F_is8r, F_is8m, F_is9i, F_is9r, F_is9m, J_ifne, F_is10i, F_is10r, F_is10m, F_is11i, F_is11r, F_is11m, F_il9, F_il11, T_getR, F_il10, X_iald, T_add, F_il7, F_inc7i, F_inc7r, F_inc7m, F_inc11i, F_inc11r, F_inc11m, F_is12i, F_is12r, F_is12m, F_il6, F_il12, F_is13i, F_is13r, F_is13m, F_il13, T_getI, F_inc13i, F_inc13r, F_inc13m, T_iast, F_inc12i, F_inc12r, F_inc12m, F_il8, J_ifge, c218, c219, c227, c230, c258, c274, c281, ↓s218, ↓s219, FM F, f1, Bz_t, ln_708, ln_741, show ¬ D.1 ≤ i by omega, ↓reduceIte, TK, lt_run hn, le43, Int.le_refl, Int.lt_irrefl, Option.some.injEq, exists_eq_left', true_and, and_true, if_true, if_false, decide_eq_false_iff_not, decide_eq_true_eq, Nat.reduceAdd, Nat.reduceLeDiff, Nat.reduceLT, Int.reduceAdd, Int.reduceSub, Int.reduceMul, Int.reduceNeg, not_true_eq_false, not_false_eq_true]
            exact ihi'
          | false =>
            rw [hq, Bool.false_or] at ihi'
            by_cases g3 : Z i = j
            · rw [decide_eq_true g3] at ihi'
              rw [k280_23]
              simp +decide (maxSteps := 4000000) (disch := omega) only [k280_0, k280_1, k280_2, k280_3, k280_4, k280_5, k280_6, k280_7, k280_8, k280_9, k280_11, k280_13, k280_14, k280_15, k280_16, k280_17, k280_18, k280_19, k280_20, k280_21, k280_24, k280_25, k280_26, k280_27, k280_28, k280_29, k280_30, k280_31, k280_32, k280_34, k280_35, k280_36, k280_r, k280_s, F_il1, J_ifeq, F_il2, F_il4, T_I, F_il3, F_il5, T_iceq, J_icne, T_ft, T_ret, T_mul, T_icge, T_goto, F_is6i, F_is6r, F_is6m, F_is7i, F_is7r, F_is7m, F_al0, F_is8i, F_is8r, F_is8m, F_is9i, F_is9r, F_is9m, J_ifne, F_is10i, F_is10r, F_is10m, F_is11i, F_is11r, F_is11m, F_il9, F_il11, T_getR, F_il10, X_iald, T_add, F_il7, F_inc7i, F_inc7r, F_inc7m, F_inc11i, F_inc11r, F_inc11m, F_is12i, F_is12r, F_is12m, F_il6, F_il12, F_is13i, F_is13r, F_is13m, F_il13, T_getI, F_inc13i, F_inc13r, F_inc13m, T_iast, F_inc12i, F_inc12r, F_inc12m, F_il8, J_ifge, c218, c219, c227, c230, c258, c274, c281, ↓s218, ↓s219, FM F, f1, f6, Bz_f, g3, ln_708, ln_741, show ¬ D.1 ≤ i by omega, ↓reduceIte, TK, lt_run hn, le43, Int.le_refl, Int.lt_irrefl, Option.some.injEq, exists_eq_left', true_and, and_true, if_true, if_false, decide_eq_false_iff_not, decide_eq_true_eq, Nat.reduceAdd, Nat.reduceLeDiff, Nat.reduceLT, Int.reduceAdd, Int.reduceSub, Int.reduceMul, Int.reduceNeg, not_true_eq_false, not_false_eq_true]
              exact ihi'
            · rw [decide_eq_false g3] at ihi'
              rw [k280_23]
              simp +decide (maxSteps := 4000000) (disch := omega) only [k280_0, k280_1, k280_2, k280_3, k280_4, k280_5, k280_6, k280_7, k280_8, k280_9, k280_11, k280_13, k280_14, k280_15, k280_16, k280_17, k280_18, k280_19, k280_20, k280_21, k280_24, k280_25, k280_26, k280_27, k280_28, k280_29, k280_30, k280_31, k280_32, k280_34, k280_35, k280_36, k280_r, k280_s, F_il1, J_ifeq, F_il2, F_il4, T_I, F_il3, F_il5, T_iceq, J_icne, T_ft, T_ret, T_mul, T_icge, T_goto, F_is6i, F_is6r, F_is6m, F_is7i, F_is7r, F_is7m, F_al0, F_is8i, F_is8r, F_is8m, F_is9i, F_is9r, F_is9m, J_ifne, F_is10i, F_is10r, F_is10m, F_is11i, F_is11r, F_is11m, F_il9, F_il11, T_getR, F_il10, X_iald, T_add, F_il7, F_inc7i, F_inc7r, F_inc7m, F_inc11i, F_inc11r, F_inc11m, F_is12i, F_is12r, F_is12m, F_il6, F_il12, F_is13i, F_is13r, F_is13m, F_il13, T_getI, F_inc13i, F_inc13r, F_inc13m, T_iast, F_inc12i, F_inc12r, F_inc12m, F_il8, J_ifge, c218, c219, c227, c230, c258, c274, c281, ↓s218, ↓s219, FM F, f1, f6, Bz_f, g3, ln_708, ln_741, show ¬ D.1 ≤ i by omega, ↓reduceIte, TK, lt_run hn, le43, Int.le_refl, Int.lt_irrefl, Option.some.injEq, exists_eq_left', true_and, and_true, if_true, if_false, decide_eq_false_iff_not, decide_eq_true_eq, Nat.reduceAdd, Nat.reduceLeDiff, Nat.reduceLT, Int.reduceAdd, Int.reduceSub, Int.reduceMul, Int.reduceNeg, not_true_eq_false, not_false_eq_true]
              exact ihi'
        · rintro _ h2 rfl
          rw [← qe]
          by_cases g1 : maB (T D.1.toNat) j = true
          · rw [if_pos g1, List.append_nil] at ih'
            rw [g1]
            rw [k280_23]
            simp +decide (maxSteps := 4000000) (disch := omega) only [k280_0, k280_1, k280_2, k280_3, k280_4, k280_5, k280_6, k280_7, k280_8, k280_9, k280_11, k280_13, k280_14, k280_15, k280_16, k280_17, k280_18, k280_19, k280_20, k280_21, k280_24, k280_25, k280_26, k280_27, k280_28, k280_29, k280_30, k280_31, k280_32, k280_34, k280_35, k280_36, k280_r, k280_s, F_il1, J_ifeq, F_il2, F_il4, T_I, F_il3, F_il5, T_iceq, J_icne, T_ft, T_ret, T_mul, T_icge, T_goto, F_is6i, F_is6r, F_is6m, F_is7i, F_is7r, F_is7m, F_al0, F_is8i, F_is8r, F_is8m, F_is9i, F_is9r, F_is9m, J_ifne, F_is10i, F_is10r, F_is10m, F_is11i, F_is11r, F_is11m, F_il9, F_il11, T_getR, F_il10, X_iald, T_add, F_il7, F_inc7i, F_inc7r, F_inc7m, F_inc11i, F_inc11r, F_inc11m, F_is12i, F_is12r, F_is12m, F_il6, F_il12, F_is13i, F_is13r, F_is13m, F_il13, T_getI, F_inc13i, F_inc13r, F_inc13m, T_iast, F_inc12i, F_inc12r, F_inc12m, F_il8, J_ifge, c218, c219, c227, c230, c258, c274, c281, ↓s218, ↓s219, FM F, f1, Bz_t, ln_708, ↓reduceIte, TK, lt_run hn, le43, Int.le_refl, Int.lt_irrefl, Option.some.injEq, exists_eq_left', true_and, and_true, if_true, if_false, decide_eq_false_iff_not, decide_eq_true_eq, Nat.reduceAdd, Nat.reduceLeDiff, Nat.reduceLT, Int.reduceAdd, Int.reduceSub, Int.reduceMul, Int.reduceNeg, not_true_eq_false, not_false_eq_true]
            exact ih' (_, _) _ ⟨e1, c1⟩
          · rw [if_neg g1] at ih'
            have g2 : maB (T D.1.toNat) j = false := by simpa using g1
            have fn := maF_n j0 j1 g2
            rw [g2]
            rw [k280_23]
            simp +decide (maxSteps := 4000000) (disch := omega) only [k280_0, k280_1, k280_2, k280_3, k280_4, k280_5, k280_6, k280_7, k280_8, k280_9, k280_11, k280_13, k280_14, k280_15, k280_16, k280_17, k280_18, k280_19, k280_20, k280_21, k280_24, k280_25, k280_26, k280_27, k280_28, k280_29, k280_30, k280_31, k280_32, k280_34, k280_35, k280_36, k280_r, k280_s, F_il1, J_ifeq, F_il2, F_il4, T_I, F_il3, F_il5, T_iceq, J_icne, T_ft, T_ret, T_mul, T_icge, T_goto, F_is6i, F_is6r, F_is6m, F_is7i, F_is7r, F_is7m, F_al0, F_is8i, F_is8r, F_is8m, F_is9i, F_is9r, F_is9m, J_ifne, F_is10i, F_is10r, F_is10m, F_is11i, F_is11r, F_is11m, F_il9, F_il11, T_getR, F_il10, X_iald, T_add, F_il7, F_inc7i, F_inc7r, F_inc7m, F_inc11i, F_inc11r, F_inc11m, F_is12i, F_is12r, F_is12m, F_il6, F_il12, F_is13i, F_is13r, F_is13m, F_il13, T_getI, F_inc13i, F_inc13r, F_inc13m, T_iast, F_inc12i, F_inc12r, F_inc12m, F_il8, J_ifge, c218, c219, c227, c230, c258, c274, c281, ↓s218, ↓s219, FM F, f1, Bz_f, ln_708, ↓reduceIte, TK, lt_run hn, le43, Int.le_refl, Int.lt_irrefl, Option.some.injEq, exists_eq_left', true_and, and_true, if_true, if_false, decide_eq_false_iff_not, decide_eq_true_eq, Nat.reduceAdd, Nat.reduceLeDiff, Nat.reduceLT, Int.reduceAdd, Int.reduceSub, Int.reduceMul, Int.reduceNeg, not_true_eq_false, not_false_eq_true]
            refine w230 F hn (by omega) (by omega) (by omega) (fun h3 e2 c2 => ?_)
            simp +decide (maxSteps := 4000000) (disch := omega) only [k280_0, k280_1, k280_2, k280_3, k280_4, k280_5, k280_6, k280_7, k280_8, k280_9, k280_11, k280_13, k280_14, k280_15, k280_16, k280_17, k280_18, k280_19, k280_20, k280_21, k280_24, k280_25, k280_26, k280_27, k280_28, k280_29, k280_30, k280_31, k280_32, k280_34, k280_35, k280_36, k280_r, k280_s, F_il1, J_ifeq, F_il2, F_il4, T_I, F_il3, F_il5, T_iceq, J_icne, T_ft, T_ret, T_mul, T_icge, T_goto, F_is6i, F_is6r, F_is6m, F_is7i, F_is7r, F_is7m, F_al0, F_is8i, F_is8r, F_is8m, F_is9i, F_is9r, F_is9m, J_ifne, F_is10i, F_is10r, F_is10m, F_is11i, F_is11r, F_is11m, F_il9, F_il11, T_getR, F_il10, X_iald, T_add, F_il7, F_inc7i, F_inc7r, F_inc7m, F_inc11i, F_inc11r, F_inc11m, F_is12i, F_is12r, F_is12m, F_il6, F_il12, F_is13i, F_is13r, F_is13m, F_il13, T_getI, F_inc13i, F_inc13r, F_inc13m, T_iast, F_inc12i, F_inc12r, F_inc12m, F_il8, J_ifge, c218, c219, c227, c230, c258, c274, c281, ↓s218, ↓s219, ↓reduceIte, TK, lt_run hn, le43, Int.le_refl, Int.lt_irrefl, Option.some.injEq, exists_eq_left', true_and, and_true, if_true, if_false, decide_eq_false_iff_not, decide_eq_true_eq, Nat.reduceAdd, Nat.reduceLeDiff, Nat.reduceLT, Int.reduceAdd, Int.reduceSub, Int.reduceMul, Int.reduceNeg, not_true_eq_false, not_false_eq_true]
            have this := fun v => ih' v h3 ⟨e1.trans (e2.mono fun x k q => Sk_y ht.1 (by omega) q), LSm_a ht.1 (by omega) sm2 c1 e2 (c2 _ f5 (R'.2 j).2.1.2)⟩
            rw [List.length_append] at this
            exact this (_, _)
      · rintro ⟨v12, v13⟩ h' ⟨e1, c1⟩
        dsimp only
        obtain ⟨⟨f1, f2⟩, f3, f4⟩ := fr e1
        rw [k280_22]
        simp +decide (maxSteps := 4000000) (disch := omega) only [k280_0, k280_1, k280_2, k280_3, k280_4, k280_5, k280_6, k280_7, k280_8, k280_9, k280_11, k280_13, k280_14, k280_15, k280_16, k280_17, k280_18, k280_19, k280_20, k280_21, k280_24, k280_25, k280_26, k280_27, k280_28, k280_29, k280_31, k280_32, k280_34, k280_35, k280_36, k280_r, k280_s, F_il1, J_ifeq, F_il2, F_il4, T_I, F_il3, F_il5, T_iceq, J_icne, T_ft, T_ret, T_mul, T_icge, T_goto, F_is6i, F_is6r, F_is6m, F_is7i, F_is7r, F_is7m, F_al0, F_is8i, F_is8r, F_is8m, F_is9i, F_is9r, F_is9m, J_ifne, F_is10i, F_is10r, F_is10m, F_is11i, F_is11r, F_is11m, F_il9, F_il11, T_getR, F_il10, X_iald, T_add, F_il7, F_inc7i, F_inc7r, F_inc7m, F_inc11i, F_inc11r, F_inc11m, F_is12i, F_is12r, F_is12m, F_il6, F_il12, F_is13i, F_is13r, F_is13m, F_il13, T_getI, F_inc13i, F_inc13r, F_inc13m, T_iast, F_inc12i, F_inc12r, F_inc12m, F_il8, J_ifge, c218, c219, c227, c230, c258, c274, c281, ↓s218, ↓s219, FM F, f2, Bz_f, ln_708, ↓reduceIte, TK, lt_run hn, le43, Int.le_refl, Int.lt_irrefl, Option.some.injEq, exists_eq_left', true_and, and_true, if_true, if_false, decide_eq_false_iff_not, decide_eq_true_eq, Nat.reduceAdd, Nat.reduceLeDiff, Nat.reduceLT, Int.reduceAdd, Int.reduceSub, Int.reduceMul, Int.reduceNeg, not_true_eq_false, not_false_eq_true]
        exact k h' _ _ _ e1 c1
/-- the sets of the best match -/
theorem maH.tw {c : Int → Int → Int} {m : Int} {f g : Int → Int} (H : maH c a b m f g) : twH a b (maZ c a b m f g) (maS (maX (maCC c a b m f g) a b)) := by
  have hb := H.2.1
  refine ⟨rfl, fun i hi => ?_, fun i hi => (maSS H i hi).2.1, fun i hi => ?_⟩
  · have e := maS_s (maX (maCC c a b m f g) a b) (i := i) (by omega)
    rw [show ((i : Int) + 1).toNat = i + 1 by omega, Int.toNat_natCast] at e
    exact e
  · obtain ⟨_, i2, i3⟩ := maSS H i (by omega)
    obtain ⟨_, x2, _⟩ := maXY H (i := i) (by omega) i2 i3
    unfold maZ
    rw [Int.toNat_natCast]
    exact x2
end TE
