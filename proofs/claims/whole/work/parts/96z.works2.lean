/-! pictures: sparks and layers of the reference -/
section WL
variable {E : AEn} {h h' : AHi} {hr : AHr} {n : Nat} {Q : ARs → Prop} {e : PEn} {f i : Int}
theorem w326b (F : FH hr) (hn : 775 ≤ n) (W : PW h hr e) (hi : 0 ≤ i ∧ i < e.m) (hk : e.K i = 7) (hf : 0 ≤ f ∧ f ≤ 119)
    (k : ∀ h', Ef (Swk i) h h' → SPc h' i (PN e f i) → Q (none, h', hr, n)) : Sp E 326 [.ref 704, .int (J i), .int (J f)] h hr n Q := by
  obtain ⟨_, _, _, _, _, _, _, n1, n2, n3, n4, n5, n6⟩ := id W
  have im : i < 10 := by omega
  obtain ⟨_, o2, t1⟩ := n6 i hi.1 hi.2
  have A := n3 i hi.1 hi.2
  have pe := PN_s W f hi.1 hi.2
  obtain ⟨a0, b1, b2, b3, b4⟩ := A.2.2.2.2.2.2 hk
  rw [hk] at pe o2 t1
  rw [wrk_7] at pe
  have t0 : gA h 765 (6 * i) = J (e.T i 0) := by
    have := (t1 0 (by decide) (by decide)).2
    rw [Int.add_zero] at this
    exact this
  have t2 := (t1 1 (by decide) (by decide)).2
  simp +decide (maxSteps := 4000000) (disch := omega) only [k326_0, k326_1, k326_2, k326_3, k326_5, k326_6, k326_7, k326_8, k326_9, k326_10, k326_11, k326_12, k326_13, k326_14, k326_15, k326_16, k326_17, k326_18, k326_19, k326_20, k326_21, k326_22, k326_24, k326_25, k326_26, k326_r, k326_s, T_I, F_il1, T_mul, F_is3i, F_is3r, F_is3m, F_is4i, F_is4r, F_is4m, F_al0, T_getR, F_il3, X_iald, F_is5i, F_is5r, F_is5m, T_add, F_is6i, F_is6r, F_is6m, F_is7i, F_is7r, F_is7m, F_is8i, F_is8r, F_is8m, F_il7, J_icne, F_il2, F_is9i, F_is9r, F_is9m, F_il9, J_iflt, T_goto, T_ft, F_il8, J_ifeq, T_icge, T_rem, F_is10i, F_is10r, F_is10m, T_div, F_is11i, F_is11r, F_is11m, F_is12i, F_is12r, F_is12m, J_ifne, F_il10, F_is13i, F_is13r, F_is13m, F_il11, F_is14i, F_is14r, F_is14m, F_il13, F_il14, F_is15i, F_is15r, F_is15m, F_il15, J_ifle, F_il5, T_iceq, F_il6, T_sub, F_il4, F_il12, T_iast, F_inc9i, F_inc9r, F_inc9m, T_ushr, T_i2l, T_mulL, T_L, T_l2i, T_addL, T_ret, c219, c237, c244, c252, c253, c261, c268, c310, c312, c313, c327, c329, ↓s219, ↓s237, ↓s244, ↓s252, ↓s253, ↓s268, ↓s312, ↓s313, ↓s327, FM F, t0, t2, o2, ln_764, ln_765, ↓reduceIte, TK, lt_run hn, le43, Int.le_refl, Int.lt_irrefl, Option.some.injEq, exists_eq_left', true_and, and_true, if_true, if_false, decide_eq_false_iff_not, decide_eq_true_eq, Nat.reduceAdd, Nat.reduceLeDiff, Nat.reduceLT, Int.reduceAdd, Int.reduceSub, Int.reduceMul, Int.reduceNeg, not_true_eq_false, not_false_eq_true]
  refine z326 F hn (Pc := fun _ => -1) ⟨hi.1, im⟩ _ _ _ _ _ _ (fun q h1 v10 v11 v12 v13 v14 v15 q0 q1 e1 kk => ?_) (fun h1 v10 v11 v12 v13 v14 v15 e1 c1 => ?_)
  · rw [k326_4]
    simp +decide (maxSteps := 4000000) (disch := omega) only [k326_0, k326_1, k326_2, k326_3, k326_5, k326_6, k326_7, k326_8, k326_9, k326_10, k326_11, k326_12, k326_13, k326_14, k326_15, k326_16, k326_17, k326_18, k326_19, k326_20, k326_22, k326_24, k326_25, k326_26, k326_r, k326_s, T_I, F_il1, T_mul, F_is3i, F_is3r, F_is3m, F_is4i, F_is4r, F_is4m, F_al0, T_getR, F_il3, X_iald, F_is5i, F_is5r, F_is5m, T_add, F_is6i, F_is6r, F_is6m, F_is7i, F_is7r, F_is7m, F_is8i, F_is8r, F_is8m, F_il7, J_icne, F_il2, F_is9i, F_is9r, F_is9m, F_il9, J_iflt, T_goto, T_ft, F_il8, J_ifeq, T_icge, T_rem, F_is10i, F_is10r, F_is10m, T_div, F_is11i, F_is11r, F_is11m, F_is12i, F_is12r, F_is12m, J_ifne, F_il10, F_is13i, F_is13r, F_is13m, F_il11, F_is14i, F_is14r, F_is14m, F_il13, F_il14, F_is15i, F_is15r, F_is15m, F_il15, J_ifle, F_il5, T_iceq, F_il6, T_sub, F_il4, F_il12, T_iast, F_inc9i, F_inc9r, F_inc9m, T_ushr, T_i2l, T_mulL, T_L, T_l2i, T_addL, T_ret, c219, c237, c244, c252, c253, c261, c268, c310, c312, c313, c327, c329, ↓s219, ↓s237, ↓s244, ↓s252, ↓s253, ↓s268, ↓s312, ↓s313, ↓s327, FM F, ln_765, J_remp, J_divp, show ¬ 1536 ≤ q by omega, ↓reduceIte, TK, lt_run hn, le43, Int.le_refl, Int.lt_irrefl, Option.some.injEq, exists_eq_left', true_and, and_true, if_true, if_false, decide_eq_false_iff_not, decide_eq_true_eq, Nat.reduceAdd, Nat.reduceLeDiff, Nat.reduceLT, Int.reduceAdd, Int.reduceSub, Int.reduceMul, Int.reduceNeg, not_true_eq_false, not_false_eq_true]
    exact kk _ _ _ _ _
  rw [k326_22]
  simp +decide (maxSteps := 4000000) (disch := omega) only [k326_0, k326_1, k326_2, k326_3, k326_5, k326_6, k326_7, k326_8, k326_9, k326_10, k326_11, k326_12, k326_13, k326_14, k326_15, k326_16, k326_17, k326_18, k326_19, k326_20, k326_21, k326_22, k326_24, k326_25, k326_26, k326_r, k326_s, T_I, F_il1, T_mul, F_is3i, F_is3r, F_is3m, F_is4i, F_is4r, F_is4m, F_al0, T_getR, F_il3, X_iald, F_is5i, F_is5r, F_is5m, T_add, F_is6i, F_is6r, F_is6m, F_is7i, F_is7r, F_is7m, F_is8i, F_is8r, F_is8m, F_il7, J_icne, F_il2, F_is9i, F_is9r, F_is9m, F_il9, J_iflt, T_goto, T_ft, F_il8, J_ifeq, T_icge, T_rem, F_is10i, F_is10r, F_is10m, T_div, F_is11i, F_is11r, F_is11m, F_is12i, F_is12r, F_is12m, J_ifne, F_il10, F_is13i, F_is13r, F_is13m, F_il11, F_is14i, F_is14r, F_is14m, F_il13, F_il14, F_is15i, F_is15r, F_is15m, F_il15, J_ifle, F_il5, T_iceq, F_il6, T_sub, F_il4, F_il12, T_iast, F_inc9i, F_inc9r, F_inc9m, T_ushr, T_i2l, T_mulL, T_L, T_l2i, T_addL, T_ret, c219, c237, c244, c252, c253, c261, c268, c310, c312, c313, c327, c329, ↓s219, ↓s237, ↓s244, ↓s252, ↓s253, ↓s268, ↓s312, ↓s313, ↓s327, ↓reduceIte, TK, lt_run hn, le43, Int.le_refl, Int.lt_irrefl, Option.some.injEq, exists_eq_left', true_and, and_true, if_true, if_false, decide_eq_false_iff_not, decide_eq_true_eq, Nat.reduceAdd, Nat.reduceLeDiff, Nat.reduceLT, Int.reduceAdd, Int.reduceSub, Int.reduceMul, Int.reduceNeg, not_true_eq_false, not_false_eq_true]
  refine T_for (σ := Value × Value × Value × Value × Value × Value) (fun q v => [.ref 704, .int (J i), .int (J f), .int (J (6 * i)), .int (J (1536 * i)), .int (J (1536 * e.T i 0)), .int (J (1536 * e.T i 1)), .int (J 7), .int (J 0), .int (J q), v.1, v.2.1, v.2.2.1, v.2.2.2.1, v.2.2.2.2.1, v.2.2.2.2.2]) (fun q _ h' => Ef (Swr i) h h' ∧ SPc h' i (pcK (e.T i) f q.toNat)) 0 (e.T i 3) ?_ ?_ 0 (v10, v11, v12, v13, v14, v15) h1 (by omega) (by omega) ⟨e1, c1⟩
  · rintro q ⟨v10, v11, v12, v13, v14, v15⟩ k2 q0 q1 ⟨e2, p2⟩ ih
    dsimp only
    have nums : ∀ q, gA k2 765 q = gA h 765 q := fun q => e2.g (fun z => by unfold Swr at z; omega)
    have u0 := (nums (6 * i)).trans t0
    have u1 := (nums (6 * i + 1)).trans t2
    have u2 := (nums (6 * i + 2)).trans (t1 2 (by decide) (by decide)).2
    have u3 := (nums (6 * i + 3)).trans (t1 3 (by decide) (by decide)).2
    have u4 := (nums (6 * i + 4)).trans (t1 4 (by decide) (by decide)).2
    have es := pcK_s (T := e.T i) (f := f) q0
    have ih' := fun v k3 => ih v k3
    rw [es] at ih'
    by_cases z1 : 0 ≤ f - q ∧ f - q ≤ 23
    case neg =>
      have nz : ¬ spOb (e.T i) f q = true := fun w => by
        have := of_decide_eq_true w
        omega
      rw [if_neg nz] at ih'
      rw [k326_23]
      simp +decide (maxSteps := 4000000) (disch := omega) only [k326_0, k326_1, k326_2, k326_3, k326_5, k326_6, k326_7, k326_8, k326_9, k326_10, k326_11, k326_12, k326_13, k326_14, k326_15, k326_16, k326_17, k326_18, k326_19, k326_20, k326_21, k326_22, k326_24, k326_25, k326_26, k326_r, k326_s, T_I, F_il1, T_mul, F_is3i, F_is3r, F_is3m, F_is4i, F_is4r, F_is4m, F_al0, T_getR, F_il3, X_iald, F_is5i, F_is5r, F_is5m, T_add, F_is6i, F_is6r, F_is6m, F_is7i, F_is7r, F_is7m, F_is8i, F_is8r, F_is8m, F_il7, J_icne, F_il2, F_is9i, F_is9r, F_is9m, F_il9, J_iflt, T_goto, T_ft, F_il8, J_ifeq, T_icge, T_rem, F_is10i, F_is10r, F_is10m, T_div, F_is11i, F_is11r, F_is11m, F_is12i, F_is12r, F_is12m, J_ifne, F_il10, F_is13i, F_is13r, F_is13m, F_il11, F_is14i, F_is14r, F_is14m, F_il13, F_il14, F_is15i, F_is15r, F_is15m, F_il15, J_ifle, F_il5, T_iceq, F_il6, T_sub, F_il4, F_il12, T_iast, F_inc9i, F_inc9r, F_inc9m, T_ushr, T_i2l, T_mulL, T_L, T_l2i, T_addL, T_ret, c219, c237, c244, c252, c253, c261, c268, c310, c312, c313, c327, c329, ↓s219, ↓s237, ↓s244, ↓s252, ↓s253, ↓s268, ↓s312, ↓s313, ↓s327, FM F, u3, z1, Bz_f, ln_765, show ¬ e.T i 3 ≤ q by omega, ↓reduceIte, TK, lt_run hn, le43, Int.le_refl, Int.lt_irrefl, Option.some.injEq, exists_eq_left', true_and, and_true, if_true, if_false, decide_eq_false_iff_not, decide_eq_true_eq, Nat.reduceAdd, Nat.reduceLeDiff, Nat.reduceLT, Int.reduceAdd, Int.reduceSub, Int.reduceMul, Int.reduceNeg, not_true_eq_false, not_false_eq_true]
      exact ih' (_, _, _, _, _, _) _ ⟨e2, p2⟩
    obtain ⟨r1, r2, r3, r4, r5, r6, r7⟩ := sp_r (T := e.T i) (f := f) (i := q) b1 b2 z1
    have nz : spOb (e.T i) f q = decide ((0 ≤ spX (e.T i) f q ∧ spX (e.T i) f q ≤ 47) ∧ 0 ≤ spY (e.T i) f q ∧ spY (e.T i) f q ≤ 31) := by
      unfold spOb
      exact decide_eq_decide.mpr ⟨fun q => q.2, fun q => ⟨z1, q⟩⟩
    have a1 := ush8_r (hsh (J (e.T i 0)) (J q) (J 1) (J 0) (J 0))
    have a2 := ush8_r (hsh (J (e.T i 0)) (J q) (J 2) (J 0) (J 0))
    obtain ⟨U, hU⟩ : ∃ U, ush (hsh (J (e.T i 0)) (J q) (J 1) (J 0) (J 0)) 8 = U := ⟨_, rfl⟩
    obtain ⟨U', hU'⟩ : ∃ U, ush (hsh (J (e.T i 0)) (J q) (J 2) (J 0) (J 0)) 8 = U := ⟨_, rfl⟩
    have eV : U % 17 - 8 = spV (e.T i 0) q := by rw [← hU]; rfl
    have eW : U' % 33 - 24 = spW (e.T i 0) q := by rw [← hU']; rfl
    have eX : e.T i 1 + spV (e.T i 0) q * (f - q) / 4 = spX (e.T i) f q := rfl
    have eY : e.T i 2 + (spW (e.T i 0) q * (f - q) + (f - q) * (f - q)) / 8 = spY (e.T i) f q := rfl
    rw [hU] at a1
    rw [hU'] at a2
    rw [nz] at ih'
    generalize spX (e.T i) f q = X at *
    generalize spY (e.T i) f q = Y at *
    generalize spV (e.T i 0) q = V at *
    generalize spW (e.T i 0) q = W at *
    by_cases z : (0 ≤ X ∧ X ≤ 47) ∧ 0 ≤ Y ∧ Y ≤ 31
    · rw [decide_eq_true z, if_pos rfl] at ih'
      rw [k326_23]
      simp +decide (maxSteps := 4000000) (disch := omega) only [k326_0, k326_1, k326_2, k326_3, k326_5, k326_6, k326_7, k326_8, k326_9, k326_10, k326_11, k326_12, k326_13, k326_14, k326_15, k326_16, k326_17, k326_18, k326_19, k326_20, k326_21, k326_22, k326_24, k326_25, k326_26, k326_r, k326_s, T_I, F_il1, T_mul, F_is3i, F_is3r, F_is3m, F_is4i, F_is4r, F_is4m, F_al0, T_getR, F_il3, X_iald, F_is5i, F_is5r, F_is5m, T_add, F_is6i, F_is6r, F_is6m, F_is7i, F_is7r, F_is7m, F_is8i, F_is8r, F_is8m, F_il7, J_icne, F_il2, F_is9i, F_is9r, F_is9m, F_il9, J_iflt, T_goto, T_ft, F_il8, J_ifeq, T_icge, T_rem, F_is10i, F_is10r, F_is10m, T_div, F_is11i, F_is11r, F_is11m, F_is12i, F_is12r, F_is12m, J_ifne, F_il10, F_is13i, F_is13r, F_is13m, F_il11, F_is14i, F_is14r, F_is14m, F_il13, F_il14, F_is15i, F_is15r, F_is15m, F_il15, J_ifle, F_il5, T_iceq, F_il6, T_sub, F_il4, F_il12, T_iast, F_inc9i, F_inc9r, F_inc9m, T_ushr, T_i2l, T_mulL, T_L, T_l2i, T_addL, T_ret, c219, c237, c244, c252, c253, c261, c268, c310, c312, c313, c327, c329, ↓s219, ↓s237, ↓s244, ↓s252, ↓s253, ↓s268, ↓s312, ↓s313, ↓s327, FM F, u0, u1, u2, u3, u4, z1, ush8, J_remp, hU, hU', eV, eW, eX, eY, z, Bz_t, J_l, L_mul, L_add, L_j, ln_765, ln_767, show ¬ e.T i 3 ≤ q by omega, ↓reduceIte, TK, lt_run hn, le43, Int.le_refl, Int.lt_irrefl, Option.some.injEq, exists_eq_left', true_and, and_true, if_true, if_false, decide_eq_false_iff_not, decide_eq_true_eq, Nat.reduceAdd, Nat.reduceLeDiff, Nat.reduceLT, Int.reduceAdd, Int.reduceSub, Int.reduceMul, Int.reduceNeg, not_true_eq_false, not_false_eq_true]
      refine ih' (_, _, _, _, _, _) _ ⟨e2.sA ⟨rfl, by omega, by omega⟩, fun p w0 w1 => ?_⟩
      unfold upd1
      by_cases g : p = Y * 48 + X
      · rw [if_pos g, g, show 1536 * i + (Y * 48 + X) = 1536 * i + 48 * Y + X by omega, gs_s]
      · rw [if_neg g, gs_k (by omega) (by omega) (by omega)]
        exact p2 p w0 w1
    · rw [decide_eq_false z, if_neg (by decide)] at ih'
      rw [k326_23]
      simp +decide (maxSteps := 4000000) (disch := omega) only [k326_0, k326_1, k326_2, k326_3, k326_5, k326_6, k326_7, k326_8, k326_9, k326_10, k326_11, k326_12, k326_13, k326_14, k326_15, k326_16, k326_17, k326_18, k326_19, k326_20, k326_21, k326_22, k326_24, k326_25, k326_26, k326_r, k326_s, T_I, F_il1, T_mul, F_is3i, F_is3r, F_is3m, F_is4i, F_is4r, F_is4m, F_al0, T_getR, F_il3, X_iald, F_is5i, F_is5r, F_is5m, T_add, F_is6i, F_is6r, F_is6m, F_is7i, F_is7r, F_is7m, F_is8i, F_is8r, F_is8m, F_il7, J_icne, F_il2, F_is9i, F_is9r, F_is9m, F_il9, J_iflt, T_goto, T_ft, F_il8, J_ifeq, T_icge, T_rem, F_is10i, F_is10r, F_is10m, T_div, F_is11i, F_is11r, F_is11m, F_is12i, F_is12r, F_is12m, J_ifne, F_il10, F_is13i, F_is13r, F_is13m, F_il11, F_is14i, F_is14r, F_is14m, F_il13, F_il14, F_is15i, F_is15r, F_is15m, F_il15, J_ifle, F_il5, T_iceq, F_il6, T_sub, F_il4, F_il12, T_iast, F_inc9i, F_inc9r, F_inc9m, T_ushr, T_i2l, T_mulL, T_L, T_l2i, T_addL, T_ret, c219, c237, c244, c252, c253, c261, c268, c310, c312, c313, c327, c329, ↓s219, ↓s237, ↓s244, ↓s252, ↓s253, ↓s268, ↓s312, ↓s313, ↓s327, FM F, u0, u1, u2, u3, u4, z1, ush8, J_remp, hU, hU', eV, eW, eX, eY, z, Bz_f, J_l, L_mul, L_add, L_j, ln_765, ln_767, show ¬ e.T i 3 ≤ q by omega, ↓reduceIte, TK, lt_run hn, le43, Int.le_refl, Int.lt_irrefl, Option.some.injEq, exists_eq_left', true_and, and_true, if_true, if_false, decide_eq_false_iff_not, decide_eq_true_eq, Nat.reduceAdd, Nat.reduceLeDiff, Nat.reduceLT, Int.reduceAdd, Int.reduceSub, Int.reduceMul, Int.reduceNeg, not_true_eq_false, not_false_eq_true]
      exact ih' (_, _, _, _, _, _) _ ⟨e2, p2⟩
  · rintro ⟨v10, v11, v12, v13, v14, v15⟩ k2 ⟨e2, p2⟩
    dsimp only
    have u3 : gA k2 765 (6 * i + 3) = J (e.T i 3) := (e2.g (fun z => by unfold Swr at z; omega)).trans (t1 3 (by decide) (by decide)).2
    rw [k326_23]
    simp +decide (maxSteps := 4000000) (disch := omega) only [k326_0, k326_1, k326_2, k326_3, k326_5, k326_6, k326_7, k326_8, k326_9, k326_10, k326_11, k326_12, k326_13, k326_14, k326_15, k326_16, k326_17, k326_18, k326_19, k326_20, k326_21, k326_22, k326_24, k326_25, k326_26, k326_r, k326_s, T_I, F_il1, T_mul, F_is3i, F_is3r, F_is3m, F_is4i, F_is4r, F_is4m, F_al0, T_getR, F_il3, X_iald, F_is5i, F_is5r, F_is5m, T_add, F_is6i, F_is6r, F_is6m, F_is7i, F_is7r, F_is7m, F_is8i, F_is8r, F_is8m, F_il7, J_icne, F_il2, F_is9i, F_is9r, F_is9m, F_il9, J_iflt, T_goto, T_ft, F_il8, J_ifeq, T_icge, T_rem, F_is10i, F_is10r, F_is10m, T_div, F_is11i, F_is11r, F_is11m, F_is12i, F_is12r, F_is12m, J_ifne, F_il10, F_is13i, F_is13r, F_is13m, F_il11, F_is14i, F_is14r, F_is14m, F_il13, F_il14, F_is15i, F_is15r, F_is15m, F_il15, J_ifle, F_il5, T_iceq, F_il6, T_sub, F_il4, F_il12, T_iast, F_inc9i, F_inc9r, F_inc9m, T_ushr, T_i2l, T_mulL, T_L, T_l2i, T_addL, T_ret, c219, c237, c244, c252, c253, c261, c268, c310, c312, c313, c327, c329, ↓s219, ↓s237, ↓s244, ↓s252, ↓s253, ↓s268, ↓s312, ↓s313, ↓s327, FM F, u3, ln_765, ↓reduceIte, TK, lt_run hn, le43, Int.le_refl, Int.lt_irrefl, Option.some.injEq, exists_eq_left', true_and, and_true, if_true, if_false, decide_eq_false_iff_not, decide_eq_true_eq, Nat.reduceAdd, Nat.reduceLeDiff, Nat.reduceLT, Int.reduceAdd, Int.reduceSub, Int.reduceMul, Int.reduceNeg, not_true_eq_false, not_false_eq_true]
    exact k k2 (e2.mono fun x k q => Or.inl q) (by rw [pe]; exact p2)
theorem w326c (F : FH hr) (hn : 775 ≤ n) (W : PW h hr e) (hi : 0 ≤ i ∧ i < e.m) (hk : e.K i = 1) (hf : 0 ≤ f ∧ f ≤ 119)
    (k : ∀ h', Ef (Swk i) h h' → SPc h' i (PN e f i) → Q (none, h', hr, n)) : Sp E 326 [.ref 704, .int (J i), .int (J f)] h hr n Q := by
  obtain ⟨c3, c4, ⟨p1, p2⟩, ⟨y1, y2, y3⟩, ⟨d1, d2⟩, ⟨w1, w2, w3⟩, cc, n1, n2, n3, n4, n5, n6⟩ := id W
  have im : i < 10 := by omega
  obtain ⟨_, o2, t1⟩ := n6 i hi.1 hi.2
  have A := n3 i hi.1 hi.2
  have pe := PN_s W f hi.1 hi.2
  obtain ⟨l0, l1⟩ := A.2.1 hk
  rw [hk] at pe o2 t1
  rw [wrk_1] at pe
  have t0 : gA h 765 (6 * i) = J (e.T i 0) := by
    have := (t1 0 (by decide) (by decide)).2
    rw [Int.add_zero] at this
    exact this
  have t2 := (t1 1 (by decide) (by decide)).2
  have rN := y1 (e.T i 0)
  generalize hl : e.T i 0 = l at *
  generalize hp : e.T i 1 = p at *
  simp +decide (maxSteps := 4000000) (disch := omega) only [k326_0, k326_1, k326_2, k326_3, k326_5, k326_6, k326_7, k326_8, k326_9, k326_10, k326_11, k326_12, k326_13, k326_14, k326_15, k326_16, k326_17, k326_18, k326_19, k326_20, k326_21, k326_22, k326_24, k326_25, k326_26, k326_r, k326_s, T_I, F_il1, T_mul, F_is3i, F_is3r, F_is3m, F_is4i, F_is4r, F_is4m, F_al0, T_getR, F_il3, X_iald, F_is5i, F_is5r, F_is5m, T_add, F_is6i, F_is6r, F_is6m, F_is7i, F_is7r, F_is7m, F_is8i, F_is8r, F_is8m, F_il7, J_icne, F_il2, F_is9i, F_is9r, F_is9m, F_il9, J_iflt, T_goto, T_ft, F_il8, J_ifeq, T_icge, T_rem, F_is10i, F_is10r, F_is10m, T_div, F_is11i, F_is11r, F_is11m, F_is12i, F_is12r, F_is12m, J_ifne, F_il10, F_is13i, F_is13r, F_is13m, F_il11, F_is14i, F_is14r, F_is14m, F_il13, F_il14, F_is15i, F_is15r, F_is15m, F_il15, J_ifle, F_il5, T_iceq, F_il6, T_sub, F_il4, F_il12, T_iast, F_inc9i, F_inc9r, F_inc9m, T_ushr, T_i2l, T_mulL, T_L, T_l2i, T_addL, T_ret, c219, c237, c244, c252, c253, c261, c268, c310, c312, c313, c327, c329, ↓s219, ↓s237, ↓s244, ↓s252, ↓s253, ↓s268, ↓s312, ↓s313, ↓s327, FM F, t0, t2, o2, ln_764, ln_765, ↓reduceIte, TK, lt_run hn, le43, Int.le_refl, Int.lt_irrefl, Option.some.injEq, exists_eq_left', true_and, and_true, if_true, if_false, decide_eq_false_iff_not, decide_eq_true_eq, Nat.reduceAdd, Nat.reduceLeDiff, Nat.reduceLT, Int.reduceAdd, Int.reduceSub, Int.reduceMul, Int.reduceNeg, not_true_eq_false, not_false_eq_true]
  refine w310 F hn cc hf (fun h1 b1 e1 => ?_)
  have z1 : ∀ {h1}, Ef (Swk i) h h1 → PW h1 hr e := fun w => W.z (w.mono fun x k q => Swk_0 q)
  have e1' : Ef (Swk i) h h1 := e1.mono fun x k q => Or.inr (Or.inr q)
  have W1 := z1 e1'
  have u0 : gA h1 765 (6 * i) = J l := (e1.g (by omega)).trans t0
  have s1 := fun {Q} => s268 (E := E) (Q := Q) (h := h1) F hn l0.1 (show l < 4 by omega) rN (show -2147483648 ≤ f by omega) (show f < 2147483648 by omega) (W1.2.2.2.1.2.2 l l0.1 (by omega)).2.1 (fun f f0 f1 => ((W1.2.2.2.1.2.2 l l0.1 (by omega)).2.2 f f0 f1).2)
  have rr : -1 ≤ row (e.N l) (e.R l) f ∧ row (e.N l) (e.R l) f ≤ 15 := by
    unfold row
    split
    · exact y2 l f
    · omega
  have cx := cmv_r cc f
  have dl := d1 l
  have fin : ∀ (sh : Bool) (h2 : AHi), Ef (Swk i) h h2 → (h2 704 79 = J (cmv e.cm e.F e.X f 0) ∧ h2 704 80 = J (cmv e.cm e.F e.Y f 0) ∧ h2 704 81 = J (cmv e.cm e.F e.Z f 64)) → (sh = false → row (e.N l) (e.R l) f = -1) → (sh = true → row (e.N l) (e.R l) f ≠ -1 ∧ PA h2 727 (ptD (wgD (e.D (row (e.N l) (e.R l) f)) (ofL e l f)) (e.G (row (e.N l) (e.R l) f)))) → ∀ v10 v11 v12 v13 v14 v15, Tm E 326 (a_bl 326 4) [.ref 704, .int (J i), .int (J f), .int (J (6 * i)), .int (J (1536 * i)), .int (J (1536 * l)), .int (J (1536 * p)), .int (J 1), .int (Bz sh), .int (J 0), v10, v11, v12, v13, v14, v15] [] h2 hr n Q := fun sh h2 e2 q2 q3 q4 v10 v11 v12 v13 v14 v15 => by
    have W2 := z1 e2
    refine z326 F hn (Pc := PN e f i) ⟨hi.1, im⟩ _ _ _ _ _ _ (fun q h3 v10 v11 v12 v13 v14 v15 q0 q1 e3 kk => ?_) (fun h3 v10 v11 v12 v13 v14 v15 e3 c3 => ?_)
    · have W3 := W2.z (e3.mono fun x k q => Swk_0 (Or.inl q))
      have nx : ∀ x k, x ≠ 767 → ¬ Swr i x k := fun x k w z => w z.1
      obtain ⟨_, _, ⟨_, p2'⟩, _, ⟨_, d2'⟩, _, _, _, _, _, _, _, n6'⟩ := W3
      have u0 : gA h3 765 (6 * i) = J l := by
        have := ((n6' i hi.1 hi.2).2.2 0 (by decide) (by rw [hk]; decide)).2
        rw [Int.add_zero, hl] at this
        exact this
      have u1 : gA h3 765 (6 * i + 1) = J p := by
        have := ((n6' i hi.1 hi.2).2.2 1 (by decide) (by rw [hk]; decide)).2
        rw [hp] at this
        exact this
      have s2 := fun {Q} => s312 (E := E) (Q := Q) (h := h3) (x := q % 48) F hn (d2' l l0.1 (by omega)).2 ((e3 _ _ (nx _ _ (by decide))).trans q2.1) ((e3 _ _ (nx _ _ (by decide))).trans q2.2.2) dl cx.1 cx.2.2 (by omega) (by omega)
      have s3 := fun {Q} => s313 (E := E) (Q := Q) (h := h3) (x := q / 48) F hn (d2' l l0.1 (by omega)).2 ((e3 _ _ (nx _ _ (by decide))).trans q2.2.1) ((e3 _ _ (nx _ _ (by decide))).trans q2.2.2) dl cx.2.1 cx.2.2 (by omega) (by omega)
      have pr1 := (plc_r (mid := 24) (x := q % 48) (by omega) dl cx.1 cx.2.2 (by omega)).2.2
      have pr2 := (plc_r (mid := 16) (x := q / 48) (by omega) dl cx.2.1 cx.2.2 (by omega)).2.2
      rw [pe] at kk
      unfold LyP at kk
      cases hs : sh with
      | false =>
        rw [if_pos (q3 hs)] at kk
        rw [hs] at kk
        rw [k326_4]
        simp +decide (maxSteps := 4000000) (disch := omega) only [k326_0, k326_1, k326_2, k326_3, k326_5, k326_6, k326_7, k326_8, k326_9, k326_10, k326_11, k326_12, k326_13, k326_14, k326_15, k326_16, k326_17, k326_18, k326_19, k326_20, k326_22, k326_24, k326_25, k326_26, k326_r, k326_s, T_I, F_il1, T_mul, F_is3i, F_is3r, F_is3m, F_is4i, F_is4r, F_is4m, F_al0, T_getR, F_il3, X_iald, F_is5i, F_is5r, F_is5m, T_add, F_is6i, F_is6r, F_is6m, F_is7i, F_is7r, F_is7m, F_is8i, F_is8r, F_is8m, F_il7, J_icne, F_il2, F_is9i, F_is9r, F_is9m, F_il9, J_iflt, T_goto, T_ft, F_il8, J_ifeq, T_icge, T_rem, F_is10i, F_is10r, F_is10m, T_div, F_is11i, F_is11r, F_is11m, F_is12i, F_is12r, F_is12m, J_ifne, F_il10, F_is13i, F_is13r, F_is13m, F_il11, F_is14i, F_is14r, F_is14m, F_il13, F_il14, F_is15i, F_is15r, F_is15m, F_il15, J_ifle, F_il5, T_iceq, F_il6, T_sub, F_il4, F_il12, T_iast, F_inc9i, F_inc9r, F_inc9m, T_ushr, T_i2l, T_mulL, T_L, T_l2i, T_addL, T_ret, c219, c237, c244, c252, c253, c261, c268, c310, c312, c313, c327, c329, ↓s219, ↓s237, ↓s244, ↓s252, ↓s253, ↓s268, ↓s327, FM F, u0, u1, ↓s2, ↓s3, Bz_f, ln_765, J_remp, J_divp, show ¬ 1536 ≤ q by omega, ↓reduceIte, TK, lt_run hn, le43, Int.le_refl, Int.lt_irrefl, Option.some.injEq, exists_eq_left', true_and, and_true, if_true, if_false, decide_eq_false_iff_not, decide_eq_true_eq, Nat.reduceAdd, Nat.reduceLeDiff, Nat.reduceLT, Int.reduceAdd, Int.reduceSub, Int.reduceMul, Int.reduceNeg, not_true_eq_false, not_false_eq_true]
        exact kk _ _ _ _ _
      | true =>
        obtain ⟨g0, P0⟩ := q4 hs
        rw [if_neg g0] at kk
        rw [hs] at kk
        have hd : 0 ≤ row (e.N l) (e.R l) f ∧ row (e.N l) (e.R l) f < 16 := by omega
        have P1 := P0.ef e3 (fun k => nx _ _ (by decide))
        have pp := ptD_r (wgD_r (c3.1 (row (e.N l) (e.R l) f)) (ofL e l f)) (c4.1 (row (e.N l) (e.R l) f))
        generalize ptD (wgD (e.D (row (e.N l) (e.R l) f)) (ofL e l f)) (e.G (row (e.N l) (e.R l) f)) = PP at *
        unfold pcL at kk
        generalize plc 24 (e.dp l) (cmv e.cm e.F e.X f 0) (cmv e.cm e.F e.Z f 64) (q % 48) = px at *
        generalize plc 16 (e.dp l) (cmv e.cm e.F e.Y f 0) (cmv e.cm e.F e.Z f 64) (q / 48) = py at *
        by_cases z1 : (0 ≤ px ∧ px ≤ 47) ∧ 0 ≤ py ∧ py ≤ 31
        · have g3 := P1 (py * 48 + px) (by omega) (by omega)
          rw [show py * 48 + px = 48 * py + px by omega] at g3 kk
          have pq := pp (48 * py + px)
          by_cases z2 : PP (48 * py + px) = 0
          · rw [if_neg (fun q => q.2 z2)] at kk
            rw [k326_4]
            simp +decide (maxSteps := 4000000) (disch := omega) only [k326_0, k326_1, k326_2, k326_3, k326_5, k326_6, k326_7, k326_8, k326_9, k326_10, k326_11, k326_12, k326_13, k326_14, k326_15, k326_16, k326_17, k326_18, k326_19, k326_20, k326_22, k326_24, k326_25, k326_26, k326_r, k326_s, T_I, F_il1, T_mul, F_is3i, F_is3r, F_is3m, F_is4i, F_is4r, F_is4m, F_al0, T_getR, F_il3, X_iald, F_is5i, F_is5r, F_is5m, T_add, F_is6i, F_is6r, F_is6m, F_is7i, F_is7r, F_is7m, F_is8i, F_is8r, F_is8m, F_il7, J_icne, F_il2, F_is9i, F_is9r, F_is9m, F_il9, J_iflt, T_goto, T_ft, F_il8, J_ifeq, T_icge, T_rem, F_is10i, F_is10r, F_is10m, T_div, F_is11i, F_is11r, F_is11m, F_is12i, F_is12r, F_is12m, J_ifne, F_il10, F_is13i, F_is13r, F_is13m, F_il11, F_is14i, F_is14r, F_is14m, F_il13, F_il14, F_is15i, F_is15r, F_is15m, F_il15, J_ifle, F_il5, T_iceq, F_il6, T_sub, F_il4, F_il12, T_iast, F_inc9i, F_inc9r, F_inc9m, T_ushr, T_i2l, T_mulL, T_L, T_l2i, T_addL, T_ret, c219, c237, c244, c252, c253, c261, c268, c310, c312, c313, c327, c329, ↓s219, ↓s237, ↓s244, ↓s252, ↓s253, ↓s268, ↓s327, FM F, u0, u1, ↓s2, ↓s3, g3, z1, z2, Bz_t, ln_765, ln_727, J_remp, J_divp, show ¬ 1536 ≤ q by omega, ↓reduceIte, TK, lt_run hn, le43, Int.le_refl, Int.lt_irrefl, Option.some.injEq, exists_eq_left', true_and, and_true, if_true, if_false, decide_eq_false_iff_not, decide_eq_true_eq, Nat.reduceAdd, Nat.reduceLeDiff, Nat.reduceLT, Int.reduceAdd, Int.reduceSub, Int.reduceMul, Int.reduceNeg, not_true_eq_false, not_false_eq_true]
            exact kk _ _ _ _ _
          · rw [if_pos ⟨z1, z2⟩] at kk
            have g4 := (p2' p (PP (48 * py + px)) l1.1 (by omega) (by omega) (by omega)).2
            rw [k326_4]
            simp +decide (maxSteps := 4000000) (disch := omega) only [k326_0, k326_1, k326_2, k326_3, k326_5, k326_6, k326_7, k326_8, k326_9, k326_10, k326_11, k326_12, k326_13, k326_14, k326_15, k326_16, k326_17, k326_18, k326_19, k326_20, k326_22, k326_24, k326_25, k326_26, k326_r, k326_s, T_I, F_il1, T_mul, F_is3i, F_is3r, F_is3m, F_is4i, F_is4r, F_is4m, F_al0, T_getR, F_il3, X_iald, F_is5i, F_is5r, F_is5m, T_add, F_is6i, F_is6r, F_is6m, F_is7i, F_is7r, F_is7m, F_is8i, F_is8r, F_is8m, F_il7, J_icne, F_il2, F_is9i, F_is9r, F_is9m, F_il9, J_iflt, T_goto, T_ft, F_il8, J_ifeq, T_icge, T_rem, F_is10i, F_is10r, F_is10m, T_div, F_is11i, F_is11r, F_is11m, F_is12i, F_is12r, F_is12m, J_ifne, F_il10, F_is13i, F_is13r, F_is13m, F_il11, F_is14i, F_is14r, F_is14m, F_il13, F_il14, F_is15i, F_is15r, F_is15m, F_il15, J_ifle, F_il5, T_iceq, F_il6, T_sub, F_il4, F_il12, T_iast, F_inc9i, F_inc9r, F_inc9m, T_ushr, T_i2l, T_mulL, T_L, T_l2i, T_addL, T_ret, c219, c237, c244, c252, c253, c261, c268, c310, c312, c313, c327, c329, ↓s219, ↓s237, ↓s244, ↓s252, ↓s253, ↓s268, ↓s327, FM F, u0, u1, ↓s2, ↓s3, g3, g4, z1, z2, Bz_t, ln_765, ln_727, ln_733, J_remp, J_divp, show ¬ 1536 ≤ q by omega, show ¬ PP (48 * py + px) ≤ 0 by omega, show 0 < PP (48 * py + px) by omega, ↓reduceIte, TK, lt_run hn, le43, Int.le_refl, Int.lt_irrefl, Option.some.injEq, exists_eq_left', true_and, and_true, if_true, if_false, decide_eq_false_iff_not, decide_eq_true_eq, Nat.reduceAdd, Nat.reduceLeDiff, Nat.reduceLT, Int.reduceAdd, Int.reduceSub, Int.reduceMul, Int.reduceNeg, not_true_eq_false, not_false_eq_true]
            exact kk _ _ _ _ _
        · rw [if_neg (fun q => z1 q.1)] at kk
          rw [k326_4]
          simp +decide (maxSteps := 4000000) (disch := omega) only [k326_0, k326_1, k326_2, k326_3, k326_5, k326_6, k326_7, k326_8, k326_9, k326_10, k326_11, k326_12, k326_13, k326_14, k326_15, k326_16, k326_17, k326_18, k326_19, k326_20, k326_22, k326_24, k326_25, k326_26, k326_r, k326_s, T_I, F_il1, T_mul, F_is3i, F_is3r, F_is3m, F_is4i, F_is4r, F_is4m, F_al0, T_getR, F_il3, X_iald, F_is5i, F_is5r, F_is5m, T_add, F_is6i, F_is6r, F_is6m, F_is7i, F_is7r, F_is7m, F_is8i, F_is8r, F_is8m, F_il7, J_icne, F_il2, F_is9i, F_is9r, F_is9m, F_il9, J_iflt, T_goto, T_ft, F_il8, J_ifeq, T_icge, T_rem, F_is10i, F_is10r, F_is10m, T_div, F_is11i, F_is11r, F_is11m, F_is12i, F_is12r, F_is12m, J_ifne, F_il10, F_is13i, F_is13r, F_is13m, F_il11, F_is14i, F_is14r, F_is14m, F_il13, F_il14, F_is15i, F_is15r, F_is15m, F_il15, J_ifle, F_il5, T_iceq, F_il6, T_sub, F_il4, F_il12, T_iast, F_inc9i, F_inc9r, F_inc9m, T_ushr, T_i2l, T_mulL, T_L, T_l2i, T_addL, T_ret, c219, c237, c244, c252, c253, c261, c268, c310, c312, c313, c327, c329, ↓s219, ↓s237, ↓s244, ↓s252, ↓s253, ↓s268, ↓s327, FM F, u0, u1, ↓s2, ↓s3, z1, Bz_t, Bz_f, ln_765, J_remp, J_divp, show ¬ 1536 ≤ q by omega, ↓reduceIte, TK, lt_run hn, le43, Int.le_refl, Int.lt_irrefl, Option.some.injEq, exists_eq_left', true_and, and_true, if_true, if_false, decide_eq_false_iff_not, decide_eq_true_eq, Nat.reduceAdd, Nat.reduceLeDiff, Nat.reduceLT, Int.reduceAdd, Int.reduceSub, Int.reduceMul, Int.reduceNeg, not_true_eq_false, not_false_eq_true]
          exact kk _ _ _ _ _
    · rw [k326_22]
      simp +decide (maxSteps := 4000000) (disch := omega) only [k326_0, k326_1, k326_2, k326_3, k326_5, k326_6, k326_7, k326_8, k326_9, k326_10, k326_11, k326_12, k326_13, k326_14, k326_15, k326_16, k326_17, k326_18, k326_19, k326_20, k326_21, k326_22, k326_24, k326_25, k326_26, k326_r, k326_s, T_I, F_il1, T_mul, F_is3i, F_is3r, F_is3m, F_is4i, F_is4r, F_is4m, F_al0, T_getR, F_il3, X_iald, F_is5i, F_is5r, F_is5m, T_add, F_is6i, F_is6r, F_is6m, F_is7i, F_is7r, F_is7m, F_is8i, F_is8r, F_is8m, F_il7, J_icne, F_il2, F_is9i, F_is9r, F_is9m, F_il9, J_iflt, T_goto, T_ft, F_il8, J_ifeq, T_icge, T_rem, F_is10i, F_is10r, F_is10m, T_div, F_is11i, F_is11r, F_is11m, F_is12i, F_is12r, F_is12m, J_ifne, F_il10, F_is13i, F_is13r, F_is13m, F_il11, F_is14i, F_is14r, F_is14m, F_il13, F_il14, F_is15i, F_is15r, F_is15m, F_il15, J_ifle, F_il5, T_iceq, F_il6, T_sub, F_il4, F_il12, T_iast, F_inc9i, F_inc9r, F_inc9m, T_ushr, T_i2l, T_mulL, T_L, T_l2i, T_addL, T_ret, c219, c237, c244, c252, c253, c261, c268, c310, c312, c313, c327, c329, ↓s219, ↓s237, ↓s244, ↓s252, ↓s253, ↓s268, ↓s312, ↓s313, ↓s327, ↓reduceIte, TK, lt_run hn, le43, Int.le_refl, Int.lt_irrefl, Option.some.injEq, exists_eq_left', true_and, and_true, if_true, if_false, decide_eq_false_iff_not, decide_eq_true_eq, Nat.reduceAdd, Nat.reduceLeDiff, Nat.reduceLT, Int.reduceAdd, Int.reduceSub, Int.reduceMul, Int.reduceNeg, not_true_eq_false, not_false_eq_true]
      rw [k326_23]
      simp +decide (maxSteps := 4000000) (disch := omega) only [k326_0, k326_1, k326_2, k326_3, k326_5, k326_6, k326_7, k326_8, k326_9, k326_10, k326_11, k326_12, k326_13, k326_14, k326_15, k326_16, k326_17, k326_18, k326_19, k326_20, k326_21, k326_22, k326_24, k326_25, k326_26, k326_r, k326_s, T_I, F_il1, T_mul, F_is3i, F_is3r, F_is3m, F_is4i, F_is4r, F_is4m, F_al0, T_getR, F_il3, X_iald, F_is5i, F_is5r, F_is5m, T_add, F_is6i, F_is6r, F_is6m, F_is7i, F_is7r, F_is7m, F_is8i, F_is8r, F_is8m, F_il7, J_icne, F_il2, F_is9i, F_is9r, F_is9m, F_il9, J_iflt, T_goto, T_ft, F_il8, J_ifeq, T_icge, T_rem, F_is10i, F_is10r, F_is10m, T_div, F_is11i, F_is11r, F_is11m, F_is12i, F_is12r, F_is12m, J_ifne, F_il10, F_is13i, F_is13r, F_is13m, F_il11, F_is14i, F_is14r, F_is14m, F_il13, F_il14, F_is15i, F_is15r, F_is15m, F_il15, J_ifle, F_il5, T_iceq, F_il6, T_sub, F_il4, F_il12, T_iast, F_inc9i, F_inc9r, F_inc9m, T_ushr, T_i2l, T_mulL, T_L, T_l2i, T_addL, T_ret, c219, c237, c244, c252, c253, c261, c268, c310, c312, c313, c327, c329, ↓s219, ↓s237, ↓s244, ↓s252, ↓s253, ↓s268, ↓s312, ↓s313, ↓s327, ↓reduceIte, TK, lt_run hn, le43, Int.le_refl, Int.lt_irrefl, Option.some.injEq, exists_eq_left', true_and, and_true, if_true, if_false, decide_eq_false_iff_not, decide_eq_true_eq, Nat.reduceAdd, Nat.reduceLeDiff, Nat.reduceLT, Int.reduceAdd, Int.reduceSub, Int.reduceMul, Int.reduceNeg, not_true_eq_false, not_false_eq_true]
      exact k h3 (e2.trans (e3.mono fun x k q => Or.inl q)) c3
  by_cases g0 : row (e.N l) (e.R l) f = -1
  · simp +decide (maxSteps := 4000000) (disch := omega) only [k326_0, k326_1, k326_2, k326_3, k326_5, k326_6, k326_7, k326_8, k326_9, k326_10, k326_11, k326_12, k326_13, k326_14, k326_15, k326_16, k326_17, k326_18, k326_19, k326_20, k326_21, k326_22, k326_24, k326_25, k326_26, k326_r, k326_s, T_I, F_il1, T_mul, F_is3i, F_is3r, F_is3m, F_is4i, F_is4r, F_is4m, F_al0, T_getR, F_il3, X_iald, F_is5i, F_is5r, F_is5m, T_add, F_is6i, F_is6r, F_is6m, F_is7i, F_is7r, F_is7m, F_is8i, F_is8r, F_is8m, F_il7, J_icne, F_il2, F_is9i, F_is9r, F_is9m, F_il9, J_iflt, T_goto, T_ft, F_il8, J_ifeq, T_icge, T_rem, F_is10i, F_is10r, F_is10m, T_div, F_is11i, F_is11r, F_is11m, F_is12i, F_is12r, F_is12m, J_ifne, F_il10, F_is13i, F_is13r, F_is13m, F_il11, F_is14i, F_is14r, F_is14m, F_il13, F_il14, F_is15i, F_is15r, F_is15m, F_il15, J_ifle, F_il5, T_iceq, F_il6, T_sub, F_il4, F_il12, T_iast, F_inc9i, F_inc9r, F_inc9m, T_ushr, T_i2l, T_mulL, T_L, T_l2i, T_addL, T_ret, c219, c237, c244, c252, c253, c261, c268, c310, c312, c313, c327, c329, ↓s219, ↓s237, ↓s244, ↓s252, ↓s253, ↓s312, ↓s313, ↓s327, FM F, u0, ↓s1, g0, ln_765, ↓reduceIte, TK, lt_run hn, le43, Int.le_refl, Int.lt_irrefl, Option.some.injEq, exists_eq_left', true_and, and_true, if_true, if_false, decide_eq_false_iff_not, decide_eq_true_eq, Nat.reduceAdd, Nat.reduceLeDiff, Nat.reduceLT, Int.reduceAdd, Int.reduceSub, Int.reduceMul, Int.reduceNeg, not_true_eq_false, not_false_eq_true]
    exact fin false h1 e1' b1 (fun _ => g0) (fun q => by cases q) _ _ _ _ _ _
  · have hd : 0 ≤ row (e.N l) (e.R l) f ∧ row (e.N l) (e.R l) f < 16 := by omega
    simp +decide (maxSteps := 4000000) (disch := omega) only [k326_0, k326_1, k326_2, k326_3, k326_5, k326_6, k326_7, k326_8, k326_9, k326_10, k326_11, k326_12, k326_13, k326_14, k326_15, k326_16, k326_17, k326_18, k326_19, k326_20, k326_21, k326_22, k326_24, k326_25, k326_26, k326_r, k326_s, T_I, F_il1, T_mul, F_is3i, F_is3r, F_is3m, F_is4i, F_is4r, F_is4m, F_al0, T_getR, F_il3, X_iald, F_is5i, F_is5r, F_is5m, T_add, F_is6i, F_is6r, F_is6m, F_is7i, F_is7r, F_is7m, F_is8i, F_is8r, F_is8m, F_il7, J_icne, F_il2, F_is9i, F_is9r, F_is9m, F_il9, J_iflt, T_goto, T_ft, F_il8, J_ifeq, T_icge, T_rem, F_is10i, F_is10r, F_is10m, T_div, F_is11i, F_is11r, F_is11m, F_is12i, F_is12r, F_is12m, J_ifne, F_il10, F_is13i, F_is13r, F_is13m, F_il11, F_is14i, F_is14r, F_is14m, F_il13, F_il14, F_is15i, F_is15r, F_is15m, F_il15, J_ifle, F_il5, T_iceq, F_il6, T_sub, F_il4, F_il12, T_iast, F_inc9i, F_inc9r, F_inc9m, T_ushr, T_i2l, T_mulL, T_L, T_l2i, T_addL, T_ret, c219, c237, c244, c252, c253, c261, c268, c310, c312, c313, c327, c329, ↓s219, ↓s237, ↓s244, ↓s252, ↓s253, ↓s312, ↓s313, ↓s327, FM F, u0, ↓s1, ln_765, show ¬ row (e.N l) (e.R l) f < 0 by omega, hd.1, ↓reduceIte, TK, lt_run hn, le43, Int.le_refl, Int.lt_irrefl, Option.some.injEq, exists_eq_left', true_and, and_true, if_true, if_false, decide_eq_false_iff_not, decide_eq_true_eq, Nat.reduceAdd, Nat.reduceLeDiff, Nat.reduceLT, Int.reduceAdd, Int.reduceSub, Int.reduceMul, Int.reduceNeg, not_true_eq_false, not_false_eq_true]
    obtain ⟨v1, v2, v3⟩ := (W1.2.2.2.2.2.1.2.2 l l0.1 (by omega)).2
    have Wo : Wof h1 l f (ofL e l f) := by
      refine Or.inr ⟨⟨l0.1, by omega⟩, ⟨hf.1, by omega⟩, e.S l, e.V l, e.M l, ⟨v1, v2, v3⟩, w1 l, w2 l, ?_⟩
      by_cases g : e.V l = 0
      · left
        refine ⟨g, fun i j a => ?_⟩
        unfold ofL
        rw [if_pos g]
        rfl
      · right
        refine ⟨by have := w1 l; omega, fun i j a => ?_⟩
        unfold ofL
        rw [if_neg g]
    refine w261 F hn hd (c3.1 _) Wo ((W1.1.2 _ hd.1 hd.2).2.2) (c4.1 _) ((W1.2.1.2 _ hd.1 hd.2).2) (fun h2 q2 e2 => ?_)
    simp +decide (maxSteps := 4000000) (disch := omega) only [k326_0, k326_1, k326_2, k326_3, k326_5, k326_6, k326_7, k326_8, k326_9, k326_10, k326_11, k326_12, k326_13, k326_14, k326_15, k326_16, k326_17, k326_18, k326_19, k326_20, k326_21, k326_22, k326_24, k326_25, k326_26, k326_r, k326_s, T_I, F_il1, T_mul, F_is3i, F_is3r, F_is3m, F_is4i, F_is4r, F_is4m, F_al0, T_getR, F_il3, X_iald, F_is5i, F_is5r, F_is5m, T_add, F_is6i, F_is6r, F_is6m, F_is7i, F_is7r, F_is7m, F_is8i, F_is8r, F_is8m, F_il7, J_icne, F_il2, F_is9i, F_is9r, F_is9m, F_il9, J_iflt, T_goto, T_ft, F_il8, J_ifeq, T_icge, T_rem, F_is10i, F_is10r, F_is10m, T_div, F_is11i, F_is11r, F_is11m, F_is12i, F_is12r, F_is12m, J_ifne, F_il10, F_is13i, F_is13r, F_is13m, F_il11, F_is14i, F_is14r, F_is14m, F_il13, F_il14, F_is15i, F_is15r, F_is15m, F_il15, J_ifle, F_il5, T_iceq, F_il6, T_sub, F_il4, F_il12, T_iast, F_inc9i, F_inc9r, F_inc9m, T_ushr, T_i2l, T_mulL, T_L, T_l2i, T_addL, T_ret, c219, c237, c244, c252, c253, c261, c268, c310, c312, c313, c327, c329, ↓s219, ↓s237, ↓s244, ↓s252, ↓s253, ↓s268, ↓s312, ↓s313, ↓s327, ↓reduceIte, TK, lt_run hn, le43, Int.le_refl, Int.lt_irrefl, Option.some.injEq, exists_eq_left', true_and, and_true, if_true, if_false, decide_eq_false_iff_not, decide_eq_true_eq, Nat.reduceAdd, Nat.reduceLeDiff, Nat.reduceLT, Int.reduceAdd, Int.reduceSub, Int.reduceMul, Int.reduceNeg, not_true_eq_false, not_false_eq_true]
    have nx : ∀ k, k = 79 ∨ k = 80 ∨ k = 81 → ¬ Spm 704 k := fun k w z => by
      unfold Spm Sdr Scw Scf Swl at z
      omega
    exact fin true h2 (e1'.trans (e2.mono fun x k q => Or.inr (Or.inl q))) ⟨(e2 _ _ (nx _ (by decide))).trans b1.1, (e2 _ _ (nx _ (by decide))).trans b1.2.1, (e2 _ _ (nx _ (by decide))).trans b1.2.2⟩ (fun q => by cases q) (fun _ => ⟨g0, q2⟩) _ _ _ _ _ _
end WL
