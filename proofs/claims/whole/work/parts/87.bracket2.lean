/-! sheet: the reference's brackets -/
section BM
variable {E : AEn} {h h' : AHi} {hr : AHr} {n : Nat} {Q : ARs → Prop} {l t p f m k w : Int} {b D : Int → Int} {r : Qd}
theorem TpM.dm (T : TpM h t b) (e : Ef Sdm h h') : TpM h' t b := T.ef e (fun q => by unfold Sdm at q; omega) (fun k q => by unfold Sdm at q; omega)
theorem z266 (F : FH hr) (hn : 775 ≤ n) {v1 v2 : Int32} : ∀ (q : Nat) (r : Qd) (w : Int) (h : AHi), 0 < q → 0 ≤ w → w ≤ 1700 → (r.1 = -1 ∨ 0 ≤ r.1 ∧ r.1 ≤ 1700) → (∃ m', (0 ≤ m' ∧ m' ≤ 120) ∧ h 704 42 = J m') → (r.1 = -1 → w = r.2.1 ∧ (w ≤ t ∧ t - w < q) ∧ (0 ≤ r.2.2.1 ∧ r.2.2.1 ≤ 120) ∧ Rg r.2.2.2 ∧ Rz h 704 42 736 r.2.2.1 r.2.2.2) → TpM h t b →
    (∀ h' p' f', 0 ≤ p' → p' ≤ 1700 → Ef Sdm h h' → (∃ m', (0 ≤ m' ∧ m' ≤ 120) ∧ h' 704 42 = J m') → (itr b t q r).1 ≠ -1 → (f' = (itr b t q r).1 ∨ f' = -1 ∧ p' = (itr b t q r).1 ∧ bt b t p' ≠ 41) → Tm E 266 (a_bl 266 2) [.ref 704, .int v1, .int v2, a_mk, a_mk, a_mk] [] (MS h' p' f') hr n Q) →
    (∀ h' p', 0 ≤ p' → p' ≤ t → Ef Sdm h h' → (itr b t q r).1 = -1 → (itr b t q r).2.1 = p' + 1 → bt b t p' = 41 → Rz h' 704 42 736 (itr b t q r).2.2.1 (itr b t q r).2.2.2 → Tm E 266 (a_bl 266 2) [.ref 704, .int v1, .int v2, a_mk, a_mk, a_mk] [] (MS h' p' (-1)) hr n Q) →
    Tm E 266 (a_bl 266 1) [.ref 704, .int v1, .int v2, a_mk, a_mk, a_mk] [] (MS h w r.1) hr n Q := by
  intro q
  induction q with
  | zero => intro r w h q0; omega
  | succ q ih =>
    intro r w h q0 w0 w1 hf mm gd T kf kg
    have t1 := T.1
    unfold itr at kf kg
    by_cases g : r.1 = -1
    · obtain ⟨ep, ⟨u1, u2⟩, u3, u5, R1⟩ := gd g
      rw [if_pos g, ← ep] at kf kg
      rw [g]
      have hbt := bt_r (t := t) T.2.1 w
      by_cases g1 : bt b t w = 32
      · have hin := bt_in (b := b) (t := t) (i := w) (by omega)
        rw [if_pos g1] at kf kg
        rw [k266_1]
        simp +decide (maxSteps := 4000000) (disch := omega) only [k266_0, k266_3, k266_5, k266_r, k266_s, F_al0, T_getI, F_is1i, F_is1r, F_is1m, F_is2i, F_is2r, F_is2m, T_I, T_ft, J_ifeq, T_dupI, T_dupR, T_add, T_putI, T_putZ, T_goto, F_is3i, F_is3r, F_is3m, F_il2, T_sub, F_is4i, F_is4r, F_is4m, F_il3, F_il4, T_mul, T_icle, F_il1, F_is5i, F_is5r, F_is5m, F_il5, T_icge, T_getR, T_rem, X_iald, T_iast, F_inc5i, F_inc5r, F_inc5m, T_ret, c220, c221, c224, c225, c265, c267, ↓s220, ↓s221, ↓s224, ↓s225, ↓s265 F hn T, MX, g1, ↓reduceIte, TK, lt_run hn, le43, Int.le_refl, Int.lt_irrefl, Option.some.injEq, exists_eq_left', true_and, and_true, if_true, if_false, decide_eq_false_iff_not, decide_eq_true_eq, Nat.reduceAdd, Nat.reduceLeDiff, Nat.reduceLT, Int.reduceAdd, Int.reduceSub, Int.reduceMul, Int.reduceNeg, not_true_eq_false, not_false_eq_true]
        refine w267 (p := w + 1) F hn T R1 u3 (by omega) (fun h1 w2 a0 a1 e1 m1 gd1 => ?_)
        have K := itq_b (m := r.2.2.1) (p := w + 1) T.1 T.2.1 (by omega) u5
        have fin := ih (itq b t r.2.2.1 (w + 1) r.2.2.2) w2 h1 (by omega) a0 a1 K.1 m1 (fun z => by
          obtain ⟨b1, b2⟩ := gd1 z
          obtain ⟨c1, c2, c3⟩ := K.2 z
          exact ⟨b1, by omega, by omega, c3, b2⟩) (T.dm e1) (fun h' p' f' a1 a2 a3 => kf h' p' f' a1 a2 (e1.trans a3)) (fun h' p' a1 a2 a3 => kg h' p' a1 a2 (e1.trans a3))
        simp +decide (maxSteps := 4000000) (disch := omega) only [k266_0, k266_3, k266_5, k266_r, k266_s, F_al0, T_getI, F_is1i, F_is1r, F_is1m, F_is2i, F_is2r, F_is2m, T_I, T_ft, J_ifeq, T_dupI, T_dupR, T_add, T_putI, T_putZ, T_goto, F_is3i, F_is3r, F_is3m, F_il2, T_sub, F_is4i, F_is4r, F_is4m, F_il3, F_il4, T_mul, T_icle, F_il1, F_is5i, F_is5r, F_is5m, F_il5, T_icge, T_getR, T_rem, X_iald, T_iast, F_inc5i, F_inc5r, F_inc5m, T_ret, c220, c221, c224, c225, c265, c267, ↓s220, ↓s221, ↓s224, ↓s225, ↓s265, ↓reduceIte, TK, lt_run hn, le43, Int.le_refl, Int.lt_irrefl, Option.some.injEq, exists_eq_left', true_and, and_true, if_true, if_false, decide_eq_false_iff_not, decide_eq_true_eq, Nat.reduceAdd, Nat.reduceLeDiff, Nat.reduceLT, Int.reduceAdd, Int.reduceSub, Int.reduceMul, Int.reduceNeg, not_true_eq_false, not_false_eq_true]
        exact fin
      · rw [if_neg g1] at kf kg
        by_cases g2 : bt b t w = 41
        · rw [if_pos g2] at kg
          have fin := kg h w w0 u1 Ef.refl rfl rfl g2 R1
          rw [k266_1]
          simp +decide (maxSteps := 4000000) (disch := omega) only [k266_0, k266_3, k266_5, k266_r, k266_s, F_al0, T_getI, F_is1i, F_is1r, F_is1m, F_is2i, F_is2r, F_is2m, T_I, T_ft, J_ifeq, T_dupI, T_dupR, T_add, T_putI, T_putZ, T_goto, F_is3i, F_is3r, F_is3m, F_il2, T_sub, F_is4i, F_is4r, F_is4m, F_il3, F_il4, T_mul, T_icle, F_il1, F_is5i, F_is5r, F_is5m, F_il5, T_icge, T_getR, T_rem, X_iald, T_iast, F_inc5i, F_inc5r, F_inc5m, T_ret, c220, c221, c224, c225, c265, c267, ↓s220, ↓s221, ↓s224, ↓s225, ↓s265 F hn T, g1, ↓reduceIte, TK, lt_run hn, le43, Int.le_refl, Int.lt_irrefl, Option.some.injEq, exists_eq_left', true_and, and_true, if_true, if_false, decide_eq_false_iff_not, decide_eq_true_eq, Nat.reduceAdd, Nat.reduceLeDiff, Nat.reduceLT, Int.reduceAdd, Int.reduceSub, Int.reduceMul, Int.reduceNeg, not_true_eq_false, not_false_eq_true]
          exact fin
        · rw [if_neg g2] at kf
          have fin := kf h w (-1) w0 w1 Ef.refl mm (by dsimp only; omega) (Or.inr ⟨rfl, rfl, g2⟩)
          rw [k266_1]
          simp +decide (maxSteps := 4000000) (disch := omega) only [k266_0, k266_3, k266_5, k266_r, k266_s, F_al0, T_getI, F_is1i, F_is1r, F_is1m, F_is2i, F_is2r, F_is2m, T_I, T_ft, J_ifeq, T_dupI, T_dupR, T_add, T_putI, T_putZ, T_goto, F_is3i, F_is3r, F_is3m, F_il2, T_sub, F_is4i, F_is4r, F_is4m, F_il3, F_il4, T_mul, T_icle, F_il1, F_is5i, F_is5r, F_is5m, F_il5, T_icge, T_getR, T_rem, X_iald, T_iast, F_inc5i, F_inc5r, F_inc5m, T_ret, c220, c221, c224, c225, c265, c267, ↓s220, ↓s221, ↓s224, ↓s225, ↓s265 F hn T, g1, ↓reduceIte, TK, lt_run hn, le43, Int.le_refl, Int.lt_irrefl, Option.some.injEq, exists_eq_left', true_and, and_true, if_true, if_false, decide_eq_false_iff_not, decide_eq_true_eq, Nat.reduceAdd, Nat.reduceLeDiff, Nat.reduceLT, Int.reduceAdd, Int.reduceSub, Int.reduceMul, Int.reduceNeg, not_true_eq_false, not_false_eq_true]
          exact fin
    · rw [if_neg g] at kf
      have fin := kf h w r.1 w0 w1 Ef.refl mm g (Or.inl rfl)
      rw [k266_1]
      simp +decide (maxSteps := 4000000) (disch := omega) only [k266_0, k266_3, k266_5, k266_r, k266_s, F_al0, T_getI, F_is1i, F_is1r, F_is1m, F_is2i, F_is2r, F_is2m, T_I, T_ft, J_ifeq, T_dupI, T_dupR, T_add, T_putI, T_putZ, T_goto, F_is3i, F_is3r, F_is3m, F_il2, T_sub, F_is4i, F_is4r, F_is4m, F_il3, F_il4, T_mul, T_icle, F_il1, F_is5i, F_is5r, F_is5m, F_il5, T_icge, T_getR, T_rem, X_iald, T_iast, F_inc5i, F_inc5r, F_inc5m, T_ret, c220, c221, c224, c225, c265, c267, ↓s220, ↓s221, ↓s224, ↓s225, ↓s265 F hn T, g, false_and, ↓reduceIte, TK, lt_run hn, le43, Int.le_refl, Int.lt_irrefl, Option.some.injEq, exists_eq_left', true_and, and_true, if_true, if_false, decide_eq_false_iff_not, decide_eq_true_eq, Nat.reduceAdd, Nat.reduceLeDiff, Nat.reduceLT, Int.reduceAdd, Int.reduceSub, Int.reduceMul, Int.reduceNeg, not_true_eq_false, not_false_eq_true]
      exact fin
theorem e266l (F : FH hr) (hn : 775 ≤ n) (hf : 0 ≤ f ∧ f ≤ 1700) {x0 x1 x y z : Int32} (kk : Q (none, MS h w f, hr, n)) : Tm E 266 (a_bl 266 4) [.ref 704, .int x0, .int x1, .int x, .int y, .int z] [] (MS h w f) hr n Q := by
  have f1 : f ≠ -1 := by omega
  rw [k266_4]
  simp +decide (maxSteps := 4000000) (disch := omega) only [k266_0, k266_2, k266_3, k266_5, k266_r, k266_s, F_al0, T_getI, F_is1i, F_is1r, F_is1m, F_is2i, F_is2r, F_is2m, T_I, T_ft, J_ifeq, T_dupI, T_dupR, T_add, T_putI, T_putZ, T_goto, F_is3i, F_is3r, F_is3m, F_il2, T_sub, F_is4i, F_is4r, F_is4m, F_il3, F_il4, T_mul, T_icle, F_il1, F_is5i, F_is5r, F_is5m, F_il5, T_icge, T_getR, T_rem, X_iald, T_iast, F_inc5i, F_inc5r, F_inc5m, T_ret, c220, c221, c224, c225, c265, c267, ↓s220, ↓s224, ↓s225, ↓s265, ↓s221 F hn, f1, ↓reduceIte, TK, lt_run hn, le43, Int.le_refl, Int.lt_irrefl, Option.some.injEq, exists_eq_left', true_and, and_true, if_true, if_false, decide_eq_false_iff_not, decide_eq_true_eq, Nat.reduceAdd, Nat.reduceLeDiff, Nat.reduceLT, Int.reduceAdd, Int.reduceSub, Int.reduceMul, Int.reduceNeg, not_true_eq_false, not_false_eq_true]
  first | exact kk | (split <;> exact kk)
theorem numM_F {lo hi : Int} (e : f ≠ -1) : numM b t false lo hi p f = (lo, p, f) := by
  unfold numM
  rw [if_neg e]
theorem e266f (F : FH hr) (hn : 775 ≤ n) (T : TpM h t b) {m1 u : Int} (c : h 704 42 = J m1) (hm : 0 ≤ m1 ∧ m1 ≤ 120) (hm0 : 0 ≤ m ∧ m ≤ 120) (hw : 0 ≤ w ∧ w ≤ 1700) (hf : 0 ≤ f ∧ f ≤ 1700) (hu : u = f ∨ u = -1 ∧ w = f ∧ bt b t w ≠ 41) (kk : Q (none, MS h w f, hr, n)) : Tm E 266 (a_bl 266 2) [.ref 704, .int (J p), .int (J m), a_mk, a_mk, a_mk] [] (MS h w u) hr n Q := by
  have f1 : f ≠ -1 := by omega
  have z1 : ∀ p f, MS h p f 704 42 = J m1 := fun p f => by rw [MS_j (by decide)]; exact c
  have nf : numM b t false 1 20 w f = (1, w, f) := numM_F f1
  rw [k266_2]
  rcases hu with rfl | ⟨rfl, rfl, hu⟩
  · simp +decide (maxSteps := 4000000) (disch := omega) only [k266_0, k266_2, k266_3, k266_5, k266_r, k266_s, F_al0, T_getI, F_is1i, F_is1r, F_is1m, F_is2i, F_is2r, F_is2m, T_I, T_ft, J_ifeq, T_dupI, T_dupR, T_add, T_putI, T_putZ, T_goto, F_is3i, F_is3r, F_is3m, F_il2, T_sub, F_is4i, F_is4r, F_is4m, F_il3, F_il4, T_mul, T_icle, F_il1, F_is5i, F_is5r, F_is5m, F_il5, T_icge, T_getR, T_rem, X_iald, T_iast, F_inc5i, F_inc5r, F_inc5m, T_ret, c220, c221, c224, c225, c265, c267, ↓s224, ↓s265, z1, ↓s225 F hn T, x220 F hn T, ↓s221 F hn, f1, rf_n f1, nf, false_and, ↓reduceIte, TK, lt_run hn, le43, Int.le_refl, Int.lt_irrefl, Option.some.injEq, exists_eq_left', true_and, and_true, if_true, if_false, decide_eq_false_iff_not, decide_eq_true_eq, Nat.reduceAdd, Nat.reduceLeDiff, Nat.reduceLT, Int.reduceAdd, Int.reduceSub, Int.reduceMul, Int.reduceNeg, not_true_eq_false, not_false_eq_true]
    exact e266l F hn hf kk
  · simp +decide (maxSteps := 4000000) (disch := omega) only [k266_0, k266_2, k266_3, k266_5, k266_r, k266_s, F_al0, T_getI, F_is1i, F_is1r, F_is1m, F_is2i, F_is2r, F_is2m, T_I, T_ft, J_ifeq, T_dupI, T_dupR, T_add, T_putI, T_putZ, T_goto, F_is3i, F_is3r, F_is3m, F_il2, T_sub, F_is4i, F_is4r, F_is4m, F_il3, F_il4, T_mul, T_icle, F_il1, F_is5i, F_is5r, F_is5m, F_il5, T_icge, T_getR, T_rem, X_iald, T_iast, F_inc5i, F_inc5r, F_inc5m, T_ret, c220, c221, c224, c225, c265, c267, ↓s224, ↓s265, z1, ↓s225 F hn T, x220 F hn T, ↓s221 F hn, f1, hu, rf_n f1, rf_y, nf, false_and, ↓reduceIte, TK, lt_run hn, le43, Int.le_refl, Int.lt_irrefl, Option.some.injEq, exists_eq_left', true_and, and_true, if_true, if_false, decide_eq_false_iff_not, decide_eq_true_eq, Nat.reduceAdd, Nat.reduceLeDiff, Nat.reduceLT, Int.reduceAdd, Int.reduceSub, Int.reduceMul, Int.reduceNeg, not_true_eq_false, not_false_eq_true]
    exact e266l F hn hf kk
theorem e266 (F : FH hr) (hn : 775 ≤ n) (T : TpM h t b) (R : Rz h 704 42 736 r.2.2.1 r.2.2.2) (hm : 0 ≤ m ∧ m < r.2.2.1 ∧ r.2.2.1 ≤ 120) (hp : 0 ≤ p ∧ p ≤ 1650) (hw : 0 ≤ w ∧ w ≤ t) (g41 : bt b t w = 41) (er : r.2.1 = w + 1) (kk : Im hr n Q h (br2 b t m p r)) : Tm E 266 (a_bl 266 2) [.ref 704, .int (J p), .int (J m), a_mk, a_mk, a_mk] [] (MS h w (-1)) hr n Q := by
  have t1 := T.1
  have z1 : ∀ p f, MS h p f 704 42 = J r.2.2.1 := fun p f => by rw [MS_j (by decide)]; exact R.1
  have hin := bt_in (b := b) (t := t) (i := w) (by omega)
  have mm : ∃ m', (0 ≤ m' ∧ m' ≤ 120) ∧ h 704 42 = J m' := ⟨_, by omega, R.1⟩
  unfold br2 at kk
  rw [er] at kk
  rw [k266_2]
  by_cases g : bt b t (w + 1) = 42
  case neg =>
    rw [if_neg g] at kk
    have f1 : w + 1 ≠ -1 := by omega
    have nf : numM b t false 1 20 (w + 1) (w + 1) = (1, w + 1, w + 1) := numM_F f1
    have k1 := kk h (w + 1) (by omega) (by omega) Ef.refl mm (fun z => absurd z f1)
    simp +decide (maxSteps := 4000000) (disch := omega) only [k266_0, k266_2, k266_3, k266_5, k266_r, k266_s, F_al0, T_getI, F_is1i, F_is1r, F_is1m, F_is2i, F_is2r, F_is2m, T_I, T_ft, J_ifeq, T_dupI, T_dupR, T_add, T_putI, T_putZ, T_goto, F_is3i, F_is3r, F_is3m, F_il2, T_sub, F_is4i, F_is4r, F_is4m, F_il3, F_il4, T_mul, T_icle, F_il1, F_is5i, F_is5r, F_is5m, F_il5, T_icge, T_getR, T_rem, X_iald, T_iast, F_inc5i, F_inc5r, F_inc5m, T_ret, c220, c221, c224, c225, c265, c267, ↓s224, ↓s265, z1, ↓s225 F hn T, x220 F hn T, ↓s221 F hn, f1, g, g41, rf_n f1, rf_y, nf, false_and, ↓reduceIte, TK, lt_run hn, le43, Int.le_refl, Int.lt_irrefl, Option.some.injEq, exists_eq_left', true_and, and_true, if_true, if_false, decide_eq_false_iff_not, decide_eq_true_eq, Nat.reduceAdd, Nat.reduceLeDiff, Nat.reduceLT, Int.reduceAdd, Int.reduceSub, Int.reduceMul, Int.reduceNeg, not_true_eq_false, not_false_eq_true]
    exact e266l F hn (by omega) k1
  rw [if_pos g] at kk
  have nb := num_b (t := t) (f := -1) T.2.1 T.1 1 20 (p := w + 1 + 1) (by omega) (Or.inl rfl)
  have nbM := numM_b (t := t) (f := -1) T.2.1 T.1 false (lo := 1) (hi := 20) (by decide) (p := w + 1 + 1) (by omega) (Or.inl rfl)
  have nr := num_rel (b := b) (t := t) T.2.1 (lo := 1) (hi := 20) (p := w + 1 + 1) (by omega)
  by_cases g2 : (numC b t 1 20 (w + 1 + 1) (-1)).2.2 = -1
  case neg =>
    rw [if_neg g2, ← nr.1] at kk
    rw [← nr.1] at g2
    have k1 := kk h (numM b t false 1 20 (w + 1 + 1) (-1)).2.1 (by omega) (by omega) Ef.refl mm (fun z => absurd z g2)
    have f2 := nbM.2.1.resolve_left g2
    simp +decide (maxSteps := 4000000) (disch := omega) only [k266_0, k266_2, k266_3, k266_5, k266_r, k266_s, F_al0, T_getI, F_is1i, F_is1r, F_is1m, F_is2i, F_is2r, F_is2m, T_I, T_ft, J_ifeq, T_dupI, T_dupR, T_add, T_putI, T_putZ, T_goto, F_is3i, F_is3r, F_is3m, F_il2, T_sub, F_is4i, F_is4r, F_is4m, F_il3, F_il4, T_mul, T_icle, F_il1, F_is5i, F_is5r, F_is5m, F_il5, T_icge, T_getR, T_rem, X_iald, T_iast, F_inc5i, F_inc5r, F_inc5m, T_ret, c220, c221, c224, c225, c265, c267, ↓s224, ↓s265, z1, ↓s225 F hn T, x220 F hn T, ↓s221 F hn, g, g41, g2, ↓reduceIte, TK, lt_run hn, le43, Int.le_refl, Int.lt_irrefl, Option.some.injEq, exists_eq_left', true_and, and_true, if_true, if_false, decide_eq_false_iff_not, decide_eq_true_eq, Nat.reduceAdd, Nat.reduceLeDiff, Nat.reduceLT, Int.reduceAdd, Int.reduceSub, Int.reduceMul, Int.reduceNeg, not_true_eq_false, not_false_eq_true]
    exact e266l F hn f2 k1
  rw [if_pos g2] at kk
  obtain ⟨q0, q1, q2, q3⟩ := nr.2 g2
  rw [← q0] at g2 kk q1 q2 q3
  obtain ⟨k, hk⟩ : ∃ k, (numM b t false 1 20 (w + 1 + 1) (-1)).1 = k := ⟨_, rfl⟩
  obtain ⟨w2, hw2⟩ : ∃ w2, (numM b t false 1 20 (w + 1 + 1) (-1)).2.1 = w2 := ⟨_, rfl⟩
  rw [hk] at q1 kk
  rw [hw2] at q2 q3 kk
  have e1 : (r.2.2.1 - m) * (k - 1) = (r.2.2.1 - m) * k - (r.2.2.1 - m) := by rw [Int.mul_sub, Int.mul_one]
  have e2 := Int.mul_nonneg (show 0 ≤ r.2.2.1 - m by omega) (show 0 ≤ k - 1 by omega)
  have e3 := mulb (a := r.2.2.1 - m) (b := k) (A := 120) (B := 20) (by omega) (by omega)
  have e4 : k * (r.2.2.1 - m) = (r.2.2.1 - m) * k := Int.mul_comm _ _
  unfold br3 at kk
  by_cases g3 : m + (r.2.2.1 - m) * k ≤ 120
  case neg =>
    rw [if_neg g3] at kk
    have f1 : p ≠ -1 := by omega
    have k1 := kk h w2 (by omega) (by omega) Ef.refl mm (fun z => absurd z f1)
    simp +decide (maxSteps := 4000000) (disch := omega) only [k266_0, k266_2, k266_3, k266_5, k266_r, k266_s, F_al0, T_getI, F_is1i, F_is1r, F_is1m, F_is2i, F_is2r, F_is2m, T_I, T_ft, J_ifeq, T_dupI, T_dupR, T_add, T_putI, T_putZ, T_goto, F_is3i, F_is3r, F_is3m, F_il2, T_sub, F_is4i, F_is4r, F_is4m, F_il3, F_il4, T_mul, T_icle, F_il1, F_is5i, F_is5r, F_is5m, F_il5, T_icge, T_getR, T_rem, X_iald, T_iast, F_inc5i, F_inc5r, F_inc5m, T_ret, c220, c221, c224, c225, c265, c267, ↓s265, z1, ↓s225 F hn T, x220 F hn T, ↓s221 F hn, ↓s224 F hn, g, g41, g2, hk, hw2, e4, g3, rf_y, ↓reduceIte, TK, lt_run hn, le43, Int.le_refl, Int.lt_irrefl, Option.some.injEq, exists_eq_left', true_and, and_true, if_true, if_false, decide_eq_false_iff_not, decide_eq_true_eq, Nat.reduceAdd, Nat.reduceLeDiff, Nat.reduceLT, Int.reduceAdd, Int.reduceSub, Int.reduceMul, Int.reduceNeg, not_true_eq_false, not_false_eq_true]
    exact e266l F hn (by omega) k1
  rw [if_pos g3] at kk
  have nz : J (r.2.2.1 - m) ≠ 0 := J_n0 (by omega)
  simp +decide (maxSteps := 4000000) (disch := omega) only [k266_0, k266_2, k266_3, k266_5, k266_r, k266_s, F_al0, T_getI, F_is1i, F_is1r, F_is1m, F_is2i, F_is2r, F_is2m, T_I, T_ft, J_ifeq, T_dupI, T_dupR, T_add, T_putI, T_putZ, T_goto, F_is3i, F_is3r, F_is3m, F_il2, T_sub, F_is4i, F_is4r, F_is4m, F_il3, F_il4, T_mul, T_icle, F_il1, F_is5i, F_is5r, F_is5m, F_il5, T_icge, T_getR, T_rem, X_iald, T_iast, F_inc5i, F_inc5r, F_inc5m, T_ret, c220, c221, c224, c225, c265, c267, ↓s265, z1, ↓s225 F hn T, x220 F hn T, ↓s221 F hn, ↓s224 F hn, g, g41, g2, hk, hw2, e4, g3, rf_y, ↓reduceIte, TK, lt_run hn, le43, Int.le_refl, Int.lt_irrefl, Option.some.injEq, exists_eq_left', true_and, and_true, if_true, if_false, decide_eq_false_iff_not, decide_eq_true_eq, Nat.reduceAdd, Nat.reduceLeDiff, Nat.reduceLT, Int.reduceAdd, Int.reduceSub, Int.reduceMul, Int.reduceNeg, not_true_eq_false, not_false_eq_true]
  refine T_for (σ := Unit) (fun i _ => [.ref 704, .int (J p), .int (J m), .int (J k), .int (J (r.2.2.1 - m)), .int (J i)]) (fun i _ h' => ∃ h2, h' = MS h2 w2 (-1) ∧ Ef Sdm h h2 ∧ Rz h2 704 42 736 (m + i) (rpD r m)) (r.2.2.1 - m) ((r.2.2.1 - m) * k) ?_ ?_ (r.2.2.1 - m) () _ (by omega) (by omega) ⟨h, rfl, Ef.refl, by rw [show m + (r.2.2.1 - m) = r.2.2.1 by omega]; exact R.1, fun j j0 j1 => by rw [R.2 j j0 (by omega)]; unfold rpD; rw [if_pos (by omega)]⟩
  · rintro i _ _ i0 i1 ⟨h2, rfl, a2, d2, d3⟩ ih
    have rs := rpD_s (r := r) (m := m) (j := m + i) (by omega) (by omega)
    rw [show m + i - m = i by omega] at rs
    have d0 := Int.emod_nonneg i (show r.2.2.1 - m ≠ 0 by omega)
    have d1 := Int.emod_lt_of_pos i (show 0 < r.2.2.1 - m by omega)
    have z2 : MS h2 w2 (-1) 704 42 = J (m + i) := by rw [MS_j (by decide)]; exact d2
    have z4 : gA (MS h2 w2 (-1)) 736 (m + i % (r.2.2.1 - m)) = J (rpD r m (m + i)) := by rw [MS_g (by decide), d3 _ (by omega) (by omega), rs.2]
    have z3 : sA (MS h2 w2 (-1)) 736 (m + i) (J (rpD r m (m + i))) 704 42 = J (m + i) := by rw [sA_o (by decide)]; exact z2
    rw [k266_4]
    simp +decide (maxSteps := 4000000) (disch := omega) only [k266_0, k266_2, k266_3, k266_5, k266_r, k266_s, F_al0, T_getI, F_is1i, F_is1r, F_is1m, F_is2i, F_is2r, F_is2m, T_I, T_ft, J_ifeq, T_dupI, T_dupR, T_add, T_putI, T_putZ, T_goto, F_is3i, F_is3r, F_is3m, F_il2, T_sub, F_is4i, F_is4r, F_is4m, F_il3, F_il4, T_mul, T_icle, F_il1, F_is5i, F_is5r, F_is5m, F_il5, T_icge, T_getR, T_rem, X_iald, T_iast, F_inc5i, F_inc5r, F_inc5m, T_ret, c220, c221, c224, c225, c265, c267, ↓s220, ↓s224, ↓s225, ↓s265, FM F, ln_736, z2, z3, z4, ↓s221 F hn, nz, ne_eq, J_remp, e4, show ¬ (r.2.2.1 - m) * k ≤ i by omega, ↓reduceIte, TK, lt_run hn, le43, Int.le_refl, Int.lt_irrefl, Option.some.injEq, exists_eq_left', true_and, and_true, if_true, if_false, decide_eq_false_iff_not, decide_eq_true_eq, Nat.reduceAdd, Nat.reduceLeDiff, Nat.reduceLT, Int.reduceAdd, Int.reduceSub, Int.reduceMul, Int.reduceNeg, not_true_eq_false, not_false_eq_true]
    rw [MS_d (by decide), MS_f (by decide)]
    refine ih () _ ⟨_, rfl, (a2.sA (Or.inr rfl)).hI (Or.inl ⟨rfl, rfl⟩), ?_, fun j j0 j1 => ?_⟩
    · rw [hI_s, Int.add_assoc]
    · rw [gA_o (by decide)]
      by_cases e : j = m + i
      · rw [e, gs_s]
      · rw [gs_k (by omega) j0 e]
        exact d3 j j0 (by omega)
  · rintro _ _ ⟨h2, rfl, a2, d2, d3⟩
    rw [k266_4]
    simp +decide (maxSteps := 4000000) (disch := omega) only [k266_0, k266_2, k266_3, k266_5, k266_r, k266_s, F_al0, T_getI, F_is1i, F_is1r, F_is1m, F_is2i, F_is2r, F_is2m, T_I, T_ft, J_ifeq, T_dupI, T_dupR, T_add, T_putI, T_putZ, T_goto, F_is3i, F_is3r, F_is3m, F_il2, T_sub, F_is4i, F_is4r, F_is4m, F_il3, F_il4, T_mul, T_icle, F_il1, F_is5i, F_is5r, F_is5m, F_il5, T_icge, T_getR, T_rem, X_iald, T_iast, F_inc5i, F_inc5r, F_inc5m, T_ret, c220, c221, c224, c225, c265, c267, ↓s220, ↓s221, ↓s224, ↓s225, ↓s265, e4, ↓reduceIte, TK, lt_run hn, le43, Int.le_refl, Int.lt_irrefl, Option.some.injEq, exists_eq_left', true_and, and_true, if_true, if_false, decide_eq_false_iff_not, decide_eq_true_eq, Nat.reduceAdd, Nat.reduceLeDiff, Nat.reduceLT, Int.reduceAdd, Int.reduceSub, Int.reduceMul, Int.reduceNeg, not_true_eq_false, not_false_eq_true]
    exact kk h2 w2 (by omega) (by omega) a2 ⟨_, by omega, d2⟩ (fun _ => ⟨rfl, d2, d3⟩)
theorem w266 (F : FH hr) (hn : 775 ≤ n) (T : TpM h t b) (R : Rz h 704 42 736 m D) (hm : 0 ≤ m ∧ m ≤ 120) (hD : Rg D) (hp : 0 ≤ p ∧ p ≤ t) (g40 : bt b t p = 40) (kk : Im hr n Q h (brk b t m p D)) : Sp E 266 [.ref 704] (MS h p (-1)) hr n Q := by
  have t1 := T.1
  have z1 : MS h p (-1) 704 42 = J m := by rw [MS_j (by decide)]; exact R.1
  have hin := bt_in (b := b) (t := t) (i := p) (by omega)
  have K0 := itq_b (m := m) (p := p + 1) T.1 T.2.1 (by omega) hD
  have K := its_b (m := m) (p := p) T.1 T.2.1 (by omega) hD
  unfold brk at kk
  unfold its at kk K
  simp +decide (maxSteps := 4000000) (disch := omega) only [k266_0, k266_2, k266_3, k266_5, k266_r, k266_s, F_al0, T_getI, F_is1i, F_is1r, F_is1m, F_is2i, F_is2r, F_is2m, T_I, T_ft, J_ifeq, T_dupI, T_dupR, T_add, T_putI, T_putZ, T_goto, F_is3i, F_is3r, F_is3m, F_il2, T_sub, F_is4i, F_is4r, F_is4m, F_il3, F_il4, T_mul, T_icle, F_il1, F_is5i, F_is5r, F_is5m, F_il5, T_icge, T_getR, T_rem, X_iald, T_iast, F_inc5i, F_inc5r, F_inc5m, T_ret, c220, c221, c224, c225, c265, c267, ↓s220, ↓s221, ↓s224, ↓s265, z1, MX, ↓s225 F hn T, g40, ↓reduceIte, TK, lt_run hn, le43, Int.le_refl, Int.lt_irrefl, Option.some.injEq, exists_eq_left', true_and, and_true, if_true, if_false, decide_eq_false_iff_not, decide_eq_true_eq, Nat.reduceAdd, Nat.reduceLeDiff, Nat.reduceLT, Int.reduceAdd, Int.reduceSub, Int.reduceMul, Int.reduceNeg, not_true_eq_false, not_false_eq_true]
  refine w267 (p := p + 1) F hn T R hm (by omega) (fun h1 w a0 a1 e1 mm gd => ?_)
  simp +decide (maxSteps := 4000000) (disch := omega) only [k266_0, k266_2, k266_3, k266_5, k266_r, k266_s, F_al0, T_getI, F_is1i, F_is1r, F_is1m, F_is2i, F_is2r, F_is2m, T_I, T_ft, J_ifeq, T_dupI, T_dupR, T_add, T_putI, T_putZ, T_goto, F_is3i, F_is3r, F_is3m, F_il2, T_sub, F_is4i, F_is4r, F_is4m, F_il3, F_il4, T_mul, T_icle, F_il1, F_is5i, F_is5r, F_is5m, F_il5, T_icge, T_getR, T_rem, X_iald, T_iast, F_inc5i, F_inc5r, F_inc5m, T_ret, c220, c221, c224, c225, c265, c267, ↓s220, ↓s221, ↓s224, ↓s225, ↓s265, ↓reduceIte, TK, lt_run hn, le43, Int.le_refl, Int.lt_irrefl, Option.some.injEq, exists_eq_left', true_and, and_true, if_true, if_false, decide_eq_false_iff_not, decide_eq_true_eq, Nat.reduceAdd, Nat.reduceLeDiff, Nat.reduceLT, Int.reduceAdd, Int.reduceSub, Int.reduceMul, Int.reduceNeg, not_true_eq_false, not_false_eq_true]
  refine z266 F hn 1602 _ w h1 (by decide) a0 a1 K0.1 mm (fun z => by
    obtain ⟨b1, b2⟩ := gd z
    obtain ⟨c1, c2, c3⟩ := K0.2 z
    exact ⟨b1, by omega, by omega, c3, b2⟩) (T.dm e1) (fun h2 w u a1 a2 a3 a4 a5 a6 => ?_) (fun h2 w a1 a2 a3 a4 a5 a6 a7 => ?_)
  · rw [if_neg a5] at kk
    obtain ⟨m1, b1, b2⟩ := a4
    exact e266f F hn ((T.dm e1).dm a3) b2 b1 hm ⟨a1, a2⟩ (K.1.resolve_left a5) a6 (kk h2 w a1 a2 (e1.trans a3) ⟨m1, b1, b2⟩ (fun z => absurd z a5))
  · rw [if_pos a4] at kk
    have := (K.2 a4).2.1
    exact e266 F hn ((T.dm e1).dm a3) a7 (by omega) (by omega) ⟨a1, a2⟩ a6 a5 (fun h' p' c1 c2 c3 => kk h' p' c1 c2 ((e1.trans a3).trans c3))
end BM
