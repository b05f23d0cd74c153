/-! pictures: sparks -/
section PM
variable {E : AEn} {h h' : AHi} {hr : AHr} {n : Nat} {Q : ARs → Prop} {g a b : Nat} {A B : Pic}
theorem w104 (hn : 775 ≤ n) (G1 : AR E g) {t : Nat} (t1 : a_kd t = 20) (t2 : a_ln E t = 5) (t3 : 43 ≤ t ∧ t < 775) (n1 : t ≠ g) {T : Int → Int} {f : Int} (hf : 0 ≤ f ∧ f ≤ 119) (c : ∀ q, 0 ≤ q → q < 5 → gA h t q = J (T q)) (h1 : 0 ≤ T 1 ∧ T 1 ≤ 47) (h2 : 0 ≤ T 2 ∧ T 2 ≤ 31) (h3 : 1 ≤ T 3 ∧ T 3 ≤ 20) (k : ∀ h', PA h' g (pcK T f (T 3).toNat) → Ef (fun x _ => x = g) h h' → Q (none, h', hr, n)) : Sp E 104 [.ref g, .ref t, .int (J f)] h hr n Q := by
  obtain ⟨g1, g2, g3, g4⟩ := G1
  simp +decide (maxSteps := 4000000) (disch := omega) only [k104_0, k104_2, k104_3, k104_r, k104_s, F_al0, T_I, F_is3i, F_is3r, F_is3m, T_ft, F_il3, F_al1, X_iald, T_icge, F_il2, T_sub, F_is4i, F_is4r, F_is4m, F_il4, J_iflt, T_icgt, T_ushr, T_rem, F_is5i, F_is5r, F_is5m, F_is6i, F_is6r, F_is6m, F_il5, T_mul, T_add, F_is7i, F_is7r, F_is7m, F_il6, F_is8i, F_is8r, F_is8m, F_il7, F_il8, J_ifeq, T_iast, F_inc3i, F_inc3r, F_inc3m, T_goto, T_ret, c145, c151, c199, c350, c356, ↓s145, ↓s151, ↓s199, ↓s350, g1, g2, ↓reduceIte, TK, lt_run hn, le43, Int.le_refl, Int.lt_irrefl, Option.some.injEq, exists_eq_left', true_and, and_true, if_true, if_false, decide_eq_false_iff_not, decide_eq_true_eq, Nat.reduceAdd, Nat.reduceLeDiff, Nat.reduceLT, Int.reduceAdd, Int.reduceSub, Int.reduceMul, Int.reduceNeg, not_true_eq_false, not_false_eq_true]
  refine w356 hn (v := -1) g1 g2 ⟨g3, g4⟩ (fun k1 p1 e1 => ?_)
  simp +decide (maxSteps := 4000000) (disch := omega) only [k104_0, k104_2, k104_3, k104_r, k104_s, F_al0, T_I, F_is3i, F_is3r, F_is3m, T_ft, F_il3, F_al1, X_iald, T_icge, F_il2, T_sub, F_is4i, F_is4r, F_is4m, F_il4, J_iflt, T_icgt, T_ushr, T_rem, F_is5i, F_is5r, F_is5m, F_is6i, F_is6r, F_is6m, F_il5, T_mul, T_add, F_is7i, F_is7r, F_is7m, F_il6, F_is8i, F_is8r, F_is8m, F_il7, F_il8, J_ifeq, T_iast, F_inc3i, F_inc3r, F_inc3m, T_goto, T_ret, c145, c151, c199, c350, c356, ↓s145, ↓s151, ↓s199, ↓s350, ↓reduceIte, TK, lt_run hn, le43, Int.le_refl, Int.lt_irrefl, Option.some.injEq, exists_eq_left', true_and, and_true, if_true, if_false, decide_eq_false_iff_not, decide_eq_true_eq, Nat.reduceAdd, Nat.reduceLeDiff, Nat.reduceLT, Int.reduceAdd, Int.reduceSub, Int.reduceMul, Int.reduceNeg, not_true_eq_false, not_false_eq_true]
  refine T_for (σ := Value × Value × Value × Value × Value) (fun i v => [.ref g, .ref t, .int (J f), .int (J i), v.1, v.2.1, v.2.2.1, v.2.2.2.1, v.2.2.2.2]) (fun i _ h' => Ef (fun x _ => x = g) h h' ∧ PA h' g (pcK T f i.toNat)) 0 (T 3) ?_ ?_ 0 (a_mk, a_mk, a_mk, a_mk, a_mk) k1 (by omega) (by omega) ⟨e1, p1⟩
  · rintro i ⟨v4, v5, v6, v7, v8⟩ k2 i0 i1 ⟨e2, p2⟩ ih
    dsimp only
    have c' : ∀ q, 0 ≤ q → q < 5 → gA k2 t q = J (T q) := fun q q0 q1 => (e2.g n1).trans (c q q0 q1)
    have u0 := c' 0 (by decide) (by decide)
    have u1 := c' 1 (by decide) (by decide)
    have u2 := c' 2 (by decide) (by decide)
    have u3 := c' 3 (by decide) (by decide)
    have u4 := c' 4 (by decide) (by decide)
    have es := pcK_s (T := T) (f := f) i0
    have ih' := fun v k3 => ih v k3
    rw [es] at ih'
    by_cases z1 : f - i < 0
    · have nz : ¬ spOb T f i = true := fun q => by
        have := of_decide_eq_true q
        omega
      rw [if_neg nz] at ih'
      rw [k104_1]
      simp +decide (maxSteps := 4000000) (disch := omega) only [k104_0, k104_2, k104_3, k104_r, k104_s, F_al0, T_I, F_is3i, F_is3r, F_is3m, T_ft, F_il3, F_al1, X_iald, T_icge, F_il2, T_sub, F_is4i, F_is4r, F_is4m, F_il4, J_iflt, T_icgt, T_ushr, T_rem, F_is5i, F_is5r, F_is5m, F_is6i, F_is6r, F_is6m, F_il5, T_mul, T_add, F_is7i, F_is7r, F_is7m, F_il6, F_is8i, F_is8r, F_is8m, F_il7, F_il8, J_ifeq, T_iast, F_inc3i, F_inc3r, F_inc3m, T_goto, T_ret, c145, c151, c199, c350, c356, ↓s145, ↓s151, ↓s199, ↓s350, t1, t2, u3, z1, show ¬ T 3 ≤ i by omega, ↓reduceIte, TK, lt_run hn, le43, Int.le_refl, Int.lt_irrefl, Option.some.injEq, exists_eq_left', true_and, and_true, if_true, if_false, decide_eq_false_iff_not, decide_eq_true_eq, Nat.reduceAdd, Nat.reduceLeDiff, Nat.reduceLT, Int.reduceAdd, Int.reduceSub, Int.reduceMul, Int.reduceNeg, not_true_eq_false, not_false_eq_true]
      exact ih' (_, _, _, _, _) _ ⟨e2, p2⟩
    by_cases z2 : 23 < f - i
    · have nz : ¬ spOb T f i = true := fun q => by
        have := of_decide_eq_true q
        omega
      rw [if_neg nz] at ih'
      rw [k104_1]
      simp +decide (maxSteps := 4000000) (disch := omega) only [k104_0, k104_2, k104_3, k104_r, k104_s, F_al0, T_I, F_is3i, F_is3r, F_is3m, T_ft, F_il3, F_al1, X_iald, T_icge, F_il2, T_sub, F_is4i, F_is4r, F_is4m, F_il4, J_iflt, T_icgt, T_ushr, T_rem, F_is5i, F_is5r, F_is5m, F_is6i, F_is6r, F_is6m, F_il5, T_mul, T_add, F_is7i, F_is7r, F_is7m, F_il6, F_is8i, F_is8r, F_is8m, F_il7, F_il8, J_ifeq, T_iast, F_inc3i, F_inc3r, F_inc3m, T_goto, T_ret, c145, c151, c199, c350, c356, ↓s145, ↓s151, ↓s199, ↓s350, t1, t2, u3, z1, z2, show ¬ T 3 ≤ i by omega, ↓reduceIte, TK, lt_run hn, le43, Int.le_refl, Int.lt_irrefl, Option.some.injEq, exists_eq_left', true_and, and_true, if_true, if_false, decide_eq_false_iff_not, decide_eq_true_eq, Nat.reduceAdd, Nat.reduceLeDiff, Nat.reduceLT, Int.reduceAdd, Int.reduceSub, Int.reduceMul, Int.reduceNeg, not_true_eq_false, not_false_eq_true]
      exact ih' (_, _, _, _, _) _ ⟨e2, p2⟩
    obtain ⟨r1, r2, r3, r4, r5, r6, r7⟩ := sp_r (T := T) (f := f) (i := i) h1 h2 (by omega)
    have nz : spOb T f i = decide ((0 ≤ spX T f i ∧ spX T f i ≤ 47) ∧ 0 ≤ spY T f i ∧ spY T f i ≤ 31) := by
      unfold spOb
      exact decide_eq_decide.mpr ⟨fun q => q.2, fun q => ⟨by omega, q⟩⟩
    have a1 := ush8_r (hsh (J (T 0)) (J i) (J 1) (J 0) (J 0))
    have a2 := ush8_r (hsh (J (T 0)) (J i) (J 2) (J 0) (J 0))
    obtain ⟨U, hU⟩ : ∃ U, ush (hsh (J (T 0)) (J i) (J 1) (J 0) (J 0)) 8 = U := ⟨_, rfl⟩
    obtain ⟨U', hU'⟩ : ∃ U, ush (hsh (J (T 0)) (J i) (J 2) (J 0) (J 0)) 8 = U := ⟨_, rfl⟩
    have eV : U % 17 - 8 = spV (T 0) i := by rw [← hU]; rfl
    have eW : U' % 33 - 24 = spW (T 0) i := by rw [← hU']; rfl
    have eX : T 1 + spV (T 0) i * (f - i) / 4 = spX T f i := rfl
    have eY : T 2 + (spW (T 0) i * (f - i) + (f - i) * (f - i)) / 8 = spY T f i := rfl
    rw [hU] at a1
    rw [hU'] at a2
    rw [nz] at ih'
    generalize spX T f i = X at *
    generalize spY T f i = Y at *
    generalize spV (T 0) i = V at *
    generalize spW (T 0) i = W at *
    by_cases z : (0 ≤ X ∧ X ≤ 47) ∧ 0 ≤ Y ∧ Y ≤ 31
    · rw [decide_eq_true z, if_pos rfl] at ih'
      rw [k104_1]
      simp +decide (maxSteps := 4000000) (disch := omega) only [k104_0, k104_2, k104_3, k104_r, k104_s, F_al0, T_I, F_is3i, F_is3r, F_is3m, T_ft, F_il3, F_al1, X_iald, T_icge, F_il2, T_sub, F_is4i, F_is4r, F_is4m, F_il4, J_iflt, T_icgt, T_ushr, T_rem, F_is5i, F_is5r, F_is5m, F_is6i, F_is6r, F_is6m, F_il5, T_mul, T_add, F_is7i, F_is7r, F_is7m, F_il6, F_is8i, F_is8r, F_is8m, F_il7, F_il8, J_ifeq, T_iast, F_inc3i, F_inc3r, F_inc3m, T_goto, T_ret, c145, c151, c199, c350, c356, ↓s145, ↓s151, ↓s199, ↓s350, t1, t2, g1, g2, u0, u1, u2, u3, u4, z1, z2, ush8, J_remp, hU, hU', eV, eW, eX, eY, z, Bz_t, show ¬ T 3 ≤ i by omega, ↓reduceIte, TK, lt_run hn, le43, Int.le_refl, Int.lt_irrefl, Option.some.injEq, exists_eq_left', true_and, and_true, if_true, if_false, decide_eq_false_iff_not, decide_eq_true_eq, Nat.reduceAdd, Nat.reduceLeDiff, Nat.reduceLT, Int.reduceAdd, Int.reduceSub, Int.reduceMul, Int.reduceNeg, not_true_eq_false, not_false_eq_true]
      exact ih' (_, _, _, _, _) _ ⟨e2.sA rfl, p2.set (by omega)⟩
    · rw [decide_eq_false z, if_neg (by decide)] at ih'
      rw [k104_1]
      simp +decide (maxSteps := 4000000) (disch := omega) only [k104_0, k104_2, k104_3, k104_r, k104_s, F_al0, T_I, F_is3i, F_is3r, F_is3m, T_ft, F_il3, F_al1, X_iald, T_icge, F_il2, T_sub, F_is4i, F_is4r, F_is4m, F_il4, J_iflt, T_icgt, T_ushr, T_rem, F_is5i, F_is5r, F_is5m, F_is6i, F_is6r, F_is6m, F_il5, T_mul, T_add, F_is7i, F_is7r, F_is7m, F_il6, F_is8i, F_is8r, F_is8m, F_il7, F_il8, J_ifeq, T_iast, F_inc3i, F_inc3r, F_inc3m, T_goto, T_ret, c145, c151, c199, c350, c356, ↓s145, ↓s151, ↓s199, ↓s350, t1, t2, g1, g2, u0, u1, u2, u3, u4, z1, z2, ush8, J_remp, hU, hU', eV, eW, eX, eY, z, Bz_f, show ¬ T 3 ≤ i by omega, ↓reduceIte, TK, lt_run hn, le43, Int.le_refl, Int.lt_irrefl, Option.some.injEq, exists_eq_left', true_and, and_true, if_true, if_false, decide_eq_false_iff_not, decide_eq_true_eq, Nat.reduceAdd, Nat.reduceLeDiff, Nat.reduceLT, Int.reduceAdd, Int.reduceSub, Int.reduceMul, Int.reduceNeg, not_true_eq_false, not_false_eq_true]
      exact ih' (_, _, _, _, _) _ ⟨e2, p2⟩
  · rintro ⟨v4, v5, v6, v7, v8⟩ k2 ⟨e2, p2⟩
    dsimp only
    have u3 : gA k2 t 3 = J (T 3) := (e2.g n1).trans (c 3 (by decide) (by decide))
    rw [k104_1]
    simp +decide (maxSteps := 4000000) (disch := omega) only [k104_0, k104_2, k104_3, k104_r, k104_s, F_al0, T_I, F_is3i, F_is3r, F_is3m, T_ft, F_il3, F_al1, X_iald, T_icge, F_il2, T_sub, F_is4i, F_is4r, F_is4m, F_il4, J_iflt, T_icgt, T_ushr, T_rem, F_is5i, F_is5r, F_is5m, F_is6i, F_is6r, F_is6m, F_il5, T_mul, T_add, F_is7i, F_is7r, F_is7m, F_il6, F_is8i, F_is8r, F_is8m, F_il7, F_il8, J_ifeq, T_iast, F_inc3i, F_inc3r, F_inc3m, T_goto, T_ret, c145, c151, c199, c350, c356, ↓s145, ↓s151, ↓s199, ↓s350, t1, t2, u3, ↓reduceIte, TK, lt_run hn, le43, Int.le_refl, Int.lt_irrefl, Option.some.injEq, exists_eq_left', true_and, and_true, if_true, if_false, decide_eq_false_iff_not, decide_eq_true_eq, Nat.reduceAdd, Nat.reduceLeDiff, Nat.reduceLT, Int.reduceAdd, Int.reduceSub, Int.reduceMul, Int.reduceNeg, not_true_eq_false, not_false_eq_true]
    exact k k2 p2 e2
end PM
