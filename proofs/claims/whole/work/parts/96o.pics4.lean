/-! pictures: blur, sparks, the camera's view of the class; blend and blur of the reference -/
section PL
variable {E : AEn} {h h' : AHi} {hr : AHr} {n : Nat} {Q : ARs → Prop} {g a b : Nat} {A B : Pic}
theorem w102 (hn : 775 ≤ n) (G1 : AR E g) (G2 : AR E a) (n1 : a ≠ g) (P1 : PA h a A) (R1 : pcR A) (k : ∀ h', PA h' g (pcB A) → Ef (fun x _ => x = g) h h' → Q (none, h', hr, n)) : Sp E 102 [.ref g, .ref a] h hr n Q := by
  have G20 := G2
  obtain ⟨g1, g2, g3, g4⟩ := G1
  obtain ⟨a1, a2, a3, a4⟩ := G2
  simp +decide (maxSteps := 4000000) (disch := omega) only [k102_0, k102_3, k102_4, k102_5, k102_6, k102_r, k102_s, T_I, F_is2i, F_is2r, F_is2m, T_ft, F_il2, T_icge, F_is3i, F_is3r, F_is3m, F_il3, F_is4i, F_is4r, F_is4m, F_al0, F_il4, F_al1, X_iald, J_icne, T_goto, T_iast, F_inc3i, F_inc3r, F_inc3m, F_inc2i, F_inc2r, F_inc2m, T_ret, c103, c151, ↓s151, ↓reduceIte, TK, lt_run hn, le43, Int.le_refl, Int.lt_irrefl, Option.some.injEq, exists_eq_left', true_and, and_true, if_true, if_false, decide_eq_false_iff_not, decide_eq_true_eq, Nat.reduceAdd, Nat.reduceLeDiff, Nat.reduceLT, Int.reduceAdd, Int.reduceSub, Int.reduceMul, Int.reduceNeg, not_true_eq_false, not_false_eq_true]
  refine T_for (σ := Value × Value) (fun y v => [.ref g, .ref a, .int (J y), v.1, v.2]) (fun y _ h' => Ef (fun x _ => x = g) h h' ∧ PU h' g (pcB A) (y * 48)) 0 32 ?_ ?_ 0 (a_mk, a_mk) h (by omega) (by omega) ⟨Ef.refl, fun q _ _ => by omega⟩
  · rintro y ⟨v5, v6⟩ h1 y0 y1 ⟨e1, c1⟩ ih
    dsimp only
    rw [k102_1]
    simp +decide (maxSteps := 4000000) (disch := omega) only [k102_0, k102_3, k102_4, k102_5, k102_6, k102_r, k102_s, T_I, F_is2i, F_is2r, F_is2m, T_ft, F_il2, T_icge, F_is3i, F_is3r, F_is3m, F_il3, F_is4i, F_is4r, F_is4m, F_al0, F_il4, F_al1, X_iald, J_icne, T_goto, T_iast, F_inc3i, F_inc3r, F_inc3m, F_inc2i, F_inc2r, F_inc2m, T_ret, c103, c151, ↓s151, show ¬ 32 ≤ y by omega, ↓reduceIte, TK, lt_run hn, le43, Int.le_refl, Int.lt_irrefl, Option.some.injEq, exists_eq_left', true_and, and_true, if_true, if_false, decide_eq_false_iff_not, decide_eq_true_eq, Nat.reduceAdd, Nat.reduceLeDiff, Nat.reduceLT, Int.reduceAdd, Int.reduceSub, Int.reduceMul, Int.reduceNeg, not_true_eq_false, not_false_eq_true]
    refine T_for (σ := Value) (fun x v => [.ref g, .ref a, .int (J y), .int (J x), v]) (fun x _ h' => Ef (fun x _ => x = g) h h' ∧ PU h' g (pcB A) (y * 48 + x)) 0 48 ?_ ?_ 0 v6 h1 (by omega) (by omega) ⟨e1, by rw [Int.add_zero]; exact c1⟩
    · rintro x v h2 x0 x1 ⟨e2, c2⟩ ih2
      have P2 := P1.ef e2 (fun k => n1)
      have d1 := P2 (y * 48 + x) (by omega) (by omega)
      have r1 := R1 (y * 48 + x) (by omega) (by omega)
      have ex : (y * 48 + x) % 48 = x := by omega
      have ey : (y * 48 + x) / 48 = y := by omega
      by_cases z : A (y * 48 + x) = -1
      · rw [k102_2]
        simp +decide (maxSteps := 4000000) (disch := omega) only [k102_0, k102_3, k102_4, k102_5, k102_6, k102_r, k102_s, T_I, F_is2i, F_is2r, F_is2m, T_ft, F_il2, T_icge, F_is3i, F_is3r, F_is3m, F_il3, F_is4i, F_is4r, F_is4m, F_al0, F_il4, F_al1, X_iald, J_icne, T_goto, T_iast, F_inc3i, F_inc3r, F_inc3m, F_inc2i, F_inc2r, F_inc2m, T_ret, c103, c151, ↓s151, g1, g2, a1, a2, d1, z, show ¬ 48 ≤ x by omega, ↓reduceIte, TK, lt_run hn, le43, Int.le_refl, Int.lt_irrefl, Option.some.injEq, exists_eq_left', true_and, and_true, if_true, if_false, decide_eq_false_iff_not, decide_eq_true_eq, Nat.reduceAdd, Nat.reduceLeDiff, Nat.reduceLT, Int.reduceAdd, Int.reduceSub, Int.reduceMul, Int.reduceNeg, not_true_eq_false, not_false_eq_true]
        have := c2.set (v := -1) (by omega) (by unfold pcB; rw [if_pos z])
        rw [show y * 48 + x + 1 = y * 48 + (x + 1) by omega] at this
        exact ih2 _ _ ⟨e2.sA rfl, this⟩
      · rw [k102_2]
        simp +decide (maxSteps := 4000000) (disch := omega) only [k102_0, k102_3, k102_4, k102_5, k102_6, k102_r, k102_s, T_I, F_is2i, F_is2r, F_is2m, T_ft, F_il2, T_icge, F_is3i, F_is3r, F_is3m, F_il3, F_is4i, F_is4r, F_is4m, F_al0, F_il4, F_al1, X_iald, J_icne, T_goto, T_iast, F_inc3i, F_inc3r, F_inc3m, F_inc2i, F_inc2r, F_inc2m, T_ret, c103, c151, ↓s151, g1, g2, a1, a2, d1, z, show ¬ 48 ≤ x by omega, ↓reduceIte, TK, lt_run hn, le43, Int.le_refl, Int.lt_irrefl, Option.some.injEq, exists_eq_left', true_and, and_true, if_true, if_false, decide_eq_false_iff_not, decide_eq_true_eq, Nat.reduceAdd, Nat.reduceLeDiff, Nat.reduceLT, Int.reduceAdd, Int.reduceSub, Int.reduceMul, Int.reduceNeg, not_true_eq_false, not_false_eq_true]
        refine w103 hn G20 P2 R1 (by omega) (by omega) z ?_
        simp +decide (maxSteps := 4000000) (disch := omega) only [k102_0, k102_3, k102_4, k102_5, k102_6, k102_r, k102_s, T_I, F_is2i, F_is2r, F_is2m, T_ft, F_il2, T_icge, F_is3i, F_is3r, F_is3m, F_il3, F_is4i, F_is4r, F_is4m, F_al0, F_il4, F_al1, X_iald, J_icne, T_goto, T_iast, F_inc3i, F_inc3r, F_inc3m, F_inc2i, F_inc2r, F_inc2m, T_ret, c103, c151, ↓s151, g1, g2, ↓reduceIte, TK, lt_run hn, le43, Int.le_refl, Int.lt_irrefl, Option.some.injEq, exists_eq_left', true_and, and_true, if_true, if_false, decide_eq_false_iff_not, decide_eq_true_eq, Nat.reduceAdd, Nat.reduceLeDiff, Nat.reduceLT, Int.reduceAdd, Int.reduceSub, Int.reduceMul, Int.reduceNeg, not_true_eq_false, not_false_eq_true]
        have := c2.set (v := blr A x y) (by omega) (by unfold pcB; rw [if_neg z, ex, ey])
        rw [show y * 48 + x + 1 = y * 48 + (x + 1) by omega] at this
        exact ih2 _ _ ⟨e2.sA rfl, this⟩
    · rintro v h2 ⟨e2, c2⟩
      rw [k102_2]
      simp +decide (maxSteps := 4000000) (disch := omega) only [k102_0, k102_3, k102_4, k102_5, k102_6, k102_r, k102_s, T_I, F_is2i, F_is2r, F_is2m, T_ft, F_il2, T_icge, F_is3i, F_is3r, F_is3m, F_il3, F_is4i, F_is4r, F_is4m, F_al0, F_il4, F_al1, X_iald, J_icne, T_goto, T_iast, F_inc3i, F_inc3r, F_inc3m, F_inc2i, F_inc2r, F_inc2m, T_ret, c103, c151, ↓s151, ↓reduceIte, TK, lt_run hn, le43, Int.le_refl, Int.lt_irrefl, Option.some.injEq, exists_eq_left', true_and, and_true, if_true, if_false, decide_eq_false_iff_not, decide_eq_true_eq, Nat.reduceAdd, Nat.reduceLeDiff, Nat.reduceLT, Int.reduceAdd, Int.reduceSub, Int.reduceMul, Int.reduceNeg, not_true_eq_false, not_false_eq_true]
      exact ih (_, _) _ ⟨e2, by rw [show (y + 1) * 48 = y * 48 + 48 by omega]; exact c2⟩
  · rintro ⟨v5, v6⟩ h1 ⟨e1, c1⟩
    dsimp only
    rw [k102_1]
    simp +decide (maxSteps := 4000000) (disch := omega) only [k102_0, k102_3, k102_4, k102_5, k102_6, k102_r, k102_s, T_I, F_is2i, F_is2r, F_is2m, T_ft, F_il2, T_icge, F_is3i, F_is3r, F_is3m, F_il3, F_is4i, F_is4r, F_is4m, F_al0, F_il4, F_al1, X_iald, J_icne, T_goto, T_iast, F_inc3i, F_inc3r, F_inc3m, F_inc2i, F_inc2r, F_inc2m, T_ret, c103, c151, ↓s151, ↓reduceIte, TK, lt_run hn, le43, Int.le_refl, Int.lt_irrefl, Option.some.injEq, exists_eq_left', true_and, and_true, if_true, if_false, decide_eq_false_iff_not, decide_eq_true_eq, Nat.reduceAdd, Nat.reduceLeDiff, Nat.reduceLT, Int.reduceAdd, Int.reduceSub, Int.reduceMul, Int.reduceNeg, not_true_eq_false, not_false_eq_true]
    exact k h1 c1 e1
theorem pcK_s {T : Int → Int} {f i : Int} (h : 0 ≤ i) : pcK T f (i + 1).toNat = if spOb T f i = true then upd1 (pcK T f i.toNat) (spY T f i * 48 + spX T f i) (T 4) else pcK T f i.toNat := by
  rw [show (i + 1).toNat = i.toNat + 1 by omega]
  show (if spOb T f (i.toNat : Int) = true then upd1 (pcK T f i.toNat) (spY T f (i.toNat : Int) * 48 + spX T f (i.toNat : Int)) (T 4) else _) = _
  rw [Int.toNat_of_nonneg h]
/-- a spark's ranges -/
theorem sp_r {T : Int → Int} {f i : Int} (h1 : 0 ≤ T 1 ∧ T 1 ≤ 47) (h2 : 0 ≤ T 2 ∧ T 2 ≤ 31) (ht : 0 ≤ f - i ∧ f - i ≤ 23) : (-8 ≤ spV (T 0) i ∧ spV (T 0) i ≤ 8) ∧ (-24 ≤ spW (T 0) i ∧ spW (T 0) i ≤ 8) ∧ (-184 ≤ spV (T 0) i * (f - i) ∧ spV (T 0) i * (f - i) ≤ 184) ∧ (-552 ≤ spW (T 0) i * (f - i) ∧ spW (T 0) i * (f - i) ≤ 552) ∧ (-529 ≤ (f - i) * (f - i) ∧ (f - i) * (f - i) ≤ 529) ∧ (-100 ≤ spX T f i ∧ spX T f i ≤ 200) ∧ -200 ≤ spY T f i ∧ spY T f i ≤ 400 := by
  have a1 := ush8_r (hsh (J (T 0)) (J i) (J 1) (J 0) (J 0))
  have a2 := ush8_r (hsh (J (T 0)) (J i) (J 2) (J 0) (J 0))
  have b1 : -8 ≤ spV (T 0) i ∧ spV (T 0) i ≤ 8 := by
    unfold spV
    generalize ush (hsh (J (T 0)) (J i) (J 1) (J 0) (J 0)) 8 = u at *
    omega
  have b2 : -24 ≤ spW (T 0) i ∧ spW (T 0) i ≤ 8 := by
    unfold spW
    generalize ush (hsh (J (T 0)) (J i) (J 2) (J 0) (J 0)) 8 = u at *
    omega
  have m1 := mulb (a := spV (T 0) i) (b := f - i) (A := 8) (B := 23) (by omega) (by omega)
  have m2 := mulb (a := spW (T 0) i) (b := f - i) (A := 24) (B := 23) (by omega) (by omega)
  have m3 := mulb (a := f - i) (b := f - i) (A := 23) (B := 23) (by omega) (by omega)
  unfold spX spY
  generalize spV (T 0) i = V at *
  generalize spW (T 0) i = W at *
  generalize V * (f - i) = VF at *
  generalize W * (f - i) = WF at *
  generalize (f - i) * (f - i) = FF at *
  clear a1 a2
  omega
end PL
