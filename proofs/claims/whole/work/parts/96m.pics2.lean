/-! pictures: the class's ways to make one of others -/
def AR (E : AEn) (g : Nat) : Prop := a_kd g = 20 ∧ a_ln E g = 1536 ∧ 43 ≤ g ∧ g < 775
/-- a picture up to a place -/
def PU (h : AHi) (g : Nat) (f : Pic) (p : Int) : Prop := ∀ q, 0 ≤ q → q < p → gA h g q = J (f q)
section PJ
variable {E : AEn} {h h' : AHi} {hr : AHr} {n : Nat} {Q : ARs → Prop} {g a b : Nat} {A B : Pic} {p : Int}
theorem PU.set {f : Pic} (P : PU h g f p) (hp : 0 ≤ p) {v : Int} (e : v = f p) : PU (sA h g p (J v)) g f (p + 1) := fun q q0 q1 => by
  by_cases z : q = p
  · rw [z, gs_s, e]
  · rw [gs_k hp q0 z]
    exact P q q0 (by omega)
theorem w97 (hn : 775 ≤ n) (G1 : AR E g) (G2 : AR E a) (G3 : AR E b) (n1 : a ≠ g) (n2 : b ≠ g) (P1 : PA h a A) (P2 : PA h b B) (R1 : pcR A) (R2 : pcR B) (k : ∀ h', PA h' g (pcO A B) → Ef (fun x _ => x = g) h h' → Q (none, h', hr, n)) : Sp E 97 [.ref g, .ref a, .ref b] h hr n Q := by
  obtain ⟨g1, g2, g3, g4⟩ := G1
  obtain ⟨a1, a2, a3, a4⟩ := G2
  obtain ⟨b1, b2, b3, b4⟩ := G3
  have e0 : ((1536 : Nat) : Int) = 1536 := rfl
  simp +decide (maxSteps := 4000000) (disch := omega) only [k97_0, k97_2, k97_3, k97_4, k97_r, k97_s, T_I, F_is3i, F_is3r, F_is3m, T_ft, F_il3, T_icge, F_al0, F_al1, X_iald, J_icne, F_al2, T_goto, T_iast, F_inc3i, F_inc3r, F_inc3m, T_ret, ↓reduceIte, TK, lt_run hn, le43, Int.le_refl, Int.lt_irrefl, Option.some.injEq, exists_eq_left', true_and, and_true, if_true, if_false, decide_eq_false_iff_not, decide_eq_true_eq, Nat.reduceAdd, Nat.reduceLeDiff, Nat.reduceLT, Int.reduceAdd, Int.reduceSub, Int.reduceMul, Int.reduceNeg, not_true_eq_false, not_false_eq_true]
  refine T_for (σ := Unit) (fun i _ => [.ref g, .ref a, .ref b, .int (J i)]) (fun i _ h' => Ef (fun x _ => x = g) h h' ∧ PU h' g (pcO A B) i) 0 1536 ?_ ?_ 0 () h (by omega) (by omega) ⟨Ef.refl, fun q _ _ => by omega⟩
  · rintro i _ h1 i0 i1 ⟨e1, c1⟩ ih
    have d1 := (P1.ef e1 (fun k => n1)) i i0 i1
    have d2 := (P2.ef e1 (fun k => n2)) i i0 i1
    have r1 := R1 i i0 i1
    by_cases z : A i = -1
    · rw [k97_1]
      simp +decide (maxSteps := 4000000) (disch := omega) only [k97_0, k97_2, k97_3, k97_4, k97_r, k97_s, T_I, F_is3i, F_is3r, F_is3m, T_ft, F_il3, T_icge, F_al0, F_al1, X_iald, J_icne, F_al2, T_goto, T_iast, F_inc3i, F_inc3r, F_inc3m, T_ret, g1, g2, a1, a2, b1, b2, d1, d2, z, show ¬ 1536 ≤ i by omega, ↓reduceIte, TK, lt_run hn, le43, Int.le_refl, Int.lt_irrefl, Option.some.injEq, exists_eq_left', true_and, and_true, if_true, if_false, decide_eq_false_iff_not, decide_eq_true_eq, Nat.reduceAdd, Nat.reduceLeDiff, Nat.reduceLT, Int.reduceAdd, Int.reduceSub, Int.reduceMul, Int.reduceNeg, not_true_eq_false, not_false_eq_true]
      exact ih () _ ⟨e1.sA rfl, c1.set i0 (by unfold pcO; rw [if_pos z])⟩
    · rw [k97_1]
      simp +decide (maxSteps := 4000000) (disch := omega) only [k97_0, k97_2, k97_3, k97_4, k97_r, k97_s, T_I, F_is3i, F_is3r, F_is3m, T_ft, F_il3, T_icge, F_al0, F_al1, X_iald, J_icne, F_al2, T_goto, T_iast, F_inc3i, F_inc3r, F_inc3m, T_ret, g1, g2, a1, a2, b1, b2, d1, d2, z, show ¬ 1536 ≤ i by omega, ↓reduceIte, TK, lt_run hn, le43, Int.le_refl, Int.lt_irrefl, Option.some.injEq, exists_eq_left', true_and, and_true, if_true, if_false, decide_eq_false_iff_not, decide_eq_true_eq, Nat.reduceAdd, Nat.reduceLeDiff, Nat.reduceLT, Int.reduceAdd, Int.reduceSub, Int.reduceMul, Int.reduceNeg, not_true_eq_false, not_false_eq_true]
      exact ih () _ ⟨e1.sA rfl, c1.set i0 (by unfold pcO; rw [if_neg z])⟩
  · rintro _ h1 ⟨e1, c1⟩
    rw [k97_1]
    simp +decide (maxSteps := 4000000) (disch := omega) only [k97_0, k97_2, k97_3, k97_4, k97_r, k97_s, T_I, F_is3i, F_is3r, F_is3m, T_ft, F_il3, T_icge, F_al0, F_al1, X_iald, J_icne, F_al2, T_goto, T_iast, F_inc3i, F_inc3r, F_inc3m, T_ret, ↓reduceIte, TK, lt_run hn, le43, Int.le_refl, Int.lt_irrefl, Option.some.injEq, exists_eq_left', true_and, and_true, if_true, if_false, decide_eq_false_iff_not, decide_eq_true_eq, Nat.reduceAdd, Nat.reduceLeDiff, Nat.reduceLT, Int.reduceAdd, Int.reduceSub, Int.reduceMul, Int.reduceNeg, not_true_eq_false, not_false_eq_true]
    exact k h1 c1 e1
theorem w99 (hn : 775 ≤ n) (G1 : AR E g) (G2 : AR E a) (G3 : AR E b) (n1 : a ≠ g) (n2 : b ≠ g) (P1 : PA h a A) (P2 : PA h b B) (R2 : pcR B) (k : ∀ h', PA h' g (pcM A B) → Ef (fun x _ => x = g) h h' → Q (none, h', hr, n)) : Sp E 99 [.ref g, .ref a, .ref b] h hr n Q := by
  obtain ⟨g1, g2, g3, g4⟩ := G1
  obtain ⟨a1, a2, a3, a4⟩ := G2
  obtain ⟨b1, b2, b3, b4⟩ := G3
  simp +decide (maxSteps := 4000000) (disch := omega) only [k99_0, k99_2, k99_3, k99_4, k99_r, k99_s, T_I, F_is3i, F_is3r, F_is3m, T_ft, F_il3, T_icge, F_al0, F_al2, X_iald, J_icne, T_goto, F_al1, T_iast, F_inc3i, F_inc3r, F_inc3m, T_ret, ↓reduceIte, TK, lt_run hn, le43, Int.le_refl, Int.lt_irrefl, Option.some.injEq, exists_eq_left', true_and, and_true, if_true, if_false, decide_eq_false_iff_not, decide_eq_true_eq, Nat.reduceAdd, Nat.reduceLeDiff, Nat.reduceLT, Int.reduceAdd, Int.reduceSub, Int.reduceMul, Int.reduceNeg, not_true_eq_false, not_false_eq_true]
  refine T_for (σ := Unit) (fun i _ => [.ref g, .ref a, .ref b, .int (J i)]) (fun i _ h' => Ef (fun x _ => x = g) h h' ∧ PU h' g (pcM A B) i) 0 1536 ?_ ?_ 0 () h (by omega) (by omega) ⟨Ef.refl, fun q _ _ => by omega⟩
  · rintro i _ h1 i0 i1 ⟨e1, c1⟩ ih
    have d1 := (P1.ef e1 (fun k => n1)) i i0 i1
    have d2 := (P2.ef e1 (fun k => n2)) i i0 i1
    have r1 := R2 i i0 i1
    by_cases z : B i = -1
    · rw [k99_1]
      simp +decide (maxSteps := 4000000) (disch := omega) only [k99_0, k99_2, k99_3, k99_4, k99_r, k99_s, T_I, F_is3i, F_is3r, F_is3m, T_ft, F_il3, T_icge, F_al0, F_al2, X_iald, J_icne, T_goto, F_al1, T_iast, F_inc3i, F_inc3r, F_inc3m, T_ret, g1, g2, a1, a2, b1, b2, d1, d2, z, show ¬ 1536 ≤ i by omega, ↓reduceIte, TK, lt_run hn, le43, Int.le_refl, Int.lt_irrefl, Option.some.injEq, exists_eq_left', true_and, and_true, if_true, if_false, decide_eq_false_iff_not, decide_eq_true_eq, Nat.reduceAdd, Nat.reduceLeDiff, Nat.reduceLT, Int.reduceAdd, Int.reduceSub, Int.reduceMul, Int.reduceNeg, not_true_eq_false, not_false_eq_true]
      exact ih () _ ⟨e1.sA rfl, c1.set i0 (by unfold pcM; rw [if_pos z])⟩
    · rw [k99_1]
      simp +decide (maxSteps := 4000000) (disch := omega) only [k99_0, k99_2, k99_3, k99_4, k99_r, k99_s, T_I, F_is3i, F_is3r, F_is3m, T_ft, F_il3, T_icge, F_al0, F_al2, X_iald, J_icne, T_goto, F_al1, T_iast, F_inc3i, F_inc3r, F_inc3m, T_ret, g1, g2, a1, a2, b1, b2, d1, d2, z, show ¬ 1536 ≤ i by omega, ↓reduceIte, TK, lt_run hn, le43, Int.le_refl, Int.lt_irrefl, Option.some.injEq, exists_eq_left', true_and, and_true, if_true, if_false, decide_eq_false_iff_not, decide_eq_true_eq, Nat.reduceAdd, Nat.reduceLeDiff, Nat.reduceLT, Int.reduceAdd, Int.reduceSub, Int.reduceMul, Int.reduceNeg, not_true_eq_false, not_false_eq_true]
      exact ih () _ ⟨e1.sA rfl, c1.set i0 (by unfold pcM; rw [if_neg z])⟩
  · rintro _ h1 ⟨e1, c1⟩
    rw [k99_1]
    simp +decide (maxSteps := 4000000) (disch := omega) only [k99_0, k99_2, k99_3, k99_4, k99_r, k99_s, T_I, F_is3i, F_is3r, F_is3m, T_ft, F_il3, T_icge, F_al0, F_al2, X_iald, J_icne, T_goto, F_al1, T_iast, F_inc3i, F_inc3r, F_inc3m, T_ret, ↓reduceIte, TK, lt_run hn, le43, Int.le_refl, Int.lt_irrefl, Option.some.injEq, exists_eq_left', true_and, and_true, if_true, if_false, decide_eq_false_iff_not, decide_eq_true_eq, Nat.reduceAdd, Nat.reduceLeDiff, Nat.reduceLT, Int.reduceAdd, Int.reduceSub, Int.reduceMul, Int.reduceNeg, not_true_eq_false, not_false_eq_true]
    exact k h1 c1 e1
theorem s101 (hn : 775 ≤ n) {x y s m : Int} (hx : 0 ≤ x ∧ x ≤ 16777215) (hy : 0 ≤ y ∧ y ≤ 16777215) (hs : 0 ≤ s ∧ s ≤ m) (hm : 1 ≤ m ∧ m ≤ 119) : Sp E 101 [.int (J x), .int (J y), .int (J s), .int (J m)] h hr n Q ↔ Q (some (.int (J (bl3 x y s m))), h, hr, n) := by
  have r1 := bl1_r (a := x / 65536 % 256) (b := y / 65536 % 256) (by omega) (by omega) hs hm
  have r2 := bl1_r (a := x / 256 % 256) (b := y / 256 % 256) (by omega) (by omega) hs hm
  have r3 := bl1_r (a := x % 256) (b := y % 256) (by omega) (by omega) hs hm
  unfold bl3 pk3
  unfold bl1 at r1 r2 r3 ⊢
  simp +decide (maxSteps := 4000000) (disch := omega) only [k101_0, k101_2, k101_r, k101_s, T_I, F_is4i, F_is4r, F_is4m, F_is5i, F_is5r, F_is5m, T_ft, F_il5, J_iflt, F_il4, F_il0, T_shr, T_and, F_il3, F_il2, T_sub, T_mul, F_il1, T_add, T_i2l, T_shl, T_or, F_inc5i, F_inc5r, F_inc5m, T_goto, T_ret, c146, ↓s146, ↓reduceIte, TK, lt_run hn, le43, Int.le_refl, Int.lt_irrefl, Option.some.injEq, exists_eq_left', true_and, and_true, if_true, if_false, decide_eq_false_iff_not, decide_eq_true_eq, Nat.reduceAdd, Nat.reduceLeDiff, Nat.reduceLT, Int.reduceAdd, Int.reduceSub, Int.reduceMul, Int.reduceNeg, not_true_eq_false, not_false_eq_true]
  rw [k101_1]
  simp +decide (maxSteps := 4000000) (disch := omega) only [k101_0, k101_2, k101_r, k101_s, T_I, F_is4i, F_is4r, F_is4m, F_is5i, F_is5r, F_is5m, T_ft, F_il5, J_iflt, F_il4, F_il0, T_shr, T_and, F_il3, F_il2, T_sub, T_mul, F_il1, T_add, T_i2l, T_shl, T_or, F_inc5i, F_inc5r, F_inc5m, T_goto, T_ret, c146, ↓s146, sr16, sr8, sr0, an255, sl16, sl8, sl0, or16, or8', or_0, J_l, L_mul, L_add, ↓reduceIte, TK, lt_run hn, le43, Int.le_refl, Int.lt_irrefl, Option.some.injEq, exists_eq_left', true_and, and_true, if_true, if_false, decide_eq_false_iff_not, decide_eq_true_eq, Nat.reduceAdd, Nat.reduceLeDiff, Nat.reduceLT, Int.reduceAdd, Int.reduceSub, Int.reduceMul, Int.reduceNeg, not_true_eq_false, not_false_eq_true]
  rw [k101_1]
  simp +decide (maxSteps := 4000000) (disch := omega) only [k101_0, k101_2, k101_r, k101_s, T_I, F_is4i, F_is4r, F_is4m, F_is5i, F_is5r, F_is5m, T_ft, F_il5, J_iflt, F_il4, F_il0, T_shr, T_and, F_il3, F_il2, T_sub, T_mul, F_il1, T_add, T_i2l, T_shl, T_or, F_inc5i, F_inc5r, F_inc5m, T_goto, T_ret, c146, ↓s146, sr16, sr8, sr0, an255, sl16, sl8, sl0, or16, or8', or_0, J_l, L_mul, L_add, ↓reduceIte, TK, lt_run hn, le43, Int.le_refl, Int.lt_irrefl, Option.some.injEq, exists_eq_left', true_and, and_true, if_true, if_false, decide_eq_false_iff_not, decide_eq_true_eq, Nat.reduceAdd, Nat.reduceLeDiff, Nat.reduceLT, Int.reduceAdd, Int.reduceSub, Int.reduceMul, Int.reduceNeg, not_true_eq_false, not_false_eq_true]
  rw [k101_1]
  simp +decide (maxSteps := 4000000) (disch := omega) only [k101_0, k101_2, k101_r, k101_s, T_I, F_is4i, F_is4r, F_is4m, F_is5i, F_is5r, F_is5m, T_ft, F_il5, J_iflt, F_il4, F_il0, T_shr, T_and, F_il3, F_il2, T_sub, T_mul, F_il1, T_add, T_i2l, T_shl, T_or, F_inc5i, F_inc5r, F_inc5m, T_goto, T_ret, c146, ↓s146, sr16, sr8, sr0, an255, sl16, sl8, sl0, or16, or8', or_0, J_l, L_mul, L_add, ↓reduceIte, TK, lt_run hn, le43, Int.le_refl, Int.lt_irrefl, Option.some.injEq, exists_eq_left', true_and, and_true, if_true, if_false, decide_eq_false_iff_not, decide_eq_true_eq, Nat.reduceAdd, Nat.reduceLeDiff, Nat.reduceLT, Int.reduceAdd, Int.reduceSub, Int.reduceMul, Int.reduceNeg, not_true_eq_false, not_false_eq_true]
  rw [k101_1]
  simp +decide (maxSteps := 4000000) (disch := omega) only [k101_0, k101_2, k101_r, k101_s, T_I, F_is4i, F_is4r, F_is4m, F_is5i, F_is5r, F_is5m, T_ft, F_il5, J_iflt, F_il4, F_il0, T_shr, T_and, F_il3, F_il2, T_sub, T_mul, F_il1, T_add, T_i2l, T_shl, T_or, F_inc5i, F_inc5r, F_inc5m, T_goto, T_ret, c146, ↓s146, ↓reduceIte, TK, lt_run hn, le43, Int.le_refl, Int.lt_irrefl, Option.some.injEq, exists_eq_left', true_and, and_true, if_true, if_false, decide_eq_false_iff_not, decide_eq_true_eq, Nat.reduceAdd, Nat.reduceLeDiff, Nat.reduceLT, Int.reduceAdd, Int.reduceSub, Int.reduceMul, Int.reduceNeg, not_true_eq_false, not_false_eq_true]
end PJ
