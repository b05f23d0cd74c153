/-! film: the class's frame -/
section FI
variable {E : AEn} {h h' : AHi} {hr : AHr} {n r : Nat} {cap : Int} {Q : ARs → Prop} {l : List Int} {A B : Pic}
theorem w11b (O : Or E hr n r cap) (C : OC h r l) (hl : l.length < cap) {w : Int32} {v : Int} (hw : a_byte w = a_byte (J v)) (k : ∀ h', OC h' r (l ++ [v]) → Ef (Sw r) h h' → Q (none, h', hr, n)) : Sp E 11 [.ref 46, .int w] h hr n Q := by
  rw [s11 O.1 _ C.1 (by omega) hl]
  have hne : r ≠ 46 := by rcases O.2 with q | q <;> omega
  refine k _ ⟨?_, fun i i0 i1 => ?_⟩ ((Ef.refl.sA (Or.inr rfl)).hI (Or.inl ⟨rfl, rfl⟩))
  · rw [hI_s, List.length_append]
    rfl
  · rw [gA_o hne]
    rw [List.length_append] at i1
    have i1' : i < (l.length : Int) + 1 := i1
    by_cases g : i = l.length
    · subst g
      rw [gs_s, Int.toNat_natCast, gD_b]
      exact hw
    · rw [gs_k (by omega) i0 g, gD_a (by omega)]
      exact C.2 i i0 (by omega)
theorem bm {v : Int} (h : 0 ≤ v ∧ v < 2147483648) : a_byte (J v) = a_byte (J (v % 256)) := by
  rw [← an255 h, byte_mask]
theorem la1 (l : List Int) (v : Int) : ((l ++ [v]).length : Int) = (l.length : Int) + 1 := by
  rw [List.length_append]
  rfl
theorem w108 (O : Or E hr n r cap) (hn : 775 ≤ n) (C : OC h r l) {v : Int} (hl : (l.length : Int) + 4 ≤ cap) (hv : -1 ≤ v ∧ v ≤ 16777215) (k : ∀ h', OC h' r (l ++ pxB v) → Ef (Sw r) h h' → Q (none, h', hr, n)) : Sp E 108 [.ref 46, .int (J v)] h hr n Q := by
  have o1 := O.1.2.2.2.1
  unfold pxB at k
  by_cases g : v = -1
  · rw [if_pos g] at k
    simp +decide (maxSteps := 4000000) (disch := omega) only [k108_0, k108_1, k108_2, k108_r, k108_s, F_il1, T_I, J_icne, F_al0, T_goto, T_shr, T_ft, T_ret, c11, ↓s11, g, o1, kd_46, ↓reduceIte, TK, lt_run hn, le43, Int.le_refl, Int.lt_irrefl, Option.some.injEq, exists_eq_left', true_and, and_true, if_true, if_false, decide_eq_false_iff_not, decide_eq_true_eq, Nat.reduceAdd, Nat.reduceLeDiff, Nat.reduceLT, Int.reduceAdd, Int.reduceSub, Int.reduceMul, Int.reduceNeg, not_true_eq_false, not_false_eq_true]
    refine w11 O C (by omega) (fun h1 C1 e1 => ?_)
    simp +decide (maxSteps := 4000000) (disch := omega) only [k108_0, k108_1, k108_2, k108_r, k108_s, F_il1, T_I, J_icne, F_al0, T_goto, T_shr, T_ft, T_ret, c11, ↓s11, ↓reduceIte, TK, lt_run hn, le43, Int.le_refl, Int.lt_irrefl, Option.some.injEq, exists_eq_left', true_and, and_true, if_true, if_false, decide_eq_false_iff_not, decide_eq_true_eq, Nat.reduceAdd, Nat.reduceLeDiff, Nat.reduceLT, Int.reduceAdd, Int.reduceSub, Int.reduceMul, Int.reduceNeg, not_true_eq_false, not_false_eq_true]
    exact k h1 C1 e1
  · rw [if_neg g] at k
    simp +decide (maxSteps := 4000000) (disch := omega) only [k108_0, k108_1, k108_2, k108_r, k108_s, F_il1, T_I, J_icne, F_al0, T_goto, T_shr, T_ft, T_ret, c11, ↓s11, g, o1, kd_46, ↓reduceIte, TK, lt_run hn, le43, Int.le_refl, Int.lt_irrefl, Option.some.injEq, exists_eq_left', true_and, and_true, if_true, if_false, decide_eq_false_iff_not, decide_eq_true_eq, Nat.reduceAdd, Nat.reduceLeDiff, Nat.reduceLT, Int.reduceAdd, Int.reduceSub, Int.reduceMul, Int.reduceNeg, not_true_eq_false, not_false_eq_true]
    refine w11 O C (by omega) (fun h1 C1 e1 => ?_)
    simp +decide (maxSteps := 4000000) (disch := omega) only [k108_0, k108_1, k108_2, k108_r, k108_s, F_il1, T_I, J_icne, F_al0, T_goto, T_shr, T_ft, T_ret, c11, ↓s11, sr16, o1, kd_46, ↓reduceIte, TK, lt_run hn, le43, Int.le_refl, Int.lt_irrefl, Option.some.injEq, exists_eq_left', true_and, and_true, if_true, if_false, decide_eq_false_iff_not, decide_eq_true_eq, Nat.reduceAdd, Nat.reduceLeDiff, Nat.reduceLT, Int.reduceAdd, Int.reduceSub, Int.reduceMul, Int.reduceNeg, not_true_eq_false, not_false_eq_true]
    refine w11 O C1 (by rw [la1]; omega) (fun h2 C2 e2 => ?_)
    simp +decide (maxSteps := 4000000) (disch := omega) only [k108_0, k108_1, k108_2, k108_r, k108_s, F_il1, T_I, J_icne, F_al0, T_goto, T_shr, T_ft, T_ret, c11, ↓s11, sr8, o1, kd_46, ↓reduceIte, TK, lt_run hn, le43, Int.le_refl, Int.lt_irrefl, Option.some.injEq, exists_eq_left', true_and, and_true, if_true, if_false, decide_eq_false_iff_not, decide_eq_true_eq, Nat.reduceAdd, Nat.reduceLeDiff, Nat.reduceLT, Int.reduceAdd, Int.reduceSub, Int.reduceMul, Int.reduceNeg, not_true_eq_false, not_false_eq_true]
    refine w11b O C2 (by rw [la1, la1]; omega) (bm (by omega)) (fun h3 C3 e3 => ?_)
    simp +decide (maxSteps := 4000000) (disch := omega) only [k108_0, k108_1, k108_2, k108_r, k108_s, F_il1, T_I, J_icne, F_al0, T_goto, T_shr, T_ft, T_ret, c11, ↓s11, o1, kd_46, ↓reduceIte, TK, lt_run hn, le43, Int.le_refl, Int.lt_irrefl, Option.some.injEq, exists_eq_left', true_and, and_true, if_true, if_false, decide_eq_false_iff_not, decide_eq_true_eq, Nat.reduceAdd, Nat.reduceLeDiff, Nat.reduceLT, Int.reduceAdd, Int.reduceSub, Int.reduceMul, Int.reduceNeg, not_true_eq_false, not_false_eq_true]
    refine w11b O C3 (by rw [la1, la1, la1]; omega) (bm (by omega)) (fun h4 C4 e4 => ?_)
    simp +decide (maxSteps := 4000000) (disch := omega) only [k108_0, k108_1, k108_2, k108_r, k108_s, F_il1, T_I, J_icne, F_al0, T_goto, T_shr, T_ft, T_ret, c11, ↓s11, ↓reduceIte, TK, lt_run hn, le43, Int.le_refl, Int.lt_irrefl, Option.some.injEq, exists_eq_left', true_and, and_true, if_true, if_false, decide_eq_false_iff_not, decide_eq_true_eq, Nat.reduceAdd, Nat.reduceLeDiff, Nat.reduceLT, Int.reduceAdd, Int.reduceSub, Int.reduceMul, Int.reduceNeg, not_true_eq_false, not_false_eq_true]
    refine k h4 ?_ (((e1.trans e2).trans e3).trans e4)
    rw [List.append_assoc, List.append_assoc, List.append_assoc] at C4
    exact C4
theorem z107 (F : FH hr) (hn : 775 ≤ n) {g : Nat} (G : AR E g) (P1 : PA h g A) (P2 : PA h 141 B) (R1 : pcR A) (R2 : pcR B) {s : Bool} {p : Int} (hp : 0 ≤ p) : ∀ (k : Nat) (i : Int), i + k = 255 → 0 ≤ i → p + i ≤ 1536 → Q (some (.int (J (i + rnn A B s (p + i) k))), h, hr, n) → Tm E 107 (a_bl 107 1) [.ref 113, .int (J p), .ref g, .int (Bz s), .int (J i)] [] h hr n Q := by
  obtain ⟨g1, g2, g3, g4⟩ := G
  intro k
  induction k with
  | zero =>
    intro i hi i0 i1 q
    have q' : Q (some (.int (J i)), h, hr, n) := by
      have e : rnn A B s (p + i) 0 = 0 := rfl
      rw [e, Int.add_zero] at q
      exact q
    rw [k107_1]
    simp +decide (maxSteps := 4000000) (disch := omega) only [k107_0, k107_2, k107_3, k107_4, k107_r, k107_s, T_I, F_is4i, F_is4r, F_is4m, T_ft, F_il4, T_icge, F_il1, T_add, F_al2, X_iald, F_al0, T_getR, J_icne, T_goto, F_il3, F_inc4i, F_inc4r, F_inc4m, T_ret, show 255 ≤ i by omega, ↓reduceIte, TK, lt_run hn, le43, Int.le_refl, Int.lt_irrefl, Option.some.injEq, exists_eq_left', true_and, and_true, if_true, if_false, decide_eq_false_iff_not, decide_eq_true_eq, Nat.reduceAdd, Nat.reduceLeDiff, Nat.reduceLT, Int.reduceAdd, Int.reduceSub, Int.reduceMul, Int.reduceNeg, not_true_eq_false, not_false_eq_true]
    exact q'
  | succ k ih =>
    intro i hi i0 i1 q
    have e : rnn A B s (p + i) (k + 1) = if p + i < 1536 ∧ decide (A (p + i) = B (p + i)) = s then 1 + rnn A B s (p + i + 1) k else 0 := rfl
    by_cases z0 : p + i < 1536
    case neg =>
      rw [if_neg (fun w => z0 w.1)] at e
      rw [e, Int.add_zero] at q
      rw [k107_1]
      simp +decide (maxSteps := 4000000) (disch := omega) only [k107_0, k107_2, k107_3, k107_4, k107_r, k107_s, T_I, F_is4i, F_is4r, F_is4m, T_ft, F_il4, T_icge, F_il1, T_add, F_al2, X_iald, F_al0, T_getR, J_icne, T_goto, F_il3, F_inc4i, F_inc4r, F_inc4m, T_ret, show ¬ 255 ≤ i by omega, show 1536 ≤ p + i by omega, ↓reduceIte, TK, lt_run hn, le43, Int.le_refl, Int.lt_irrefl, Option.some.injEq, exists_eq_left', true_and, and_true, if_true, if_false, decide_eq_false_iff_not, decide_eq_true_eq, Nat.reduceAdd, Nat.reduceLeDiff, Nat.reduceLT, Int.reduceAdd, Int.reduceSub, Int.reduceMul, Int.reduceNeg, not_true_eq_false, not_false_eq_true]
      exact q
    have d1 := P1 (p + i) (by omega) z0
    have d2 := P2 (p + i) (by omega) z0
    have r1 := R1 (p + i) (by omega) z0
    have r2 := R2 (p + i) (by omega) z0
    have go : decide (A (p + i) = B (p + i)) = s → Tm E 107 (a_bl 107 1) [.ref 113, .int (J p), .ref g, .int (Bz s), .int (J (i + 1))] [] h hr n Q := fun w => by
      refine ih (i + 1) (by omega) (by omega) (by omega) ?_
      rw [if_pos ⟨z0, w⟩] at e
      rw [e] at q
      rw [show p + (i + 1) = p + i + 1 by omega, show i + 1 + rnn A B s (p + i + 1) k = i + (1 + rnn A B s (p + i + 1) k) by omega]
      exact q
    have st : decide (A (p + i) = B (p + i)) ≠ s → Q (some (.int (J i)), h, hr, n) := fun w => by
      rw [if_neg (fun y => w y.2)] at e
      rw [e, Int.add_zero] at q
      exact q
    by_cases z1 : A (p + i) = B (p + i)
    · rw [decide_eq_true z1] at go st
      cases s with
      | true =>
        rw [k107_1]
        simp +decide (maxSteps := 4000000) (disch := omega) only [k107_0, k107_2, k107_3, k107_4, k107_r, k107_s, T_I, F_is4i, F_is4r, F_is4m, T_ft, F_il4, T_icge, F_il1, T_add, F_al2, X_iald, F_al0, T_getR, J_icne, T_goto, F_il3, F_inc4i, F_inc4r, F_inc4m, T_ret, FX F, g1, g2, d1, d2, eq_true z1, Bz_t, ln_141, show ¬ 255 ≤ i by omega, show ¬ 1536 ≤ p + i by omega, ↓reduceIte, TK, lt_run hn, le43, Int.le_refl, Int.lt_irrefl, Option.some.injEq, exists_eq_left', true_and, and_true, if_true, if_false, decide_eq_false_iff_not, decide_eq_true_eq, Nat.reduceAdd, Nat.reduceLeDiff, Nat.reduceLT, Int.reduceAdd, Int.reduceSub, Int.reduceMul, Int.reduceNeg, not_true_eq_false, not_false_eq_true]
        exact go rfl
      | false =>
        rw [k107_1]
        simp +decide (maxSteps := 4000000) (disch := omega) only [k107_0, k107_2, k107_3, k107_4, k107_r, k107_s, T_I, F_is4i, F_is4r, F_is4m, T_ft, F_il4, T_icge, F_il1, T_add, F_al2, X_iald, F_al0, T_getR, J_icne, T_goto, F_il3, F_inc4i, F_inc4r, F_inc4m, T_ret, FX F, g1, g2, d1, d2, eq_true z1, Bz_f, ln_141, show ¬ 255 ≤ i by omega, show ¬ 1536 ≤ p + i by omega, ↓reduceIte, TK, lt_run hn, le43, Int.le_refl, Int.lt_irrefl, Option.some.injEq, exists_eq_left', true_and, and_true, if_true, if_false, decide_eq_false_iff_not, decide_eq_true_eq, Nat.reduceAdd, Nat.reduceLeDiff, Nat.reduceLT, Int.reduceAdd, Int.reduceSub, Int.reduceMul, Int.reduceNeg, not_true_eq_false, not_false_eq_true]
        exact st (by decide)
    · rw [decide_eq_false z1] at go st
      cases s with
      | true =>
        rw [k107_1]
        simp +decide (maxSteps := 4000000) (disch := omega) only [k107_0, k107_2, k107_3, k107_4, k107_r, k107_s, T_I, F_is4i, F_is4r, F_is4m, T_ft, F_il4, T_icge, F_il1, T_add, F_al2, X_iald, F_al0, T_getR, J_icne, T_goto, F_il3, F_inc4i, F_inc4r, F_inc4m, T_ret, FX F, g1, g2, d1, d2, z1, Bz_t, ln_141, show ¬ 255 ≤ i by omega, show ¬ 1536 ≤ p + i by omega, ↓reduceIte, TK, lt_run hn, le43, Int.le_refl, Int.lt_irrefl, Option.some.injEq, exists_eq_left', true_and, and_true, if_true, if_false, decide_eq_false_iff_not, decide_eq_true_eq, Nat.reduceAdd, Nat.reduceLeDiff, Nat.reduceLT, Int.reduceAdd, Int.reduceSub, Int.reduceMul, Int.reduceNeg, not_true_eq_false, not_false_eq_true]
        exact st (by decide)
      | false =>
        rw [k107_1]
        simp +decide (maxSteps := 4000000) (disch := omega) only [k107_0, k107_2, k107_3, k107_4, k107_r, k107_s, T_I, F_is4i, F_is4r, F_is4m, T_ft, F_il4, T_icge, F_il1, T_add, F_al2, X_iald, F_al0, T_getR, J_icne, T_goto, F_il3, F_inc4i, F_inc4r, F_inc4m, T_ret, FX F, g1, g2, d1, d2, z1, Bz_f, ln_141, show ¬ 255 ≤ i by omega, show ¬ 1536 ≤ p + i by omega, ↓reduceIte, TK, lt_run hn, le43, Int.le_refl, Int.lt_irrefl, Option.some.injEq, exists_eq_left', true_and, and_true, if_true, if_false, decide_eq_false_iff_not, decide_eq_true_eq, Nat.reduceAdd, Nat.reduceLeDiff, Nat.reduceLT, Int.reduceAdd, Int.reduceSub, Int.reduceMul, Int.reduceNeg, not_true_eq_false, not_false_eq_true]
        exact go rfl
theorem w107 (F : FH hr) (hn : 775 ≤ n) {g : Nat} (G : AR E g) (P1 : PA h g A) (P2 : PA h 141 B) (R1 : pcR A) (R2 : pcR B) {s : Bool} {p : Int} (hp : 0 ≤ p ∧ p ≤ 1536) (k : Q (some (.int (J (rnn A B s p 255))), h, hr, n)) : Sp E 107 [.ref 113, .int (J p), .ref g, .int (Bz s)] h hr n Q := by
  simp +decide (maxSteps := 4000000) (disch := omega) only [k107_0, k107_2, k107_3, k107_4, k107_r, k107_s, T_I, F_is4i, F_is4r, F_is4m, T_ft, F_il4, T_icge, F_il1, T_add, F_al2, X_iald, F_al0, T_getR, J_icne, T_goto, F_il3, F_inc4i, F_inc4r, F_inc4m, T_ret, ↓reduceIte, TK, lt_run hn, le43, Int.le_refl, Int.lt_irrefl, Option.some.injEq, exists_eq_left', true_and, and_true, if_true, if_false, decide_eq_false_iff_not, decide_eq_true_eq, Nat.reduceAdd, Nat.reduceLeDiff, Nat.reduceLT, Int.reduceAdd, Int.reduceSub, Int.reduceMul, Int.reduceNeg, not_true_eq_false, not_false_eq_true]
  refine z107 F hn G P1 P2 R1 R2 hp.1 255 0 (by decide) (by decide) (by omega) ?_
  rw [Int.add_zero, Int.zero_add]
  exact k
end FI
