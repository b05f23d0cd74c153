/-! angle, at, key -/
section PU
variable {E : AEn} {h h' : AHi} {hr : AHr} {n : Nat} {Q : ARs → Prop} {N : Int} {b : Int → Bn}
theorem s168 (hn : 775 ≤ n) (c : h 43 10 = J N) (hN : 0 ≤ N ∧ N ≤ 10) {a : Int} (ha : -2147483648 ≤ a) (ha' : a < 2147483648) : Sp E 168 [.ref 43, .int (J a)] h hr n Q ↔ Q (some (.int (Bz (decide (0 ≤ a ∧ a ≤ N - 1)))), h, hr, n) := by
  simp +decide (maxSteps := 4000000) (disch := omega) only [k168_0, k168_r, k168_s, F_il1, T_I, F_al0, T_getI, T_sub, T_ret, c138, ↓s138, c, ↓reduceIte, TK, lt_run hn, le43, Int.le_refl, Int.lt_irrefl, Option.some.injEq, exists_eq_left', true_and, and_true, if_true, if_false, decide_eq_false_iff_not, decide_eq_true_eq, Nat.reduceAdd, Nat.reduceLeDiff, Nat.reduceLT, Int.reduceAdd, Int.reduceSub, Int.reduceMul, Int.reduceNeg, not_true_eq_false, not_false_eq_true]
theorem s286 (hn : 775 ≤ n) (c : h 704 50 = J N) (hN : 0 ≤ N ∧ N ≤ 10) {a : Int} (ha : -2147483648 ≤ a) (ha' : a < 2147483648) : Sp E 286 [.ref 704, .int (J a)] h hr n Q ↔ Q (some (.int (Bz (decide (0 ≤ a ∧ a ≤ N - 1)))), h, hr, n) := by
  simp +decide (maxSteps := 4000000) (disch := omega) only [k286_0, k286_r, k286_s, F_il1, T_I, F_al0, T_getI, T_sub, T_ret, c219, ↓s219, c, ↓reduceIte, TK, lt_run hn, le43, Int.le_refl, Int.lt_irrefl, Option.some.injEq, exists_eq_left', true_and, and_true, if_true, if_false, decide_eq_false_iff_not, decide_eq_true_eq, Nat.reduceAdd, Nat.reduceLeDiff, Nat.reduceLT, Int.reduceAdd, Int.reduceSub, Int.reduceMul, Int.reduceNeg, not_true_eq_false, not_false_eq_true]
theorem Pangle (F : FH hr) (hn : 775 ≤ n) (C : Cp12 h hr) (x y : Int32) : Pr2 E 174 290 [.int x, .int y] h hr n (Po (fun _ => True) 0 0 h hr n) := by
  obtain ⟨N, b, C⟩ := C
  obtain ⟨a, ha, ha', rfl⟩ := J_of x
  obtain ⟨f, hf, hf', rfl⟩ := J_of y
  have hN := C.1
  unfold Pr2
  by_cases g1 : 0 ≤ a ∧ a ≤ N - 1
  case neg =>
    simp +decide (maxSteps := 4000000) (disch := omega) only [k174_0, k174_1, k174_2, k174_r, k174_s, F_al0, F_il1, J_ifeq, F_il2, J_ifne, T_ft, T_I, T_ret, T_getR, X_aald, c2, c168, c173, ↓s2, ↓s173, FX F, ↓s168 hn C.2.2.1.1 hN, ↓s286 hn C.2.2.1.2 hN, g1, ↓reduceIte, TK, lt_run hn, le43, Int.le_refl, Int.lt_irrefl, Option.some.injEq, exists_eq_left', true_and, and_true, if_true, if_false, decide_eq_false_iff_not, decide_eq_true_eq, Nat.reduceAdd, Nat.reduceLeDiff, Nat.reduceLT, Int.reduceAdd, Int.reduceSub, Int.reduceMul, Int.reduceNeg, not_true_eq_false, not_false_eq_true]
    refine ⟨_, rfl, ?_⟩
    simp +decide (maxSteps := 4000000) (disch := omega) only [k290_0, k290_1, k290_2, k290_r, k290_s, F_al0, F_il1, J_ifeq, F_il2, T_goto, T_I, T_ft, T_ret, c286, c287, c291, ↓s287, FM F, ↓s168 hn C.2.2.1.1 hN, ↓s286 hn C.2.2.1.2 hN, g1, ↓reduceIte, TK, lt_run hn, le43, Int.le_refl, Int.lt_irrefl, Option.some.injEq, exists_eq_left', true_and, and_true, if_true, if_false, decide_eq_false_iff_not, decide_eq_true_eq, Nat.reduceAdd, Nat.reduceLeDiff, Nat.reduceLT, Int.reduceAdd, Int.reduceSub, Int.reduceMul, Int.reduceNeg, not_true_eq_false, not_false_eq_true]
    first | exact ⟨rfl, ⟨trivial, Kp.refl⟩, rfl, rfl⟩ | exact ⟨⟨trivial, Kp.refl⟩, rfl, rfl⟩ | exact ⟨trivial, Kp.refl⟩
  by_cases g2 : 0 ≤ f ∧ f ≤ 119
  case neg =>
    simp +decide (maxSteps := 4000000) (disch := omega) only [k174_0, k174_1, k174_2, k174_r, k174_s, F_al0, F_il1, J_ifeq, F_il2, J_ifne, T_ft, T_I, T_ret, T_getR, X_aald, c2, c168, c173, ↓s2, ↓s173, FX F, ↓s168 hn C.2.2.1.1 hN, ↓s286 hn C.2.2.1.2 hN, g1, g2, ↓reduceIte, TK, lt_run hn, le43, Int.le_refl, Int.lt_irrefl, Option.some.injEq, exists_eq_left', true_and, and_true, if_true, if_false, decide_eq_false_iff_not, decide_eq_true_eq, Nat.reduceAdd, Nat.reduceLeDiff, Nat.reduceLT, Int.reduceAdd, Int.reduceSub, Int.reduceMul, Int.reduceNeg, not_true_eq_false, not_false_eq_true]
    refine ⟨_, rfl, ?_⟩
    simp +decide (maxSteps := 4000000) (disch := omega) only [k290_0, k290_1, k290_2, k290_r, k290_s, F_al0, F_il1, J_ifeq, F_il2, T_goto, T_I, T_ft, T_ret, c286, c287, c291, ↓s287, FM F, ↓s168 hn C.2.2.1.1 hN, ↓s286 hn C.2.2.1.2 hN, g1, g2, ↓reduceIte, TK, lt_run hn, le43, Int.le_refl, Int.lt_irrefl, Option.some.injEq, exists_eq_left', true_and, and_true, if_true, if_false, decide_eq_false_iff_not, decide_eq_true_eq, Nat.reduceAdd, Nat.reduceLeDiff, Nat.reduceLT, Int.reduceAdd, Int.reduceSub, Int.reduceMul, Int.reduceNeg, not_true_eq_false, not_false_eq_true]
    first | exact ⟨rfl, ⟨trivial, Kp.refl⟩, rfl, rfl⟩ | exact ⟨⟨trivial, Kp.refl⟩, rfl, rfl⟩ | exact ⟨trivial, Kp.refl⟩
  have x1 := X98 F g1.1 (show a < 10 by omega)
  have V := C.v F (i := a) (by omega) (by omega)
  have e := bid_p g1.1
  have S := fun Q => s2 (E := E) (Q := Q) F hn V g2
  change ∀ Q, Sp E 2 [.ref (bid a), .int (J f)] h hr n Q ↔ Q (some (.int (J (an b f a))), h, hr, n) at S
  rw [e] at S
  have x2 := V.1.x E F
  have x3 := V.1.r
  rw [e] at x2 x3
  simp +decide (maxSteps := 4000000) (disch := omega) only [k174_0, k174_1, k174_2, k174_r, k174_s, F_al0, F_il1, J_ifeq, F_il2, J_ifne, T_ft, T_I, T_ret, T_getR, X_aald, c2, c168, c173, ↓s173, FX F, ↓s168 hn C.2.2.1.1 hN, g1, g2, x1, x2, S, kd_98, ln_98, ↓reduceIte, TK, lt_run hn, le43, Int.le_refl, Int.lt_irrefl, Option.some.injEq, exists_eq_left', true_and, and_true, if_true, if_false, decide_eq_false_iff_not, decide_eq_true_eq, Nat.reduceAdd, Nat.reduceLeDiff, Nat.reduceLT, Int.reduceAdd, Int.reduceSub, Int.reduceMul, Int.reduceNeg, not_true_eq_false, not_false_eq_true]
  refine ⟨_, rfl, ?_⟩
  simp +decide (maxSteps := 4000000) (disch := omega) only [k290_0, k290_1, k290_2, k290_r, k290_s, F_al0, F_il1, J_ifeq, F_il2, T_goto, T_I, T_ft, T_ret, c286, c287, c291, ↓s287, FM F, ↓s286 hn C.2.2.1.2 hN, g1, g2, ↓reduceIte, TK, lt_run hn, le43, Int.le_refl, Int.lt_irrefl, Option.some.injEq, exists_eq_left', true_and, and_true, if_true, if_false, decide_eq_false_iff_not, decide_eq_true_eq, Nat.reduceAdd, Nat.reduceLeDiff, Nat.reduceLT, Int.reduceAdd, Int.reduceSub, Int.reduceMul, Int.reduceNeg, not_true_eq_false, not_false_eq_true]
  refine w291 F hn g1.1 (by omega) (C.2.1 a g1.1 (by omega)) (C.2.2.2.1 a g1.1 (by omega)).2 g2 ?_
  simp +decide (maxSteps := 4000000) (disch := omega) only [k290_0, k290_1, k290_2, k290_r, k290_s, F_al0, F_il1, J_ifeq, F_il2, T_goto, T_I, T_ft, T_ret, c286, c287, c291, ↓s286, ↓s287, ↓reduceIte, TK, lt_run hn, le43, Int.le_refl, Int.lt_irrefl, Option.some.injEq, exists_eq_left', true_and, and_true, if_true, if_false, decide_eq_false_iff_not, decide_eq_true_eq, Nat.reduceAdd, Nat.reduceLeDiff, Nat.reduceLT, Int.reduceAdd, Int.reduceSub, Int.reduceMul, Int.reduceNeg, not_true_eq_false, not_false_eq_true]
  exact ⟨⟨trivial, Kp.refl⟩, rfl, rfl⟩
theorem Bw.ef0 {S : Nat → Nat → Prop} (C : Bw N b h hr) (e : Ef S h h') (hs : ∀ a k, sys a k = 12 → ¬ S a k) : Bw N b h' hr := C.sm (fun a k q => e a k (hs a k q))
theorem Pat (F : FH hr) (hn : 775 ≤ n) (C : Cp12 h hr) (C11 : Cp11 h) (x y z : Int32) : Pr2 E 175 293 [.int x, .int y, .int z] h hr n (Po (fun _ => True) 0 0 h hr n) := by
  obtain ⟨N, b, C⟩ := C
  obtain ⟨pX, pY, pr, ⟨p1, p2⟩, p3, p4⟩ := C11
  obtain ⟨a, ha, ha', rfl⟩ := J_of x
  obtain ⟨f, hf, hf', rfl⟩ := J_of y
  obtain ⟨c, hc, hc', rfl⟩ := J_of z
  have hN := C.1
  unfold Pr2
  by_cases g1 : 0 ≤ a ∧ a ≤ N - 1
  case neg =>
    simp +decide (maxSteps := 4000000) (disch := omega) only [k175_0, k175_1, k175_2, k175_3, k175_4, k175_r, k175_s, F_al0, F_il1, J_ifeq, F_il2, F_il3, T_I, J_ifne, T_ft, T_ret, T_getI, T_goto, T_getR, X_aald, T_add, c3, c138, c168, c173, ↓s138, ↓s173, FX F, ↓s168 hn C.2.2.1.1 hN, ↓s286 hn C.2.2.1.2 hN, g1, ↓reduceIte, TK, lt_run hn, le43, Int.le_refl, Int.lt_irrefl, Option.some.injEq, exists_eq_left', true_and, and_true, if_true, if_false, decide_eq_false_iff_not, decide_eq_true_eq, Nat.reduceAdd, Nat.reduceLeDiff, Nat.reduceLT, Int.reduceAdd, Int.reduceSub, Int.reduceMul, Int.reduceNeg, not_true_eq_false, not_false_eq_true]
    refine ⟨_, rfl, ?_⟩
    simp +decide (maxSteps := 4000000) (disch := omega) only [k293_0, k293_1, k293_2, k293_3, k293_4, k293_r, k293_s, F_al0, F_il1, J_ifeq, F_il2, F_il3, T_I, J_ifne, T_ft, T_ret, T_getI, T_goto, c219, c286, c287, c294, c295, ↓s219, ↓s287, FM F, ↓s168 hn C.2.2.1.1 hN, ↓s286 hn C.2.2.1.2 hN, g1, ↓reduceIte, TK, lt_run hn, le43, Int.le_refl, Int.lt_irrefl, Option.some.injEq, exists_eq_left', true_and, and_true, if_true, if_false, decide_eq_false_iff_not, decide_eq_true_eq, Nat.reduceAdd, Nat.reduceLeDiff, Nat.reduceLT, Int.reduceAdd, Int.reduceSub, Int.reduceMul, Int.reduceNeg, not_true_eq_false, not_false_eq_true]
    first | exact ⟨rfl, ⟨trivial, Kp.refl⟩, rfl, rfl⟩ | exact ⟨⟨trivial, Kp.refl⟩, rfl, rfl⟩ | exact ⟨trivial, Kp.refl⟩
  by_cases g2 : 0 ≤ f ∧ f ≤ 119
  case neg =>
    simp +decide (maxSteps := 4000000) (disch := omega) only [k175_0, k175_1, k175_2, k175_3, k175_4, k175_r, k175_s, F_al0, F_il1, J_ifeq, F_il2, F_il3, T_I, J_ifne, T_ft, T_ret, T_getI, T_goto, T_getR, X_aald, T_add, c3, c138, c168, c173, ↓s138, ↓s173, FX F, ↓s168 hn C.2.2.1.1 hN, ↓s286 hn C.2.2.1.2 hN, g1, g2, ↓reduceIte, TK, lt_run hn, le43, Int.le_refl, Int.lt_irrefl, Option.some.injEq, exists_eq_left', true_and, and_true, if_true, if_false, decide_eq_false_iff_not, decide_eq_true_eq, Nat.reduceAdd, Nat.reduceLeDiff, Nat.reduceLT, Int.reduceAdd, Int.reduceSub, Int.reduceMul, Int.reduceNeg, not_true_eq_false, not_false_eq_true]
    refine ⟨_, rfl, ?_⟩
    simp +decide (maxSteps := 4000000) (disch := omega) only [k293_0, k293_1, k293_2, k293_3, k293_4, k293_r, k293_s, F_al0, F_il1, J_ifeq, F_il2, F_il3, T_I, J_ifne, T_ft, T_ret, T_getI, T_goto, c219, c286, c287, c294, c295, ↓s219, ↓s287, FM F, ↓s168 hn C.2.2.1.1 hN, ↓s286 hn C.2.2.1.2 hN, g1, g2, ↓reduceIte, TK, lt_run hn, le43, Int.le_refl, Int.lt_irrefl, Option.some.injEq, exists_eq_left', true_and, and_true, if_true, if_false, decide_eq_false_iff_not, decide_eq_true_eq, Nat.reduceAdd, Nat.reduceLeDiff, Nat.reduceLT, Int.reduceAdd, Int.reduceSub, Int.reduceMul, Int.reduceNeg, not_true_eq_false, not_false_eq_true]
    first | exact ⟨rfl, ⟨trivial, Kp.refl⟩, rfl, rfl⟩ | exact ⟨⟨trivial, Kp.refl⟩, rfl, rfl⟩ | exact ⟨trivial, Kp.refl⟩
  by_cases g3 : 0 ≤ c ∧ c ≤ 1
  case neg =>
    simp +decide (maxSteps := 4000000) (disch := omega) only [k175_0, k175_1, k175_2, k175_3, k175_4, k175_r, k175_s, F_al0, F_il1, J_ifeq, F_il2, F_il3, T_I, J_ifne, T_ft, T_ret, T_getI, T_goto, T_getR, X_aald, T_add, c3, c138, c168, c173, ↓s138, ↓s173, FX F, ↓s168 hn C.2.2.1.1 hN, ↓s286 hn C.2.2.1.2 hN, g1, g2, g3, ↓reduceIte, TK, lt_run hn, le43, Int.le_refl, Int.lt_irrefl, Option.some.injEq, exists_eq_left', true_and, and_true, if_true, if_false, decide_eq_false_iff_not, decide_eq_true_eq, Nat.reduceAdd, Nat.reduceLeDiff, Nat.reduceLT, Int.reduceAdd, Int.reduceSub, Int.reduceMul, Int.reduceNeg, not_true_eq_false, not_false_eq_true]
    refine ⟨_, rfl, ?_⟩
    simp +decide (maxSteps := 4000000) (disch := omega) only [k293_0, k293_1, k293_2, k293_3, k293_4, k293_r, k293_s, F_al0, F_il1, J_ifeq, F_il2, F_il3, T_I, J_ifne, T_ft, T_ret, T_getI, T_goto, c219, c286, c287, c294, c295, ↓s219, ↓s287, FM F, ↓s168 hn C.2.2.1.1 hN, ↓s286 hn C.2.2.1.2 hN, g1, g2, g3, ↓reduceIte, TK, lt_run hn, le43, Int.le_refl, Int.lt_irrefl, Option.some.injEq, exists_eq_left', true_and, and_true, if_true, if_false, decide_eq_false_iff_not, decide_eq_true_eq, Nat.reduceAdd, Nat.reduceLeDiff, Nat.reduceLT, Int.reduceAdd, Int.reduceSub, Int.reduceMul, Int.reduceNeg, not_true_eq_false, not_false_eq_true]
    first | exact ⟨rfl, ⟨trivial, Kp.refl⟩, rfl, rfl⟩ | exact ⟨⟨trivial, Kp.refl⟩, rfl, rfl⟩ | exact ⟨trivial, Kp.refl⟩
  have x1 := X98 F g1.1 (show a < 10 by omega)
  have V := C.v F (i := a) (by omega) (by omega)
  have e := bid_p g1.1
  have x2 := V.1.x E F
  have x3 := V.1.r
  rw [e] at x2 x3
  have R := C.2.1
  have e8 := eE_r R hN.2 (an b f) 8 (i := a) (by omega) (by omega)
  have e0 := eE_r R hN.2 (an b f) 0 (i := a) (by omega) (by omega)
  have ref : ∀ v, v = (if c = 0 then pX + eE b (an b f) 8 a else pY + eE b (an b f) 0 a) → Sp E 293 [.ref 704, .int (J a), .int (J f), .int (J c)] h hr n (fun q => q.1 = some (.int (J v)) ∧ Po (fun _ => True) 0 0 h hr n q.2.1 q.2.2.1 q.2.2.2) := fun v hv => by
    simp +decide (maxSteps := 4000000) (disch := omega) only [k293_0, k293_1, k293_2, k293_3, k293_4, k293_r, k293_s, F_al0, F_il1, J_ifeq, F_il2, F_il3, T_I, J_ifne, T_ft, T_ret, T_getI, T_goto, c219, c286, c287, c294, c295, ↓s219, ↓s287, FM F, ↓s286 hn C.2.2.1.2 hN, g1, g2, g3, ↓reduceIte, TK, lt_run hn, le43, Int.le_refl, Int.lt_irrefl, Option.some.injEq, exists_eq_left', true_and, and_true, if_true, if_false, decide_eq_false_iff_not, decide_eq_true_eq, Nat.reduceAdd, Nat.reduceLeDiff, Nat.reduceLT, Int.reduceAdd, Int.reduceSub, Int.reduceMul, Int.reduceNeg, not_true_eq_false, not_false_eq_true]
    refine w294 F hn C g2 (fun h1 A1 e1 => ?_)
    simp +decide (maxSteps := 4000000) (disch := omega) only [k293_0, k293_1, k293_2, k293_3, k293_4, k293_r, k293_s, F_al0, F_il1, J_ifeq, F_il2, F_il3, T_I, J_ifne, T_ft, T_ret, T_getI, T_goto, c219, c286, c287, c294, c295, ↓s219, ↓s286, ↓s287, FM F, ↓reduceIte, TK, lt_run hn, le43, Int.le_refl, Int.lt_irrefl, Option.some.injEq, exists_eq_left', true_and, and_true, if_true, if_false, decide_eq_false_iff_not, decide_eq_true_eq, Nat.reduceAdd, Nat.reduceLeDiff, Nat.reduceLT, Int.reduceAdd, Int.reduceSub, Int.reduceMul, Int.reduceNeg, not_true_eq_false, not_false_eq_true]
    have C1 := C.ef0 e1 (fun a k q q' => by rw [q'] at q; cases q)
    refine w295 F hn C1 (A := an b f) (fun i i0 i1 => ⟨A1 i i0 i1, an_r R f (by omega) i1⟩) pr.1 pr.2 (by rw [e1 _ _ (by decide)]; exact p3) (by rw [e1 _ _ (by decide)]; exact p4) g1.1 (by omega) ?_
    have K1 : Kp 0 0 h (hI (hI h1 704 61 (J (pX + eE b (an b f) 8 a))) 704 62 (J (pY + eE b (an b f) 0 a))) := Kp.hI0 (Kp.hI0 (Kp.of e1 (fun a k q => by rw [q]; exact Or.inl rfl)) rfl) rfl
    have q1 : hI (hI h1 704 61 (J (pX + eE b (an b f) 8 a))) 704 62 (J (pY + eE b (an b f) 0 a)) 704 61 = J (pX + eE b (an b f) 8 a) := by rw [hI_k (by decide), hI_s]
    have q2 : hI (hI h1 704 61 (J (pX + eE b (an b f) 8 a))) 704 62 (J (pY + eE b (an b f) 0 a)) 704 62 = J (pY + eE b (an b f) 0 a) := hI_s
    rcases (show c = 0 ∨ c = 1 by omega) with rfl | rfl
    · rw [if_pos rfl] at hv
      simp +decide (maxSteps := 4000000) (disch := omega) only [k293_0, k293_1, k293_2, k293_3, k293_4, k293_r, k293_s, F_al0, F_il1, J_ifeq, F_il2, F_il3, T_I, J_ifne, T_ft, T_ret, T_getI, T_goto, c219, c286, c287, c294, c295, ↓s219, ↓s286, ↓s287, FM F, q1, ↓reduceIte, TK, lt_run hn, le43, Int.le_refl, Int.lt_irrefl, Option.some.injEq, exists_eq_left', true_and, and_true, if_true, if_false, decide_eq_false_iff_not, decide_eq_true_eq, Nat.reduceAdd, Nat.reduceLeDiff, Nat.reduceLT, Int.reduceAdd, Int.reduceSub, Int.reduceMul, Int.reduceNeg, not_true_eq_false, not_false_eq_true]
      rw [hv]
      exact ⟨rfl, ⟨trivial, K1⟩, rfl, rfl⟩
    · rw [if_neg (by decide)] at hv
      simp +decide (maxSteps := 4000000) (disch := omega) only [k293_0, k293_1, k293_2, k293_3, k293_4, k293_r, k293_s, F_al0, F_il1, J_ifeq, F_il2, F_il3, T_I, J_ifne, T_ft, T_ret, T_getI, T_goto, c219, c286, c287, c294, c295, ↓s219, ↓s286, ↓s287, FM F, q2, ↓reduceIte, TK, lt_run hn, le43, Int.le_refl, Int.lt_irrefl, Option.some.injEq, exists_eq_left', true_and, and_true, if_true, if_false, decide_eq_false_iff_not, decide_eq_true_eq, Nat.reduceAdd, Nat.reduceLeDiff, Nat.reduceLT, Int.reduceAdd, Int.reduceSub, Int.reduceMul, Int.reduceNeg, not_true_eq_false, not_false_eq_true]
      rw [hv]
      exact ⟨rfl, ⟨trivial, K1⟩, rfl, rfl⟩
  rcases (show c = 0 ∨ c = 1 by omega) with rfl | rfl
  · simp +decide (maxSteps := 4000000) (disch := omega) only [k175_0, k175_1, k175_2, k175_3, k175_4, k175_r, k175_s, F_al0, F_il1, J_ifeq, F_il2, F_il3, T_I, J_ifne, T_ft, T_ret, T_getI, T_goto, T_getR, X_aald, T_add, c3, c138, c168, c173, ↓s138, ↓s173, FX F, ↓s168 hn C.2.2.1.1 hN, g1, g2, x1, x2, p1, kd_98, ln_98, ↓reduceIte, TK, lt_run hn, le43, Int.le_refl, Int.lt_irrefl, Option.some.injEq, exists_eq_left', true_and, and_true, if_true, if_false, decide_eq_false_iff_not, decide_eq_true_eq, Nat.reduceAdd, Nat.reduceLeDiff, Nat.reduceLT, Int.reduceAdd, Int.reduceSub, Int.reduceMul, Int.reduceNeg, not_true_eq_false, not_false_eq_true]
    rw [← e]
    refine w3 F hn C (Or.inl rfl) (by omega) (by omega) g2 ?_
    rw [if_pos rfl]
    simp +decide (maxSteps := 4000000) (disch := omega) only [k175_0, k175_1, k175_2, k175_3, k175_4, k175_r, k175_s, F_al0, F_il1, J_ifeq, F_il2, F_il3, T_I, J_ifne, T_ft, T_ret, T_getI, T_goto, T_getR, X_aald, T_add, c3, c138, c168, c173, ↓s138, ↓s168, ↓s173, ↓reduceIte, TK, lt_run hn, le43, Int.le_refl, Int.lt_irrefl, Option.some.injEq, exists_eq_left', true_and, and_true, if_true, if_false, decide_eq_false_iff_not, decide_eq_true_eq, Nat.reduceAdd, Nat.reduceLeDiff, Nat.reduceLT, Int.reduceAdd, Int.reduceSub, Int.reduceMul, Int.reduceNeg, not_true_eq_false, not_false_eq_true]
    refine ⟨_, rfl, ref _ ?_⟩
    rw [if_pos rfl]
  · simp +decide (maxSteps := 4000000) (disch := omega) only [k175_0, k175_1, k175_2, k175_3, k175_4, k175_r, k175_s, F_al0, F_il1, J_ifeq, F_il2, F_il3, T_I, J_ifne, T_ft, T_ret, T_getI, T_goto, T_getR, X_aald, T_add, c3, c138, c168, c173, ↓s138, ↓s173, FX F, ↓s168 hn C.2.2.1.1 hN, g1, g2, x1, x2, p2, kd_98, ln_98, ↓reduceIte, TK, lt_run hn, le43, Int.le_refl, Int.lt_irrefl, Option.some.injEq, exists_eq_left', true_and, and_true, if_true, if_false, decide_eq_false_iff_not, decide_eq_true_eq, Nat.reduceAdd, Nat.reduceLeDiff, Nat.reduceLT, Int.reduceAdd, Int.reduceSub, Int.reduceMul, Int.reduceNeg, not_true_eq_false, not_false_eq_true]
    rw [← e]
    refine w3 F hn C (Or.inr rfl) (by omega) (by omega) g2 ?_
    rw [if_neg (by decide)]
    simp +decide (maxSteps := 4000000) (disch := omega) only [k175_0, k175_1, k175_2, k175_3, k175_4, k175_r, k175_s, F_al0, F_il1, J_ifeq, F_il2, F_il3, T_I, J_ifne, T_ft, T_ret, T_getI, T_goto, T_getR, X_aald, T_add, c3, c138, c168, c173, ↓s138, ↓s168, ↓s173, ↓reduceIte, TK, lt_run hn, le43, Int.le_refl, Int.lt_irrefl, Option.some.injEq, exists_eq_left', true_and, and_true, if_true, if_false, decide_eq_false_iff_not, decide_eq_true_eq, Nat.reduceAdd, Nat.reduceLeDiff, Nat.reduceLT, Int.reduceAdd, Int.reduceSub, Int.reduceMul, Int.reduceNeg, not_true_eq_false, not_false_eq_true]
    refine ⟨_, rfl, ref _ ?_⟩
    rw [if_neg (by decide)]
/-- the cells of one bone -/
def Sbn (d a k : Nat) : Prop := (635 + 6 * d ≤ a ∧ a ≤ 635 + 6 * d + 5) ∨ (742 ≤ a ∧ a ≤ 746 ∧ k = d) ∨ (747 ≤ a ∧ a ≤ 748 ∧ 6 * d ≤ k ∧ k < 6 * d + 6)
theorem sbn12 {d a k : Nat} (hd : d < 10) (h : Sbn d a k) : sys a k = 12 := by
  rcases h with h | h | h
  · exact sys_12 (by omega) (by omega)
  · exact sysBm (by omega) (by omega)
  · exact sysBm (by omega) (by omega)
theorem Bw.upd (C : Bw N b h hr) {d : Int} (d0 : 0 ≤ d) (d1 : d < N) {B : Bn} (e : Ef (fun a k => Sbn d.toNat a k ∨ sys a k ≠ 12) h h') (R : BnR d B) (c : BnC h' hr d B) (m : BnM h' d B) : Bw N (fun x => if x = d then B else b x) h' hr := by
  obtain ⟨c1, c2, ⟨c3, c4⟩, c5, c6, c7⟩ := C
  refine ⟨c1, fun i i0 i1 => ?_, ⟨?_, ?_⟩, fun i i0 i1 => ?_, fun i i0 i1 => ?_, c7.ef e (fun x k h1 h2 q => ?_)⟩
  · dsimp only
    split
    · rename_i q
      rw [q]
      exact R
    · exact c2 i i0 i1
  · rw [e 43 10 (fun q => by
      rcases q with q | q
      · unfold Sbn at q
        omega
      · exact q rfl)]
    exact c3
  · rw [e 704 50 (fun q => by
      rcases q with q | q
      · unfold Sbn at q
        omega
      · exact q rfl)]
    exact c4
  · dsimp only
    by_cases g : i = d
    · subst g
      rw [if_pos rfl]
      exact ⟨c, m⟩
    · rw [if_neg g]
      obtain ⟨a1, a2⟩ := c5 i i0 i1
      have r := c2 i i0 i1
      have r4 := r.2.2.2.1.1
      have r5 := r.2.2.2.2.1
      refine ⟨a1.ef e (fun x k h1 h2 q => ?_), ?_, a2.2.ef e (fun j j0 j1 => ⟨fun q => ?_, fun q => ?_⟩)⟩
      · rcases q with q | q
        · unfold Sbn at q
          omega
        · exact q (sys_12 (by omega) (by omega))
      · have no : ∀ x, 742 ≤ x → x ≤ 746 → ¬ (Sbn d.toNat x i.toNat ∨ sys x i.toNat ≠ 12) := fun x h1 h2 q => by
          rcases q with q | q
          · unfold Sbn at q
            omega
          · exact q (sysBm (by omega) (by omega))
        rw [e.g (no _ (by decide) (by decide)), e.g (no _ (by decide) (by decide)), e.g (no _ (by decide) (by decide)), e.g (no _ (by decide) (by decide)), e.g (no _ (by decide) (by decide))]
        exact a2.1
      · rcases q with q | q
        · unfold Sbn at q
          omega
        · exact q rfl
      · rcases q with q | q
        · unfold Sbn at q
          omega
        · exact q rfl
  · rw [e _ _ (fun q => by
      rcases q with q | q
      · unfold Sbn at q
        omega
      · exact q (sys_12 (by omega) (by omega)))]
    exact c6 i i0 i1
  · rcases q with q | q
    · unfold Sbn at q
      omega
    · exact q (sysR h1 h2)
theorem w288 (F : FH hr) (hn : 775 ≤ n) {i f : Int} {K L : Kys} {lo hi : Int} (hi' : 0 ≤ i ∧ i < 10) (R : KR 6 lo hi K) (e : KE K L) (c : gA h 746 i = J L.1) (M : KM h 747 748 (6 * i) L) (hf : 0 ≤ f ∧ f ≤ 119)
    (k1 : (∀ j, 0 ≤ j → j < K.1 → L.2.1 j ≠ f) → Q (some (.int (J (-1))), h, hr, n)) (k2 : ∀ j, 0 ≤ j → j < K.1 → L.2.1 j = f → Q (some (.int (J (6 * i + j))), h, hr, n)) : Sp E 288 [.ref 704, .int (J i), .int (J f)] h hr n Q := by
  have r1 := R.1
  have e0 := e.1
  have LR := e.r R
  simp +decide (maxSteps := 4000000) (disch := omega) only [k288_0, k288_2, k288_3, k288_4, k288_r, k288_s, T_I, F_is3i, F_is3r, F_is3m, F_il1, T_mul, F_is4i, F_is4r, F_is4m, T_ft, F_il4, F_al0, T_getR, X_iald, T_add, T_icge, F_il2, J_icne, T_goto, F_il3, F_inc4i, F_inc4r, F_inc4m, T_ret, FM F, ↓reduceIte, TK, lt_run hn, le43, Int.le_refl, Int.lt_irrefl, Option.some.injEq, exists_eq_left', true_and, and_true, if_true, if_false, decide_eq_false_iff_not, decide_eq_true_eq, Nat.reduceAdd, Nat.reduceLeDiff, Nat.reduceLT, Int.reduceAdd, Int.reduceSub, Int.reduceMul, Int.reduceNeg, not_true_eq_false, not_false_eq_true]
  refine T_for (σ := Int) (fun q s => [.ref 704, .int (J i), .int (J f), .int (J s), .int (J q)]) (fun q s h' => h' = h ∧ ((s = -1 ∧ ∀ j, 0 ≤ j → j < q - 6 * i → L.2.1 j ≠ f) ∨ ∃ j, s = 6 * i + j ∧ 0 ≤ j ∧ j < q - 6 * i ∧ L.2.1 j = f)) (6 * i) (6 * i + L.1) ?_ ?_ (6 * i) (-1) h (by omega) (by omega) ⟨rfl, Or.inl ⟨rfl, fun j _ _ => by omega⟩⟩
  · rintro q s h' q0 q1 ⟨rfl, hs⟩ ih
    obtain ⟨j, hj⟩ : ∃ j, q = 6 * i + j := ⟨q - 6 * i, by omega⟩
    subst hj
    rw [show 6 * i + j - 6 * i = j by omega] at hs
    have m := (M j (by omega) (by omega)).1
    have lr := (LR j (by omega) (by omega)).1
    by_cases g : L.2.1 j = f
    · rw [g] at m
      rw [k288_1]
      simp +decide (maxSteps := 4000000) (disch := omega) only [k288_0, k288_2, k288_3, k288_4, k288_r, k288_s, T_I, F_is3i, F_is3r, F_is3m, F_il1, T_mul, F_is4i, F_is4r, F_is4m, T_ft, F_il4, F_al0, T_getR, X_iald, T_add, T_icge, F_il2, J_icne, T_goto, F_il3, F_inc4i, F_inc4r, F_inc4m, T_ret, FM F, c, m, ln_746, ln_747, show ¬ 6 * i + L.1 ≤ 6 * i + j by omega, ↓reduceIte, TK, lt_run hn, le43, Int.le_refl, Int.lt_irrefl, Option.some.injEq, exists_eq_left', true_and, and_true, if_true, if_false, decide_eq_false_iff_not, decide_eq_true_eq, Nat.reduceAdd, Nat.reduceLeDiff, Nat.reduceLT, Int.reduceAdd, Int.reduceSub, Int.reduceMul, Int.reduceNeg, not_true_eq_false, not_false_eq_true]
      exact ih _ _ ⟨rfl, Or.inr ⟨j, rfl, by omega, by omega, g⟩⟩
    · rw [k288_1]
      simp +decide (maxSteps := 4000000) (disch := omega) only [k288_0, k288_2, k288_3, k288_4, k288_r, k288_s, T_I, F_is3i, F_is3r, F_is3m, F_il1, T_mul, F_is4i, F_is4r, F_is4m, T_ft, F_il4, F_al0, T_getR, X_iald, T_add, T_icge, F_il2, J_icne, T_goto, F_il3, F_inc4i, F_inc4r, F_inc4m, T_ret, FM F, c, m, g, ln_746, ln_747, show ¬ 6 * i + L.1 ≤ 6 * i + j by omega, ↓reduceIte, TK, lt_run hn, le43, Int.le_refl, Int.lt_irrefl, Option.some.injEq, exists_eq_left', true_and, and_true, if_true, if_false, decide_eq_false_iff_not, decide_eq_true_eq, Nat.reduceAdd, Nat.reduceLeDiff, Nat.reduceLT, Int.reduceAdd, Int.reduceSub, Int.reduceMul, Int.reduceNeg, not_true_eq_false, not_false_eq_true]
      refine ih _ _ ⟨rfl, ?_⟩
      rcases hs with ⟨a1, a2⟩ | ⟨t, a1, a2, a3, a4⟩
      · refine Or.inl ⟨a1, fun t t0 t1 => ?_⟩
        rcases (show t < j ∨ t = j by omega) with z | z
        · exact a2 t t0 z
        · rw [z]
          exact g
      · exact Or.inr ⟨t, a1, a2, by omega, a4⟩
  · rintro s h' ⟨rfl, hs⟩
    rw [k288_1]
    simp +decide (maxSteps := 4000000) (disch := omega) only [k288_0, k288_2, k288_3, k288_4, k288_r, k288_s, T_I, F_is3i, F_is3r, F_is3m, F_il1, T_mul, F_is4i, F_is4r, F_is4m, T_ft, F_il4, F_al0, T_getR, X_iald, T_add, T_icge, F_il2, J_icne, T_goto, F_il3, F_inc4i, F_inc4r, F_inc4m, T_ret, FM F, c, ln_746, ↓reduceIte, TK, lt_run hn, le43, Int.le_refl, Int.lt_irrefl, Option.some.injEq, exists_eq_left', true_and, and_true, if_true, if_false, decide_eq_false_iff_not, decide_eq_true_eq, Nat.reduceAdd, Nat.reduceLeDiff, Nat.reduceLT, Int.reduceAdd, Int.reduceSub, Int.reduceMul, Int.reduceNeg, not_true_eq_false, not_false_eq_true]
    rcases hs with ⟨a1, a2⟩ | ⟨t, a1, a2, a3, a4⟩
    · rw [a1]
      exact k1 (fun j j0 j1 => a2 j j0 (by omega))
    · rw [a1]
      exact k2 t a2 (by omega) a4
theorem w289 (F : FH hr) (hn : 775 ≤ n) {i f v : Int} {K L : Kys} {lo hi : Int} (hi' : 0 ≤ i ∧ i < 10) (R : KR 6 lo hi K) (e : KE K L) (c : gA h 746 i = J L.1) (M : KM h 747 748 (6 * i) L) (hf : 0 ≤ f ∧ f ≤ 119) (room : K.1 < 6 ∨ kth K f = true)
    (k : ∀ h', gA h' 746 i = J (lput K L f v).1 → KM h' 747 748 (6 * i) (lput K L f v) → Ef (fun a k => (a = 746 ∧ k = i.toNat) ∨ (747 ≤ a ∧ a ≤ 748 ∧ 6 * i.toNat ≤ k ∧ k < 6 * i.toNat + 6)) h h' → Q (none, h', hr, n)) : Sp E 289 [.ref 704, .int (J i), .int (J f), .int (J v)] h hr n Q := by
  have r1 := R.1
  have e0 := e.1
  simp +decide (maxSteps := 4000000) (disch := omega) only [k289_0, k289_1, k289_r, k289_s, F_al0, F_il1, F_il2, F_is4i, F_is4r, F_is4m, F_il4, J_ifge, T_I, T_mul, T_getR, X_iald, T_add, T_dup2, T_iast, T_ft, F_il3, T_ret, c288, FM F, ↓reduceIte, TK, lt_run hn, le43, Int.le_refl, Int.lt_irrefl, Option.some.injEq, exists_eq_left', true_and, and_true, if_true, if_false, decide_eq_false_iff_not, decide_eq_true_eq, Nat.reduceAdd, Nat.reduceLeDiff, Nat.reduceLT, Int.reduceAdd, Int.reduceSub, Int.reduceMul, Int.reduceNeg, not_true_eq_false, not_false_eq_true]
  refine w288 F hn hi' R e c M hf (fun q => ?_) (fun j j0 j1 q => ?_)
  · have t := kth_f e R q
    have rm := room.resolve_right (by rw [t]; decide)
    have el : lput K L f v = (L.1 + 1, fun i => if i = L.1 then f else L.2.1 i, fun i => if i = L.1 then v else L.2.2 i) := by
      unfold lput
      rw [t, if_neg (by decide)]
    rw [el] at k
    simp +decide (maxSteps := 4000000) (disch := omega) only [k289_0, k289_1, k289_r, k289_s, F_al0, F_il1, F_il2, F_is4i, F_is4r, F_is4m, F_il4, J_ifge, T_I, T_mul, T_getR, X_iald, T_add, T_dup2, T_iast, T_ft, F_il3, T_ret, c288, FM F, c, ln_746, ln_747, ln_748, ↓reduceIte, TK, lt_run hn, le43, Int.le_refl, Int.lt_irrefl, Option.some.injEq, exists_eq_left', true_and, and_true, if_true, if_false, decide_eq_false_iff_not, decide_eq_true_eq, Nat.reduceAdd, Nat.reduceLeDiff, Nat.reduceLT, Int.reduceAdd, Int.reduceSub, Int.reduceMul, Int.reduceNeg, not_true_eq_false, not_false_eq_true]
    refine k _ ?_ (fun j j0 j1 => ?_) (Ef.sA (Ef.sA (Ef.sA Ef.refl (by omega)) (by omega)) (by omega))
    · rw [gs_o (by decide), gs_o (by decide), gs_s]
    · have j2 : j < L.1 + 1 := j1
      dsimp only
      rw [gs_o (by decide)]
      by_cases z : j = L.1
      · rw [if_pos z, if_pos z, z, gs_s, gs_s]
        exact ⟨rfl, rfl⟩
      · rw [if_neg z, if_neg z, gs_k (by omega) (by omega) (by omega), gs_k (by omega) (by omega) (by omega), gs_o (by decide), gs_o (by decide), gs_o (by decide)]
        exact M j j0 (by omega)
  · have t := kth_t e R j0 j1 q
    have el : lput K L f v = (L.1, L.2.1, fun i => if L.2.1 i = f then v else L.2.2 i) := by
      unfold lput
      rw [t, if_pos rfl]
    rw [el] at k
    simp +decide (maxSteps := 4000000) (disch := omega) only [k289_0, k289_1, k289_r, k289_s, F_al0, F_il1, F_il2, F_is4i, F_is4r, F_is4m, F_il4, J_ifge, T_I, T_mul, T_getR, X_iald, T_add, T_dup2, T_iast, T_ft, F_il3, T_ret, c288, FM F, ln_747, ln_748, show 0 ≤ 6 * i + j by omega, ↓reduceIte, TK, lt_run hn, le43, Int.le_refl, Int.lt_irrefl, Option.some.injEq, exists_eq_left', true_and, and_true, if_true, if_false, decide_eq_false_iff_not, decide_eq_true_eq, Nat.reduceAdd, Nat.reduceLeDiff, Nat.reduceLT, Int.reduceAdd, Int.reduceSub, Int.reduceMul, Int.reduceNeg, not_true_eq_false, not_false_eq_true]
    refine k _ ?_ (fun m m0 m1 => ?_) (Ef.sA (Ef.sA Ef.refl (by omega)) (by omega))
    · rw [gs_o (by decide), gs_o (by decide)]
      exact c
    · have m2 : m < L.1 := m1
      dsimp only
      rw [gs_o (by decide)]
      by_cases z : m = j
      · rw [z, gs_s, gs_s, if_pos q, q]
        exact ⟨rfl, rfl⟩
      · have ne : L.2.1 m ≠ f := fun y => by
          rcases Int.lt_trichotomy m j with x | x | x
          · exact e.2.2.2 m j m0 x (by omega) (y.trans q.symm)
          · exact z x
          · exact e.2.2.2 j m j0 x (by omega) (q.trans y.symm)
        rw [gs_k (by omega) (by omega) (by omega), gs_k (by omega) (by omega) (by omega), gs_o (by decide), if_neg ne]
        exact M m m0 m2
/-- a bone with another key -/
def bput (B : Bn) (f v : Int) : Bn := (B.1, B.2.1, B.2.2.1, B.2.2.2.1, kput B.2.2.2.2.1 f v, lput B.2.2.2.2.1 B.2.2.2.2.2 f v)
theorem bput_r {i : Int} {B : Bn} (R : BnR i B) {f v : Int} (hf : 0 ≤ f ∧ f ≤ 119) (hv : B.2.2.1 ≤ v ∧ v ≤ B.2.2.2.1) (room : B.2.2.2.2.1.1 < 6 ∨ kth B.2.2.2.2.1 f = true) : BnR i (bput B f v) := by
  obtain ⟨r1, r2, r3, r4, r5⟩ := R
  exact ⟨r1, r2, r3, kput_r r4 hf hv room, r5.put r4⟩
theorem kl_e {K L : Kys} (e : KE K L) {f v : Int} : (lput K L f v).1 = (kput K f v).1 := by
  unfold lput kput
  split
  · exact e.1
  · show L.1 + 1 = K.1 + 1
    rw [e.1]
/-- put on both sides -/
theorem Bw.put (C : Bw N b h hr) {a f v : Int} (a0 : 0 ≤ a) (a1 : a < N) (hf : 0 ≤ f ∧ f ≤ 119) (hv : (b a).2.2.1 ≤ v ∧ v ≤ (b a).2.2.2.1) (room : (b a).2.2.2.2.1.1 < 6 ∨ kth (b a).2.2.2.2.1 f = true) {h1 h2 : AHi} (e1 : Ef (Sky (635 + 6 * a.toNat + 1)) h h1) (k1 : KC h1 (635 + 6 * a.toNat + 1) (kput (b a).2.2.2.2.1 f v)) (e2 : Ef (fun x k => (x = 746 ∧ k = a.toNat) ∨ (747 ≤ x ∧ x ≤ 748 ∧ 6 * a.toNat ≤ k ∧ k < 6 * a.toNat + 6)) h1 h2) (m1 : gA h2 746 a = J (lput (b a).2.2.2.2.1 (b a).2.2.2.2.2 f v).1) (m2 : KM h2 747 748 (6 * a) (lput (b a).2.2.2.2.1 (b a).2.2.2.2.2 f v)) : Bw N (fun x => if x = a then bput (b a) f v else b x) h2 hr := by
  have hN := C.1
  obtain ⟨⟨c1, ⟨c2, c3⟩, c4, c5⟩, ⟨d1, d2, d3, d4, d5⟩, d6⟩ := C.2.2.2.1 a a0 a1
  have e3 : Ef (fun x k => Sky (635 + 6 * a.toNat + 1) x k ∨ (746 ≤ x ∧ x ≤ 748)) h h2 := (e1.mono fun x k q => Or.inl q).trans (e2.mono fun x k q => Or.inr (by omega))
  refine C.upd a0 a1 ((e1.mono fun x k q => Or.inl ?_).trans (e2.mono fun x k q => Or.inl ?_)) (bput_r (C.2.1 a a0 a1) hf hv room) ⟨c1, ⟨?_, ?_⟩, k1.ef e2 (fun x k h1 h2 q => by omega), fun d q0 q1 => ?_⟩ ⟨⟨?_, ?_, ?_, ?_, m1⟩, m2⟩
  · unfold Sky at q
    unfold Sbn
    omega
  · unfold Sbn
    omega
  · rw [e3 _ _ (by unfold Sky; omega)]
    exact c2
  · rw [e3 _ _ (by unfold Sky; omega)]
    exact c3
  · rw [e3.g (by unfold Sky; omega), e3.g (by unfold Sky; omega)]
    exact c5 d q0 q1
  · rw [e3.g (by unfold Sky; omega)]
    exact d1
  · rw [e3.g (by unfold Sky; omega)]
    exact d2
  · rw [e3.g (by unfold Sky; omega)]
    exact d3
  · rw [e3.g (by unfold Sky; omega)]
    exact d4
theorem Pkey (F : FH hr) (hn : 775 ≤ n) (C : Cp12 h hr) (x y z : Int32) : Pr2 E 172 285 [.int x, .int y, .int z] h hr n (Po (fun h' => Cp12 h' hr) 12 12 h hr n) := by
  have C0 := C
  obtain ⟨N, b, C⟩ := C
  obtain ⟨a, ha, ha', rfl⟩ := J_of x
  obtain ⟨f, hf, hf', rfl⟩ := J_of y
  obtain ⟨v, hv, hv', rfl⟩ := J_of z
  have hN := C.1
  unfold Pr2
  by_cases g1 : 0 ≤ a ∧ a ≤ N - 1
  case neg =>
    simp +decide (maxSteps := 4000000) (disch := omega) only [k172_0, k172_1, k172_2, k172_3, k172_r, k172_s, F_al0, F_il1, J_ifeq, F_il2, F_il3, T_getR, X_aald, T_getI, J_ifne, T_ft, T_I, T_ret, F_as4i, F_as4r, F_as4m, F_al4, c51, c54, c138, c168, c173, ↓s51, ↓s138, ↓s173, FX F, ↓s168 hn C.2.2.1.1 hN, ↓s286 hn C.2.2.1.2 hN, g1, ↓reduceIte, TK, lt_run hn, le43, Int.le_refl, Int.lt_irrefl, Option.some.injEq, exists_eq_left', true_and, and_true, if_true, if_false, decide_eq_false_iff_not, decide_eq_true_eq, Nat.reduceAdd, Nat.reduceLeDiff, Nat.reduceLT, Int.reduceAdd, Int.reduceSub, Int.reduceMul, Int.reduceNeg, not_true_eq_false, not_false_eq_true]
    refine ⟨_, rfl, ?_⟩
    simp +decide (maxSteps := 4000000) (disch := omega) only [k285_0, k285_1, k285_2, k285_3, k285_r, k285_s, F_al0, F_il1, J_ifeq, F_il2, F_il3, T_getR, X_iald, J_ifne, T_ft, T_I, T_ret, J_ifge, J_icne, c219, c286, c287, c288, c289, ↓s219, ↓s287, FM F, ↓s168 hn C.2.2.1.1 hN, ↓s286 hn C.2.2.1.2 hN, g1, ↓reduceIte, TK, lt_run hn, le43, Int.le_refl, Int.lt_irrefl, Option.some.injEq, exists_eq_left', true_and, and_true, if_true, if_false, decide_eq_false_iff_not, decide_eq_true_eq, Nat.reduceAdd, Nat.reduceLeDiff, Nat.reduceLT, Int.reduceAdd, Int.reduceSub, Int.reduceMul, Int.reduceNeg, not_true_eq_false, not_false_eq_true]
    first | exact ⟨rfl, ⟨C0, Kp.refl⟩, rfl, rfl⟩ | exact ⟨⟨C0, Kp.refl⟩, rfl, rfl⟩ | exact ⟨C0, Kp.refl⟩
  by_cases g2 : 0 ≤ f ∧ f ≤ 119
  case neg =>
    simp +decide (maxSteps := 4000000) (disch := omega) only [k172_0, k172_1, k172_2, k172_3, k172_r, k172_s, F_al0, F_il1, J_ifeq, F_il2, F_il3, T_getR, X_aald, T_getI, J_ifne, T_ft, T_I, T_ret, F_as4i, F_as4r, F_as4m, F_al4, c51, c54, c138, c168, c173, ↓s51, ↓s138, ↓s173, FX F, ↓s168 hn C.2.2.1.1 hN, ↓s286 hn C.2.2.1.2 hN, g1, g2, ↓reduceIte, TK, lt_run hn, le43, Int.le_refl, Int.lt_irrefl, Option.some.injEq, exists_eq_left', true_and, and_true, if_true, if_false, decide_eq_false_iff_not, decide_eq_true_eq, Nat.reduceAdd, Nat.reduceLeDiff, Nat.reduceLT, Int.reduceAdd, Int.reduceSub, Int.reduceMul, Int.reduceNeg, not_true_eq_false, not_false_eq_true]
    refine ⟨_, rfl, ?_⟩
    simp +decide (maxSteps := 4000000) (disch := omega) only [k285_0, k285_1, k285_2, k285_3, k285_r, k285_s, F_al0, F_il1, J_ifeq, F_il2, F_il3, T_getR, X_iald, J_ifne, T_ft, T_I, T_ret, J_ifge, J_icne, c219, c286, c287, c288, c289, ↓s219, ↓s287, FM F, ↓s168 hn C.2.2.1.1 hN, ↓s286 hn C.2.2.1.2 hN, g1, g2, ↓reduceIte, TK, lt_run hn, le43, Int.le_refl, Int.lt_irrefl, Option.some.injEq, exists_eq_left', true_and, and_true, if_true, if_false, decide_eq_false_iff_not, decide_eq_true_eq, Nat.reduceAdd, Nat.reduceLeDiff, Nat.reduceLT, Int.reduceAdd, Int.reduceSub, Int.reduceMul, Int.reduceNeg, not_true_eq_false, not_false_eq_true]
    first | exact ⟨rfl, ⟨C0, Kp.refl⟩, rfl, rfl⟩ | exact ⟨⟨C0, Kp.refl⟩, rfl, rfl⟩ | exact ⟨C0, Kp.refl⟩
  have x1 := X98 F g1.1 (show a < 10 by omega)
  have B := bid_B (p := a) (by omega) (by omega)
  rw [bid_p g1.1] at B
  have x2 := B.x E F
  have x3 := B.r
  obtain ⟨⟨c1, ⟨c2, c3⟩, c4, c5⟩, ⟨d1, d2, d3, d4, d5⟩, d6⟩ := C.2.2.2.1 a g1.1 (by omega)
  have Rb := C.2.1 a g1.1 (by omega)
  obtain ⟨r1, r2, r3, r4, r5⟩ := id Rb
  by_cases g3 : (b a).2.2.1 ≤ v ∧ v ≤ (b a).2.2.2.1
  case neg =>
    simp +decide (maxSteps := 4000000) (disch := omega) only [k172_0, k172_1, k172_2, k172_3, k172_r, k172_s, F_al0, F_il1, J_ifeq, F_il2, F_il3, T_getR, X_aald, T_getI, J_ifne, T_ft, T_I, T_ret, F_as4i, F_as4r, F_as4m, F_al4, c51, c54, c138, c168, c173, ↓s51, ↓s138, ↓s173, FX F, ↓s168 hn C.2.2.1.1 hN, ↓s286 hn C.2.2.1.2 hN, g1, g2, g3, x1, x2, c2, c3, d3, d4, kd_98, ln_98, ln_744, ln_745, ↓reduceIte, TK, lt_run hn, le43, Int.le_refl, Int.lt_irrefl, Option.some.injEq, exists_eq_left', true_and, and_true, if_true, if_false, decide_eq_false_iff_not, decide_eq_true_eq, Nat.reduceAdd, Nat.reduceLeDiff, Nat.reduceLT, Int.reduceAdd, Int.reduceSub, Int.reduceMul, Int.reduceNeg, not_true_eq_false, not_false_eq_true]
    refine ⟨_, rfl, ?_⟩
    simp +decide (maxSteps := 4000000) (disch := omega) only [k285_0, k285_1, k285_2, k285_3, k285_r, k285_s, F_al0, F_il1, J_ifeq, F_il2, F_il3, T_getR, X_iald, J_ifne, T_ft, T_I, T_ret, J_ifge, J_icne, c219, c286, c287, c288, c289, ↓s219, ↓s287, FM F, ↓s168 hn C.2.2.1.1 hN, ↓s286 hn C.2.2.1.2 hN, g1, g2, g3, x1, x2, c2, c3, d3, d4, kd_98, ln_98, ln_744, ln_745, ↓reduceIte, TK, lt_run hn, le43, Int.le_refl, Int.lt_irrefl, Option.some.injEq, exists_eq_left', true_and, and_true, if_true, if_false, decide_eq_false_iff_not, decide_eq_true_eq, Nat.reduceAdd, Nat.reduceLeDiff, Nat.reduceLT, Int.reduceAdd, Int.reduceSub, Int.reduceMul, Int.reduceNeg, not_true_eq_false, not_false_eq_true]
    first | exact ⟨rfl, ⟨C0, Kp.refl⟩, rfl, rfl⟩ | exact ⟨⟨C0, Kp.refl⟩, rfl, rfl⟩ | exact ⟨C0, Kp.refl⟩
  have S := fun Q => s51 (Q := Q) hn (B.k E F) r4 c4 g2
  have c6 : ((6 : Nat) : Int) = 6 := rfl
  have r41 := r4.1
  have e0 := r5.1
  by_cases room : (b a).2.2.2.2.1.1 < 6 ∨ kth (b a).2.2.2.2.1 f = true
  · rw [c6, decide_eq_true room, Bz_t] at S
    simp +decide (maxSteps := 4000000) (disch := omega) only [k172_0, k172_1, k172_2, k172_3, k172_r, k172_s, F_al0, F_il1, J_ifeq, F_il2, F_il3, T_getR, X_aald, T_getI, J_ifne, T_ft, T_I, T_ret, F_as4i, F_as4r, F_as4m, F_al4, c51, c54, c138, c168, c173, ↓s51, ↓s138, ↓s173, FX F, ↓s168 hn C.2.2.1.1 hN, S, g1, g2, g3, x1, x2, c2, c3, kd_98, ln_98, ↓reduceIte, TK, lt_run hn, le43, Int.le_refl, Int.lt_irrefl, Option.some.injEq, exists_eq_left', true_and, and_true, if_true, if_false, decide_eq_false_iff_not, decide_eq_true_eq, Nat.reduceAdd, Nat.reduceLeDiff, Nat.reduceLT, Int.reduceAdd, Int.reduceSub, Int.reduceMul, Int.reduceNeg, not_true_eq_false, not_false_eq_true]
    refine w54 hn (B.k E F) r4 c4 g2 room (fun h1 k1 e1 => ?_)
    have k2 := k1.1
    simp +decide (maxSteps := 4000000) (disch := omega) only [k172_0, k172_1, k172_2, k172_3, k172_r, k172_s, F_al0, F_il1, J_ifeq, F_il2, F_il3, T_getR, X_aald, T_getI, J_ifne, T_ft, T_I, T_ret, F_as4i, F_as4r, F_as4m, F_al4, c51, c54, c138, c168, c173, ↓s51, ↓s138, ↓s168, ↓s173, FX F, x2, k2, ↓reduceIte, TK, lt_run hn, le43, Int.le_refl, Int.lt_irrefl, Option.some.injEq, exists_eq_left', true_and, and_true, if_true, if_false, decide_eq_false_iff_not, decide_eq_true_eq, Nat.reduceAdd, Nat.reduceLeDiff, Nat.reduceLT, Int.reduceAdd, Int.reduceSub, Int.reduceMul, Int.reduceNeg, not_true_eq_false, not_false_eq_true]
    refine ⟨_, rfl, ?_⟩
    have cN : h1 704 50 = J N := by
      rw [e1 _ _ (by unfold Sky; omega)]
      exact C.2.2.1.2
    have q3 : gA h1 744 a = J (b a).2.2.1 := by
      rw [e1.g (by unfold Sky; omega)]
      exact d3
    have q4 : gA h1 745 a = J (b a).2.2.2.1 := by
      rw [e1.g (by unfold Sky; omega)]
      exact d4
    have q5 : gA h1 746 a = J (b a).2.2.2.2.2.1 := by
      rw [e1.g (by unfold Sky; omega)]
      exact d5
    have q6 : KM h1 747 748 (6 * a) (b a).2.2.2.2.2 := d6.ef e1 (fun j j0 j1 => ⟨by unfold Sky; omega, by unfold Sky; omega⟩)
    have rest : Tm E 285 (a_bl 285 3) [.ref 704, .int (J a), .int (J f), .int (J v)] [] h1 hr n (fun q => q.1 = some (.int (J (kput (b a).2.2.2.2.1 f v).1)) ∧ Po (fun h' => Cp12 h' hr) 12 12 h hr n q.2.1 q.2.2.1 q.2.2.2) := by
      rw [k285_3]
      simp +decide (maxSteps := 4000000) (disch := omega) only [k285_0, k285_1, k285_2, k285_3, k285_r, k285_s, F_al0, F_il1, J_ifeq, F_il2, F_il3, T_getR, X_iald, J_ifne, T_ft, T_I, T_ret, J_ifge, J_icne, c219, c286, c287, c288, c289, ↓s219, ↓s286, ↓s287, FM F, ↓reduceIte, TK, lt_run hn, le43, Int.le_refl, Int.lt_irrefl, Option.some.injEq, exists_eq_left', true_and, and_true, if_true, if_false, decide_eq_false_iff_not, decide_eq_true_eq, Nat.reduceAdd, Nat.reduceLeDiff, Nat.reduceLT, Int.reduceAdd, Int.reduceSub, Int.reduceMul, Int.reduceNeg, not_true_eq_false, not_false_eq_true]
      refine w289 F hn (by omega) r4 r5 q5 q6 g2 room (fun h2 m1 m2 e2 => ?_)
      have m3 := m1
      rw [kl_e r5] at m3
      simp +decide (maxSteps := 4000000) (disch := omega) only [k285_0, k285_1, k285_2, k285_3, k285_r, k285_s, F_al0, F_il1, J_ifeq, F_il2, F_il3, T_getR, X_iald, J_ifne, T_ft, T_I, T_ret, J_ifge, J_icne, c219, c286, c287, c288, c289, ↓s219, ↓s286, ↓s287, FM F, m3, ln_746, ↓reduceIte, TK, lt_run hn, le43, Int.le_refl, Int.lt_irrefl, Option.some.injEq, exists_eq_left', true_and, and_true, if_true, if_false, decide_eq_false_iff_not, decide_eq_true_eq, Nat.reduceAdd, Nat.reduceLeDiff, Nat.reduceLT, Int.reduceAdd, Int.reduceSub, Int.reduceMul, Int.reduceNeg, not_true_eq_false, not_false_eq_true]
      refine ⟨⟨⟨N, _, C.put g1.1 (by omega) g2 g3 room e1 k1 e2 m1 m2⟩, ?_⟩, rfl, rfl⟩
      refine (Kp.of e1 (fun x k q => ?_)).trans (Kp.of e2 (fun x k q => Or.inr (Or.inl (sysBm (by omega) (by omega)))))
      unfold Sky at q
      exact Or.inr (Or.inl (sys_12 (by omega) (by omega)))
    simp +decide (maxSteps := 4000000) (disch := omega) only [k285_0, k285_1, k285_2, k285_r, k285_s, F_al0, F_il1, J_ifeq, F_il2, F_il3, T_getR, X_iald, J_ifne, T_ft, T_I, T_ret, J_ifge, J_icne, c219, c286, c287, c288, c289, ↓s219, ↓s287, FM F, ↓s286 hn cN hN, g1, g2, g3, q3, q4, ln_744, ln_745, ↓reduceIte, TK, lt_run hn, le43, Int.le_refl, Int.lt_irrefl, Option.some.injEq, exists_eq_left', true_and, and_true, if_true, if_false, decide_eq_false_iff_not, decide_eq_true_eq, Nat.reduceAdd, Nat.reduceLeDiff, Nat.reduceLT, Int.reduceAdd, Int.reduceSub, Int.reduceMul, Int.reduceNeg, not_true_eq_false, not_false_eq_true]
    refine w288 F hn (by omega) r4 r5 q5 q6 g2 (fun q => ?_) (fun j j0 j1 q => ?_)
    · have t := kth_f r5 r4 q
      have rm := room.resolve_right (by rw [t]; decide)
      simp +decide (maxSteps := 4000000) (disch := omega) only [k285_0, k285_1, k285_2, k285_r, k285_s, F_al0, F_il1, J_ifeq, F_il2, F_il3, T_getR, X_iald, J_ifne, T_ft, T_I, T_ret, J_ifge, J_icne, c219, c286, c287, c288, c289, ↓s219, ↓s286, ↓s287, FM F, q5, ln_746, show ¬ (b a).2.2.2.2.2.1 = 6 by omega, ↓reduceIte, TK, lt_run hn, le43, Int.le_refl, Int.lt_irrefl, Option.some.injEq, exists_eq_left', true_and, and_true, if_true, if_false, decide_eq_false_iff_not, decide_eq_true_eq, Nat.reduceAdd, Nat.reduceLeDiff, Nat.reduceLT, Int.reduceAdd, Int.reduceSub, Int.reduceMul, Int.reduceNeg, not_true_eq_false, not_false_eq_true]
      exact rest
    · simp +decide (maxSteps := 4000000) (disch := omega) only [k285_0, k285_1, k285_2, k285_r, k285_s, F_al0, F_il1, J_ifeq, F_il2, F_il3, T_getR, X_iald, J_ifne, T_ft, T_I, T_ret, J_ifge, J_icne, c219, c286, c287, c288, c289, ↓s219, ↓s286, ↓s287, FM F, show 0 ≤ 6 * a + j by omega, ↓reduceIte, TK, lt_run hn, le43, Int.le_refl, Int.lt_irrefl, Option.some.injEq, exists_eq_left', true_and, and_true, if_true, if_false, decide_eq_false_iff_not, decide_eq_true_eq, Nat.reduceAdd, Nat.reduceLeDiff, Nat.reduceLT, Int.reduceAdd, Int.reduceSub, Int.reduceMul, Int.reduceNeg, not_true_eq_false, not_false_eq_true]
      exact rest
  · rw [c6, decide_eq_false room, Bz_f] at S
    simp +decide (maxSteps := 4000000) (disch := omega) only [k172_0, k172_1, k172_2, k172_3, k172_r, k172_s, F_al0, F_il1, J_ifeq, F_il2, F_il3, T_getR, X_aald, T_getI, J_ifne, T_ft, T_I, T_ret, F_as4i, F_as4r, F_as4m, F_al4, c51, c54, c138, c168, c173, ↓s51, ↓s138, ↓s173, FX F, ↓s168 hn C.2.2.1.1 hN, S, g1, g2, g3, x1, x2, c2, c3, kd_98, ln_98, ↓reduceIte, TK, lt_run hn, le43, Int.le_refl, Int.lt_irrefl, Option.some.injEq, exists_eq_left', true_and, and_true, if_true, if_false, decide_eq_false_iff_not, decide_eq_true_eq, Nat.reduceAdd, Nat.reduceLeDiff, Nat.reduceLT, Int.reduceAdd, Int.reduceSub, Int.reduceMul, Int.reduceNeg, not_true_eq_false, not_false_eq_true]
    refine ⟨_, rfl, ?_⟩
    simp +decide (maxSteps := 4000000) (disch := omega) only [k285_0, k285_1, k285_2, k285_3, k285_r, k285_s, F_al0, F_il1, J_ifeq, F_il2, F_il3, T_getR, X_iald, J_ifne, T_ft, T_I, T_ret, J_ifge, J_icne, c219, c286, c287, c288, c289, ↓s219, ↓s287, FM F, ↓s286 hn C.2.2.1.2 hN, g1, g2, g3, d3, d4, ln_744, ln_745, ↓reduceIte, TK, lt_run hn, le43, Int.le_refl, Int.lt_irrefl, Option.some.injEq, exists_eq_left', true_and, and_true, if_true, if_false, decide_eq_false_iff_not, decide_eq_true_eq, Nat.reduceAdd, Nat.reduceLeDiff, Nat.reduceLT, Int.reduceAdd, Int.reduceSub, Int.reduceMul, Int.reduceNeg, not_true_eq_false, not_false_eq_true]
    refine w288 F hn (by omega) r4 r5 d5 d6 g2 (fun q => ?_) (fun j j0 j1 q => ?_)
    · have e6 : (b a).2.2.2.2.2.1 = 6 := by
        have : ¬ (b a).2.2.2.2.1.1 < 6 := fun z => room (Or.inl z)
        omega
      rw [e6] at d5
      simp +decide (maxSteps := 4000000) (disch := omega) only [k285_0, k285_1, k285_2, k285_3, k285_r, k285_s, F_al0, F_il1, J_ifeq, F_il2, F_il3, T_getR, X_iald, J_ifne, T_ft, T_I, T_ret, J_ifge, J_icne, c219, c286, c287, c288, c289, ↓s219, ↓s286, ↓s287, FM F, d5, ln_746, ↓reduceIte, TK, lt_run hn, le43, Int.le_refl, Int.lt_irrefl, Option.some.injEq, exists_eq_left', true_and, and_true, if_true, if_false, decide_eq_false_iff_not, decide_eq_true_eq, Nat.reduceAdd, Nat.reduceLeDiff, Nat.reduceLT, Int.reduceAdd, Int.reduceSub, Int.reduceMul, Int.reduceNeg, not_true_eq_false, not_false_eq_true]
      exact ⟨⟨C0, Kp.refl⟩, rfl, rfl⟩
    · exact absurd (Or.inr (kth_t r5 r4 j0 j1 q)) room
end PU
