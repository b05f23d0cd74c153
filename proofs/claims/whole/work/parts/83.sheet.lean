/-! ROWS: stretch, told -/
section SH
variable {E : AEn} {h h' : AHi} {hr : AHr} {n : Nat} {Q : ARs → Prop} {l : Int}
def Srw (l a k : Nat) : Prop := (a = 623 + 3 * l ∧ k = 1) ∨ a = 624 + 3 * l ∨ (a = 734 ∧ 120 * l ≤ k ∧ k < 120 * l + 120) ∨ (a = 735 ∧ k = l)
theorem srw6 {l a k : Nat} (hl : l < 4) (q : Srw l a k) : sys a k = 6 := by
  rcases q with ⟨rfl, rfl⟩ | rfl | ⟨rfl, _⟩ | ⟨rfl, _⟩
  · exact sysL1 hl
  · exact sysL2 hl
  · rfl
  · rfl
theorem Cp6_u (C : Cp6 h) (l0 : 0 ≤ l) (l1 : l < 4) {m : Int} {D : Int → Int} (hm : 0 ≤ m ∧ m ≤ 120) (hD : ∀ f, -1 ≤ D f ∧ D f ≤ 15) (e : Ef (fun a k => Srw l.toNat a k ∨ sys a k ≠ 6) h h') (c1 : h' (623 + 3 * l.toNat) 1 = J m) (c2 : gA h' 735 l = J m) (c3 : ∀ f, 0 ≤ f → f < m → gA h' (624 + 3 * l.toNat) f = J (D f) ∧ gA h' 734 (120 * l + f) = J (D f)) : Cp6 h' := by
  obtain ⟨N, R, h1, h2, h3⟩ := C
  refine ⟨fun x => if x = l then m else N x, fun x f => if x = l then D f else R x f, fun x => ?_, fun x f => ?_, fun x x0 x1 => ?_⟩
  · dsimp only
    split
    · exact hm
    · exact h1 x
  · dsimp only
    split
    · exact hD f
    · exact h2 x f
  · dsimp only
    by_cases g : x = l
    · subst g
      rw [if_pos rfl]
      refine ⟨c1, c2, fun f f0 f1 => ?_⟩
      rw [if_pos rfl]
      exact c3 f f0 f1
    · rw [if_neg g]
      obtain ⟨b1, b2, b3⟩ := h3 x x0 x1
      have r := h1 x
      refine ⟨?_, ?_, fun f f0 f1 => ?_⟩
      · rw [e _ _ (fun q => by
          rcases q with q | q
          · unfold Srw at q
            omega
          · exact q (sysL1 (by omega)))]
        exact b1
      · rw [e.g (fun q => by
          rcases q with q | q
          · unfold Srw at q
            omega
          · exact q rfl)]
        exact b2
      · rw [if_neg g, e.g (fun q => by
          rcases q with q | q
          · unfold Srw at q
            omega
          · exact q (sysL2 (by omega))), e.g (fun q => by
          rcases q with q | q
          · unfold Srw at q
            omega
          · exact q rfl)]
        exact b3 f f0 f1
theorem w61 (F : FH hr) (hn : 775 ≤ n) {m : Int} {D : Int → Int} (l0 : 0 ≤ l) (l1 : l < 4) (hm : 0 ≤ m ∧ m ≤ 120) (c3 : h (623 + 3 * l.toNat) 3 = J m) (d : ∀ f, 0 ≤ f → f < m → gA h (625 + 3 * l.toNat) f = J (D f))
    (k : ∀ h', h' (623 + 3 * l.toNat) 1 = J m → (∀ f, 0 ≤ f → f < m → gA h' (624 + 3 * l.toNat) f = J (D f)) → Ef (fun a k => (a = 623 + 3 * l.toNat ∧ k = 1) ∨ a = 624 + 3 * l.toNat) h h' → Q (none, h', hr, n)) : Sp E 61 [.ref (623 + 3 * l.toNat)] h hr n Q := by
  have x1 := X90 E F l0 l1
  have e1 : cpA h (625 + 3 * l.toNat) 0 (624 + 3 * l.toNat) 0 m (623 + 3 * l.toNat) 3 = J m := by rw [cp_o (by omega)]; exact c3
  have q1 : a_ln E (624 + 3 * l.toNat) = 120 := x1.2.2.2.2.2.2.1
  have q2 : a_ln E (625 + 3 * l.toNat) = 120 := x1.2.2.2.2.2.2.2
  simp +decide (maxSteps := 4000000) (disch := omega) only [k61_0, k61_r, k61_s, F_al0, T_getR, T_I, T_getI, J_cp, T_putI, T_putZ, T_ret, x1, c3, e1, true_or, ↓reduceIte, TK, lt_run hn, le43, Int.le_refl, Int.lt_irrefl, Option.some.injEq, exists_eq_left', true_and, and_true, if_true, if_false, decide_eq_false_iff_not, decide_eq_true_eq, Nat.reduceAdd, Nat.reduceLeDiff, Nat.reduceLT, Int.reduceAdd, Int.reduceSub, Int.reduceMul, Int.reduceNeg, not_true_eq_false, not_false_eq_true]
  refine k _ hI_s (fun f f0 f1 => ?_) (Ef.hI (cp_e Ef.refl (fun _ => Or.inr rfl)) (Or.inl ⟨rfl, rfl⟩))
  rw [gA_o (by omega), cp_g (by omega) (by omega) (by omega) f0, if_pos (by omega), show 0 + (f - 0) = f by omega]
  exact d f f0 f1
theorem Pstretch (F : FH hr) (hn : 775 ≤ n) (C : Cp6 h) (x y z : Int32) : Pr2 E 160 269 [.int x, .int y, .int z] h hr n (Po Cp6 6 6 h hr n) := by
  have C0 := C
  obtain ⟨N, R, h1, h2, h3⟩ := C
  obtain ⟨l, hl, hl', rfl⟩ := J_of x
  obtain ⟨a, ha, ha', rfl⟩ := J_of y
  obtain ⟨b, hb, hb', rfl⟩ := J_of z
  unfold Pr2
  by_cases g1 : 0 ≤ l ∧ l ≤ 3
  case neg =>
    simp +decide (maxSteps := 4000000) (disch := omega) only [k160_0, k160_1, k160_2, k160_r, k160_s, F_il1, J_ifeq, F_il2, T_I, F_il3, J_ifne, T_ft, T_ret, F_al0, T_getR, X_aald, c63, c138, c158, ↓s138, ↓s158, FX F, g1, ↓reduceIte, TK, lt_run hn, le43, Int.le_refl, Int.lt_irrefl, Option.some.injEq, exists_eq_left', true_and, and_true, if_true, if_false, decide_eq_false_iff_not, decide_eq_true_eq, Nat.reduceAdd, Nat.reduceLeDiff, Nat.reduceLT, Int.reduceAdd, Int.reduceSub, Int.reduceMul, Int.reduceNeg, not_true_eq_false, not_false_eq_true]
    refine ⟨_, rfl, ?_⟩
    simp +decide (maxSteps := 4000000) (disch := omega) only [k269_0, k269_1, k269_2, k269_3, k269_5, k269_7, k269_r, k269_s, F_il1, J_ifeq, F_il2, T_I, F_il3, J_ifne, T_ft, T_ret, F_al0, T_getR, X_iald, T_mul, T_div, F_is4i, F_is4r, F_is4m, F_il4, T_icle, F_is5i, F_is5r, F_is5m, F_il5, T_icge, T_add, T_iast, F_inc5i, F_inc5r, F_inc5m, T_goto, c219, c264, ↓s219, ↓s264, FM F, g1, ↓reduceIte, TK, lt_run hn, le43, Int.le_refl, Int.lt_irrefl, Option.some.injEq, exists_eq_left', true_and, and_true, if_true, if_false, decide_eq_false_iff_not, decide_eq_true_eq, Nat.reduceAdd, Nat.reduceLeDiff, Nat.reduceLT, Int.reduceAdd, Int.reduceSub, Int.reduceMul, Int.reduceNeg, not_true_eq_false, not_false_eq_true]
    first | exact ⟨rfl, ⟨C0, Kp.refl⟩, rfl, rfl⟩ | exact ⟨⟨C0, Kp.refl⟩, rfl, rfl⟩ | exact ⟨C0, Kp.refl⟩
  by_cases g2 : 1 ≤ a ∧ a ≤ 20
  case neg =>
    simp +decide (maxSteps := 4000000) (disch := omega) only [k160_0, k160_1, k160_2, k160_r, k160_s, F_il1, J_ifeq, F_il2, T_I, F_il3, J_ifne, T_ft, T_ret, F_al0, T_getR, X_aald, c63, c138, c158, ↓s138, ↓s158, FX F, g1, g2, ↓reduceIte, TK, lt_run hn, le43, Int.le_refl, Int.lt_irrefl, Option.some.injEq, exists_eq_left', true_and, and_true, if_true, if_false, decide_eq_false_iff_not, decide_eq_true_eq, Nat.reduceAdd, Nat.reduceLeDiff, Nat.reduceLT, Int.reduceAdd, Int.reduceSub, Int.reduceMul, Int.reduceNeg, not_true_eq_false, not_false_eq_true]
    refine ⟨_, rfl, ?_⟩
    simp +decide (maxSteps := 4000000) (disch := omega) only [k269_0, k269_1, k269_2, k269_3, k269_5, k269_7, k269_r, k269_s, F_il1, J_ifeq, F_il2, T_I, F_il3, J_ifne, T_ft, T_ret, F_al0, T_getR, X_iald, T_mul, T_div, F_is4i, F_is4r, F_is4m, F_il4, T_icle, F_is5i, F_is5r, F_is5m, F_il5, T_icge, T_add, T_iast, F_inc5i, F_inc5r, F_inc5m, T_goto, c219, c264, ↓s219, ↓s264, FM F, g1, g2, ↓reduceIte, TK, lt_run hn, le43, Int.le_refl, Int.lt_irrefl, Option.some.injEq, exists_eq_left', true_and, and_true, if_true, if_false, decide_eq_false_iff_not, decide_eq_true_eq, Nat.reduceAdd, Nat.reduceLeDiff, Nat.reduceLT, Int.reduceAdd, Int.reduceSub, Int.reduceMul, Int.reduceNeg, not_true_eq_false, not_false_eq_true]
    first | exact ⟨rfl, ⟨C0, Kp.refl⟩, rfl, rfl⟩ | exact ⟨⟨C0, Kp.refl⟩, rfl, rfl⟩ | exact ⟨C0, Kp.refl⟩
  by_cases g3 : 1 ≤ b ∧ b ≤ 20
  case neg =>
    simp +decide (maxSteps := 4000000) (disch := omega) only [k160_0, k160_1, k160_2, k160_r, k160_s, F_il1, J_ifeq, F_il2, T_I, F_il3, J_ifne, T_ft, T_ret, F_al0, T_getR, X_aald, c63, c138, c158, ↓s138, ↓s158, FX F, g1, g2, g3, ↓reduceIte, TK, lt_run hn, le43, Int.le_refl, Int.lt_irrefl, Option.some.injEq, exists_eq_left', true_and, and_true, if_true, if_false, decide_eq_false_iff_not, decide_eq_true_eq, Nat.reduceAdd, Nat.reduceLeDiff, Nat.reduceLT, Int.reduceAdd, Int.reduceSub, Int.reduceMul, Int.reduceNeg, not_true_eq_false, not_false_eq_true]
    refine ⟨_, rfl, ?_⟩
    simp +decide (maxSteps := 4000000) (disch := omega) only [k269_0, k269_1, k269_2, k269_3, k269_5, k269_7, k269_r, k269_s, F_il1, J_ifeq, F_il2, T_I, F_il3, J_ifne, T_ft, T_ret, F_al0, T_getR, X_iald, T_mul, T_div, F_is4i, F_is4r, F_is4m, F_il4, T_icle, F_is5i, F_is5r, F_is5m, F_il5, T_icge, T_add, T_iast, F_inc5i, F_inc5r, F_inc5m, T_goto, c219, c264, ↓s219, ↓s264, FM F, g1, g2, g3, ↓reduceIte, TK, lt_run hn, le43, Int.le_refl, Int.lt_irrefl, Option.some.injEq, exists_eq_left', true_and, and_true, if_true, if_false, decide_eq_false_iff_not, decide_eq_true_eq, Nat.reduceAdd, Nat.reduceLeDiff, Nat.reduceLT, Int.reduceAdd, Int.reduceSub, Int.reduceMul, Int.reduceNeg, not_true_eq_false, not_false_eq_true]
    first | exact ⟨rfl, ⟨C0, Kp.refl⟩, rfl, rfl⟩ | exact ⟨⟨C0, Kp.refl⟩, rfl, rfl⟩ | exact ⟨C0, Kp.refl⟩
  have x1 := X90 E F g1.1 (show l < 4 by omega)
  obtain ⟨b1, b2, b3⟩ := h3 l g1.1 (by omega)
  have nr := h1 l
  have m1 := mulb (a := N l) (b := a) (A := 120) (B := 20) (by omega) (by omega)
  have n0 : 0 ≤ N l * a := Int.mul_nonneg (by omega) (by omega)
  have bne : J b ≠ 0 := J_n0 (by omega)
  have ane : J a ≠ 0 := J_n0 (by omega)
  have w0 : 0 ≤ N l * a / b := Int.ediv_nonneg n0 (by omega)
  have wl : N l * a / b ≤ N l * a := Int.ediv_le_self b n0
  obtain ⟨wv, hw⟩ : ∃ w, N l * a / b = w := ⟨_, rfl⟩
  rw [hw] at w0 wl
  by_cases g4 : wv ≤ 120
  case neg =>
    simp +decide (maxSteps := 4000000) (disch := omega) only [k160_0, k160_1, k160_2, k160_r, k160_s, F_il1, J_ifeq, F_il2, T_I, F_il3, J_ifne, T_ft, T_ret, F_al0, T_getR, X_aald, c63, c138, c158, ↓s138, ↓s158, FX F, g1, g2, g3, x1, kd_90, ln_90, ↓reduceIte, TK, lt_run hn, le43, Int.le_refl, Int.lt_irrefl, Option.some.injEq, exists_eq_left', true_and, and_true, if_true, if_false, decide_eq_false_iff_not, decide_eq_true_eq, Nat.reduceAdd, Nat.reduceLeDiff, Nat.reduceLT, Int.reduceAdd, Int.reduceSub, Int.reduceMul, Int.reduceNeg, not_true_eq_false, not_false_eq_true]
    simp +decide (maxSteps := 4000000) (disch := omega) only [k63_0, k63_1, k63_2, k63_3, k63_5, k63_r, k63_s, F_il1, J_ifle, F_il2, J_ifgt, T_ft, T_I, T_ret, F_al0, T_getI, T_mul, T_div, F_is3i, F_is3r, F_is3m, F_il3, T_icle, F_is4i, F_is4r, F_is4m, F_il4, T_icge, T_getR, T_iast, F_inc4i, F_inc4r, F_inc4m, T_goto, T_putI, T_putZ, c61, c62, ↓s62, x1, b1, hw, J_divp, g4, bne, ne_eq, show ¬ a ≤ 0 by omega, show ¬ b ≤ 0 by omega, show 0 < b by omega, ↓reduceIte, TK, lt_run hn, le43, Int.le_refl, Int.lt_irrefl, Option.some.injEq, exists_eq_left', true_and, and_true, if_true, if_false, decide_eq_false_iff_not, decide_eq_true_eq, Nat.reduceAdd, Nat.reduceLeDiff, Nat.reduceLT, Int.reduceAdd, Int.reduceSub, Int.reduceMul, Int.reduceNeg, not_true_eq_false, not_false_eq_true]
    try simp +decide (maxSteps := 4000000) (disch := omega) only [k160_0, k160_1, k160_2, k160_r, k160_s, F_il1, J_ifeq, F_il2, T_I, F_il3, J_ifne, T_ft, T_ret, F_al0, T_getR, X_aald, c63, c138, c158, ↓s138, ↓s158, FX F, ↓reduceIte, TK, lt_run hn, le43, Int.le_refl, Int.lt_irrefl, Option.some.injEq, exists_eq_left', true_and, and_true, if_true, if_false, decide_eq_false_iff_not, decide_eq_true_eq, Nat.reduceAdd, Nat.reduceLeDiff, Nat.reduceLT, Int.reduceAdd, Int.reduceSub, Int.reduceMul, Int.reduceNeg, not_true_eq_false, not_false_eq_true]
    refine ⟨_, rfl, ?_⟩
    simp +decide (maxSteps := 4000000) (disch := omega) only [k269_0, k269_1, k269_2, k269_3, k269_5, k269_7, k269_r, k269_s, F_il1, J_ifeq, F_il2, T_I, F_il3, J_ifne, T_ft, T_ret, F_al0, T_getR, X_iald, T_mul, T_div, F_is4i, F_is4r, F_is4m, F_il4, T_icle, F_is5i, F_is5r, F_is5m, F_il5, T_icge, T_add, T_iast, F_inc5i, F_inc5r, F_inc5m, T_goto, c219, c264, ↓s219, ↓s264, FM F, g1, g2, g3, b2, hw, J_divp, g4, bne, ne_eq, ln_735, ↓reduceIte, TK, lt_run hn, le43, Int.le_refl, Int.lt_irrefl, Option.some.injEq, exists_eq_left', true_and, and_true, if_true, if_false, decide_eq_false_iff_not, decide_eq_true_eq, Nat.reduceAdd, Nat.reduceLeDiff, Nat.reduceLT, Int.reduceAdd, Int.reduceSub, Int.reduceMul, Int.reduceNeg, not_true_eq_false, not_false_eq_true]
    first | exact ⟨rfl, ⟨C0, Kp.refl⟩, rfl, rfl⟩ | exact ⟨⟨C0, Kp.refl⟩, rfl, rfl⟩ | exact ⟨C0, Kp.refl⟩
  have inr : ∀ f, 0 ≤ f → f < wv → 0 ≤ f * b / a ∧ f * b / a < N l ∧ 0 ≤ f * b ∧ f * b ≤ 2400 := fun f f0 f1 => by
    have p0 : 0 ≤ f * b := Int.mul_nonneg f0 (by omega)
    have p1 : f * b < N l * a := by
      have q1 : (f + 1) * b ≤ N l * a := by
        have : f + 1 ≤ N l * a / b := by omega
        have := Int.mul_le_mul_of_nonneg_right this (show 0 ≤ b by omega)
        have := Int.ediv_mul_le (N l * a) (show b ≠ 0 by omega)
        omega
      rw [Int.add_mul] at q1
      omega
    have p2 := mulb (a := f) (b := b) (A := 120) (B := 20) (by omega) (by omega)
    refine ⟨Int.ediv_nonneg p0 (by omega), Int.ediv_lt_of_lt_mul (by omega) p1, p0, by omega⟩
  simp +decide (maxSteps := 4000000) (disch := omega) only [k160_0, k160_1, k160_2, k160_r, k160_s, F_il1, J_ifeq, F_il2, T_I, F_il3, J_ifne, T_ft, T_ret, F_al0, T_getR, X_aald, c63, c138, c158, ↓s138, ↓s158, FX F, g1, g2, g3, x1, kd_90, ln_90, ↓reduceIte, TK, lt_run hn, le43, Int.le_refl, Int.lt_irrefl, Option.some.injEq, exists_eq_left', true_and, and_true, if_true, if_false, decide_eq_false_iff_not, decide_eq_true_eq, Nat.reduceAdd, Nat.reduceLeDiff, Nat.reduceLT, Int.reduceAdd, Int.reduceSub, Int.reduceMul, Int.reduceNeg, not_true_eq_false, not_false_eq_true]
  simp +decide (maxSteps := 4000000) (disch := omega) only [k63_0, k63_1, k63_2, k63_3, k63_5, k63_r, k63_s, F_il1, J_ifle, F_il2, J_ifgt, T_ft, T_I, T_ret, F_al0, T_getI, T_mul, T_div, F_is3i, F_is3r, F_is3m, F_il3, T_icle, F_is4i, F_is4r, F_is4m, F_il4, T_icge, T_getR, T_iast, F_inc4i, F_inc4r, F_inc4m, T_goto, T_putI, T_putZ, c61, c62, ↓s62, x1, b1, hw, J_divp, g4, bne, ne_eq, show ¬ a ≤ 0 by omega, show ¬ b ≤ 0 by omega, show 0 < b by omega, ↓reduceIte, TK, lt_run hn, le43, Int.le_refl, Int.lt_irrefl, Option.some.injEq, exists_eq_left', true_and, and_true, if_true, if_false, decide_eq_false_iff_not, decide_eq_true_eq, Nat.reduceAdd, Nat.reduceLeDiff, Nat.reduceLT, Int.reduceAdd, Int.reduceSub, Int.reduceMul, Int.reduceNeg, not_true_eq_false, not_false_eq_true]
  refine T_for (σ := Unit) (fun f _ => [.ref (623 + 3 * l.toNat), .int (J a), .int (J b), .int (J wv), .int (J f)]) (fun f _ h' => Ef (fun x _ => x = 625 + 3 * l.toNat) h h' ∧ ∀ q, 0 ≤ q → q < f → gA h' (625 + 3 * l.toNat) q = J (R l (q * b / a))) 0 wv ?_ ?_ 0 () h (by omega) (by omega) ⟨Ef.refl, fun q _ _ => by omega⟩
  · rintro f _ h4 f0 f1 ⟨e4, c4⟩ ih
    have ir := inr f f0 f1
    have S := fun Q => s62 (E := E) (Q := Q) (f := f * b / a) (R := R l) F hn g1.1 (show l < 4 by omega) nr (by omega) (by omega) (show h4 (623 + 3 * l.toNat) 1 = J (N l) by rw [e4 _ _ (by omega)]; exact b1) (fun q q0 q1 => by rw [e4.g (by omega)]; exact (b3 q q0 q1).1)
    have er : row (N l) (R l) (f * b / a) = R l (f * b / a) := if_pos ⟨ir.1, ir.2.1⟩
    rw [er] at S
    rw [k63_4]
    simp +decide (maxSteps := 4000000) (disch := omega) only [k63_0, k63_1, k63_2, k63_3, k63_5, k63_r, k63_s, F_il1, J_ifle, F_il2, J_ifgt, T_ft, T_I, T_ret, F_al0, T_getI, T_mul, T_div, F_is3i, F_is3r, F_is3m, F_il3, T_icle, F_is4i, F_is4r, F_is4m, F_il4, T_icge, T_getR, T_iast, F_inc4i, F_inc4r, F_inc4m, T_goto, T_putI, T_putZ, c61, c62, x1, S, J_divp, ane, ne_eq, show ¬ wv ≤ f by omega, ↓reduceIte, TK, lt_run hn, le43, Int.le_refl, Int.lt_irrefl, Option.some.injEq, exists_eq_left', true_and, and_true, if_true, if_false, decide_eq_false_iff_not, decide_eq_true_eq, Nat.reduceAdd, Nat.reduceLeDiff, Nat.reduceLT, Int.reduceAdd, Int.reduceSub, Int.reduceMul, Int.reduceNeg, not_true_eq_false, not_false_eq_true]
    refine ih () _ ⟨e4.sA rfl, fun q q0 q1 => ?_⟩
    by_cases g : q = f
    · rw [g, gs_s]
    · rw [gs_k f0 q0 g]
      exact c4 q q0 (by omega)
  rintro _ h4 ⟨e4, c4⟩
  rw [k63_4]
  simp +decide (maxSteps := 4000000) (disch := omega) only [k63_0, k63_1, k63_2, k63_3, k63_5, k63_r, k63_s, F_il1, J_ifle, F_il2, J_ifgt, T_ft, T_I, T_ret, F_al0, T_getI, T_mul, T_div, F_is3i, F_is3r, F_is3m, F_il3, T_icle, F_is4i, F_is4r, F_is4m, F_il4, T_icge, T_getR, T_iast, F_inc4i, F_inc4r, F_inc4m, T_goto, T_putI, T_putZ, c61, c62, ↓s62, x1, ↓reduceIte, TK, lt_run hn, le43, Int.le_refl, Int.lt_irrefl, Option.some.injEq, exists_eq_left', true_and, and_true, if_true, if_false, decide_eq_false_iff_not, decide_eq_true_eq, Nat.reduceAdd, Nat.reduceLeDiff, Nat.reduceLT, Int.reduceAdd, Int.reduceSub, Int.reduceMul, Int.reduceNeg, not_true_eq_false, not_false_eq_true]
  refine w61 F hn g1.1 (by omega) ⟨w0, g4⟩ hI_s (D := fun f => R l (f * b / a)) (fun f f0 f1 => by rw [gA_o (by omega)]; exact c4 f f0 f1) (fun h5 c5 d5 e5 => ?_)
  simp +decide (maxSteps := 4000000) (disch := omega) only [k63_0, k63_1, k63_2, k63_3, k63_5, k63_r, k63_s, F_il1, J_ifle, F_il2, J_ifgt, T_ft, T_I, T_ret, F_al0, T_getI, T_mul, T_div, F_is3i, F_is3r, F_is3m, F_il3, T_icle, F_is4i, F_is4r, F_is4m, F_il4, T_icge, T_getR, T_iast, F_inc4i, F_inc4r, F_inc4m, T_goto, T_putI, T_putZ, c61, c62, ↓s62, x1, c5, ↓reduceIte, TK, lt_run hn, le43, Int.le_refl, Int.lt_irrefl, Option.some.injEq, exists_eq_left', true_and, and_true, if_true, if_false, decide_eq_false_iff_not, decide_eq_true_eq, Nat.reduceAdd, Nat.reduceLeDiff, Nat.reduceLT, Int.reduceAdd, Int.reduceSub, Int.reduceMul, Int.reduceNeg, not_true_eq_false, not_false_eq_true]
  try simp +decide (maxSteps := 4000000) (disch := omega) only [k160_0, k160_1, k160_2, k160_r, k160_s, F_il1, J_ifeq, F_il2, T_I, F_il3, J_ifne, T_ft, T_ret, F_al0, T_getR, X_aald, c63, c138, c158, ↓s138, ↓s158, FX F, ↓reduceIte, TK, lt_run hn, le43, Int.le_refl, Int.lt_irrefl, Option.some.injEq, exists_eq_left', true_and, and_true, if_true, if_false, decide_eq_false_iff_not, decide_eq_true_eq, Nat.reduceAdd, Nat.reduceLeDiff, Nat.reduceLT, Int.reduceAdd, Int.reduceSub, Int.reduceMul, Int.reduceNeg, not_true_eq_false, not_false_eq_true]
  refine ⟨_, rfl, ?_⟩
  have ee : Ef (fun x k => (x = 623 + 3 * l.toNat ∧ (k = 1 ∨ k = 3)) ∨ x = 624 + 3 * l.toNat ∨ x = 625 + 3 * l.toNat) h h5 := ((e4.mono fun x k q => by omega).hI (by omega)).trans (e5.mono fun x k q => by omega)
  have b2' : gA h5 735 l = J (N l) := by
    rw [ee.g (by omega)]
    exact b2
  simp +decide (maxSteps := 4000000) (disch := omega) only [k269_0, k269_1, k269_2, k269_3, k269_5, k269_7, k269_r, k269_s, F_il1, J_ifeq, F_il2, T_I, F_il3, J_ifne, T_ft, T_ret, F_al0, T_getR, X_iald, T_mul, T_div, F_is4i, F_is4r, F_is4m, F_il4, T_icle, F_is5i, F_is5r, F_is5m, F_il5, T_icge, T_add, T_iast, F_inc5i, F_inc5r, F_inc5m, T_goto, c219, c264, ↓s219, ↓s264, FM F, g1, g2, g3, b2', hw, J_divp, g4, bne, ne_eq, ln_735, ↓reduceIte, TK, lt_run hn, le43, Int.le_refl, Int.lt_irrefl, Option.some.injEq, exists_eq_left', true_and, and_true, if_true, if_false, decide_eq_false_iff_not, decide_eq_true_eq, Nat.reduceAdd, Nat.reduceLeDiff, Nat.reduceLT, Int.reduceAdd, Int.reduceSub, Int.reduceMul, Int.reduceNeg, not_true_eq_false, not_false_eq_true]
  refine T_for (σ := Unit) (fun f _ => [.ref 704, .int (J l), .int (J a), .int (J b), .int (J wv), .int (J f)]) (fun f _ h' => Ef (fun x _ => x = 736) h5 h' ∧ ∀ q, 0 ≤ q → q < f → gA h' 736 q = J (R l (q * b / a))) 0 wv ?_ ?_ 0 () h5 (by omega) (by omega) ⟨Ef.refl, fun q _ _ => by omega⟩
  · rintro f _ h6 f0 f1 ⟨e6, c6⟩ ih
    have ir := inr f f0 f1
    have d6 : gA h6 734 (120 * l + f * b / a) = J (R l (f * b / a)) := by
      rw [e6.g (by decide), ee.g (by omega)]
      exact (b3 _ ir.1 ir.2.1).2
    rw [k269_4]
    simp +decide (maxSteps := 4000000) (disch := omega) only [k269_0, k269_1, k269_2, k269_3, k269_5, k269_7, k269_r, k269_s, F_il1, J_ifeq, F_il2, T_I, F_il3, J_ifne, T_ft, T_ret, F_al0, T_getR, X_iald, T_mul, T_div, F_is4i, F_is4r, F_is4m, F_il4, T_icle, F_is5i, F_is5r, F_is5m, F_il5, T_icge, T_add, T_iast, F_inc5i, F_inc5r, F_inc5m, T_goto, c219, c264, ↓s219, ↓s264, FM F, d6, J_divp, ane, ne_eq, ln_734, ln_736, show ¬ wv ≤ f by omega, ↓reduceIte, TK, lt_run hn, le43, Int.le_refl, Int.lt_irrefl, Option.some.injEq, exists_eq_left', true_and, and_true, if_true, if_false, decide_eq_false_iff_not, decide_eq_true_eq, Nat.reduceAdd, Nat.reduceLeDiff, Nat.reduceLT, Int.reduceAdd, Int.reduceSub, Int.reduceMul, Int.reduceNeg, not_true_eq_false, not_false_eq_true]
    refine ih () _ ⟨e6.sA rfl, fun q q0 q1 => ?_⟩
    by_cases g : q = f
    · rw [g, gs_s]
    · rw [gs_k f0 q0 g]
      exact c6 q q0 (by omega)
  rintro _ h6 ⟨e6, c6⟩
  rw [k269_4]
  simp +decide (maxSteps := 4000000) (disch := omega) only [k269_0, k269_1, k269_2, k269_3, k269_5, k269_7, k269_r, k269_s, F_il1, J_ifeq, F_il2, T_I, F_il3, J_ifne, T_ft, T_ret, F_al0, T_getR, X_iald, T_mul, T_div, F_is4i, F_is4r, F_is4m, F_il4, T_icle, F_is5i, F_is5r, F_is5m, F_il5, T_icge, T_add, T_iast, F_inc5i, F_inc5r, F_inc5m, T_goto, c219, c264, ↓s219, ↓s264, FM F, ↓reduceIte, TK, lt_run hn, le43, Int.le_refl, Int.lt_irrefl, Option.some.injEq, exists_eq_left', true_and, and_true, if_true, if_false, decide_eq_false_iff_not, decide_eq_true_eq, Nat.reduceAdd, Nat.reduceLeDiff, Nat.reduceLT, Int.reduceAdd, Int.reduceSub, Int.reduceMul, Int.reduceNeg, not_true_eq_false, not_false_eq_true]
  refine T_for (σ := Unit) (fun f _ => [.ref 704, .int (J l), .int (J a), .int (J b), .int (J wv), .int (J f)]) (fun f _ h' => Ef (fun x k => x = 734 ∧ 120 * l.toNat ≤ k ∧ k < 120 * l.toNat + 120) h6 h' ∧ ∀ q, 0 ≤ q → q < f → gA h' 734 (120 * l + q) = J (R l (q * b / a))) 0 wv ?_ ?_ 0 () h6 (by omega) (by omega) ⟨Ef.refl, fun q _ _ => by omega⟩
  · rintro f _ h7 f0 f1 ⟨e7, c7⟩ ih
    have d7 : gA h7 736 f = J (R l (f * b / a)) := by
      rw [e7.g (by omega)]
      exact c6 f f0 f1
    rw [k269_6]
    simp +decide (maxSteps := 4000000) (disch := omega) only [k269_0, k269_1, k269_2, k269_3, k269_5, k269_7, k269_r, k269_s, F_il1, J_ifeq, F_il2, T_I, F_il3, J_ifne, T_ft, T_ret, F_al0, T_getR, X_iald, T_mul, T_div, F_is4i, F_is4r, F_is4m, F_il4, T_icle, F_is5i, F_is5r, F_is5m, F_il5, T_icge, T_add, T_iast, F_inc5i, F_inc5r, F_inc5m, T_goto, c219, c264, ↓s219, ↓s264, FM F, d7, ln_734, ln_736, show ¬ wv ≤ f by omega, ↓reduceIte, TK, lt_run hn, le43, Int.le_refl, Int.lt_irrefl, Option.some.injEq, exists_eq_left', true_and, and_true, if_true, if_false, decide_eq_false_iff_not, decide_eq_true_eq, Nat.reduceAdd, Nat.reduceLeDiff, Nat.reduceLT, Int.reduceAdd, Int.reduceSub, Int.reduceMul, Int.reduceNeg, not_true_eq_false, not_false_eq_true]
    refine ih () _ ⟨e7.sA (by omega), fun q q0 q1 => ?_⟩
    by_cases g : q = f
    · rw [g, gs_s]
    · rw [gs_k (by omega) (by omega) (by omega)]
      exact c7 q q0 (by omega)
  rintro _ h7 ⟨e7, c7⟩
  rw [k269_6]
  simp +decide (maxSteps := 4000000) (disch := omega) only [k269_0, k269_1, k269_2, k269_3, k269_5, k269_7, k269_r, k269_s, F_il1, J_ifeq, F_il2, T_I, F_il3, J_ifne, T_ft, T_ret, F_al0, T_getR, X_iald, T_mul, T_div, F_is4i, F_is4r, F_is4m, F_il4, T_icle, F_is5i, F_is5r, F_is5m, F_il5, T_icge, T_add, T_iast, F_inc5i, F_inc5r, F_inc5m, T_goto, c219, c264, ↓s219, ↓s264, FM F, ln_735, ↓reduceIte, TK, lt_run hn, le43, Int.le_refl, Int.lt_irrefl, Option.some.injEq, exists_eq_left', true_and, and_true, if_true, if_false, decide_eq_false_iff_not, decide_eq_true_eq, Nat.reduceAdd, Nat.reduceLeDiff, Nat.reduceLT, Int.reduceAdd, Int.reduceSub, Int.reduceMul, Int.reduceNeg, not_true_eq_false, not_false_eq_true]
  have eM : Ef (fun x k => x = 736 ∨ (x = 734 ∧ 120 * l.toNat ≤ k ∧ k < 120 * l.toNat + 120) ∨ (x = 735 ∧ k = l.toNat)) h5 (sA h7 735 l (J wv)) := ((e6.mono fun x k q => by omega).trans (e7.mono fun x k q => by omega)).sA (by omega)
  have eA : Ef (fun x k => Srw l.toNat x k ∨ sys x k = 0) h (sA h7 735 l (J wv)) := (ee.mono fun x k q => by
      rcases q with ⟨q1, q2 | q2⟩ | q | q
      · exact Or.inl (Or.inl ⟨q1, q2⟩)
      · refine Or.inr ?_
        rw [q1, q2]
        exact (sysL5 (by omega)).2.2.2
      · exact Or.inl (Or.inr (Or.inl q))
      · refine Or.inr ?_
        rw [q]
        exact sysL0 (by omega)).trans (eM.mono fun x k q => by
      rcases q with q | q | q
      · refine Or.inr ?_
        rw [q]
        rfl
      · exact Or.inl (Or.inr (Or.inr (Or.inl q)))
      · exact Or.inl (Or.inr (Or.inr (Or.inr q))))
  refine ⟨⟨Cp6_u C0 g1.1 (by omega) (m := wv) (D := fun f => R l (f * b / a)) ⟨w0, g4⟩ (fun f => h2 l _) (eA.mono fun x k q => q.elim Or.inl (fun z => Or.inr (by omega))) ?_ gs_s (fun f f0 f1 => ⟨?_, ?_⟩), Kp.of eA (fun x k q => q.elim (fun z => Or.inr (Or.inl (srw6 (by omega) z))) Or.inl)⟩, rfl, rfl⟩
  · rw [eM _ _ (by omega)]
    exact c5
  · rw [eM.g (by omega)]
    exact d5 f f0 f1
  · rw [gs_o (by decide)]
    exact c7 f f0 f1
end SH
