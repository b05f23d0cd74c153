/-! sheet: both sides -/
section SG
variable {E : AEn} {h h' : AHi} {hr : AHr} {n : Nat} {Q : ARs → Prop} {l t : Int} {b : Int → Int}
/-- what the reference's reading of a row changes -/
def Ssm (a k : Nat) : Prop := (a = 704 ∧ (k = 2 ∨ k = 3 ∨ k = 4 ∨ k = 5 ∨ k = 42)) ∨ a = 706 ∨ a = 736
theorem sys_sm {a k : Nat} (q : Ssm a k) : sys a k = 0 ∨ sys a k = 1 := by
  rcases q with ⟨rfl, rfl | rfl | rfl | rfl | rfl⟩ | rfl | rfl
  · exact Or.inr rfl
  all_goals exact Or.inl rfl
theorem w263 (F : FH hr) (hn : 775 ≤ n) (l0 : 0 ≤ l) (l1 : l ≤ 3) (ht : 0 ≤ t ∧ t ≤ 1600) (hb : ∀ i, 0 ≤ b i ∧ b i ≤ 255) (m1 : h 704 2 = J t) (m2 : ∀ i, 0 ≤ i → i < t → gA h 705 i = J (b i))
    (k1 : ∀ h', h' 704 2 = J 0 → Ef Ssm h h' → (rdR b t).1 ≠ -1 → Q (some (.int (J (-1000 - (rdR b t).1))), h', hr, n))
    (k2 : ∀ h', h' 704 2 = J 0 → Ef (fun a k => Ssm a k ∨ (a = 734 ∧ 120 * l.toNat ≤ k ∧ k < 120 * l.toNat + 120) ∨ (a = 735 ∧ k = l.toNat)) h h' → (rdR b t).1 = -1 → gA h' 735 l = J (rdR b t).2.1 → (∀ f, 0 ≤ f → f < (rdR b t).2.1 → gA h' 734 (120 * l + f) = J ((rdR b t).2.2 f)) → Q (some (.int (J (rdR b t).2.1)), h', hr, n)) : Sp E 263 [.ref 704, .int (J l)] h hr n Q := by
  have rb := rdR_b ht hb
  simp +decide (maxSteps := 4000000) (disch := omega) only [k263_0, k263_1, k263_2, k263_3, k263_5, k263_6, k263_7, k263_8, k263_9, k263_10, k263_12, k263_r, k263_s, F_al0, F_il1, J_ifne, T_I, T_ret, T_putI, T_putZ, T_getI, J_ifle, T_goto, T_ft, F_is2i, F_is2r, F_is2m, J_ifeq, F_il2, T_icge, T_getR, T_iast, F_is3i, F_is3r, F_is3m, F_il3, T_mul, T_add, X_iald, F_inc3i, F_inc3r, F_inc3m, c217, c221, c225, c226, c264, c265, c266, c267, ↓s221, ↓s225, ↓s226, ↓s264, ↓s265, ↓reduceIte, TK, lt_run hn, le43, Int.le_refl, Int.lt_irrefl, Option.some.injEq, exists_eq_left', true_and, and_true, if_true, if_false, decide_eq_false_iff_not, decide_eq_true_eq, Nat.reduceAdd, Nat.reduceLeDiff, Nat.reduceLT, Int.reduceAdd, Int.reduceSub, Int.reduceMul, Int.reduceNeg, not_true_eq_false, not_false_eq_true]
  refine w217 F hn ht hb m1 m2 (fun h1 T1 c1 e1 => ?_)
  have e1' : Ef Ssm h h1 := e1.mono fun a k q => by unfold Ssm; omega
  have t3 := T1.2.2.1
  have eM : ∀ {h : AHi} {p f : Int}, Ef Ssm h (MS h p f) := fun {h p f} => Ef_MS.mono fun a k q => by unfold Ssm; omega
  have e0 : Ef Ssm h (hI h1 704 42 (J 0)) := e1'.hI (Or.inl ⟨rfl, by omega⟩)
  have T0 : TpM (hI h1 704 42 (J 0)) t b := T1.dm (Ef.refl.hI (Or.inl ⟨rfl, rfl⟩))
  have y0 : hI h1 704 42 (J 0) 704 2 = J 0 := by rw [hI_k (by decide)]; exact c1
  have y3 : hI h1 704 42 (J 0) 704 3 = J t := by rw [hI_k (by decide)]; exact t3
  have last : ∀ h2 w v2, 0 ≤ w → w ≤ 1700 → Ef Ssm h h2 → h2 704 2 = J 0 → ((rdR b t).1 = -1 → Rz h2 704 42 736 (rdR b t).2.1 (rdR b t).2.2) → Tm E 263 (a_bl 263 9) [.ref 704, .int (J l), .int v2, a_mk] [] (MS h2 w (rdR b t).1) hr n Q := fun h2 w v2 w0 w1 e2 y2 gd => by
    rw [k263_9]
    by_cases g : (rdR b t).1 = -1
    · obtain ⟨R1, R2⟩ := gd g
      obtain ⟨u1, u2⟩ := rb.2 g
      have k3 := fun h' y q => k2 h' y q g
      rw [g]
      have z1 : MS h2 w (-1) 704 42 = J (rdR b t).2.1 := by rw [MS_j (by decide)]; exact R1
      simp +decide (maxSteps := 4000000) (disch := omega) only [k263_0, k263_1, k263_2, k263_3, k263_5, k263_6, k263_7, k263_8, k263_9, k263_10, k263_12, k263_r, k263_s, F_al0, F_il1, J_ifne, T_I, T_ret, T_putI, T_putZ, T_getI, J_ifle, T_goto, T_ft, F_is2i, F_is2r, F_is2m, J_ifeq, F_il2, T_icge, T_getR, T_iast, F_is3i, F_is3r, F_is3m, F_il3, T_mul, T_add, X_iald, F_inc3i, F_inc3r, F_inc3m, c217, c221, c225, c226, c264, c265, c266, c267, ↓s225, ↓s226, ↓s264, ↓s265, FM F, ↓s221 F hn, z1, ln_735, ↓reduceIte, TK, lt_run hn, le43, Int.le_refl, Int.lt_irrefl, Option.some.injEq, exists_eq_left', true_and, and_true, if_true, if_false, decide_eq_false_iff_not, decide_eq_true_eq, Nat.reduceAdd, Nat.reduceLeDiff, Nat.reduceLT, Int.reduceAdd, Int.reduceSub, Int.reduceMul, Int.reduceNeg, not_true_eq_false, not_false_eq_true]
      have e3 : Ef (fun a k => Ssm a k ∨ (a = 734 ∧ 120 * l.toNat ≤ k ∧ k < 120 * l.toNat + 120) ∨ (a = 735 ∧ k = l.toNat)) h (sA (MS h2 w (-1)) 735 l (J (rdR b t).2.1)) := ((e2.trans eM).mono fun a k q => Or.inl q).sA (Or.inr (Or.inr ⟨rfl, rfl⟩))
      refine T_for (σ := Unit) (fun i _ => [.ref 704, .int (J l), .int v2, .int (J i)]) (fun i _ h' => Ef (fun a k => a = 734 ∧ 120 * l.toNat ≤ k ∧ k < 120 * l.toNat + 120) (sA (MS h2 w (-1)) 735 l (J (rdR b t).2.1)) h' ∧ ∀ f, 0 ≤ f → f < i → gA h' 734 (120 * l + f) = J ((rdR b t).2.2 f)) 0 (rdR b t).2.1 ?_ ?_ 0 () _ (by omega) (by omega) ⟨Ef.refl, fun f _ _ => by omega⟩
      · rintro i _ h4 i0 i1 ⟨e4, d4⟩ ih
        have z2 : h4 704 42 = J (rdR b t).2.1 := by
          rw [e4 _ _ (by omega), sA_o (by decide)]
          exact z1
        have z3 : gA h4 736 i = J ((rdR b t).2.2 i) := by
          rw [e4.g (by omega), gs_o (by decide), MS_g (by decide)]
          exact R2 i i0 i1
        rw [k263_11]
        simp +decide (maxSteps := 4000000) (disch := omega) only [k263_0, k263_1, k263_2, k263_3, k263_5, k263_6, k263_7, k263_8, k263_9, k263_10, k263_12, k263_r, k263_s, F_al0, F_il1, J_ifne, T_I, T_ret, T_putI, T_putZ, T_getI, J_ifle, T_goto, T_ft, F_is2i, F_is2r, F_is2m, J_ifeq, F_il2, T_icge, T_getR, T_iast, F_is3i, F_is3r, F_is3m, F_il3, T_mul, T_add, X_iald, F_inc3i, F_inc3r, F_inc3m, c217, c221, c225, c226, c264, c265, c266, c267, ↓s221, ↓s225, ↓s226, ↓s264, ↓s265, FM F, z2, z3, ln_734, ln_736, show ¬ (rdR b t).2.1 ≤ i by omega, ↓reduceIte, TK, lt_run hn, le43, Int.le_refl, Int.lt_irrefl, Option.some.injEq, exists_eq_left', true_and, and_true, if_true, if_false, decide_eq_false_iff_not, decide_eq_true_eq, Nat.reduceAdd, Nat.reduceLeDiff, Nat.reduceLT, Int.reduceAdd, Int.reduceSub, Int.reduceMul, Int.reduceNeg, not_true_eq_false, not_false_eq_true]
        refine ih () _ ⟨e4.sA (by omega), fun f f0 f1 => ?_⟩
        by_cases e : f = i
        · rw [e, gs_s]
        · rw [gs_k (by omega) (by omega) (by omega)]
          exact d4 f f0 (by omega)
      · rintro _ h4 ⟨e4, d4⟩
        have z2 : h4 704 42 = J (rdR b t).2.1 := by
          rw [e4 _ _ (by omega), sA_o (by decide)]
          exact z1
        rw [k263_11]
        simp +decide (maxSteps := 4000000) (disch := omega) only [k263_0, k263_1, k263_2, k263_3, k263_5, k263_6, k263_7, k263_8, k263_9, k263_10, k263_12, k263_r, k263_s, F_al0, F_il1, J_ifne, T_I, T_ret, T_putI, T_putZ, T_getI, J_ifle, T_goto, T_ft, F_is2i, F_is2r, F_is2m, J_ifeq, F_il2, T_icge, T_getR, T_iast, F_is3i, F_is3r, F_is3m, F_il3, T_mul, T_add, X_iald, F_inc3i, F_inc3r, F_inc3m, c217, c221, c225, c226, c264, c265, c266, c267, ↓s221, ↓s225, ↓s226, ↓s264, ↓s265, FM F, z2, ↓reduceIte, TK, lt_run hn, le43, Int.le_refl, Int.lt_irrefl, Option.some.injEq, exists_eq_left', true_and, and_true, if_true, if_false, decide_eq_false_iff_not, decide_eq_true_eq, Nat.reduceAdd, Nat.reduceLeDiff, Nat.reduceLT, Int.reduceAdd, Int.reduceSub, Int.reduceMul, Int.reduceNeg, not_true_eq_false, not_false_eq_true]
        refine k3 h4 ?_ (e3.trans (e4.mono fun a k q => Or.inr (Or.inl q))) ?_ d4
        · rw [e4 _ _ (by omega), sA_o (by decide), MS_j (by decide)]
          exact y2
        · rw [e4.g (by omega), gs_s]
    · have fb := rb.1
      simp +decide (maxSteps := 4000000) (disch := omega) only [k263_0, k263_1, k263_2, k263_3, k263_5, k263_6, k263_7, k263_8, k263_9, k263_10, k263_12, k263_r, k263_s, F_al0, F_il1, J_ifne, T_I, T_ret, T_putI, T_putZ, T_getI, J_ifle, T_goto, T_ft, F_is2i, F_is2r, F_is2m, J_ifeq, F_il2, T_icge, T_getR, T_iast, F_is3i, F_is3r, F_is3m, F_il3, T_mul, T_add, X_iald, F_inc3i, F_inc3r, F_inc3m, c217, c221, c225, c226, c264, c265, c266, c267, ↓s225, ↓s264, ↓s265, ↓s221 F hn, ↓s226 F hn, g, ↓reduceIte, TK, lt_run hn, le43, Int.le_refl, Int.lt_irrefl, Option.some.injEq, exists_eq_left', true_and, and_true, if_true, if_false, decide_eq_false_iff_not, decide_eq_true_eq, Nat.reduceAdd, Nat.reduceLeDiff, Nat.reduceLT, Int.reduceAdd, Int.reduceSub, Int.reduceMul, Int.reduceNeg, not_true_eq_false, not_false_eq_true]
      refine k1 _ ?_ (e2.trans eM) g
      rw [MS_j (by decide)]
      exact y2
  unfold rdR at last
  by_cases g : 0 < t
  · rw [if_pos g] at last
    simp +decide (maxSteps := 4000000) (disch := omega) only [k263_0, k263_1, k263_2, k263_3, k263_5, k263_6, k263_7, k263_8, k263_9, k263_10, k263_12, k263_r, k263_s, F_al0, F_il1, J_ifne, T_I, T_ret, T_putI, T_putZ, T_getI, J_ifle, T_goto, T_ft, F_is2i, F_is2r, F_is2m, J_ifeq, F_il2, T_icge, T_getR, T_iast, F_is3i, F_is3r, F_is3m, F_il3, T_mul, T_add, X_iald, F_inc3i, F_inc3r, F_inc3m, c217, c221, c225, c226, c264, c265, c266, c267, ↓s221, ↓s225, ↓s226, ↓s264, ↓s265, show l ≤ 3 by omega, l0, MS_f, MX, y3, show ¬ t ≤ 0 by omega, ↓reduceIte, TK, lt_run hn, le43, Int.le_refl, Int.lt_irrefl, Option.some.injEq, exists_eq_left', true_and, and_true, if_true, if_false, decide_eq_false_iff_not, decide_eq_true_eq, Nat.reduceAdd, Nat.reduceLeDiff, Nat.reduceLT, Int.reduceAdd, Int.reduceSub, Int.reduceMul, Int.reduceNeg, not_true_eq_false, not_false_eq_true]
    exact z263 F hn 1602 0 0 (fun _ => 0) _ (by omega) (by decide) (by omega) (by decide) Rg_0 T0 ⟨hI_s, fun j j0 j1 => by omega⟩ (fun h2 w v2 a1 a2 a3 a4 => last h2 w v2 a1 a2 (e0.trans (a3.mono fun a k q => by unfold Sdm at q; unfold Ssm; omega)) (by rw [a3 _ _ (by unfold Sdm; omega)]; exact y0) a4)
  · rw [if_neg g] at last
    have fin := last _ 0 (J 0) (by decide) (by decide) e0 y0 (fun _ => ⟨hI_s, fun j j0 j1 => by dsimp only at j1; omega⟩)
    simp +decide (maxSteps := 4000000) (disch := omega) only [k263_0, k263_1, k263_2, k263_3, k263_5, k263_6, k263_7, k263_8, k263_9, k263_10, k263_12, k263_r, k263_s, F_al0, F_il1, J_ifne, T_I, T_ret, T_putI, T_putZ, T_getI, J_ifle, T_goto, T_ft, F_is2i, F_is2r, F_is2m, J_ifeq, F_il2, T_icge, T_getR, T_iast, F_is3i, F_is3r, F_is3m, F_il3, T_mul, T_add, X_iald, F_inc3i, F_inc3r, F_inc3m, c217, c221, c225, c226, c264, c265, c266, c267, ↓s221, ↓s225, ↓s226, ↓s264, ↓s265, show l ≤ 3 by omega, l0, MS_f, MX, y3, show t ≤ 0 by omega, ↓reduceIte, TK, lt_run hn, le43, Int.le_refl, Int.lt_irrefl, Option.some.injEq, exists_eq_left', true_and, and_true, if_true, if_false, decide_eq_false_iff_not, decide_eq_true_eq, Nat.reduceAdd, Nat.reduceLeDiff, Nat.reduceLT, Int.reduceAdd, Int.reduceSub, Int.reduceMul, Int.reduceNeg, not_true_eq_false, not_false_eq_true]
    rw [k263_4]
    simp +decide (maxSteps := 4000000) (disch := omega) only [k263_0, k263_1, k263_2, k263_3, k263_5, k263_6, k263_7, k263_8, k263_10, k263_12, k263_r, k263_s, F_al0, F_il1, J_ifne, T_I, T_ret, T_putI, T_putZ, T_getI, J_ifle, T_goto, T_ft, F_is2i, F_is2r, F_is2m, J_ifeq, F_il2, T_icge, T_getR, T_iast, F_is3i, F_is3r, F_is3m, F_il3, T_mul, T_add, X_iald, F_inc3i, F_inc3r, F_inc3m, c217, c221, c225, c226, c264, c265, c266, c267, ↓s225, ↓s226, ↓s264, ↓s265, ↓s221 F hn, ↓reduceIte, TK, lt_run hn, le43, Int.le_refl, Int.lt_irrefl, Option.some.injEq, exists_eq_left', true_and, and_true, if_true, if_false, decide_eq_false_iff_not, decide_eq_true_eq, Nat.reduceAdd, Nat.reduceLeDiff, Nat.reduceLT, Int.reduceAdd, Int.reduceSub, Int.reduceMul, Int.reduceNeg, not_true_eq_false, not_false_eq_true]
    exact fin
theorem Psheet (F : FH hr) (hn : 775 ≤ n) (C : Cp6 h) (CT : CpT h) (x : Int32) : Pr2 E 157 263 [.int x] h hr n (Po (fun h' => Cp6 h' ∧ CpT h') 1 6 h hr n) := by
  have C0 := C
  obtain ⟨N, R, h1, h2, h3⟩ := C
  obtain ⟨t, b, T, m1, m2⟩ := CT
  obtain ⟨a, ha, ha', rfl⟩ := J_of x
  have OT := Ob_tape (E := E) F hn
  have rb := rdR_b T.1 T.2.1
  unfold Pr2
  by_cases g : 0 ≤ a ∧ a ≤ 3
  case neg =>
    simp +decide (maxSteps := 4000000) (disch := omega) only [k157_0, k157_1, k157_2, k157_r, k157_s, F_il1, J_ifeq, F_al0, T_getR, X_aald, T_goto, T_I, T_ft, F_is2i, F_is2r, F_is2m, F_il2, T_ret, c25, c58, c158, ↓s158, FX F, g, ↓s25 OT, kd_44, ↓reduceIte, TK, lt_run hn, le43, Int.le_refl, Int.lt_irrefl, Option.some.injEq, exists_eq_left', true_and, and_true, if_true, if_false, decide_eq_false_iff_not, decide_eq_true_eq, Nat.reduceAdd, Nat.reduceLeDiff, Nat.reduceLT, Int.reduceAdd, Int.reduceSub, Int.reduceMul, Int.reduceNeg, not_true_eq_false, not_false_eq_true]
    refine ⟨_, rfl, ?_⟩
    simp +decide (maxSteps := 4000000) (disch := omega) only [k263_0, k263_1, k263_2, k263_3, k263_5, k263_6, k263_7, k263_8, k263_9, k263_10, k263_12, k263_r, k263_s, F_al0, F_il1, J_ifne, T_I, T_ret, T_putI, T_putZ, T_getI, J_ifle, T_goto, T_ft, F_is2i, F_is2r, F_is2m, J_ifeq, F_il2, T_icge, T_getR, T_iast, F_is3i, F_is3r, F_is3m, F_il3, T_mul, T_add, X_iald, F_inc3i, F_inc3r, F_inc3m, c217, c221, c225, c226, c264, c265, c266, c267, ↓s221, ↓s225, ↓s226, ↓s264, ↓s265, ↓reduceIte, TK, lt_run hn, le43, Int.le_refl, Int.lt_irrefl, Option.some.injEq, exists_eq_left', true_and, and_true, if_true, if_false, decide_eq_false_iff_not, decide_eq_true_eq, Nat.reduceAdd, Nat.reduceLeDiff, Nat.reduceLT, Int.reduceAdd, Int.reduceSub, Int.reduceMul, Int.reduceNeg, not_true_eq_false, not_false_eq_true]
    refine w217 F hn T.1 T.2.1 (by rw [hI_o (by decide)]; exact m1) (fun i i0 i1 => by rw [gA_o (by decide)]; exact m2 i i0 i1) (fun h4 T4 c4 e4 => ?_)
    simp +decide (maxSteps := 4000000) (disch := omega) only [k263_0, k263_1, k263_2, k263_3, k263_5, k263_6, k263_7, k263_8, k263_9, k263_10, k263_12, k263_r, k263_s, F_al0, F_il1, J_ifne, T_I, T_ret, T_putI, T_putZ, T_getI, J_ifle, T_goto, T_ft, F_is2i, F_is2r, F_is2m, J_ifeq, F_il2, T_icge, T_getR, T_iast, F_is3i, F_is3r, F_is3m, F_il3, T_mul, T_add, X_iald, F_inc3i, F_inc3r, F_inc3m, c217, c221, c225, c226, c264, c265, c266, c267, ↓s221, ↓s225, ↓s226, ↓s264, ↓s265, g, ↓reduceIte, TK, lt_run hn, le43, Int.le_refl, Int.lt_irrefl, Option.some.injEq, exists_eq_left', true_and, and_true, if_true, if_false, decide_eq_false_iff_not, decide_eq_true_eq, Nat.reduceAdd, Nat.reduceLeDiff, Nat.reduceLT, Int.reduceAdd, Int.reduceSub, Int.reduceMul, Int.reduceNeg, not_true_eq_false, not_false_eq_true]
    have K : Kp 1 6 h (MS h4 0 (-1)) := Ef.trans (Ef.hI Ef.refl (show sys 44 1 = 0 ∨ sys 44 1 = 1 ∨ sys 44 1 = 6 from Or.inr (Or.inl rfl))) ((e4.mono fun a k q => by
      have := sys_sm (a := a) (k := k) (by unfold Ssm; omega)
      omega).trans (Ef_MS.mono fun a k q => by
      have := sys_sm (a := a) (k := k) (by unfold Ssm; omega)
      omega))
    have K1 : Sm 6 h (MS h4 0 (-1)) := fun a k q => by
      have e5 : Ef (fun a k => sys a k = 0 ∨ sys a k = 1) h (MS h4 0 (-1)) := Ef.trans (Ef.hI Ef.refl (show sys 44 1 = 0 ∨ sys 44 1 = 1 from Or.inr rfl)) ((e4.mono fun a k q => sys_sm (by unfold Ssm; omega)).trans (Ef_MS.mono fun a k q => sys_sm (by unfold Ssm; omega)))
      exact e5 a k (by omega)
    have A : (Cp6 (MS h4 0 (-1)) ∧ CpT (MS h4 0 (-1))) ∧ Kp 1 6 h (MS h4 0 (-1)) := ⟨⟨C0.sm K1, CpT_0 (by rw [MS_o (by decide), e4 _ _ (by omega)]; exact hI_s) (by rw [MS_j (by decide)]; exact c4)⟩, K⟩
    first | exact ⟨rfl, A, rfl, rfl⟩ | exact ⟨A, rfl, rfl⟩ | exact A
  have x1 := X90 E F g.1 (show a < 4 by omega)
  have mr : ∀ {h' : AHi}, Ef (fun x k => x < 700) h h' → h' 704 2 = J t ∧ (∀ i, 0 ≤ i → i < t → gA h' 705 i = J (b i)) := fun e => by
    refine ⟨?_, fun i i0 i1 => ?_⟩
    · rw [e 704 2 (by omega)]
      exact m1
    · rw [e.g (by omega)]
      exact m2 i i0 i1
  simp +decide (maxSteps := 4000000) (disch := omega) only [k157_0, k157_1, k157_2, k157_r, k157_s, F_il1, J_ifeq, F_al0, T_getR, X_aald, T_goto, T_I, T_ft, F_is2i, F_is2r, F_is2m, F_il2, T_ret, c25, c58, c158, ↓s25, ↓s158, FX F, g, x1, kd_90, ln_90, kd_44, ↓reduceIte, TK, lt_run hn, le43, Int.le_refl, Int.lt_irrefl, Option.some.injEq, exists_eq_left', true_and, and_true, if_true, if_false, decide_eq_false_iff_not, decide_eq_true_eq, Nat.reduceAdd, Nat.reduceLeDiff, Nat.reduceLT, Int.reduceAdd, Int.reduceSub, Int.reduceMul, Int.reduceNeg, not_true_eq_false, not_false_eq_true]
  refine w58 F hn g.1 (by omega) T (fun h4 e4 q => ?_) (fun h4 e4 q c4 d4 => ?_)
  · simp +decide (maxSteps := 4000000) (disch := omega) only [k157_0, k157_1, k157_2, k157_r, k157_s, F_il1, J_ifeq, F_al0, T_getR, X_aald, T_goto, T_I, T_ft, F_is2i, F_is2r, F_is2m, F_il2, T_ret, c25, c58, c158, ↓s158, FX F, ↓s25 OT, kd_44, ↓reduceIte, TK, lt_run hn, le43, Int.le_refl, Int.lt_irrefl, Option.some.injEq, exists_eq_left', true_and, and_true, if_true, if_false, decide_eq_false_iff_not, decide_eq_true_eq, Nat.reduceAdd, Nat.reduceLeDiff, Nat.reduceLT, Int.reduceAdd, Int.reduceSub, Int.reduceMul, Int.reduceNeg, not_true_eq_false, not_false_eq_true]
    refine ⟨_, rfl, ?_⟩
    have e5 : Ef (fun x k => (x = 44 ∧ (k = 1 ∨ k = 2 ∨ k = 3)) ∨ Sdw a.toNat x k) h (hI h4 44 1 (J 0)) := (e4.mono fun x k q => by unfold Ssr Sdw at q; unfold Sdw; omega).hI (Or.inl ⟨rfl, Or.inl rfl⟩)
    obtain ⟨y1, y2⟩ := mr (e5.mono fun x k q => by unfold Sdw at q; omega)
    refine w263 F hn g.1 g.2 T.1 T.2.1 y1 y2 (fun h6 c6 e6 _ => ?_) (fun h6 c6 e6 q' => absurd q' q)
    have e7 : Ef (fun a k => sys a k = 0 ∨ sys a k = 1) h h6 := Ef.trans (e5.mono fun x k q => by
      rcases q with ⟨rfl, rfl | rfl | rfl⟩ | ⟨rfl, rfl⟩ | rfl
      · exact Or.inr rfl
      · exact Or.inl rfl
      · exact Or.inl rfl
      · exact Or.inl (sysL5 (by omega)).2.2.2
      · exact Or.inl (sysL0 (by omega))) (e6.mono fun x k q => sys_sm q)
    dsimp only
    refine ⟨rfl, ⟨⟨C0.sm (fun x k q => e7 x k (by omega)), CpT_0 ?_ c6⟩, e7.mono fun x k q => by omega⟩, rfl, rfl⟩
    rw [e6 _ _ (fun q => by unfold Ssm at q; omega)]
    exact hI_s
  · simp +decide (maxSteps := 4000000) (disch := omega) only [k157_0, k157_1, k157_2, k157_r, k157_s, F_il1, J_ifeq, F_al0, T_getR, X_aald, T_goto, T_I, T_ft, F_is2i, F_is2r, F_is2m, F_il2, T_ret, c25, c58, c158, ↓s158, FX F, ↓s25 OT, kd_44, ↓reduceIte, TK, lt_run hn, le43, Int.le_refl, Int.lt_irrefl, Option.some.injEq, exists_eq_left', true_and, and_true, if_true, if_false, decide_eq_false_iff_not, decide_eq_true_eq, Nat.reduceAdd, Nat.reduceLeDiff, Nat.reduceLT, Int.reduceAdd, Int.reduceSub, Int.reduceMul, Int.reduceNeg, not_true_eq_false, not_false_eq_true]
    refine ⟨_, rfl, ?_⟩
    have e5 : Ef (fun x k => (x = 44 ∧ (k = 1 ∨ k = 2 ∨ k = 3)) ∨ Sdw a.toNat x k ∨ (x = 623 + 3 * a.toNat ∧ k = 1) ∨ x = 624 + 3 * a.toNat) h (hI h4 44 1 (J 0)) := (e4.mono fun x k q => by unfold Ssr Sdw at q; unfold Sdw; omega).hI (Or.inl ⟨rfl, Or.inl rfl⟩)
    obtain ⟨y1, y2⟩ := mr (e5.mono fun x k q => by unfold Sdw at q; omega)
    refine w263 F hn g.1 g.2 T.1 T.2.1 y1 y2 (fun h6 c6 e6 q' => absurd q q') (fun h6 c6 e6 _ d6 d7 => ?_)
    obtain ⟨u1, u2⟩ := rb.2 q
    have e7 : Ef (fun x k => Srw a.toNat x k ∨ sys x k = 0 ∨ sys x k = 1) h h6 := Ef.trans (e5.mono fun x k q => by
      rcases q with ⟨rfl, rfl | rfl | rfl⟩ | (⟨rfl, rfl⟩ | rfl) | q | q
      · exact Or.inr (Or.inr rfl)
      · exact Or.inr (Or.inl rfl)
      · exact Or.inr (Or.inl rfl)
      · exact Or.inr (Or.inl (sysL5 (by omega)).2.2.2)
      · exact Or.inr (Or.inl (sysL0 (by omega)))
      · exact Or.inl (Or.inl q)
      · exact Or.inl (Or.inr (Or.inl q))) (e6.mono fun x k q => by
      rcases q with q | q | q
      · exact Or.inr (sys_sm q)
      · exact Or.inl (Or.inr (Or.inr (Or.inl q)))
      · exact Or.inl (Or.inr (Or.inr (Or.inr q))))
    dsimp only
    refine ⟨rfl, ⟨⟨Cp6_u C0 g.1 (by omega) (m := (rdR b t).2.1) (D := (rdR b t).2.2) u1 u2 (e7.mono fun x k q => q.elim Or.inl (fun z => Or.inr (by omega))) ?_ d6 (fun f f0 f1 => ⟨?_, d7 f f0 f1⟩), CpT_0 ?_ c6⟩, e7.mono fun x k q => q.elim (fun z => Or.inr (Or.inr (srw6 (by omega) z))) (fun z => by omega)⟩, rfl, rfl⟩
    · rw [e6 _ _ (fun q => by unfold Ssm at q; omega), hI_o (by omega)]
      exact c4
    · rw [e6.g (fun q => by unfold Ssm at q; omega), gA_o (by omega)]
      exact d4 f f0 f1
    · rw [e6 _ _ (fun q => by unfold Ssm at q; omega)]
      exact hI_s
end SG
