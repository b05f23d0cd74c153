/-! node: the reference -/
section NE
variable {E : AEn} {h h' : AHi} {hr : AHr} {n : Nat} {Q : ARs → Prop} {t p f m i : Int} {b : Int → Int}
theorem nm_4 : ∀ k : Nat, k < 8 → 4 ≤ (nmK k).length := by decide +kernel
def Sne (a k : Nat) : Prop := (a = 704 ∧ (k = 2 ∨ k = 3 ∨ k = 4 ∨ k = 5)) ∨ a = 706 ∨ a = 766
theorem w315 (F : FH hr) (hn : 775 ≤ n) (ht : 0 ≤ t ∧ t ≤ 1600) (hb : ∀ i, 0 ≤ b i ∧ b i ≤ 255) (m1 : h 704 2 = J t) (m2 : ∀ i, 0 ≤ i → i < t → gA h 705 i = J (b i)) (hm : 0 ≤ m ∧ m ≤ 10) (h2 : h 704 82 = J m)
    (k0 : ∀ h' e, e = ane b t 1601 0 → (∀ j, j < 8 → ¬ isNm b t j 0 e) → h' 704 2 = J 0 → Ef Sne h h' → Q (some (.int (J (-1000 - 0))), h', hr, n))
    (k1 : ∀ h' k e, e = ane b t 1601 0 → Nk b t k e → nF b t m k e ≠ -1 → h' 704 2 = J 0 → Ef Sne h h' → Q (some (.int (J (-1000 - nF b t m k e))), h', hr, n))
    (k2 : ∀ h' k e, e = ane b t 1601 0 → Nk b t k e → nF b t m k e = -1 → m = 10 → h' 704 2 = J 0 → Ef Sne h h' → Q (some (.int (J (-4))), h', hr, n))
    (k3 : ∀ h' k e, e = ane b t 1601 0 → Nk b t k e → nF b t m k e = -1 → m < 10 → h' 704 2 = J 0 → Ef (fun a q => Sne a q ∨ (a = 704 ∧ q = 82) ∨ (a = 764 ∧ q = m.toNat) ∨ (a = 765 ∧ 6 * m.toNat ≤ q ∧ q < 6 * m.toNat + 6)) h h' → h' 704 82 = J (m + 1) → gA h' 764 m = J k → (∀ j : Int, 0 ≤ j → j < (sgK k).length → gA h' 765 (6 * m + j) = J ((nR b t m k e).2.2 j)) → Q (some (.int (J m)), h', hr, n)) : Sp E 315 [.ref 704] h hr n Q := by
  have eM : ∀ {h : AHi} {p f : Int}, Ef Sne h (MS h p f) := fun {h p f} => Ef_MS.mono fun a k q => by unfold Sne; omega
  simp +decide (maxSteps := 4000000) (disch := omega) only [k315_0, k315_2, k315_3, k315_4, k315_5, k315_6, k315_7, k315_8, k315_9, k315_11, k315_r, k315_s, F_al0, J_ifne, T_getI, T_ft, J_ifeq, T_dupI, T_dupR, T_I, T_add, T_putI, T_putZ, T_goto, F_is1i, F_is1r, F_is1m, F_il1, J_ifge, T_ret, J_icne, T_getR, T_iast, F_is2i, F_is2r, F_is2m, F_il2, T_icge, T_mul, X_iald, F_inc2i, F_inc2r, F_inc2m, T_sub, c217, c221, c222, c223, c224, c226, c300, c316, c318, c321, ↓s221, ↓s222, ↓s223, ↓s224, ↓s226, ↓s300, ↓s321, ↓reduceIte, TK, lt_run hn, le43, Int.le_refl, Int.lt_irrefl, Option.some.injEq, exists_eq_left', true_and, and_true, if_true, if_false, decide_eq_false_iff_not, decide_eq_true_eq, Nat.reduceAdd, Nat.reduceLeDiff, Nat.reduceLT, Int.reduceAdd, Int.reduceSub, Int.reduceMul, Int.reduceNeg, not_true_eq_false, not_false_eq_true]
  refine w217 F hn ht hb m1 m2 (fun h1 T c1 e1 => ?_)
  have e2 : Ef Sne h h1 := e1.mono fun a k q => by unfold Sne; omega
  have h2' : h1 704 82 = J m := by rw [e1 _ _ (by omega)]; exact h2
  have y2 : ∀ {p f : Int}, MS h1 p f 704 2 = J 0 := fun {p f} => by rw [MS_j (by decide)]; exact c1
  have b0 := bt_r (t := t) hb 0
  have zero : ¬ (0 : Int) = -1 := by decide
  by_cases gs : 97 ≤ bt b t 0 ∧ bt b t 0 ≤ 122
  case neg =>
    have fin : ∀ p, Q (some (.int (J (-1000 - 0))), MS h1 p 0, hr, n) := fun p => k0 _ _ rfl (fun j jj z => gs (by
      have l4 := nm_4 j jj
      have q1 := z.2 0 (by decide) (by omega)
      have q2 := (nm_b j jj 0 (by omega)).2
      rw [show (0 : Int) + 0 = 0 by rfl] at q1
      rw [q1]
      exact q2)) y2 (e2.trans eM)
    simp +decide (maxSteps := 4000000) (disch := omega) only [k315_0, k315_2, k315_3, k315_4, k315_5, k315_6, k315_7, k315_8, k315_9, k315_11, k315_r, k315_s, F_al0, J_ifne, T_getI, T_ft, J_ifeq, T_dupI, T_dupR, T_I, T_add, T_putI, T_putZ, T_goto, F_is1i, F_is1r, F_is1m, F_il1, J_ifge, T_ret, J_icne, T_getR, T_iast, F_is2i, F_is2r, F_is2m, F_il2, T_icge, T_mul, X_iald, F_inc2i, F_inc2r, F_inc2m, T_sub, c217, c221, c222, c223, c224, c226, c300, c316, c318, c321, ↓s223, ↓s226, ↓s300, ↓s321, MX, ↓s221 F hn, ↓s222 F hn T, ↓s224 F hn, gs, rf_y, ↓reduceIte, TK, lt_run hn, le43, Int.le_refl, Int.lt_irrefl, Option.some.injEq, exists_eq_left', true_and, and_true, if_true, if_false, decide_eq_false_iff_not, decide_eq_true_eq, Nat.reduceAdd, Nat.reduceLeDiff, Nat.reduceLT, Int.reduceAdd, Int.reduceSub, Int.reduceMul, Int.reduceNeg, not_true_eq_false, not_false_eq_true]
    rw [k315_1]
    simp +decide (maxSteps := 4000000) (disch := omega) only [k315_0, k315_2, k315_3, k315_4, k315_5, k315_6, k315_7, k315_8, k315_9, k315_11, k315_r, k315_s, F_al0, J_ifne, T_getI, T_ft, J_ifeq, T_dupI, T_dupR, T_I, T_add, T_putI, T_putZ, T_goto, F_is1i, F_is1r, F_is1m, F_il1, J_ifge, T_ret, J_icne, T_getR, T_iast, F_is2i, F_is2r, F_is2m, F_il2, T_icge, T_mul, X_iald, F_inc2i, F_inc2r, F_inc2m, T_sub, c217, c221, c222, c223, c224, c226, c300, c316, c318, c321, ↓s223, ↓s300, MX, ↓s221 F hn, ↓s222 F hn T, ↓s224 F hn, ↓s226 F hn, ↓s321 F hn T, zero, rf_n zero, ↓reduceIte, TK, lt_run hn, le43, Int.le_refl, Int.lt_irrefl, Option.some.injEq, exists_eq_left', true_and, and_true, if_true, if_false, decide_eq_false_iff_not, decide_eq_true_eq, Nat.reduceAdd, Nat.reduceLeDiff, Nat.reduceLT, Int.reduceAdd, Int.reduceSub, Int.reduceMul, Int.reduceNeg, not_true_eq_false, not_false_eq_true]
    first | exact fin _ | (split <;> exact fin _)
  simp +decide (maxSteps := 4000000) (disch := omega) only [k315_0, k315_2, k315_3, k315_4, k315_5, k315_6, k315_7, k315_8, k315_9, k315_11, k315_r, k315_s, F_al0, J_ifne, T_getI, T_ft, J_ifeq, T_dupI, T_dupR, T_I, T_add, T_putI, T_putZ, T_goto, F_is1i, F_is1r, F_is1m, F_il1, J_ifge, T_ret, J_icne, T_getR, T_iast, F_is2i, F_is2r, F_is2m, F_il2, T_icge, T_mul, X_iald, F_inc2i, F_inc2r, F_inc2m, T_sub, c217, c221, c222, c223, c224, c226, c300, c316, c318, c321, ↓s223, ↓s226, ↓s300, ↓s321, MX, ↓s221 F hn, ↓s222 F hn T, ↓s224 F hn, gs, ↓reduceIte, TK, lt_run hn, le43, Int.le_refl, Int.lt_irrefl, Option.some.injEq, exists_eq_left', true_and, and_true, if_true, if_false, decide_eq_false_iff_not, decide_eq_true_eq, Nat.reduceAdd, Nat.reduceLeDiff, Nat.reduceLT, Int.reduceAdd, Int.reduceSub, Int.reduceMul, Int.reduceNeg, not_true_eq_false, not_false_eq_true]
  refine T_wh (σ := Int) (fun _ => [.ref 704, a_mk, a_mk]) (fun k h' => h' = MS h1 k (-1) ∧ (0 ≤ k ∧ k ≤ t) ∧ ∀ j, 0 ≤ j → j < k → aln (bt b t j)) (fun k _ => (1601 - k).toNat) ?_ 0 _ ⟨rfl, by omega, fun j j0 j1 => by omega⟩
  rintro e _ ⟨rfl, ⟨e0, e3⟩, e4⟩ ih
  have bk := bt_r (t := t) hb e
  by_cases g : aln (bt b t e)
  · have hin := aln_in g
    have fin := ih (e + 1) (MS h1 (e + 1) (-1)) ⟨rfl, by omega, fun j j0 j1 => by
      rcases (show j < e ∨ j = e by omega) with z | z
      · exact e4 j j0 z
      · rw [z]
        exact g⟩ (by omega)
    by_cases g1 : 97 ≤ bt b t e ∧ bt b t e ≤ 122
    · rw [k315_1]
      simp +decide (maxSteps := 4000000) (disch := omega) only [k315_0, k315_2, k315_3, k315_4, k315_5, k315_6, k315_7, k315_8, k315_9, k315_11, k315_r, k315_s, F_al0, J_ifne, T_getI, T_ft, J_ifeq, T_dupI, T_dupR, T_I, T_add, T_putI, T_putZ, T_goto, F_is1i, F_is1r, F_is1m, F_il1, J_ifge, T_ret, J_icne, T_getR, T_iast, F_is2i, F_is2r, F_is2m, F_il2, T_icge, T_mul, X_iald, F_inc2i, F_inc2r, F_inc2m, T_sub, c217, c221, c222, c223, c224, c226, c300, c316, c318, c321, ↓s223, ↓s224, ↓s226, ↓s300, ↓s321, MX, ↓s221 F hn, ↓s222 F hn T, g1, ↓reduceIte, TK, lt_run hn, le43, Int.le_refl, Int.lt_irrefl, Option.some.injEq, exists_eq_left', true_and, and_true, if_true, if_false, decide_eq_false_iff_not, decide_eq_true_eq, Nat.reduceAdd, Nat.reduceLeDiff, Nat.reduceLT, Int.reduceAdd, Int.reduceSub, Int.reduceMul, Int.reduceNeg, not_true_eq_false, not_false_eq_true]
      exact fin
    · have g2 : 48 ≤ bt b t e ∧ bt b t e ≤ 57 := g.resolve_left g1
      rw [k315_1]
      simp +decide (maxSteps := 4000000) (disch := omega) only [k315_0, k315_2, k315_3, k315_4, k315_5, k315_6, k315_7, k315_8, k315_9, k315_11, k315_r, k315_s, F_al0, J_ifne, T_getI, T_ft, J_ifeq, T_dupI, T_dupR, T_I, T_add, T_putI, T_putZ, T_goto, F_is1i, F_is1r, F_is1m, F_il1, J_ifge, T_ret, J_icne, T_getR, T_iast, F_is2i, F_is2r, F_is2m, F_il2, T_icge, T_mul, X_iald, F_inc2i, F_inc2r, F_inc2m, T_sub, c217, c221, c222, c223, c224, c226, c300, c316, c318, c321, ↓s223, ↓s224, ↓s226, ↓s300, ↓s321, MX, ↓s221 F hn, ↓s222 F hn T, g1, g2, ↓reduceIte, TK, lt_run hn, le43, Int.le_refl, Int.lt_irrefl, Option.some.injEq, exists_eq_left', true_and, and_true, if_true, if_false, decide_eq_false_iff_not, decide_eq_true_eq, Nat.reduceAdd, Nat.reduceLeDiff, Nat.reduceLT, Int.reduceAdd, Int.reduceSub, Int.reduceMul, Int.reduceNeg, not_true_eq_false, not_false_eq_true]
      exact fin
  have es : e = ane b t 1601 0 := (ane_u g 1601 0 (by omega) (by omega) e4).symm
  have g1 : ¬ (97 ≤ bt b t e ∧ bt b t e ≤ 122) := fun q => g (Or.inl q)
  have g2 : ¬ (48 ≤ bt b t e ∧ bt b t e ≤ 57) := fun q => g (Or.inr q)
  rw [k315_1]
  simp +decide (maxSteps := 4000000) (disch := omega) only [k315_0, k315_2, k315_3, k315_4, k315_5, k315_6, k315_7, k315_8, k315_9, k315_11, k315_r, k315_s, F_al0, J_ifne, T_getI, T_ft, J_ifeq, T_dupI, T_dupR, T_I, T_add, T_putI, T_putZ, T_goto, F_is1i, F_is1r, F_is1m, F_il1, J_ifge, T_ret, J_icne, T_getR, T_iast, F_is2i, F_is2r, F_is2m, F_il2, T_icge, T_mul, X_iald, F_inc2i, F_inc2r, F_inc2m, T_sub, c217, c221, c222, c223, c224, c226, c300, c316, c318, c321, ↓s223, ↓s224, ↓s226, ↓s300, ↓s321, MX, ↓s221 F hn, ↓s222 F hn T, g1, g2, ↓reduceIte, TK, lt_run hn, le43, Int.le_refl, Int.lt_irrefl, Option.some.injEq, exists_eq_left', true_and, and_true, if_true, if_false, decide_eq_false_iff_not, decide_eq_true_eq, Nat.reduceAdd, Nat.reduceLeDiff, Nat.reduceLT, Int.reduceAdd, Int.reduceSub, Int.reduceMul, Int.reduceNeg, not_true_eq_false, not_false_eq_true]
  refine w316 F hn T ⟨e0, e3⟩ (fun k hk n1 n2 => ?_) (fun n1 => ?_)
  case refine_2 =>
    have fin : ∀ p, Q (some (.int (J (-1000 - 0))), MS h1 p 0, hr, n) := fun p => k0 _ e es n1 y2 (e2.trans eM)
    simp +decide (maxSteps := 4000000) (disch := omega) only [k315_0, k315_2, k315_3, k315_4, k315_5, k315_6, k315_7, k315_8, k315_9, k315_11, k315_r, k315_s, F_al0, J_ifne, T_getI, T_ft, J_ifeq, T_dupI, T_dupR, T_I, T_add, T_putI, T_putZ, T_goto, F_is1i, F_is1r, F_is1m, F_il1, J_ifge, T_ret, J_icne, T_getR, T_iast, F_is2i, F_is2r, F_is2m, F_il2, T_icge, T_mul, X_iald, F_inc2i, F_inc2r, F_inc2m, T_sub, c217, c221, c222, c223, c224, c226, c300, c316, c318, c321, ↓s222, ↓s223, ↓s300, MX, ↓s221 F hn, ↓s224 F hn, ↓s226 F hn, ↓s321 F hn T, zero, rf_y, rf_n zero, ↓reduceIte, TK, lt_run hn, le43, Int.le_refl, Int.lt_irrefl, Option.some.injEq, exists_eq_left', true_and, and_true, if_true, if_false, decide_eq_false_iff_not, decide_eq_true_eq, Nat.reduceAdd, Nat.reduceLeDiff, Nat.reduceLT, Int.reduceAdd, Int.reduceSub, Int.reduceMul, Int.reduceNeg, not_true_eq_false, not_false_eq_true]
    first | exact fin _ | (split <;> exact fin _)
  have N : Nk b t k e := ⟨hk, n1, n2⟩
  have kn : 0 ≤ (k : Int) := by omega
  simp +decide (maxSteps := 4000000) (disch := omega) only [k315_0, k315_2, k315_3, k315_4, k315_5, k315_6, k315_7, k315_8, k315_9, k315_11, k315_r, k315_s, F_al0, J_ifne, T_getI, T_ft, J_ifeq, T_dupI, T_dupR, T_I, T_add, T_putI, T_putZ, T_goto, F_is1i, F_is1r, F_is1m, F_il1, J_ifge, T_ret, J_icne, T_getR, T_iast, F_is2i, F_is2r, F_is2m, F_il2, T_icge, T_mul, X_iald, F_inc2i, F_inc2r, F_inc2m, T_sub, c217, c221, c222, c223, c224, c226, c300, c316, c318, c321, ↓s222, ↓s223, ↓s224, ↓s226, ↓s300, ↓s321, ↓s221 F hn, kn, ↓reduceIte, TK, lt_run hn, le43, Int.le_refl, Int.lt_irrefl, Option.some.injEq, exists_eq_left', true_and, and_true, if_true, if_false, decide_eq_false_iff_not, decide_eq_true_eq, Nat.reduceAdd, Nat.reduceLeDiff, Nat.reduceLT, Int.reduceAdd, Int.reduceSub, Int.reduceMul, Int.reduceNeg, not_true_eq_false, not_false_eq_true]
  refine w318 (R := nR b t m k e) F hn T hk hm h2' e0 e3 (Or.inl ⟨rfl, 0, fun _ => 0, rfl, fun j j0 j1 => by omega, fun _ => rfl, fun z => by omega⟩) (fun h4 p4 f4 p0 p1 p2 hf a4 A => ?_)
  have T4 := T.s7 a4
  have y4 : ∀ {p f : Int}, MS h4 p f 704 2 = J 0 := fun {p f} => by rw [MS_j (by decide), a4 _ _ (by omega)]; exact c1
  have e5 : ∀ {p f : Int}, Ef Sne h (MS h4 p f) := fun {p f} => (e2.trans (a4.mono fun a k q => by unfold Sne; omega)).trans eM
  have bad : ∀ f p, (0 ≤ f ∧ f ≤ 1700) → nF b t m k e = f → Q (some (.int (J (-1000 - f))), MS h4 p f, hr, n) := fun f p hf q => by
    have fin := k1 (MS h4 p f) k e es N (by omega) y4 e5
    rw [q] at fin
    exact fin
  rcases A with ⟨rfl, v, T0, r1, r2, _, _⟩ | ⟨hf2, r1⟩
  case inr =>
    have f1 : f4 ≠ -1 := by omega
    have fin := bad f4 p4 hf2 (by unfold nF; rw [if_neg (by rw [r1]; exact f1), r1])
    simp +decide (maxSteps := 4000000) (disch := omega) only [k315_0, k315_2, k315_3, k315_4, k315_5, k315_6, k315_7, k315_8, k315_9, k315_11, k315_r, k315_s, F_al0, J_ifne, T_getI, T_ft, J_ifeq, T_dupI, T_dupR, T_I, T_add, T_putI, T_putZ, T_goto, F_is1i, F_is1r, F_is1m, F_il1, J_ifge, T_ret, J_icne, T_getR, T_iast, F_is2i, F_is2r, F_is2m, F_il2, T_icge, T_mul, X_iald, F_inc2i, F_inc2r, F_inc2m, T_sub, c217, c221, c222, c223, c224, c226, c300, c316, c318, c321, ↓s222, ↓s223, ↓s224, ↓s300, ↓s221 F hn, ↓s226 F hn, ↓s321 F hn T4, f1, rf_n f1, ↓reduceIte, TK, lt_run hn, le43, Int.le_refl, Int.lt_irrefl, Option.some.injEq, exists_eq_left', true_and, and_true, if_true, if_false, decide_eq_false_iff_not, decide_eq_true_eq, Nat.reduceAdd, Nat.reduceLeDiff, Nat.reduceLT, Int.reduceAdd, Int.reduceSub, Int.reduceMul, Int.reduceNeg, not_true_eq_false, not_false_eq_true]
    by_cases z : p4 < t
    · try simp +decide (maxSteps := 4000000) (disch := omega) only [k315_0, k315_2, k315_3, k315_4, k315_5, k315_6, k315_7, k315_8, k315_9, k315_11, k315_r, k315_s, F_al0, J_ifne, T_getI, T_ft, J_ifeq, T_dupI, T_dupR, T_I, T_add, T_putI, T_putZ, T_goto, F_is1i, F_is1r, F_is1m, F_il1, J_ifge, T_ret, J_icne, T_getR, T_iast, F_is2i, F_is2r, F_is2m, F_il2, T_icge, T_mul, X_iald, F_inc2i, F_inc2r, F_inc2m, T_sub, c217, c221, c222, c223, c224, c226, c300, c316, c318, c321, ↓s222, ↓s223, ↓s224, ↓s300, ↓s321, ↓s221 F hn, ↓s226 F hn, z, f1, ↓reduceIte, TK, lt_run hn, le43, Int.le_refl, Int.lt_irrefl, Option.some.injEq, exists_eq_left', true_and, and_true, if_true, if_false, decide_eq_false_iff_not, decide_eq_true_eq, Nat.reduceAdd, Nat.reduceLeDiff, Nat.reduceLT, Int.reduceAdd, Int.reduceSub, Int.reduceMul, Int.reduceNeg, not_true_eq_false, not_false_eq_true]
      exact fin
    · try simp +decide (maxSteps := 4000000) (disch := omega) only [k315_0, k315_2, k315_3, k315_4, k315_5, k315_6, k315_7, k315_8, k315_9, k315_11, k315_r, k315_s, F_al0, J_ifne, T_getI, T_ft, J_ifeq, T_dupI, T_dupR, T_I, T_add, T_putI, T_putZ, T_goto, F_is1i, F_is1r, F_is1m, F_il1, J_ifge, T_ret, J_icne, T_getR, T_iast, F_is2i, F_is2r, F_is2m, F_il2, T_icge, T_mul, X_iald, F_inc2i, F_inc2r, F_inc2m, T_sub, c217, c221, c222, c223, c224, c226, c300, c316, c318, c321, ↓s222, ↓s223, ↓s224, ↓s300, ↓s321, ↓s221 F hn, ↓s226 F hn, z, f1, ↓reduceIte, TK, lt_run hn, le43, Int.le_refl, Int.lt_irrefl, Option.some.injEq, exists_eq_left', true_and, and_true, if_true, if_false, decide_eq_false_iff_not, decide_eq_true_eq, Nat.reduceAdd, Nat.reduceLeDiff, Nat.reduceLT, Int.reduceAdd, Int.reduceSub, Int.reduceMul, Int.reduceNeg, not_true_eq_false, not_false_eq_true]
      exact fin
  have r1' : (-1, p4, T0) = nR b t m k e := r1
  have q1 : (nR b t m k e).1 = -1 := by rw [← r1']
  have q2 : (nR b t m k e).2.1 = p4 := by rw [← r1']
  have q3 : (nR b t m k e).2.2 = T0 := by rw [← r1']
  by_cases g3 : p4 < t
  · have f1 : p4 ≠ -1 := by omega
    have fin := bad p4 p4 (by omega) (by unfold nF; rw [if_pos q1, q2, if_pos g3])
    simp +decide (maxSteps := 4000000) (disch := omega) only [k315_0, k315_2, k315_3, k315_4, k315_5, k315_6, k315_7, k315_8, k315_9, k315_11, k315_r, k315_s, F_al0, J_ifne, T_getI, T_ft, J_ifeq, T_dupI, T_dupR, T_I, T_add, T_putI, T_putZ, T_goto, F_is1i, F_is1r, F_is1m, F_il1, J_ifge, T_ret, J_icne, T_getR, T_iast, F_is2i, F_is2r, F_is2m, F_il2, T_icge, T_mul, X_iald, F_inc2i, F_inc2r, F_inc2m, T_sub, c217, c221, c222, c223, c224, c226, c300, c316, c318, c321, ↓s222, ↓s223, ↓s224, ↓s300, ↓s221 F hn, ↓s226 F hn, ↓s321 F hn T4, g3, f1, rf_y, ↓reduceIte, TK, lt_run hn, le43, Int.le_refl, Int.lt_irrefl, Option.some.injEq, exists_eq_left', true_and, and_true, if_true, if_false, decide_eq_false_iff_not, decide_eq_true_eq, Nat.reduceAdd, Nat.reduceLeDiff, Nat.reduceLT, Int.reduceAdd, Int.reduceSub, Int.reduceMul, Int.reduceNeg, not_true_eq_false, not_false_eq_true]
    exact fin
  have nf : nF b t m k e = -1 := by unfold nF; rw [if_pos q1, q2, if_neg g3]
  have z4 : MS h4 p4 (-1) 704 82 = J m := by rw [MS_j (by decide), a4 _ _ (by omega)]; exact h2'
  by_cases g4 : m < 10
  case neg =>
    have fin := k2 (MS h4 p4 (-1)) k e es N nf (by omega) y4 e5
    simp +decide (maxSteps := 4000000) (disch := omega) only [k315_0, k315_2, k315_3, k315_4, k315_5, k315_6, k315_7, k315_8, k315_9, k315_11, k315_r, k315_s, F_al0, J_ifne, T_getI, T_ft, J_ifeq, T_dupI, T_dupR, T_I, T_add, T_putI, T_putZ, T_goto, F_is1i, F_is1r, F_is1m, F_il1, J_ifge, T_ret, J_icne, T_getR, T_iast, F_is2i, F_is2r, F_is2m, F_il2, T_icge, T_mul, X_iald, F_inc2i, F_inc2r, F_inc2m, T_sub, c217, c221, c222, c223, c224, c226, c300, c316, c318, c321, ↓s222, ↓s223, ↓s224, ↓s226, ↓s300, ↓s221 F hn, ↓s321 F hn T4, g3, z4, show m = 10 by omega, ↓reduceIte, TK, lt_run hn, le43, Int.le_refl, Int.lt_irrefl, Option.some.injEq, exists_eq_left', true_and, and_true, if_true, if_false, decide_eq_false_iff_not, decide_eq_true_eq, Nat.reduceAdd, Nat.reduceLeDiff, Nat.reduceLT, Int.reduceAdd, Int.reduceSub, Int.reduceMul, Int.reduceNeg, not_true_eq_false, not_false_eq_true]
    exact fin
  simp +decide (maxSteps := 4000000) (disch := omega) only [k315_0, k315_2, k315_3, k315_4, k315_5, k315_6, k315_7, k315_8, k315_9, k315_11, k315_r, k315_s, F_al0, J_ifne, T_getI, T_ft, J_ifeq, T_dupI, T_dupR, T_I, T_add, T_putI, T_putZ, T_goto, F_is1i, F_is1r, F_is1m, F_il1, J_ifge, T_ret, J_icne, T_getR, T_iast, F_is2i, F_is2r, F_is2m, F_il2, T_icge, T_mul, X_iald, F_inc2i, F_inc2r, F_inc2m, T_sub, c217, c221, c222, c223, c224, c226, c300, c316, c318, c321, ↓s222, ↓s223, ↓s224, ↓s226, ↓s300, FM F, ↓s221 F hn, ↓s321 F hn T4, g3, z4, ln_764, show ¬ m = 10 by omega, ↓reduceIte, TK, lt_run hn, le43, Int.le_refl, Int.lt_irrefl, Option.some.injEq, exists_eq_left', true_and, and_true, if_true, if_false, decide_eq_false_iff_not, decide_eq_true_eq, Nat.reduceAdd, Nat.reduceLeDiff, Nat.reduceLT, Int.reduceAdd, Int.reduceSub, Int.reduceMul, Int.reduceNeg, not_true_eq_false, not_false_eq_true]
  refine T_for (σ := Unit) (fun q _ => [.ref 704, .int (J k), .int (J q)]) (fun q _ h' => Ef (fun a x => (a = 764 ∧ x = m.toNat) ∨ (a = 765 ∧ 6 * m.toNat ≤ x ∧ x < 6 * m.toNat + 6)) (MS h4 p4 (-1)) h' ∧ gA h' 764 m = J k ∧ ∀ j, 0 ≤ j → j < q → gA h' 765 (6 * m + j) = gA h4 766 j) 0 6 ?_ ?_ 0 () _ (by omega) (by omega) ⟨Ef.refl.sA (Or.inl ⟨rfl, rfl⟩), gs_s, fun j _ _ => by omega⟩
  · rintro q _ h6 i0 i1 ⟨e6, d6, a6⟩ ih3
    have z6 : h6 704 82 = J m := by rw [e6 _ _ (by omega)]; exact z4
    have z7 : gA h6 766 q = gA h4 766 q := by rw [e6.g (by omega), MS_g (by decide)]
    rw [k315_10]
    simp +decide (maxSteps := 4000000) (disch := omega) only [k315_0, k315_2, k315_3, k315_4, k315_5, k315_6, k315_7, k315_8, k315_9, k315_11, k315_r, k315_s, F_al0, J_ifne, T_getI, T_ft, J_ifeq, T_dupI, T_dupR, T_I, T_add, T_putI, T_putZ, T_goto, F_is1i, F_is1r, F_is1m, F_il1, J_ifge, T_ret, J_icne, T_getR, T_iast, F_is2i, F_is2r, F_is2m, F_il2, T_icge, T_mul, X_iald, F_inc2i, F_inc2r, F_inc2m, T_sub, c217, c221, c222, c223, c224, c226, c300, c316, c318, c321, ↓s221, ↓s222, ↓s223, ↓s224, ↓s226, ↓s300, ↓s321, FM F, z6, z7, ln_765, ln_766, show ¬ 6 ≤ q by omega, ↓reduceIte, TK, lt_run hn, le43, Int.le_refl, Int.lt_irrefl, Option.some.injEq, exists_eq_left', true_and, and_true, if_true, if_false, decide_eq_false_iff_not, decide_eq_true_eq, Nat.reduceAdd, Nat.reduceLeDiff, Nat.reduceLT, Int.reduceAdd, Int.reduceSub, Int.reduceMul, Int.reduceNeg, not_true_eq_false, not_false_eq_true]
    refine ih3 () _ ⟨e6.sA (by omega), by rw [gs_o (by decide)]; exact d6, fun j j0 j1 => ?_⟩
    by_cases z : j = q
    · rw [z, gs_s]
    · rw [gs_k (by omega) (by omega) (by omega)]
      exact a6 j j0 (by omega)
  · rintro _ h6 ⟨e6, d6, a6⟩
    have z6 : h6 704 82 = J m := by rw [e6 _ _ (by omega)]; exact z4
    have z7 : hI h6 704 82 (J (m + 1)) 704 82 = J (m + 1) := hI_s
    have e7 : m + 1 - 1 = m := by omega
    have l5 := sg_5 k hk
    have fin := k3 (hI h6 704 82 (J (m + 1))) k e es N nf g4 (by rw [hI_k (by decide), e6 _ _ (by omega)]; exact y4) (Ef.hI (Ef.trans (e5.mono fun a q z => Or.inl z) (e6.mono fun a q z => by omega)) (by omega)) hI_s (by rw [gA_o (by decide)]; exact d6) (fun j j0 j1 => by
      rw [gA_o (by decide), a6 j j0 (by omega), q3]
      exact r2 j j0 j1)
    rw [k315_10]
    simp +decide (maxSteps := 4000000) (disch := omega) only [k315_0, k315_2, k315_3, k315_4, k315_5, k315_6, k315_7, k315_8, k315_9, k315_11, k315_r, k315_s, F_al0, J_ifne, T_getI, T_ft, J_ifeq, T_dupI, T_dupR, T_I, T_add, T_putI, T_putZ, T_goto, F_is1i, F_is1r, F_is1m, F_il1, J_ifge, T_ret, J_icne, T_getR, T_iast, F_is2i, F_is2r, F_is2m, F_il2, T_icge, T_mul, X_iald, F_inc2i, F_inc2r, F_inc2m, T_sub, c217, c221, c222, c223, c224, c226, c300, c316, c318, c321, ↓s221, ↓s222, ↓s223, ↓s224, ↓s226, ↓s300, ↓s321, FM F, z6, z7, e7, ↓reduceIte, TK, lt_run hn, le43, Int.le_refl, Int.lt_irrefl, Option.some.injEq, exists_eq_left', true_and, and_true, if_true, if_false, decide_eq_false_iff_not, decide_eq_true_eq, Nat.reduceAdd, Nat.reduceLeDiff, Nat.reduceLT, Int.reduceAdd, Int.reduceSub, Int.reduceMul, Int.reduceNeg, not_true_eq_false, not_false_eq_true]
    exact fin
end NE
