/-! film -/
section FK1
variable {E : AEn} {h h' : AHi} {hr : AHr} {n : Nat} {Q : ARs → Prop} {e : PEn} {nd fr : Int}
theorem w331 (F : FH hr) (hn : 775 ≤ n) (W : PW h hr e) (hd : 0 ≤ nd ∧ nd < e.m) {to : Int} (hf : 0 ≤ fr ∧ fr ≤ 119) (ht : 0 ≤ to ∧ to ≤ 119) (hT : 0 ≤ to - fr ∧ to - fr ≤ 7)
    (k : ∀ h', Ef Sfm h h' → OM h' (flL e nd fr (to - fr + 1).toNat) → (h' 704 87 = J (to - fr + 1) ∧ h' 704 88 = J ((flL e nd fr (to - fr + 1).toNat).length : Int)) → (∀ j, 0 ≤ j → j < to - fr + 1 → ∀ q, 0 ≤ q → q < 1536 → gA h' 768 (1536 * j + q) = J (PN e (fr + j) nd q)) → Q (some (.int (J ((flL e nd fr (to - fr + 1).toNat).length : Int))), h', hr, n)) : Sp E 331 [.ref 704, .int (J nd), .int (J fr), .int (J to)] h hr n Q := by
  have m1 := W.2.2.2.2.2.2.2.1
  simp +decide (maxSteps := 4000000) (disch := omega) only [k331_0, k331_1, k331_2, k331_4, k331_7, k331_9, k331_10, k331_r, k331_s, F_al0, F_il1, J_ifeq, F_il2, F_il3, T_iclt, T_sub, T_I, T_icle, T_ft, T_ret, T_add, T_putI, T_putZ, F_is4i, F_is4r, F_is4m, F_il4, T_icge, T_getR, T_iast, F_inc4i, F_inc4r, F_inc4m, T_goto, T_getI, F_is5i, F_is5r, F_is5m, F_il5, T_mul, X_iald, F_inc5i, F_inc5r, F_inc5m, c287, c324, c325, c332, ↓s287, FM F, ↓s324 F hn W, show 0 ≤ nd ∧ nd ≤ e.m - 1 by omega, hf, ht, show ¬ to < fr by omega, show to - fr ≤ 7 by omega, ↓reduceIte, TK, lt_run hn, le43, Int.le_refl, Int.lt_irrefl, Option.some.injEq, exists_eq_left', true_and, and_true, if_true, if_false, decide_eq_false_iff_not, decide_eq_true_eq, Nat.reduceAdd, Nat.reduceLeDiff, Nat.reduceLT, Int.reduceAdd, Int.reduceSub, Int.reduceMul, Int.reduceNeg, not_true_eq_false, not_false_eq_true]
  have start : ∀ k1 : AHi, k1 = hI (hI h 704 87 (J (to - fr + 1))) 704 7 (J 0) → Ef Sfm h k1 ∧ k1 704 87 = J (to - fr + 1) ∧ k1 704 7 = J 0 := fun k1 q => by
    subst q
    exact ⟨Ef.hI (Ef.hI Ef.refl (Or.inr (Or.inr (Or.inr (Or.inr ⟨rfl, Or.inl rfl⟩))))) (Or.inr (Or.inl (Or.inl ⟨rfl, rfl⟩))), by rw [hI_k (by decide), hI_s], hI_s⟩
  obtain ⟨s1, s2, s3⟩ := start _ rfl
  generalize hI (hI h 704 87 (J (to - fr + 1))) 704 7 (J 0) = k1 at *
  refine T_for (σ := Value) (fun q v => [.ref 704, .int (J nd), .int (J fr), .int (J to), .int (J q), v]) (fun q _ h' => Ef (fun x _ => x = 769) k1 h' ∧ PU h' 769 (fun _ => -1) q) 0 1536 ?_ ?_ 0 a_mk k1 (by omega) (by omega) ⟨Ef.refl, fun q _ _ => by omega⟩
  · rintro q v k2 q0 q1 ⟨e2, c2⟩ ih
    rw [k331_3]
    simp +decide (maxSteps := 4000000) (disch := omega) only [k331_0, k331_1, k331_2, k331_4, k331_7, k331_9, k331_10, k331_r, k331_s, F_al0, F_il1, J_ifeq, F_il2, F_il3, T_iclt, T_sub, T_I, T_icle, T_ft, T_ret, T_add, T_putI, T_putZ, F_is4i, F_is4r, F_is4m, F_il4, T_icge, T_getR, T_iast, F_inc4i, F_inc4r, F_inc4m, T_goto, T_getI, F_is5i, F_is5r, F_is5m, F_il5, T_mul, X_iald, F_inc5i, F_inc5r, F_inc5m, c287, c324, c325, c332, ↓s287, ↓s324, FM F, ln_769, show ¬ 1536 ≤ q by omega, ↓reduceIte, TK, lt_run hn, le43, Int.le_refl, Int.lt_irrefl, Option.some.injEq, exists_eq_left', true_and, and_true, if_true, if_false, decide_eq_false_iff_not, decide_eq_true_eq, Nat.reduceAdd, Nat.reduceLeDiff, Nat.reduceLT, Int.reduceAdd, Int.reduceSub, Int.reduceMul, Int.reduceNeg, not_true_eq_false, not_false_eq_true]
    exact ih _ _ ⟨e2.sA rfl, c2.set q0 rfl⟩
  rintro v k2 ⟨e2, c2⟩
  rw [k331_3]
  simp +decide (maxSteps := 4000000) (disch := omega) only [k331_0, k331_1, k331_2, k331_4, k331_7, k331_9, k331_10, k331_r, k331_s, F_al0, F_il1, J_ifeq, F_il2, F_il3, T_iclt, T_sub, T_I, T_icle, T_ft, T_ret, T_add, T_putI, T_putZ, F_is4i, F_is4r, F_is4m, F_il4, T_icge, T_getR, T_iast, F_inc4i, F_inc4r, F_inc4m, T_goto, T_getI, F_is5i, F_is5r, F_is5m, F_il5, T_mul, X_iald, F_inc5i, F_inc5r, F_inc5m, c287, c324, c325, c332, ↓s287, ↓s324, ↓reduceIte, TK, lt_run hn, le43, Int.le_refl, Int.lt_irrefl, Option.some.injEq, exists_eq_left', true_and, and_true, if_true, if_false, decide_eq_false_iff_not, decide_eq_true_eq, Nat.reduceAdd, Nat.reduceLeDiff, Nat.reduceLT, Int.reduceAdd, Int.reduceSub, Int.reduceMul, Int.reduceNeg, not_true_eq_false, not_false_eq_true]
  have e2' : Ef Sfm h k2 := s1.trans (e2.mono fun x k q => Or.inr (Or.inr (Or.inr (Or.inl q))))
  have Wr : ∀ {h1}, Ef Sfm h h1 → PW h1 hr e := fun q => W.z (q.mono fun x k q => Sfm_0 q)
  refine T_for (σ := Value) (fun i v => [.ref 704, .int (J nd), .int (J fr), .int (J to), .int (J i), v]) (fun i _ h' => Ef Sfm h h' ∧ h' 704 87 = J (to - fr + 1) ∧ OM h' (flL e nd fr i.toNat) ∧ PA h' 769 (flP e nd fr i) ∧ ∀ j, 0 ≤ j → j < i → ∀ q, 0 ≤ q → q < 1536 → gA h' 768 (1536 * j + q) = J (PN e (fr + j) nd q)) 0 (to - fr + 1) ?_ ?_ 0 v k2 (by omega) (by omega) ⟨e2', (e2 _ _ (by decide)).trans s2, ⟨(e2 _ _ (by decide)).trans s3, fun i i0 i1 => by have : i < ((0 : Nat) : Int) := i1; omega⟩, c2, fun j _ _ => by omega⟩
  · rintro i v k3 i0 i1 ⟨e3, t3, C3, p3, f3⟩ ih
    have W3 := Wr e3
    rw [k331_5]
    simp +decide (maxSteps := 4000000) (disch := omega) only [k331_0, k331_1, k331_2, k331_4, k331_7, k331_9, k331_10, k331_r, k331_s, F_al0, F_il1, J_ifeq, F_il2, F_il3, T_iclt, T_sub, T_I, T_icle, T_ft, T_ret, T_add, T_putI, T_putZ, F_is4i, F_is4r, F_is4m, F_il4, T_icge, T_getR, T_iast, F_inc4i, F_inc4r, F_inc4m, T_goto, T_getI, F_is5i, F_is5r, F_is5m, F_il5, T_mul, X_iald, F_inc5i, F_inc5r, F_inc5m, c287, c324, c325, c332, ↓s287, ↓s324, FM F, t3, show ¬ to - fr + 1 ≤ i by omega, ↓reduceIte, TK, lt_run hn, le43, Int.le_refl, Int.lt_irrefl, Option.some.injEq, exists_eq_left', true_and, and_true, if_true, if_false, decide_eq_false_iff_not, decide_eq_true_eq, Nat.reduceAdd, Nat.reduceLeDiff, Nat.reduceLT, Int.reduceAdd, Int.reduceSub, Int.reduceMul, Int.reduceNeg, not_true_eq_false, not_false_eq_true]
    refine w325 F hn W3 (f := fr + i) hd (by omega) (fun k4 e4 p4 => ?_)
    have ns : ∀ {x k : Nat}, x = 769 ∨ x = 768 ∨ x = 707 ∨ (x = 704 ∧ (k = 7 ∨ k = 87)) → ¬ Ssh x k := fun {x k} w z => by
      unfold Ssh Spm Sdr Scw Scf Swl at z
      omega
    have C4 : OM k4 (flL e nd fr i.toNat) := ⟨(e4 _ _ (ns (by decide))).trans C3.1, fun j j0 j1 => (e4.g (ns (Or.inr (Or.inr (Or.inl rfl))))).trans (C3.2 j j0 j1)⟩
    have t4 : k4 704 87 = J (to - fr + 1) := (e4 _ _ (ns (by decide))).trans t3
    have p4' : PA k4 769 (flP e nd fr i) := p3.ef e4 (fun k => ns (Or.inl rfl))
    have f4 : ∀ j, 0 ≤ j → j < i → ∀ q, 0 ≤ q → q < 1536 → gA k4 768 (1536 * j + q) = J (PN e (fr + j) nd q) := fun j j0 j1 q q0 q1 => (e4.g (ns (Or.inr (Or.inl rfl)))).trans (f3 j j0 j1 q q0 q1)
    have fl := flL_l (e := e) (nd := nd) (fr := fr) (i + 1).toNat
    simp +decide (maxSteps := 4000000) (disch := omega) only [k331_0, k331_1, k331_2, k331_4, k331_7, k331_9, k331_10, k331_r, k331_s, F_al0, F_il1, J_ifeq, F_il2, F_il3, T_iclt, T_sub, T_I, T_icle, T_ft, T_ret, T_add, T_putI, T_putZ, F_is4i, F_is4r, F_is4m, F_il4, T_icge, T_getR, T_iast, F_inc4i, F_inc4r, F_inc4m, T_goto, T_getI, F_is5i, F_is5r, F_is5m, F_il5, T_mul, X_iald, F_inc5i, F_inc5r, F_inc5m, c287, c324, c325, c332, ↓s287, ↓s324, ↓reduceIte, TK, lt_run hn, le43, Int.le_refl, Int.lt_irrefl, Option.some.injEq, exists_eq_left', true_and, and_true, if_true, if_false, decide_eq_false_iff_not, decide_eq_true_eq, Nat.reduceAdd, Nat.reduceLeDiff, Nat.reduceLT, Int.reduceAdd, Int.reduceSub, Int.reduceMul, Int.reduceNeg, not_true_eq_false, not_false_eq_true]
    refine T_for (σ := Unit) (fun q _ => [.ref 704, .int (J nd), .int (J fr), .int (J to), .int (J i), .int (J q)]) (fun q _ h' => Ef (fun x k => x = 768 ∧ 1536 * i.toNat ≤ k) k4 h' ∧ ∀ q', 0 ≤ q' → q' < q → gA h' 768 (1536 * i + q') = J (PN e (fr + i) nd q')) 0 1536 ?_ ?_ 0 () k4 (by omega) (by omega) ⟨Ef.refl, fun q _ _ => by omega⟩
    · rintro q _ k5 q0 q1 ⟨e5, c5⟩ ihq
      have d1 : gA k5 767 (1536 * nd + q) = J (PN e (fr + i) nd q) := (e5.g (by omega)).trans (p4 q q0 q1)
      rw [k331_6]
      simp +decide (maxSteps := 4000000) (disch := omega) only [k331_0, k331_1, k331_2, k331_4, k331_7, k331_9, k331_10, k331_r, k331_s, F_al0, F_il1, J_ifeq, F_il2, F_il3, T_iclt, T_sub, T_I, T_icle, T_ft, T_ret, T_add, T_putI, T_putZ, F_is4i, F_is4r, F_is4m, F_il4, T_icge, T_getR, T_iast, F_inc4i, F_inc4r, F_inc4m, T_goto, T_getI, F_is5i, F_is5r, F_is5m, F_il5, T_mul, X_iald, F_inc5i, F_inc5r, F_inc5m, c287, c324, c325, c332, ↓s287, ↓s324, FM F, d1, ln_767, ln_768, show ¬ 1536 ≤ q by omega, ↓reduceIte, TK, lt_run hn, le43, Int.le_refl, Int.lt_irrefl, Option.some.injEq, exists_eq_left', true_and, and_true, if_true, if_false, decide_eq_false_iff_not, decide_eq_true_eq, Nat.reduceAdd, Nat.reduceLeDiff, Nat.reduceLT, Int.reduceAdd, Int.reduceSub, Int.reduceMul, Int.reduceNeg, not_true_eq_false, not_false_eq_true]
      refine ihq () _ ⟨e5.sA ⟨rfl, by omega⟩, fun q' w0 w1 => ?_⟩
      by_cases z : q' = q
      · rw [z, gs_s]
      · rw [gs_k (by omega) (by omega) (by omega)]
        exact c5 q' w0 (by omega)
    rintro _ k5 ⟨e5, c5⟩
    have C5 : OM k5 (flL e nd fr i.toNat) := ⟨(e5 _ _ (by omega)).trans C4.1, fun j j0 j1 => (e5.g (by omega)).trans (C4.2 j j0 j1)⟩
    have RB5 : RB k5 i (PN e (fr + i) nd) (flP e nd fr i) := ⟨c5, p4'.ef e5 (fun k => by omega)⟩
    rw [k331_6]
    simp +decide (maxSteps := 4000000) (disch := omega) only [k331_0, k331_1, k331_2, k331_4, k331_7, k331_9, k331_10, k331_r, k331_s, F_al0, F_il1, J_ifeq, F_il2, F_il3, T_iclt, T_sub, T_I, T_icle, T_ft, T_ret, T_add, T_putI, T_putZ, F_is4i, F_is4r, F_is4m, F_il4, T_icge, T_getR, T_iast, F_inc4i, F_inc4r, F_inc4m, T_goto, T_getI, F_is5i, F_is5r, F_is5m, F_il5, T_mul, X_iald, F_inc5i, F_inc5r, F_inc5m, c287, c324, c325, c332, ↓s287, ↓s324, ↓reduceIte, TK, lt_run hn, le43, Int.le_refl, Int.lt_irrefl, Option.some.injEq, exists_eq_left', true_and, and_true, if_true, if_false, decide_eq_false_iff_not, decide_eq_true_eq, Nat.reduceAdd, Nat.reduceLeDiff, Nat.reduceLT, Int.reduceAdd, Int.reduceSub, Int.reduceMul, Int.reduceNeg, not_true_eq_false, not_false_eq_true]
    simp +decide (maxSteps := 4000000) (disch := omega) only [k332_0, k332_3, k332_5, k332_7, k332_8, k332_9, k332_10, k332_r, k332_s, T_I, F_is2i, F_is2r, F_is2m, T_ft, F_il2, T_icge, F_is3i, F_is3r, F_is3m, F_il3, F_al0, T_getR, F_il1, T_add, X_iald, J_icne, F_inc3i, F_inc3r, F_inc3m, F_inc2i, F_inc2r, F_inc2m, T_goto, F_is4i, F_is4r, F_is4m, F_il4, T_iceq, F_inc4i, F_inc4r, F_inc4m, F_is5i, F_is5r, F_is5m, F_il5, F_is6i, F_is6r, F_is6m, F_il6, T_shr, T_and, F_inc5i, F_inc5r, F_inc5m, T_ret, c233, ↓reduceIte, TK, lt_run hn, le43, Int.le_refl, Int.lt_irrefl, Option.some.injEq, exists_eq_left', true_and, and_true, if_true, if_false, decide_eq_false_iff_not, decide_eq_true_eq, Nat.reduceAdd, Nat.reduceLeDiff, Nat.reduceLT, Int.reduceAdd, Int.reduceSub, Int.reduceMul, Int.reduceNeg, not_true_eq_false, not_false_eq_true]
    refine z332 F hn (t := i) (by omega) RB5 (PN_r W3 _ hd.1 hd.2) (flP_r W3 hd i) (L := flL e nd fr (i + 1).toNat) (by omega) (fun k6 e6 C6 => ?_) 1536 0 k5 (flL e nd fr i.toNat) _ _ _ _ (by decide) (by decide) (by decide) Ef.refl C5 (by rw [flL_s i0])
    try simp +decide (maxSteps := 4000000) (disch := omega) only [k331_0, k331_1, k331_2, k331_4, k331_7, k331_9, k331_10, k331_r, k331_s, F_al0, F_il1, J_ifeq, F_il2, F_il3, T_iclt, T_sub, T_I, T_icle, T_ft, T_ret, T_add, T_putI, T_putZ, F_is4i, F_is4r, F_is4m, F_il4, T_icge, T_getR, T_iast, F_inc4i, F_inc4r, F_inc4m, T_goto, T_getI, F_is5i, F_is5r, F_is5m, F_il5, T_mul, X_iald, F_inc5i, F_inc5r, F_inc5m, c287, c324, c325, c332, ↓s287, ↓s324, ↓reduceIte, TK, lt_run hn, le43, Int.le_refl, Int.lt_irrefl, Option.some.injEq, exists_eq_left', true_and, and_true, if_true, if_false, decide_eq_false_iff_not, decide_eq_true_eq, Nat.reduceAdd, Nat.reduceLeDiff, Nat.reduceLT, Int.reduceAdd, Int.reduceSub, Int.reduceMul, Int.reduceNeg, not_true_eq_false, not_false_eq_true]
    have RB6 := RB5.ef e6
    refine T_for (σ := Unit) (fun q _ => [.ref 704, .int (J nd), .int (J fr), .int (J to), .int (J i), .int (J q)]) (fun q _ h' => Ef (fun x _ => x = 769) k6 h' ∧ PU h' 769 (PN e (fr + i) nd) q) 0 1536 ?_ ?_ 0 () k6 (by omega) (by omega) ⟨Ef.refl, fun q _ _ => by omega⟩
    · rintro q _ k7 q0 q1 ⟨e7, c7⟩ ihq
      have d1 : gA k7 768 (1536 * i + q) = J (PN e (fr + i) nd q) := (e7.g (by decide)).trans (RB6.1 q q0 q1)
      rw [k331_8]
      simp +decide (maxSteps := 4000000) (disch := omega) only [k331_0, k331_1, k331_2, k331_4, k331_7, k331_9, k331_10, k331_r, k331_s, F_al0, F_il1, J_ifeq, F_il2, F_il3, T_iclt, T_sub, T_I, T_icle, T_ft, T_ret, T_add, T_putI, T_putZ, F_is4i, F_is4r, F_is4m, F_il4, T_icge, T_getR, T_iast, F_inc4i, F_inc4r, F_inc4m, T_goto, T_getI, F_is5i, F_is5r, F_is5m, F_il5, T_mul, X_iald, F_inc5i, F_inc5r, F_inc5m, c287, c324, c325, c332, ↓s287, ↓s324, FM F, d1, ln_768, ln_769, show ¬ 1536 ≤ q by omega, ↓reduceIte, TK, lt_run hn, le43, Int.le_refl, Int.lt_irrefl, Option.some.injEq, exists_eq_left', true_and, and_true, if_true, if_false, decide_eq_false_iff_not, decide_eq_true_eq, Nat.reduceAdd, Nat.reduceLeDiff, Nat.reduceLT, Int.reduceAdd, Int.reduceSub, Int.reduceMul, Int.reduceNeg, not_true_eq_false, not_false_eq_true]
      exact ihq () _ ⟨e7.sA rfl, c7.set q0 rfl⟩
    rintro _ k7 ⟨e7, c7⟩
    rw [k331_8]
    simp +decide (maxSteps := 4000000) (disch := omega) only [k331_0, k331_1, k331_2, k331_4, k331_7, k331_9, k331_10, k331_r, k331_s, F_al0, F_il1, J_ifeq, F_il2, F_il3, T_iclt, T_sub, T_I, T_icle, T_ft, T_ret, T_add, T_putI, T_putZ, F_is4i, F_is4r, F_is4m, F_il4, T_icge, T_getR, T_iast, F_inc4i, F_inc4r, F_inc4m, T_goto, T_getI, F_is5i, F_is5r, F_is5m, F_il5, T_mul, X_iald, F_inc5i, F_inc5r, F_inc5m, c287, c324, c325, c332, ↓s287, ↓s324, ↓reduceIte, TK, lt_run hn, le43, Int.le_refl, Int.lt_irrefl, Option.some.injEq, exists_eq_left', true_and, and_true, if_true, if_false, decide_eq_false_iff_not, decide_eq_true_eq, Nat.reduceAdd, Nat.reduceLeDiff, Nat.reduceLT, Int.reduceAdd, Int.reduceSub, Int.reduceMul, Int.reduceNeg, not_true_eq_false, not_false_eq_true]
    have nv : ∀ {x k : Nat}, x = 768 ∨ (x = 704 ∧ k = 87) → ¬ Sv x k := fun {x k} w z => by
      unfold Sv at z
      omega
    refine ih _ _ ⟨?_, ?_, ⟨?_, fun j j0 j1 => ?_⟩, ?_, fun j j0 j1 q q0 q1 => ?_⟩
    · exact ((((e3.trans (e4.mono fun x k q => Or.inl q)).trans (e5.mono fun x k q => Or.inr (Or.inr (Or.inl q.1))))).trans (e6.mono fun x k q => Or.inr (Or.inl q))).trans (e7.mono fun x k q => Or.inr (Or.inr (Or.inr (Or.inl q))))
    · rw [e7 _ _ (by decide), e6 _ _ (nv (Or.inr ⟨rfl, rfl⟩)), e5 _ _ (by omega)]
      exact t4
    · rw [e7 _ _ (by decide)]
      exact C6.1
    · rw [e7.g (by decide)]
      exact C6.2 j j0 j1
    · unfold flP
      rw [if_neg (by omega), show fr + (i + 1) - 1 = fr + i by omega]
      exact c7
    · rw [e7.g (by decide), e6.g (nv (Or.inl rfl))]
      by_cases z : j = i
      · rw [z]
        exact c5 q q0 q1
      · rw [e5.g (by omega)]
        exact f4 j j0 (by omega) q q0 q1
  · rintro v k3 ⟨e3, t3, C3, p3, f3⟩
    have d1 := C3.1
    have d2 : ∀ v, hI k3 704 88 v 704 7 = J ((flL e nd fr (to - fr + 1).toNat).length : Int) := fun v => by rw [hI_k (by decide)]; exact d1
    rw [k331_5]
    simp +decide (maxSteps := 4000000) (disch := omega) only [k331_0, k331_1, k331_2, k331_4, k331_7, k331_9, k331_10, k331_r, k331_s, F_al0, F_il1, J_ifeq, F_il2, F_il3, T_iclt, T_sub, T_I, T_icle, T_ft, T_ret, T_add, T_putI, T_putZ, F_is4i, F_is4r, F_is4m, F_il4, T_icge, T_getR, T_iast, F_inc4i, F_inc4r, F_inc4m, T_goto, T_getI, F_is5i, F_is5r, F_is5m, F_il5, T_mul, X_iald, F_inc5i, F_inc5r, F_inc5m, c287, c324, c325, c332, ↓s287, ↓s324, FM F, t3, d1, d2, ↓reduceIte, TK, lt_run hn, le43, Int.le_refl, Int.lt_irrefl, Option.some.injEq, exists_eq_left', true_and, and_true, if_true, if_false, decide_eq_false_iff_not, decide_eq_true_eq, Nat.reduceAdd, Nat.reduceLeDiff, Nat.reduceLT, Int.reduceAdd, Int.reduceSub, Int.reduceMul, Int.reduceNeg, not_true_eq_false, not_false_eq_true]
    refine k _ (Ef.hI e3 (Or.inr (Or.inr (Or.inr (Or.inr ⟨rfl, Or.inr rfl⟩))))) ⟨d2 _, fun i i0 i1 => ?_⟩ ⟨?_, hI_s⟩ (fun j j0 j1 q q0 q1 => ?_)
    · rw [gA_o (by decide)]
      exact C3.2 i i0 i1
    · rw [hI_k (by decide)]
      exact t3
    · rw [gA_o (by decide)]
      exact f3 j j0 j1 q q0 q1
/-- what film leaves behind it -/
def PoF (E : AEn) (h : AHi) (hr : AHr) : AHi → AHr → Nat → Prop := fun h' hr' n' => (Cp17 h' ∧ CpO E h' hr' n' ∧ Kp 2 17 h h') ∧ NN hr' n' ∧ FH hr' ∧ ∀ a k, a ≠ 46 → hr' a k = hr a k
theorem Zs_k {x k : Nat} (q : Zs x k) : sys x k = 0 ∨ sys x k = 2 ∨ sys x k = 17 := q
theorem Pfilm (F : FH hr) (N : NN hr n) (C3 : Cp3 h hr) (C4 : Cp4 h) (C5 : Cp5 h) (C6 : Cp6 h) (C7 : Cp7 h) (C8 : Cp8 h) (C15 : Cp15 h) (C16 : Cp16 h hr) (C17 : Cp17 h) (CO : CpO E h hr n) (x y z : Int32) : Pr2 E 203 331 [.int x, .int y, .int z] h hr n (PoF E h hr) := by
  have hn := N.h
  obtain ⟨e, W⟩ := PW.mk' C3 C4 C5 C6 C7 C8 C15 C16
  obtain ⟨a, ha, ha', rfl⟩ := J_of x
  obtain ⟨b, hb, hb', rfl⟩ := J_of y
  obtain ⟨c, hc, hc', rfl⟩ := J_of z
  have no : PoF E h hr h hr n := ⟨⟨C17, CO, Kp.refl⟩, N, F, fun _ _ _ => rfl⟩
  unfold Pr2
  by_cases g1 : 0 ≤ a ∧ a ≤ e.m - 1
  case neg =>
    simp +decide (maxSteps := 4000000) (disch := omega) only [k203_0, k203_1, k203_2, k203_4, k203_r, k203_s, F_al0, F_il1, J_ifeq, F_il2, F_il3, T_sub, T_I, J_ifne, T_ft, T_ret, T_getR, F_is4i, F_is4r, F_is4m, F_il4, T_icgt, F_inc4i, F_inc4r, F_inc4m, T_goto, T_getI, T_putI, T_putZ, c25, c28, c105, c106, c138, c173, c196, c197, ↓s25, ↓s138, ↓s173, ↓s196 F hn W, g1, ↓reduceIte, TK, lt_run hn, le43, Int.le_refl, Int.lt_irrefl, Option.some.injEq, exists_eq_left', true_and, and_true, if_true, if_false, decide_eq_false_iff_not, decide_eq_true_eq, Nat.reduceAdd, Nat.reduceLeDiff, Nat.reduceLT, Int.reduceAdd, Int.reduceSub, Int.reduceMul, Int.reduceNeg, not_true_eq_false, not_false_eq_true]
    refine ⟨_, rfl, ?_⟩
    simp +decide (maxSteps := 4000000) (disch := omega) only [k331_0, k331_1, k331_2, k331_4, k331_7, k331_9, k331_10, k331_r, k331_s, F_al0, F_il1, J_ifeq, F_il2, F_il3, T_iclt, T_sub, T_I, T_icle, T_ft, T_ret, T_add, T_putI, T_putZ, F_is4i, F_is4r, F_is4m, F_il4, T_icge, T_getR, T_iast, F_inc4i, F_inc4r, F_inc4m, T_goto, T_getI, F_is5i, F_is5r, F_is5m, F_il5, T_mul, X_iald, F_inc5i, F_inc5r, F_inc5m, c287, c324, c325, c332, ↓s287, ↓s324 F hn W, g1, ↓reduceIte, TK, lt_run hn, le43, Int.le_refl, Int.lt_irrefl, Option.some.injEq, exists_eq_left', true_and, and_true, if_true, if_false, decide_eq_false_iff_not, decide_eq_true_eq, Nat.reduceAdd, Nat.reduceLeDiff, Nat.reduceLT, Int.reduceAdd, Int.reduceSub, Int.reduceMul, Int.reduceNeg, not_true_eq_false, not_false_eq_true]
    first | exact ⟨rfl, no⟩ | exact no
  by_cases g2 : 0 ≤ b ∧ b ≤ 119
  case neg =>
    simp +decide (maxSteps := 4000000) (disch := omega) only [k203_0, k203_1, k203_2, k203_4, k203_r, k203_s, F_al0, F_il1, J_ifeq, F_il2, F_il3, T_sub, T_I, J_ifne, T_ft, T_ret, T_getR, F_is4i, F_is4r, F_is4m, F_il4, T_icgt, F_inc4i, F_inc4r, F_inc4m, T_goto, T_getI, T_putI, T_putZ, c25, c28, c105, c106, c138, c173, c196, c197, ↓s25, ↓s138, ↓s173, ↓s196 F hn W, g1, g2, ↓reduceIte, TK, lt_run hn, le43, Int.le_refl, Int.lt_irrefl, Option.some.injEq, exists_eq_left', true_and, and_true, if_true, if_false, decide_eq_false_iff_not, decide_eq_true_eq, Nat.reduceAdd, Nat.reduceLeDiff, Nat.reduceLT, Int.reduceAdd, Int.reduceSub, Int.reduceMul, Int.reduceNeg, not_true_eq_false, not_false_eq_true]
    refine ⟨_, rfl, ?_⟩
    simp +decide (maxSteps := 4000000) (disch := omega) only [k331_0, k331_1, k331_2, k331_4, k331_7, k331_9, k331_10, k331_r, k331_s, F_al0, F_il1, J_ifeq, F_il2, F_il3, T_iclt, T_sub, T_I, T_icle, T_ft, T_ret, T_add, T_putI, T_putZ, F_is4i, F_is4r, F_is4m, F_il4, T_icge, T_getR, T_iast, F_inc4i, F_inc4r, F_inc4m, T_goto, T_getI, F_is5i, F_is5r, F_is5m, F_il5, T_mul, X_iald, F_inc5i, F_inc5r, F_inc5m, c287, c324, c325, c332, ↓s287, ↓s324 F hn W, g1, g2, ↓reduceIte, TK, lt_run hn, le43, Int.le_refl, Int.lt_irrefl, Option.some.injEq, exists_eq_left', true_and, and_true, if_true, if_false, decide_eq_false_iff_not, decide_eq_true_eq, Nat.reduceAdd, Nat.reduceLeDiff, Nat.reduceLT, Int.reduceAdd, Int.reduceSub, Int.reduceMul, Int.reduceNeg, not_true_eq_false, not_false_eq_true]
    first | exact ⟨rfl, no⟩ | exact no
  by_cases g3 : 0 ≤ c ∧ c ≤ 119
  case neg =>
    simp +decide (maxSteps := 4000000) (disch := omega) only [k203_0, k203_1, k203_2, k203_4, k203_r, k203_s, F_al0, F_il1, J_ifeq, F_il2, F_il3, T_sub, T_I, J_ifne, T_ft, T_ret, T_getR, F_is4i, F_is4r, F_is4m, F_il4, T_icgt, F_inc4i, F_inc4r, F_inc4m, T_goto, T_getI, T_putI, T_putZ, c25, c28, c105, c106, c138, c173, c196, c197, ↓s25, ↓s138, ↓s173, ↓s196 F hn W, g1, g2, g3, ↓reduceIte, TK, lt_run hn, le43, Int.le_refl, Int.lt_irrefl, Option.some.injEq, exists_eq_left', true_and, and_true, if_true, if_false, decide_eq_false_iff_not, decide_eq_true_eq, Nat.reduceAdd, Nat.reduceLeDiff, Nat.reduceLT, Int.reduceAdd, Int.reduceSub, Int.reduceMul, Int.reduceNeg, not_true_eq_false, not_false_eq_true]
    refine ⟨_, rfl, ?_⟩
    simp +decide (maxSteps := 4000000) (disch := omega) only [k331_0, k331_1, k331_2, k331_4, k331_7, k331_9, k331_10, k331_r, k331_s, F_al0, F_il1, J_ifeq, F_il2, F_il3, T_iclt, T_sub, T_I, T_icle, T_ft, T_ret, T_add, T_putI, T_putZ, F_is4i, F_is4r, F_is4m, F_il4, T_icge, T_getR, T_iast, F_inc4i, F_inc4r, F_inc4m, T_goto, T_getI, F_is5i, F_is5r, F_is5m, F_il5, T_mul, X_iald, F_inc5i, F_inc5r, F_inc5m, c287, c324, c325, c332, ↓s287, ↓s324 F hn W, g1, g2, g3, ↓reduceIte, TK, lt_run hn, le43, Int.le_refl, Int.lt_irrefl, Option.some.injEq, exists_eq_left', true_and, and_true, if_true, if_false, decide_eq_false_iff_not, decide_eq_true_eq, Nat.reduceAdd, Nat.reduceLeDiff, Nat.reduceLT, Int.reduceAdd, Int.reduceSub, Int.reduceMul, Int.reduceNeg, not_true_eq_false, not_false_eq_true]
    first | exact ⟨rfl, no⟩ | exact no
  by_cases g4 : 0 ≤ c - b ∧ c - b ≤ 7
  case neg =>
    simp +decide (maxSteps := 4000000) (disch := omega) only [k203_0, k203_1, k203_2, k203_4, k203_r, k203_s, F_al0, F_il1, J_ifeq, F_il2, F_il3, T_sub, T_I, J_ifne, T_ft, T_ret, T_getR, F_is4i, F_is4r, F_is4m, F_il4, T_icgt, F_inc4i, F_inc4r, F_inc4m, T_goto, T_getI, T_putI, T_putZ, c25, c28, c105, c106, c138, c173, c196, c197, ↓s25, ↓s138, ↓s173, ↓s196 F hn W, g1, g2, g3, g4, ↓reduceIte, TK, lt_run hn, le43, Int.le_refl, Int.lt_irrefl, Option.some.injEq, exists_eq_left', true_and, and_true, if_true, if_false, decide_eq_false_iff_not, decide_eq_true_eq, Nat.reduceAdd, Nat.reduceLeDiff, Nat.reduceLT, Int.reduceAdd, Int.reduceSub, Int.reduceMul, Int.reduceNeg, not_true_eq_false, not_false_eq_true]
    refine ⟨_, rfl, ?_⟩
    by_cases g5 : c < b
    · simp +decide (maxSteps := 4000000) (disch := omega) only [k331_0, k331_1, k331_2, k331_4, k331_7, k331_9, k331_10, k331_r, k331_s, F_al0, F_il1, J_ifeq, F_il2, F_il3, T_iclt, T_sub, T_I, T_icle, T_ft, T_ret, T_add, T_putI, T_putZ, F_is4i, F_is4r, F_is4m, F_il4, T_icge, T_getR, T_iast, F_inc4i, F_inc4r, F_inc4m, T_goto, T_getI, F_is5i, F_is5r, F_is5m, F_il5, T_mul, X_iald, F_inc5i, F_inc5r, F_inc5m, c287, c324, c325, c332, ↓s287, ↓s324 F hn W, g1, g2, g3, g5, ↓reduceIte, TK, lt_run hn, le43, Int.le_refl, Int.lt_irrefl, Option.some.injEq, exists_eq_left', true_and, and_true, if_true, if_false, decide_eq_false_iff_not, decide_eq_true_eq, Nat.reduceAdd, Nat.reduceLeDiff, Nat.reduceLT, Int.reduceAdd, Int.reduceSub, Int.reduceMul, Int.reduceNeg, not_true_eq_false, not_false_eq_true]
      first | exact ⟨rfl, no⟩ | exact no
    · simp +decide (maxSteps := 4000000) (disch := omega) only [k331_0, k331_1, k331_2, k331_4, k331_7, k331_9, k331_10, k331_r, k331_s, F_al0, F_il1, J_ifeq, F_il2, F_il3, T_iclt, T_sub, T_I, T_icle, T_ft, T_ret, T_add, T_putI, T_putZ, F_is4i, F_is4r, F_is4m, F_il4, T_icge, T_getR, T_iast, F_inc4i, F_inc4r, F_inc4m, T_goto, T_getI, F_is5i, F_is5r, F_is5m, F_il5, T_mul, X_iald, F_inc5i, F_inc5r, F_inc5m, c287, c324, c325, c332, ↓s287, ↓s324 F hn W, g1, g2, g3, g5, show ¬ c - b ≤ 7 by omega, ↓reduceIte, TK, lt_run hn, le43, Int.le_refl, Int.lt_irrefl, Option.some.injEq, exists_eq_left', true_and, and_true, if_true, if_false, decide_eq_false_iff_not, decide_eq_true_eq, Nat.reduceAdd, Nat.reduceLeDiff, Nat.reduceLT, Int.reduceAdd, Int.reduceSub, Int.reduceMul, Int.reduceNeg, not_true_eq_false, not_false_eq_true]
      first | exact ⟨rfl, no⟩ | exact no
  have hd : 0 ≤ a ∧ a < e.m := by omega
  refine w203 F N W hd g2 g3 g4 (fun k1 hr1 e1 F1 o1 N1 W1 C1 t1 f1 => ?_)
  refine ⟨_, rfl, ?_⟩
  refine w331 F1 N1.h W1 hd g2 g3 g4 (fun k2 e2 C2 t2 f2 => ?_)
  have fl := flL_l (e := e) (nd := a) (fr := b) (c - b + 1).toNat
  have fb := flL_b (e := e) (nd := a) (fr := b) (fun k => PN_r W1 _ hd.1 hd.2) (c - b + 1).toNat
  have ns : ∀ {x k : Nat}, x = 775 ∨ (x = 46 ∧ k = 1) ∨ (144 ≤ x ∧ x ≤ 151) ∨ x = 113 → ¬ Sfm x k := fun {x k} w z => by
    unfold Sfm Ssh Spm Sdr Scw Scf Swl Sv at z
    omega
  have K : Kp 2 17 h k2 := Ef.trans (e1.mono fun x k q => Sfl_0 q) (e2.mono fun x k q => Sfm_0 q)
  have pr := fun f => PN_r W1 f hd.1 hd.2
  refine ⟨rfl, ⟨⟨c - b + 1, ((flL e a b (c - b + 1).toNat).length : Int), fun i q => if 0 ≤ q ∧ q < 1536 then PN e (b + i) a q else 0, by omega, by omega, fun i q => ?_, ⟨⟨?_, t2.1⟩, ?_, t2.2⟩, fun i q i0 i1 q0 q1 => ?_⟩, ⟨((flL e a b (c - b + 1).toNat).length : Int), fun i => (flL e a b (c - b + 1).toNat).getD i.toNat 0, 775, 49264, ?_, Or.inr ⟨rfl, rfl⟩, by omega, fun i => ?_, ⟨?_, fun i i0 i1 => ?_⟩, C2.1, C2.2⟩, K⟩, N1, F1, o1⟩
  · dsimp only
    split
    case isTrue w => exact pr _ q w.1 w.2
    · omega
  · exact (e2 _ _ (ns (by decide))).trans t1.1
  · exact (e2 _ _ (ns (by decide))).trans t1.2
  · dsimp only
    rw [if_pos ⟨q0, q1⟩]
    exact ⟨(e2.g (ns (by omega))).trans (f1 i i0 i1 q q0 q1), f2 i i0 i1 q q0 q1⟩
  · have q46 : hr1 46 0 = some 775 := by
      rcases N1 with ⟨q, _⟩ | ⟨_, q⟩
      · omega
      · exact q
    exact (Ob775 q46 (Nat.le_refl 776)).1
  · dsimp only
    rw [List.getD_eq_getElem?_getD]
    cases hg : (flL e a b (c - b + 1).toNat)[i.toNat]? with
    | none => exact ⟨by decide, by decide⟩
    | some v => exact fb v (List.mem_of_getElem? hg)
  · exact (e2 _ _ (ns (by decide))).trans C1.1
  · exact (e2.g (ns (Or.inl rfl))).trans (C1.2 i i0 i1)
end FK1
