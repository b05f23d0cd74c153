/-! erase: the call -/
section EV
variable {E : AEn} {h h' : AHi} {hr : AHr} {n : Nat} {Q : ARs → Prop} {s : Stk} {S : Nat → Nat → Prop} {l : List Stk} {x y r : Int}
theorem z236b (F : FH hr) (hn : 775 ≤ n) {d : Int} {D : Drw} (R : DRr D) (hd : 0 ≤ d ∧ d < 16) (hx : 0 ≤ x ∧ x ≤ 47) (hy : 0 ≤ y ∧ y ≤ 31) (hr' : 0 ≤ r ∧ r ≤ 10) (C : DM h d D)
    (k : ∀ h' v7 v8 v9 v10, LMl h' (erD x y r D D.1.toNat) → Ef Sl h h' → Tm E 236 (a_bl 236 9) [.ref 704, .int (J d), .int (J x), .int (J y), .int (J r), .int (J (erD x y r D D.1.toNat).length), .int (J (acc (erG x y r D) D.1.toNat)), .int v7, v8, v9, v10] [] h' hr n Q) :
    Tm E 236 (a_bl 236 3) [.ref 704, .int (J d), .int (J x), .int (J y), .int (J r), .int (J 0), .int (J 0), .int (J (8 * d)), a_mk, a_mk, a_mk] [] h hr n Q := by
  have r1 := R.1
  have fr : ∀ {h'}, Ef Sl h h' → gA h' 708 d = J D.1 ∧ ∀ i, 0 ≤ i → i < D.1 → SM h' (8 * d + i) (D.2 i) := fun e => by
    refine ⟨?_, fun i i0 i1 => ?_⟩
    · rw [e.g (fun q => by unfold Sl at q; omega)]
      exact C.1
    · exact (C.2 i i0 i1).ef (by omega) (R.2 i).2.1.2 e (fun q => by unfold Sl at q; omega) (fun q => by unfold Sl at q; omega) (fun i _ _ => ⟨fun q => by unfold Sl at q; omega, fun q => by unfold Sl at q; omega⟩)
  have key := T_for (E := E) (m := 236) (L := 3) (hr := hr) (n := n) (Q := Q) (σ := Value × Value × Value) (fun i v => [.ref 704, .int (J d), .int (J x), .int (J y), .int (J r), .int (J (erD x y r D i.toNat).length), .int (J (acc (erG x y r D) i.toNat)), .int (J (8 * d + i)), v.1, v.2.1, v.2.2]) (fun i v h' => Ef Sl h h' ∧ LMl h' (erD x y r D i.toNat)) 0 D.1 ?_ ?_ 0 (a_mk, a_mk, a_mk) h (by omega) (by omega) ⟨Ef.refl, fun i st q => by cases q⟩
  · rw [Int.add_zero] at key
    exact key
  · rintro i ⟨v8, v9, v10⟩ h1 i0 i1 ⟨e1, L1⟩ ih
    dsimp only
    obtain ⟨c1, c2⟩ := fr e1
    have dl := (erD_l (x := x) (y := y) (r := r) R i.toNat).1
    rw [k236_3]
    simp +decide (maxSteps := 4000000) (disch := omega) only [k236_0, k236_1, k236_2, k236_5, k236_6, k236_7, k236_8, k236_9, k236_10, k236_13, k236_14, k236_r, k236_s, F_il1, J_ifeq, F_il2, F_il3, F_il4, T_I, J_ifne, T_ft, T_ret, F_is5i, F_is5r, F_is5m, F_is6i, F_is6r, F_is6m, T_mul, F_is7i, F_is7r, F_is7m, F_il7, F_al0, T_getR, X_iald, T_add, T_icge, F_is8i, F_is8r, F_is8m, F_is9i, F_is9r, F_is9m, F_il9, T_sub, F_inc6i, F_inc6r, F_inc6m, T_goto, F_il8, F_il5, T_iast, F_inc5i, F_inc5r, F_inc5m, F_is10i, F_is10r, F_is10m, F_il10, T_dup2, F_inc9i, F_inc9r, F_inc9m, F_inc7i, F_inc7r, F_inc7m, T_icle, T_putI, T_putZ, T_getI, F_inc8i, F_inc8r, F_inc8m, F_il6, c218, c219, c227, c237, c238, ↓s218, ↓s219, ↓s237, FM F, c1, ln_708, show ¬ 8 * d + D.1 ≤ 8 * d + i by omega, TK, lt_run hn, le43, Int.le_refl, Int.lt_irrefl, Option.some.injEq, exists_eq_left', true_and, and_true, if_true, if_false, decide_eq_false_iff_not, decide_eq_true_eq, Nat.reduceAdd, Nat.reduceLeDiff, Nat.reduceLT, Int.reduceAdd, Int.reduceSub, Int.reduceMul, Int.reduceNeg, not_true_eq_false, not_false_eq_true]
    refine z236 F hn (R.2 i) (by omega) hx hy hr' (by omega) (c2 i i0 i1) L1 _ (fun h2 v8 v10 L2 e2 => ?_)
    simp +decide (maxSteps := 4000000) (disch := omega) only [k236_0, k236_1, k236_2, k236_5, k236_6, k236_7, k236_8, k236_9, k236_10, k236_13, k236_14, k236_r, k236_s, F_il1, J_ifeq, F_il2, F_il3, F_il4, T_I, J_ifne, T_ft, T_ret, F_is5i, F_is5r, F_is5m, F_is6i, F_is6r, F_is6m, T_mul, F_is7i, F_is7r, F_is7m, F_il7, F_al0, T_getR, X_iald, T_add, T_icge, F_is8i, F_is8r, F_is8m, F_is9i, F_is9r, F_is9m, F_il9, T_sub, F_inc6i, F_inc6r, F_inc6m, T_goto, F_il8, F_il5, T_iast, F_inc5i, F_inc5r, F_inc5m, F_is10i, F_is10r, F_is10m, F_il10, T_dup2, F_inc9i, F_inc9r, F_inc9m, F_inc7i, F_inc7r, F_inc7m, T_icle, T_putI, T_putZ, T_getI, F_inc8i, F_inc8r, F_inc8m, F_il6, c218, c219, c227, c237, c238, ↓s218, ↓s219, ↓s237, TK, lt_run hn, le43, Int.le_refl, Int.lt_irrefl, Option.some.injEq, exists_eq_left', true_and, and_true, if_true, if_false, decide_eq_false_iff_not, decide_eq_true_eq, Nat.reduceAdd, Nat.reduceLeDiff, Nat.reduceLT, Int.reduceAdd, Int.reduceSub, Int.reduceMul, Int.reduceNeg, not_true_eq_false, not_false_eq_true]
    have ih2 := ih (.int v8, .int (J (10 * (8 * d + i) + ((D.2 i).2.1 - 1))), v10) h2
    rw [erD_s i0, acc_s _ i0, ← Int.add_assoc] at ih2
    exact ih2 ⟨e1.trans e2, L2⟩
  · rintro ⟨v8, v9, v10⟩ h1 ⟨e1, L1⟩
    dsimp only
    obtain ⟨c1, c2⟩ := fr e1
    rw [k236_3]
    simp +decide (maxSteps := 4000000) (disch := omega) only [k236_0, k236_1, k236_2, k236_5, k236_6, k236_7, k236_8, k236_10, k236_13, k236_14, k236_r, k236_s, F_il1, J_ifeq, F_il2, F_il3, F_il4, T_I, J_ifne, T_ft, T_ret, F_is5i, F_is5r, F_is5m, F_is6i, F_is6r, F_is6m, T_mul, F_is7i, F_is7r, F_is7m, F_il7, F_al0, T_getR, X_iald, T_add, T_icge, F_is8i, F_is8r, F_is8m, F_is9i, F_is9r, F_is9m, F_il9, T_sub, F_inc6i, F_inc6r, F_inc6m, T_goto, F_il8, F_il5, T_iast, F_inc5i, F_inc5r, F_inc5m, F_is10i, F_is10r, F_is10m, F_il10, T_dup2, F_inc9i, F_inc9r, F_inc9m, F_inc7i, F_inc7r, F_inc7m, T_icle, T_putI, T_putZ, T_getI, F_inc8i, F_inc8r, F_inc8m, F_il6, c218, c219, c227, c237, c238, ↓s218, ↓s219, ↓s237, FM F, c1, ln_708, TK, lt_run hn, le43, Int.le_refl, Int.lt_irrefl, Option.some.injEq, exists_eq_left', true_and, and_true, if_true, if_false, decide_eq_false_iff_not, decide_eq_true_eq, Nat.reduceAdd, Nat.reduceLeDiff, Nat.reduceLT, Int.reduceAdd, Int.reduceSub, Int.reduceMul, Int.reduceNeg, not_true_eq_false, not_false_eq_true]
    exact k h1 _ _ _ _ L1 e1
/-- what laying the parts changes -/
def Sy (d a k : Nat) : Prop := Sn a k ∨ (a = 709 ∧ 8 * d ≤ k ∧ k < 8 * d + 8) ∨ (a = 710 ∧ 8 * d ≤ k ∧ k < 8 * d + 8) ∨ (a = 711 ∧ 80 * d ≤ k ∧ k < 80 * d + 80) ∨ (a = 712 ∧ 80 * d ≤ k ∧ k < 80 * d + 80)
theorem z236c (F : FH hr) (hn : 775 ≤ n) {d g1 : Int} (hd : 0 ≤ d ∧ d < 16) (h8 : l.length ≤ 8) (L : LMl h l) (v9 v10 : Value) (v8 : Value) (hR : ∀ st ∈ l, SR st)
    (k : ∀ h', (∀ i : Int, 0 ≤ i → i < l.length → SM h' (8 * d + i) ((lsD l).2 i)) → Ef (Sy d.toNat) h h' → Q (some (.int (J g1)), h', hr, n)) :
    Tm E 236 (a_bl 236 11) [.ref 704, .int (J d), .int (J x), .int (J y), .int (J r), .int (J l.length), .int (J g1), .int (J 0), v8, v9, v10] [] h hr n Q := by
  have fr : ∀ {h'}, Ef (Sy d.toNat) h h' → LMl h' l := fun e => L.ef e (fun a k _ _ q => by unfold Sy Sn at q; omega)
  refine T_for (σ := Value) (fun i v => [.ref 704, .int (J d), .int (J x), .int (J y), .int (J r), .int (J l.length), .int (J g1), .int (J i), v, v9, v10]) (fun i v h' => Ef (Sy d.toNat) h h' ∧ ∀ q, 0 ≤ q → q < i → SM h' (8 * d + q) ((lsD l).2 q)) 0 l.length ?_ ?_ 0 v8 h (by omega) (by omega) ⟨Ef.refl, fun q _ _ => by omega⟩
  · rintro i v h1 i0 i1 ⟨e1, C1⟩ ih
    have li := lsD_g i0 i1
    have ri : SR ((lsD l).2 i) := hR _ (List.mem_of_getElem? li)
    have r2 := ri.2.1
    obtain ⟨⟨a0, a1, a2⟩, a3⟩ := fr e1 i.toNat _ li
    rw [Int.toNat_of_nonneg i0] at a1 a2 a3
    rw [k236_11]
    simp +decide (maxSteps := 4000000) (disch := omega) only [k236_0, k236_1, k236_2, k236_5, k236_6, k236_7, k236_8, k236_9, k236_10, k236_13, k236_14, k236_r, k236_s, F_il1, J_ifeq, F_il2, F_il3, F_il4, T_I, J_ifne, T_ft, T_ret, F_is5i, F_is5r, F_is5m, F_is6i, F_is6r, F_is6m, T_mul, F_is7i, F_is7r, F_is7m, F_il7, F_al0, T_getR, X_iald, T_add, T_icge, F_is8i, F_is8r, F_is8m, F_is9i, F_is9r, F_is9m, F_il9, T_sub, F_inc6i, F_inc6r, F_inc6m, T_goto, F_il8, F_il5, T_iast, F_inc5i, F_inc5r, F_inc5m, F_is10i, F_is10r, F_is10m, F_il10, T_dup2, F_inc9i, F_inc9r, F_inc9m, F_inc7i, F_inc7r, F_inc7m, T_icle, T_putI, T_putZ, T_getI, F_inc8i, F_inc8r, F_inc8m, F_il6, c218, c219, c227, c237, c238, ↓s218, ↓s219, ↓s237, FM F, ln_716, a2, show ¬ (l.length : Int) ≤ i by omega, TK, lt_run hn, le43, Int.le_refl, Int.lt_irrefl, Option.some.injEq, exists_eq_left', true_and, and_true, if_true, if_false, decide_eq_false_iff_not, decide_eq_true_eq, Nat.reduceAdd, Nat.reduceLeDiff, Nat.reduceLT, Int.reduceAdd, Int.reduceSub, Int.reduceMul, Int.reduceNeg, not_true_eq_false, not_false_eq_true]
    refine T_for (σ := Unit) (fun j _ => [.ref 704, .int (J d), .int (J x), .int (J y), .int (J r), .int (J l.length), .int (J g1), .int (J i), .int (J j), v9, v10]) (fun j _ h' => Ef Sn h1 h' ∧ h' 704 15 = J ((lsD l).2 i).2.1 ∧ ∀ q, 0 ≤ q → q < j → gA h' 713 q = J (((lsD l).2 i).2.2.1 q) ∧ gA h' 714 q = J (((lsD l).2 i).2.2.2 q)) 0 ((lsD l).2 i).2.1 ?_ ?_ 0 () _ (by omega) (by omega) ⟨Ef.refl.hI (Or.inl ⟨rfl, rfl⟩), hI_s, fun q _ _ => by omega⟩
    · rintro j _ h2 j0 j1 ⟨e2, m2, c2⟩ ih2
      have b3 := a3 j j0 j1
      have b4 : gA h2 717 (10 * i + j) = J (((lsD l).2 i).2.2.1 j) := by rw [e2.g (fun q => by unfold Sn at q; omega)]; exact b3.1
      have b5 : ∀ v, gA (sA h2 713 j v) 718 (10 * i + j) = J (((lsD l).2 i).2.2.2 j) := fun v => by rw [gs_o (by decide), e2.g (fun q => by unfold Sn at q; omega)]; exact b3.2
      rw [k236_12]
      simp +decide (maxSteps := 4000000) (disch := omega) only [k236_0, k236_1, k236_2, k236_5, k236_6, k236_7, k236_8, k236_9, k236_10, k236_13, k236_14, k236_r, k236_s, F_il1, J_ifeq, F_il2, F_il3, F_il4, T_I, J_ifne, T_ft, T_ret, F_is5i, F_is5r, F_is5m, F_is6i, F_is6r, F_is6m, T_mul, F_is7i, F_is7r, F_is7m, F_il7, F_al0, T_getR, X_iald, T_add, T_icge, F_is8i, F_is8r, F_is8m, F_is9i, F_is9r, F_is9m, F_il9, T_sub, F_inc6i, F_inc6r, F_inc6m, T_goto, F_il8, F_il5, T_iast, F_inc5i, F_inc5r, F_inc5m, F_is10i, F_is10r, F_is10m, F_il10, T_dup2, F_inc9i, F_inc9r, F_inc9m, F_inc7i, F_inc7r, F_inc7m, T_icle, T_putI, T_putZ, T_getI, F_inc8i, F_inc8r, F_inc8m, F_il6, c218, c219, c227, c237, c238, ↓s218, ↓s219, ↓s237, FM F, ln_713, ln_714, ln_717, ln_718, m2, b4, b5, show ¬ ((lsD l).2 i).2.1 ≤ j by omega, TK, lt_run hn, le43, Int.le_refl, Int.lt_irrefl, Option.some.injEq, exists_eq_left', true_and, and_true, if_true, if_false, decide_eq_false_iff_not, decide_eq_true_eq, Nat.reduceAdd, Nat.reduceLeDiff, Nat.reduceLT, Int.reduceAdd, Int.reduceSub, Int.reduceMul, Int.reduceNeg, not_true_eq_false, not_false_eq_true]
      refine ih2 () _ ⟨(e2.sA (Or.inr (Or.inl rfl))).sA (Or.inr (Or.inr rfl)), ?_, fun q q0 q1 => ?_⟩
      · rw [sA_o (by decide), sA_o (by decide)]
        exact m2
      · rw [gs_o (by decide)]
        by_cases g : q = j
        · rw [g, gs_s, gs_s]
          exact ⟨rfl, rfl⟩
        · rw [gs_k j0 q0 g, gs_k j0 q0 g, gs_o (by decide)]
          exact c2 q q0 (by omega)
    · rintro _ h2 ⟨e2, m2, c2⟩
      have b1 : gA h2 715 i = J ((lsD l).2 i).1 := by rw [e2.g (fun q => by unfold Sn at q; omega)]; exact a1
      rw [k236_12]
      simp +decide (maxSteps := 4000000) (disch := omega) only [k236_0, k236_1, k236_2, k236_5, k236_6, k236_7, k236_8, k236_9, k236_10, k236_13, k236_14, k236_r, k236_s, F_il1, J_ifeq, F_il2, F_il3, F_il4, T_I, J_ifne, T_ft, T_ret, F_is5i, F_is5r, F_is5m, F_is6i, F_is6r, F_is6m, T_mul, F_is7i, F_is7r, F_is7m, F_il7, F_al0, T_getR, X_iald, T_add, T_icge, F_is8i, F_is8r, F_is8m, F_is9i, F_is9r, F_is9m, F_il9, T_sub, F_inc6i, F_inc6r, F_inc6m, T_goto, F_il8, F_il5, T_iast, F_inc5i, F_inc5r, F_inc5m, F_is10i, F_is10r, F_is10m, F_il10, T_dup2, F_inc9i, F_inc9r, F_inc9m, F_inc7i, F_inc7r, F_inc7m, T_icle, T_putI, T_putZ, T_getI, F_inc8i, F_inc8r, F_inc8m, F_il6, c218, c219, c227, c237, c238, ↓s218, ↓s219, ↓s237, FM F, m2, b1, ln_715, TK, lt_run hn, le43, Int.le_refl, Int.lt_irrefl, Option.some.injEq, exists_eq_left', true_and, and_true, if_true, if_false, decide_eq_false_iff_not, decide_eq_true_eq, Nat.reduceAdd, Nat.reduceLeDiff, Nat.reduceLT, Int.reduceAdd, Int.reduceSub, Int.reduceMul, Int.reduceNeg, not_true_eq_false, not_false_eq_true]
      refine w227 F hn hd (by omega) (by omega) ⟨m2, c2⟩ (fun h3 C3 e3 => ?_)
      simp +decide (maxSteps := 4000000) (disch := omega) only [k236_0, k236_1, k236_2, k236_5, k236_6, k236_7, k236_8, k236_9, k236_10, k236_13, k236_14, k236_r, k236_s, F_il1, J_ifeq, F_il2, F_il3, F_il4, T_I, J_ifne, T_ft, T_ret, F_is5i, F_is5r, F_is5m, F_is6i, F_is6r, F_is6m, T_mul, F_is7i, F_is7r, F_is7m, F_il7, F_al0, T_getR, X_iald, T_add, T_icge, F_is8i, F_is8r, F_is8m, F_is9i, F_is9r, F_is9m, F_il9, T_sub, F_inc6i, F_inc6r, F_inc6m, T_goto, F_il8, F_il5, T_iast, F_inc5i, F_inc5r, F_inc5m, F_is10i, F_is10r, F_is10m, F_il10, T_dup2, F_inc9i, F_inc9r, F_inc9m, F_inc7i, F_inc7r, F_inc7m, T_icle, T_putI, T_putZ, T_getI, F_inc8i, F_inc8r, F_inc8m, F_il6, c218, c219, c227, c237, c238, ↓s218, ↓s219, ↓s237, TK, lt_run hn, le43, Int.le_refl, Int.lt_irrefl, Option.some.injEq, exists_eq_left', true_and, and_true, if_true, if_false, decide_eq_false_iff_not, decide_eq_true_eq, Nat.reduceAdd, Nat.reduceLeDiff, Nat.reduceLT, Int.reduceAdd, Int.reduceSub, Int.reduceMul, Int.reduceNeg, not_true_eq_false, not_false_eq_true]
      refine ih _ h3 ⟨e1.trans (Ef.trans (e2.mono fun a k q => Or.inl q) (e3.mono fun a k q => ?_)), fun q q0 q1 => ?_⟩
      · unfold Sk at q
        unfold Sy
        omega
      · by_cases g : q = i
        · rw [g]
          exact C3
        · have c4 := C1 q q0 (by omega)
          have lq := lsD_g q0 (show q < (l.length : Int) by omega)
          have rq : SR ((lsD l).2 q) := hR _ (List.mem_of_getElem? lq)
          refine (c4.ef (by omega) rq.2.1.2 e2 (fun q => by unfold Sn at q; omega) (fun q => by unfold Sn at q; omega) (fun i _ _ => ⟨fun q => by unfold Sn at q; omega, fun q => by unfold Sn at q; omega⟩)).ef (by omega) rq.2.1.2 e3 (fun q => ?_) (fun q => ?_) (fun i _ _ => ⟨fun q => ?_, fun q => ?_⟩)
          all_goals
            unfold Sk at q
            omega
  · rintro v h1 ⟨e1, C1⟩
    rw [k236_11]
    simp +decide (maxSteps := 4000000) (disch := omega) only [k236_0, k236_1, k236_2, k236_5, k236_6, k236_7, k236_8, k236_9, k236_10, k236_13, k236_14, k236_r, k236_s, F_il1, J_ifeq, F_il2, F_il3, F_il4, T_I, J_ifne, T_ft, T_ret, F_is5i, F_is5r, F_is5m, F_is6i, F_is6r, F_is6m, T_mul, F_is7i, F_is7r, F_is7m, F_il7, F_al0, T_getR, X_iald, T_add, T_icge, F_is8i, F_is8r, F_is8m, F_is9i, F_is9r, F_is9m, F_il9, T_sub, F_inc6i, F_inc6r, F_inc6m, T_goto, F_il8, F_il5, T_iast, F_inc5i, F_inc5r, F_inc5m, F_is10i, F_is10r, F_is10m, F_il10, T_dup2, F_inc9i, F_inc9r, F_inc9m, F_inc7i, F_inc7r, F_inc7m, T_icle, T_putI, T_putZ, T_getI, F_inc8i, F_inc8r, F_inc8m, F_il6, c218, c219, c227, c237, c238, ↓s218, ↓s219, ↓s237, TK, lt_run hn, le43, Int.le_refl, Int.lt_irrefl, Option.some.injEq, exists_eq_left', true_and, and_true, if_true, if_false, decide_eq_false_iff_not, decide_eq_true_eq, Nat.reduceAdd, Nat.reduceLeDiff, Nat.reduceLT, Int.reduceAdd, Int.reduceSub, Int.reduceMul, Int.reduceNeg, not_true_eq_false, not_false_eq_true]
    exact k h1 C1 e1
theorem Perase (F : FH hr) (hn : 775 ≤ n) (C : Cp3 h hr) (x y z w : Int32) : Pr2 E 144 236 [.int x, .int y, .int z, .int w] h hr n (Po (fun h' => Cp3 h' hr) 3 3 h hr n) := by
  have C0 := C
  obtain ⟨D, ρ, C⟩ := C
  obtain ⟨a, ha, ha', rfl⟩ := J_of x
  obtain ⟨u, hu, hu', rfl⟩ := J_of y
  obtain ⟨v, hv, hv', rfl⟩ := J_of z
  obtain ⟨e, he, he', rfl⟩ := J_of w
  unfold Pr2
  by_cases g : 0 ≤ a ∧ a ≤ 15
  case neg =>
    simp +decide (maxSteps := 4000000) (disch := omega) only [k144_0, k144_1, k144_2, k144_3, k144_r, k144_s, F_il1, J_ifeq, F_il2, F_il3, F_il4, T_I, J_ifne, T_ft, T_ret, F_al0, T_getR, X_aald, F_is5i, F_is5r, F_is5m, F_il5, J_iflt, c42, c43, c137, c138, c145, ↓s137, ↓s138, ↓s145, FX F, g, TK, lt_run hn, le43, Int.le_refl, Int.lt_irrefl, Option.some.injEq, exists_eq_left', true_and, and_true, if_true, if_false, decide_eq_false_iff_not, decide_eq_true_eq, Nat.reduceAdd, Nat.reduceLeDiff, Nat.reduceLT, Int.reduceAdd, Int.reduceSub, Int.reduceMul, Int.reduceNeg, not_true_eq_false, not_false_eq_true]
    refine ⟨_, rfl, ?_⟩
    simp +decide (maxSteps := 4000000) (disch := omega) only [k236_0, k236_1, k236_2, k236_5, k236_6, k236_7, k236_8, k236_9, k236_10, k236_13, k236_14, k236_r, k236_s, F_il1, J_ifeq, F_il2, F_il3, F_il4, T_I, J_ifne, T_ft, T_ret, F_is5i, F_is5r, F_is5m, F_is6i, F_is6r, F_is6m, T_mul, F_is7i, F_is7r, F_is7m, F_il7, F_al0, T_getR, X_iald, T_add, T_icge, F_is8i, F_is8r, F_is8m, F_is9i, F_is9r, F_is9m, F_il9, T_sub, F_inc6i, F_inc6r, F_inc6m, T_goto, F_il8, F_il5, T_iast, F_inc5i, F_inc5r, F_inc5m, F_is10i, F_is10r, F_is10m, F_il10, T_dup2, F_inc9i, F_inc9r, F_inc9m, F_inc7i, F_inc7r, F_inc7m, T_icle, T_putI, T_putZ, T_getI, F_inc8i, F_inc8r, F_inc8m, F_il6, c218, c219, c227, c237, c238, ↓s218, ↓s219, ↓s237, FM F, g, TK, lt_run hn, le43, Int.le_refl, Int.lt_irrefl, Option.some.injEq, exists_eq_left', true_and, and_true, if_true, if_false, decide_eq_false_iff_not, decide_eq_true_eq, Nat.reduceAdd, Nat.reduceLeDiff, Nat.reduceLT, Int.reduceAdd, Int.reduceSub, Int.reduceMul, Int.reduceNeg, not_true_eq_false, not_false_eq_true]
    first | exact ⟨rfl, ⟨C0, Kp.refl⟩, rfl, rfl⟩ | exact ⟨⟨C0, Kp.refl⟩, rfl, rfl⟩ | exact ⟨C0, Kp.refl⟩
  by_cases g2 : (0 ≤ u ∧ u ≤ 47) ∧ 0 ≤ v ∧ v ≤ 31
  case neg =>
    simp +decide (maxSteps := 4000000) (disch := omega) only [k144_0, k144_1, k144_2, k144_3, k144_r, k144_s, F_il1, J_ifeq, F_il2, F_il3, F_il4, T_I, J_ifne, T_ft, T_ret, F_al0, T_getR, X_aald, F_is5i, F_is5r, F_is5m, F_il5, J_iflt, c42, c43, c137, c138, c145, ↓s137, ↓s138, ↓s145, FX F, g, g2, TK, lt_run hn, le43, Int.le_refl, Int.lt_irrefl, Option.some.injEq, exists_eq_left', true_and, and_true, if_true, if_false, decide_eq_false_iff_not, decide_eq_true_eq, Nat.reduceAdd, Nat.reduceLeDiff, Nat.reduceLT, Int.reduceAdd, Int.reduceSub, Int.reduceMul, Int.reduceNeg, not_true_eq_false, not_false_eq_true]
    refine ⟨_, rfl, ?_⟩
    simp +decide (maxSteps := 4000000) (disch := omega) only [k236_0, k236_1, k236_2, k236_5, k236_6, k236_7, k236_8, k236_9, k236_10, k236_13, k236_14, k236_r, k236_s, F_il1, J_ifeq, F_il2, F_il3, F_il4, T_I, J_ifne, T_ft, T_ret, F_is5i, F_is5r, F_is5m, F_is6i, F_is6r, F_is6m, T_mul, F_is7i, F_is7r, F_is7m, F_il7, F_al0, T_getR, X_iald, T_add, T_icge, F_is8i, F_is8r, F_is8m, F_is9i, F_is9r, F_is9m, F_il9, T_sub, F_inc6i, F_inc6r, F_inc6m, T_goto, F_il8, F_il5, T_iast, F_inc5i, F_inc5r, F_inc5m, F_is10i, F_is10r, F_is10m, F_il10, T_dup2, F_inc9i, F_inc9r, F_inc9m, F_inc7i, F_inc7r, F_inc7m, T_icle, T_putI, T_putZ, T_getI, F_inc8i, F_inc8r, F_inc8m, F_il6, c218, c219, c227, c237, c238, ↓s218, ↓s219, ↓s237, FM F, g, g2, TK, lt_run hn, le43, Int.le_refl, Int.lt_irrefl, Option.some.injEq, exists_eq_left', true_and, and_true, if_true, if_false, decide_eq_false_iff_not, decide_eq_true_eq, Nat.reduceAdd, Nat.reduceLeDiff, Nat.reduceLT, Int.reduceAdd, Int.reduceSub, Int.reduceMul, Int.reduceNeg, not_true_eq_false, not_false_eq_true]
    first | exact ⟨rfl, ⟨C0, Kp.refl⟩, rfl, rfl⟩ | exact ⟨⟨C0, Kp.refl⟩, rfl, rfl⟩ | exact ⟨C0, Kp.refl⟩
  by_cases g3 : 0 ≤ e ∧ e ≤ 10
  case neg =>
    simp +decide (maxSteps := 4000000) (disch := omega) only [k144_0, k144_1, k144_2, k144_3, k144_r, k144_s, F_il1, J_ifeq, F_il2, F_il3, F_il4, T_I, J_ifne, T_ft, T_ret, F_al0, T_getR, X_aald, F_is5i, F_is5r, F_is5m, F_il5, J_iflt, c42, c43, c137, c138, c145, ↓s137, ↓s138, ↓s145, FX F, g, g2, g3, TK, lt_run hn, le43, Int.le_refl, Int.lt_irrefl, Option.some.injEq, exists_eq_left', true_and, and_true, if_true, if_false, decide_eq_false_iff_not, decide_eq_true_eq, Nat.reduceAdd, Nat.reduceLeDiff, Nat.reduceLT, Int.reduceAdd, Int.reduceSub, Int.reduceMul, Int.reduceNeg, not_true_eq_false, not_false_eq_true]
    refine ⟨_, rfl, ?_⟩
    simp +decide (maxSteps := 4000000) (disch := omega) only [k236_0, k236_1, k236_2, k236_5, k236_6, k236_7, k236_8, k236_9, k236_10, k236_13, k236_14, k236_r, k236_s, F_il1, J_ifeq, F_il2, F_il3, F_il4, T_I, J_ifne, T_ft, T_ret, F_is5i, F_is5r, F_is5m, F_is6i, F_is6r, F_is6m, T_mul, F_is7i, F_is7r, F_is7m, F_il7, F_al0, T_getR, X_iald, T_add, T_icge, F_is8i, F_is8r, F_is8m, F_is9i, F_is9r, F_is9m, F_il9, T_sub, F_inc6i, F_inc6r, F_inc6m, T_goto, F_il8, F_il5, T_iast, F_inc5i, F_inc5r, F_inc5m, F_is10i, F_is10r, F_is10m, F_il10, T_dup2, F_inc9i, F_inc9r, F_inc9m, F_inc7i, F_inc7r, F_inc7m, T_icle, T_putI, T_putZ, T_getI, F_inc8i, F_inc8r, F_inc8m, F_il6, c218, c219, c227, c237, c238, ↓s218, ↓s219, ↓s237, FM F, g, g2, g3, TK, lt_run hn, le43, Int.le_refl, Int.lt_irrefl, Option.some.injEq, exists_eq_left', true_and, and_true, if_true, if_false, decide_eq_false_iff_not, decide_eq_true_eq, Nat.reduceAdd, Nat.reduceLeDiff, Nat.reduceLT, Int.reduceAdd, Int.reduceSub, Int.reduceMul, Int.reduceNeg, not_true_eq_false, not_false_eq_true]
    first | exact ⟨rfl, ⟨C0, Kp.refl⟩, rfl, rfl⟩ | exact ⟨⟨C0, Kp.refl⟩, rfl, rfl⟩ | exact ⟨C0, Kp.refl⟩
  obtain ⟨P, c, m⟩ := C.2 a g.1 (by omega)
  have r := C.1 a
  have r1 := r.1
  have x1 := X48 F g.1 (show a < 16 by omega)
  have B := DB_d g.1 (show a < 16 by omega)
  have x2 := B.x E F
  have dl := erD_l (x := u) (y := v) (r := e) r (D a).1.toNat
  simp +decide (maxSteps := 4000000) (disch := omega) only [k144_0, k144_1, k144_2, k144_3, k144_r, k144_s, F_il1, J_ifeq, F_il2, F_il3, F_il4, T_I, J_ifne, T_ft, T_ret, F_al0, T_getR, X_aald, F_is5i, F_is5r, F_is5m, F_il5, J_iflt, c42, c43, c137, c138, c145, ↓s137, ↓s138, ↓s145, FX F, g, g2, g3, x1, x2, kd_48, ln_48, kd_49, TK, lt_run hn, le43, Int.le_refl, Int.lt_irrefl, Option.some.injEq, exists_eq_left', true_and, and_true, if_true, if_false, decide_eq_false_iff_not, decide_eq_true_eq, Nat.reduceAdd, Nat.reduceLeDiff, Nat.reduceLT, Int.reduceAdd, Int.reduceSub, Int.reduceMul, Int.reduceNeg, not_true_eq_false, not_false_eq_true]
  refine w42 F hn B (by omega) P r g2.1 g2.2 g3 c (fun h1 dk e1 => ?_)
  have mf : ∀ {h'}, Ef (fun x k => Sdk x k ∨ Sb (159 + 29 * a.toNat) x k) h h' → DM h' a (D a) := fun ee => by
    refine ⟨?_, fun i i0 i1 => ?_⟩
    · rw [ee.g (fun q => by unfold Sdk Sb at q; omega)]
      exact m.1
    · exact (m.2 i i0 i1).ef (by omega) (r.2 i).2.1.2 ee (fun q => by unfold Sdk Sb at q; omega) (fun q => by unfold Sdk Sb at q; omega) (fun i _ _ => ⟨fun q => by unfold Sdk Sb at q; omega, fun q => by unfold Sdk Sb at q; omega⟩)
  have sl : ∀ {x k : Nat}, Sl x k → sys x k = 0 := fun {x k} q => by
    unfold Sl at q
    rcases (show x = 715 ∨ x = 716 ∨ x = 717 ∨ x = 718 ∨ (x = 704 ∧ k = 16) ∨ (x = 704 ∧ k = 17) by omega) with rfl | rfl | rfl | rfl | ⟨rfl, rfl⟩ | ⟨rfl, rfl⟩ <;> rfl
  have sn : ∀ {x k : Nat}, Sn x k → sys x k = 0 := fun {x k} q => by
    unfold Sn at q
    rcases q with ⟨rfl, rfl⟩ | rfl | rfl <;> rfl
  have sd : ∀ {x k : Nat}, Sdk x k → sys x k = 0 := fun {x k} q => sys_0 (by unfold Sdk at q; omega) (by unfold Sdk at q; omega)
  have ag : ∀ k, 0 ≤ acc (erG u v e (D a)) k := fun k => by
    have h1 := acc_r (f := erG u v e (D a)) (lo := 0) (hi := 1000000) (fun i => by
      have h2 := acc_r (f := fun q => b01 (ght u v e ((D a).2 i) q)) (lo := 0) (hi := 1) (fun q => by unfold b01; cases ght u v e ((D a).2 i) q <;> decide) (((D a).2 i).2.1 - 1).toNat
      have h3 := (r.2 i).2.1
      unfold erG
      omega) k
    omega
  have ag2 : acc (erG u v e (D a)) (D a).1.toNat ≤ 1000 := by
    have h1 := acc_r (f := erG u v e (D a)) (lo := 0) (hi := 9) (fun i => by
      have h2 := acc_r (f := fun q => b01 (ght u v e ((D a).2 i) q)) (lo := 0) (hi := 1) (fun q => by unfold b01; cases ght u v e ((D a).2 i) q <;> decide) (((D a).2 i).2.1 - 1).toNat
      have h3 := (r.2 i).2.1
      unfold erG
      omega) (D a).1.toNat
    omega
  have ag1 := ag (D a).1.toNat
  by_cases g8 : (erD u v e (D a) (D a).1.toNat).length ≤ 8
  case neg =>
    rw [if_neg g8]
    simp +decide (maxSteps := 4000000) (disch := omega) only [k144_0, k144_1, k144_2, k144_3, k144_r, k144_s, F_il1, J_ifeq, F_il2, F_il3, F_il4, T_I, J_ifne, T_ft, T_ret, F_al0, T_getR, X_aald, F_is5i, F_is5r, F_is5m, F_il5, J_iflt, c42, c43, c137, c138, c145, ↓s137, ↓s138, ↓s145, TK, lt_run hn, le43, Int.le_refl, Int.lt_irrefl, Option.some.injEq, exists_eq_left', true_and, and_true, if_true, if_false, decide_eq_false_iff_not, decide_eq_true_eq, Nat.reduceAdd, Nat.reduceLeDiff, Nat.reduceLT, Int.reduceAdd, Int.reduceSub, Int.reduceMul, Int.reduceNeg, not_true_eq_false, not_false_eq_true]
    refine ⟨_, rfl, ?_⟩
    simp +decide (maxSteps := 4000000) (disch := omega) only [k236_0, k236_1, k236_2, k236_5, k236_6, k236_7, k236_8, k236_10, k236_13, k236_14, k236_r, k236_s, F_il1, J_ifeq, F_il2, F_il3, F_il4, T_I, J_ifne, T_ft, T_ret, F_is5i, F_is5r, F_is5m, F_is6i, F_is6r, F_is6m, T_mul, F_is7i, F_is7r, F_is7m, F_il7, F_al0, T_getR, X_iald, T_add, T_icge, F_is8i, F_is8r, F_is8m, F_is9i, F_is9r, F_is9m, F_il9, T_sub, F_inc6i, F_inc6r, F_inc6m, T_goto, F_il8, F_il5, T_iast, F_inc5i, F_inc5r, F_inc5m, F_is10i, F_is10r, F_is10m, F_il10, T_dup2, F_inc9i, F_inc9r, F_inc9m, F_inc7i, F_inc7r, F_inc7m, T_icle, T_putI, T_putZ, T_getI, F_inc8i, F_inc8r, F_inc8m, F_il6, c218, c219, c227, c237, c238, ↓s218, ↓s219, ↓s237, FM F, g, g2, g3, TK, lt_run hn, le43, Int.le_refl, Int.lt_irrefl, Option.some.injEq, exists_eq_left', true_and, and_true, if_true, if_false, decide_eq_false_iff_not, decide_eq_true_eq, Nat.reduceAdd, Nat.reduceLeDiff, Nat.reduceLT, Int.reduceAdd, Int.reduceSub, Int.reduceMul, Int.reduceNeg, not_true_eq_false, not_false_eq_true]
    refine z236b F hn r (by omega) g2.1 g2.2 g3 (mf (e1.mono fun x k q => Or.inl q)) (fun h2 v7 v8 v9 v10 L2 e2 => ?_)
    rw [k236_9]
    simp +decide (maxSteps := 4000000) (disch := omega) only [k236_0, k236_1, k236_2, k236_5, k236_6, k236_7, k236_8, k236_9, k236_10, k236_13, k236_14, k236_r, k236_s, F_il1, J_ifeq, F_il2, F_il3, F_il4, T_I, J_ifne, T_ft, T_ret, F_is5i, F_is5r, F_is5m, F_is6i, F_is6r, F_is6m, T_mul, F_is7i, F_is7r, F_is7m, F_il7, F_al0, T_getR, X_iald, T_add, T_icge, F_is8i, F_is8r, F_is8m, F_is9i, F_is9r, F_is9m, F_il9, T_sub, F_inc6i, F_inc6r, F_inc6m, T_goto, F_il8, F_il5, T_iast, F_inc5i, F_inc5r, F_inc5m, F_is10i, F_is10r, F_is10m, F_il10, T_dup2, F_inc9i, F_inc9r, F_inc9m, F_inc7i, F_inc7r, F_inc7m, T_icle, T_putI, T_putZ, T_getI, F_inc8i, F_inc8r, F_inc8m, F_il6, c218, c219, c227, c237, c238, ↓s218, ↓s219, ↓s237, show ¬ ((erD u v e (D a) (D a).1.toNat).length : Int) ≤ 8 by omega, TK, lt_run hn, le43, Int.le_refl, Int.lt_irrefl, Option.some.injEq, exists_eq_left', true_and, and_true, if_true, if_false, decide_eq_false_iff_not, decide_eq_true_eq, Nat.reduceAdd, Nat.reduceLeDiff, Nat.reduceLT, Int.reduceAdd, Int.reduceSub, Int.reduceMul, Int.reduceNeg, not_true_eq_false, not_false_eq_true]
    have K : Kp 0 0 h h2 := Ef.trans (e1.mono fun x k q => Or.inl (sd q)) (e2.mono fun x k q => Or.inl (sl q))
    have A : Cp3 h2 hr ∧ Kp 3 3 h h2 := ⟨C0.sm (K.sm (by decide) (by decide) (by decide)), K.mono (by decide) (by decide)⟩
    first | exact ⟨rfl, A, rfl, rfl⟩ | exact ⟨A, rfl, rfl⟩
  rw [if_pos g8]
  simp +decide (maxSteps := 4000000) (disch := omega) only [k144_0, k144_1, k144_2, k144_3, k144_r, k144_s, F_il1, J_ifeq, F_il2, F_il3, F_il4, T_I, J_ifne, T_ft, T_ret, F_al0, T_getR, X_aald, F_is5i, F_is5r, F_is5m, F_il5, J_iflt, c42, c43, c137, c138, c145, ↓s137, ↓s138, ↓s145, FX F, x1, x2, kd_48, ln_48, show ¬ acc (erG u v e (D a)) (D a).1.toNat < 0 by omega, TK, lt_run hn, le43, Int.le_refl, Int.lt_irrefl, Option.some.injEq, exists_eq_left', true_and, and_true, if_true, if_false, decide_eq_false_iff_not, decide_eq_true_eq, Nat.reduceAdd, Nat.reduceLeDiff, Nat.reduceLT, Int.reduceAdd, Int.reduceSub, Int.reduceMul, Int.reduceNeg, not_true_eq_false, not_false_eq_true]
  refine w43 F hn B DB_49 P (PS49 F) (by omega) (lsD_r g8 dl.2) (dsk_D g8 dk) (fun h2 C2 e2 => ?_)
  simp +decide (maxSteps := 4000000) (disch := omega) only [k144_0, k144_1, k144_2, k144_3, k144_r, k144_s, F_il1, J_ifeq, F_il2, F_il3, F_il4, T_I, J_ifne, T_ft, T_ret, F_al0, T_getR, X_aald, F_is5i, F_is5r, F_is5m, F_il5, J_iflt, c42, c43, c137, c138, c145, ↓s137, ↓s138, ↓s145, TK, lt_run hn, le43, Int.le_refl, Int.lt_irrefl, Option.some.injEq, exists_eq_left', true_and, and_true, if_true, if_false, decide_eq_false_iff_not, decide_eq_true_eq, Nat.reduceAdd, Nat.reduceLeDiff, Nat.reduceLT, Int.reduceAdd, Int.reduceSub, Int.reduceMul, Int.reduceNeg, not_true_eq_false, not_false_eq_true]
  refine ⟨_, rfl, ?_⟩
  simp +decide (maxSteps := 4000000) (disch := omega) only [k236_0, k236_1, k236_2, k236_5, k236_6, k236_7, k236_8, k236_10, k236_13, k236_14, k236_r, k236_s, F_il1, J_ifeq, F_il2, F_il3, F_il4, T_I, J_ifne, T_ft, T_ret, F_is5i, F_is5r, F_is5m, F_is6i, F_is6r, F_is6m, T_mul, F_is7i, F_is7r, F_is7m, F_il7, F_al0, T_getR, X_iald, T_add, T_icge, F_is8i, F_is8r, F_is8m, F_is9i, F_is9r, F_is9m, F_il9, T_sub, F_inc6i, F_inc6r, F_inc6m, T_goto, F_il8, F_il5, T_iast, F_inc5i, F_inc5r, F_inc5m, F_is10i, F_is10r, F_is10m, F_il10, T_dup2, F_inc9i, F_inc9r, F_inc9m, F_inc7i, F_inc7r, F_inc7m, T_icle, T_putI, T_putZ, T_getI, F_inc8i, F_inc8r, F_inc8m, F_il6, c218, c219, c227, c237, c238, ↓s218, ↓s219, ↓s237, FM F, g, g2, g3, TK, lt_run hn, le43, Int.le_refl, Int.lt_irrefl, Option.some.injEq, exists_eq_left', true_and, and_true, if_true, if_false, decide_eq_false_iff_not, decide_eq_true_eq, Nat.reduceAdd, Nat.reduceLeDiff, Nat.reduceLT, Int.reduceAdd, Int.reduceSub, Int.reduceMul, Int.reduceNeg, not_true_eq_false, not_false_eq_true]
  have e12 : Ef (fun x k => Sdk x k ∨ Sb (159 + 29 * a.toNat) x k) h h2 := Ef.trans (e1.mono fun x k q => Or.inl q) (e2.mono fun x k q => Or.inr q)
  refine z236b F hn r (by omega) g2.1 g2.2 g3 (mf e12) (fun h3 v7 v8 v9 v10 L3 e3 => ?_)
  rw [k236_9]
  simp +decide (maxSteps := 4000000) (disch := omega) only [k236_0, k236_1, k236_2, k236_5, k236_6, k236_7, k236_8, k236_9, k236_10, k236_13, k236_14, k236_r, k236_s, F_il1, J_ifeq, F_il2, F_il3, F_il4, T_I, J_ifne, T_ft, T_ret, F_is5i, F_is5r, F_is5m, F_is6i, F_is6r, F_is6m, T_mul, F_is7i, F_is7r, F_is7m, F_il7, F_al0, T_getR, X_iald, T_add, T_icge, F_is8i, F_is8r, F_is8m, F_is9i, F_is9r, F_is9m, F_il9, T_sub, F_inc6i, F_inc6r, F_inc6m, T_goto, F_il8, F_il5, T_iast, F_inc5i, F_inc5r, F_inc5m, F_is10i, F_is10r, F_is10m, F_il10, T_dup2, F_inc9i, F_inc9r, F_inc9m, F_inc7i, F_inc7r, F_inc7m, T_icle, T_putI, T_putZ, T_getI, F_inc8i, F_inc8r, F_inc8m, F_il6, c218, c219, c227, c237, c238, ↓s218, ↓s219, ↓s237, FM F, ln_708, show ((erD u v e (D a) (D a).1.toNat).length : Int) ≤ 8 by omega, TK, lt_run hn, le43, Int.le_refl, Int.lt_irrefl, Option.some.injEq, exists_eq_left', true_and, and_true, if_true, if_false, decide_eq_false_iff_not, decide_eq_true_eq, Nat.reduceAdd, Nat.reduceLeDiff, Nat.reduceLT, Int.reduceAdd, Int.reduceSub, Int.reduceMul, Int.reduceNeg, not_true_eq_false, not_false_eq_true]
  refine z236c F hn (by omega) g8 (L3.ef (S := fun x k => x = 708) (Ef.sA Ef.refl rfl) (fun a k _ _ q => by omega)) _ _ _ dl.2 (fun h4 C4 e4 => ?_)
  dsimp only
  have e34 : Ef (fun x k => Sl x k ∨ (x = 708 ∧ k = a.toNat) ∨ Sy a.toNat x k) h2 h4 := Ef.trans (Ef.sA (e3.mono fun x k q => Or.inl q) (Or.inr (Or.inl ⟨rfl, rfl⟩))) (e4.mono fun x k q => Or.inr (Or.inr q))
  refine ⟨rfl, ⟨⟨_, _, C.upd g.1 (by omega) (D' := lsD (erD u v e (D a) (D a).1.toNat)) (ρ' := ρ a) ?_ (fun _ _ _ => rfl) (lsD_r g8 dl.2) P ⟨?_, fun s s1 s2 => ?_⟩ ⟨?_, fun s s1 s2 => ?_⟩⟩, ?_⟩, rfl, rfl⟩
  · refine Ef.trans (e12.mono fun x k q => ?_) (e34.mono fun x k q => ?_)
    · rcases q with q | q
      · right
        have := sd q
        omega
      · left
        unfold Sb at q
        exact Or.inl (by omega)
    · rcases q with q | q | q
      · right
        have := sl q
        omega
      · left
        exact Or.inr (Or.inl q)
      · unfold Sy at q
        rcases q with q | q
        · right
          have := sn q
          omega
        · left
          exact Or.inr (Or.inr q)
  · rw [e34 _ 1 (fun q => by unfold Sl Sy Sn at q; omega)]
    exact C2.1
  · have s2' : s < ((erD u v e (D a) (D a).1.toNat).length : Int) := s2
    have prs := P.r (s := s.toNat) (by omega)
    exact (C2.2 s s1 s2).ef e34 (fun x k q1 q2 q => by unfold Sl Sy Sn at q; omega)
  · rw [e4.g (fun q => by unfold Sy Sn at q; omega), gs_s]
    rfl
  · exact C4 s s1 s2
  · refine Ef.trans (e12.mono fun x k q => ?_) (e34.mono fun x k q => ?_)
    · rcases q with q | q
      · exact Or.inl (sd q)
      · unfold Sb at q
        rcases q with ⟨rfl, rfl⟩ | q
        · exact Or.inr (Or.inl (sysS1 (by omega) (by decide)))
        · exact Or.inr (Or.inl (sysS (d := a.toNat) (by omega) (by omega) (by omega)))
    · rcases q with q | q | q
      · exact Or.inl (sl q)
      · obtain ⟨rfl, rfl⟩ := q
        exact Or.inr (Or.inl rfl)
      · unfold Sy at q
        rcases q with q | q
        · exact Or.inl (sn q)
        · refine Or.inr (Or.inl ?_)
          rcases (show x = 709 ∨ x = 710 ∨ x = 711 ∨ x = 712 by omega) with rfl | rfl | rfl | rfl <;> rfl
end EV
