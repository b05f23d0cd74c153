/-! erase: the class's loops; copies of drawings -/
section ES
variable {E : AEn} {h h' : AHi} {hr : AHr} {n : Nat} {Q : ARs → Prop} {s : Stk} {S : Nat → Nat → Prop} {l : List Stk} {x y r : Int}
/-- whether all fit, as the class keeps it -/
def fits (l : List Stk) : Bool := decide (l.length ≤ 8)
theorem fits_t (l : List Stk) (u : Stk) (h : l.length < 8) : fits (l ++ [u]) = fits l := by
  unfold fits
  rw [List.length_append]
  simp only [List.length_cons, List.length_nil]
  rw [decide_eq_true (show l.length + (0 + 1) ≤ 8 by omega), decide_eq_true (show l.length ≤ 8 by omega)]
theorem fits_f (l : List Stk) (u : Stk) (h : ¬ l.length < 8) : fits (l ++ [u]) = false := by
  unfold fits
  rw [List.length_append]
  simp only [List.length_cons, List.length_nil]
  exact decide_eq_false (by omega)
theorem z42 (F : FH hr) (hn : 775 ≤ n) {a b : Nat} {g0 k0 : Int} (A : SB a) (ha : 159 ≤ a) (R : SR s) (hx : 0 ≤ x ∧ x ≤ 47) (hy : 0 ≤ y ∧ y ≤ 31) (hr' : 0 ≤ r ∧ r ≤ 10) (C : SC h a s) (dk : dsk h l)
    (k : ∀ h' v, dsk h' (l ++ erP s (ght x y r s)) → Ef Sdk h h' → Tm E 42 (a_bl 42 6) [.ref 49, .ref b, .int (J x), .int (J y), .int (J r), .int (J (g0 + acc (fun q => b01 (ght x y r s q)) (s.2.1 - 1).toNat)), .int (Bz (fits (l ++ erP s (ght x y r s)))), .int (J k0), .ref a, .int v, .int (J (s.2.1 - 1))] [] h' hr n Q) :
    Tm E 42 (a_bl 42 2) [.ref 49, .ref b, .int (J x), .int (J y), .int (J r), .int (J g0), .int (Bz (fits l)), .int (J k0), .ref a, .int (J 0), .int (J 0)] [] h hr n Q := by
  have x1 := A.x E F
  have x2 := A.r
  have r2 := R.2.1
  have fr : ∀ {h'}, Ef Sdk h h' → SC h' a s := fun e => C.ef e (fun x k q1 q2 q => by unfold Sdk at q; omega)
  have key := T_for (E := E) (m := 42) (L := 2) (hr := hr) (n := n) (Q := Q) (σ := Unit) (fun q _ => [.ref 49, .ref b, .int (J x), .int (J y), .int (J r), .int (J (g0 + acc (fun q => b01 (ght x y r s q)) q.toNat)), .int (Bz (fits (l ++ (erS s (ght x y r s) q.toNat).1))), .int (J k0), .ref a, .int (J (erS s (ght x y r s) q.toNat).2), .int (J q)]) (fun q _ h' => Ef Sdk h h' ∧ dsk h' (l ++ (erS s (ght x y r s) q.toNat).1)) 0 (s.2.1 - 1) ?_ ?_ 0 () h (by omega) (by omega) ⟨Ef.refl, by show dsk h (l ++ []); rw [List.append_nil]; exact dk⟩
  · have e1 : (0 : Int).toNat = 0 := rfl
    rw [e1, show (erS s (ght x y r s) 0).1 = [] from rfl, show (erS s (ght x y r s) 0).2 = 0 from rfl, List.append_nil, show acc (fun q => b01 (ght x y r s q)) 0 = 0 from rfl, Int.add_zero] at key
    exact key
  · rintro q _ h1 q0 q1 ⟨e1, dk1⟩ ih
    have C1 := fr e1
    have c1 := C1.1.2
    have eb := erS_b (s := s) (H := ght x y r s) q.toNat
    have es := erS_s (s := s) (H := ght x y r s) q0
    have ac := acc_s (fun q => b01 (ght x y r s q)) q0
    rw [k42_2]
    simp +decide (maxSteps := 4000000) (disch := omega) only [k42_0, k42_3, k42_4, k42_5, k42_6, k42_7, k42_8, k42_9, k42_r, k42_s, F_al0, T_I, T_putI, T_putZ, F_is5i, F_is5r, F_is5m, F_is6i, F_is6r, F_is6m, F_is7i, F_is7r, F_is7m, T_ft, F_il7, F_al1, T_getI, T_icge, T_getR, X_aald, F_as8i, F_as8r, F_as8m, F_is9i, F_is9r, F_is9m, F_is10i, F_is10r, F_is10m, F_il10, F_al8, T_sub, F_il2, F_il3, F_il4, J_ifeq, F_il9, J_ifne, T_add, F_inc5i, F_inc5r, F_inc5m, F_inc10i, F_inc10r, F_inc10m, T_goto, F_inc7i, F_inc7r, F_inc7m, F_il6, F_il5, T_ret, c39, c121, x1, c1, show ¬ s.2.1 - 1 ≤ q by omega, TK, lt_run hn, le43, Int.le_refl, Int.lt_irrefl, Option.some.injEq, exists_eq_left', true_and, and_true, if_true, if_false, decide_eq_false_iff_not, decide_eq_true_eq, Nat.reduceAdd, Nat.reduceLeDiff, Nat.reduceLT, Int.reduceAdd, Int.reduceSub, Int.reduceMul, Int.reduceNeg, not_true_eq_false, not_false_eq_true]
    refine w121 F hn A R (by omega) hx hy hr' C1 ?_
    have eg : near (s.2.2.1 q) (s.2.2.2 q) (s.2.2.1 (q + 1)) (s.2.2.2 (q + 1)) x y r = ght x y r s q := rfl
    rw [eg]
    cases hg : ght x y r s q with
    | false =>
      simp +decide (maxSteps := 4000000) (disch := omega) only [k42_0, k42_3, k42_4, k42_5, k42_6, k42_7, k42_8, k42_9, k42_r, k42_s, F_al0, T_I, T_putI, T_putZ, F_is5i, F_is5r, F_is5m, F_is6i, F_is6r, F_is6m, F_is7i, F_is7r, F_is7m, T_ft, F_il7, F_al1, T_getI, T_icge, T_getR, X_aald, F_as8i, F_as8r, F_as8m, F_is9i, F_is9r, F_is9m, F_is10i, F_is10r, F_is10m, F_il10, F_al8, T_sub, F_il2, F_il3, F_il4, J_ifeq, F_il9, J_ifne, T_add, F_inc5i, F_inc5r, F_inc5m, F_inc10i, F_inc10r, F_inc10m, T_goto, F_inc7i, F_inc7r, F_inc7m, F_il6, F_il5, T_ret, c39, c121, Bz_f, TK, lt_run hn, le43, Int.le_refl, Int.lt_irrefl, Option.some.injEq, exists_eq_left', true_and, and_true, if_true, if_false, decide_eq_false_iff_not, decide_eq_true_eq, Nat.reduceAdd, Nat.reduceLeDiff, Nat.reduceLT, Int.reduceAdd, Int.reduceSub, Int.reduceMul, Int.reduceNeg, not_true_eq_false, not_false_eq_true]
      have ih' := ih () h1
      rw [es, hg, ac] at ih'
      have ih2 := ih' ⟨e1, dk1⟩
      rw [show b01 (ght x y r s q) = 0 by rw [hg]; rfl, Int.add_zero] at ih2
      exact ih2
    | true =>
      have hb1 : b01 (ght x y r s q) = 1 := by rw [hg]; rfl
      have ih' : ∀ h2, _ := fun h2 => ih () h2
      rw [es, hg, ac, hb1] at ih'
      by_cases g : (erS s (ght x y r s) q.toNat).2 < q
      · rw [if_pos g] at ih'
        simp +decide (maxSteps := 4000000) (disch := omega) only [k42_0, k42_4, k42_5, k42_6, k42_7, k42_8, k42_9, k42_r, k42_s, F_al0, T_I, T_putI, T_putZ, F_is5i, F_is5r, F_is5m, F_is6i, F_is6r, F_is6m, F_is7i, F_is7r, F_is7m, T_ft, F_il7, F_al1, T_getI, T_icge, T_getR, X_aald, F_as8i, F_as8r, F_as8m, F_is9i, F_is9r, F_is9m, F_is10i, F_is10r, F_is10m, F_il10, F_al8, T_sub, F_il2, F_il3, F_il4, J_ifeq, F_il9, J_ifne, T_add, F_inc5i, F_inc5r, F_inc5m, F_inc10i, F_inc10r, F_inc10m, T_goto, F_inc7i, F_inc7r, F_inc7m, F_il6, F_il5, T_ret, c39, c121, Bz_t, x1, show ¬ q ≤ (erS s (ght x y r s) q.toNat).2 by omega, kd_49, TK, lt_run hn, le43, Int.le_refl, Int.lt_irrefl, Option.some.injEq, exists_eq_left', true_and, and_true, if_true, if_false, decide_eq_false_iff_not, decide_eq_true_eq, Nat.reduceAdd, Nat.reduceLeDiff, Nat.reduceLT, Int.reduceAdd, Int.reduceSub, Int.reduceMul, Int.reduceNeg, not_true_eq_false, not_false_eq_true]
        refine addD F hn A ha C1 r2.2 (by omega) (by omega) (by omega) dk1 (fun h2 dk2 e2 => ?_)
        rw [List.append_assoc] at dk2
        have ih2 := ih' h2 ⟨e1.trans e2, dk2⟩
        by_cases g8 : (l ++ (erS s (ght x y r s) q.toNat).1).length < 8
        · have ff := fits_t _ (prt s (erS s (ght x y r s) q.toNat).2 q) g8
          rw [List.append_assoc] at ff
          rw [decide_eq_true g8]
          simp +decide (maxSteps := 4000000) (disch := omega) only [k42_0, k42_3, k42_4, k42_5, k42_6, k42_7, k42_8, k42_9, k42_r, k42_s, F_al0, T_I, T_putI, T_putZ, F_is5i, F_is5r, F_is5m, F_is6i, F_is6r, F_is6m, F_is7i, F_is7r, F_is7m, T_ft, F_il7, F_al1, T_getI, T_icge, T_getR, X_aald, F_as8i, F_as8r, F_as8m, F_is9i, F_is9r, F_is9m, F_is10i, F_is10r, F_is10m, F_il10, F_al8, T_sub, F_il2, F_il3, F_il4, J_ifeq, F_il9, J_ifne, T_add, F_inc5i, F_inc5r, F_inc5m, F_inc10i, F_inc10r, F_inc10m, T_goto, F_inc7i, F_inc7r, F_inc7m, F_il6, F_il5, T_ret, c39, c121, Bz_t, TK, lt_run hn, le43, Int.le_refl, Int.lt_irrefl, Option.some.injEq, exists_eq_left', true_and, and_true, if_true, if_false, decide_eq_false_iff_not, decide_eq_true_eq, Nat.reduceAdd, Nat.reduceLeDiff, Nat.reduceLT, Int.reduceAdd, Int.reduceSub, Int.reduceMul, Int.reduceNeg, not_true_eq_false, not_false_eq_true]
          dsimp only [cond_true] at ih2
          rw [ff] at ih2
          rw [Int.add_assoc]
          exact ih2
        · have ff := fits_f _ (prt s (erS s (ght x y r s) q.toNat).2 q) g8
          rw [List.append_assoc] at ff
          rw [decide_eq_false g8]
          simp +decide (maxSteps := 4000000) (disch := omega) only [k42_0, k42_3, k42_4, k42_5, k42_6, k42_7, k42_8, k42_9, k42_r, k42_s, F_al0, T_I, T_putI, T_putZ, F_is5i, F_is5r, F_is5m, F_is6i, F_is6r, F_is6m, F_is7i, F_is7r, F_is7m, T_ft, F_il7, F_al1, T_getI, T_icge, T_getR, X_aald, F_as8i, F_as8r, F_as8m, F_is9i, F_is9r, F_is9m, F_is10i, F_is10r, F_is10m, F_il10, F_al8, T_sub, F_il2, F_il3, F_il4, J_ifeq, F_il9, J_ifne, T_add, F_inc5i, F_inc5r, F_inc5m, F_inc10i, F_inc10r, F_inc10m, T_goto, F_inc7i, F_inc7r, F_inc7m, F_il6, F_il5, T_ret, c39, c121, Bz_f, TK, lt_run hn, le43, Int.le_refl, Int.lt_irrefl, Option.some.injEq, exists_eq_left', true_and, and_true, if_true, if_false, decide_eq_false_iff_not, decide_eq_true_eq, Nat.reduceAdd, Nat.reduceLeDiff, Nat.reduceLT, Int.reduceAdd, Int.reduceSub, Int.reduceMul, Int.reduceNeg, not_true_eq_false, not_false_eq_true]
          dsimp only [cond_true] at ih2
          rw [ff] at ih2
          rw [Int.add_assoc]
          exact ih2
      · rw [if_neg g, List.append_nil] at ih'
        simp +decide (maxSteps := 4000000) (disch := omega) only [k42_0, k42_3, k42_4, k42_5, k42_6, k42_7, k42_8, k42_9, k42_r, k42_s, F_al0, T_I, T_putI, T_putZ, F_is5i, F_is5r, F_is5m, F_is6i, F_is6r, F_is6m, F_is7i, F_is7r, F_is7m, T_ft, F_il7, F_al1, T_getI, T_icge, T_getR, X_aald, F_as8i, F_as8r, F_as8m, F_is9i, F_is9r, F_is9m, F_is10i, F_is10r, F_is10m, F_il10, F_al8, T_sub, F_il2, F_il3, F_il4, J_ifeq, F_il9, J_ifne, T_add, F_inc5i, F_inc5r, F_inc5m, F_inc10i, F_inc10r, F_inc10m, T_goto, F_inc7i, F_inc7r, F_inc7m, F_il6, F_il5, T_ret, c39, c121, Bz_t, show q ≤ (erS s (ght x y r s) q.toNat).2 by omega, TK, lt_run hn, le43, Int.le_refl, Int.lt_irrefl, Option.some.injEq, exists_eq_left', true_and, and_true, if_true, if_false, decide_eq_false_iff_not, decide_eq_true_eq, Nat.reduceAdd, Nat.reduceLeDiff, Nat.reduceLT, Int.reduceAdd, Int.reduceSub, Int.reduceMul, Int.reduceNeg, not_true_eq_false, not_false_eq_true]
        rw [Int.add_assoc]
        exact ih' h1 ⟨e1, dk1⟩
  · rintro _ h1 ⟨e1, dk1⟩
    have C1 := fr e1
    have c1 := C1.1.2
    have eb := erS_b (s := s) (H := ght x y r s) (s.2.1 - 1).toNat
    have k' : ∀ h' v, _ := k
    unfold erP at k'
    by_cases g : (erS s (ght x y r s) (s.2.1 - 1).toNat).2 < s.2.1 - 1
    · rw [if_pos g] at k'
      rw [k42_2]
      simp +decide (maxSteps := 4000000) (disch := omega) only [k42_0, k42_3, k42_4, k42_5, k42_7, k42_8, k42_9, k42_r, k42_s, F_al0, T_I, T_putI, T_putZ, F_is5i, F_is5r, F_is5m, F_is6i, F_is6r, F_is6m, F_is7i, F_is7r, F_is7m, T_ft, F_il7, F_al1, T_getI, T_icge, T_getR, X_aald, F_as8i, F_as8r, F_as8m, F_is9i, F_is9r, F_is9m, F_is10i, F_is10r, F_is10m, F_il10, F_al8, T_sub, F_il2, F_il3, F_il4, J_ifeq, F_il9, J_ifne, T_add, F_inc5i, F_inc5r, F_inc5m, F_inc10i, F_inc10r, F_inc10m, T_goto, F_inc7i, F_inc7r, F_inc7m, F_il6, F_il5, T_ret, c39, c121, x1, c1, kd_49, show ¬ s.2.1 - 1 ≤ (erS s (ght x y r s) (s.2.1 - 1).toNat).2 by omega, TK, lt_run hn, le43, Int.le_refl, Int.lt_irrefl, Option.some.injEq, exists_eq_left', true_and, and_true, if_true, if_false, decide_eq_false_iff_not, decide_eq_true_eq, Nat.reduceAdd, Nat.reduceLeDiff, Nat.reduceLT, Int.reduceAdd, Int.reduceSub, Int.reduceMul, Int.reduceNeg, not_true_eq_false, not_false_eq_true]
      refine addD F hn A ha C1 r2.2 (by omega) (by omega) (by omega) dk1 (fun h2 dk2 e2 => ?_)
      rw [List.append_assoc] at dk2
      have k2 := k' h2 (J (erS s (ght x y r s) (s.2.1 - 1).toNat).2) dk2 (e1.trans e2)
      by_cases g8 : (l ++ (erS s (ght x y r s) (s.2.1 - 1).toNat).1).length < 8
      · have ff := fits_t _ (prt s (erS s (ght x y r s) (s.2.1 - 1).toNat).2 (s.2.1 - 1)) g8
        rw [List.append_assoc] at ff
        rw [decide_eq_true g8]
        simp +decide (maxSteps := 4000000) (disch := omega) only [k42_0, k42_3, k42_4, k42_5, k42_7, k42_8, k42_9, k42_r, k42_s, F_al0, T_I, T_putI, T_putZ, F_is5i, F_is5r, F_is5m, F_is6i, F_is6r, F_is6m, F_is7i, F_is7r, F_is7m, T_ft, F_il7, F_al1, T_getI, T_icge, T_getR, X_aald, F_as8i, F_as8r, F_as8m, F_is9i, F_is9r, F_is9m, F_is10i, F_is10r, F_is10m, F_il10, F_al8, T_sub, F_il2, F_il3, F_il4, J_ifeq, F_il9, J_ifne, T_add, F_inc5i, F_inc5r, F_inc5m, F_inc10i, F_inc10r, F_inc10m, T_goto, F_inc7i, F_inc7r, F_inc7m, F_il6, F_il5, T_ret, c39, c121, Bz_t, TK, lt_run hn, le43, Int.le_refl, Int.lt_irrefl, Option.some.injEq, exists_eq_left', true_and, and_true, if_true, if_false, decide_eq_false_iff_not, decide_eq_true_eq, Nat.reduceAdd, Nat.reduceLeDiff, Nat.reduceLT, Int.reduceAdd, Int.reduceSub, Int.reduceMul, Int.reduceNeg, not_true_eq_false, not_false_eq_true]
        rw [ff] at k2
        exact k2
      · have ff := fits_f _ (prt s (erS s (ght x y r s) (s.2.1 - 1).toNat).2 (s.2.1 - 1)) g8
        rw [List.append_assoc] at ff
        rw [decide_eq_false g8]
        simp +decide (maxSteps := 4000000) (disch := omega) only [k42_0, k42_3, k42_4, k42_5, k42_7, k42_8, k42_9, k42_r, k42_s, F_al0, T_I, T_putI, T_putZ, F_is5i, F_is5r, F_is5m, F_is6i, F_is6r, F_is6m, F_is7i, F_is7r, F_is7m, T_ft, F_il7, F_al1, T_getI, T_icge, T_getR, X_aald, F_as8i, F_as8r, F_as8m, F_is9i, F_is9r, F_is9m, F_is10i, F_is10r, F_is10m, F_il10, F_al8, T_sub, F_il2, F_il3, F_il4, J_ifeq, F_il9, J_ifne, T_add, F_inc5i, F_inc5r, F_inc5m, F_inc10i, F_inc10r, F_inc10m, T_goto, F_inc7i, F_inc7r, F_inc7m, F_il6, F_il5, T_ret, c39, c121, Bz_f, TK, lt_run hn, le43, Int.le_refl, Int.lt_irrefl, Option.some.injEq, exists_eq_left', true_and, and_true, if_true, if_false, decide_eq_false_iff_not, decide_eq_true_eq, Nat.reduceAdd, Nat.reduceLeDiff, Nat.reduceLT, Int.reduceAdd, Int.reduceSub, Int.reduceMul, Int.reduceNeg, not_true_eq_false, not_false_eq_true]
        rw [ff] at k2
        exact k2
    · rw [if_neg g, List.append_nil] at k'
      rw [k42_2]
      simp +decide (maxSteps := 4000000) (disch := omega) only [k42_0, k42_3, k42_4, k42_5, k42_7, k42_8, k42_9, k42_r, k42_s, F_al0, T_I, T_putI, T_putZ, F_is5i, F_is5r, F_is5m, F_is6i, F_is6r, F_is6m, F_is7i, F_is7r, F_is7m, T_ft, F_il7, F_al1, T_getI, T_icge, T_getR, X_aald, F_as8i, F_as8r, F_as8m, F_is9i, F_is9r, F_is9m, F_is10i, F_is10r, F_is10m, F_il10, F_al8, T_sub, F_il2, F_il3, F_il4, J_ifeq, F_il9, J_ifne, T_add, F_inc5i, F_inc5r, F_inc5m, F_inc10i, F_inc10r, F_inc10m, T_goto, F_inc7i, F_inc7r, F_inc7m, F_il6, F_il5, T_ret, c39, c121, x1, c1, kd_49, show s.2.1 - 1 ≤ (erS s (ght x y r s) (s.2.1 - 1).toNat).2 by omega, TK, lt_run hn, le43, Int.le_refl, Int.lt_irrefl, Option.some.injEq, exists_eq_left', true_and, and_true, if_true, if_false, decide_eq_false_iff_not, decide_eq_true_eq, Nat.reduceAdd, Nat.reduceLeDiff, Nat.reduceLT, Int.reduceAdd, Int.reduceSub, Int.reduceMul, Int.reduceNeg, not_true_eq_false, not_false_eq_true]
      exact k' h1 _ dk1 e1
end ES
