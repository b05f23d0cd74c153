/-! node: the reference's words -/
def wdK (k : Nat) : Int := ([1885433957, 1818327397, 1870030194, 1936222566, 1835103348, 1717658725, 1651275122, 1936744818] : List Int).getD k 0
def rsK (k : Nat) : Int := ([114, 114, 0, 116, 101, 0, 0, 27507] : List Int).getD k 0
/-- what the reference compares with at a place -/
def chK (k : Nat) (q : Int) : Int32 := if q < 4 then (J (wdK k) >>> (J (24 - 8 * q) &&& 31)) &&& J 255 else if ((nmK k).length : Int) = 5 then J (rsK k) else (J (rsK k) >>> (J (8 * (5 - q)) &&& 31)) &&& J 255
theorem wd_t : ∀ k : Nat, k < 8 → (((nmK k).length = 4 ∧ rsK k = 0) ∨ ((nmK k).length = 5 ∧ 1 ≤ rsK k ∧ rsK k < 128) ∨ ((nmK k).length = 6 ∧ 128 ≤ rsK k ∧ rsK k < 100000)) ∧ ∀ q : Nat, q < (nmK k).length → chK k (q : Int) = J ((nmK k).getD q 0) := by decide +kernel
section WD
variable {E : AEn} {h h' : AHi} {hr : AHr} {n : Nat} {Q : ARs → Prop} {t p f m w e : Int} {b V : Int → Int} {k : Nat}
theorem w317 (F : FH hr) (hn : 775 ≤ n) (hk : k < 8) (T : TpM h t b) (he : 0 ≤ e ∧ e ≤ t) (k1 : isNm b t k 0 e → Q (some (.int (J 1)), MS h e f, hr, n)) (k2 : ¬ isNm b t k 0 e → Q (some (.int (J 0)), MS h e f, hr, n)) : Sp E 317 [.ref 704, .int (J 0), .int (J (wdK k)), .int (J (rsK k))] (MS h e f) hr n Q := by
  have t1 := T.1
  obtain ⟨u1, u2⟩ := wd_t k hk
  have S := (St_n (E := E) hk).2.2.2.2.2.2.2 h
  have three : Tm E 317 (a_bl 317 3) [.ref 704, .int (J 0), .int (J (wdK k)), .int (J (rsK k)), a_mk, a_mk, a_mk, a_mk] [.int (J (nmK k).length)] (MS h e f) hr n Q := by
    rw [k317_3]
    by_cases g : e = (nmK k).length
    case neg =>
      have fin := k2 (fun z => g (by have := z.1; omega))
      simp +decide (maxSteps := 4000000) (disch := omega) only [k317_0, k317_1, k317_2, k317_3, k317_4, k317_6, k317_7, k317_8, k317_9, k317_10, k317_11, k317_r, k317_s, F_il3, J_ifne, T_I, T_goto, T_icge, T_ft, F_is4i, F_is4r, F_is4m, F_al0, T_getI, F_il1, T_sub, F_il4, T_iceq, T_ret, F_is5i, F_is5r, F_is5m, F_is6i, F_is6r, F_is6m, F_il6, F_il2, T_mul, T_shr, T_and, J_icne, F_is7i, F_is7r, F_is7m, F_il5, J_ifeq, T_getR, T_add, X_iald, F_il7, F_inc6i, F_inc6r, F_inc6m, MX, g, Int.sub_zero, ↓reduceIte, TK, lt_run hn, le43, Int.le_refl, Int.lt_irrefl, Option.some.injEq, exists_eq_left', true_and, and_true, if_true, if_false, decide_eq_false_iff_not, decide_eq_true_eq, Nat.reduceAdd, Nat.reduceLeDiff, Nat.reduceLT, Int.reduceAdd, Int.reduceSub, Int.reduceMul, Int.reduceNeg, not_true_eq_false, not_false_eq_true]
      exact fin
    simp +decide (maxSteps := 4000000) (disch := omega) only [k317_0, k317_1, k317_2, k317_3, k317_4, k317_6, k317_7, k317_8, k317_9, k317_10, k317_11, k317_r, k317_s, F_il3, J_ifne, T_I, T_goto, T_icge, T_ft, F_is4i, F_is4r, F_is4m, F_al0, T_getI, F_il1, T_sub, F_il4, T_iceq, T_ret, F_is5i, F_is5r, F_is5m, F_is6i, F_is6r, F_is6m, F_il6, F_il2, T_mul, T_shr, T_and, J_icne, F_is7i, F_is7r, F_is7m, F_il5, J_ifeq, T_getR, T_add, X_iald, F_il7, F_inc6i, F_inc6r, F_inc6m, MX, g, Int.sub_zero, ↓reduceIte, TK, lt_run hn, le43, Int.le_refl, Int.lt_irrefl, Option.some.injEq, exists_eq_left', true_and, and_true, if_true, if_false, decide_eq_false_iff_not, decide_eq_true_eq, Nat.reduceAdd, Nat.reduceLeDiff, Nat.reduceLT, Int.reduceAdd, Int.reduceSub, Int.reduceMul, Int.reduceNeg, not_true_eq_false, not_false_eq_true]
    rw [← g]
    refine T_for (σ := Bool × Value) (fun i s => [.ref 704, .int (J 0), .int (J (wdK k)), .int (J (rsK k)), .int (J e), .int (Bz s.1), .int (J i), s.2]) (fun i s h' => h' = MS h e f ∧ (s.1 = true ↔ ∀ j : Int, 0 ≤ j → j < i → bt b t j = (nmK k).getD j.toNat 0)) 0 e ?_ ?_ 0 (true, a_mk) _ (by omega) (by omega) ⟨rfl, by dsimp only; exact ⟨fun _ j j0 j1 => by omega, fun _ => rfl⟩⟩
    · rintro i ⟨ok, v7⟩ _ i0 i1 ⟨rfl, a1⟩ ih
      dsimp only at a1 ⊢
      have d1 := T.2.2.2 i i0 (by omega)
      have cw := u2 i.toNat (by omega)
      rw [show ((i.toNat : Nat) : Int) = i by omega] at cw
      obtain ⟨_, nb⟩ := S i i0 (by omega)
      have be : bt b t i = b i := if_pos ⟨i0, by omega⟩
      have bb := T.2.1 i
      /- behind the byte that is asked for -/
      have eight : Tm E 317 (a_bl 317 8) [.ref 704, .int (J 0), .int (J (wdK k)), .int (J (rsK k)), .int (J e), .int (Bz ok), .int (J i), v7] [.int (J ((nmK k).getD i.toNat 0))] (MS h e f) hr n Q := by
        rw [k317_8]
        have go : ∀ ok' : Bool, (ok' = true ↔ ok = true ∧ b i = (nmK k).getD i.toNat 0) → Tm E 317 (a_bl 317 5) [.ref 704, .int (J 0), .int (J (wdK k)), .int (J (rsK k)), .int (J e), .int (Bz ok'), .int (J (i + 1)), .int (J ((nmK k).getD i.toNat 0))] [] (MS h e f) hr n Q := fun ok' q => by
          refine ih (ok', .int (J ((nmK k).getD i.toNat 0))) _ ⟨rfl, ?_⟩
          dsimp only
          rw [q, a1]
          constructor
          · rintro ⟨z1, z2⟩ j j0 j1
            rcases (show j < i ∨ j = i by omega) with z | z
            · exact z1 j j0 z
            · rw [z, be]
              exact z2
          · intro z
            refine ⟨fun j j0 j1 => z j j0 (by omega), ?_⟩
            rw [← be]
            exact z i i0 (by omega)
        cases ok with
        | false =>
          have fin := go false (by simp only [false_and, reduceCtorEq])
          simp +decide (maxSteps := 4000000) (disch := omega) only [k317_0, k317_1, k317_2, k317_3, k317_4, k317_6, k317_7, k317_8, k317_9, k317_10, k317_11, k317_r, k317_s, F_il3, J_ifne, T_I, T_goto, T_icge, T_ft, F_is4i, F_is4r, F_is4m, F_al0, T_getI, F_il1, T_sub, F_il4, T_iceq, T_ret, F_is5i, F_is5r, F_is5m, F_is6i, F_is6r, F_is6m, F_il6, F_il2, T_mul, T_shr, T_and, J_icne, F_is7i, F_is7r, F_is7m, F_il5, J_ifeq, T_getR, T_add, X_iald, F_il7, F_inc6i, F_inc6r, F_inc6m, bool_0, bool_1, ↓reduceIte, TK, lt_run hn, le43, Int.le_refl, Int.lt_irrefl, Option.some.injEq, exists_eq_left', true_and, and_true, if_true, if_false, decide_eq_false_iff_not, decide_eq_true_eq, Nat.reduceAdd, Nat.reduceLeDiff, Nat.reduceLT, Int.reduceAdd, Int.reduceSub, Int.reduceMul, Int.reduceNeg, not_true_eq_false, not_false_eq_true]
          exact fin
        | true =>
          by_cases g2 : b i = (nmK k).getD i.toNat 0
          · have fin := go true (by simp only [g2, and_true, true_and])
            simp +decide (maxSteps := 4000000) (disch := omega) only [k317_0, k317_1, k317_2, k317_3, k317_4, k317_6, k317_7, k317_8, k317_9, k317_10, k317_11, k317_r, k317_s, F_il3, J_ifne, T_I, T_goto, T_icge, T_ft, F_is4i, F_is4r, F_is4m, F_al0, T_getI, F_il1, T_sub, F_il4, T_iceq, T_ret, F_is5i, F_is5r, F_is5m, F_is6i, F_is6r, F_is6m, F_il6, F_il2, T_mul, T_shr, T_and, J_icne, F_is7i, F_is7r, F_is7m, F_il5, J_ifeq, T_getR, T_add, X_iald, F_il7, F_inc6i, F_inc6r, F_inc6m, FM F, MX, d1, g2, ln_706, bool_0, bool_1, Int.zero_add, ↓reduceIte, TK, lt_run hn, le43, Int.le_refl, Int.lt_irrefl, Option.some.injEq, exists_eq_left', true_and, and_true, if_true, if_false, decide_eq_false_iff_not, decide_eq_true_eq, Nat.reduceAdd, Nat.reduceLeDiff, Nat.reduceLT, Int.reduceAdd, Int.reduceSub, Int.reduceMul, Int.reduceNeg, not_true_eq_false, not_false_eq_true]
            exact fin
          · have fin := go false (by simp only [g2, and_false, reduceCtorEq])
            simp +decide (maxSteps := 4000000) (disch := omega) only [k317_0, k317_1, k317_2, k317_3, k317_4, k317_6, k317_7, k317_8, k317_9, k317_10, k317_11, k317_r, k317_s, F_il3, J_ifne, T_I, T_goto, T_icge, T_ft, F_is4i, F_is4r, F_is4m, F_al0, T_getI, F_il1, T_sub, F_il4, T_iceq, T_ret, F_is5i, F_is5r, F_is5m, F_is6i, F_is6r, F_is6m, F_il6, F_il2, T_mul, T_shr, T_and, J_icne, F_is7i, F_is7r, F_is7m, F_il5, J_ifeq, T_getR, T_add, X_iald, F_il7, F_inc6i, F_inc6r, F_inc6m, FM F, MX, d1, g2, ln_706, bool_0, bool_1, Int.zero_add, ↓reduceIte, TK, lt_run hn, le43, Int.le_refl, Int.lt_irrefl, Option.some.injEq, exists_eq_left', true_and, and_true, if_true, if_false, decide_eq_false_iff_not, decide_eq_true_eq, Nat.reduceAdd, Nat.reduceLeDiff, Nat.reduceLT, Int.reduceAdd, Int.reduceSub, Int.reduceMul, Int.reduceNeg, not_true_eq_false, not_false_eq_true]
            exact fin
      unfold chK at cw
      by_cases q4 : i < 4
      · rw [if_pos q4] at cw
        rw [k317_5]
        simp +decide (maxSteps := 4000000) (disch := omega) only [k317_0, k317_1, k317_2, k317_3, k317_4, k317_6, k317_7, k317_9, k317_10, k317_11, k317_r, k317_s, F_il3, J_ifne, T_I, T_goto, T_icge, T_ft, F_is4i, F_is4r, F_is4m, F_al0, T_getI, F_il1, T_sub, F_il4, T_iceq, T_ret, F_is5i, F_is5r, F_is5m, F_is6i, F_is6r, F_is6m, F_il6, F_il2, T_mul, T_shr, T_and, J_icne, F_is7i, F_is7r, F_is7m, F_il5, J_ifeq, T_getR, T_add, X_iald, F_il7, F_inc6i, F_inc6r, F_inc6m, q4, cw, show ¬ e ≤ i by omega, show ¬ 4 ≤ i by omega, ↓reduceIte, TK, lt_run hn, le43, Int.le_refl, Int.lt_irrefl, Option.some.injEq, exists_eq_left', true_and, and_true, if_true, if_false, decide_eq_false_iff_not, decide_eq_true_eq, Nat.reduceAdd, Nat.reduceLeDiff, Nat.reduceLT, Int.reduceAdd, Int.reduceSub, Int.reduceMul, Int.reduceNeg, not_true_eq_false, not_false_eq_true]
        exact eight
      · rw [if_neg q4] at cw
        by_cases q5 : ((nmK k).length : Int) = 5
        · rw [if_pos q5] at cw
          rw [← cw] at eight
          rw [k317_5]
          simp +decide (maxSteps := 4000000) (disch := omega) only [k317_0, k317_1, k317_2, k317_3, k317_4, k317_6, k317_7, k317_9, k317_10, k317_11, k317_r, k317_s, F_il3, J_ifne, T_I, T_goto, T_icge, T_ft, F_is4i, F_is4r, F_is4m, F_al0, T_getI, F_il1, T_sub, F_il4, T_iceq, T_ret, F_is5i, F_is5r, F_is5m, F_is6i, F_is6r, F_is6m, F_il6, F_il2, T_mul, T_shr, T_and, J_icne, F_is7i, F_is7r, F_is7m, F_il5, J_ifeq, T_getR, T_add, X_iald, F_il7, F_inc6i, F_inc6r, F_inc6m, show ¬ e ≤ i by omega, show 4 ≤ i by omega, show e = 5 by omega, show ¬ 5 ≤ i by omega, ↓reduceIte, TK, lt_run hn, le43, Int.le_refl, Int.lt_irrefl, Option.some.injEq, exists_eq_left', true_and, and_true, if_true, if_false, decide_eq_false_iff_not, decide_eq_true_eq, Nat.reduceAdd, Nat.reduceLeDiff, Nat.reduceLT, Int.reduceAdd, Int.reduceSub, Int.reduceMul, Int.reduceNeg, not_true_eq_false, not_false_eq_true]
          rw [show e = 5 by omega] at eight
          exact eight
        · rw [if_neg q5] at cw
          rw [k317_5]
          simp +decide (maxSteps := 4000000) (disch := omega) only [k317_0, k317_1, k317_2, k317_3, k317_4, k317_6, k317_7, k317_9, k317_10, k317_11, k317_r, k317_s, F_il3, J_ifne, T_I, T_goto, T_icge, T_ft, F_is4i, F_is4r, F_is4m, F_al0, T_getI, F_il1, T_sub, F_il4, T_iceq, T_ret, F_is5i, F_is5r, F_is5m, F_is6i, F_is6r, F_is6m, F_il6, F_il2, T_mul, T_shr, T_and, J_icne, F_is7i, F_is7r, F_is7m, F_il5, J_ifeq, T_getR, T_add, X_iald, F_il7, F_inc6i, F_inc6r, F_inc6m, cw, show ¬ e ≤ i by omega, show 4 ≤ i by omega, show ¬ e = 5 by omega, ↓reduceIte, TK, lt_run hn, le43, Int.le_refl, Int.lt_irrefl, Option.some.injEq, exists_eq_left', true_and, and_true, if_true, if_false, decide_eq_false_iff_not, decide_eq_true_eq, Nat.reduceAdd, Nat.reduceLeDiff, Nat.reduceLT, Int.reduceAdd, Int.reduceSub, Int.reduceMul, Int.reduceNeg, not_true_eq_false, not_false_eq_true]
          exact eight
    · rintro ⟨ok, v7⟩ _ ⟨rfl, a1⟩
      dsimp only at a1 ⊢
      cases ok with
      | false =>
        have fin := k2 (fun z => absurd (a1.mpr (fun j j0 j1 => by have := z.2 j j0 (by omega); rw [Int.zero_add] at this; exact this)) (by decide))
        rw [k317_5]
        simp +decide (maxSteps := 4000000) (disch := omega) only [k317_0, k317_1, k317_2, k317_3, k317_4, k317_6, k317_7, k317_8, k317_9, k317_10, k317_11, k317_r, k317_s, F_il3, J_ifne, T_I, T_goto, T_icge, T_ft, F_is4i, F_is4r, F_is4m, F_al0, T_getI, F_il1, T_sub, F_il4, T_iceq, T_ret, F_is5i, F_is5r, F_is5m, F_is6i, F_is6r, F_is6m, F_il6, F_il2, T_mul, T_shr, T_and, J_icne, F_is7i, F_is7r, F_is7m, F_il5, J_ifeq, T_getR, T_add, X_iald, F_il7, F_inc6i, F_inc6r, F_inc6m, bool_0, bool_1, ↓reduceIte, TK, lt_run hn, le43, Int.le_refl, Int.lt_irrefl, Option.some.injEq, exists_eq_left', true_and, and_true, if_true, if_false, decide_eq_false_iff_not, decide_eq_true_eq, Nat.reduceAdd, Nat.reduceLeDiff, Nat.reduceLT, Int.reduceAdd, Int.reduceSub, Int.reduceMul, Int.reduceNeg, not_true_eq_false, not_false_eq_true]
        exact fin
      | true =>
        have fin := k1 ⟨by omega, fun j j0 j1 => by rw [Int.zero_add]; exact a1.mp rfl j j0 (by omega)⟩
        rw [k317_5]
        simp +decide (maxSteps := 4000000) (disch := omega) only [k317_0, k317_1, k317_2, k317_3, k317_4, k317_6, k317_7, k317_8, k317_9, k317_10, k317_11, k317_r, k317_s, F_il3, J_ifne, T_I, T_goto, T_icge, T_ft, F_is4i, F_is4r, F_is4m, F_al0, T_getI, F_il1, T_sub, F_il4, T_iceq, T_ret, F_is5i, F_is5r, F_is5m, F_is6i, F_is6r, F_is6m, F_il6, F_il2, T_mul, T_shr, T_and, J_icne, F_is7i, F_is7r, F_is7m, F_il5, J_ifeq, T_getR, T_add, X_iald, F_il7, F_inc6i, F_inc6r, F_inc6m, bool_0, bool_1, ↓reduceIte, TK, lt_run hn, le43, Int.le_refl, Int.lt_irrefl, Option.some.injEq, exists_eq_left', true_and, and_true, if_true, if_false, decide_eq_false_iff_not, decide_eq_true_eq, Nat.reduceAdd, Nat.reduceLeDiff, Nat.reduceLT, Int.reduceAdd, Int.reduceSub, Int.reduceMul, Int.reduceNeg, not_true_eq_false, not_false_eq_true]
        exact fin
  rcases u1 with ⟨l4, r0⟩ | ⟨l4, r0, r1⟩ | ⟨l4, r0, r1⟩
  · rw [l4] at three
    simp +decide (maxSteps := 4000000) (disch := omega) only [k317_0, k317_1, k317_2, k317_4, k317_6, k317_7, k317_8, k317_9, k317_10, k317_11, k317_r, k317_s, F_il3, J_ifne, T_I, T_goto, T_icge, T_ft, F_is4i, F_is4r, F_is4m, F_al0, T_getI, F_il1, T_sub, F_il4, T_iceq, T_ret, F_is5i, F_is5r, F_is5m, F_is6i, F_is6r, F_is6m, F_il6, F_il2, T_mul, T_shr, T_and, J_icne, F_is7i, F_is7r, F_is7m, F_il5, J_ifeq, T_getR, T_add, X_iald, F_il7, F_inc6i, F_inc6r, F_inc6m, r0, ↓reduceIte, TK, lt_run hn, le43, Int.le_refl, Int.lt_irrefl, Option.some.injEq, exists_eq_left', true_and, and_true, if_true, if_false, decide_eq_false_iff_not, decide_eq_true_eq, Nat.reduceAdd, Nat.reduceLeDiff, Nat.reduceLT, Int.reduceAdd, Int.reduceSub, Int.reduceMul, Int.reduceNeg, not_true_eq_false, not_false_eq_true]
    rw [r0] at three
    exact three
  · rw [l4] at three
    simp +decide (maxSteps := 4000000) (disch := omega) only [k317_0, k317_1, k317_2, k317_4, k317_6, k317_7, k317_8, k317_9, k317_10, k317_11, k317_r, k317_s, F_il3, J_ifne, T_I, T_goto, T_icge, T_ft, F_is4i, F_is4r, F_is4m, F_al0, T_getI, F_il1, T_sub, F_il4, T_iceq, T_ret, F_is5i, F_is5r, F_is5m, F_is6i, F_is6r, F_is6m, F_il6, F_il2, T_mul, T_shr, T_and, J_icne, F_is7i, F_is7r, F_is7m, F_il5, J_ifeq, T_getR, T_add, X_iald, F_il7, F_inc6i, F_inc6r, F_inc6m, show ¬ rsK k = 0 by omega, show ¬ 128 ≤ rsK k by omega, ↓reduceIte, TK, lt_run hn, le43, Int.le_refl, Int.lt_irrefl, Option.some.injEq, exists_eq_left', true_and, and_true, if_true, if_false, decide_eq_false_iff_not, decide_eq_true_eq, Nat.reduceAdd, Nat.reduceLeDiff, Nat.reduceLT, Int.reduceAdd, Int.reduceSub, Int.reduceMul, Int.reduceNeg, not_true_eq_false, not_false_eq_true]
    exact three
  · rw [l4] at three
    simp +decide (maxSteps := 4000000) (disch := omega) only [k317_0, k317_1, k317_2, k317_4, k317_6, k317_7, k317_8, k317_9, k317_10, k317_11, k317_r, k317_s, F_il3, J_ifne, T_I, T_goto, T_icge, T_ft, F_is4i, F_is4r, F_is4m, F_al0, T_getI, F_il1, T_sub, F_il4, T_iceq, T_ret, F_is5i, F_is5r, F_is5m, F_is6i, F_is6r, F_is6m, F_il6, F_il2, T_mul, T_shr, T_and, J_icne, F_is7i, F_is7r, F_is7m, F_il5, J_ifeq, T_getR, T_add, X_iald, F_il7, F_inc6i, F_inc6r, F_inc6m, show ¬ rsK k = 0 by omega, show 128 ≤ rsK k by omega, ↓reduceIte, TK, lt_run hn, le43, Int.le_refl, Int.lt_irrefl, Option.some.injEq, exists_eq_left', true_and, and_true, if_true, if_false, decide_eq_false_iff_not, decide_eq_true_eq, Nat.reduceAdd, Nat.reduceLeDiff, Nat.reduceLT, Int.reduceAdd, Int.reduceSub, Int.reduceMul, Int.reduceNeg, not_true_eq_false, not_false_eq_true]
    exact three
end WD
