/-! speech: the class -/
section SN
variable {E : AEn} {h h' : AHi} {hr : AHr} {n : Nat} {Q : ARs → Prop} {t p f m k w e : Int} {b V : Int → Int}
theorem el (L : Spl) {i : Int} (h0 : 0 ≤ i) (h1 : i < L.length) : ∃ x, L[i.toNat]? = some x ∧ x ∈ L := by
  have h2 : i.toNat < L.length := by omega
  exact ⟨L[i.toNat], List.getElem?_eq_getElem h2, List.getElem_mem h2⟩
theorem LPq_i {a c : Nat} {L : Spl} (P : LPq h a c L) {i : Int} (h0 : 0 ≤ i) {x : Int × Int} (hx : L[i.toNat]? = some x) : gA h a i = J x.1 ∧ gA h c i = J x.2 := by
  have := P i.toNat x hx
  rw [show ((i.toNat : Nat) : Int) = i by omega] at this
  exact this
theorem some_lt {L : Spl} {i : Nat} {x : Int × Int} (h : L[i]? = some x) : i < L.length := by
  by_cases z : i < L.length
  · exact z
  · rw [List.getElem?_eq_none (by omega)] at h
    exact absurd h (by simp only [reduceCtorEq, not_false_eq_true])
theorem Lg_e {L : Spl} {s : Int} (G : Lg L s) {x : Int × Int} (hx : x ∈ L) : (0 ≤ x.1 ∧ x.1 ≤ 7) ∧ 1 ≤ x.2 ∧ x.2 ≤ 120 := by
  refine ⟨(G.1 x hx).1, (G.1 x hx).2, ?_⟩
  obtain ⟨A, B, e⟩ := List.append_of_mem hx
  have g := G.2
  rw [e, lsm_a] at g
  have g2 : lsm A + (x.2 + lsm B) = s ∧ s ≤ 120 := g
  have g3 := lsm_l A (fun y q => G.1 y (by rw [e]; exact List.mem_append.mpr (Or.inl q)))
  have g4 := lsm_l B (fun y q => G.1 y (by rw [e]; exact List.mem_append.mpr (Or.inr (List.mem_cons_of_mem x q))))
  omega
theorem w76 (F : FH hr) (hn : 775 ≤ n) {L : Spl} {s : Int} (C : CS h L) (G : Lg L s) (k1 : (fsp L).2 = [] → Q (some (.int (J (-1))), h, hr, n)) (k2 : (fsp L).2 ≠ [] → Q (some (.int (J (fsp L).1.length)), h, hr, n)) : Sp E 76 [.ref 105] h hr n Q := by
  have d1 := C.1
  have lg := Lg_len G
  simp +decide (maxSteps := 4000000) (disch := omega) only [k76_0, k76_2, k76_3, k76_r, k76_s, T_I, F_is1i, F_is1r, F_is1m, T_ft, F_il1, F_al0, T_getI, T_icge, T_getR, X_iald, J_icne, T_ret, F_inc1i, F_inc1r, F_inc1m, T_goto, ↓reduceIte, TK, lt_run hn, le43, Int.le_refl, Int.lt_irrefl, Option.some.injEq, exists_eq_left', true_and, and_true, if_true, if_false, decide_eq_false_iff_not, decide_eq_true_eq, Nat.reduceAdd, Nat.reduceLeDiff, Nat.reduceLT, Int.reduceAdd, Int.reduceSub, Int.reduceMul, Int.reduceNeg, not_true_eq_false, not_false_eq_true]
  refine T_for (σ := Unit) (fun i _ => [.ref 105, .int (J i)]) (fun i _ h' => h' = h ∧ ∀ (j : Nat) y, (j : Int) < i → L[j]? = some y → y.2 ≠ 1) 0 L.length ?_ ?_ 0 () h (by omega) (by omega) ⟨rfl, fun j y q => by omega⟩
  · rintro i _ _ i0 i1 ⟨rfl, a1⟩ ih
    obtain ⟨x, hx, hm⟩ := el L i0 i1
    have r := (LPq_i C.2 i0 hx).2
    have xb := Lg_e G hm
    by_cases g : x.2 = 1
    · obtain ⟨u1, S, u2⟩ := fsp_u L i.toNat x hx g (fun j y q z => a1 j y (by omega) z)
      have fin := k2 (by rw [u2]; simp only [ne_eq, reduceCtorEq, not_false_eq_true])
      rw [u1, show ((i.toNat : Nat) : Int) = i by omega] at fin
      rw [g] at r
      rw [k76_1]
      simp +decide (maxSteps := 4000000) (disch := omega) only [k76_0, k76_2, k76_3, k76_r, k76_s, T_I, F_is1i, F_is1r, F_is1m, T_ft, F_il1, F_al0, T_getI, T_icge, T_getR, X_iald, J_icne, T_ret, F_inc1i, F_inc1r, F_inc1m, T_goto, FX F, d1, r, kd_105, kd_109, ln_109, show ¬ (L.length : Int) ≤ i by omega, ↓reduceIte, TK, lt_run hn, le43, Int.le_refl, Int.lt_irrefl, Option.some.injEq, exists_eq_left', true_and, and_true, if_true, if_false, decide_eq_false_iff_not, decide_eq_true_eq, Nat.reduceAdd, Nat.reduceLeDiff, Nat.reduceLT, Int.reduceAdd, Int.reduceSub, Int.reduceMul, Int.reduceNeg, not_true_eq_false, not_false_eq_true]
      exact fin
    · rw [k76_1]
      simp +decide (maxSteps := 4000000) (disch := omega) only [k76_0, k76_2, k76_3, k76_r, k76_s, T_I, F_is1i, F_is1r, F_is1m, T_ft, F_il1, F_al0, T_getI, T_icge, T_getR, X_iald, J_icne, T_ret, F_inc1i, F_inc1r, F_inc1m, T_goto, FX F, d1, r, g, kd_105, kd_109, ln_109, show ¬ (L.length : Int) ≤ i by omega, ↓reduceIte, TK, lt_run hn, le43, Int.le_refl, Int.lt_irrefl, Option.some.injEq, exists_eq_left', true_and, and_true, if_true, if_false, decide_eq_false_iff_not, decide_eq_true_eq, Nat.reduceAdd, Nat.reduceLeDiff, Nat.reduceLT, Int.reduceAdd, Int.reduceSub, Int.reduceMul, Int.reduceNeg, not_true_eq_false, not_false_eq_true]
      refine ih () _ ⟨rfl, fun j y q z => ?_⟩
      rcases (show (j : Int) < i ∨ j = i.toNat by omega) with q | q
      · exact a1 j y q z
      · subst q
        rw [hx] at z
        rw [← Option.some.inj z]
        exact g
  · rintro _ _ ⟨rfl, a1⟩
    rw [k76_1]
    simp +decide (maxSteps := 4000000) (disch := omega) only [k76_0, k76_2, k76_3, k76_r, k76_s, T_I, F_is1i, F_is1r, F_is1m, T_ft, F_il1, F_al0, T_getI, T_icge, T_getR, X_iald, J_icne, T_ret, F_inc1i, F_inc1r, F_inc1m, T_goto, d1, kd_105, ↓reduceIte, TK, lt_run hn, le43, Int.le_refl, Int.lt_irrefl, Option.some.injEq, exists_eq_left', true_and, and_true, if_true, if_false, decide_eq_false_iff_not, decide_eq_true_eq, Nat.reduceAdd, Nat.reduceLeDiff, Nat.reduceLT, Int.reduceAdd, Int.reduceSub, Int.reduceMul, Int.reduceNeg, not_true_eq_false, not_false_eq_true]
    exact k1 (fsp_n L (fun j y z => a1 j y (by have := some_lt z; omega) z))
theorem z73 (F : FH hr) (hn : 775 ≤ n) {s : Int} : ∀ (q : Nat) (L : Spl) (h : AHi) (i : Int) (v2 : Value), i + q = 120 → 0 ≤ i → CS h L → Lg L s → (∀ h', CS h' (smth q L) → Lg (smth q L) s → Ef Ssd h h' → Q (none, h', hr, n)) → Tm E 73 (a_bl 73 1) [.ref 105, .int (J i), v2] [] h hr n Q := by
  intro q
  induction q with
  | zero =>
    intro L h i v2 q0 i0 C G k
    rw [k73_1]
    simp +decide (maxSteps := 4000000) (disch := omega) only [k73_0, k73_2, k73_3, k73_4, k73_5, k73_r, k73_s, F_al0, T_I, F_is1i, F_is1r, F_is1m, T_ft, F_il1, T_icge, T_getI, T_iclt, F_is2i, F_is2r, F_is2m, F_il2, J_icne, T_goto, T_getR, T_add, T_sub, T_dup2, X_iald, T_iast, F_inc1i, F_inc1r, F_inc1m, T_ret, c74, c75, c76, show 120 ≤ i by omega, ↓reduceIte, TK, lt_run hn, le43, Int.le_refl, Int.lt_irrefl, Option.some.injEq, exists_eq_left', true_and, and_true, if_true, if_false, decide_eq_false_iff_not, decide_eq_true_eq, Nat.reduceAdd, Nat.reduceLeDiff, Nat.reduceLT, Int.reduceAdd, Int.reduceSub, Int.reduceMul, Int.reduceNeg, not_true_eq_false, not_false_eq_true]
    exact k h C G Ef.refl
  | succ q ih =>
    intro L h i v2 q0 i0 C G k
    have d1 := C.1
    have lg := Lg_len G
    unfold smth at k
    by_cases g1 : 2 ≤ L.length
    case neg =>
      rw [if_neg (fun z => g1 z.1)] at k
      rw [k73_1]
      simp +decide (maxSteps := 4000000) (disch := omega) only [k73_0, k73_2, k73_3, k73_4, k73_5, k73_r, k73_s, F_al0, T_I, F_is1i, F_is1r, F_is1m, T_ft, F_il1, T_icge, T_getI, T_iclt, F_is2i, F_is2r, F_is2m, F_il2, J_icne, T_goto, T_getR, T_add, T_sub, T_dup2, X_iald, T_iast, F_inc1i, F_inc1r, F_inc1m, T_ret, c74, c75, c76, d1, kd_105, show ¬ 120 ≤ i by omega, show (L.length : Int) < 2 by omega, ↓reduceIte, TK, lt_run hn, le43, Int.le_refl, Int.lt_irrefl, Option.some.injEq, exists_eq_left', true_and, and_true, if_true, if_false, decide_eq_false_iff_not, decide_eq_true_eq, Nat.reduceAdd, Nat.reduceLeDiff, Nat.reduceLT, Int.reduceAdd, Int.reduceSub, Int.reduceMul, Int.reduceNeg, not_true_eq_false, not_false_eq_true]
      exact k h C G Ef.refl
    rw [k73_1]
    simp +decide (maxSteps := 4000000) (disch := omega) only [k73_0, k73_2, k73_3, k73_4, k73_5, k73_r, k73_s, F_al0, T_I, F_is1i, F_is1r, F_is1m, T_ft, F_il1, T_icge, T_getI, T_iclt, F_is2i, F_is2r, F_is2m, F_il2, J_icne, T_goto, T_getR, T_add, T_sub, T_dup2, X_iald, T_iast, F_inc1i, F_inc1r, F_inc1m, T_ret, c74, c75, c76, d1, kd_105, show ¬ 120 ≤ i by omega, show ¬ (L.length : Int) < 2 by omega, ↓reduceIte, TK, lt_run hn, le43, Int.le_refl, Int.lt_irrefl, Option.some.injEq, exists_eq_left', true_and, and_true, if_true, if_false, decide_eq_false_iff_not, decide_eq_true_eq, Nat.reduceAdd, Nat.reduceLeDiff, Nat.reduceLT, Int.reduceAdd, Int.reduceSub, Int.reduceMul, Int.reduceNeg, not_true_eq_false, not_false_eq_true]
    refine w76 F hn C G (fun g2 => ?_) (fun g2 => ?_)
    · rw [if_neg (fun z => z.2 g2)] at k
      simp +decide (maxSteps := 4000000) (disch := omega) only [k73_0, k73_2, k73_3, k73_4, k73_5, k73_r, k73_s, F_al0, T_I, F_is1i, F_is1r, F_is1m, T_ft, F_il1, T_icge, T_getI, T_iclt, F_is2i, F_is2r, F_is2m, F_il2, J_icne, T_goto, T_getR, T_add, T_sub, T_dup2, X_iald, T_iast, F_inc1i, F_inc1r, F_inc1m, T_ret, c74, c75, c76, ↓reduceIte, TK, lt_run hn, le43, Int.le_refl, Int.lt_irrefl, Option.some.injEq, exists_eq_left', true_and, and_true, if_true, if_false, decide_eq_false_iff_not, decide_eq_true_eq, Nat.reduceAdd, Nat.reduceLeDiff, Nat.reduceLT, Int.reduceAdd, Int.reduceSub, Int.reduceMul, Int.reduceNeg, not_true_eq_false, not_false_eq_true]
      exact k h C G Ef.refl
    rw [if_pos ⟨g1, g2⟩] at k
    have fe := fsp_e L
    have f1 := fsp_1 L
    generalize (fsp L).1 = P at *
    generalize (fsp L).2 = R at *
    obtain ⟨G2, nl⟩ := nx_Lg G g1 fe g2 f1
    have G3 := jn_Lg G2
    subst fe
    cases R with
    | nil => exact absurd rfl g2
    | cons x S =>
      have x1 := f1 x S rfl
      cases S with
      | nil =>
        rcases snoc P with e | ⟨P', z, e⟩
        · subst e
          exact absurd g1 (by show ¬ 2 ≤ 1; decide)
        · subst e
          have e0 : ((P' ++ [z]).length : Int) = P'.length + 1 := by
            rw [List.length_append]
            rfl
          have e1 : (((P' ++ [z]) ++ [x]).length : Int) = P'.length + 2 := by
            rw [List.length_append, List.length_append]
            show ((P'.length + 1 + 1 : Nat) : Int) = P'.length + 2
            omega
          have C' := C.2
          rw [List.append_assoc] at C'
          have r := LPq_r (P := P') (x := z) (S := [x]) C'
          have zb := Lg_e G (List.mem_append.mpr (Or.inl (List.mem_append.mpr (Or.inr (List.mem_singleton.mpr rfl)))))
          have W := LPq_w (v := z.2 + 1) (by decide) C'
          rw [e1] at d1 lg
          have C2 : CS (sA h 109 P'.length (J (z.2 + 1))) ((P' ++ [(z.1, z.2 + 1)]) ++ x :: []) := by
            refine ⟨?_, ?_⟩
            · rw [sA_o (by decide), d1, List.length_append, List.length_append]
              congr 1
            · rw [List.append_assoc]
              exact W
          have e2 : (P'.length : Int) + 1 = ((P' ++ [(z.1, z.2 + 1)]).length : Nat) := by
            rw [List.length_append]
            rfl
          have e3 : (P'.length : Int) + 1 - 1 = P'.length := by omega
          rw [e0]
          simp +decide (maxSteps := 4000000) (disch := omega) only [k73_0, k73_2, k73_3, k73_4, k73_5, k73_r, k73_s, F_al0, T_I, F_is1i, F_is1r, F_is1m, T_ft, F_il1, T_icge, T_getI, T_iclt, F_is2i, F_is2r, F_is2m, F_il2, J_icne, T_goto, T_getR, T_add, T_sub, T_dup2, X_iald, T_iast, F_inc1i, F_inc1r, F_inc1m, T_ret, c74, c75, c76, FX F, d1, r, e3, kd_105, kd_109, ln_109, show ¬ (P'.length : Int) + 1 = -1 by omega, show (P'.length : Int) + 2 ≤ P'.length + 1 + 1 by omega, ↓reduceIte, TK, lt_run hn, le43, Int.le_refl, Int.lt_irrefl, Option.some.injEq, exists_eq_left', true_and, and_true, if_true, if_false, decide_eq_false_iff_not, decide_eq_true_eq, Nat.reduceAdd, Nat.reduceLeDiff, Nat.reduceLT, Int.reduceAdd, Int.reduceSub, Int.reduceMul, Int.reduceNeg, not_true_eq_false, not_false_eq_true]
          rw [e2]
          refine w75 F hn C2 (by rw [List.length_append]; show P'.length + 1 + 0 ≤ 119; omega) (fun h2 C3 e6 => ?_)
          rw [List.append_nil] at C3
          have eb : nx (P' ++ [z]) [x] = P' ++ [(z.1, z.2 + 1)] := bl_s P' z
          rw [eb] at k G2 G3
          simp +decide (maxSteps := 4000000) (disch := omega) only [k73_0, k73_2, k73_3, k73_4, k73_5, k73_r, k73_s, F_al0, T_I, F_is1i, F_is1r, F_is1m, T_ft, F_il1, T_icge, T_getI, T_iclt, F_is2i, F_is2r, F_is2m, F_il2, J_icne, T_goto, T_getR, T_add, T_sub, T_dup2, X_iald, T_iast, F_inc1i, F_inc1r, F_inc1m, T_ret, c74, c75, c76, kd_105, ↓reduceIte, TK, lt_run hn, le43, Int.le_refl, Int.lt_irrefl, Option.some.injEq, exists_eq_left', true_and, and_true, if_true, if_false, decide_eq_false_iff_not, decide_eq_true_eq, Nat.reduceAdd, Nat.reduceLeDiff, Nat.reduceLT, Int.reduceAdd, Int.reduceSub, Int.reduceMul, Int.reduceNeg, not_true_eq_false, not_false_eq_true]
          refine w74 F hn C3 G2 (fun h4 C4 e7 => ?_)
          simp +decide (maxSteps := 4000000) (disch := omega) only [k73_0, k73_2, k73_3, k73_4, k73_5, k73_r, k73_s, F_al0, T_I, F_is1i, F_is1r, F_is1m, T_ft, F_il1, T_icge, T_getI, T_iclt, F_is2i, F_is2r, F_is2m, F_il2, J_icne, T_goto, T_getR, T_add, T_sub, T_dup2, X_iald, T_iast, F_inc1i, F_inc1r, F_inc1m, T_ret, c74, c75, c76, ↓reduceIte, TK, lt_run hn, le43, Int.le_refl, Int.lt_irrefl, Option.some.injEq, exists_eq_left', true_and, and_true, if_true, if_false, decide_eq_false_iff_not, decide_eq_true_eq, Nat.reduceAdd, Nat.reduceLeDiff, Nat.reduceLT, Int.reduceAdd, Int.reduceSub, Int.reduceMul, Int.reduceNeg, not_true_eq_false, not_false_eq_true]
          exact ih _ h4 (i + 1) _ (by omega) (by omega) C4 G3 (fun h' a1 a2 a3 => k h' a1 a2 ((Ef.trans (Ef.refl.sA (Or.inr (Or.inl rfl))) e6).trans (e7.trans a3)))
      | cons y ys =>
        have e1 : ((P ++ x :: y :: ys).length : Int) = P.length + ys.length + 2 := by
          rw [List.length_append]
          show ((P.length + (ys.length + 1 + 1) : Nat) : Int) = _
          omega
        have C' : LPq h 108 109 ((P ++ [x]) ++ y :: ys) := by
          rw [List.append_assoc]
          exact C.2
        have e0 : ((P ++ [x]).length : Int) = P.length + 1 := by
          rw [List.length_append]
          rfl
        have r := LPq_r C'
        have yb := Lg_e G (List.mem_append.mpr (Or.inr (List.mem_cons_of_mem x List.mem_cons_self)))
        have W := LPq_w (v := y.2 + 1) (by decide) C'
        rw [e0] at r W
        rw [e1] at d1 lg
        have C2 : CS (sA h 109 (P.length + 1) (J (y.2 + 1))) (P ++ x :: (y.1, y.2 + 1) :: ys) := by
          refine ⟨?_, ?_⟩
          · rw [sA_o (by decide), d1, List.length_append]
            congr 1
          · rw [List.append_assoc] at W
            exact W
        simp +decide (maxSteps := 4000000) (disch := omega) only [k73_0, k73_2, k73_3, k73_4, k73_5, k73_r, k73_s, F_al0, T_I, F_is1i, F_is1r, F_is1m, T_ft, F_il1, T_icge, T_getI, T_iclt, F_is2i, F_is2r, F_is2m, F_il2, J_icne, T_goto, T_getR, T_add, T_sub, T_dup2, X_iald, T_iast, F_inc1i, F_inc1r, F_inc1m, T_ret, c74, c75, c76, FX F, d1, r, kd_105, kd_109, ln_109, show ¬ (P.length : Int) = -1 by omega, show ¬ (P.length : Int) + ys.length + 2 ≤ P.length + 1 by omega, ↓reduceIte, TK, lt_run hn, le43, Int.le_refl, Int.lt_irrefl, Option.some.injEq, exists_eq_left', true_and, and_true, if_true, if_false, decide_eq_false_iff_not, decide_eq_true_eq, Nat.reduceAdd, Nat.reduceLeDiff, Nat.reduceLT, Int.reduceAdd, Int.reduceSub, Int.reduceMul, Int.reduceNeg, not_true_eq_false, not_false_eq_true]
        refine w75 F hn C2 (by show P.length + (ys.length + 1) ≤ 119; omega) (fun h2 C3 e6 => ?_)
        simp +decide (maxSteps := 4000000) (disch := omega) only [k73_0, k73_2, k73_3, k73_4, k73_5, k73_r, k73_s, F_al0, T_I, F_is1i, F_is1r, F_is1m, T_ft, F_il1, T_icge, T_getI, T_iclt, F_is2i, F_is2r, F_is2m, F_il2, J_icne, T_goto, T_getR, T_add, T_sub, T_dup2, X_iald, T_iast, F_inc1i, F_inc1r, F_inc1m, T_ret, c74, c75, c76, kd_105, ↓reduceIte, TK, lt_run hn, le43, Int.le_refl, Int.lt_irrefl, Option.some.injEq, exists_eq_left', true_and, and_true, if_true, if_false, decide_eq_false_iff_not, decide_eq_true_eq, Nat.reduceAdd, Nat.reduceLeDiff, Nat.reduceLT, Int.reduceAdd, Int.reduceSub, Int.reduceMul, Int.reduceNeg, not_true_eq_false, not_false_eq_true]
        refine w74 F hn C3 G2 (fun h4 C4 e7 => ?_)
        simp +decide (maxSteps := 4000000) (disch := omega) only [k73_0, k73_2, k73_3, k73_4, k73_5, k73_r, k73_s, F_al0, T_I, F_is1i, F_is1r, F_is1m, T_ft, F_il1, T_icge, T_getI, T_iclt, F_is2i, F_is2r, F_is2m, F_il2, J_icne, T_goto, T_getR, T_add, T_sub, T_dup2, X_iald, T_iast, F_inc1i, F_inc1r, F_inc1m, T_ret, c74, c75, c76, ↓reduceIte, TK, lt_run hn, le43, Int.le_refl, Int.lt_irrefl, Option.some.injEq, exists_eq_left', true_and, and_true, if_true, if_false, decide_eq_false_iff_not, decide_eq_true_eq, Nat.reduceAdd, Nat.reduceLeDiff, Nat.reduceLT, Int.reduceAdd, Int.reduceSub, Int.reduceMul, Int.reduceNeg, not_true_eq_false, not_false_eq_true]
        exact ih _ h4 (i + 1) _ (by omega) (by omega) C4 G3 (fun h' a1 a2 a3 => k h' a1 a2 ((Ef.trans (Ef.refl.sA (Or.inr (Or.inl rfl))) e6).trans (e7.trans a3)))
/-- what the class's reading of a speech changes -/
def Spc (a k : Nat) : Prop := (a = 44 ∧ (k = 2 ∨ k = 3)) ∨ a = 110 ∨ a = 111
theorem w71 (F : FH hr) (hn : 775 ≤ n) (hV : R7 V) (T : TpC h t b) (R : Rk h 106 26 V)
    (k1 : ∀ h', Ef Spc h h' → (sps b t V 121 0 0 []).1 ≠ -1 → Q (some (.int (J (-1000 - (sps b t V 121 0 0 []).1))), h', hr, n))
    (k2 : ∀ h' s, Ef (fun a k => Spc a k ∨ Ssd a k) h h' → (sps b t V 121 0 0 []).1 = -1 → Lg (smth 120 (jn (sps b t V 121 0 0 []).2)) s → CS h' (smth 120 (jn (sps b t V 121 0 0 []).2)) → Q (some (.int (J (smth 120 (jn (sps b t V 121 0 0 []).2)).length)), h', hr, n)) : Sp E 71 [.ref 105, .ref 44] h hr n Q := by
  have t1 := T.1
  have rb := sps_b T.1 T.2.1 hV 121 0 0 [] (by decide) (by decide) (by omega) Lg_0
  have eR : ∀ {h : AHi} {p f : Int}, Ef Spc h (RS h p f) := fun {h p f} => Ef_RS.mono fun a k q => Or.inl q
  simp +decide (maxSteps := 4000000) (disch := omega) only [k71_0, k71_2, k71_3, k71_4, k71_5, k71_r, k71_s, F_al1, T_I, F_is2i, F_is2r, F_is2m, F_is3i, F_is3r, F_is3m, F_is4i, F_is4r, F_is4m, F_is5i, F_is5r, F_is5m, T_ft, F_il4, J_ifeq, F_il5, T_icge, T_getI, F_is6i, F_is6r, F_is6m, F_al0, F_is7i, F_is7r, F_is7m, F_is8i, F_is8r, F_is8m, F_il3, F_il8, T_add, T_icle, F_il6, T_getR, F_il2, F_il7, T_iast, F_inc2i, F_inc2r, F_inc2m, F_inc5i, F_inc5r, F_inc5m, T_goto, J_ifne, T_ret, J_cp, T_putI, T_putZ, c13, c14, c16, c18, c20, c24, c72, c73, ↓s14, ↓s16, ↓s18, ↓s20, ↓s24, ↓s13 F hn, kd_44, ↓reduceIte, TK, lt_run hn, le43, Int.le_refl, Int.lt_irrefl, Option.some.injEq, exists_eq_left', true_and, and_true, if_true, if_false, decide_eq_false_iff_not, decide_eq_true_eq, Nat.reduceAdd, Nat.reduceLeDiff, Nat.reduceLT, Int.reduceAdd, Int.reduceSub, Int.reduceMul, Int.reduceNeg, not_true_eq_false, not_false_eq_true]
  refine z71 F hn hV 121 0 0 [] h _ _ _ (by decide) (by decide) (by omega) Lg_0 T R LPq_0 (fun h1 w m' v3 v4 v5 v6 v7 v8 w0 w1 e1 gd => ?_)
  have e2 : Ef Spc h h1 := e1.mono fun a k q => Or.inr q
  rw [k71_4]
  generalize sps b t V 121 0 0 [] = r at *
  by_cases g : r.1 = -1
  case neg =>
    have fb := rb.1
    simp +decide (maxSteps := 4000000) (disch := omega) only [k71_0, k71_2, k71_3, k71_4, k71_5, k71_r, k71_s, F_al1, T_I, F_is2i, F_is2r, F_is2m, F_is3i, F_is3r, F_is3m, F_is4i, F_is4r, F_is4m, F_is5i, F_is5r, F_is5m, T_ft, F_il4, J_ifeq, F_il5, T_icge, T_getI, F_is6i, F_is6r, F_is6m, F_al0, F_is7i, F_is7r, F_is7m, F_is8i, F_is8r, F_is8m, F_il3, F_il8, T_add, T_icle, F_il6, T_getR, F_il2, F_il7, T_iast, F_inc2i, F_inc2r, F_inc2m, F_inc5i, F_inc5r, F_inc5m, T_goto, J_ifne, T_ret, J_cp, T_putI, T_putZ, c13, c14, c16, c18, c20, c24, c72, c73, ↓s13, ↓s14, ↓s18, ↓s20, ↓s16 F hn, ↓s24 F hn, g, kd_44, ↓reduceIte, TK, lt_run hn, le43, Int.le_refl, Int.lt_irrefl, Option.some.injEq, exists_eq_left', true_and, and_true, if_true, if_false, decide_eq_false_iff_not, decide_eq_true_eq, Nat.reduceAdd, Nat.reduceLeDiff, Nat.reduceLT, Int.reduceAdd, Int.reduceSub, Int.reduceMul, Int.reduceNeg, not_true_eq_false, not_false_eq_true]
    exact k1 _ (e2.trans eR) g
  obtain ⟨rfl, P1⟩ := gd g
  obtain ⟨s, G, l0⟩ := rb.2 g
  have lg := Lg_len G
  have k3 := fun h' s q => k2 h' s q g
  have q1 : a_ln E 108 = 120 := ln_108 E
  have q2 : a_ln E 109 = 120 := ln_109 E
  have q3 : a_ln E 110 = 120 := ln_110 E
  have q4 : a_ln E 111 = 120 := ln_111 E
  rw [g]
  simp +decide (maxSteps := 4000000) (disch := omega) only [k71_0, k71_2, k71_3, k71_4, k71_5, k71_r, k71_s, F_al1, T_I, F_is2i, F_is2r, F_is2m, F_is3i, F_is3r, F_is3m, F_is4i, F_is4r, F_is4m, F_is5i, F_is5r, F_is5m, T_ft, F_il4, J_ifeq, F_il5, T_icge, T_getI, F_is6i, F_is6r, F_is6m, F_al0, F_is7i, F_is7r, F_is7m, F_is8i, F_is8r, F_is8m, F_il3, F_il8, T_add, T_icle, F_il6, T_getR, F_il2, F_il7, T_iast, F_inc2i, F_inc2r, F_inc2m, F_inc5i, F_inc5r, F_inc5m, T_goto, J_ifne, T_ret, J_cp, T_putI, T_putZ, c13, c14, c16, c18, c20, c24, c72, c73, ↓s13, ↓s14, ↓s18, ↓s20, ↓s24, FX F, ↓s16 F hn, kd_44, kd_105, kd_108, kd_109, kd_110, kd_111, true_or, ↓reduceIte, TK, lt_run hn, le43, Int.le_refl, Int.lt_irrefl, Option.some.injEq, exists_eq_left', true_and, and_true, if_true, if_false, decide_eq_false_iff_not, decide_eq_true_eq, Nat.reduceAdd, Nat.reduceLeDiff, Nat.reduceLT, Int.reduceAdd, Int.reduceSub, Int.reduceMul, Int.reduceNeg, not_true_eq_false, not_false_eq_true]
  have C0 : CS (hI (cpA (cpA (RS h1 w (-1)) 110 0 108 0 r.2.length) 111 0 109 0 r.2.length) 105 4 (J r.2.length)) r.2 := by
    refine ⟨hI_s, fun i x q => ?_⟩
    have il := some_lt q
    rw [gA_o (by decide), gA_o (by decide), cp_go (by decide), cp_g (by omega) (by omega) (by omega) (by omega), cp_g (by omega) (by omega) (by omega) (by omega), if_pos (by omega), if_pos (by omega), cp_go (by decide), RS_g (by decide), RS_g (by decide), show (0 : Int) + ((i : Int) - 0) = i by omega]
    exact P1 i x q
  have e3 : Ef (fun a k => Spc a k ∨ Ssd a k) h (hI (cpA (cpA (RS h1 w (-1)) 110 0 108 0 r.2.length) 111 0 109 0 r.2.length) 105 4 (J r.2.length)) := Ef.hI (cp_e (cp_e ((e2.trans eR).mono fun a k q => Or.inl q) (fun _ => Or.inr (Or.inl rfl))) (fun _ => Or.inr (Or.inr (Or.inl rfl)))) (Or.inr (Or.inr (Or.inr ⟨rfl, rfl⟩)))
  simp +decide (maxSteps := 4000000) (disch := omega) only [k73_0, k73_2, k73_3, k73_4, k73_5, k73_r, k73_s, F_al0, T_I, F_is1i, F_is1r, F_is1m, T_ft, F_il1, T_icge, T_getI, T_iclt, F_is2i, F_is2r, F_is2m, F_il2, J_icne, T_goto, T_getR, T_add, T_sub, T_dup2, X_iald, T_iast, F_inc1i, F_inc1r, F_inc1m, T_ret, c74, c75, c76, ↓reduceIte, TK, lt_run hn, le43, Int.le_refl, Int.lt_irrefl, Option.some.injEq, exists_eq_left', true_and, and_true, if_true, if_false, decide_eq_false_iff_not, decide_eq_true_eq, Nat.reduceAdd, Nat.reduceLeDiff, Nat.reduceLT, Int.reduceAdd, Int.reduceSub, Int.reduceMul, Int.reduceNeg, not_true_eq_false, not_false_eq_true]
  refine w74 F hn C0 G (fun h4 C4 e4 => ?_)
  simp +decide (maxSteps := 4000000) (disch := omega) only [k73_0, k73_2, k73_3, k73_4, k73_5, k73_r, k73_s, F_al0, T_I, F_is1i, F_is1r, F_is1m, T_ft, F_il1, T_icge, T_getI, T_iclt, F_is2i, F_is2r, F_is2m, F_il2, J_icne, T_goto, T_getR, T_add, T_sub, T_dup2, X_iald, T_iast, F_inc1i, F_inc1r, F_inc1m, T_ret, c74, c75, c76, ↓reduceIte, TK, lt_run hn, le43, Int.le_refl, Int.lt_irrefl, Option.some.injEq, exists_eq_left', true_and, and_true, if_true, if_false, decide_eq_false_iff_not, decide_eq_true_eq, Nat.reduceAdd, Nat.reduceLeDiff, Nat.reduceLT, Int.reduceAdd, Int.reduceSub, Int.reduceMul, Int.reduceNeg, not_true_eq_false, not_false_eq_true]
  refine z73 F hn 120 _ h4 0 _ (by decide) (by decide) C4 (jn_Lg G) (fun h5 C5 G5 e5 => ?_)
  have d5 := C5.1
  simp +decide (maxSteps := 4000000) (disch := omega) only [k71_0, k71_2, k71_3, k71_4, k71_5, k71_r, k71_s, F_al1, T_I, F_is2i, F_is2r, F_is2m, F_is3i, F_is3r, F_is3m, F_is4i, F_is4r, F_is4m, F_is5i, F_is5r, F_is5m, T_ft, F_il4, J_ifeq, F_il5, T_icge, T_getI, F_is6i, F_is6r, F_is6m, F_al0, F_is7i, F_is7r, F_is7m, F_is8i, F_is8r, F_is8m, F_il3, F_il8, T_add, T_icle, F_il6, T_getR, F_il2, F_il7, T_iast, F_inc2i, F_inc2r, F_inc2m, F_inc5i, F_inc5r, F_inc5m, T_goto, J_ifne, T_ret, J_cp, T_putI, T_putZ, c13, c14, c16, c18, c20, c24, c72, c73, ↓s13, ↓s14, ↓s16, ↓s18, ↓s20, ↓s24, FX F, d5, kd_105, ↓reduceIte, TK, lt_run hn, le43, Int.le_refl, Int.lt_irrefl, Option.some.injEq, exists_eq_left', true_and, and_true, if_true, if_false, decide_eq_false_iff_not, decide_eq_true_eq, Nat.reduceAdd, Nat.reduceLeDiff, Nat.reduceLT, Int.reduceAdd, Int.reduceSub, Int.reduceMul, Int.reduceNeg, not_true_eq_false, not_false_eq_true]
  exact k3 h5 s (e3.trans ((e4.trans e5).mono fun a k q => Or.inr q)) G5 C5
end SN
