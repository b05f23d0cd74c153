/-! speech: smoothing, the reference -/
theorem jn_m {a x : Int × Int} {xs : Spl} (g : a.1 = x.1) : jn (a :: x :: xs) = jn ((a.1, a.2 + x.2) :: xs) := by
  show jc a (jc x (jn xs)) = jc (a.1, a.2 + x.2) (jn xs)
  generalize jn xs = M
  cases M with
  | nil =>
    show jc a [x] = [(a.1, a.2 + x.2)]
    rw [jc_p g]
  | cons y M =>
    by_cases g2 : x.1 = y.1
    · rw [jc_p g2, jc_p (x := a) (y := (x.1, x.2 + y.2)) g, jc_p (x := (a.1, a.2 + x.2)) (y := y) (g.trans g2)]
      show (a.1, a.2 + (x.2 + y.2)) :: M = (a.1, a.2 + x.2 + y.2) :: M
      rw [Int.add_assoc]
    · rw [jc_n g2, jc_p g, jc_n (x := (a.1, a.2 + x.2)) (y := y) (fun q => g2 (g.symm.trans q))]
theorem jn_n {a x : Int × Int} {xs : Spl} (g : ¬ a.1 = x.1) : jn (a :: x :: xs) = a :: jn (x :: xs) := by
  show jc a (jc x (jn xs)) = a :: jc x (jn xs)
  generalize jn xs = M
  cases M with
  | nil =>
    show jc a [x] = [a, x]
    rw [jc_n g]
  | cons y M =>
    by_cases g2 : x.1 = y.1
    · rw [jc_p g2, jc_n (x := a) (y := (x.1, x.2 + y.2)) g]
    · rw [jc_n g2, jc_n g]
theorem drx {L : Spl} {i : Nat} {x : Int × Int} (hx : L[i]? = some x) : L.drop i = x :: L.drop (i + 1) := by
  have hl := some_lt hx
  rw [List.drop_eq_getElem_cons hl, Option.some.inj ((List.getElem?_eq_getElem hl).symm.trans hx)]
theorem sh1 {P S : Spl} {x : Int × Int} {i : Nat} (g : P.length ≤ i) : (P ++ x :: S)[i + 1]? = (P ++ S)[i]? := by
  rw [List.getElem?_append_right (by omega), List.getElem?_append_right g, show i + 1 - P.length = (i - P.length) + 1 by omega, List.getElem?_cons_succ]
theorem sh2 {P S : Spl} {x : Int × Int} {i : Nat} (g : i < P.length) : (P ++ x :: S)[i]? = (P ++ S)[i]? := by
  rw [List.getElem?_append_left g, List.getElem?_append_left g]
section SO
variable {E : AEn} {h h' : AHi} {hr : AHr} {n : Nat} {Q : ARs → Prop} {t p f m k w e : Int} {b V : Int → Int}
def Spq (a k : Nat) : Prop := a = 754 ∨ a = 755
theorem w303 (F : FH hr) (hn : 775 ≤ n) {L : Spl} {s : Int} (P : LPq h 754 755 L) (G : Lg L s) (k : ∀ h', LPq h' 754 755 (jn L) → Ef Spq h h' → Q (some (.int (J (jn L).length)), h', hr, n)) : Sp E 303 [.ref 704, .int (J L.length)] h hr n Q := by
  have lg := Lg_len G
  simp +decide (maxSteps := 4000000) (disch := omega) only [k303_0, k303_2, k303_3, k303_4, k303_r, k303_s, T_I, F_is2i, F_is2r, F_is2m, F_is3i, F_is3r, F_is3m, T_ft, F_il3, F_il1, T_icge, F_il2, J_ifle, F_al0, T_getR, T_sub, X_iald, J_icne, T_dup2, T_add, T_iast, T_goto, F_inc2i, F_inc2r, F_inc2m, F_inc3i, F_inc3r, F_inc3m, T_ret, ↓reduceIte, TK, lt_run hn, le43, Int.le_refl, Int.lt_irrefl, Option.some.injEq, exists_eq_left', true_and, and_true, if_true, if_false, decide_eq_false_iff_not, decide_eq_true_eq, Nat.reduceAdd, Nat.reduceLeDiff, Nat.reduceLT, Int.reduceAdd, Int.reduceSub, Int.reduceMul, Int.reduceNeg, not_true_eq_false, not_false_eq_true]
  refine T_for (σ := Spl) (fun r W => [.ref 704, .int (J L.length), .int (J W.length), .int (J r)]) (fun r W h' => Ef Spq h h' ∧ LPq h' 754 755 W ∧ ((W.length : Int) ≤ r) ∧ (∀ y ∈ W, 0 ≤ y.1 ∧ y.1 ≤ 7) ∧ (∀ (i : Nat) y, r ≤ i → L[i]? = some y → gA h' 754 (i : Int) = J y.1 ∧ gA h' 755 (i : Int) = J y.2) ∧ ((W = [] ∧ r = 0) ∨ ∃ A a, W = A ++ [a] ∧ jn L = A ++ jn (a :: L.drop r.toNat))) 0 L.length ?_ ?_ 0 [] h (by omega) (by omega) ⟨Ef.refl, LPq_0, by decide, fun y q => absurd q List.not_mem_nil, fun i y _ q => P i y q, Or.inl ⟨rfl, rfl⟩⟩
  · rintro r W h1 r0 r1 ⟨e1, P1, wl, wb, rest, fo⟩ ih
    obtain ⟨x, hx, hm⟩ := el L r0 r1
    have xb := Lg_e G hm
    have rx := rest r.toNat x (by omega) hx
    rw [show ((r.toNat : Nat) : Int) = r by omega] at rx
    have dx := drx hx
    rw [show r.toNat + 1 = (r + 1).toNat by omega] at dx
    have copy : ∀ A, jn L = A ++ jn (x :: L.drop (r + 1).toNat) → W = A → Tm E 303 (a_bl 303 2) [.ref 704, .int (J L.length), .int (J W.length), .int (J r)] [] h1 hr n Q := fun A eA eW => by
      have z1 : gA (sA h1 754 W.length (J x.1)) 755 r = J x.2 := by rw [gs_o (by decide)]; exact rx.2
      rw [k303_2]
      simp +decide (maxSteps := 4000000) (disch := omega) only [k303_0, k303_2, k303_3, k303_4, k303_r, k303_s, T_I, F_is2i, F_is2r, F_is2m, F_is3i, F_is3r, F_is3m, T_ft, F_il3, F_il1, T_icge, F_il2, J_ifle, F_al0, T_getR, T_sub, X_iald, J_icne, T_dup2, T_add, T_iast, T_goto, F_inc2i, F_inc2r, F_inc2m, F_inc3i, F_inc3r, F_inc3m, T_ret, FM F, rx, z1, ln_754, ln_755, ↓reduceIte, TK, lt_run hn, le43, Int.le_refl, Int.lt_irrefl, Option.some.injEq, exists_eq_left', true_and, and_true, if_true, if_false, decide_eq_false_iff_not, decide_eq_true_eq, Nat.reduceAdd, Nat.reduceLeDiff, Nat.reduceLT, Int.reduceAdd, Int.reduceSub, Int.reduceMul, Int.reduceNeg, not_true_eq_false, not_false_eq_true]
      have eL : ((W ++ [(x.1, x.2)]).length : Int) = W.length + 1 := by
        rw [List.length_append]
        rfl
      rw [← eL]
      refine ih (W ++ [(x.1, x.2)]) _ ⟨Ef.sA (Ef.sA e1 (Or.inl rfl)) (Or.inr rfl), LPq_a P1 (by decide), by rw [eL]; omega, fun y q => ?_, fun i y q z => ?_, Or.inr ⟨A, x, by rw [eW], eA⟩⟩
      · rcases List.mem_append.mp q with q | q
        · exact wb y q
        · rw [List.mem_singleton.mp q]
          exact xb.1
      · rw [gs_o (by decide), gs_k (by omega) (by omega) (by omega), gs_k (by omega) (by omega) (by omega), gs_o (by decide)]
        exact rest i y (by omega) z
    rcases fo with ⟨rfl, rfl⟩ | ⟨A, a, rfl, fo⟩
    · have c0 := copy [] (by
        show jn L = jn (x :: L.drop (0 + 1 : Int).toNat)
        rw [← dx]
        rfl) rfl
      have y0 : (([] : Spl).length : Int) ≤ 0 := by decide
      rw [k303_1]
      simp +decide (maxSteps := 4000000) (disch := omega) only [k303_0, k303_3, k303_4, k303_r, k303_s, T_I, F_is2i, F_is2r, F_is2m, F_is3i, F_is3r, F_is3m, T_ft, F_il3, F_il1, T_icge, F_il2, J_ifle, F_al0, T_getR, T_sub, X_iald, J_icne, T_dup2, T_add, T_iast, T_goto, F_inc2i, F_inc2r, F_inc2m, F_inc3i, F_inc3r, F_inc3m, T_ret, y0, show ¬ (L.length : Int) ≤ 0 by omega, ↓reduceIte, TK, lt_run hn, le43, Int.le_refl, Int.lt_irrefl, Option.some.injEq, exists_eq_left', true_and, and_true, if_true, if_false, decide_eq_false_iff_not, decide_eq_true_eq, Nat.reduceAdd, Nat.reduceLeDiff, Nat.reduceLT, Int.reduceAdd, Int.reduceSub, Int.reduceMul, Int.reduceNeg, not_true_eq_false, not_false_eq_true]
      exact c0
    · rw [dx] at fo
      have ab := wb a (List.mem_append.mpr (Or.inr (List.mem_singleton.mpr rfl)))
      have ra := LPq_r P1
      have eW : ((A ++ [a]).length : Int) = A.length + 1 := by
        rw [List.length_append]
        rfl
      have e4 : (A.length : Int) + 1 - 1 = A.length := by omega
      rw [eW] at wl
      by_cases g : a.1 = x.1
      · have ra1 := ra.1
        rw [g] at ra1
        have W2 := LPq_w (v := a.2 + x.2) (by decide) P1
        rw [jn_m g] at fo
        have fin := ih (A ++ [(a.1, a.2 + x.2)]) (sA h1 755 A.length (J (a.2 + x.2))) ⟨e1.sA (Or.inr rfl), W2, by rw [List.length_append]; show ((A.length + 1 : Nat) : Int) ≤ r + 1; omega, fun y q => by
          rcases List.mem_append.mp q with q | q
          · exact wb y (List.mem_append.mpr (Or.inl q))
          · rw [List.mem_singleton.mp q]
            exact ab, fun i y q z => by
          rw [gs_o (by decide), gs_k (by omega) (by omega) (by omega)]
          exact rest i y (by omega) z, Or.inr ⟨A, _, rfl, fo⟩⟩
        rw [show ((A ++ [(a.1, a.2 + x.2)]).length : Int) = A.length + 1 by rw [List.length_append]; rfl] at fin
        rw [eW]
        rw [k303_1]
        simp +decide (maxSteps := 4000000) (disch := omega) only [k303_0, k303_3, k303_4, k303_r, k303_s, T_I, F_is2i, F_is2r, F_is2m, F_is3i, F_is3r, F_is3m, T_ft, F_il3, F_il1, T_icge, F_il2, J_ifle, F_al0, T_getR, T_sub, X_iald, J_icne, T_dup2, T_add, T_iast, T_goto, F_inc2i, F_inc2r, F_inc2m, F_inc3i, F_inc3r, F_inc3m, T_ret, FM F, rx, ra1, ra.2, e4, ln_754, ln_755, show ¬ (A.length : Int) + 1 ≤ 0 by omega, show ¬ (L.length : Int) ≤ r by omega, ↓reduceIte, TK, lt_run hn, le43, Int.le_refl, Int.lt_irrefl, Option.some.injEq, exists_eq_left', true_and, and_true, if_true, if_false, decide_eq_false_iff_not, decide_eq_true_eq, Nat.reduceAdd, Nat.reduceLeDiff, Nat.reduceLT, Int.reduceAdd, Int.reduceSub, Int.reduceMul, Int.reduceNeg, not_true_eq_false, not_false_eq_true]
        exact fin
      · rw [jn_n g] at fo
        have c0 := copy (A ++ [a]) (by rw [fo, List.append_assoc]; rfl) rfl
        rw [eW] at c0 ⊢
        rw [k303_1]
        simp +decide (maxSteps := 4000000) (disch := omega) only [k303_0, k303_3, k303_4, k303_r, k303_s, T_I, F_is2i, F_is2r, F_is2m, F_is3i, F_is3r, F_is3m, T_ft, F_il3, F_il1, T_icge, F_il2, J_ifle, F_al0, T_getR, T_sub, X_iald, J_icne, T_dup2, T_add, T_iast, T_goto, F_inc2i, F_inc2r, F_inc2m, F_inc3i, F_inc3r, F_inc3m, T_ret, FM F, rx, ra, e4, g, ln_754, ln_755, show ¬ (A.length : Int) + 1 ≤ 0 by omega, show ¬ (L.length : Int) ≤ r by omega, ↓reduceIte, TK, lt_run hn, le43, Int.le_refl, Int.lt_irrefl, Option.some.injEq, exists_eq_left', true_and, and_true, if_true, if_false, decide_eq_false_iff_not, decide_eq_true_eq, Nat.reduceAdd, Nat.reduceLeDiff, Nat.reduceLT, Int.reduceAdd, Int.reduceSub, Int.reduceMul, Int.reduceNeg, not_true_eq_false, not_false_eq_true]
        exact c0
  · rintro W h1 ⟨e1, P1, wl, wb, rest, fo⟩
    have eR : W = jn L := by
      rcases fo with ⟨rfl, z⟩ | ⟨A, a, rfl, fo⟩
      · have eL : L = [] := List.length_eq_zero_iff.mp (by omega)
        rw [eL]
        rfl
      · rw [fo, List.drop_eq_nil_of_le (by omega)]
        rfl
    rw [← eR] at k
    rw [k303_1]
    simp +decide (maxSteps := 4000000) (disch := omega) only [k303_0, k303_2, k303_3, k303_4, k303_r, k303_s, T_I, F_is2i, F_is2r, F_is2m, F_is3i, F_is3r, F_is3m, T_ft, F_il3, F_il1, T_icge, F_il2, J_ifle, F_al0, T_getR, T_sub, X_iald, J_icne, T_dup2, T_add, T_iast, T_goto, F_inc2i, F_inc2r, F_inc2m, F_inc3i, F_inc3r, F_inc3m, T_ret, ↓reduceIte, TK, lt_run hn, le43, Int.le_refl, Int.lt_irrefl, Option.some.injEq, exists_eq_left', true_and, and_true, if_true, if_false, decide_eq_false_iff_not, decide_eq_true_eq, Nat.reduceAdd, Nat.reduceLeDiff, Nat.reduceLT, Int.reduceAdd, Int.reduceSub, Int.reduceMul, Int.reduceNeg, not_true_eq_false, not_false_eq_true]
    exact k h1 P1 e1
theorem w304 (F : FH hr) (hn : 775 ≤ n) {L : Spl} {s : Int} (P : LPq h 754 755 L) (G : Lg L s) (k1 : (fsp L).2 = [] → Q (some (.int (J (-1))), h, hr, n)) (k2 : (fsp L).2 ≠ [] → Q (some (.int (J (fsp L).1.length)), h, hr, n)) : Sp E 304 [.ref 704, .int (J L.length)] h hr n Q := by
  have lg := Lg_len G
  simp +decide (maxSteps := 4000000) (disch := omega) only [k304_0, k304_2, k304_3, k304_4, k304_r, k304_s, T_I, F_is2i, F_is2r, F_is2m, F_il1, T_sub, F_is3i, F_is3r, F_is3m, T_ft, F_il3, J_iflt, F_al0, T_getR, X_iald, J_icne, T_goto, F_il2, F_inc3i, F_inc3r, F_inc3m, T_ret, ↓reduceIte, TK, lt_run hn, le43, Int.le_refl, Int.lt_irrefl, Option.some.injEq, exists_eq_left', true_and, and_true, if_true, if_false, decide_eq_false_iff_not, decide_eq_true_eq, Nat.reduceAdd, Nat.reduceLeDiff, Nat.reduceLT, Int.reduceAdd, Int.reduceSub, Int.reduceMul, Int.reduceNeg, not_true_eq_false, not_false_eq_true]
  refine T_wh (σ := Int × Int) (fun σ => [.ref 704, .int (J L.length), .int (J σ.2), .int (J σ.1)]) (fun σ h' => h' = h ∧ (-1 ≤ σ.1 ∧ σ.1 < L.length) ∧ ((σ.2 = -1 ∧ ∀ (j : Nat) y, σ.1 < j → L[j]? = some y → y.2 ≠ 1) ∨ ∃ (j0 : Nat) (x : Int × Int), σ.2 = j0 ∧ σ.1 < j0 ∧ L[j0]? = some x ∧ x.2 = 1 ∧ ∀ (j : Nat) y, σ.1 < j → j < j0 → L[j]? = some y → y.2 ≠ 1)) (fun σ _ => (σ.1 + 1).toNat) ?_ ((L.length : Int) - 1, -1) h ⟨rfl, by dsimp only; omega, Or.inl ⟨rfl, fun j y q z => by have := some_lt z; dsimp only at q; omega⟩⟩
  rintro ⟨i, res⟩ _ ⟨rfl, ⟨i0, i1⟩, fo⟩ ih
  dsimp only at i0 i1 fo ih ⊢
  have rl : -1 ≤ res ∧ res ≤ 120 := by
    rcases fo with ⟨z, _⟩ | ⟨j0, x, z, _, z2, _⟩
    · omega
    · have := some_lt z2
      omega
  by_cases g : i = -1
  · subst g
    rcases fo with ⟨rfl, fo⟩ | ⟨j0, x, rfl, _, z2, z3, z4⟩
    · rw [k304_1]
      simp +decide (maxSteps := 4000000) (disch := omega) only [k304_0, k304_2, k304_3, k304_4, k304_r, k304_s, T_I, F_is2i, F_is2r, F_is2m, F_il1, T_sub, F_is3i, F_is3r, F_is3m, T_ft, F_il3, J_iflt, F_al0, T_getR, X_iald, J_icne, T_goto, F_il2, F_inc3i, F_inc3r, F_inc3m, T_ret, ↓reduceIte, TK, lt_run hn, le43, Int.le_refl, Int.lt_irrefl, Option.some.injEq, exists_eq_left', true_and, and_true, if_true, if_false, decide_eq_false_iff_not, decide_eq_true_eq, Nat.reduceAdd, Nat.reduceLeDiff, Nat.reduceLT, Int.reduceAdd, Int.reduceSub, Int.reduceMul, Int.reduceNeg, not_true_eq_false, not_false_eq_true]
      exact k1 (fsp_n L (fun j y q => fo j y (by omega) q))
    · obtain ⟨u1, S, u2⟩ := fsp_u L j0 x z2 z3 (fun j y q z => z4 j y (by omega) q z)
      have fin := k2 (by rw [u2]; simp only [ne_eq, reduceCtorEq, not_false_eq_true])
      rw [u1] at fin
      rw [k304_1]
      simp +decide (maxSteps := 4000000) (disch := omega) only [k304_0, k304_2, k304_3, k304_4, k304_r, k304_s, T_I, F_is2i, F_is2r, F_is2m, F_il1, T_sub, F_is3i, F_is3r, F_is3m, T_ft, F_il3, J_iflt, F_al0, T_getR, X_iald, J_icne, T_goto, F_il2, F_inc3i, F_inc3r, F_inc3m, T_ret, ↓reduceIte, TK, lt_run hn, le43, Int.le_refl, Int.lt_irrefl, Option.some.injEq, exists_eq_left', true_and, and_true, if_true, if_false, decide_eq_false_iff_not, decide_eq_true_eq, Nat.reduceAdd, Nat.reduceLeDiff, Nat.reduceLT, Int.reduceAdd, Int.reduceSub, Int.reduceMul, Int.reduceNeg, not_true_eq_false, not_false_eq_true]
      exact fin
  obtain ⟨x, hx, hm⟩ := el L (i := i) (by omega) i1
  have r := (LPq_i P (by omega) hx).2
  have xb := Lg_e G hm
  have e7 : i + -1 = i - 1 := by omega
  by_cases g2 : x.2 = 1
  · rw [g2] at r
    rw [k304_1]
    simp +decide (maxSteps := 4000000) (disch := omega) only [k304_0, k304_2, k304_3, k304_4, k304_r, k304_s, T_I, F_is2i, F_is2r, F_is2m, F_il1, T_sub, F_is3i, F_is3r, F_is3m, T_ft, F_il3, J_iflt, F_al0, T_getR, X_iald, J_icne, T_goto, F_il2, F_inc3i, F_inc3r, F_inc3m, T_ret, FM F, r, e7, ln_755, show ¬ i < 0 by omega, ↓reduceIte, TK, lt_run hn, le43, Int.le_refl, Int.lt_irrefl, Option.some.injEq, exists_eq_left', true_and, and_true, if_true, if_false, decide_eq_false_iff_not, decide_eq_true_eq, Nat.reduceAdd, Nat.reduceLeDiff, Nat.reduceLT, Int.reduceAdd, Int.reduceSub, Int.reduceMul, Int.reduceNeg, not_true_eq_false, not_false_eq_true]
    refine ih (i - 1, i) _ ⟨rfl, by dsimp only; omega, Or.inr ⟨i.toNat, x, by dsimp only; omega, by dsimp only; omega, hx, g2, fun j y q q2 z => by dsimp only at q; omega⟩⟩ (by dsimp only; omega)
  · rw [k304_1]
    simp +decide (maxSteps := 4000000) (disch := omega) only [k304_0, k304_2, k304_3, k304_4, k304_r, k304_s, T_I, F_is2i, F_is2r, F_is2m, F_il1, T_sub, F_is3i, F_is3r, F_is3m, T_ft, F_il3, J_iflt, F_al0, T_getR, X_iald, J_icne, T_goto, F_il2, F_inc3i, F_inc3r, F_inc3m, T_ret, FM F, r, e7, g2, ln_755, show ¬ i < 0 by omega, ↓reduceIte, TK, lt_run hn, le43, Int.le_refl, Int.lt_irrefl, Option.some.injEq, exists_eq_left', true_and, and_true, if_true, if_false, decide_eq_false_iff_not, decide_eq_true_eq, Nat.reduceAdd, Nat.reduceLeDiff, Nat.reduceLT, Int.reduceAdd, Int.reduceSub, Int.reduceMul, Int.reduceNeg, not_true_eq_false, not_false_eq_true]
    refine ih (i - 1, res) _ ⟨rfl, by dsimp only; omega, ?_⟩ (by dsimp only; omega)
    have here : ∀ (j : Nat) y, i - 1 < j → L[j]? = some y → (i < j) ∨ y.2 ≠ 1 := fun j y q z => by
      rcases (show i < j ∨ j = i.toNat by omega) with q | q
      · exact Or.inl q
      · subst q
        rw [hx] at z
        rw [← Option.some.inj z]
        exact Or.inr g2
    rcases fo with ⟨z, fo⟩ | ⟨j0, x', z, z1, z2, z3, z4⟩
    · exact Or.inl ⟨z, fun j y q w => (here j y q w).elim (fun q => fo j y q w) id⟩
    · exact Or.inr ⟨j0, x', z, by dsimp only; omega, z2, z3, fun j y q q2 w => (here j y q w).elim (fun q => z4 j y q q2 w) id⟩
end SO
