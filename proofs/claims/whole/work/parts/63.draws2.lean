/-! INK of the reference: a whole drawing -/
section DS
variable {E : AEn} {h h' : AHi} {hr : AHr} {n : Nat} {Q : ARs → Prop} {f : Int → Int} {l fr : Int} {off : Int → Int → Int → Int}
def Sdl (a k : Nat) : Prop := a = 726 ∨ (a = 704 ∧ (k = 16 ∨ k = 17))
theorem z251b (F : FH hr) (hn : 775 ≤ n) {d i k0 : Int} {A : Stk} (hi : 0 ≤ i ∧ i < 8) (hk : 0 ≤ k0 ∧ k0 < 128) (R : SR A) (c0 : gA h 709 k0 = J A.1 ∧ gA h 710 k0 = J A.2.1) (c : ∀ j, 0 ≤ j → j < A.2.1 → gA h 724 (10 * i + j) = J (A.2.2.1 j) ∧ gA h 725 (10 * i + j) = J (A.2.2.2 j)) (P : PA h 726 f) (v7 v8 v9 : Value)
    (k : ∀ h' v6 v7 v8 v9, PA h' 726 (inkS f A (A.2.1 - 1).toNat) → Ef Sdl h h' → Tm E 251 (a_bl 251 10) [.ref 704, .int (J d), .int (J l), .int (J fr), .int (J i), .int (J k0), v6, v7, v8, v9] [] h' hr n Q) :
    Tm E 251 (a_bl 251 7) [.ref 704, .int (J d), .int (J l), .int (J fr), .int (J i), .int (J k0), .int (J (10 * i)), v7, v8, v9] [] h hr n Q := by
  have r2 := R.2.1
  refine T_for (σ := Value × Value × Value) (fun q v => [.ref 704, .int (J d), .int (J l), .int (J fr), .int (J i), .int (J k0), .int (J q), v.1, v.2.1, v.2.2]) (fun q v h' => Ef Sdl h h' ∧ PA h' 726 (inkS f A (q - 10 * i).toNat)) (10 * i) (10 * i + A.2.1 - 1) ?_ ?_ (10 * i) (v7, v8, v9) h (by omega) (by omega) ⟨Ef.refl, by rw [show 10 * i - 10 * i = 0 by omega]; exact P⟩
  · rintro q ⟨v7, v8, v9⟩ h4 q0 q1 ⟨e4, P4⟩ ih
    dsimp only
    have g0 : gA h4 709 k0 = J A.1 ∧ gA h4 710 k0 = J A.2.1 := by
      rw [e4.g (by unfold Sdl; omega), e4.g (by unfold Sdl; omega)]
      exact c0
    have g1 : gA h4 724 q = J (A.2.2.1 (q - 10 * i)) ∧ gA h4 725 q = J (A.2.2.2 (q - 10 * i)) := by
      have := c (q - 10 * i) (by omega) (by omega)
      rw [show 10 * i + (q - 10 * i) = q by omega] at this
      rw [e4.g (by unfold Sdl; omega), e4.g (by unfold Sdl; omega)]
      exact this
    have g2 : gA h4 724 (q + 1) = J (A.2.2.1 (q - 10 * i + 1)) ∧ gA h4 725 (q + 1) = J (A.2.2.2 (q - 10 * i + 1)) := by
      have := c (q - 10 * i + 1) (by omega) (by omega)
      rw [show 10 * i + (q - 10 * i + 1) = q + 1 by omega] at this
      rw [e4.g (by unfold Sdl; omega), e4.g (by unfold Sdl; omega)]
      exact this
    have b1 := R.2.2 (q - 10 * i)
    have b2 := R.2.2 (q - 10 * i + 1)
    have is := inkS_s (f := f) (s := A) (k := q - 10 * i) (by omega)
    have g01 := g0.2
    rw [k251_7]
    simp +decide (maxSteps := 4000000) (disch := omega) only [k251_0, k251_2, k251_5, k251_6, k251_9, k251_10, k251_11, k251_r, k251_s, T_I, F_is4i, F_is4r, F_is4m, T_ft, F_il4, T_icge, F_al0, T_getR, T_iast, F_inc4i, F_inc4r, F_inc4m, T_goto, F_il1, X_iald, T_mul, T_add, F_is5i, F_is5r, F_is5m, F_is6i, F_is6r, F_is6m, F_il6, F_il5, F_is7i, F_is7r, F_is7m, F_is8i, F_is8r, F_is8m, F_il2, J_iflt, J_ifle, F_is9i, F_is9r, F_is9m, F_il3, T_div, T_ushr, F_il9, T_rem, T_sub, F_il7, F_il8, F_inc6i, F_inc6r, F_inc6m, T_icgt, T_getI, F_inc8i, F_inc8r, F_inc8m, T_ret, c239, c242, c252, c253, ↓s239, ↓s242, ↓s252, ↓s253, FM F, ln_710, ln_724, ln_725, g01, g1, g2, show ¬ 10 * i + A.2.1 - 1 ≤ q by omega, TK, lt_run hn, le43, Int.le_refl, Int.lt_irrefl, Option.some.injEq, exists_eq_left', true_and, and_true, if_true, if_false, decide_eq_false_iff_not, decide_eq_true_eq, Nat.reduceAdd, Nat.reduceLeDiff, Nat.reduceLT, Int.reduceAdd, Int.reduceSub, Int.reduceMul, Int.reduceNeg, not_true_eq_false, not_false_eq_true]
    refine z251l F hn hi hk (by omega) b1 b2 g0.1 g1 g2 P4 _ (fun h5 v8 P5 e5 => ?_)
    simp +decide (maxSteps := 4000000) (disch := omega) only [k251_0, k251_2, k251_5, k251_6, k251_9, k251_10, k251_11, k251_r, k251_s, T_I, F_is4i, F_is4r, F_is4m, T_ft, F_il4, T_icge, F_al0, T_getR, T_iast, F_inc4i, F_inc4r, F_inc4m, T_goto, F_il1, X_iald, T_mul, T_add, F_is5i, F_is5r, F_is5m, F_is6i, F_is6r, F_is6m, F_il6, F_il5, F_is7i, F_is7r, F_is7m, F_is8i, F_is8r, F_is8m, F_il2, J_iflt, J_ifle, F_is9i, F_is9r, F_is9m, F_il3, T_div, T_ushr, F_il9, T_rem, T_sub, F_il7, F_il8, F_inc6i, F_inc6r, F_inc6m, T_icgt, T_getI, F_inc8i, F_inc8r, F_inc8m, T_ret, c239, c242, c252, c253, ↓s239, ↓s242, ↓s252, ↓s253, TK, lt_run hn, le43, Int.le_refl, Int.lt_irrefl, Option.some.injEq, exists_eq_left', true_and, and_true, if_true, if_false, decide_eq_false_iff_not, decide_eq_true_eq, Nat.reduceAdd, Nat.reduceLeDiff, Nat.reduceLT, Int.reduceAdd, Int.reduceSub, Int.reduceMul, Int.reduceNeg, not_true_eq_false, not_false_eq_true]
    refine ih (_, _, _) _ ⟨e4.trans (e5.mono fun a k q => q), ?_⟩
    rw [show q + 1 - 10 * i = q - 10 * i + 1 by omega, is]
    exact P5
  · rintro ⟨v7, v8, v9⟩ h4 ⟨e4, P4⟩
    dsimp only
    have g0 : gA h4 710 k0 = J A.2.1 := by
      rw [e4.g (by unfold Sdl; omega)]
      exact c0.2
    rw [show 10 * i + A.2.1 - 1 - 10 * i = A.2.1 - 1 by omega] at P4
    rw [k251_7]
    simp +decide (maxSteps := 4000000) (disch := omega) only [k251_0, k251_2, k251_5, k251_6, k251_9, k251_11, k251_r, k251_s, T_I, F_is4i, F_is4r, F_is4m, T_ft, F_il4, T_icge, F_al0, T_getR, T_iast, F_inc4i, F_inc4r, F_inc4m, T_goto, F_il1, X_iald, T_mul, T_add, F_is5i, F_is5r, F_is5m, F_is6i, F_is6r, F_is6m, F_il6, F_il5, F_is7i, F_is7r, F_is7m, F_is8i, F_is8r, F_is8m, F_il2, J_iflt, J_ifle, F_is9i, F_is9r, F_is9m, F_il3, T_div, T_ushr, F_il9, T_rem, T_sub, F_il7, F_il8, F_inc6i, F_inc6r, F_inc6m, T_icgt, T_getI, F_inc8i, F_inc8r, F_inc8m, T_ret, c239, c242, c252, c253, ↓s239, ↓s242, ↓s252, ↓s253, FM F, ln_710, g0, TK, lt_run hn, le43, Int.le_refl, Int.lt_irrefl, Option.some.injEq, exists_eq_left', true_and, and_true, if_true, if_false, decide_eq_false_iff_not, decide_eq_true_eq, Nat.reduceAdd, Nat.reduceLeDiff, Nat.reduceLT, Int.reduceAdd, Int.reduceSub, Int.reduceMul, Int.reduceNeg, not_true_eq_false, not_false_eq_true]
    exact k h4 _ _ _ _ P4 e4
/-- the points as they were drawn -/
def WX (h : AHi) (m : Int) (D : Drw) : Prop := ∀ i, 0 ≤ i → i < m → ∀ j, 0 ≤ j → j < (D.2 i).2.1 → gA h 724 (10 * i + j) = J ((D.2 i).2.2.1 j) ∧ gA h 725 (10 * i + j) = J ((D.2 i).2.2.2 j)
theorem DM.ef {S : Nat → Nat → Prop} {d : Int} {D : Drw} (M : DM h d D) (R : DRr D) (hd : 0 ≤ d) (e : Ef S h h') (hs : ∀ a k, 708 ≤ a → a ≤ 712 → ¬ S a k) : DM h' d D := by
  have r1 := R.1
  refine ⟨?_, fun s s0 s1 => ?_⟩
  · rw [e.g (hs _ _ (by decide) (by decide))]
    exact M.1
  · exact (M.2 s s0 s1).ef (by omega) (R.2 s).2.1.2 e (hs _ _ (by decide) (by decide)) (hs _ _ (by decide) (by decide)) (fun i _ _ => ⟨hs _ _ (by decide) (by decide), hs _ _ (by decide) (by decide)⟩)
theorem w251 (F : FH hr) (hn : 775 ≤ n) {d : Int} {D : Drw} (hd : 0 ≤ d ∧ d < 16) (R : DRr D) (W : Wof h l fr off) (M : DM h d D)
    (k : ∀ h', PA h' 726 (inkD (wgD D off) D.1.toNat) → WX h' D.1 (wgD D off) → Ef Sdr h h' → Q (none, h', hr, n)) : Sp E 251 [.ref 704, .int (J d), .int (J l), .int (J fr)] h hr n Q := by
  have r1 := R.1
  simp +decide (maxSteps := 4000000) (disch := omega) only [k251_0, k251_2, k251_5, k251_6, k251_9, k251_10, k251_11, k251_r, k251_s, T_I, F_is4i, F_is4r, F_is4m, T_ft, F_il4, T_icge, F_al0, T_getR, T_iast, F_inc4i, F_inc4r, F_inc4m, T_goto, F_il1, X_iald, T_mul, T_add, F_is5i, F_is5r, F_is5m, F_is6i, F_is6r, F_is6m, F_il6, F_il5, F_is7i, F_is7r, F_is7m, F_is8i, F_is8r, F_is8m, F_il2, J_iflt, J_ifle, F_is9i, F_is9r, F_is9m, F_il3, T_div, T_ushr, F_il9, T_rem, T_sub, F_il7, F_il8, F_inc6i, F_inc6r, F_inc6m, T_icgt, T_getI, F_inc8i, F_inc8r, F_inc8m, T_ret, c239, c242, c252, c253, ↓s239, ↓s242, ↓s252, ↓s253, FM F, TK, lt_run hn, le43, Int.le_refl, Int.lt_irrefl, Option.some.injEq, exists_eq_left', true_and, and_true, if_true, if_false, decide_eq_false_iff_not, decide_eq_true_eq, Nat.reduceAdd, Nat.reduceLeDiff, Nat.reduceLT, Int.reduceAdd, Int.reduceSub, Int.reduceMul, Int.reduceNeg, not_true_eq_false, not_false_eq_true]
  refine T_for (σ := Unit) (fun q _ => [.ref 704, .int (J d), .int (J l), .int (J fr), .int (J q), a_mk, a_mk, a_mk, a_mk, a_mk]) (fun q _ h' => Ef (fun a _ => a = 726) h h' ∧ ∀ p, 0 ≤ p → p < q → gA h' 726 p = J 0) 0 1536 ?_ ?_ 0 () h (by omega) (by omega) ⟨Ef.refl, fun p _ _ => by omega⟩
  · rintro q _ h1 q0 q1 ⟨e1, c1⟩ ih
    rw [k251_1]
    simp +decide (maxSteps := 4000000) (disch := omega) only [k251_0, k251_2, k251_5, k251_6, k251_9, k251_10, k251_11, k251_r, k251_s, T_I, F_is4i, F_is4r, F_is4m, T_ft, F_il4, T_icge, F_al0, T_getR, T_iast, F_inc4i, F_inc4r, F_inc4m, T_goto, F_il1, X_iald, T_mul, T_add, F_is5i, F_is5r, F_is5m, F_is6i, F_is6r, F_is6m, F_il6, F_il5, F_is7i, F_is7r, F_is7m, F_is8i, F_is8r, F_is8m, F_il2, J_iflt, J_ifle, F_is9i, F_is9r, F_is9m, F_il3, T_div, T_ushr, F_il9, T_rem, T_sub, F_il7, F_il8, F_inc6i, F_inc6r, F_inc6m, T_icgt, T_getI, F_inc8i, F_inc8r, F_inc8m, T_ret, c239, c242, c252, c253, ↓s239, ↓s242, ↓s252, ↓s253, FM F, ln_726, show ¬ 1536 ≤ q by omega, TK, lt_run hn, le43, Int.le_refl, Int.lt_irrefl, Option.some.injEq, exists_eq_left', true_and, and_true, if_true, if_false, decide_eq_false_iff_not, decide_eq_true_eq, Nat.reduceAdd, Nat.reduceLeDiff, Nat.reduceLT, Int.reduceAdd, Int.reduceSub, Int.reduceMul, Int.reduceNeg, not_true_eq_false, not_false_eq_true]
    refine ih () _ ⟨e1.sA rfl, fun p p0 p1 => ?_⟩
    by_cases e : p = q
    · rw [e, gs_s]
    · rw [gs_k q0 p0 e]
      exact c1 p p0 (by omega)
  rintro _ h1 ⟨e1, c1⟩
  rw [k251_1]
  simp +decide (maxSteps := 4000000) (disch := omega) only [k251_0, k251_2, k251_5, k251_6, k251_9, k251_10, k251_11, k251_r, k251_s, T_I, F_is4i, F_is4r, F_is4m, T_ft, F_il4, T_icge, F_al0, T_getR, T_iast, F_inc4i, F_inc4r, F_inc4m, T_goto, F_il1, X_iald, T_mul, T_add, F_is5i, F_is5r, F_is5m, F_is6i, F_is6r, F_is6m, F_il6, F_il5, F_is7i, F_is7r, F_is7m, F_is8i, F_is8r, F_is8m, F_il2, J_iflt, J_ifle, F_is9i, F_is9r, F_is9m, F_il3, T_div, T_ushr, F_il9, T_rem, T_sub, F_il7, F_il8, F_inc6i, F_inc6r, F_inc6m, T_icgt, T_getI, F_inc8i, F_inc8r, F_inc8m, T_ret, c239, c242, c252, c253, ↓s239, ↓s242, ↓s252, ↓s253, FM F, TK, lt_run hn, le43, Int.le_refl, Int.lt_irrefl, Option.some.injEq, exists_eq_left', true_and, and_true, if_true, if_false, decide_eq_false_iff_not, decide_eq_true_eq, Nat.reduceAdd, Nat.reduceLeDiff, Nat.reduceLT, Int.reduceAdd, Int.reduceSub, Int.reduceMul, Int.reduceNeg, not_true_eq_false, not_false_eq_true]
  have P1 : PA h1 726 (inkD (wgD D off) 0) := fun q q0 q1 => c1 q q0 q1
  refine T_for (σ := Value × Value × Value × Value × Value) (fun i v => [.ref 704, .int (J d), .int (J l), .int (J fr), .int (J i), v.1, v.2.1, v.2.2.1, v.2.2.2.1, v.2.2.2.2]) (fun i v h' => Ef Sdr h h' ∧ PA h' 726 (inkD (wgD D off) i.toNat) ∧ WX h' i (wgD D off)) 0 D.1 ?_ ?_ 0 (a_mk, a_mk, a_mk, a_mk, a_mk) h1 (by omega) (by omega) ⟨e1.mono fun a k q => Or.inl (by omega), P1, fun i _ _ => by omega⟩
  · rintro i ⟨v5, v6, v7, v8, v9⟩ h2 i0 i1 ⟨e2, P2, X2⟩ ih
    dsimp only
    have M2 := M.ef R hd.1 e2 (fun a k _ _ q => by unfold Sdr at q; omega)
    have m1 := M2.1
    have S2 := M2.2 i i0 i1
    have W2 := W.ef e2 (fun a k q q' => by unfold Sdr at q'; omega)
    have is := (inkD_s (D := wgD D off) i0).1
    rw [k251_3]
    simp +decide (maxSteps := 4000000) (disch := omega) only [k251_0, k251_2, k251_5, k251_6, k251_9, k251_10, k251_11, k251_r, k251_s, T_I, F_is4i, F_is4r, F_is4m, T_ft, F_il4, T_icge, F_al0, T_getR, T_iast, F_inc4i, F_inc4r, F_inc4m, T_goto, F_il1, X_iald, T_mul, T_add, F_is5i, F_is5r, F_is5m, F_is6i, F_is6r, F_is6m, F_il6, F_il5, F_is7i, F_is7r, F_is7m, F_is8i, F_is8r, F_is8m, F_il2, J_iflt, J_ifle, F_is9i, F_is9r, F_is9m, F_il3, T_div, T_ushr, F_il9, T_rem, T_sub, F_il7, F_il8, F_inc6i, F_inc6r, F_inc6m, T_icgt, T_getI, F_inc8i, F_inc8r, F_inc8m, T_ret, c239, c242, c252, c253, ↓s239, ↓s242, ↓s252, ↓s253, FM F, ln_708, m1, show ¬ D.1 ≤ i by omega, TK, lt_run hn, le43, Int.le_refl, Int.lt_irrefl, Option.some.injEq, exists_eq_left', true_and, and_true, if_true, if_false, decide_eq_false_iff_not, decide_eq_true_eq, Nat.reduceAdd, Nat.reduceLeDiff, Nat.reduceLT, Int.reduceAdd, Int.reduceSub, Int.reduceMul, Int.reduceNeg, not_true_eq_false, not_false_eq_true]
    refine z251a F hn (by omega) (by omega) (R.2 i) W2 S2 _ _ _ (fun h3 v7 v8 v9 e3 c3 => ?_)
    simp +decide (maxSteps := 4000000) (disch := omega) only [k251_0, k251_2, k251_5, k251_6, k251_9, k251_10, k251_11, k251_r, k251_s, T_I, F_is4i, F_is4r, F_is4m, T_ft, F_il4, T_icge, F_al0, T_getR, T_iast, F_inc4i, F_inc4r, F_inc4m, T_goto, F_il1, X_iald, T_mul, T_add, F_is5i, F_is5r, F_is5m, F_is6i, F_is6r, F_is6m, F_il6, F_il5, F_is7i, F_is7r, F_is7m, F_is8i, F_is8r, F_is8m, F_il2, J_iflt, J_ifle, F_is9i, F_is9r, F_is9m, F_il3, T_div, T_ushr, F_il9, T_rem, T_sub, F_il7, F_il8, F_inc6i, F_inc6r, F_inc6m, T_icgt, T_getI, F_inc8i, F_inc8r, F_inc8m, T_ret, c239, c242, c252, c253, ↓s239, ↓s242, ↓s252, ↓s253, FM F, TK, lt_run hn, le43, Int.le_refl, Int.lt_irrefl, Option.some.injEq, exists_eq_left', true_and, and_true, if_true, if_false, decide_eq_false_iff_not, decide_eq_true_eq, Nat.reduceAdd, Nat.reduceLeDiff, Nat.reduceLT, Int.reduceAdd, Int.reduceSub, Int.reduceMul, Int.reduceNeg, not_true_eq_false, not_false_eq_true]
    have S3 := S2.ef (by omega) (R.2 i).2.1.2 e3 (fun q => by omega) (fun q => by omega) (fun i _ _ => ⟨fun q => by omega, fun q => by omega⟩)
    refine z251b F hn (A := (wgD D off).2 i) (by omega) (by omega) ((wgD_r R off).2 i) S3.1 c3 (P2.ef e3 (fun k q => by omega)) _ _ _ (fun h4 v6 v7 v8 v9 P4 e4 => ?_)
    simp +decide (maxSteps := 4000000) (disch := omega) only [k251_0, k251_2, k251_5, k251_6, k251_9, k251_10, k251_11, k251_r, k251_s, T_I, F_is4i, F_is4r, F_is4m, T_ft, F_il4, T_icge, F_al0, T_getR, T_iast, F_inc4i, F_inc4r, F_inc4m, T_goto, F_il1, X_iald, T_mul, T_add, F_is5i, F_is5r, F_is5m, F_is6i, F_is6r, F_is6m, F_il6, F_il5, F_is7i, F_is7r, F_is7m, F_is8i, F_is8r, F_is8m, F_il2, J_iflt, J_ifle, F_is9i, F_is9r, F_is9m, F_il3, T_div, T_ushr, F_il9, T_rem, T_sub, F_il7, F_il8, F_inc6i, F_inc6r, F_inc6m, T_icgt, T_getI, F_inc8i, F_inc8r, F_inc8m, T_ret, c239, c242, c252, c253, ↓s239, ↓s242, ↓s252, ↓s253, TK, lt_run hn, le43, Int.le_refl, Int.lt_irrefl, Option.some.injEq, exists_eq_left', true_and, and_true, if_true, if_false, decide_eq_false_iff_not, decide_eq_true_eq, Nat.reduceAdd, Nat.reduceLeDiff, Nat.reduceLT, Int.reduceAdd, Int.reduceSub, Int.reduceMul, Int.reduceNeg, not_true_eq_false, not_false_eq_true]
    refine ih (_, _, _, _, _) h4 ⟨(e2.trans (e3.mono fun a k q => Or.inl (by omega))).trans (e4.mono fun a k q => ?_), ?_, fun x x0 x1 j j0 j1 => ?_⟩
    · unfold Sdl at q
      unfold Sdr
      omega
    · rw [is]
      exact P4
    · rw [e4.g (by unfold Sdl; omega), e4.g (by unfold Sdl; omega)]
      by_cases g : x = i
      · subst g
        exact c3 j j0 j1
      · have j2 : j < 10 := by
          have h1 : ((wgD D off).2 x).2.1 = (D.2 x).2.1 := rfl
          have h2 := (R.2 x).2.1.2
          omega
        rw [e3.g (by omega), e3.g (by omega)]
        exact X2 x x0 (by omega) j j0 j1
  · rintro ⟨v5, v6, v7, v8, v9⟩ h2 ⟨e2, P2, X2⟩
    dsimp only
    have m1 := (M.ef R hd.1 e2 (fun a k _ _ q => by unfold Sdr at q; omega)).1
    rw [k251_3]
    simp +decide (maxSteps := 4000000) (disch := omega) only [k251_0, k251_2, k251_5, k251_6, k251_9, k251_10, k251_11, k251_r, k251_s, T_I, F_is4i, F_is4r, F_is4m, T_ft, F_il4, T_icge, F_al0, T_getR, T_iast, F_inc4i, F_inc4r, F_inc4m, T_goto, F_il1, X_iald, T_mul, T_add, F_is5i, F_is5r, F_is5m, F_is6i, F_is6r, F_is6m, F_il6, F_il5, F_is7i, F_is7r, F_is7m, F_is8i, F_is8r, F_is8m, F_il2, J_iflt, J_ifle, F_is9i, F_is9r, F_is9m, F_il3, T_div, T_ushr, F_il9, T_rem, T_sub, F_il7, F_il8, F_inc6i, F_inc6r, F_inc6m, T_icgt, T_getI, F_inc8i, F_inc8r, F_inc8m, T_ret, c239, c242, c252, c253, ↓s239, ↓s242, ↓s252, ↓s253, FM F, ln_708, m1, TK, lt_run hn, le43, Int.le_refl, Int.lt_irrefl, Option.some.injEq, exists_eq_left', true_and, and_true, if_true, if_false, decide_eq_false_iff_not, decide_eq_true_eq, Nat.reduceAdd, Nat.reduceLeDiff, Nat.reduceLT, Int.reduceAdd, Int.reduceSub, Int.reduceMul, Int.reduceNeg, not_true_eq_false, not_false_eq_true]
    exact k h2 P2 X2 e2
end DS
